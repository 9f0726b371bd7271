theorem na_0 : rb_na 0 = 1 := by decide +kernel
theorem ml_0 : rb_ml 0 = 1 := by decide +kernel
theorem al_0 : rb_al 0 = true := by decide +kernel
theorem rt_0 : rb_rt 0 = none := by decide +kernel
theorem na_1 : rb_na 1 = 1 := by decide +kernel
theorem ml_1 : rb_ml 1 = 1 := by decide +kernel
theorem al_1 : rb_al 1 = true := by decide +kernel
theorem rt_1 : rb_rt 1 = none := by decide +kernel
theorem na_2 : rb_na 2 = 2 := by decide +kernel
theorem ml_2 : rb_ml 2 = 2 := by decide +kernel
theorem al_2 : rb_al 2 = true := by decide +kernel
theorem rt_2 : rb_rt 2 = none := by decide +kernel
theorem na_3 : rb_na 3 = 3 := by decide +kernel
theorem ml_3 : rb_ml 3 = 3 := by decide +kernel
theorem al_3 : rb_al 3 = false := by decide +kernel
theorem rt_3 : rb_rt 3 = none := by decide +kernel
theorem na_4 : rb_na 4 = 1 := by decide +kernel
theorem ml_4 : rb_ml 4 = 2 := by decide +kernel
theorem al_4 : rb_al 4 = true := by decide +kernel
theorem rt_4 : rb_rt 4 = none := by decide +kernel
theorem na_5 : rb_na 5 = 1 := by decide +kernel
theorem ml_5 : rb_ml 5 = 1 := by decide +kernel
theorem al_5 : rb_al 5 = true := by decide +kernel
theorem rt_5 : rb_rt 5 = none := by decide +kernel
theorem na_6 : rb_na 6 = 3 := by decide +kernel
theorem ml_6 : rb_ml 6 = 3 := by decide +kernel
theorem al_6 : rb_al 6 = false := by decide +kernel
theorem rt_6 : rb_rt 6 = none := by decide +kernel
theorem na_7 : rb_na 7 = 2 := by decide +kernel
theorem ml_7 : rb_ml 7 = 3 := by decide +kernel
theorem al_7 : rb_al 7 = false := by decide +kernel
theorem rt_7 : rb_rt 7 = none := by decide +kernel
theorem na_8 : rb_na 8 = 1 := by decide +kernel
theorem ml_8 : rb_ml 8 = 1 := by decide +kernel
theorem al_8 : rb_al 8 = false := by decide +kernel
theorem rt_8 : rb_rt 8 = none := by decide +kernel
theorem na_9 : rb_na 9 = 2 := by decide +kernel
theorem ml_9 : rb_ml 9 = 2 := by decide +kernel
theorem al_9 : rb_al 9 = false := by decide +kernel
theorem rt_9 : rb_rt 9 = none := by decide +kernel
theorem na_10 : rb_na 10 = 2 := by decide +kernel
theorem ml_10 : rb_ml 10 = 2 := by decide +kernel
theorem al_10 : rb_al 10 = false := by decide +kernel
theorem rt_10 : rb_rt 10 = (some FieldType.int) := by decide +kernel
theorem na_11 : rb_na 11 = 1 := by decide +kernel
theorem ml_11 : rb_ml 11 = 1 := by decide +kernel
theorem al_11 : rb_al 11 = false := by decide +kernel
theorem rt_11 : rb_rt 11 = (some FieldType.int) := by decide +kernel
theorem na_12 : rb_na 12 = 2 := by decide +kernel
theorem ml_12 : rb_ml 12 = 4 := by decide +kernel
theorem al_12 : rb_al 12 = false := by decide +kernel
theorem rt_12 : rb_rt 12 = (some FieldType.int) := by decide +kernel
theorem na_13 : rb_na 13 = 2 := by decide +kernel
theorem ml_13 : rb_ml 13 = 2 := by decide +kernel
theorem al_13 : rb_al 13 = false := by decide +kernel
theorem rt_13 : rb_rt 13 = (some FieldType.int) := by decide +kernel
theorem na_14 : rb_na 14 = 1 := by decide +kernel
theorem ml_14 : rb_ml 14 = 3 := by decide +kernel
theorem al_14 : rb_al 14 = false := by decide +kernel
theorem rt_14 : rb_rt 14 = (some FieldType.int) := by decide +kernel
theorem na_15 : rb_na 15 = 1 := by decide +kernel
theorem ml_15 : rb_ml 15 = 3 := by decide +kernel
theorem al_15 : rb_al 15 = false := by decide +kernel
theorem rt_15 : rb_rt 15 = (some FieldType.int) := by decide +kernel
theorem na_16 : rb_na 16 = 2 := by decide +kernel
theorem ml_16 : rb_ml 16 = 2 := by decide +kernel
theorem al_16 : rb_al 16 = false := by decide +kernel
theorem rt_16 : rb_rt 16 = (some FieldType.boolean) := by decide +kernel
theorem na_17 : rb_na 17 = 3 := by decide +kernel
theorem ml_17 : rb_ml 17 = 3 := by decide +kernel
theorem al_17 : rb_al 17 = false := by decide +kernel
theorem rt_17 : rb_rt 17 = (some FieldType.int) := by decide +kernel
theorem na_18 : rb_na 18 = 2 := by decide +kernel
theorem ml_18 : rb_ml 18 = 2 := by decide +kernel
theorem al_18 : rb_al 18 = false := by decide +kernel
theorem rt_18 : rb_rt 18 = (some FieldType.boolean) := by decide +kernel
theorem na_19 : rb_na 19 = 2 := by decide +kernel
theorem ml_19 : rb_ml 19 = 2 := by decide +kernel
theorem al_19 : rb_al 19 = false := by decide +kernel
theorem rt_19 : rb_rt 19 = (some FieldType.boolean) := by decide +kernel
theorem na_20 : rb_na 20 = 2 := by decide +kernel
theorem ml_20 : rb_ml 20 = 2 := by decide +kernel
theorem al_20 : rb_al 20 = false := by decide +kernel
theorem rt_20 : rb_rt 20 = (some FieldType.boolean) := by decide +kernel
theorem na_21 : rb_na 21 = 2 := by decide +kernel
theorem ml_21 : rb_ml 21 = 2 := by decide +kernel
theorem al_21 : rb_al 21 = false := by decide +kernel
theorem rt_21 : rb_rt 21 = (some FieldType.int) := by decide +kernel
theorem na_22 : rb_na 22 = 2 := by decide +kernel
theorem ml_22 : rb_ml 22 = 4 := by decide +kernel
theorem al_22 : rb_al 22 = false := by decide +kernel
theorem rt_22 : rb_rt 22 = (some FieldType.int) := by decide +kernel
theorem na_23 : rb_na 23 = 3 := by decide +kernel
theorem ml_23 : rb_ml 23 = 3 := by decide +kernel
theorem al_23 : rb_al 23 = false := by decide +kernel
theorem rt_23 : rb_rt 23 = (some FieldType.boolean) := by decide +kernel
theorem na_24 : rb_na 24 = 2 := by decide +kernel
theorem ml_24 : rb_ml 24 = 2 := by decide +kernel
theorem al_24 : rb_al 24 = false := by decide +kernel
theorem rt_24 : rb_rt 24 = (some FieldType.int) := by decide +kernel
theorem na_25 : rb_na 25 = 1 := by decide +kernel
theorem ml_25 : rb_ml 25 = 1 := by decide +kernel
theorem al_25 : rb_al 25 = false := by decide +kernel
theorem rt_25 : rb_rt 25 = (some FieldType.int) := by decide +kernel
theorem na_26 : rb_na 26 = 2 := by decide +kernel
theorem ml_26 : rb_ml 26 = 2 := by decide +kernel
theorem al_26 : rb_al 26 = false := by decide +kernel
theorem rt_26 : rb_rt 26 = (some FieldType.int) := by decide +kernel
theorem na_27 : rb_na 27 = 2 := by decide +kernel
theorem ml_27 : rb_ml 27 = 2 := by decide +kernel
theorem al_27 : rb_al 27 = false := by decide +kernel
theorem rt_27 : rb_rt 27 = (some FieldType.boolean) := by decide +kernel
theorem na_28 : rb_na 28 = 2 := by decide +kernel
theorem ml_28 : rb_ml 28 = 2 := by decide +kernel
theorem al_28 : rb_al 28 = false := by decide +kernel
theorem rt_28 : rb_rt 28 = (some FieldType.boolean) := by decide +kernel
theorem na_29 : rb_na 29 = 3 := by decide +kernel
theorem ml_29 : rb_ml 29 = 3 := by decide +kernel
theorem al_29 : rb_al 29 = false := by decide +kernel
theorem rt_29 : rb_rt 29 = (some FieldType.int) := by decide +kernel
theorem na_30 : rb_na 30 = 2 := by decide +kernel
theorem ml_30 : rb_ml 30 = 2 := by decide +kernel
theorem al_30 : rb_al 30 = false := by decide +kernel
theorem rt_30 : rb_rt 30 = none := by decide +kernel
theorem na_31 : rb_na 31 = 2 := by decide +kernel
theorem ml_31 : rb_ml 31 = 2 := by decide +kernel
theorem al_31 : rb_al 31 = false := by decide +kernel
theorem rt_31 : rb_rt 31 = none := by decide +kernel
theorem na_32 : rb_na 32 = 2 := by decide +kernel
theorem ml_32 : rb_ml 32 = 2 := by decide +kernel
theorem al_32 : rb_al 32 = false := by decide +kernel
theorem rt_32 : rb_rt 32 = (some FieldType.int) := by decide +kernel
theorem na_33 : rb_na 33 = 2 := by decide +kernel
theorem ml_33 : rb_ml 33 = 3 := by decide +kernel
theorem al_33 : rb_al 33 = false := by decide +kernel
theorem rt_33 : rb_rt 33 = none := by decide +kernel
theorem na_34 : rb_na 34 = 2 := by decide +kernel
theorem ml_34 : rb_ml 34 = 2 := by decide +kernel
theorem al_34 : rb_al 34 = false := by decide +kernel
theorem rt_34 : rb_rt 34 = none := by decide +kernel
theorem na_35 : rb_na 35 = 4 := by decide +kernel
theorem ml_35 : rb_ml 35 = 4 := by decide +kernel
theorem al_35 : rb_al 35 = false := by decide +kernel
theorem rt_35 : rb_rt 35 = none := by decide +kernel
theorem na_36 : rb_na 36 = 2 := by decide +kernel
theorem ml_36 : rb_ml 36 = 4 := by decide +kernel
theorem al_36 : rb_al 36 = false := by decide +kernel
theorem rt_36 : rb_rt 36 = none := by decide +kernel
theorem na_37 : rb_na 37 = 3 := by decide +kernel
theorem ml_37 : rb_ml 37 = 3 := by decide +kernel
theorem al_37 : rb_al 37 = false := by decide +kernel
theorem rt_37 : rb_rt 37 = (some FieldType.boolean) := by decide +kernel
theorem na_38 : rb_na 38 = 3 := by decide +kernel
theorem ml_38 : rb_ml 38 = 3 := by decide +kernel
theorem al_38 : rb_al 38 = false := by decide +kernel
theorem rt_38 : rb_rt 38 = (some FieldType.int) := by decide +kernel
theorem na_39 : rb_na 39 = 4 := by decide +kernel
theorem ml_39 : rb_ml 39 = 6 := by decide +kernel
theorem al_39 : rb_al 39 = false := by decide +kernel
theorem rt_39 : rb_rt 39 = (some FieldType.int) := by decide +kernel
theorem na_40 : rb_na 40 = 2 := by decide +kernel
theorem ml_40 : rb_ml 40 = 2 := by decide +kernel
theorem al_40 : rb_al 40 = false := by decide +kernel
theorem rt_40 : rb_rt 40 = (some FieldType.int) := by decide +kernel
theorem na_41 : rb_na 41 = 3 := by decide +kernel
theorem ml_41 : rb_ml 41 = 4 := by decide +kernel
theorem al_41 : rb_al 41 = false := by decide +kernel
theorem rt_41 : rb_rt 41 = none := by decide +kernel
theorem na_42 : rb_na 42 = 3 := by decide +kernel
theorem ml_42 : rb_ml 42 = 3 := by decide +kernel
theorem al_42 : rb_al 42 = false := by decide +kernel
theorem rt_42 : rb_rt 42 = none := by decide +kernel
theorem na_43 : rb_na 43 = 3 := by decide +kernel
theorem ml_43 : rb_ml 43 = 5 := by decide +kernel
theorem al_43 : rb_al 43 = false := by decide +kernel
theorem rt_43 : rb_rt 43 = (some FieldType.int) := by decide +kernel
theorem na_44 : rb_na 44 = 2 := by decide +kernel
theorem ml_44 : rb_ml 44 = 2 := by decide +kernel
theorem al_44 : rb_al 44 = false := by decide +kernel
theorem rt_44 : rb_rt 44 = (some FieldType.boolean) := by decide +kernel
theorem na_45 : rb_na 45 = 2 := by decide +kernel
theorem ml_45 : rb_ml 45 = 5 := by decide +kernel
theorem al_45 : rb_al 45 = false := by decide +kernel
theorem rt_45 : rb_rt 45 = (some FieldType.int) := by decide +kernel
theorem na_46 : rb_na 46 = 2 := by decide +kernel
theorem ml_46 : rb_ml 46 = 3 := by decide +kernel
theorem al_46 : rb_al 46 = false := by decide +kernel
theorem rt_46 : rb_rt 46 = (some FieldType.int) := by decide +kernel
theorem na_47 : rb_na 47 = 1 := by decide +kernel
theorem ml_47 : rb_ml 47 = 3 := by decide +kernel
theorem al_47 : rb_al 47 = false := by decide +kernel
theorem rt_47 : rb_rt 47 = (some FieldType.int) := by decide +kernel
theorem na_48 : rb_na 48 = 1 := by decide +kernel
theorem ml_48 : rb_ml 48 = 5 := by decide +kernel
theorem al_48 : rb_al 48 = false := by decide +kernel
theorem rt_48 : rb_rt 48 = (some FieldType.int) := by decide +kernel
theorem na_49 : rb_na 49 = 2 := by decide +kernel
theorem ml_49 : rb_ml 49 = 2 := by decide +kernel
theorem al_49 : rb_al 49 = false := by decide +kernel
theorem rt_49 : rb_rt 49 = (some FieldType.int) := by decide +kernel
theorem na_50 : rb_na 50 = 2 := by decide +kernel
theorem ml_50 : rb_ml 50 = 2 := by decide +kernel
theorem al_50 : rb_al 50 = false := by decide +kernel
theorem rt_50 : rb_rt 50 = (some FieldType.int) := by decide +kernel
theorem na_51 : rb_na 51 = 3 := by decide +kernel
theorem ml_51 : rb_ml 51 = 7 := by decide +kernel
theorem al_51 : rb_al 51 = false := by decide +kernel
theorem rt_51 : rb_rt 51 = (some FieldType.int) := by decide +kernel
theorem na_52 : rb_na 52 = 3 := by decide +kernel
theorem ml_52 : rb_ml 52 = 4 := by decide +kernel
theorem al_52 : rb_al 52 = false := by decide +kernel
theorem rt_52 : rb_rt 52 = (some FieldType.int) := by decide +kernel
theorem na_53 : rb_na 53 = 2 := by decide +kernel
theorem ml_53 : rb_ml 53 = 3 := by decide +kernel
theorem al_53 : rb_al 53 = false := by decide +kernel
theorem rt_53 : rb_rt 53 = none := by decide +kernel
theorem na_54 : rb_na 54 = 2 := by decide +kernel
theorem ml_54 : rb_ml 54 = 3 := by decide +kernel
theorem al_54 : rb_al 54 = false := by decide +kernel
theorem rt_54 : rb_rt 54 = (some (FieldType.object "RevealBeacon$State")) := by decide +kernel
theorem na_55 : rb_na 55 = 2 := by decide +kernel
theorem ml_55 : rb_ml 55 = 3 := by decide +kernel
theorem al_55 : rb_al 55 = false := by decide +kernel
theorem rt_55 : rb_rt 55 = (some FieldType.int) := by decide +kernel
theorem na_56 : rb_na 56 = 3 := by decide +kernel
theorem ml_56 : rb_ml 56 = 4 := by decide +kernel
theorem al_56 : rb_al 56 = false := by decide +kernel
theorem rt_56 : rb_rt 56 = (some FieldType.int) := by decide +kernel
theorem na_57 : rb_na 57 = 1 := by decide +kernel
theorem ml_57 : rb_ml 57 = 1 := by decide +kernel
theorem al_57 : rb_al 57 = false := by decide +kernel
theorem rt_57 : rb_rt 57 = (some FieldType.boolean) := by decide +kernel
theorem na_58 : rb_na 58 = 1 := by decide +kernel
theorem ml_58 : rb_ml 58 = 1 := by decide +kernel
theorem al_58 : rb_al 58 = false := by decide +kernel
theorem rt_58 : rb_rt 58 = (some FieldType.int) := by decide +kernel
theorem na_59 : rb_na 59 = 1 := by decide +kernel
theorem ml_59 : rb_ml 59 = 1 := by decide +kernel
theorem al_59 : rb_al 59 = false := by decide +kernel
theorem rt_59 : rb_rt 59 = (some FieldType.int) := by decide +kernel
theorem na_60 : rb_na 60 = 3 := by decide +kernel
theorem ml_60 : rb_ml 60 = 4 := by decide +kernel
theorem al_60 : rb_al 60 = false := by decide +kernel
theorem rt_60 : rb_rt 60 = (some FieldType.int) := by decide +kernel
theorem na_61 : rb_na 61 = 3 := by decide +kernel
theorem ml_61 : rb_ml 61 = 3 := by decide +kernel
theorem al_61 : rb_al 61 = false := by decide +kernel
theorem rt_61 : rb_rt 61 = (some FieldType.int) := by decide +kernel
theorem na_62 : rb_na 62 = 4 := by decide +kernel
theorem ml_62 : rb_ml 62 = 4 := by decide +kernel
theorem al_62 : rb_al 62 = false := by decide +kernel
theorem rt_62 : rb_rt 62 = (some FieldType.int) := by decide +kernel
theorem na_63 : rb_na 63 = 1 := by decide +kernel
theorem ml_63 : rb_ml 63 = 1 := by decide +kernel
theorem al_63 : rb_al 63 = false := by decide +kernel
theorem rt_63 : rb_rt 63 = (some FieldType.boolean) := by decide +kernel
theorem na_64 : rb_na 64 = 1 := by decide +kernel
theorem ml_64 : rb_ml 64 = 1 := by decide +kernel
theorem al_64 : rb_al 64 = false := by decide +kernel
theorem rt_64 : rb_rt 64 = (some FieldType.boolean) := by decide +kernel
theorem na_65 : rb_na 65 = 2 := by decide +kernel
theorem ml_65 : rb_ml 65 = 2 := by decide +kernel
theorem al_65 : rb_al 65 = false := by decide +kernel
theorem rt_65 : rb_rt 65 = (some FieldType.boolean) := by decide +kernel
theorem na_66 : rb_na 66 = 4 := by decide +kernel
theorem ml_66 : rb_ml 66 = 4 := by decide +kernel
theorem al_66 : rb_al 66 = false := by decide +kernel
theorem rt_66 : rb_rt 66 = none := by decide +kernel
theorem na_67 : rb_na 67 = 3 := by decide +kernel
theorem ml_67 : rb_ml 67 = 3 := by decide +kernel
theorem al_67 : rb_al 67 = false := by decide +kernel
theorem rt_67 : rb_rt 67 = (some FieldType.int) := by decide +kernel
theorem na_68 : rb_na 68 = 3 := by decide +kernel
theorem ml_68 : rb_ml 68 = 7 := by decide +kernel
theorem al_68 : rb_al 68 = false := by decide +kernel
theorem rt_68 : rb_rt 68 = none := by decide +kernel
theorem na_69 : rb_na 69 = 1 := by decide +kernel
theorem ml_69 : rb_ml 69 = 1 := by decide +kernel
theorem al_69 : rb_al 69 = false := by decide +kernel
theorem rt_69 : rb_rt 69 = (some FieldType.int) := by decide +kernel
theorem na_70 : rb_na 70 = 2 := by decide +kernel
theorem ml_70 : rb_ml 70 = 4 := by decide +kernel
theorem al_70 : rb_al 70 = false := by decide +kernel
theorem rt_70 : rb_rt 70 = (some FieldType.int) := by decide +kernel
theorem na_71 : rb_na 71 = 4 := by decide +kernel
theorem ml_71 : rb_ml 71 = 4 := by decide +kernel
theorem al_71 : rb_al 71 = false := by decide +kernel
theorem rt_71 : rb_rt 71 = (some FieldType.int) := by decide +kernel
theorem na_72 : rb_na 72 = 4 := by decide +kernel
theorem ml_72 : rb_ml 72 = 4 := by decide +kernel
theorem al_72 : rb_al 72 = false := by decide +kernel
theorem rt_72 : rb_rt 72 = (some FieldType.int) := by decide +kernel
theorem na_73 : rb_na 73 = 3 := by decide +kernel
theorem ml_73 : rb_ml 73 = 3 := by decide +kernel
theorem al_73 : rb_al 73 = false := by decide +kernel
theorem rt_73 : rb_rt 73 = (some FieldType.int) := by decide +kernel
theorem na_74 : rb_na 74 = 3 := by decide +kernel
theorem ml_74 : rb_ml 74 = 3 := by decide +kernel
theorem al_74 : rb_al 74 = false := by decide +kernel
theorem rt_74 : rb_rt 74 = (some FieldType.boolean) := by decide +kernel
theorem na_75 : rb_na 75 = 3 := by decide +kernel
theorem ml_75 : rb_ml 75 = 3 := by decide +kernel
theorem al_75 : rb_al 75 = false := by decide +kernel
theorem rt_75 : rb_rt 75 = (some FieldType.boolean) := by decide +kernel
theorem na_76 : rb_na 76 = 4 := by decide +kernel
theorem ml_76 : rb_ml 76 = 4 := by decide +kernel
theorem al_76 : rb_al 76 = false := by decide +kernel
theorem rt_76 : rb_rt 76 = (some FieldType.int) := by decide +kernel
theorem na_77 : rb_na 77 = 1 := by decide +kernel
theorem ml_77 : rb_ml 77 = 1 := by decide +kernel
theorem al_77 : rb_al 77 = false := by decide +kernel
theorem rt_77 : rb_rt 77 = (some FieldType.int) := by decide +kernel
theorem na_78 : rb_na 78 = 2 := by decide +kernel
theorem ml_78 : rb_ml 78 = 3 := by decide +kernel
theorem al_78 : rb_al 78 = false := by decide +kernel
theorem rt_78 : rb_rt 78 = (some FieldType.int) := by decide +kernel
theorem na_79 : rb_na 79 = 2 := by decide +kernel
theorem ml_79 : rb_ml 79 = 2 := by decide +kernel
theorem al_79 : rb_al 79 = false := by decide +kernel
theorem rt_79 : rb_rt 79 = (some (FieldType.object "RevealBeacon$Image")) := by decide +kernel
theorem na_80 : rb_na 80 = 2 := by decide +kernel
theorem ml_80 : rb_ml 80 = 3 := by decide +kernel
theorem al_80 : rb_al 80 = false := by decide +kernel
theorem rt_80 : rb_rt 80 = (some FieldType.int) := by decide +kernel
theorem na_81 : rb_na 81 = 1 := by decide +kernel
theorem ml_81 : rb_ml 81 = 1 := by decide +kernel
theorem al_81 : rb_al 81 = false := by decide +kernel
theorem rt_81 : rb_rt 81 = (some FieldType.int) := by decide +kernel
theorem na_82 : rb_na 82 = 2 := by decide +kernel
theorem ml_82 : rb_ml 82 = 3 := by decide +kernel
theorem al_82 : rb_al 82 = false := by decide +kernel
theorem rt_82 : rb_rt 82 = none := by decide +kernel
theorem na_83 : rb_na 83 = 2 := by decide +kernel
theorem ml_83 : rb_ml 83 = 3 := by decide +kernel
theorem al_83 : rb_al 83 = false := by decide +kernel
theorem rt_83 : rb_rt 83 = (some FieldType.int) := by decide +kernel
theorem na_84 : rb_na 84 = 1 := by decide +kernel
theorem ml_84 : rb_ml 84 = 1 := by decide +kernel
theorem al_84 : rb_al 84 = false := by decide +kernel
theorem rt_84 : rb_rt 84 = none := by decide +kernel
theorem na_85 : rb_na 85 = 1 := by decide +kernel
theorem ml_85 : rb_ml 85 = 1 := by decide +kernel
theorem al_85 : rb_al 85 = false := by decide +kernel
theorem rt_85 : rb_rt 85 = none := by decide +kernel
theorem na_86 : rb_na 86 = 1 := by decide +kernel
theorem ml_86 : rb_ml 86 = 2 := by decide +kernel
theorem al_86 : rb_al 86 = false := by decide +kernel
theorem rt_86 : rb_rt 86 = none := by decide +kernel
theorem na_87 : rb_na 87 = 1 := by decide +kernel
theorem ml_87 : rb_ml 87 = 1 := by decide +kernel
theorem al_87 : rb_al 87 = false := by decide +kernel
theorem rt_87 : rb_rt 87 = none := by decide +kernel
theorem na_88 : rb_na 88 = 1 := by decide +kernel
theorem ml_88 : rb_ml 88 = 4 := by decide +kernel
theorem al_88 : rb_al 88 = false := by decide +kernel
theorem rt_88 : rb_rt 88 = none := by decide +kernel
theorem na_89 : rb_na 89 = 1 := by decide +kernel
theorem ml_89 : rb_ml 89 = 13 := by decide +kernel
theorem al_89 : rb_al 89 = false := by decide +kernel
theorem rt_89 : rb_rt 89 = (some FieldType.boolean) := by decide +kernel
theorem na_90 : rb_na 90 = 3 := by decide +kernel
theorem ml_90 : rb_ml 90 = 3 := by decide +kernel
theorem al_90 : rb_al 90 = false := by decide +kernel
theorem rt_90 : rb_rt 90 = (some FieldType.int) := by decide +kernel
theorem na_91 : rb_na 91 = 3 := by decide +kernel
theorem ml_91 : rb_ml 91 = 3 := by decide +kernel
theorem al_91 : rb_al 91 = false := by decide +kernel
theorem rt_91 : rb_rt 91 = (some FieldType.int) := by decide +kernel
theorem na_92 : rb_na 92 = 1 := by decide +kernel
theorem ml_92 : rb_ml 92 = 6 := by decide +kernel
theorem al_92 : rb_al 92 = false := by decide +kernel
theorem rt_92 : rb_rt 92 = (some FieldType.boolean) := by decide +kernel
theorem na_93 : rb_na 93 = 2 := by decide +kernel
theorem ml_93 : rb_ml 93 = 2 := by decide +kernel
theorem al_93 : rb_al 93 = false := by decide +kernel
theorem rt_93 : rb_rt 93 = (some FieldType.int) := by decide +kernel
theorem na_94 : rb_na 94 = 1 := by decide +kernel
theorem ml_94 : rb_ml 94 = 1 := by decide +kernel
theorem al_94 : rb_al 94 = false := by decide +kernel
theorem rt_94 : rb_rt 94 = (some FieldType.int) := by decide +kernel
theorem na_95 : rb_na 95 = 1 := by decide +kernel
theorem ml_95 : rb_ml 95 = 1 := by decide +kernel
theorem al_95 : rb_al 95 = false := by decide +kernel
theorem rt_95 : rb_rt 95 = (some FieldType.int) := by decide +kernel
theorem na_96 : rb_na 96 = 1 := by decide +kernel
theorem ml_96 : rb_ml 96 = 3 := by decide +kernel
theorem al_96 : rb_al 96 = false := by decide +kernel
theorem rt_96 : rb_rt 96 = (some FieldType.int) := by decide +kernel
theorem na_97 : rb_na 97 = 2 := by decide +kernel
theorem ml_97 : rb_ml 97 = 5 := by decide +kernel
theorem al_97 : rb_al 97 = false := by decide +kernel
theorem rt_97 : rb_rt 97 = (some FieldType.boolean) := by decide +kernel
theorem na_98 : rb_na 98 = 1 := by decide +kernel
theorem ml_98 : rb_ml 98 = 2 := by decide +kernel
theorem al_98 : rb_al 98 = false := by decide +kernel
theorem rt_98 : rb_rt 98 = (some FieldType.float) := by decide +kernel
theorem na_99 : rb_na 99 = 2 := by decide +kernel
theorem ml_99 : rb_ml 99 = 2 := by decide +kernel
theorem al_99 : rb_al 99 = false := by decide +kernel
theorem rt_99 : rb_rt 99 = (some FieldType.int) := by decide +kernel
theorem na_100 : rb_na 100 = 1 := by decide +kernel
theorem ml_100 : rb_ml 100 = 12 := by decide +kernel
theorem al_100 : rb_al 100 = true := by decide +kernel
theorem rt_100 : rb_rt 100 = (some FieldType.boolean) := by decide +kernel
theorem rb_shS_u {g j q : Nat} (hj : j < 8) (h : (rb_shS g)[q]? = some (.inr (g, 11, j))) : q = j := by
  rcases q with _ | _ | _ | _ | _ | _ | _ | _ | _ | _ | _ | _ | _ | _ | _ | _ | _ | _ | _ | q <;> simp [rb_shS] at h <;> omega
theorem rb_own_st {g : Nat} (h : g < 12) : rb_own g 11 = rb_st g := by unfold rb_own; rw [if_pos h, if_pos rfl]
theorem rb_own_aa {g r : Nat} (h : g < 12) (hr : r < 11) : rb_own g r = rb_aa g r := by unfold rb_own; rw [if_pos h, if_neg (by omega)]
