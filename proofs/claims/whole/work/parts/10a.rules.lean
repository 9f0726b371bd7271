theorem na_0 : rb_na 0 = 1 := by decide +kernel
theorem ml_0 : rb_ml 0 = 1 := by decide +kernel
theorem al_0 : rb_al 0 = true := by decide +kernel
theorem rt_0 : rb_rt 0 = none := by decide +kernel
theorem na_1 : rb_na 1 = 1 := by decide +kernel
theorem ml_1 : rb_ml 1 = 1 := by decide +kernel
theorem al_1 : rb_al 1 = true := by decide +kernel
theorem rt_1 : rb_rt 1 = none := by decide +kernel
theorem na_2 : rb_na 2 = 2 := by decide +kernel
theorem ml_2 : rb_ml 2 = 2 := by decide +kernel
theorem al_2 : rb_al 2 = true := by decide +kernel
theorem rt_2 : rb_rt 2 = none := by decide +kernel
theorem na_3 : rb_na 3 = 3 := by decide +kernel
theorem ml_3 : rb_ml 3 = 3 := by decide +kernel
theorem al_3 : rb_al 3 = false := by decide +kernel
theorem rt_3 : rb_rt 3 = none := by decide +kernel
theorem na_4 : rb_na 4 = 1 := by decide +kernel
theorem ml_4 : rb_ml 4 = 2 := by decide +kernel
theorem al_4 : rb_al 4 = true := by decide +kernel
theorem rt_4 : rb_rt 4 = none := by decide +kernel
theorem na_5 : rb_na 5 = 1 := by decide +kernel
theorem ml_5 : rb_ml 5 = 1 := by decide +kernel
theorem al_5 : rb_al 5 = true := by decide +kernel
theorem rt_5 : rb_rt 5 = none := by decide +kernel
theorem na_6 : rb_na 6 = 3 := by decide +kernel
theorem ml_6 : rb_ml 6 = 3 := by decide +kernel
theorem al_6 : rb_al 6 = false := by decide +kernel
theorem rt_6 : rb_rt 6 = none := by decide +kernel
theorem na_7 : rb_na 7 = 2 := by decide +kernel
theorem ml_7 : rb_ml 7 = 3 := by decide +kernel
theorem al_7 : rb_al 7 = false := by decide +kernel
theorem rt_7 : rb_rt 7 = none := by decide +kernel
theorem na_8 : rb_na 8 = 1 := by decide +kernel
theorem ml_8 : rb_ml 8 = 1 := by decide +kernel
theorem al_8 : rb_al 8 = false := by decide +kernel
theorem rt_8 : rb_rt 8 = none := by decide +kernel
theorem na_9 : rb_na 9 = 2 := by decide +kernel
theorem ml_9 : rb_ml 9 = 2 := by decide +kernel
theorem al_9 : rb_al 9 = false := by decide +kernel
theorem rt_9 : rb_rt 9 = none := by decide +kernel
theorem na_10 : rb_na 10 = 3 := by decide +kernel
theorem ml_10 : rb_ml 10 = 4 := by decide +kernel
theorem al_10 : rb_al 10 = false := by decide +kernel
theorem rt_10 : rb_rt 10 = (some FieldType.int) := by decide +kernel
theorem na_11 : rb_na 11 = 2 := by decide +kernel
theorem ml_11 : rb_ml 11 = 3 := by decide +kernel
theorem al_11 : rb_al 11 = false := by decide +kernel
theorem rt_11 : rb_rt 11 = none := by decide +kernel
theorem na_12 : rb_na 12 = 2 := by decide +kernel
theorem ml_12 : rb_ml 12 = 3 := by decide +kernel
theorem al_12 : rb_al 12 = false := by decide +kernel
theorem rt_12 : rb_rt 12 = (some (FieldType.object "RevealBeacon$State")) := by decide +kernel
theorem na_13 : rb_na 13 = 2 := by decide +kernel
theorem ml_13 : rb_ml 13 = 2 := by decide +kernel
theorem al_13 : rb_al 13 = false := by decide +kernel
theorem rt_13 : rb_rt 13 = none := by decide +kernel
theorem na_14 : rb_na 14 = 2 := by decide +kernel
theorem ml_14 : rb_ml 14 = 2 := by decide +kernel
theorem al_14 : rb_al 14 = false := by decide +kernel
theorem rt_14 : rb_rt 14 = none := by decide +kernel
theorem na_15 : rb_na 15 = 2 := by decide +kernel
theorem ml_15 : rb_ml 15 = 2 := by decide +kernel
theorem al_15 : rb_al 15 = false := by decide +kernel
theorem rt_15 : rb_rt 15 = (some FieldType.int) := by decide +kernel
theorem na_16 : rb_na 16 = 3 := by decide +kernel
theorem ml_16 : rb_ml 16 = 4 := by decide +kernel
theorem al_16 : rb_al 16 = false := by decide +kernel
theorem rt_16 : rb_rt 16 = (some FieldType.int) := by decide +kernel
theorem na_17 : rb_na 17 = 1 := by decide +kernel
theorem ml_17 : rb_ml 17 = 1 := by decide +kernel
theorem al_17 : rb_al 17 = false := by decide +kernel
theorem rt_17 : rb_rt 17 = (some FieldType.boolean) := by decide +kernel
theorem na_18 : rb_na 18 = 1 := by decide +kernel
theorem ml_18 : rb_ml 18 = 1 := by decide +kernel
theorem al_18 : rb_al 18 = false := by decide +kernel
theorem rt_18 : rb_rt 18 = (some FieldType.int) := by decide +kernel
theorem na_19 : rb_na 19 = 1 := by decide +kernel
theorem ml_19 : rb_ml 19 = 1 := by decide +kernel
theorem al_19 : rb_al 19 = false := by decide +kernel
theorem rt_19 : rb_rt 19 = (some FieldType.int) := by decide +kernel
theorem na_20 : rb_na 20 = 2 := by decide +kernel
theorem ml_20 : rb_ml 20 = 2 := by decide +kernel
theorem al_20 : rb_al 20 = false := by decide +kernel
theorem rt_20 : rb_rt 20 = (some FieldType.int) := by decide +kernel
theorem na_21 : rb_na 21 = 2 := by decide +kernel
theorem ml_21 : rb_ml 21 = 3 := by decide +kernel
theorem al_21 : rb_al 21 = false := by decide +kernel
theorem rt_21 : rb_rt 21 = (some FieldType.int) := by decide +kernel
theorem na_22 : rb_na 22 = 3 := by decide +kernel
theorem ml_22 : rb_ml 22 = 4 := by decide +kernel
theorem al_22 : rb_al 22 = false := by decide +kernel
theorem rt_22 : rb_rt 22 = (some FieldType.int) := by decide +kernel
theorem na_23 : rb_na 23 = 2 := by decide +kernel
theorem ml_23 : rb_ml 23 = 2 := by decide +kernel
theorem al_23 : rb_al 23 = false := by decide +kernel
theorem rt_23 : rb_rt 23 = (some FieldType.boolean) := by decide +kernel
theorem na_24 : rb_na 24 = 3 := by decide +kernel
theorem ml_24 : rb_ml 24 = 3 := by decide +kernel
theorem al_24 : rb_al 24 = false := by decide +kernel
theorem rt_24 : rb_rt 24 = (some FieldType.int) := by decide +kernel
theorem na_25 : rb_na 25 = 3 := by decide +kernel
theorem ml_25 : rb_ml 25 = 3 := by decide +kernel
theorem al_25 : rb_al 25 = false := by decide +kernel
theorem rt_25 : rb_rt 25 = none := by decide +kernel
theorem na_26 : rb_na 26 = 4 := by decide +kernel
theorem ml_26 : rb_ml 26 = 4 := by decide +kernel
theorem al_26 : rb_al 26 = false := by decide +kernel
theorem rt_26 : rb_rt 26 = (some FieldType.int) := by decide +kernel
theorem na_27 : rb_na 27 = 1 := by decide +kernel
theorem ml_27 : rb_ml 27 = 1 := by decide +kernel
theorem al_27 : rb_al 27 = false := by decide +kernel
theorem rt_27 : rb_rt 27 = (some FieldType.boolean) := by decide +kernel
theorem na_28 : rb_na 28 = 1 := by decide +kernel
theorem ml_28 : rb_ml 28 = 1 := by decide +kernel
theorem al_28 : rb_al 28 = false := by decide +kernel
theorem rt_28 : rb_rt 28 = (some FieldType.boolean) := by decide +kernel
theorem na_29 : rb_na 29 = 2 := by decide +kernel
theorem ml_29 : rb_ml 29 = 2 := by decide +kernel
theorem al_29 : rb_al 29 = false := by decide +kernel
theorem rt_29 : rb_rt 29 = (some FieldType.boolean) := by decide +kernel
theorem na_30 : rb_na 30 = 2 := by decide +kernel
theorem ml_30 : rb_ml 30 = 2 := by decide +kernel
theorem al_30 : rb_al 30 = false := by decide +kernel
theorem rt_30 : rb_rt 30 = (some FieldType.boolean) := by decide +kernel
theorem na_31 : rb_na 31 = 2 := by decide +kernel
theorem ml_31 : rb_ml 31 = 2 := by decide +kernel
theorem al_31 : rb_al 31 = false := by decide +kernel
theorem rt_31 : rb_rt 31 = (some FieldType.boolean) := by decide +kernel
theorem na_32 : rb_na 32 = 4 := by decide +kernel
theorem ml_32 : rb_ml 32 = 4 := by decide +kernel
theorem al_32 : rb_al 32 = false := by decide +kernel
theorem rt_32 : rb_rt 32 = none := by decide +kernel
theorem na_33 : rb_na 33 = 3 := by decide +kernel
theorem ml_33 : rb_ml 33 = 3 := by decide +kernel
theorem al_33 : rb_al 33 = false := by decide +kernel
theorem rt_33 : rb_rt 33 = (some FieldType.int) := by decide +kernel
theorem na_34 : rb_na 34 = 3 := by decide +kernel
theorem ml_34 : rb_ml 34 = 7 := by decide +kernel
theorem al_34 : rb_al 34 = false := by decide +kernel
theorem rt_34 : rb_rt 34 = none := by decide +kernel
theorem na_35 : rb_na 35 = 2 := by decide +kernel
theorem ml_35 : rb_ml 35 = 2 := by decide +kernel
theorem al_35 : rb_al 35 = false := by decide +kernel
theorem rt_35 : rb_rt 35 = (some FieldType.int) := by decide +kernel
theorem na_36 : rb_na 36 = 1 := by decide +kernel
theorem ml_36 : rb_ml 36 = 1 := by decide +kernel
theorem al_36 : rb_al 36 = false := by decide +kernel
theorem rt_36 : rb_rt 36 = (some FieldType.int) := by decide +kernel
theorem na_37 : rb_na 37 = 3 := by decide +kernel
theorem ml_37 : rb_ml 37 = 3 := by decide +kernel
theorem al_37 : rb_al 37 = false := by decide +kernel
theorem rt_37 : rb_rt 37 = (some FieldType.int) := by decide +kernel
theorem na_38 : rb_na 38 = 2 := by decide +kernel
theorem ml_38 : rb_ml 38 = 4 := by decide +kernel
theorem al_38 : rb_al 38 = false := by decide +kernel
theorem rt_38 : rb_rt 38 = (some FieldType.int) := by decide +kernel
theorem na_39 : rb_na 39 = 4 := by decide +kernel
theorem ml_39 : rb_ml 39 = 4 := by decide +kernel
theorem al_39 : rb_al 39 = false := by decide +kernel
theorem rt_39 : rb_rt 39 = (some FieldType.int) := by decide +kernel
theorem na_40 : rb_na 40 = 2 := by decide +kernel
theorem ml_40 : rb_ml 40 = 2 := by decide +kernel
theorem al_40 : rb_al 40 = false := by decide +kernel
theorem rt_40 : rb_rt 40 = (some FieldType.boolean) := by decide +kernel
theorem na_41 : rb_na 41 = 2 := by decide +kernel
theorem ml_41 : rb_ml 41 = 2 := by decide +kernel
theorem al_41 : rb_al 41 = false := by decide +kernel
theorem rt_41 : rb_rt 41 = (some FieldType.boolean) := by decide +kernel
theorem na_42 : rb_na 42 = 4 := by decide +kernel
theorem ml_42 : rb_ml 42 = 4 := by decide +kernel
theorem al_42 : rb_al 42 = false := by decide +kernel
theorem rt_42 : rb_rt 42 = (some FieldType.int) := by decide +kernel
theorem na_43 : rb_na 43 = 3 := by decide +kernel
theorem ml_43 : rb_ml 43 = 4 := by decide +kernel
theorem al_43 : rb_al 43 = false := by decide +kernel
theorem rt_43 : rb_rt 43 = none := by decide +kernel
theorem na_44 : rb_na 44 = 4 := by decide +kernel
theorem ml_44 : rb_ml 44 = 4 := by decide +kernel
theorem al_44 : rb_al 44 = false := by decide +kernel
theorem rt_44 : rb_rt 44 = none := by decide +kernel
theorem na_45 : rb_na 45 = 4 := by decide +kernel
theorem ml_45 : rb_ml 45 = 4 := by decide +kernel
theorem al_45 : rb_al 45 = false := by decide +kernel
theorem rt_45 : rb_rt 45 = (some FieldType.int) := by decide +kernel
theorem na_46 : rb_na 46 = 3 := by decide +kernel
theorem ml_46 : rb_ml 46 = 3 := by decide +kernel
theorem al_46 : rb_al 46 = false := by decide +kernel
theorem rt_46 : rb_rt 46 = (some FieldType.boolean) := by decide +kernel
theorem na_47 : rb_na 47 = 3 := by decide +kernel
theorem ml_47 : rb_ml 47 = 3 := by decide +kernel
theorem al_47 : rb_al 47 = false := by decide +kernel
theorem rt_47 : rb_rt 47 = (some FieldType.boolean) := by decide +kernel
theorem na_48 : rb_na 48 = 3 := by decide +kernel
theorem ml_48 : rb_ml 48 = 3 := by decide +kernel
theorem al_48 : rb_al 48 = false := by decide +kernel
theorem rt_48 : rb_rt 48 = (some FieldType.boolean) := by decide +kernel
theorem na_49 : rb_na 49 = 3 := by decide +kernel
theorem ml_49 : rb_ml 49 = 3 := by decide +kernel
theorem al_49 : rb_al 49 = false := by decide +kernel
theorem rt_49 : rb_rt 49 = (some FieldType.boolean) := by decide +kernel
theorem na_50 : rb_na 50 = 4 := by decide +kernel
theorem ml_50 : rb_ml 50 = 6 := by decide +kernel
theorem al_50 : rb_al 50 = false := by decide +kernel
theorem rt_50 : rb_rt 50 = (some FieldType.int) := by decide +kernel
theorem na_51 : rb_na 51 = 2 := by decide +kernel
theorem ml_51 : rb_ml 51 = 2 := by decide +kernel
theorem al_51 : rb_al 51 = false := by decide +kernel
theorem rt_51 : rb_rt 51 = (some FieldType.int) := by decide +kernel
theorem na_52 : rb_na 52 = 2 := by decide +kernel
theorem ml_52 : rb_ml 52 = 4 := by decide +kernel
theorem al_52 : rb_al 52 = false := by decide +kernel
theorem rt_52 : rb_rt 52 = (some FieldType.int) := by decide +kernel
theorem na_53 : rb_na 53 = 1 := by decide +kernel
theorem ml_53 : rb_ml 53 = 1 := by decide +kernel
theorem al_53 : rb_al 53 = false := by decide +kernel
theorem rt_53 : rb_rt 53 = (some FieldType.int) := by decide +kernel
theorem na_54 : rb_na 54 = 3 := by decide +kernel
theorem ml_54 : rb_ml 54 = 5 := by decide +kernel
theorem al_54 : rb_al 54 = false := by decide +kernel
theorem rt_54 : rb_rt 54 = (some FieldType.int) := by decide +kernel
theorem na_55 : rb_na 55 = 2 := by decide +kernel
theorem ml_55 : rb_ml 55 = 2 := by decide +kernel
theorem al_55 : rb_al 55 = false := by decide +kernel
theorem rt_55 : rb_rt 55 = (some FieldType.boolean) := by decide +kernel
theorem na_56 : rb_na 56 = 2 := by decide +kernel
theorem ml_56 : rb_ml 56 = 5 := by decide +kernel
theorem al_56 : rb_al 56 = false := by decide +kernel
theorem rt_56 : rb_rt 56 = (some FieldType.int) := by decide +kernel
theorem na_57 : rb_na 57 = 2 := by decide +kernel
theorem ml_57 : rb_ml 57 = 3 := by decide +kernel
theorem al_57 : rb_al 57 = false := by decide +kernel
theorem rt_57 : rb_rt 57 = (some FieldType.int) := by decide +kernel
theorem na_58 : rb_na 58 = 1 := by decide +kernel
theorem ml_58 : rb_ml 58 = 3 := by decide +kernel
theorem al_58 : rb_al 58 = false := by decide +kernel
theorem rt_58 : rb_rt 58 = (some FieldType.int) := by decide +kernel
theorem na_59 : rb_na 59 = 3 := by decide +kernel
theorem ml_59 : rb_ml 59 = 3 := by decide +kernel
theorem al_59 : rb_al 59 = false := by decide +kernel
theorem rt_59 : rb_rt 59 = (some FieldType.int) := by decide +kernel
theorem na_60 : rb_na 60 = 2 := by decide +kernel
theorem ml_60 : rb_ml 60 = 3 := by decide +kernel
theorem al_60 : rb_al 60 = false := by decide +kernel
theorem rt_60 : rb_rt 60 = (some FieldType.int) := by decide +kernel
theorem na_61 : rb_na 61 = 1 := by decide +kernel
theorem ml_61 : rb_ml 61 = 1 := by decide +kernel
theorem al_61 : rb_al 61 = false := by decide +kernel
theorem rt_61 : rb_rt 61 = none := by decide +kernel
theorem na_62 : rb_na 62 = 1 := by decide +kernel
theorem ml_62 : rb_ml 62 = 1 := by decide +kernel
theorem al_62 : rb_al 62 = false := by decide +kernel
theorem rt_62 : rb_rt 62 = none := by decide +kernel
theorem na_63 : rb_na 63 = 1 := by decide +kernel
theorem ml_63 : rb_ml 63 = 1 := by decide +kernel
theorem al_63 : rb_al 63 = false := by decide +kernel
theorem rt_63 : rb_rt 63 = (some FieldType.int) := by decide +kernel
theorem na_64 : rb_na 64 = 2 := by decide +kernel
theorem ml_64 : rb_ml 64 = 4 := by decide +kernel
theorem al_64 : rb_al 64 = false := by decide +kernel
theorem rt_64 : rb_rt 64 = (some FieldType.int) := by decide +kernel
theorem na_65 : rb_na 65 = 1 := by decide +kernel
theorem ml_65 : rb_ml 65 = 2 := by decide +kernel
theorem al_65 : rb_al 65 = false := by decide +kernel
theorem rt_65 : rb_rt 65 = none := by decide +kernel
theorem na_66 : rb_na 66 = 1 := by decide +kernel
theorem ml_66 : rb_ml 66 = 1 := by decide +kernel
theorem al_66 : rb_al 66 = false := by decide +kernel
theorem rt_66 : rb_rt 66 = none := by decide +kernel
theorem na_67 : rb_na 67 = 1 := by decide +kernel
theorem ml_67 : rb_ml 67 = 4 := by decide +kernel
theorem al_67 : rb_al 67 = false := by decide +kernel
theorem rt_67 : rb_rt 67 = none := by decide +kernel
theorem na_68 : rb_na 68 = 1 := by decide +kernel
theorem ml_68 : rb_ml 68 = 5 := by decide +kernel
theorem al_68 : rb_al 68 = false := by decide +kernel
theorem rt_68 : rb_rt 68 = (some FieldType.int) := by decide +kernel
theorem na_69 : rb_na 69 = 2 := by decide +kernel
theorem ml_69 : rb_ml 69 = 2 := by decide +kernel
theorem al_69 : rb_al 69 = false := by decide +kernel
theorem rt_69 : rb_rt 69 = (some FieldType.boolean) := by decide +kernel
theorem na_70 : rb_na 70 = 1 := by decide +kernel
theorem ml_70 : rb_ml 70 = 1 := by decide +kernel
theorem al_70 : rb_al 70 = false := by decide +kernel
theorem rt_70 : rb_rt 70 = (some FieldType.int) := by decide +kernel
theorem na_71 : rb_na 71 = 1 := by decide +kernel
theorem ml_71 : rb_ml 71 = 1 := by decide +kernel
theorem al_71 : rb_al 71 = false := by decide +kernel
theorem rt_71 : rb_rt 71 = (some FieldType.int) := by decide +kernel
theorem na_72 : rb_na 72 = 2 := by decide +kernel
theorem ml_72 : rb_ml 72 = 3 := by decide +kernel
theorem al_72 : rb_al 72 = false := by decide +kernel
theorem rt_72 : rb_rt 72 = none := by decide +kernel
theorem na_73 : rb_na 73 = 2 := by decide +kernel
theorem ml_73 : rb_ml 73 = 2 := by decide +kernel
theorem al_73 : rb_al 73 = false := by decide +kernel
theorem rt_73 : rb_rt 73 = (some FieldType.int) := by decide +kernel
theorem na_74 : rb_na 74 = 1 := by decide +kernel
theorem ml_74 : rb_ml 74 = 3 := by decide +kernel
theorem al_74 : rb_al 74 = false := by decide +kernel
theorem rt_74 : rb_rt 74 = (some FieldType.int) := by decide +kernel
theorem na_75 : rb_na 75 = 1 := by decide +kernel
theorem ml_75 : rb_ml 75 = 3 := by decide +kernel
theorem al_75 : rb_al 75 = false := by decide +kernel
theorem rt_75 : rb_rt 75 = (some FieldType.int) := by decide +kernel
theorem na_76 : rb_na 76 = 2 := by decide +kernel
theorem ml_76 : rb_ml 76 = 2 := by decide +kernel
theorem al_76 : rb_al 76 = false := by decide +kernel
theorem rt_76 : rb_rt 76 = (some FieldType.int) := by decide +kernel
theorem na_77 : rb_na 77 = 3 := by decide +kernel
theorem ml_77 : rb_ml 77 = 3 := by decide +kernel
theorem al_77 : rb_al 77 = false := by decide +kernel
theorem rt_77 : rb_rt 77 = (some FieldType.int) := by decide +kernel
theorem na_78 : rb_na 78 = 2 := by decide +kernel
theorem ml_78 : rb_ml 78 = 2 := by decide +kernel
theorem al_78 : rb_al 78 = false := by decide +kernel
theorem rt_78 : rb_rt 78 = (some FieldType.int) := by decide +kernel
theorem na_79 : rb_na 79 = 3 := by decide +kernel
theorem ml_79 : rb_ml 79 = 3 := by decide +kernel
theorem al_79 : rb_al 79 = false := by decide +kernel
theorem rt_79 : rb_rt 79 = (some FieldType.int) := by decide +kernel
theorem na_80 : rb_na 80 = 3 := by decide +kernel
theorem ml_80 : rb_ml 80 = 3 := by decide +kernel
theorem al_80 : rb_al 80 = false := by decide +kernel
theorem rt_80 : rb_rt 80 = (some FieldType.int) := by decide +kernel
theorem na_81 : rb_na 81 = 4 := by decide +kernel
theorem ml_81 : rb_ml 81 = 4 := by decide +kernel
theorem al_81 : rb_al 81 = false := by decide +kernel
theorem rt_81 : rb_rt 81 = (some FieldType.int) := by decide +kernel
theorem na_82 : rb_na 82 = 3 := by decide +kernel
theorem ml_82 : rb_ml 82 = 6 := by decide +kernel
theorem al_82 : rb_al 82 = false := by decide +kernel
theorem rt_82 : rb_rt 82 = (some FieldType.int) := by decide +kernel
theorem na_83 : rb_na 83 = 3 := by decide +kernel
theorem ml_83 : rb_ml 83 = 7 := by decide +kernel
theorem al_83 : rb_al 83 = false := by decide +kernel
theorem rt_83 : rb_rt 83 = (some FieldType.int) := by decide +kernel
theorem na_84 : rb_na 84 = 2 := by decide +kernel
theorem ml_84 : rb_ml 84 = 2 := by decide +kernel
theorem al_84 : rb_al 84 = false := by decide +kernel
theorem rt_84 : rb_rt 84 = (some FieldType.int) := by decide +kernel
theorem na_85 : rb_na 85 = 1 := by decide +kernel
theorem ml_85 : rb_ml 85 = 1 := by decide +kernel
theorem al_85 : rb_al 85 = false := by decide +kernel
theorem rt_85 : rb_rt 85 = (some FieldType.int) := by decide +kernel
theorem na_86 : rb_na 86 = 1 := by decide +kernel
theorem ml_86 : rb_ml 86 = 3 := by decide +kernel
theorem al_86 : rb_al 86 = false := by decide +kernel
theorem rt_86 : rb_rt 86 = (some FieldType.int) := by decide +kernel
theorem na_87 : rb_na 87 = 1 := by decide +kernel
theorem ml_87 : rb_ml 87 = 1 := by decide +kernel
theorem al_87 : rb_al 87 = false := by decide +kernel
theorem rt_87 : rb_rt 87 = (some FieldType.int) := by decide +kernel
theorem na_88 : rb_na 88 = 2 := by decide +kernel
theorem ml_88 : rb_ml 88 = 4 := by decide +kernel
theorem al_88 : rb_al 88 = false := by decide +kernel
theorem rt_88 : rb_rt 88 = none := by decide +kernel
theorem na_89 : rb_na 89 = 2 := by decide +kernel
theorem ml_89 : rb_ml 89 = 2 := by decide +kernel
theorem al_89 : rb_al 89 = false := by decide +kernel
theorem rt_89 : rb_rt 89 = (some FieldType.int) := by decide +kernel
theorem na_90 : rb_na 90 = 3 := by decide +kernel
theorem ml_90 : rb_ml 90 = 3 := by decide +kernel
theorem al_90 : rb_al 90 = false := by decide +kernel
theorem rt_90 : rb_rt 90 = (some FieldType.int) := by decide +kernel
theorem na_91 : rb_na 91 = 2 := by decide +kernel
theorem ml_91 : rb_ml 91 = 3 := by decide +kernel
theorem al_91 : rb_al 91 = false := by decide +kernel
theorem rt_91 : rb_rt 91 = none := by decide +kernel
theorem na_92 : rb_na 92 = 2 := by decide +kernel
theorem ml_92 : rb_ml 92 = 2 := by decide +kernel
theorem al_92 : rb_al 92 = false := by decide +kernel
theorem rt_92 : rb_rt 92 = none := by decide +kernel
theorem na_93 : rb_na 93 = 1 := by decide +kernel
theorem ml_93 : rb_ml 93 = 2 := by decide +kernel
theorem al_93 : rb_al 93 = false := by decide +kernel
theorem rt_93 : rb_rt 93 = (some FieldType.float) := by decide +kernel
theorem na_94 : rb_na 94 = 2 := by decide +kernel
theorem ml_94 : rb_ml 94 = 3 := by decide +kernel
theorem al_94 : rb_al 94 = false := by decide +kernel
theorem rt_94 : rb_rt 94 = (some FieldType.int) := by decide +kernel
theorem na_95 : rb_na 95 = 2 := by decide +kernel
theorem ml_95 : rb_ml 95 = 2 := by decide +kernel
theorem al_95 : rb_al 95 = false := by decide +kernel
theorem rt_95 : rb_rt 95 = (some (FieldType.object "RevealBeacon$Image")) := by decide +kernel
theorem na_96 : rb_na 96 = 2 := by decide +kernel
theorem ml_96 : rb_ml 96 = 3 := by decide +kernel
theorem al_96 : rb_al 96 = false := by decide +kernel
theorem rt_96 : rb_rt 96 = (some FieldType.int) := by decide +kernel
theorem na_97 : rb_na 97 = 1 := by decide +kernel
theorem ml_97 : rb_ml 97 = 2 := by decide +kernel
theorem al_97 : rb_al 97 = true := by decide +kernel
theorem rt_97 : rb_rt 97 = none := by decide +kernel
theorem na_98 : rb_na 98 = 3 := by decide +kernel
theorem ml_98 : rb_ml 98 = 4 := by decide +kernel
theorem al_98 : rb_al 98 = false := by decide +kernel
theorem rt_98 : rb_rt 98 = none := by decide +kernel
theorem na_99 : rb_na 99 = 1 := by decide +kernel
theorem ml_99 : rb_ml 99 = 2 := by decide +kernel
theorem al_99 : rb_al 99 = false := by decide +kernel
theorem rt_99 : rb_rt 99 = none := by decide +kernel
theorem na_100 : rb_na 100 = 3 := by decide +kernel
theorem ml_100 : rb_ml 100 = 4 := by decide +kernel
theorem al_100 : rb_al 100 = false := by decide +kernel
theorem rt_100 : rb_rt 100 = (some FieldType.int) := by decide +kernel
theorem na_101 : rb_na 101 = 3 := by decide +kernel
theorem ml_101 : rb_ml 101 = 3 := by decide +kernel
theorem al_101 : rb_al 101 = false := by decide +kernel
theorem rt_101 : rb_rt 101 = (some FieldType.boolean) := by decide +kernel
theorem na_102 : rb_na 102 = 1 := by decide +kernel
theorem ml_102 : rb_ml 102 = 2 := by decide +kernel
theorem al_102 : rb_al 102 = false := by decide +kernel
theorem rt_102 : rb_rt 102 = none := by decide +kernel
theorem na_103 : rb_na 103 = 3 := by decide +kernel
theorem ml_103 : rb_ml 103 = 4 := by decide +kernel
theorem al_103 : rb_al 103 = false := by decide +kernel
theorem rt_103 : rb_rt 103 = (some FieldType.int) := by decide +kernel
theorem na_104 : rb_na 104 = 1 := by decide +kernel
theorem ml_104 : rb_ml 104 = 1 := by decide +kernel
theorem al_104 : rb_al 104 = false := by decide +kernel
theorem rt_104 : rb_rt 104 = (some FieldType.boolean) := by decide +kernel
theorem na_105 : rb_na 105 = 3 := by decide +kernel
theorem ml_105 : rb_ml 105 = 4 := by decide +kernel
theorem al_105 : rb_al 105 = false := by decide +kernel
theorem rt_105 : rb_rt 105 = (some FieldType.int) := by decide +kernel
theorem na_106 : rb_na 106 = 2 := by decide +kernel
theorem ml_106 : rb_ml 106 = 2 := by decide +kernel
theorem al_106 : rb_al 106 = false := by decide +kernel
theorem rt_106 : rb_rt 106 = (some FieldType.int) := by decide +kernel
theorem na_107 : rb_na 107 = 3 := by decide +kernel
theorem ml_107 : rb_ml 107 = 3 := by decide +kernel
theorem al_107 : rb_al 107 = false := by decide +kernel
theorem rt_107 : rb_rt 107 = (some FieldType.int) := by decide +kernel
theorem na_108 : rb_na 108 = 2 := by decide +kernel
theorem ml_108 : rb_ml 108 = 2 := by decide +kernel
theorem al_108 : rb_al 108 = false := by decide +kernel
theorem rt_108 : rb_rt 108 = (some FieldType.boolean) := by decide +kernel
theorem na_109 : rb_na 109 = 3 := by decide +kernel
theorem ml_109 : rb_ml 109 = 3 := by decide +kernel
theorem al_109 : rb_al 109 = false := by decide +kernel
theorem rt_109 : rb_rt 109 = (some FieldType.int) := by decide +kernel
theorem na_110 : rb_na 110 = 4 := by decide +kernel
theorem ml_110 : rb_ml 110 = 4 := by decide +kernel
theorem al_110 : rb_al 110 = false := by decide +kernel
theorem rt_110 : rb_rt 110 = (some FieldType.int) := by decide +kernel
theorem na_111 : rb_na 111 = 4 := by decide +kernel
theorem ml_111 : rb_ml 111 = 4 := by decide +kernel
theorem al_111 : rb_al 111 = false := by decide +kernel
theorem rt_111 : rb_rt 111 = (some FieldType.boolean) := by decide +kernel
theorem na_112 : rb_na 112 = 2 := by decide +kernel
theorem ml_112 : rb_ml 112 = 2 := by decide +kernel
theorem al_112 : rb_al 112 = false := by decide +kernel
theorem rt_112 : rb_rt 112 = (some FieldType.boolean) := by decide +kernel
theorem na_113 : rb_na 113 = 2 := by decide +kernel
theorem ml_113 : rb_ml 113 = 2 := by decide +kernel
theorem al_113 : rb_al 113 = false := by decide +kernel
theorem rt_113 : rb_rt 113 = (some FieldType.boolean) := by decide +kernel
theorem na_114 : rb_na 114 = 3 := by decide +kernel
theorem ml_114 : rb_ml 114 = 3 := by decide +kernel
theorem al_114 : rb_al 114 = false := by decide +kernel
theorem rt_114 : rb_rt 114 = (some FieldType.int) := by decide +kernel
theorem na_115 : rb_na 115 = 3 := by decide +kernel
theorem ml_115 : rb_ml 115 = 6 := by decide +kernel
theorem al_115 : rb_al 115 = false := by decide +kernel
theorem rt_115 : rb_rt 115 = none := by decide +kernel
theorem na_116 : rb_na 116 = 2 := by decide +kernel
theorem ml_116 : rb_ml 116 = 4 := by decide +kernel
theorem al_116 : rb_al 116 = false := by decide +kernel
theorem rt_116 : rb_rt 116 = (some FieldType.int) := by decide +kernel
theorem na_117 : rb_na 117 = 2 := by decide +kernel
theorem ml_117 : rb_ml 117 = 4 := by decide +kernel
theorem al_117 : rb_al 117 = false := by decide +kernel
theorem rt_117 : rb_rt 117 = (some FieldType.int) := by decide +kernel
theorem na_118 : rb_na 118 = 4 := by decide +kernel
theorem ml_118 : rb_ml 118 = 4 := by decide +kernel
theorem al_118 : rb_al 118 = false := by decide +kernel
theorem rt_118 : rb_rt 118 = (some FieldType.int) := by decide +kernel
theorem na_119 : rb_na 119 = 3 := by decide +kernel
theorem ml_119 : rb_ml 119 = 4 := by decide +kernel
theorem al_119 : rb_al 119 = false := by decide +kernel
theorem rt_119 : rb_rt 119 = none := by decide +kernel
theorem na_120 : rb_na 120 = 4 := by decide +kernel
theorem ml_120 : rb_ml 120 = 5 := by decide +kernel
theorem al_120 : rb_al 120 = false := by decide +kernel
theorem rt_120 : rb_rt 120 = (some FieldType.int) := by decide +kernel
theorem na_121 : rb_na 121 = 3 := by decide +kernel
theorem ml_121 : rb_ml 121 = 3 := by decide +kernel
theorem al_121 : rb_al 121 = false := by decide +kernel
theorem rt_121 : rb_rt 121 = (some FieldType.boolean) := by decide +kernel
theorem na_122 : rb_na 122 = 3 := by decide +kernel
theorem ml_122 : rb_ml 122 = 3 := by decide +kernel
theorem al_122 : rb_al 122 = false := by decide +kernel
theorem rt_122 : rb_rt 122 = (some FieldType.boolean) := by decide +kernel
theorem na_123 : rb_na 123 = 2 := by decide +kernel
theorem ml_123 : rb_ml 123 = 2 := by decide +kernel
theorem al_123 : rb_al 123 = false := by decide +kernel
theorem rt_123 : rb_rt 123 = (some FieldType.int) := by decide +kernel
theorem na_124 : rb_na 124 = 2 := by decide +kernel
theorem ml_124 : rb_ml 124 = 2 := by decide +kernel
theorem al_124 : rb_al 124 = false := by decide +kernel
theorem rt_124 : rb_rt 124 = (some FieldType.int) := by decide +kernel
theorem na_125 : rb_na 125 = 2 := by decide +kernel
theorem ml_125 : rb_ml 125 = 3 := by decide +kernel
theorem al_125 : rb_al 125 = false := by decide +kernel
theorem rt_125 : rb_rt 125 = none := by decide +kernel
theorem na_126 : rb_na 126 = 1 := by decide +kernel
theorem ml_126 : rb_ml 126 = 3 := by decide +kernel
theorem al_126 : rb_al 126 = false := by decide +kernel
theorem rt_126 : rb_rt 126 = (some FieldType.int) := by decide +kernel
theorem na_127 : rb_na 127 = 1 := by decide +kernel
theorem ml_127 : rb_ml 127 = 6 := by decide +kernel
theorem al_127 : rb_al 127 = false := by decide +kernel
theorem rt_127 : rb_rt 127 = (some FieldType.int) := by decide +kernel
theorem na_128 : rb_na 128 = 3 := by decide +kernel
theorem ml_128 : rb_ml 128 = 3 := by decide +kernel
theorem al_128 : rb_al 128 = false := by decide +kernel
theorem rt_128 : rb_rt 128 = (some FieldType.int) := by decide +kernel
theorem na_129 : rb_na 129 = 2 := by decide +kernel
theorem ml_129 : rb_ml 129 = 3 := by decide +kernel
theorem al_129 : rb_al 129 = false := by decide +kernel
theorem rt_129 : rb_rt 129 = (some FieldType.int) := by decide +kernel
theorem na_130 : rb_na 130 = 1 := by decide +kernel
theorem ml_130 : rb_ml 130 = 1 := by decide +kernel
theorem al_130 : rb_al 130 = false := by decide +kernel
theorem rt_130 : rb_rt 130 = none := by decide +kernel
theorem na_131 : rb_na 131 = 1 := by decide +kernel
theorem ml_131 : rb_ml 131 = 2 := by decide +kernel
theorem al_131 : rb_al 131 = false := by decide +kernel
theorem rt_131 : rb_rt 131 = none := by decide +kernel
theorem na_132 : rb_na 132 = 1 := by decide +kernel
theorem ml_132 : rb_ml 132 = 3 := by decide +kernel
theorem al_132 : rb_al 132 = false := by decide +kernel
theorem rt_132 : rb_rt 132 = (some FieldType.int) := by decide +kernel
theorem na_133 : rb_na 133 = 2 := by decide +kernel
theorem ml_133 : rb_ml 133 = 4 := by decide +kernel
theorem al_133 : rb_al 133 = false := by decide +kernel
theorem rt_133 : rb_rt 133 = (some FieldType.int) := by decide +kernel
theorem na_134 : rb_na 134 = 1 := by decide +kernel
theorem ml_134 : rb_ml 134 = 1 := by decide +kernel
theorem al_134 : rb_al 134 = false := by decide +kernel
theorem rt_134 : rb_rt 134 = none := by decide +kernel
theorem na_135 : rb_na 135 = 1 := by decide +kernel
theorem ml_135 : rb_ml 135 = 4 := by decide +kernel
theorem al_135 : rb_al 135 = false := by decide +kernel
theorem rt_135 : rb_rt 135 = none := by decide +kernel
theorem na_136 : rb_na 136 = 1 := by decide +kernel
theorem ml_136 : rb_ml 136 = 5 := by decide +kernel
theorem al_136 : rb_al 136 = false := by decide +kernel
theorem rt_136 : rb_rt 136 = (some FieldType.int) := by decide +kernel
theorem na_137 : rb_na 137 = 1 := by decide +kernel
theorem ml_137 : rb_ml 137 = 1 := by decide +kernel
theorem al_137 : rb_al 137 = false := by decide +kernel
theorem rt_137 : rb_rt 137 = (some FieldType.int) := by decide +kernel
theorem na_138 : rb_na 138 = 1 := by decide +kernel
theorem ml_138 : rb_ml 138 = 2 := by decide +kernel
theorem al_138 : rb_al 138 = false := by decide +kernel
theorem rt_138 : rb_rt 138 = (some FieldType.int) := by decide +kernel
theorem na_139 : rb_na 139 = 2 := by decide +kernel
theorem ml_139 : rb_ml 139 = 2 := by decide +kernel
theorem al_139 : rb_al 139 = false := by decide +kernel
theorem rt_139 : rb_rt 139 = (some FieldType.int) := by decide +kernel
theorem na_140 : rb_na 140 = 1 := by decide +kernel
theorem ml_140 : rb_ml 140 = 3 := by decide +kernel
theorem al_140 : rb_al 140 = false := by decide +kernel
theorem rt_140 : rb_rt 140 = (some FieldType.int) := by decide +kernel
theorem na_141 : rb_na 141 = 1 := by decide +kernel
theorem ml_141 : rb_ml 141 = 3 := by decide +kernel
theorem al_141 : rb_al 141 = false := by decide +kernel
theorem rt_141 : rb_rt 141 = (some FieldType.int) := by decide +kernel
theorem na_142 : rb_na 142 = 2 := by decide +kernel
theorem ml_142 : rb_ml 142 = 2 := by decide +kernel
theorem al_142 : rb_al 142 = false := by decide +kernel
theorem rt_142 : rb_rt 142 = (some FieldType.int) := by decide +kernel
theorem na_143 : rb_na 143 = 3 := by decide +kernel
theorem ml_143 : rb_ml 143 = 3 := by decide +kernel
theorem al_143 : rb_al 143 = false := by decide +kernel
theorem rt_143 : rb_rt 143 = (some FieldType.int) := by decide +kernel
theorem na_144 : rb_na 144 = 2 := by decide +kernel
theorem ml_144 : rb_ml 144 = 2 := by decide +kernel
theorem al_144 : rb_al 144 = false := by decide +kernel
theorem rt_144 : rb_rt 144 = (some FieldType.int) := by decide +kernel
theorem na_145 : rb_na 145 = 2 := by decide +kernel
theorem ml_145 : rb_ml 145 = 2 := by decide +kernel
theorem al_145 : rb_al 145 = false := by decide +kernel
theorem rt_145 : rb_rt 145 = (some FieldType.int) := by decide +kernel
theorem na_146 : rb_na 146 = 3 := by decide +kernel
theorem ml_146 : rb_ml 146 = 3 := by decide +kernel
theorem al_146 : rb_al 146 = false := by decide +kernel
theorem rt_146 : rb_rt 146 = (some FieldType.int) := by decide +kernel
theorem na_147 : rb_na 147 = 3 := by decide +kernel
theorem ml_147 : rb_ml 147 = 3 := by decide +kernel
theorem al_147 : rb_al 147 = false := by decide +kernel
theorem rt_147 : rb_rt 147 = (some FieldType.int) := by decide +kernel
theorem na_148 : rb_na 148 = 4 := by decide +kernel
theorem ml_148 : rb_ml 148 = 4 := by decide +kernel
theorem al_148 : rb_al 148 = false := by decide +kernel
theorem rt_148 : rb_rt 148 = (some FieldType.int) := by decide +kernel
theorem na_149 : rb_na 149 = 3 := by decide +kernel
theorem ml_149 : rb_ml 149 = 5 := by decide +kernel
theorem al_149 : rb_al 149 = false := by decide +kernel
theorem rt_149 : rb_rt 149 = (some FieldType.int) := by decide +kernel
theorem na_150 : rb_na 150 = 3 := by decide +kernel
theorem ml_150 : rb_ml 150 = 5 := by decide +kernel
theorem al_150 : rb_al 150 = false := by decide +kernel
theorem rt_150 : rb_rt 150 = (some FieldType.int) := by decide +kernel
theorem na_151 : rb_na 151 = 2 := by decide +kernel
theorem ml_151 : rb_ml 151 = 2 := by decide +kernel
theorem al_151 : rb_al 151 = false := by decide +kernel
theorem rt_151 : rb_rt 151 = (some FieldType.int) := by decide +kernel
theorem na_152 : rb_na 152 = 1 := by decide +kernel
theorem ml_152 : rb_ml 152 = 3 := by decide +kernel
theorem al_152 : rb_al 152 = false := by decide +kernel
theorem rt_152 : rb_rt 152 = (some FieldType.int) := by decide +kernel
theorem na_153 : rb_na 153 = 1 := by decide +kernel
theorem ml_153 : rb_ml 153 = 2 := by decide +kernel
theorem al_153 : rb_al 153 = false := by decide +kernel
theorem rt_153 : rb_rt 153 = (some FieldType.int) := by decide +kernel
theorem na_154 : rb_na 154 = 1 := by decide +kernel
theorem ml_154 : rb_ml 154 = 2 := by decide +kernel
theorem al_154 : rb_al 154 = false := by decide +kernel
theorem rt_154 : rb_rt 154 = none := by decide +kernel
theorem na_155 : rb_na 155 = 2 := by decide +kernel
theorem ml_155 : rb_ml 155 = 5 := by decide +kernel
theorem al_155 : rb_al 155 = false := by decide +kernel
theorem rt_155 : rb_rt 155 = none := by decide +kernel
theorem na_156 : rb_na 156 = 1 := by decide +kernel
theorem ml_156 : rb_ml 156 = 2 := by decide +kernel
theorem al_156 : rb_al 156 = false := by decide +kernel
theorem rt_156 : rb_rt 156 = none := by decide +kernel
theorem na_157 : rb_na 157 = 2 := by decide +kernel
theorem ml_157 : rb_ml 157 = 2 := by decide +kernel
theorem al_157 : rb_al 157 = false := by decide +kernel
theorem rt_157 : rb_rt 157 = (some FieldType.int) := by decide +kernel
theorem na_158 : rb_na 158 = 3 := by decide +kernel
theorem ml_158 : rb_ml 158 = 4 := by decide +kernel
theorem al_158 : rb_al 158 = false := by decide +kernel
theorem rt_158 : rb_rt 158 = (some FieldType.int) := by decide +kernel
theorem na_159 : rb_na 159 = 1 := by decide +kernel
theorem ml_159 : rb_ml 159 = 1 := by decide +kernel
theorem al_159 : rb_al 159 = false := by decide +kernel
theorem rt_159 : rb_rt 159 = (some FieldType.float) := by decide +kernel
theorem na_160 : rb_na 160 = 2 := by decide +kernel
theorem ml_160 : rb_ml 160 = 3 := by decide +kernel
theorem al_160 : rb_al 160 = false := by decide +kernel
theorem rt_160 : rb_rt 160 = (some FieldType.int) := by decide +kernel
theorem na_161 : rb_na 161 = 1 := by decide +kernel
theorem ml_161 : rb_ml 161 = 1 := by decide +kernel
theorem al_161 : rb_al 161 = false := by decide +kernel
theorem rt_161 : rb_rt 161 = (some FieldType.boolean) := by decide +kernel
theorem na_162 : rb_na 162 = 2 := by decide +kernel
theorem ml_162 : rb_ml 162 = 3 := by decide +kernel
theorem al_162 : rb_al 162 = false := by decide +kernel
theorem rt_162 : rb_rt 162 = (some FieldType.int) := by decide +kernel
theorem na_163 : rb_na 163 = 1 := by decide +kernel
theorem ml_163 : rb_ml 163 = 8 := by decide +kernel
theorem al_163 : rb_al 163 = true := by decide +kernel
theorem rt_163 : rb_rt 163 = (some FieldType.boolean) := by decide +kernel
theorem rb_shS_u {g j q : Nat} (hj : j < 8) (h : (rb_shS g)[q]? = some (.inr (g, 11, j))) : q = j := by
  rcases q with _ | _ | _ | _ | _ | _ | _ | _ | _ | _ | _ | _ | _ | _ | _ | _ | _ | _ | _ | q <;> simp [rb_shS] at h <;> omega
theorem rb_own_st {g : Nat} (h : g < 12) : rb_own g 11 = rb_st g := by unfold rb_own; rw [if_pos h, if_pos rfl]
theorem rb_own_aa {g r : Nat} (h : g < 12) (hr : r < 11) : rb_own g r = rb_aa g r := by unfold rb_own; rw [if_pos h, if_neg (by omega)]
theorem rb_own_mo {r : Nat} (hr : 0 < r) : rb_own 12 r = rb_aa 12 r := by unfold rb_own; rw [if_neg (by omega), if_pos rfl, if_neg (by omega)]
