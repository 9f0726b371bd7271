/-! THE METHODS' ANSWERS, 7: the face of the system -/
def hOK (V : rb_V) (m t rd ph f n : Nat) : Prop := V 0 11 0 = nI m ∧ 2 ≤ m ∧ m ≤ 8 ∧ V 0 11 1 = nI t ∧ 1 ≤ t ∧ t ≤ m ∧ V 0 11 3 = nI rd ∧ rd < 30 ∧ V 0 11 4 = nI ph ∧ ph ≤ 3 ∧ V 13 0 0 = nI f ∧ f < 8 ∧ V 13 0 1 = nI n ∧ n ≤ 8
theorem hRec_0 (V : rb_V) (f n : Nat) : hRec V f n 0 = V 0 := by
  unfold hRec; rw [rb_sg_ne _ _ (by decide), rb_sg_ne _ _ (by omega)]
theorem rb_nmem {x : Int32} {m : Nat} (hm8 : m ≤ 8) (h : 0 ≤ x ∧ x < nI m) : ∃ i, i < m ∧ x = nI i := by
  obtain ⟨i, hi, rfl⟩ := nI_of (Int32.not_lt.mpr h.1)
  exact ⟨i, (nI_ltI hi (by omega)).mp h.2, rfl⟩
theorem rb_mem1 {i m : Nat} (h : i < m) (hm : m ≤ 8) : 0 ≤ nI i ∧ nI i < nI m := ⟨nI_pos' (by omega), nI_lt h (by omega)⟩
section RBM
variable {V : rb_V} {P : Option Value → rb_M → Prop} {i o m t rd ph f n : Nat} {x y z : Int32}
theorem m_isSetting : rb_G none 57 0 [some (.int x)] [] (rb_W V) P ↔ P (some (.int (rb_bi (0 ≤ x ∧ x < 6)))) (rb_W V) := by
  simp only [r57_0, r57_1, r57_4, r57_5, r57_7, r57_10, r57_11, r57_14, r57_15, rb_sg_self, rb_sg_sg, List.length_cons, List.length_nil, Nat.reduceAdd, Nat.reduceLeDiff, Nat.reduceLT, Nat.zero_add, Option.toList_some, Option.toList_none, List.cons_append, List.nil_append, rb_bi_eq0, rb_bi_ne0, rb_okv0, rb_okv1, rb_okvb, ln0, ln1, ln2, ln3, ln4, ln5, ln6, ln7, ln8, ln9, ln10, if_true, if_false, ite_not, Decidable.not_not]
  by_cases h1 : x < 0
  · rw [if_pos h1, rb_bi_neg (fun q => Int32.not_le.mpr h1 q.1)]
  · rw [if_neg h1]
    by_cases h2 : 6 ≤ x
    · rw [if_pos h2, rb_bi_neg (fun q => Int32.not_le.mpr q.2 h2)]
    · rw [if_neg h2, rb_bi_pos ⟨Int32.not_lt.mp h1, Int32.not_le.mp h2⟩]
theorem m_isSecret : rb_G none 63 0 [some (.int x)] [] (rb_W V) P ↔ P (some (.int (rb_bi (0 ≤ x ∧ x < 256)))) (rb_W V) := by
  simp only [r63_0, r63_1, r63_4, r63_5, r63_8, r63_11, r63_12, r63_15, r63_16, rb_sg_self, rb_sg_sg, List.length_cons, List.length_nil, Nat.reduceAdd, Nat.reduceLeDiff, Nat.reduceLT, Nat.zero_add, Option.toList_some, Option.toList_none, List.cons_append, List.nil_append, rb_bi_eq0, rb_bi_ne0, rb_okv0, rb_okv1, rb_okvb, ln0, ln1, ln2, ln3, ln4, ln5, ln6, ln7, ln8, ln9, ln10, if_true, if_false, ite_not, Decidable.not_not]
  by_cases h1 : x < 0
  · rw [if_pos h1, rb_bi_neg (fun q => Int32.not_le.mpr h1 q.1)]
  · rw [if_neg h1]
    by_cases h2 : 256 ≤ x
    · rw [if_pos h2, rb_bi_neg (fun q => Int32.not_le.mpr q.2 h2)]
    · rw [if_neg h2, rb_bi_pos ⟨Int32.not_lt.mp h1, Int32.not_le.mp h2⟩]
theorem m_isSalt : rb_G none 64 0 [some (.int x)] [] (rb_W V) P ↔ P (some (.int (rb_bi (0 ≤ x ∧ x < 1000)))) (rb_W V) := by
  simp only [r64_0, r64_1, r64_4, r64_5, r64_8, r64_11, r64_12, r64_15, r64_16, rb_sg_self, rb_sg_sg, List.length_cons, List.length_nil, Nat.reduceAdd, Nat.reduceLeDiff, Nat.reduceLT, Nat.zero_add, Option.toList_some, Option.toList_none, List.cons_append, List.nil_append, rb_bi_eq0, rb_bi_ne0, rb_okv0, rb_okv1, rb_okvb, ln0, ln1, ln2, ln3, ln4, ln5, ln6, ln7, ln8, ln9, ln10, if_true, if_false, ite_not, Decidable.not_not]
  by_cases h1 : x < 0
  · rw [if_pos h1, rb_bi_neg (fun q => Int32.not_le.mpr h1 q.1)]
  · rw [if_neg h1]
    by_cases h2 : 1000 ≤ x
    · rw [if_pos h2, rb_bi_neg (fun q => Int32.not_le.mpr q.2 h2)]
    · rw [if_neg h2, rb_bi_pos ⟨Int32.not_lt.mp h1, Int32.not_le.mp h2⟩]
theorem m_lowest : rb_G none 58 0 [some (.int x)] [] (rb_W V) P ↔ P (some (.int (if x < 3 then 1 else 0))) (rb_W V) := by
  simp only [r58_0, r58_1, r58_2, r58_5, r58_6, r58_9, r58_10, rb_sg_self, rb_sg_sg, List.length_cons, List.length_nil, Nat.reduceAdd, Nat.reduceLeDiff, Nat.reduceLT, Nat.zero_add, Option.toList_some, Option.toList_none, List.cons_append, List.nil_append, rb_bi_eq0, rb_bi_ne0, rb_okv0, rb_okv1, rb_okvb, ln0, ln1, ln2, ln3, ln4, ln5, ln6, ln7, ln8, ln9, ln10, if_true, if_false, ite_not, Decidable.not_not]
  by_cases h : x < 3
  · have h' : ¬ 3 ≤ x := Int32.not_le.mpr h
    simp only [if_pos h, if_neg h']
  · have h' : 3 ≤ x := Int32.not_lt.mp h
    simp only [if_neg h, if_pos h']
theorem m_highest : rb_G none 59 0 [some (.int x)] [] (rb_W V) P ↔ P (some (.int (if x = 5 then 1 else 20))) (rb_W V) := by
  simp only [r59_0, r59_1, r59_2, r59_5, r59_6, r59_9, r59_11, rb_sg_self, rb_sg_sg, List.length_cons, List.length_nil, Nat.reduceAdd, Nat.reduceLeDiff, Nat.reduceLT, Nat.zero_add, Option.toList_some, Option.toList_none, List.cons_append, List.nil_append, rb_bi_eq0, rb_bi_ne0, rb_okv0, rb_okv1, rb_okvb, ln0, ln1, ln2, ln3, ln4, ln5, ln6, ln7, ln8, ln9, ln10, if_true, if_false, ite_not, Decidable.not_not]
  by_cases h : x = 5
  · simp only [if_pos h]
  · simp only [if_neg h]
theorem q_begin (H : hOK V m t rd ph f n) : rb_G none 52 0 [some (.ref 0), some (.int x), some (.int y), none] [] (rb_W V) P ↔ (if x < 2 ∨ 8 < x ∨ y < 1 ∨ x < y then P (some (.int (-1))) (rb_W V) else P (some (.int (V 0 11 3 + 1))) (rb_W (rb_sg (hRec V f n) 0 (cRest (V 0) x y)))) := by
  obtain ⟨hm, hm2, hm8, ht, ht1, htm, hrd, hrd30, hph, hph3, hf, hf8, hn, hn8⟩ := H
  simp only [r52_0, r52_1, r52_2, r52_5, r52_6, r52_8, r52_11, r52_12, r52_13, r52_14, r52_15, r52_18, r52_19, r52_20, r52_23, r52_24, r52_25, r52_26, r52_29, r52_32, r52_33, r52_34, r52_35, r52_36, r52_39, r52_40, r52_43, r52_46, r52_47, r52_50, r52_51, r52_52, r52_55, r52_56, m_record hf hf8 hn hn8, m_restart, hRec_0, rb_sg_self, rb_sg_sg, List.length_cons, List.length_nil, Nat.reduceAdd, Nat.reduceLeDiff, Nat.reduceLT, Nat.zero_add, Option.toList_some, Option.toList_none, List.cons_append, List.nil_append, rb_bi_eq0, rb_bi_ne0, rb_okv0, rb_okv1, rb_okvb, ln0, ln1, ln2, ln3, ln4, ln5, ln6, ln7, ln8, ln9, ln10, if_true, if_false, ite_not, Decidable.not_not]
  by_cases h1 : x < 2
  · simp only [if_pos h1, h1, if_true, if_false, and_self, true_and, and_true, not_true_eq_false, not_false_eq_true, false_and, and_false, or_self, true_or, or_true, false_or, or_false, if_true]
  · by_cases h2 : x ≤ 8
    · have h2' : ¬ 8 < x := Int32.not_lt.mpr h2
      by_cases h3 : y < 1
      · simp only [if_neg h1, if_pos h2, if_pos h3, h1, h2', h3, if_true, if_false, and_self, true_and, and_true, not_true_eq_false, not_false_eq_true, false_and, and_false, or_self, true_or, or_true, false_or, or_false, if_true]
      · by_cases h4 : y ≤ x
        · have h4' : ¬ x < y := Int32.not_lt.mpr h4
          simp only [if_neg h1, if_pos h2, if_neg h3, if_pos h4, h1, h2', h3, h4', if_true, if_false, and_self, true_and, and_true, not_true_eq_false, not_false_eq_true, false_and, and_false, or_self, true_or, or_true, false_or, or_false, if_false]
        · have h4' : x < y := Int32.not_le.mp h4
          simp only [if_neg h1, if_pos h2, if_neg h3, if_neg h4, h1, h2', h3, h4', if_true, if_false, and_self, true_and, and_true, not_true_eq_false, not_false_eq_true, false_and, and_false, or_self, true_or, or_true, false_or, or_false, if_true]
    · have h2' : 8 < x := Int32.not_le.mp h2
      simp only [if_neg h1, if_neg h2, h1, h2', if_true, if_false, and_self, true_and, and_true, not_true_eq_false, not_false_eq_true, false_and, and_false, or_self, true_or, or_true, false_or, or_false, if_true]
theorem q_set_b (h : ¬ ((0 ≤ x ∧ x < 6) ∧ ¬ y < (if x < 3 then 1 else 0) ∧ y ≤ (if x = 5 then 1 else 20))) : rb_G none 56 0 [some (.ref 0), some (.int x), some (.int y), none] [] (rb_W V) P ↔ P (some (.int (-1))) (rb_W V) := by
  simp only [r56_0, r56_1, r56_4, r56_7, r56_8, r56_9, r56_12, r56_15, r56_16, r56_17, r56_20, r56_23, r56_24, m_isSetting, m_lowest, m_highest, rb_sg_self, rb_sg_sg, List.length_cons, List.length_nil, Nat.reduceAdd, Nat.reduceLeDiff, Nat.reduceLT, Nat.zero_add, Option.toList_some, Option.toList_none, List.cons_append, List.nil_append, rb_bi_eq0, rb_bi_ne0, rb_okv0, rb_okv1, rb_okvb, ln0, ln1, ln2, ln3, ln4, ln5, ln6, ln7, ln8, ln9, ln10, if_true, if_false, ite_not, Decidable.not_not]
  by_cases h1 : 0 ≤ x ∧ x < 6
  · by_cases h2 : y < (if x < 3 then 1 else 0)
    · simp only [if_pos h1, if_pos h2]
    · have h3 : ¬ y ≤ (if x = 5 then 1 else 20) := fun q => h ⟨h1, h2, q⟩
      simp only [if_pos h1, if_neg h2, if_neg h3]
  · simp only [if_neg h1]
theorem q_set_k (H : hOK V m t rd ph f n) (hi : i < 6) (h2 : ¬ y < (if nI i < 3 then 1 else 0)) (h3 : y ≤ (if nI i = 5 then 1 else 20)) : rb_G none 56 0 [some (.ref 0), some (.int (nI i)), some (.int y), none] [] (rb_W V) P ↔ P (some (.int (V 0 0 i))) (rb_W (rb_sg (hRec V f n) 0 (rb_u2 (V 0) 0 i y))) := by
  obtain ⟨hm, hm2, hm8, ht, ht1, htm, hrd, hrd30, hph, hph3, hf, hf8, hn, hn8⟩ := H
  have h1 : 0 ≤ nI i ∧ nI i < 6 := ⟨nI_pos' (by omega), nI_lt (b := 6) hi (by omega)⟩
  simp only [r56_0, r56_1, r56_4, r56_7, r56_8, r56_9, r56_12, r56_15, r56_16, r56_17, r56_20, r56_23, r56_24, r56_25, r56_26, r56_29, r56_30, r56_33, r56_36, r56_37, r56_40, r56_43, r56_44, r56_47, r56_48, r56_49, r56_52, r56_55, r56_56, r56_57, r56_60, r56_61, m_isSetting, m_lowest, m_highest, m_record hf hf8 hn hn8, m_at, m_put (a2 := none), hRec_0, if_pos h1, if_neg h2, if_pos h3, hi, rb_sg_self, rb_sg_sg, List.length_cons, List.length_nil, Nat.reduceAdd, Nat.reduceLeDiff, Nat.reduceLT, Nat.zero_add, Option.toList_some, Option.toList_none, List.cons_append, List.nil_append, rb_bi_eq0, rb_bi_ne0, rb_okv0, rb_okv1, rb_okvb, ln0, ln1, ln2, ln3, ln4, ln5, ln6, ln7, ln8, ln9, ln10, if_true, if_false, ite_not, Decidable.not_not]
theorem q_setSeed (H : hOK V m t rd ph f n) : rb_G none 55 0 [some (.ref 0), some (.int x), none] [] (rb_W V) P ↔ (if x < 0 then P (some (.int (-1))) (rb_W V) else P (some (.int (V 0 11 7))) (rb_W (rb_sg (hRec V f n) 0 (rb_u2 (V 0) 11 7 x)))) := by
  obtain ⟨hm, hm2, hm8, ht, ht1, htm, hrd, hrd30, hph, hph3, hf, hf8, hn, hn8⟩ := H
  simp only [r55_0, r55_1, r55_4, r55_5, r55_6, r55_7, r55_10, r55_11, r55_14, r55_17, r55_18, r55_21, r55_24, r55_25, r55_26, r55_29, r55_30, r55_33, r55_34, m_record hf hf8 hn hn8, hRec_0, rb_sg_self, rb_sg_sg, List.length_cons, List.length_nil, Nat.reduceAdd, Nat.reduceLeDiff, Nat.reduceLT, Nat.zero_add, Option.toList_some, Option.toList_none, List.cons_append, List.nil_append, rb_bi_eq0, rb_bi_ne0, rb_okv0, rb_okv1, rb_okvb, ln0, ln1, ln2, ln3, ln4, ln5, ln6, ln7, ln8, ln9, ln10, if_true, if_false, ite_not, Decidable.not_not]
  by_cases h : x < 0
  · have h' : ¬ 0 ≤ x := Int32.not_le.mpr h
    simp only [if_pos h, if_neg h']
  · have h' : 0 ≤ x := Int32.not_lt.mp h
    simp only [if_neg h, if_pos h']
theorem q_turn_b (h : ¬ ((0 ≤ x ∧ x < V 0 11 0) ∧ ¬ y < 0 ∧ y ≤ 1)) : rb_G none 60 0 [some (.ref 0), some (.int x), some (.int y), none] [] (rb_W V) P ↔ P (some (.int (-1))) (rb_W V) := by
  simp only [r60_0, r60_1, r60_4, r60_5, r60_8, r60_11, r60_12, r60_15, r60_16, r60_17, r60_20, r60_21, r60_22, r60_23, r60_26, r60_27, r60_30, r60_33, r60_34, r60_37, r60_40, r60_41, r60_44, r60_45, r60_46, r60_49, r60_52, r60_53, r60_54, r60_57, r60_58, m_isMember, rb_sg_self, rb_sg_sg, List.length_cons, List.length_nil, Nat.reduceAdd, Nat.reduceLeDiff, Nat.reduceLT, Nat.zero_add, Option.toList_some, Option.toList_none, List.cons_append, List.nil_append, rb_bi_eq0, rb_bi_ne0, rb_okv0, rb_okv1, rb_okvb, ln0, ln1, ln2, ln3, ln4, ln5, ln6, ln7, ln8, ln9, ln10, if_true, if_false, ite_not, Decidable.not_not]
  by_cases h1 : 0 ≤ x ∧ x < V 0 11 0
  · by_cases h2 : y < 0
    · simp only [if_pos h1, if_pos h2]
    · have h3 : ¬ y ≤ 1 := fun q => h ⟨h1, h2, q⟩
      simp only [if_pos h1, if_neg h2, if_neg h3]
  · simp only [if_neg h1]
theorem q_turn_k (H : hOK V m t rd ph f n) (hi : i < m) (h2 : ¬ y < 0) (h3 : y ≤ 1) : rb_G none 60 0 [some (.ref 0), some (.int (nI i)), some (.int y), none] [] (rb_W V) P ↔ P (some (.int (V 0 3 i))) (rb_W (rb_sg (hRec V f n) 0 (rb_u2 (V 0) 3 i y))) := by
  obtain ⟨hm, hm2, hm8, ht, ht1, htm, hrd, hrd30, hph, hph3, hf, hf8, hn, hn8⟩ := H
  have h1 := rb_mem1 hi hm8
  have hi8 : i < 8 := by omega
  simp only [r60_0, r60_1, r60_4, r60_5, r60_8, r60_11, r60_12, r60_15, r60_16, r60_17, r60_20, r60_21, r60_22, r60_23, r60_26, r60_27, r60_30, r60_33, r60_34, r60_37, r60_40, r60_41, r60_44, r60_45, r60_46, r60_49, r60_52, r60_53, r60_54, r60_57, r60_58, m_isMember, m_record hf hf8 hn hn8, m_at, m_put (a2 := none), hRec_0, hm, if_pos h1, if_neg h2, if_pos h3, hi8, rb_sg_self, rb_sg_sg, List.length_cons, List.length_nil, Nat.reduceAdd, Nat.reduceLeDiff, Nat.reduceLT, Nat.zero_add, Option.toList_some, Option.toList_none, List.cons_append, List.nil_append, rb_bi_eq0, rb_bi_ne0, rb_okv0, rb_okv1, rb_okvb, ln0, ln1, ln2, ln3, ln4, ln5, ln6, ln7, ln8, ln9, ln10, if_true, if_false, ite_not, Decidable.not_not]
theorem q_pay_b (h : ¬ ((0 ≤ x ∧ x < V 0 11 0) ∧ ¬ y < 1 ∧ y ≤ 50)) : rb_G none 61 0 [some (.ref 0), some (.int x), some (.int y)] [] (rb_W V) P ↔ P (some (.int (-1))) (rb_W V) := by
  simp only [r61_0, r61_1, r61_4, r61_5, r61_8, r61_11, r61_12, r61_13, r61_16, r61_17, r61_19, r61_22, r61_23, r61_24, r61_25, r61_28, r61_31, r61_32, r61_35, r61_36, r61_37, r61_40, r61_43, r61_45, r61_46, r61_47, r61_50, r61_51, r61_54, r61_57, r61_58, r61_61, r61_64, r61_65, r61_66, r61_69, r61_70, r61_73, r61_76, r61_77, r61_80, m_isMember, rb_sg_self, rb_sg_sg, List.length_cons, List.length_nil, Nat.reduceAdd, Nat.reduceLeDiff, Nat.reduceLT, Nat.zero_add, Option.toList_some, Option.toList_none, List.cons_append, List.nil_append, rb_bi_eq0, rb_bi_ne0, rb_okv0, rb_okv1, rb_okvb, ln0, ln1, ln2, ln3, ln4, ln5, ln6, ln7, ln8, ln9, ln10, if_true, if_false, ite_not, Decidable.not_not]
  by_cases h1 : 0 ≤ x ∧ x < V 0 11 0
  · by_cases h2 : y < 1
    · simp only [if_pos h1, if_pos h2]
    · have h3 : ¬ y ≤ 50 := fun q => h ⟨h1, h2, q⟩
      simp only [if_pos h1, if_neg h2, if_neg h3]
  · simp only [if_neg h1]
theorem q_pay_k (H : hOK V m t rd ph f n) (hi : i < m) (h2 : ¬ y < 1) (h3 : y ≤ 50) : rb_G none 61 0 [some (.ref 0), some (.int (nI i)), some (.int y)] [] (rb_W V) P ↔ (if V 0 2 i + y ≤ 999 then P (some (.int (V 0 2 i + y))) (rb_W (rb_sg (hRec V f n) 0 (rb_u2 (V 0) 2 i (V 0 2 i + y)))) else P (some (.int (-3))) (rb_W V)) := by
  obtain ⟨hm, hm2, hm8, ht, ht1, htm, hrd, hrd30, hph, hph3, hf, hf8, hn, hn8⟩ := H
  have h1 := rb_mem1 hi hm8
  have hi8 : i < 8 := by omega
  simp only [r61_0, r61_1, r61_4, r61_5, r61_8, r61_11, r61_12, r61_13, r61_16, r61_17, r61_19, r61_22, r61_23, r61_24, r61_25, r61_28, r61_31, r61_32, r61_35, r61_36, r61_37, r61_40, r61_43, r61_45, r61_46, r61_47, r61_50, r61_51, r61_54, r61_57, r61_58, r61_61, r61_64, r61_65, r61_66, r61_69, r61_70, r61_73, r61_76, r61_77, r61_80, m_isMember, m_record hf hf8 hn hn8, m_at, m_add, hRec_0, hm, if_pos h1, if_neg h2, if_pos h3, hi8, rb_sg_self, rb_sg_sg, List.length_cons, List.length_nil, Nat.reduceAdd, Nat.reduceLeDiff, Nat.reduceLT, Nat.zero_add, Option.toList_some, Option.toList_none, List.cons_append, List.nil_append, rb_bi_eq0, rb_bi_ne0, rb_okv0, rb_okv1, rb_okvb, ln0, ln1, ln2, ln3, ln4, ln5, ln6, ln7, ln8, ln9, ln10, if_true, if_false, ite_not, Decidable.not_not, rb_u2_row, rb_u2_at, rb_u2_ne, ne_eq, Nat.reduceEqDiff, not_false_eq_true, reduceCtorEq]
end RBM
