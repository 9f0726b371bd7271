/-! THE METHODS' ANSWERS, 7: the face of the system -/
def hOK (V : rb_V) (m t rd ph f n : Nat) : Prop := V 0 11 0 = nI m ∧ 2 ≤ m ∧ m ≤ 8 ∧ V 0 11 1 = nI t ∧ 1 ≤ t ∧ t ≤ m ∧ V 0 11 3 = nI rd ∧ rd < 30 ∧ V 0 11 4 = nI ph ∧ ph ≤ 3 ∧ V 13 0 0 = nI f ∧ f < 8 ∧ V 13 0 1 = nI n ∧ n ≤ 8
theorem hRec_0 (V : rb_V) (f n : Nat) : hRec V f n 0 = V 0 := by
  unfold hRec; rw [rb_sg_ne _ _ (by decide), rb_sg_ne _ _ (by omega)]
theorem rb_nmem {x : Int32} {m : Nat} (hm8 : m ≤ 8) (h : 0 ≤ x ∧ x < nI m) : ∃ i, i < m ∧ x = nI i := by
  obtain ⟨i, hi, rfl⟩ := nI_of (Int32.not_lt.mpr h.1)
  exact ⟨i, (nI_ltI hi (by omega)).mp h.2, rfl⟩
theorem rb_mem1 {i m : Nat} (h : i < m) (hm : m ≤ 8) : 0 ≤ nI i ∧ nI i < nI m := ⟨nI_pos' (by omega), nI_lt h (by omega)⟩
section RBM
variable {V : rb_V} {P : Option Value → rb_M → Prop} {i o m t rd ph f n : Nat} {x y z : Int32}
theorem m_isSetting : rb_G none 17 0 [some (.int x)] [] (rb_W V) P ↔ P (some (.int (rb_bi (0 ≤ x ∧ x < 6)))) (rb_W V) := by
  simp only [r17_0, r17_1, r17_4, r17_5, r17_7, r17_10, r17_11, r17_14, r17_15, rb_sg_self, rb_sg_sg, List.length_cons, List.length_nil, Nat.reduceAdd, Nat.reduceLeDiff, Nat.reduceLT, Nat.zero_add, Option.toList_some, Option.toList_none, List.cons_append, List.nil_append, rb_bi_eq0, rb_bi_ne0, rb_okv0, rb_okv1, rb_okvb, ln0, ln1, ln2, ln3, ln4, ln5, ln6, ln7, ln8, ln9, ln10, if_true, if_false, ite_not, Decidable.not_not]
  by_cases h1 : x < 0
  · rw [if_pos h1, rb_bi_neg (fun q => Int32.not_le.mpr h1 q.1)]
  · rw [if_neg h1]
    by_cases h2 : 6 ≤ x
    · rw [if_pos h2, rb_bi_neg (fun q => Int32.not_le.mpr q.2 h2)]
    · rw [if_neg h2, rb_bi_pos ⟨Int32.not_lt.mp h1, Int32.not_le.mp h2⟩]
theorem m_isSecret : rb_G none 27 0 [some (.int x)] [] (rb_W V) P ↔ P (some (.int (rb_bi (0 ≤ x ∧ x < 256)))) (rb_W V) := by
  simp only [r27_0, r27_1, r27_4, r27_5, r27_8, r27_11, r27_12, r27_15, r27_16, rb_sg_self, rb_sg_sg, List.length_cons, List.length_nil, Nat.reduceAdd, Nat.reduceLeDiff, Nat.reduceLT, Nat.zero_add, Option.toList_some, Option.toList_none, List.cons_append, List.nil_append, rb_bi_eq0, rb_bi_ne0, rb_okv0, rb_okv1, rb_okvb, ln0, ln1, ln2, ln3, ln4, ln5, ln6, ln7, ln8, ln9, ln10, if_true, if_false, ite_not, Decidable.not_not]
  by_cases h1 : x < 0
  · rw [if_pos h1, rb_bi_neg (fun q => Int32.not_le.mpr h1 q.1)]
  · rw [if_neg h1]
    by_cases h2 : 256 ≤ x
    · rw [if_pos h2, rb_bi_neg (fun q => Int32.not_le.mpr q.2 h2)]
    · rw [if_neg h2, rb_bi_pos ⟨Int32.not_lt.mp h1, Int32.not_le.mp h2⟩]
theorem m_isSalt : rb_G none 28 0 [some (.int x)] [] (rb_W V) P ↔ P (some (.int (rb_bi (0 ≤ x ∧ x < 1000)))) (rb_W V) := by
  simp only [r28_0, r28_1, r28_4, r28_5, r28_8, r28_11, r28_12, r28_15, r28_16, rb_sg_self, rb_sg_sg, List.length_cons, List.length_nil, Nat.reduceAdd, Nat.reduceLeDiff, Nat.reduceLT, Nat.zero_add, Option.toList_some, Option.toList_none, List.cons_append, List.nil_append, rb_bi_eq0, rb_bi_ne0, rb_okv0, rb_okv1, rb_okvb, ln0, ln1, ln2, ln3, ln4, ln5, ln6, ln7, ln8, ln9, ln10, if_true, if_false, ite_not, Decidable.not_not]
  by_cases h1 : x < 0
  · rw [if_pos h1, rb_bi_neg (fun q => Int32.not_le.mpr h1 q.1)]
  · rw [if_neg h1]
    by_cases h2 : 1000 ≤ x
    · rw [if_pos h2, rb_bi_neg (fun q => Int32.not_le.mpr q.2 h2)]
    · rw [if_neg h2, rb_bi_pos ⟨Int32.not_lt.mp h1, Int32.not_le.mp h2⟩]
theorem m_lowest : rb_G none 18 0 [some (.int x)] [] (rb_W V) P ↔ P (some (.int (if x < 3 then 1 else 0))) (rb_W V) := by
  simp only [r18_0, r18_1, r18_2, r18_5, r18_6, r18_9, r18_10, rb_sg_self, rb_sg_sg, List.length_cons, List.length_nil, Nat.reduceAdd, Nat.reduceLeDiff, Nat.reduceLT, Nat.zero_add, Option.toList_some, Option.toList_none, List.cons_append, List.nil_append, rb_bi_eq0, rb_bi_ne0, rb_okv0, rb_okv1, rb_okvb, ln0, ln1, ln2, ln3, ln4, ln5, ln6, ln7, ln8, ln9, ln10, if_true, if_false, ite_not, Decidable.not_not]
  by_cases h : x < 3
  · have h' : ¬ 3 ≤ x := Int32.not_le.mpr h
    simp only [if_pos h, if_neg h']
  · have h' : 3 ≤ x := Int32.not_lt.mp h
    simp only [if_neg h, if_pos h']
theorem m_highest : rb_G none 19 0 [some (.int x)] [] (rb_W V) P ↔ P (some (.int (if x = 5 then 1 else 20))) (rb_W V) := by
  simp only [r19_0, r19_1, r19_2, r19_5, r19_6, r19_9, r19_11, rb_sg_self, rb_sg_sg, List.length_cons, List.length_nil, Nat.reduceAdd, Nat.reduceLeDiff, Nat.reduceLT, Nat.zero_add, Option.toList_some, Option.toList_none, List.cons_append, List.nil_append, rb_bi_eq0, rb_bi_ne0, rb_okv0, rb_okv1, rb_okvb, ln0, ln1, ln2, ln3, ln4, ln5, ln6, ln7, ln8, ln9, ln10, if_true, if_false, ite_not, Decidable.not_not]
  by_cases h : x = 5
  · simp only [if_pos h]
  · simp only [if_neg h]
theorem q_begin (H : hOK V m t rd ph f n) : rb_G none 10 0 [some (.ref 0), some (.int x), some (.int y), none] [] (rb_W V) P ↔ (if x < 2 ∨ 8 < x ∨ y < 1 ∨ x < y then P (some (.int (-1))) (rb_W V) else P (some (.int (V 0 11 3 + 1))) (rb_W (rb_sg (hRec V f n) 0 (cRest (V 0) x y)))) := by
  obtain ⟨hm, hm2, hm8, ht, ht1, htm, hrd, hrd30, hph, hph3, hf, hf8, hn, hn8⟩ := H
  simp only [r10_0, r10_1, r10_2, r10_5, r10_6, r10_8, r10_11, r10_12, r10_13, r10_14, r10_15, r10_18, r10_19, r10_20, r10_23, r10_24, r10_25, r10_26, r10_29, r10_32, r10_33, r10_34, r10_35, r10_36, r10_39, r10_40, r10_43, r10_46, r10_47, r10_50, r10_51, r10_52, r10_55, r10_56, m_record hf hf8 hn hn8, m_restart, hRec_0, rb_sg_self, rb_sg_sg, List.length_cons, List.length_nil, Nat.reduceAdd, Nat.reduceLeDiff, Nat.reduceLT, Nat.zero_add, Option.toList_some, Option.toList_none, List.cons_append, List.nil_append, rb_bi_eq0, rb_bi_ne0, rb_okv0, rb_okv1, rb_okvb, ln0, ln1, ln2, ln3, ln4, ln5, ln6, ln7, ln8, ln9, ln10, if_true, if_false, ite_not, Decidable.not_not]
  by_cases h1 : x < 2
  · simp only [if_pos h1, h1, if_true, if_false, and_self, true_and, and_true, not_true_eq_false, not_false_eq_true, false_and, and_false, or_self, true_or, or_true, false_or, or_false, if_true]
  · by_cases h2 : x ≤ 8
    · have h2' : ¬ 8 < x := Int32.not_lt.mpr h2
      by_cases h3 : y < 1
      · simp only [if_neg h1, if_pos h2, if_pos h3, h1, h2', h3, if_true, if_false, and_self, true_and, and_true, not_true_eq_false, not_false_eq_true, false_and, and_false, or_self, true_or, or_true, false_or, or_false, if_true]
      · by_cases h4 : y ≤ x
        · have h4' : ¬ x < y := Int32.not_lt.mpr h4
          simp only [if_neg h1, if_pos h2, if_neg h3, if_pos h4, h1, h2', h3, h4', if_true, if_false, and_self, true_and, and_true, not_true_eq_false, not_false_eq_true, false_and, and_false, or_self, true_or, or_true, false_or, or_false, if_false]
        · have h4' : x < y := Int32.not_le.mp h4
          simp only [if_neg h1, if_pos h2, if_neg h3, if_neg h4, h1, h2', h3, h4', if_true, if_false, and_self, true_and, and_true, not_true_eq_false, not_false_eq_true, false_and, and_false, or_self, true_or, or_true, false_or, or_false, if_true]
    · have h2' : 8 < x := Int32.not_le.mp h2
      simp only [if_neg h1, if_neg h2, h1, h2', if_true, if_false, and_self, true_and, and_true, not_true_eq_false, not_false_eq_true, false_and, and_false, or_self, true_or, or_true, false_or, or_false, if_true]
theorem q_set_b (h : ¬ ((0 ≤ x ∧ x < 6) ∧ ¬ y < (if x < 3 then 1 else 0) ∧ y ≤ (if x = 5 then 1 else 20))) : rb_G none 16 0 [some (.ref 0), some (.int x), some (.int y), none] [] (rb_W V) P ↔ P (some (.int (-1))) (rb_W V) := by
  simp only [r16_0, r16_1, r16_4, r16_7, r16_8, r16_9, r16_12, r16_15, r16_16, r16_17, r16_20, r16_23, r16_24, m_isSetting, m_lowest, m_highest, rb_sg_self, rb_sg_sg, List.length_cons, List.length_nil, Nat.reduceAdd, Nat.reduceLeDiff, Nat.reduceLT, Nat.zero_add, Option.toList_some, Option.toList_none, List.cons_append, List.nil_append, rb_bi_eq0, rb_bi_ne0, rb_okv0, rb_okv1, rb_okvb, ln0, ln1, ln2, ln3, ln4, ln5, ln6, ln7, ln8, ln9, ln10, if_true, if_false, ite_not, Decidable.not_not]
  by_cases h1 : 0 ≤ x ∧ x < 6
  · by_cases h2 : y < (if x < 3 then 1 else 0)
    · simp only [if_pos h1, if_pos h2]
    · have h3 : ¬ y ≤ (if x = 5 then 1 else 20) := fun q => h ⟨h1, h2, q⟩
      simp only [if_pos h1, if_neg h2, if_neg h3]
  · simp only [if_neg h1]
theorem q_set_k (H : hOK V m t rd ph f n) (hi : i < 6) (h2 : ¬ y < (if nI i < 3 then 1 else 0)) (h3 : y ≤ (if nI i = 5 then 1 else 20)) : rb_G none 16 0 [some (.ref 0), some (.int (nI i)), some (.int y), none] [] (rb_W V) P ↔ P (some (.int (V 0 0 i))) (rb_W (rb_sg (hRec V f n) 0 (rb_u2 (V 0) 0 i y))) := by
  obtain ⟨hm, hm2, hm8, ht, ht1, htm, hrd, hrd30, hph, hph3, hf, hf8, hn, hn8⟩ := H
  have h1 : 0 ≤ nI i ∧ nI i < 6 := ⟨nI_pos' (by omega), nI_lt (b := 6) hi (by omega)⟩
  simp only [r16_0, r16_1, r16_4, r16_7, r16_8, r16_9, r16_12, r16_15, r16_16, r16_17, r16_20, r16_23, r16_24, r16_25, r16_26, r16_29, r16_30, r16_33, r16_36, r16_37, r16_40, r16_43, r16_44, r16_47, r16_48, r16_49, r16_52, r16_55, r16_56, r16_57, r16_60, r16_61, m_isSetting, m_lowest, m_highest, m_record hf hf8 hn hn8, m_at, m_put (a2 := none), hRec_0, if_pos h1, if_neg h2, if_pos h3, hi, rb_sg_self, rb_sg_sg, List.length_cons, List.length_nil, Nat.reduceAdd, Nat.reduceLeDiff, Nat.reduceLT, Nat.zero_add, Option.toList_some, Option.toList_none, List.cons_append, List.nil_append, rb_bi_eq0, rb_bi_ne0, rb_okv0, rb_okv1, rb_okvb, ln0, ln1, ln2, ln3, ln4, ln5, ln6, ln7, ln8, ln9, ln10, if_true, if_false, ite_not, Decidable.not_not]
theorem q_setSeed (H : hOK V m t rd ph f n) : rb_G none 21 0 [some (.ref 0), some (.int x), none] [] (rb_W V) P ↔ (if x < 0 then P (some (.int (-1))) (rb_W V) else P (some (.int (V 0 11 7))) (rb_W (rb_sg (hRec V f n) 0 (rb_u2 (V 0) 11 7 x)))) := by
  obtain ⟨hm, hm2, hm8, ht, ht1, htm, hrd, hrd30, hph, hph3, hf, hf8, hn, hn8⟩ := H
  simp only [r21_0, r21_1, r21_4, r21_5, r21_6, r21_7, r21_10, r21_11, r21_14, r21_17, r21_18, r21_21, r21_24, r21_25, r21_26, r21_29, r21_30, r21_33, r21_34, m_record hf hf8 hn hn8, hRec_0, rb_sg_self, rb_sg_sg, List.length_cons, List.length_nil, Nat.reduceAdd, Nat.reduceLeDiff, Nat.reduceLT, Nat.zero_add, Option.toList_some, Option.toList_none, List.cons_append, List.nil_append, rb_bi_eq0, rb_bi_ne0, rb_okv0, rb_okv1, rb_okvb, ln0, ln1, ln2, ln3, ln4, ln5, ln6, ln7, ln8, ln9, ln10, if_true, if_false, ite_not, Decidable.not_not]
  by_cases h : x < 0
  · have h' : ¬ 0 ≤ x := Int32.not_le.mpr h
    simp only [if_pos h, if_neg h']
  · have h' : 0 ≤ x := Int32.not_lt.mp h
    simp only [if_neg h, if_pos h']
theorem q_turn_b (h : ¬ ((0 ≤ x ∧ x < V 0 11 0) ∧ ¬ y < 0 ∧ y ≤ 1)) : rb_G none 22 0 [some (.ref 0), some (.int x), some (.int y), none] [] (rb_W V) P ↔ P (some (.int (-1))) (rb_W V) := by
  simp only [r22_0, r22_1, r22_4, r22_5, r22_8, r22_11, r22_12, r22_15, r22_16, r22_17, r22_20, r22_21, r22_22, r22_23, r22_26, r22_27, r22_30, r22_33, r22_34, r22_37, r22_40, r22_41, r22_44, r22_45, r22_46, r22_49, r22_52, r22_53, r22_54, r22_57, r22_58, m_isMember, rb_sg_self, rb_sg_sg, List.length_cons, List.length_nil, Nat.reduceAdd, Nat.reduceLeDiff, Nat.reduceLT, Nat.zero_add, Option.toList_some, Option.toList_none, List.cons_append, List.nil_append, rb_bi_eq0, rb_bi_ne0, rb_okv0, rb_okv1, rb_okvb, ln0, ln1, ln2, ln3, ln4, ln5, ln6, ln7, ln8, ln9, ln10, if_true, if_false, ite_not, Decidable.not_not]
  by_cases h1 : 0 ≤ x ∧ x < V 0 11 0
  · by_cases h2 : y < 0
    · simp only [if_pos h1, if_pos h2]
    · have h3 : ¬ y ≤ 1 := fun q => h ⟨h1, h2, q⟩
      simp only [if_pos h1, if_neg h2, if_neg h3]
  · simp only [if_neg h1]
theorem q_turn_k (H : hOK V m t rd ph f n) (hi : i < m) (h2 : ¬ y < 0) (h3 : y ≤ 1) : rb_G none 22 0 [some (.ref 0), some (.int (nI i)), some (.int y), none] [] (rb_W V) P ↔ P (some (.int (V 0 3 i))) (rb_W (rb_sg (hRec V f n) 0 (rb_u2 (V 0) 3 i y))) := by
  obtain ⟨hm, hm2, hm8, ht, ht1, htm, hrd, hrd30, hph, hph3, hf, hf8, hn, hn8⟩ := H
  have h1 := rb_mem1 hi hm8
  have hi8 : i < 8 := by omega
  simp only [r22_0, r22_1, r22_4, r22_5, r22_8, r22_11, r22_12, r22_15, r22_16, r22_17, r22_20, r22_21, r22_22, r22_23, r22_26, r22_27, r22_30, r22_33, r22_34, r22_37, r22_40, r22_41, r22_44, r22_45, r22_46, r22_49, r22_52, r22_53, r22_54, r22_57, r22_58, m_isMember, m_record hf hf8 hn hn8, m_at, m_put (a2 := none), hRec_0, hm, if_pos h1, if_neg h2, if_pos h3, hi8, rb_sg_self, rb_sg_sg, List.length_cons, List.length_nil, Nat.reduceAdd, Nat.reduceLeDiff, Nat.reduceLT, Nat.zero_add, Option.toList_some, Option.toList_none, List.cons_append, List.nil_append, rb_bi_eq0, rb_bi_ne0, rb_okv0, rb_okv1, rb_okvb, ln0, ln1, ln2, ln3, ln4, ln5, ln6, ln7, ln8, ln9, ln10, if_true, if_false, ite_not, Decidable.not_not]
theorem q_pay_b (h : ¬ ((0 ≤ x ∧ x < V 0 11 0) ∧ ¬ y < 1 ∧ y ≤ 50)) : rb_G none 24 0 [some (.ref 0), some (.int x), some (.int y)] [] (rb_W V) P ↔ P (some (.int (-1))) (rb_W V) := by
  simp only [r24_0, r24_1, r24_4, r24_5, r24_8, r24_11, r24_12, r24_13, r24_16, r24_17, r24_19, r24_22, r24_23, r24_24, r24_25, r24_28, r24_31, r24_32, r24_35, r24_36, r24_37, r24_40, r24_43, r24_45, r24_46, r24_47, r24_50, r24_51, r24_54, r24_57, r24_58, r24_61, r24_64, r24_65, r24_66, r24_69, r24_70, r24_73, r24_76, r24_77, r24_80, m_isMember, rb_sg_self, rb_sg_sg, List.length_cons, List.length_nil, Nat.reduceAdd, Nat.reduceLeDiff, Nat.reduceLT, Nat.zero_add, Option.toList_some, Option.toList_none, List.cons_append, List.nil_append, rb_bi_eq0, rb_bi_ne0, rb_okv0, rb_okv1, rb_okvb, ln0, ln1, ln2, ln3, ln4, ln5, ln6, ln7, ln8, ln9, ln10, if_true, if_false, ite_not, Decidable.not_not]
  by_cases h1 : 0 ≤ x ∧ x < V 0 11 0
  · by_cases h2 : y < 1
    · simp only [if_pos h1, if_pos h2]
    · have h3 : ¬ y ≤ 50 := fun q => h ⟨h1, h2, q⟩
      simp only [if_pos h1, if_neg h2, if_neg h3]
  · simp only [if_neg h1]
theorem q_pay_k (H : hOK V m t rd ph f n) (hi : i < m) (h2 : ¬ y < 1) (h3 : y ≤ 50) : rb_G none 24 0 [some (.ref 0), some (.int (nI i)), some (.int y)] [] (rb_W V) P ↔ (if V 0 2 i + y ≤ 999 then P (some (.int (V 0 2 i + y))) (rb_W (rb_sg (hRec V f n) 0 (rb_u2 (V 0) 2 i (V 0 2 i + y)))) else P (some (.int (-3))) (rb_W V)) := by
  obtain ⟨hm, hm2, hm8, ht, ht1, htm, hrd, hrd30, hph, hph3, hf, hf8, hn, hn8⟩ := H
  have h1 := rb_mem1 hi hm8
  have hi8 : i < 8 := by omega
  simp only [r24_0, r24_1, r24_4, r24_5, r24_8, r24_11, r24_12, r24_13, r24_16, r24_17, r24_19, r24_22, r24_23, r24_24, r24_25, r24_28, r24_31, r24_32, r24_35, r24_36, r24_37, r24_40, r24_43, r24_45, r24_46, r24_47, r24_50, r24_51, r24_54, r24_57, r24_58, r24_61, r24_64, r24_65, r24_66, r24_69, r24_70, r24_73, r24_76, r24_77, r24_80, m_isMember, m_record hf hf8 hn hn8, m_at, m_add, hRec_0, hm, if_pos h1, if_neg h2, if_pos h3, hi8, rb_sg_self, rb_sg_sg, List.length_cons, List.length_nil, Nat.reduceAdd, Nat.reduceLeDiff, Nat.reduceLT, Nat.zero_add, Option.toList_some, Option.toList_none, List.cons_append, List.nil_append, rb_bi_eq0, rb_bi_ne0, rb_okv0, rb_okv1, rb_okvb, ln0, ln1, ln2, ln3, ln4, ln5, ln6, ln7, ln8, ln9, ln10, if_true, if_false, ite_not, Decidable.not_not, rb_u2_row, rb_u2_at, rb_u2_ne, ne_eq, Nat.reduceEqDiff, not_false_eq_true, reduceCtorEq]
end RBM
