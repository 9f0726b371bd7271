/-! THE METHODS' ANSWERS, 8: the face of the system, on -/
theorem hRes_13 (V : rb_V) (f n : Nat) : hRes V f n 13 = rb_u2 (V 13) 0 1 (nI n) := by
  unfold hRes; rw [rb_sg_ne _ _ (by decide), rb_sg_self]
section RBM
variable {V : rb_V} {P : Option Value → rb_M → Prop} {i o m t rd ph f n : Nat} {x y z : Int32}
theorem q_commit_b (h : ¬ ((0 ≤ x ∧ x < V 0 11 0) ∧ (0 ≤ y ∧ y < 256) ∧ (0 ≤ z ∧ z < 1000))) : rb_G none 26 0 [some (.ref 0), some (.int x), some (.int y), some (.int z)] [] (rb_W V) P ↔ P (some (.int (-1))) (rb_W V) := by
  simp only [r26_0, r26_1, r26_4, r26_5, r26_8, r26_11, r26_12, r26_15, r26_18, r26_19, r26_22, r26_25, r26_26, r26_27, r26_28, r26_31, r26_32, r26_35, r26_38, r26_40, r26_41, r26_42, r26_45, r26_46, r26_49, r26_52, r26_53, r26_56, r26_57, r26_58, r26_59, r26_62, r26_63, r26_66, r26_69, r26_70, r26_73, m_isMember, m_isSecret, m_isSalt, rb_sg_self, rb_sg_sg, List.length_cons, List.length_nil, Nat.reduceAdd, Nat.reduceLeDiff, Nat.reduceLT, Nat.zero_add, Option.toList_some, Option.toList_none, List.cons_append, List.nil_append, rb_bi_eq0, rb_bi_ne0, rb_okv0, rb_okv1, rb_okvb, ln0, ln1, ln2, ln3, ln4, ln5, ln6, ln7, ln8, ln9, ln10, if_true, if_false, ite_not, Decidable.not_not]
  by_cases h1 : 0 ≤ x ∧ x < V 0 11 0
  · by_cases h2 : 0 ≤ y ∧ y < 256
    · have h3 : ¬ (0 ≤ z ∧ z < 1000) := fun q => h ⟨h1, h2, q⟩
      simp only [if_pos h1, if_pos h2, if_neg h3]
    · simp only [if_pos h1, if_neg h2]
  · simp only [if_neg h1]
theorem q_commit_k (H : hOK V m t rd ph f n) (hi : i < m) (h2 : 0 ≤ y ∧ y < 256) (h3 : 0 ≤ z ∧ z < 1000) : rb_G none 26 0 [some (.ref 0), some (.int (nI i)), some (.int y), some (.int z)] [] (rb_W V) P ↔ (if V 0 11 4 = 0 ∧ V 0 3 i = 1 ∧ V 0 5 i = 0 ∧ ¬ V 0 2 i < V 0 0 3 then P (some (.int (cBind (V 0) i y z m t 6 i))) (rb_W (rb_sg (hRec V f n) 0 (cBind (V 0) i y z m t))) else P (some (.int (-2))) (rb_W V)) := by
  obtain ⟨hm, hm2, hm8, ht, ht1, htm, hrd, hrd30, hph, hph3, hf, hf8, hn, hn8⟩ := H
  have h1 := rb_mem1 hi hm8
  have hi8 : i < 8 := by omega
  have hb : ∀ {P' : Option Value → rb_M → Prop}, rb_G none 32 0 [some (.ref (rb_st 0)), some (.int (nI i)), some (.int y), some (.int z)] [] (rb_W (hRec V f n)) P' ↔ P' none (rb_W (rb_sg (hRec V f n) 0 (cBind (V 0) i y z m t))) := by
    intro P'
    have := m_bind (V := hRec V f n) (P := P') (g := 0) (m := m) (t := t) (s := y) (v := z) (by decide) hi8 (by rw [hRec_0]; exact hm) hm8 (by rw [hRec_0]; exact ht) ht1 (by omega)
    rw [hRec_0] at this
    exact this
  simp only [r26_0, r26_1, r26_4, r26_5, r26_8, r26_11, r26_12, r26_15, r26_18, r26_19, r26_22, r26_25, r26_26, r26_27, r26_28, r26_31, r26_32, r26_35, r26_38, r26_40, r26_41, r26_42, r26_45, r26_46, r26_49, r26_52, r26_53, r26_56, r26_57, r26_58, r26_59, r26_62, r26_63, r26_66, r26_69, r26_70, r26_73, m_isMember, m_isSecret, m_isSalt, m_mayCommit, m_record hf hf8 hn hn8, hb, m_at, hm, if_pos h1, if_pos h2, if_pos h3, hi8, rb_sg_self, rb_sg_sg, List.length_cons, List.length_nil, Nat.reduceAdd, Nat.reduceLeDiff, Nat.reduceLT, Nat.zero_add, Option.toList_some, Option.toList_none, List.cons_append, List.nil_append, rb_bi_eq0, rb_bi_ne0, rb_okv0, rb_okv1, rb_okvb, ln0, ln1, ln2, ln3, ln4, ln5, ln6, ln7, ln8, ln9, ln10, if_true, if_false, ite_not, Decidable.not_not]
theorem q_reveal_b (h : ¬ ((0 ≤ x ∧ x < V 0 11 0) ∧ (0 ≤ y ∧ y < 256) ∧ (0 ≤ z ∧ z < 1000))) : rb_G none 39 0 [some (.ref 0), some (.int x), some (.int y), some (.int z)] [] (rb_W V) P ↔ P (some (.int (-1))) (rb_W V) := by
  simp only [r39_0, r39_1, r39_4, r39_5, r39_8, r39_11, r39_12, r39_15, r39_18, r39_19, r39_22, r39_25, r39_26, r39_27, r39_28, r39_31, r39_32, r39_35, r39_38, r39_40, r39_41, r39_42, r39_45, r39_46, r39_49, r39_52, r39_53, r39_56, r39_57, r39_58, r39_59, r39_62, m_isMember, m_isSecret, m_isSalt, rb_sg_self, rb_sg_sg, List.length_cons, List.length_nil, Nat.reduceAdd, Nat.reduceLeDiff, Nat.reduceLT, Nat.zero_add, Option.toList_some, Option.toList_none, List.cons_append, List.nil_append, rb_bi_eq0, rb_bi_ne0, rb_okv0, rb_okv1, rb_okvb, ln0, ln1, ln2, ln3, ln4, ln5, ln6, ln7, ln8, ln9, ln10, if_true, if_false, ite_not, Decidable.not_not]
  by_cases h1 : 0 ≤ x ∧ x < V 0 11 0
  · by_cases h2 : 0 ≤ y ∧ y < 256
    · have h3 : ¬ (0 ≤ z ∧ z < 1000) := fun q => h ⟨h1, h2, q⟩
      simp only [if_pos h1, if_pos h2, if_neg h3]
    · simp only [if_pos h1, if_neg h2]
  · simp only [if_neg h1]
theorem q_reveal_k (H : hOK V m t rd ph f n) (hi : i < m) (h2 : 0 ≤ y ∧ y < 256) (h3 : 0 ≤ z ∧ z < 1000) : rb_G none 39 0 [some (.ref 0), some (.int (nI i)), some (.int y), some (.int z)] [] (rb_W V) P ↔ (if V 0 11 4 = 1 ∧ V 0 3 i = 1 ∧ V 0 5 i = 1 then (if rb_cm (nI i) y z = V 0 6 i then P (some (.int 1)) (rb_W (rb_sg (hRec V f n) 0 (cLearn (V 0) i y 2))) else P (some (.int 0)) (rb_W (rb_sg (hRec V f n) 0 (cFine (V 0) i (V 0 0 4))))) else P (some (.int (-2))) (rb_W V)) := by
  obtain ⟨hm, hm2, hm8, ht, ht1, htm, hrd, hrd30, hph, hph3, hf, hf8, hn, hn8⟩ := H
  have h1 := rb_mem1 hi hm8
  have hi8 : i < 8 := by omega
  have h10 : ¬ (1 : Int32) = 0 := by decide
  simp only [r39_0, r39_1, r39_4, r39_5, r39_8, r39_11, r39_12, r39_15, r39_18, r39_19, r39_22, r39_25, r39_26, r39_27, r39_28, r39_31, r39_32, r39_35, r39_38, r39_40, r39_41, r39_42, r39_45, r39_46, r39_49, r39_52, r39_53, r39_56, r39_57, r39_58, r39_59, r39_62, m_isMember, m_isSecret, m_isSalt, m_mayReveal, m_record hf hf8 hn hn8, m_open, hRec_0, hm, if_pos h1, if_pos h2, if_pos h3, hi8, h10, rb_sg_self, rb_sg_sg, List.length_cons, List.length_nil, Nat.reduceAdd, Nat.reduceLeDiff, Nat.reduceLT, Nat.zero_add, Option.toList_some, Option.toList_none, List.cons_append, List.nil_append, rb_bi_eq0, rb_bi_ne0, rb_okv0, rb_okv1, rb_okvb, ln0, ln1, ln2, ln3, ln4, ln5, ln6, ln7, ln8, ln9, ln10, if_true, if_false, ite_not, Decidable.not_not]
theorem q_publish_b (h : ¬ (((0 ≤ x ∧ x < V 0 11 0) ∧ (0 ≤ y ∧ y < V 0 11 0) ∧ ¬ x = y) ∧ ¬ z < 0 ∧ z < 257)) : rb_G none 45 0 [some (.ref 0), some (.int x), some (.int y), some (.int z)] [] (rb_W V) P ↔ P (some (.int (-1))) (rb_W V) := by
  simp only [r45_0, r45_1, r45_4, r45_5, r45_6, r45_9, r45_12, r45_13, r45_16, r45_17, r45_20, r45_23, r45_24, r45_25, r45_26, r45_29, r45_30, r45_31, r45_34, r45_37, r45_39, r45_40, r45_41, r45_44, r45_45, r45_48, r45_51, r45_52, r45_55, r45_56, r45_57, r45_58, r45_61, m_isPair, rb_sg_self, rb_sg_sg, List.length_cons, List.length_nil, Nat.reduceAdd, Nat.reduceLeDiff, Nat.reduceLT, Nat.zero_add, Option.toList_some, Option.toList_none, List.cons_append, List.nil_append, rb_bi_eq0, rb_bi_ne0, rb_okv0, rb_okv1, rb_okvb, ln0, ln1, ln2, ln3, ln4, ln5, ln6, ln7, ln8, ln9, ln10, if_true, if_false, ite_not, Decidable.not_not]
  by_cases h1 : (0 ≤ x ∧ x < V 0 11 0) ∧ (0 ≤ y ∧ y < V 0 11 0) ∧ ¬ x = y
  · by_cases h2 : z < 0
    · simp only [if_pos h1, if_pos h2]
    · have h3 : ¬ z < 257 := fun q => h ⟨h1, h2, q⟩
      simp only [if_pos h1, if_neg h2, if_neg h3]
  · simp only [if_neg h1]
theorem m_show_0 (H : hOK V m t rd ph f n) (hi : i < 8) (ho : o < 8) : rb_G none 50 0 [some (.ref (rb_st 0)), some (.int (nI i)), some (.int (nI o)), some (.int x), none, none] [] (rb_W (hRec V f n)) P ↔ P (some (.int (cShowR (V 0) i o x m))) (rb_W (rb_sg (hRec V f n) 0 (cShowC (V 0) i o x m))) := by
  obtain ⟨hm, hm2, hm8, ht, ht1, htm, hrd, hrd30, hph, hph3, hf, hf8, hn, hn8⟩ := H
  have := m_show (V := hRec V f n) (P := P) (g := 0) (m := m) (x := x) (by decide) ho hi (by rw [hRec_0]; exact hm) hm8
  rw [hRec_0] at this
  exact this
theorem rb_pair1 {V : rb_V} (hm : V 0 11 0 = nI m) (hm8 : m ≤ 8) (hi : i < m) (ho : o < m) (hio : ¬ i = o) : (0 ≤ nI i ∧ nI i < V 0 11 0) ∧ (0 ≤ nI o ∧ nI o < V 0 11 0) ∧ ¬ nI i = nI o := by
  rw [hm]
  exact ⟨rb_mem1 hi hm8, rb_mem1 ho hm8, fun q => hio ((rb_eqn (by omega) (by omega)).mp q)⟩
theorem q_publish_k (H : hOK V m t rd ph f n) (hi : i < m) (ho : o < m) (hio : ¬ i = o) (h2 : ¬ z < 0) (h3 : z < 257) : rb_G none 45 0 [some (.ref 0), some (.int (nI i)), some (.int (nI o)), some (.int z)] [] (rb_W V) P ↔ (if V 0 11 4 = 2 ∧ ¬ i = o ∧ V 0 3 i = 1 ∧ ¬ V 0 5 i = 0 ∧ V 0 5 o = 1 ∧ V 0 10 (8 * o + i) = -9 then P (some (.int (cShowR (V 0) i o z m))) (rb_W (rb_sg (hRec V f n) 0 (cShowC (V 0) i o z m))) else P (some (.int (-2))) (rb_W V)) := by
  have H' := H
  obtain ⟨hm, hm2, hm8, ht, ht1, htm, hrd, hrd30, hph, hph3, hf, hf8, hn, hn8⟩ := H
  have h1 := rb_pair1 hm hm8 hi ho hio
  have hi8 : i < 8 := by omega
  have ho8 : o < 8 := by omega
  have h10 : ¬ (1 : Int32) = 0 := by decide
  simp only [r45_0, r45_1, r45_4, r45_5, r45_6, r45_9, r45_12, r45_13, r45_16, r45_17, r45_20, r45_23, r45_24, r45_25, r45_26, r45_29, r45_30, r45_31, r45_34, r45_37, r45_39, r45_40, r45_41, r45_44, r45_45, r45_48, r45_51, r45_52, r45_55, r45_56, r45_57, r45_58, r45_61, m_isPair, m_mayPublish, m_record hf hf8 hn hn8, m_show_0 H' hi8 ho8, if_pos h1, if_neg h2, if_pos h3, hi8, ho8, h10, rb_sg_self, rb_sg_sg, List.length_cons, List.length_nil, Nat.reduceAdd, Nat.reduceLeDiff, Nat.reduceLT, Nat.zero_add, Option.toList_some, Option.toList_none, List.cons_append, List.nil_append, rb_bi_eq0, rb_bi_ne0, rb_okv0, rb_okv1, rb_okvb, ln0, ln1, ln2, ln3, ln4, ln5, ln6, ln7, ln8, ln9, ln10, if_true, if_false, ite_not, Decidable.not_not]
theorem q_give_b (h : ¬ ((0 ≤ x ∧ x < V 0 11 0) ∧ (0 ≤ y ∧ y < V 0 11 0) ∧ ¬ x = y)) : rb_G none 59 0 [some (.ref 0), some (.int x), some (.int y)] [] (rb_W V) P ↔ P (some (.int (-1))) (rb_W V) := by
  simp only [r59_0, r59_1, r59_4, r59_5, r59_6, r59_9, r59_12, r59_13, r59_14, r59_15, r59_18, r59_19, r59_20, r59_23, r59_26, r59_28, r59_29, r59_30, r59_33, r59_34, r59_37, r59_40, r59_41, r59_44, r59_45, r59_46, r59_47, r59_50, r59_51, r59_52, r59_55, r59_58, m_isPair, if_neg h, rb_sg_self, rb_sg_sg, List.length_cons, List.length_nil, Nat.reduceAdd, Nat.reduceLeDiff, Nat.reduceLT, Nat.zero_add, Option.toList_some, Option.toList_none, List.cons_append, List.nil_append, rb_bi_eq0, rb_bi_ne0, rb_okv0, rb_okv1, rb_okvb, ln0, ln1, ln2, ln3, ln4, ln5, ln6, ln7, ln8, ln9, ln10, if_true, if_false, ite_not, Decidable.not_not]
theorem q_give_k (H : hOK V m t rd ph f n) (hi : i < m) (ho : o < m) (hio : ¬ i = o) : rb_G none 59 0 [some (.ref 0), some (.int (nI i)), some (.int (nI o))] [] (rb_W V) P ↔ (if V 0 11 4 = 2 ∧ ¬ i = o ∧ V 0 3 i = 1 ∧ ¬ V 0 5 i = 0 ∧ V 0 5 o = 1 ∧ V 0 10 (8 * o + i) = -9 then P (some (.int (cShowR (V 0) i o (V 0 9 (8 * o + i)) m))) (rb_W (rb_sg (hRec V f n) 0 (cShowC (V 0) i o (V 0 9 (8 * o + i)) m))) else P (some (.int (-2))) (rb_W V)) := by
  have H' := H
  obtain ⟨hm, hm2, hm8, ht, ht1, htm, hrd, hrd30, hph, hph3, hf, hf8, hn, hn8⟩ := H
  have h1 := rb_pair1 hm hm8 hi ho hio
  have hi8 : i < 8 := by omega
  have ho8 : o < 8 := by omega
  have h10 : ¬ (1 : Int32) = 0 := by decide
  simp only [r59_0, r59_1, r59_4, r59_5, r59_6, r59_9, r59_12, r59_13, r59_14, r59_15, r59_18, r59_19, r59_20, r59_23, r59_26, r59_28, r59_29, r59_30, r59_33, r59_34, r59_37, r59_40, r59_41, r59_44, r59_45, r59_46, r59_47, r59_50, r59_51, r59_52, r59_55, r59_58, m_isPair, m_mayPublish, m_record hf hf8 hn hn8, m_show_0 H' hi8 ho8, m_trueShare, hRec_0, if_pos h1, hi8, ho8, h10, rb_sg_self, rb_sg_sg, List.length_cons, List.length_nil, Nat.reduceAdd, Nat.reduceLeDiff, Nat.reduceLT, Nat.zero_add, Option.toList_some, Option.toList_none, List.cons_append, List.nil_append, rb_bi_eq0, rb_bi_ne0, rb_okv0, rb_okv1, rb_okvb, ln0, ln1, ln2, ln3, ln4, ln5, ln6, ln7, ln8, ln9, ln10, if_true, if_false, ite_not, Decidable.not_not]
theorem q_next (H : hOK V m t rd ph f n) : rb_G none 70 0 [some (.ref 0)] [] (rb_W V) P ↔ (if V 0 11 4 = 3 then (if rd + 1 < 30 then P (some (.int (nI (rd + 1)))) (rb_W (rb_sg (hRec V f n) 0 (cStart (rb_u2 (V 0) 11 3 (nI (rd + 1))) (rd + 1)))) else P (some (.int (-3))) (rb_W V)) else P (some (.int (-2))) (rb_W V)) := by
  obtain ⟨hm, hm2, hm8, ht, ht1, htm, hrd, hrd30, hph, hph3, hf, hf8, hn, hn8⟩ := H
  by_cases h1 : V 0 11 4 = 3
  · by_cases h2 : rd + 1 < 30
    · have h3 : nI (rd + 1) < 30 := nI_lt (b := 30) h2 (by decide)
      have e : cStart (rb_u2 (V 0) 11 3 (nI (rd + 1))) (rd + 1) 11 3 = nI (rd + 1) := by
        unfold cStart; rw [rb_u1_row (by decide), rb_u1_row (by decide), rb_u2_row (by decide), cEnter_11 _ _ _ (by decide) (by decide), rb_u2_at]
      have hs : ∀ {P' : Option Value → rb_M → Prop}, rb_G none 8 0 [some (.ref (rb_st 0))] [] (rb_W (rb_sg (hRec V f n) 0 (rb_u2 (V 0) 11 3 (nI (rd + 1))))) P' ↔ P' none (rb_W (rb_sg (hRec V f n) 0 (cStart (rb_u2 (V 0) 11 3 (nI (rd + 1))) (rd + 1)))) := fun {P'} => m_startRound_at (by decide) rb_u2_at h2
      simp only [r70_0, r70_1, r70_4, r70_7, r70_8, r70_11, r70_13, r70_14, r70_15, r70_18, r70_21, r70_22, r70_23, r70_25, r70_28, r70_30, r70_31, r70_32, r70_35, r70_36, r70_39, r70_42, r70_43, r70_46a, r70_46i, r70_47, r70_50, r70_51, r70_52, r70_55, r70_56, r70_59, r70_62, r70_63, r70_66, r70_69, m_record hf hf8 hn hn8, hRec_0, hs, e, hrd, nI_1, if_pos h1, if_pos h2, if_pos h3, rb_sg_self, rb_sg_sg, List.length_cons, List.length_nil, Nat.reduceAdd, Nat.reduceLeDiff, Nat.reduceLT, Nat.zero_add, Option.toList_some, Option.toList_none, List.cons_append, List.nil_append, rb_bi_eq0, rb_bi_ne0, rb_okv0, rb_okv1, rb_okvb, ln0, ln1, ln2, ln3, ln4, ln5, ln6, ln7, ln8, ln9, ln10, if_true, if_false, ite_not, Decidable.not_not]
    · have h3 : ¬ nI (rd + 1) < 30 := nI_nlt (a := rd + 1) (b := 30) (by omega) (by omega)
      simp only [r70_0, r70_1, r70_4, r70_7, r70_8, r70_11, r70_13, r70_14, r70_15, r70_18, r70_21, r70_22, r70_23, r70_25, r70_28, r70_30, r70_31, r70_32, r70_35, r70_36, r70_39, r70_42, r70_43, r70_46a, r70_46i, r70_47, r70_50, r70_51, r70_52, r70_55, r70_56, r70_59, r70_62, r70_63, r70_66, r70_69, hrd, nI_1, if_pos h1, if_neg h2, if_neg h3, rb_sg_self, rb_sg_sg, List.length_cons, List.length_nil, Nat.reduceAdd, Nat.reduceLeDiff, Nat.reduceLT, Nat.zero_add, Option.toList_some, Option.toList_none, List.cons_append, List.nil_append, rb_bi_eq0, rb_bi_ne0, rb_okv0, rb_okv1, rb_okvb, ln0, ln1, ln2, ln3, ln4, ln5, ln6, ln7, ln8, ln9, ln10, if_true, if_false, ite_not, Decidable.not_not]
  · simp only [r70_0, r70_1, r70_4, r70_7, r70_8, r70_11, r70_13, r70_14, r70_15, r70_18, r70_21, r70_22, r70_23, r70_25, r70_28, r70_30, r70_31, r70_32, r70_35, r70_36, r70_39, r70_42, r70_43, r70_46a, r70_46i, r70_47, r70_50, r70_51, r70_52, r70_55, r70_56, r70_59, r70_62, r70_63, r70_66, r70_69, if_neg h1, rb_sg_self, rb_sg_sg, List.length_cons, List.length_nil, Nat.reduceAdd, Nat.reduceLeDiff, Nat.reduceLT, Nat.zero_add, Option.toList_some, Option.toList_none, List.cons_append, List.nil_append, rb_bi_eq0, rb_bi_ne0, rb_okv0, rb_okv1, rb_okvb, ln0, ln1, ln2, ln3, ln4, ln5, ln6, ln7, ln8, ln9, ln10, if_true, if_false, ite_not, Decidable.not_not]
theorem q_undo_0 (H : hOK V m t rd ph f 0) : rb_G none 71 0 [some (.ref 0)] [] (rb_W V) P ↔ P (some (.int (-2))) (rb_W V) := by
  obtain ⟨hm, hm2, hm8, ht, ht1, htm, hrd, hrd30, hph, hph3, hf, hf8, hn, hn8⟩ := H
  have h : ¬ (1 : Int32) ≤ nI 0 := by decide
  simp only [r71_0, r71_1, r71_4, r71_7, r71_8, r71_11, r71_13, r71_14, r71_15, r71_18, r71_19, r71_22, r71_25, r71_26, r71_29, r71_32, hn, h, rb_sg_self, rb_sg_sg, List.length_cons, List.length_nil, Nat.reduceAdd, Nat.reduceLeDiff, Nat.reduceLT, Nat.zero_add, Option.toList_some, Option.toList_none, List.cons_append, List.nil_append, rb_bi_eq0, rb_bi_ne0, rb_okv0, rb_okv1, rb_okvb, ln0, ln1, ln2, ln3, ln4, ln5, ln6, ln7, ln8, ln9, ln10, if_true, if_false, ite_not, Decidable.not_not]
theorem q_undo_s (H : hOK V m t rd ph f (n + 1)) : rb_G none 71 0 [some (.ref 0)] [] (rb_W V) P ↔ P (some (.int (nI n))) (rb_W (hRes V f n)) := by
  obtain ⟨hm, hm2, hm8, ht, ht1, htm, hrd, hrd30, hph, hph3, hf, hf8, hn, hn8⟩ := H
  have h : (1 : Int32) ≤ nI (n + 1) := nI_le (a := 1) (by omega) (by omega)
  simp only [r71_0, r71_1, r71_4, r71_7, r71_8, r71_11, r71_13, r71_14, r71_15, r71_18, r71_19, r71_22, r71_25, r71_26, r71_29, r71_32, hn, h, m_restore hf hf8 hn hn8, hRes_13, rb_u2_at, rb_sg_self, rb_sg_sg, List.length_cons, List.length_nil, Nat.reduceAdd, Nat.reduceLeDiff, Nat.reduceLT, Nat.zero_add, Option.toList_some, Option.toList_none, List.cons_append, List.nil_append, rb_bi_eq0, rb_bi_ne0, rb_okv0, rb_okv1, rb_okvb, ln0, ln1, ln2, ln3, ln4, ln5, ln6, ln7, ln8, ln9, ln10, if_true, if_false, ite_not, Decidable.not_not]
theorem q_setting_b (h : ¬ (0 ≤ x ∧ x < 6)) : rb_G none 76 0 [some (.ref 0), some (.int x)] [] (rb_W V) P ↔ P (some (.int (-1))) (rb_W V) := by
  simp only [r76_0, r76_1, r76_4, r76_7, r76_8, r76_11, r76_14, r76_15, r76_18, r76_21, r76_22, m_isSetting, if_neg h, rb_sg_self, rb_sg_sg, List.length_cons, List.length_nil, Nat.reduceAdd, Nat.reduceLeDiff, Nat.reduceLT, Nat.zero_add, Option.toList_some, Option.toList_none, List.cons_append, List.nil_append, rb_bi_eq0, rb_bi_ne0, rb_okv0, rb_okv1, rb_okvb, ln0, ln1, ln2, ln3, ln4, ln5, ln6, ln7, ln8, ln9, ln10, if_true, if_false, ite_not, Decidable.not_not]
theorem q_setting_k (hi : i < 6) : rb_G none 76 0 [some (.ref 0), some (.int (nI i))] [] (rb_W V) P ↔ P (some (.int (V 0 0 i))) (rb_W V) := by
  have h1 : 0 ≤ nI i ∧ nI i < 6 := ⟨nI_pos' (by omega), nI_lt (b := 6) hi (by omega)⟩
  simp only [r76_0, r76_1, r76_4, r76_7, r76_8, r76_11, r76_14, r76_15, r76_18, r76_21, r76_22, m_isSetting, m_at, if_pos h1, hi, rb_sg_self, rb_sg_sg, List.length_cons, List.length_nil, Nat.reduceAdd, Nat.reduceLeDiff, Nat.reduceLT, Nat.zero_add, Option.toList_some, Option.toList_none, List.cons_append, List.nil_append, rb_bi_eq0, rb_bi_ne0, rb_okv0, rb_okv1, rb_okvb, ln0, ln1, ln2, ln3, ln4, ln5, ln6, ln7, ln8, ln9, ln10, if_true, if_false, ite_not, Decidable.not_not]
theorem q_mark_b (h : ¬ ((0 ≤ x ∧ x < V 0 11 0) ∧ (0 ≤ y ∧ y < V 0 11 0))) : rb_G none 79 0 [some (.ref 0), some (.int x), some (.int y)] [] (rb_W V) P ↔ P (some (.int (-1))) (rb_W V) := by
  simp only [r79_0, r79_1, r79_4, r79_5, r79_8, r79_11, r79_12, r79_15, r79_16, r79_19, r79_22, r79_23, r79_24, r79_25, r79_28, r79_29, r79_32, r79_35, r79_36, r79_37, r79_40, r79_41, r79_42, r79_45, r79_48, r79_51, r79_53, m_isMember, rb_sg_self, rb_sg_sg, List.length_cons, List.length_nil, Nat.reduceAdd, Nat.reduceLeDiff, Nat.reduceLT, Nat.zero_add, Option.toList_some, Option.toList_none, List.cons_append, List.nil_append, rb_bi_eq0, rb_bi_ne0, rb_okv0, rb_okv1, rb_okvb, ln0, ln1, ln2, ln3, ln4, ln5, ln6, ln7, ln8, ln9, ln10, if_true, if_false, ite_not, Decidable.not_not]
  by_cases h1 : 0 ≤ x ∧ x < V 0 11 0
  · have h2 : ¬ (0 ≤ y ∧ y < V 0 11 0) := fun q => h ⟨h1, q⟩
    simp only [if_pos h1, if_neg h2]
  · simp only [if_neg h1]
theorem q_mark_k (H : hOK V m t rd ph f n) (ho : o < m) (hi : i < m) : rb_G none 79 0 [some (.ref 0), some (.int (nI o)), some (.int (nI i))] [] (rb_W V) P ↔ (if V 0 5 o = 0 then P (some (.int (-9))) (rb_W V) else P (some (.int (rb_mk (nI i) (V 0 9 (8 * o + i))))) (rb_W V)) := by
  obtain ⟨hm, hm2, hm8, ht, ht1, htm, hrd, hrd30, hph, hph3, hf, hf8, hn, hn8⟩ := H
  have h1 := rb_mem1 hi hm8
  have h2 := rb_mem1 ho hm8
  have hi8 : i < 8 := by omega
  have ho8 : o < 8 := by omega
  simp only [r79_0, r79_1, r79_4, r79_5, r79_8, r79_11, r79_12, r79_15, r79_16, r79_19, r79_22, r79_23, r79_24, r79_25, r79_28, r79_29, r79_32, r79_35, r79_36, r79_37, r79_40, r79_41, r79_42, r79_45, r79_48, r79_51, r79_53, m_isMember, m_isBound, m_trueShare, m_mk, hm, if_pos h1, if_pos h2, hi8, ho8, rb_sg_self, rb_sg_sg, List.length_cons, List.length_nil, Nat.reduceAdd, Nat.reduceLeDiff, Nat.reduceLT, Nat.zero_add, Option.toList_some, Option.toList_none, List.cons_append, List.nil_append, rb_bi_eq0, rb_bi_ne0, rb_okv0, rb_okv1, rb_okvb, ln0, ln1, ln2, ln3, ln4, ln5, ln6, ln7, ln8, ln9, ln10, if_true, if_false, ite_not, Decidable.not_not]
theorem q_share_b (h : ¬ ((0 ≤ x ∧ x < V 0 11 0) ∧ (0 ≤ y ∧ y < V 0 11 0))) : rb_G none 80 0 [some (.ref 0), some (.int x), some (.int y)] [] (rb_W V) P ↔ P (some (.int (-1))) (rb_W V) := by
  simp only [r80_0, r80_1, r80_4, r80_5, r80_8, r80_11, r80_12, r80_15, r80_16, r80_19, r80_22, r80_23, r80_24, r80_25, r80_28, r80_31, r80_32, r80_33, r80_36, r80_39, m_isMember, rb_sg_self, rb_sg_sg, List.length_cons, List.length_nil, Nat.reduceAdd, Nat.reduceLeDiff, Nat.reduceLT, Nat.zero_add, Option.toList_some, Option.toList_none, List.cons_append, List.nil_append, rb_bi_eq0, rb_bi_ne0, rb_okv0, rb_okv1, rb_okvb, ln0, ln1, ln2, ln3, ln4, ln5, ln6, ln7, ln8, ln9, ln10, if_true, if_false, ite_not, Decidable.not_not]
  by_cases h1 : 0 ≤ x ∧ x < V 0 11 0
  · have h2 : ¬ (0 ≤ y ∧ y < V 0 11 0) := fun q => h ⟨h1, q⟩
    simp only [if_pos h1, if_neg h2]
  · simp only [if_neg h1]
theorem q_share_k (H : hOK V m t rd ph f n) (ho : o < m) (hi : i < m) : rb_G none 80 0 [some (.ref 0), some (.int (nI o)), some (.int (nI i))] [] (rb_W V) P ↔ P (some (.int (V 0 10 (8 * o + i)))) (rb_W V) := by
  obtain ⟨hm, hm2, hm8, ht, ht1, htm, hrd, hrd30, hph, hph3, hf, hf8, hn, hn8⟩ := H
  have h1 := rb_mem1 hi hm8
  have h2 := rb_mem1 ho hm8
  have h64 : 8 * o + i < 64 := by omega
  simp only [r80_0, r80_1, r80_4, r80_5, r80_8, r80_11, r80_12, r80_15, r80_16, r80_19, r80_22, r80_23, r80_24, r80_25, r80_28, r80_31, r80_32, r80_33, r80_36, r80_39, m_isMember, m_cell, m_at, hm, if_pos h1, if_pos h2, h64, rb_sg_self, rb_sg_sg, List.length_cons, List.length_nil, Nat.reduceAdd, Nat.reduceLeDiff, Nat.reduceLT, Nat.zero_add, Option.toList_some, Option.toList_none, List.cons_append, List.nil_append, rb_bi_eq0, rb_bi_ne0, rb_okv0, rb_okv1, rb_okvb, ln0, ln1, ln2, ln3, ln4, ln5, ln6, ln7, ln8, ln9, ln10, if_true, if_false, ite_not, Decidable.not_not]
theorem q_commitment_b (h : ¬ ((0 ≤ x ∧ x < V 0 11 0) ∧ (0 ≤ y ∧ y < 256) ∧ (0 ≤ z ∧ z < 1000))) : rb_G none 81 0 [some (.ref 0), some (.int x), some (.int y), some (.int z)] [] (rb_W V) P ↔ P (some (.int (-1))) (rb_W V) := by
  simp only [r81_0, r81_1, r81_4, r81_5, r81_8, r81_11, r81_12, r81_15, r81_18, r81_19, r81_22, r81_25, r81_26, r81_27, r81_28, r81_29, r81_30, r81_33, m_isMember, m_isSecret, m_isSalt, rb_sg_self, rb_sg_sg, List.length_cons, List.length_nil, Nat.reduceAdd, Nat.reduceLeDiff, Nat.reduceLT, Nat.zero_add, Option.toList_some, Option.toList_none, List.cons_append, List.nil_append, rb_bi_eq0, rb_bi_ne0, rb_okv0, rb_okv1, rb_okvb, ln0, ln1, ln2, ln3, ln4, ln5, ln6, ln7, ln8, ln9, ln10, if_true, if_false, ite_not, Decidable.not_not]
  by_cases h1 : 0 ≤ x ∧ x < V 0 11 0
  · by_cases h2 : 0 ≤ y ∧ y < 256
    · have h3 : ¬ (0 ≤ z ∧ z < 1000) := fun q => h ⟨h1, h2, q⟩
      simp only [if_pos h1, if_pos h2, if_neg h3]
    · simp only [if_pos h1, if_neg h2]
  · simp only [if_neg h1]
theorem q_commitment_k (h1 : 0 ≤ x ∧ x < V 0 11 0) (h2 : 0 ≤ y ∧ y < 256) (h3 : 0 ≤ z ∧ z < 1000) : rb_G none 81 0 [some (.ref 0), some (.int x), some (.int y), some (.int z)] [] (rb_W V) P ↔ P (some (.int (rb_cm x y z))) (rb_W V) := by
  simp only [r81_0, r81_1, r81_4, r81_5, r81_8, r81_11, r81_12, r81_15, r81_18, r81_19, r81_22, r81_25, r81_26, r81_27, r81_28, r81_29, r81_30, r81_33, m_isMember, m_isSecret, m_isSalt, m_cm, if_pos h1, if_pos h2, if_pos h3, rb_sg_self, rb_sg_sg, List.length_cons, List.length_nil, Nat.reduceAdd, Nat.reduceLeDiff, Nat.reduceLT, Nat.zero_add, Option.toList_some, Option.toList_none, List.cons_append, List.nil_append, rb_bi_eq0, rb_bi_ne0, rb_okv0, rb_okv1, rb_okvb, ln0, ln1, ln2, ln3, ln4, ln5, ln6, ln7, ln8, ln9, ln10, if_true, if_false, ite_not, Decidable.not_not]
theorem q_past_b (H : hOK V m t rd ph f n) (h : ¬ (0 ≤ x ∧ x < nI rd)) : rb_G none 84 0 [some (.ref 0), some (.int x)] [] (rb_W V) P ↔ P (some (.int (-1))) (rb_W V) := by
  obtain ⟨hm, hm2, hm8, ht, ht1, htm, hrd, hrd30, hph, hph3, hf, hf8, hn, hn8⟩ := H
  simp only [r84_0, r84_1, r84_4, r84_5, r84_6, r84_9, r84_12, r84_15, r84_16, r84_19, r84_22, r84_23, r84_26, r84_29, r84_30, hrd, rb_sg_self, rb_sg_sg, List.length_cons, List.length_nil, Nat.reduceAdd, Nat.reduceLeDiff, Nat.reduceLT, Nat.zero_add, Option.toList_some, Option.toList_none, List.cons_append, List.nil_append, rb_bi_eq0, rb_bi_ne0, rb_okv0, rb_okv1, rb_okvb, ln0, ln1, ln2, ln3, ln4, ln5, ln6, ln7, ln8, ln9, ln10, if_true, if_false, ite_not, Decidable.not_not]
  by_cases h1 : x < 0
  · simp only [if_pos h1]
  · have h2 : nI rd ≤ x := Int32.not_lt.mp (fun q => h ⟨Int32.not_lt.mp h1, q⟩)
    simp only [if_neg h1, if_pos h2]
theorem q_past_k (H : hOK V m t rd ph f n) (hi : i < rd) : rb_G none 84 0 [some (.ref 0), some (.int (nI i))] [] (rb_W V) P ↔ P (some (.int (V 0 1 i))) (rb_W V) := by
  obtain ⟨hm, hm2, hm8, ht, ht1, htm, hrd, hrd30, hph, hph3, hf, hf8, hn, hn8⟩ := H
  have h1 : ¬ nI i < 0 := nI_pos (by omega)
  have h2 : ¬ nI rd ≤ nI i := nI_ge hi (by omega)
  have hi30 : i < 30 := by omega
  simp only [r84_0, r84_1, r84_4, r84_5, r84_6, r84_9, r84_12, r84_15, r84_16, r84_19, r84_22, r84_23, r84_26, r84_29, r84_30, hrd, m_at, if_neg h1, if_neg h2, hi30, rb_sg_self, rb_sg_sg, List.length_cons, List.length_nil, Nat.reduceAdd, Nat.reduceLeDiff, Nat.reduceLT, Nat.zero_add, Option.toList_some, Option.toList_none, List.cons_append, List.nil_append, rb_bi_eq0, rb_bi_ne0, rb_okv0, rb_okv1, rb_okvb, ln0, ln1, ln2, ln3, ln4, ln5, ln6, ln7, ln8, ln9, ln10, if_true, if_false, ite_not, Decidable.not_not]
theorem q_honest (H : hOK V m t rd ph f n) : rb_G none 85 0 [some (.ref 0)] [] (rb_W V) P ↔ (if V 0 11 4 = 0 ∨ ¬ 2 ≤ cBound (V 0) m then P (some (.int (-2))) (rb_W V) else P (some (.int (cBoundX (V 0) m))) (rb_W V)) := by
  obtain ⟨hm, hm2, hm8, ht, ht1, htm, hrd, hrd30, hph, hph3, hf, hf8, hn, hn8⟩ := H
  simp only [r85_0, r85_1, r85_4, r85_7, r85_10, r85_11, r85_14, r85_17, r85_18, r85_21, r85_23, r85_24, r85_25, r85_28, r85_31, m_countBound (show 0 < 12 by decide) hm hm8, m_combineBound (show 0 < 12 by decide) hm hm8, rb_sg_self, rb_sg_sg, List.length_cons, List.length_nil, Nat.reduceAdd, Nat.reduceLeDiff, Nat.reduceLT, Nat.zero_add, Option.toList_some, Option.toList_none, List.cons_append, List.nil_append, rb_bi_eq0, rb_bi_ne0, rb_okv0, rb_okv1, rb_okvb, ln0, ln1, ln2, ln3, ln4, ln5, ln6, ln7, ln8, ln9, ln10, if_true, if_false, ite_not, Decidable.not_not]
  by_cases h1 : V 0 11 4 = 0
  · simp only [if_pos h1, if_pos (show V 0 11 4 = 0 ∨ ¬ 2 ≤ cBound (V 0) m from Or.inl h1)]
  · by_cases h2 : 2 ≤ cBound (V 0) m
    · simp only [if_neg h1, if_pos h2, if_neg (show ¬ (V 0 11 4 = 0 ∨ ¬ 2 ≤ cBound (V 0) m) from fun q => q.elim h1 (fun q => q h2))]
    · simp only [if_neg h1, if_neg h2, if_pos (show V 0 11 4 = 0 ∨ ¬ 2 ≤ cBound (V 0) m from Or.inr h2)]
theorem m_imageAt : rb_G none 95 0 [some (.ref 0), some (.int x)] [] (rb_W V) P ↔ (if x = 0 then P (some (.ref 233)) (rb_W V) else if x = 1 then P (some (.ref 257)) (rb_W V) else P (some .null) (rb_W V)) := by
  simp only [r95_0, r95_1, r95_4, r95_5, r95_8n, r95_8r, r95_9, r95_10, r95_11, r95_14, r95_15, r95_18, r95_21, r95_22n, r95_22r, rb_sg_self, rb_sg_sg, List.length_cons, List.length_nil, Nat.reduceAdd, Nat.reduceLeDiff, Nat.reduceLT, Nat.zero_add, Option.toList_some, Option.toList_none, List.cons_append, List.nil_append, rb_bi_eq0, rb_bi_ne0, rb_okv0, rb_okv1, rb_okvb, ln0, ln1, ln2, ln3, ln4, ln5, ln6, ln7, ln8, ln9, ln10, if_true, if_false, ite_not, Decidable.not_not]
theorem q_keep (H : hOK V m t rd ph f n) : rb_G none 94 0 [some (.ref 0), some (.int x), none] [] (rb_W V) P ↔ (if x = 0 then P (some (.int (nI rd))) (rb_W (rb_sg (rb_sg V 10 (cCopy (V 10) (V 0))) 13 (rb_u2 (V 13) 1 0 1))) else if x = 1 then P (some (.int (nI rd))) (rb_W (rb_sg (rb_sg V 11 (cCopy (V 11) (V 0))) 13 (rb_u2 (V 13) 2 0 1))) else P (some (.int (-1))) (rb_W V)) := by
  obtain ⟨hm, hm2, hm8, ht, ht1, htm, hrd, hrd30, hph, hph3, hf, hf8, hn, hn8⟩ := H
  have e1 : ∀ c, rb_sg V 10 c 13 = V 13 := fun c => rb_sg_ne V c (by decide)
  have e2 : ∀ c, rb_sg V 11 c 13 = V 13 := fun c => rb_sg_ne V c (by decide)
  have e3 : ∀ c d, rb_sg (rb_sg V 10 c) 13 d 0 = V 0 := fun c d => by rw [rb_sg_ne _ _ (by decide), rb_sg_ne _ _ (by decide)]
  have e4 : ∀ c d, rb_sg (rb_sg V 11 c) 13 d 0 = V 0 := fun c d => by rw [rb_sg_ne _ _ (by decide), rb_sg_ne _ _ (by decide)]
  have n1 : ¬ (0 : Nat) = 10 := by decide
  have n2 : ¬ (0 : Nat) = 11 := by decide
  simp only [r94_0, r94_1, r94_2, r94_5, r94_5n, r94_6, r94_6n, r94_7n, r94_7r, r94_10, r94_11, r94_12, r94_12n, r94_13a, r94_13b, r94_16, r94_17, r94_20, r94_23, r94_23n, r94_24, r94_25a, r94_25b, r94_28, r94_29, r94_32, r94_35, m_imageAt, m_copyFrom (g := 10) (g' := 0) (by decide) (by decide) n1, m_copyFrom (g := 11) (g' := 0) (by decide) (by decide) n2, e1, e2, e3, e4, hrd, rb_sg_self, rb_sg_sg, List.length_cons, List.length_nil, Nat.reduceAdd, Nat.reduceLeDiff, Nat.reduceLT, Nat.zero_add, Option.toList_some, Option.toList_none, List.cons_append, List.nil_append, rb_bi_eq0, rb_bi_ne0, rb_okv0, rb_okv1, rb_okvb, ln0, ln1, ln2, ln3, ln4, ln5, ln6, ln7, ln8, ln9, ln10, if_true, if_false, ite_not, Decidable.not_not]
theorem q_back (H : hOK V m t rd ph f n) : rb_G none 96 0 [some (.ref 0), some (.int x), none] [] (rb_W V) P ↔ (if x = 0 then (if V 13 1 0 = 0 then P (some (.int (-2))) (rb_W V) else P (some (.int (V 10 11 3))) (rb_W (rb_sg (hRec V f n) 0 (cCopy (V 0) (V 10))))) else if x = 1 then (if V 13 2 0 = 0 then P (some (.int (-2))) (rb_W V) else P (some (.int (V 11 11 3))) (rb_W (rb_sg (hRec V f n) 0 (cCopy (V 0) (V 11))))) else P (some (.int (-1))) (rb_W V)) := by
  obtain ⟨hm, hm2, hm8, ht, ht1, htm, hrd, hrd30, hph, hph3, hf, hf8, hn, hn8⟩ := H
  have n1 : ¬ (10 : Nat) = 0 := by decide
  have n2 : ¬ (11 : Nat) = 0 := by decide
  have hp : (f + n) % 8 < 8 := Nat.mod_lt _ (by decide)
  have e1 : hRec V f n 10 = V 10 := by unfold hRec; rw [rb_sg_ne _ _ (by decide), rb_sg_ne _ _ (by omega)]
  have e2 : hRec V f n 11 = V 11 := by unfold hRec; rw [rb_sg_ne _ _ (by decide), rb_sg_ne _ _ (by omega)]
  have c3 : ∀ c d : Nat → Nat → Int32, cCopy c d 11 3 = d 11 3 := by
    intro c d
    unfold cCopy cScal
    simp only [rb_u1_row, rb_u2_ne, rb_u2_at, Nat.reduceEqDiff, not_false_eq_true, reduceCtorEq]
  simp only [r96_0, r96_1, r96_2, r96_5, r96_5n, r96_6, r96_6n, r96_7n, r96_7r, r96_10, r96_11, r96_12, r96_12n, r96_13a, r96_13b, r96_16, r96_19, r96_21, r96_22, r96_23, r96_26, r96_27, r96_30, r96_33, r96_34, r96_37, r96_37n, r96_38a, r96_38b, r96_41, r96_44, r96_45, r96_48, r96_51, m_imageAt, m_record hf hf8 hn hn8, m_copyFrom (g := 0) (g' := 10) (by decide) (by decide) n1, m_copyFrom (g := 0) (g' := 11) (by decide) (by decide) n2, hRec_0, e1, e2, c3, rb_sg_self, rb_sg_sg, List.length_cons, List.length_nil, Nat.reduceAdd, Nat.reduceLeDiff, Nat.reduceLT, Nat.zero_add, Option.toList_some, Option.toList_none, List.cons_append, List.nil_append, rb_bi_eq0, rb_bi_ne0, rb_okv0, rb_okv1, rb_okvb, ln0, ln1, ln2, ln3, ln4, ln5, ln6, ln7, ln8, ln9, ln10, if_true, if_false, ite_not, Decidable.not_not]
end RBM
