/-! THE METHODS' ANSWERS, 8: the face of the system, on -/
theorem hRes_13 (V : rb_V) (f n : Nat) : hRes V f n 13 = rb_u2 (V 13) 0 1 (nI n) := by
  unfold hRes; rw [rb_sg_ne _ _ (by decide), rb_sg_self]
section RBM
variable {V : rb_V} {P : Option Value → rb_M → Prop} {i o m t rd ph f n : Nat} {x y z : Int32}
theorem q_commit_b (h : ¬ ((0 ≤ x ∧ x < V 0 11 0) ∧ (0 ≤ y ∧ y < 256) ∧ (0 ≤ z ∧ z < 1000))) : rb_G none 62 0 [some (.ref 0), some (.int x), some (.int y), some (.int z)] [] (rb_W V) P ↔ P (some (.int (-1))) (rb_W V) := by
  simp only [r62_0, r62_1, r62_4, r62_5, r62_8, r62_11, r62_12, r62_15, r62_18, r62_19, r62_22, r62_25, r62_26, r62_27, r62_28, r62_31, r62_32, r62_35, r62_38, r62_40, r62_41, r62_42, r62_45, r62_46, r62_49, r62_52, r62_53, r62_56, r62_57, r62_58, r62_59, r62_62, r62_63, r62_66, r62_69, r62_70, r62_73, m_isMember, m_isSecret, m_isSalt, rb_sg_self, rb_sg_sg, List.length_cons, List.length_nil, Nat.reduceAdd, Nat.reduceLeDiff, Nat.reduceLT, Nat.zero_add, Option.toList_some, Option.toList_none, List.cons_append, List.nil_append, rb_bi_eq0, rb_bi_ne0, rb_okv0, rb_okv1, rb_okvb, ln0, ln1, ln2, ln3, ln4, ln5, ln6, ln7, ln8, ln9, ln10, if_true, if_false, ite_not, Decidable.not_not]
  by_cases h1 : 0 ≤ x ∧ x < V 0 11 0
  · by_cases h2 : 0 ≤ y ∧ y < 256
    · have h3 : ¬ (0 ≤ z ∧ z < 1000) := fun q => h ⟨h1, h2, q⟩
      simp only [if_pos h1, if_pos h2, if_neg h3]
    · simp only [if_pos h1, if_neg h2]
  · simp only [if_neg h1]
theorem q_commit_k (H : hOK V m t rd ph f n) (hi : i < m) (h2 : 0 ≤ y ∧ y < 256) (h3 : 0 ≤ z ∧ z < 1000) : rb_G none 62 0 [some (.ref 0), some (.int (nI i)), some (.int y), some (.int z)] [] (rb_W V) P ↔ (if V 0 11 4 = 0 ∧ V 0 3 i = 1 ∧ V 0 5 i = 0 ∧ ¬ V 0 2 i < V 0 0 3 then P (some (.int (cBind (V 0) i y z m t 6 i))) (rb_W (rb_sg (hRec V f n) 0 (cBind (V 0) i y z m t))) else P (some (.int (-2))) (rb_W V)) := by
  obtain ⟨hm, hm2, hm8, ht, ht1, htm, hrd, hrd30, hph, hph3, hf, hf8, hn, hn8⟩ := H
  have h1 := rb_mem1 hi hm8
  have hi8 : i < 8 := by omega
  have hb : ∀ {P' : Option Value → rb_M → Prop}, rb_G none 66 0 [some (.ref (rb_st 0)), some (.int (nI i)), some (.int y), some (.int z)] [] (rb_W (hRec V f n)) P' ↔ P' none (rb_W (rb_sg (hRec V f n) 0 (cBind (V 0) i y z m t))) := by
    intro P'
    have := m_bind (V := hRec V f n) (P := P') (g := 0) (m := m) (t := t) (s := y) (v := z) (by decide) hi8 (by rw [hRec_0]; exact hm) hm8 (by rw [hRec_0]; exact ht) ht1 (by omega)
    rw [hRec_0] at this
    exact this
  simp only [r62_0, r62_1, r62_4, r62_5, r62_8, r62_11, r62_12, r62_15, r62_18, r62_19, r62_22, r62_25, r62_26, r62_27, r62_28, r62_31, r62_32, r62_35, r62_38, r62_40, r62_41, r62_42, r62_45, r62_46, r62_49, r62_52, r62_53, r62_56, r62_57, r62_58, r62_59, r62_62, r62_63, r62_66, r62_69, r62_70, r62_73, m_isMember, m_isSecret, m_isSalt, m_mayCommit, m_record hf hf8 hn hn8, hb, m_at, hm, if_pos h1, if_pos h2, if_pos h3, hi8, rb_sg_self, rb_sg_sg, List.length_cons, List.length_nil, Nat.reduceAdd, Nat.reduceLeDiff, Nat.reduceLT, Nat.zero_add, Option.toList_some, Option.toList_none, List.cons_append, List.nil_append, rb_bi_eq0, rb_bi_ne0, rb_okv0, rb_okv1, rb_okvb, ln0, ln1, ln2, ln3, ln4, ln5, ln6, ln7, ln8, ln9, ln10, if_true, if_false, ite_not, Decidable.not_not]
theorem q_reveal_b (h : ¬ ((0 ≤ x ∧ x < V 0 11 0) ∧ (0 ≤ y ∧ y < 256) ∧ (0 ≤ z ∧ z < 1000))) : rb_G none 71 0 [some (.ref 0), some (.int x), some (.int y), some (.int z)] [] (rb_W V) P ↔ P (some (.int (-1))) (rb_W V) := by
  simp only [r71_0, r71_1, r71_4, r71_5, r71_8, r71_11, r71_12, r71_15, r71_18, r71_19, r71_22, r71_25, r71_26, r71_27, r71_28, r71_31, r71_32, r71_35, r71_38, r71_40, r71_41, r71_42, r71_45, r71_46, r71_49, r71_52, r71_53, r71_56, r71_57, r71_58, r71_59, r71_62, m_isMember, m_isSecret, m_isSalt, rb_sg_self, rb_sg_sg, List.length_cons, List.length_nil, Nat.reduceAdd, Nat.reduceLeDiff, Nat.reduceLT, Nat.zero_add, Option.toList_some, Option.toList_none, List.cons_append, List.nil_append, rb_bi_eq0, rb_bi_ne0, rb_okv0, rb_okv1, rb_okvb, ln0, ln1, ln2, ln3, ln4, ln5, ln6, ln7, ln8, ln9, ln10, if_true, if_false, ite_not, Decidable.not_not]
  by_cases h1 : 0 ≤ x ∧ x < V 0 11 0
  · by_cases h2 : 0 ≤ y ∧ y < 256
    · have h3 : ¬ (0 ≤ z ∧ z < 1000) := fun q => h ⟨h1, h2, q⟩
      simp only [if_pos h1, if_pos h2, if_neg h3]
    · simp only [if_pos h1, if_neg h2]
  · simp only [if_neg h1]
theorem q_reveal_k (H : hOK V m t rd ph f n) (hi : i < m) (h2 : 0 ≤ y ∧ y < 256) (h3 : 0 ≤ z ∧ z < 1000) : rb_G none 71 0 [some (.ref 0), some (.int (nI i)), some (.int y), some (.int z)] [] (rb_W V) P ↔ (if V 0 11 4 = 1 ∧ V 0 3 i = 1 ∧ V 0 5 i = 1 then (if rb_cm (nI i) y z = V 0 6 i then P (some (.int 1)) (rb_W (rb_sg (hRec V f n) 0 (cLearn (V 0) i y 2))) else P (some (.int 0)) (rb_W (rb_sg (hRec V f n) 0 (cFine (V 0) i (V 0 0 4))))) else P (some (.int (-2))) (rb_W V)) := by
  obtain ⟨hm, hm2, hm8, ht, ht1, htm, hrd, hrd30, hph, hph3, hf, hf8, hn, hn8⟩ := H
  have h1 := rb_mem1 hi hm8
  have hi8 : i < 8 := by omega
  have h10 : ¬ (1 : Int32) = 0 := by decide
  simp only [r71_0, r71_1, r71_4, r71_5, r71_8, r71_11, r71_12, r71_15, r71_18, r71_19, r71_22, r71_25, r71_26, r71_27, r71_28, r71_31, r71_32, r71_35, r71_38, r71_40, r71_41, r71_42, r71_45, r71_46, r71_49, r71_52, r71_53, r71_56, r71_57, r71_58, r71_59, r71_62, m_isMember, m_isSecret, m_isSalt, m_mayReveal, m_record hf hf8 hn hn8, m_open, hRec_0, hm, if_pos h1, if_pos h2, if_pos h3, hi8, h10, rb_sg_self, rb_sg_sg, List.length_cons, List.length_nil, Nat.reduceAdd, Nat.reduceLeDiff, Nat.reduceLT, Nat.zero_add, Option.toList_some, Option.toList_none, List.cons_append, List.nil_append, rb_bi_eq0, rb_bi_ne0, rb_okv0, rb_okv1, rb_okvb, ln0, ln1, ln2, ln3, ln4, ln5, ln6, ln7, ln8, ln9, ln10, if_true, if_false, ite_not, Decidable.not_not]
theorem q_publish_b (h : ¬ (((0 ≤ x ∧ x < V 0 11 0) ∧ (0 ≤ y ∧ y < V 0 11 0) ∧ ¬ x = y) ∧ ¬ z < 0 ∧ z < 257)) : rb_G none 76 0 [some (.ref 0), some (.int x), some (.int y), some (.int z)] [] (rb_W V) P ↔ P (some (.int (-1))) (rb_W V) := by
  simp only [r76_0, r76_1, r76_4, r76_5, r76_6, r76_9, r76_12, r76_13, r76_16, r76_17, r76_20, r76_23, r76_24, r76_25, r76_26, r76_29, r76_30, r76_31, r76_34, r76_37, r76_39, r76_40, r76_41, r76_44, r76_45, r76_48, r76_51, r76_52, r76_55, r76_56, r76_57, r76_58, r76_61, m_isPair, rb_sg_self, rb_sg_sg, List.length_cons, List.length_nil, Nat.reduceAdd, Nat.reduceLeDiff, Nat.reduceLT, Nat.zero_add, Option.toList_some, Option.toList_none, List.cons_append, List.nil_append, rb_bi_eq0, rb_bi_ne0, rb_okv0, rb_okv1, rb_okvb, ln0, ln1, ln2, ln3, ln4, ln5, ln6, ln7, ln8, ln9, ln10, if_true, if_false, ite_not, Decidable.not_not]
  by_cases h1 : (0 ≤ x ∧ x < V 0 11 0) ∧ (0 ≤ y ∧ y < V 0 11 0) ∧ ¬ x = y
  · by_cases h2 : z < 0
    · simp only [if_pos h1, if_pos h2]
    · have h3 : ¬ z < 257 := fun q => h ⟨h1, h2, q⟩
      simp only [if_pos h1, if_neg h2, if_neg h3]
  · simp only [if_neg h1]
theorem m_show_0 (H : hOK V m t rd ph f n) (hi : i < 8) (ho : o < 8) : rb_G none 39 0 [some (.ref (rb_st 0)), some (.int (nI i)), some (.int (nI o)), some (.int x), none, none] [] (rb_W (hRec V f n)) P ↔ P (some (.int (cShowR (V 0) i o x m))) (rb_W (rb_sg (hRec V f n) 0 (cShowC (V 0) i o x m))) := by
  obtain ⟨hm, hm2, hm8, ht, ht1, htm, hrd, hrd30, hph, hph3, hf, hf8, hn, hn8⟩ := H
  have := m_show (V := hRec V f n) (P := P) (g := 0) (m := m) (x := x) (by decide) ho hi (by rw [hRec_0]; exact hm) hm8
  rw [hRec_0] at this
  exact this
theorem rb_pair1 {V : rb_V} (hm : V 0 11 0 = nI m) (hm8 : m ≤ 8) (hi : i < m) (ho : o < m) (hio : ¬ i = o) : (0 ≤ nI i ∧ nI i < V 0 11 0) ∧ (0 ≤ nI o ∧ nI o < V 0 11 0) ∧ ¬ nI i = nI o := by
  rw [hm]
  exact ⟨rb_mem1 hi hm8, rb_mem1 ho hm8, fun q => hio ((rb_eqn (by omega) (by omega)).mp q)⟩
theorem q_publish_k (H : hOK V m t rd ph f n) (hi : i < m) (ho : o < m) (hio : ¬ i = o) (h2 : ¬ z < 0) (h3 : z < 257) : rb_G none 76 0 [some (.ref 0), some (.int (nI i)), some (.int (nI o)), some (.int z)] [] (rb_W V) P ↔ (if V 0 11 4 = 2 ∧ ¬ i = o ∧ V 0 3 i = 1 ∧ ¬ V 0 5 i = 0 ∧ V 0 5 o = 1 ∧ V 0 10 (8 * o + i) = -9 then P (some (.int (cShowR (V 0) i o z m))) (rb_W (rb_sg (hRec V f n) 0 (cShowC (V 0) i o z m))) else P (some (.int (-2))) (rb_W V)) := by
  have H' := H
  obtain ⟨hm, hm2, hm8, ht, ht1, htm, hrd, hrd30, hph, hph3, hf, hf8, hn, hn8⟩ := H
  have h1 := rb_pair1 hm hm8 hi ho hio
  have hi8 : i < 8 := by omega
  have ho8 : o < 8 := by omega
  have h10 : ¬ (1 : Int32) = 0 := by decide
  simp only [r76_0, r76_1, r76_4, r76_5, r76_6, r76_9, r76_12, r76_13, r76_16, r76_17, r76_20, r76_23, r76_24, r76_25, r76_26, r76_29, r76_30, r76_31, r76_34, r76_37, r76_39, r76_40, r76_41, r76_44, r76_45, r76_48, r76_51, r76_52, r76_55, r76_56, r76_57, r76_58, r76_61, m_isPair, m_mayPublish, m_record hf hf8 hn hn8, m_show_0 H' hi8 ho8, if_pos h1, if_neg h2, if_pos h3, hi8, ho8, h10, rb_sg_self, rb_sg_sg, List.length_cons, List.length_nil, Nat.reduceAdd, Nat.reduceLeDiff, Nat.reduceLT, Nat.zero_add, Option.toList_some, Option.toList_none, List.cons_append, List.nil_append, rb_bi_eq0, rb_bi_ne0, rb_okv0, rb_okv1, rb_okvb, ln0, ln1, ln2, ln3, ln4, ln5, ln6, ln7, ln8, ln9, ln10, if_true, if_false, ite_not, Decidable.not_not]
theorem q_give_b (h : ¬ ((0 ≤ x ∧ x < V 0 11 0) ∧ (0 ≤ y ∧ y < V 0 11 0) ∧ ¬ x = y)) : rb_G none 73 0 [some (.ref 0), some (.int x), some (.int y)] [] (rb_W V) P ↔ P (some (.int (-1))) (rb_W V) := by
  simp only [r73_0, r73_1, r73_4, r73_5, r73_6, r73_9, r73_12, r73_13, r73_14, r73_15, r73_18, r73_19, r73_20, r73_23, r73_26, r73_28, r73_29, r73_30, r73_33, r73_34, r73_37, r73_40, r73_41, r73_44, r73_45, r73_46, r73_47, r73_50, r73_51, r73_52, r73_55, r73_58, m_isPair, if_neg h, rb_sg_self, rb_sg_sg, List.length_cons, List.length_nil, Nat.reduceAdd, Nat.reduceLeDiff, Nat.reduceLT, Nat.zero_add, Option.toList_some, Option.toList_none, List.cons_append, List.nil_append, rb_bi_eq0, rb_bi_ne0, rb_okv0, rb_okv1, rb_okvb, ln0, ln1, ln2, ln3, ln4, ln5, ln6, ln7, ln8, ln9, ln10, if_true, if_false, ite_not, Decidable.not_not]
theorem q_give_k (H : hOK V m t rd ph f n) (hi : i < m) (ho : o < m) (hio : ¬ i = o) : rb_G none 73 0 [some (.ref 0), some (.int (nI i)), some (.int (nI o))] [] (rb_W V) P ↔ (if V 0 11 4 = 2 ∧ ¬ i = o ∧ V 0 3 i = 1 ∧ ¬ V 0 5 i = 0 ∧ V 0 5 o = 1 ∧ V 0 10 (8 * o + i) = -9 then P (some (.int (cShowR (V 0) i o (V 0 9 (8 * o + i)) m))) (rb_W (rb_sg (hRec V f n) 0 (cShowC (V 0) i o (V 0 9 (8 * o + i)) m))) else P (some (.int (-2))) (rb_W V)) := by
  have H' := H
  obtain ⟨hm, hm2, hm8, ht, ht1, htm, hrd, hrd30, hph, hph3, hf, hf8, hn, hn8⟩ := H
  have h1 := rb_pair1 hm hm8 hi ho hio
  have hi8 : i < 8 := by omega
  have ho8 : o < 8 := by omega
  have h10 : ¬ (1 : Int32) = 0 := by decide
  simp only [r73_0, r73_1, r73_4, r73_5, r73_6, r73_9, r73_12, r73_13, r73_14, r73_15, r73_18, r73_19, r73_20, r73_23, r73_26, r73_28, r73_29, r73_30, r73_33, r73_34, r73_37, r73_40, r73_41, r73_44, r73_45, r73_46, r73_47, r73_50, r73_51, r73_52, r73_55, r73_58, m_isPair, m_mayPublish, m_record hf hf8 hn hn8, m_show_0 H' hi8 ho8, m_trueShare, hRec_0, if_pos h1, hi8, ho8, h10, rb_sg_self, rb_sg_sg, List.length_cons, List.length_nil, Nat.reduceAdd, Nat.reduceLeDiff, Nat.reduceLT, Nat.zero_add, Option.toList_some, Option.toList_none, List.cons_append, List.nil_append, rb_bi_eq0, rb_bi_ne0, rb_okv0, rb_okv1, rb_okvb, ln0, ln1, ln2, ln3, ln4, ln5, ln6, ln7, ln8, ln9, ln10, if_true, if_false, ite_not, Decidable.not_not]
theorem q_next (H : hOK V m t rd ph f n) : rb_G none 77 0 [some (.ref 0)] [] (rb_W V) P ↔ (if V 0 11 4 = 3 then (if rd + 1 < 30 then P (some (.int (nI (rd + 1)))) (rb_W (rb_sg (hRec V f n) 0 (cStart (rb_u2 (V 0) 11 3 (nI (rd + 1))) (rd + 1)))) else P (some (.int (-3))) (rb_W V)) else P (some (.int (-2))) (rb_W V)) := by
  obtain ⟨hm, hm2, hm8, ht, ht1, htm, hrd, hrd30, hph, hph3, hf, hf8, hn, hn8⟩ := H
  by_cases h1 : V 0 11 4 = 3
  · by_cases h2 : rd + 1 < 30
    · have h3 : nI (rd + 1) < 30 := nI_lt (b := 30) h2 (by decide)
      have e : cStart (rb_u2 (V 0) 11 3 (nI (rd + 1))) (rd + 1) 11 3 = nI (rd + 1) := by
        unfold cStart; rw [rb_u1_row (by decide), rb_u1_row (by decide), rb_u2_row (by decide), cEnter_11 _ _ _ (by decide) (by decide), rb_u2_at]
      have hs : ∀ {P' : Option Value → rb_M → Prop}, rb_G none 8 0 [some (.ref (rb_st 0))] [] (rb_W (rb_sg (hRec V f n) 0 (rb_u2 (V 0) 11 3 (nI (rd + 1))))) P' ↔ P' none (rb_W (rb_sg (hRec V f n) 0 (cStart (rb_u2 (V 0) 11 3 (nI (rd + 1))) (rd + 1)))) := fun {P'} => m_startRound_at (by decide) rb_u2_at h2
      simp only [r77_0, r77_1, r77_4, r77_7, r77_8, r77_11, r77_13, r77_14, r77_15, r77_18, r77_21, r77_22, r77_23, r77_25, r77_28, r77_30, r77_31, r77_32, r77_35, r77_36, r77_39, r77_42, r77_43, r77_46a, r77_46i, r77_47, r77_50, r77_51, r77_52, r77_55, r77_56, r77_59, r77_62, r77_63, r77_66, r77_69, m_record hf hf8 hn hn8, hRec_0, hs, e, hrd, nI_1, if_pos h1, if_pos h2, if_pos h3, rb_sg_self, rb_sg_sg, List.length_cons, List.length_nil, Nat.reduceAdd, Nat.reduceLeDiff, Nat.reduceLT, Nat.zero_add, Option.toList_some, Option.toList_none, List.cons_append, List.nil_append, rb_bi_eq0, rb_bi_ne0, rb_okv0, rb_okv1, rb_okvb, ln0, ln1, ln2, ln3, ln4, ln5, ln6, ln7, ln8, ln9, ln10, if_true, if_false, ite_not, Decidable.not_not]
    · have h3 : ¬ nI (rd + 1) < 30 := nI_nlt (a := rd + 1) (b := 30) (by omega) (by omega)
      simp only [r77_0, r77_1, r77_4, r77_7, r77_8, r77_11, r77_13, r77_14, r77_15, r77_18, r77_21, r77_22, r77_23, r77_25, r77_28, r77_30, r77_31, r77_32, r77_35, r77_36, r77_39, r77_42, r77_43, r77_46a, r77_46i, r77_47, r77_50, r77_51, r77_52, r77_55, r77_56, r77_59, r77_62, r77_63, r77_66, r77_69, hrd, nI_1, if_pos h1, if_neg h2, if_neg h3, rb_sg_self, rb_sg_sg, List.length_cons, List.length_nil, Nat.reduceAdd, Nat.reduceLeDiff, Nat.reduceLT, Nat.zero_add, Option.toList_some, Option.toList_none, List.cons_append, List.nil_append, rb_bi_eq0, rb_bi_ne0, rb_okv0, rb_okv1, rb_okvb, ln0, ln1, ln2, ln3, ln4, ln5, ln6, ln7, ln8, ln9, ln10, if_true, if_false, ite_not, Decidable.not_not]
  · simp only [r77_0, r77_1, r77_4, r77_7, r77_8, r77_11, r77_13, r77_14, r77_15, r77_18, r77_21, r77_22, r77_23, r77_25, r77_28, r77_30, r77_31, r77_32, r77_35, r77_36, r77_39, r77_42, r77_43, r77_46a, r77_46i, r77_47, r77_50, r77_51, r77_52, r77_55, r77_56, r77_59, r77_62, r77_63, r77_66, r77_69, if_neg h1, rb_sg_self, rb_sg_sg, List.length_cons, List.length_nil, Nat.reduceAdd, Nat.reduceLeDiff, Nat.reduceLT, Nat.zero_add, Option.toList_some, Option.toList_none, List.cons_append, List.nil_append, rb_bi_eq0, rb_bi_ne0, rb_okv0, rb_okv1, rb_okvb, ln0, ln1, ln2, ln3, ln4, ln5, ln6, ln7, ln8, ln9, ln10, if_true, if_false, ite_not, Decidable.not_not]
theorem q_undo_0 (H : hOK V m t rd ph f 0) : rb_G none 81 0 [some (.ref 0)] [] (rb_W V) P ↔ P (some (.int (-2))) (rb_W V) := by
  obtain ⟨hm, hm2, hm8, ht, ht1, htm, hrd, hrd30, hph, hph3, hf, hf8, hn, hn8⟩ := H
  have h : ¬ (1 : Int32) ≤ nI 0 := by decide
  simp only [r81_0, r81_1, r81_4, r81_7, r81_8, r81_11, r81_13, r81_14, r81_15, r81_18, r81_19, r81_22, r81_25, r81_26, r81_29, r81_32, hn, h, rb_sg_self, rb_sg_sg, List.length_cons, List.length_nil, Nat.reduceAdd, Nat.reduceLeDiff, Nat.reduceLT, Nat.zero_add, Option.toList_some, Option.toList_none, List.cons_append, List.nil_append, rb_bi_eq0, rb_bi_ne0, rb_okv0, rb_okv1, rb_okvb, ln0, ln1, ln2, ln3, ln4, ln5, ln6, ln7, ln8, ln9, ln10, if_true, if_false, ite_not, Decidable.not_not]
theorem q_undo_s (H : hOK V m t rd ph f (n + 1)) : rb_G none 81 0 [some (.ref 0)] [] (rb_W V) P ↔ P (some (.int (nI n))) (rb_W (hRes V f n)) := by
  obtain ⟨hm, hm2, hm8, ht, ht1, htm, hrd, hrd30, hph, hph3, hf, hf8, hn, hn8⟩ := H
  have h : (1 : Int32) ≤ nI (n + 1) := nI_le (a := 1) (by omega) (by omega)
  simp only [r81_0, r81_1, r81_4, r81_7, r81_8, r81_11, r81_13, r81_14, r81_15, r81_18, r81_19, r81_22, r81_25, r81_26, r81_29, r81_32, hn, h, m_restore hf hf8 hn hn8, hRes_13, rb_u2_at, rb_sg_self, rb_sg_sg, List.length_cons, List.length_nil, Nat.reduceAdd, Nat.reduceLeDiff, Nat.reduceLT, Nat.zero_add, Option.toList_some, Option.toList_none, List.cons_append, List.nil_append, rb_bi_eq0, rb_bi_ne0, rb_okv0, rb_okv1, rb_okvb, ln0, ln1, ln2, ln3, ln4, ln5, ln6, ln7, ln8, ln9, ln10, if_true, if_false, ite_not, Decidable.not_not]
theorem q_setting_b (h : ¬ (0 ≤ x ∧ x < 6)) : rb_G none 93 0 [some (.ref 0), some (.int x)] [] (rb_W V) P ↔ P (some (.int (-1))) (rb_W V) := by
  simp only [r93_0, r93_1, r93_4, r93_7, r93_8, r93_11, r93_14, r93_15, r93_18, r93_21, r93_22, m_isSetting, if_neg h, rb_sg_self, rb_sg_sg, List.length_cons, List.length_nil, Nat.reduceAdd, Nat.reduceLeDiff, Nat.reduceLT, Nat.zero_add, Option.toList_some, Option.toList_none, List.cons_append, List.nil_append, rb_bi_eq0, rb_bi_ne0, rb_okv0, rb_okv1, rb_okvb, ln0, ln1, ln2, ln3, ln4, ln5, ln6, ln7, ln8, ln9, ln10, if_true, if_false, ite_not, Decidable.not_not]
theorem q_setting_k (hi : i < 6) : rb_G none 93 0 [some (.ref 0), some (.int (nI i))] [] (rb_W V) P ↔ P (some (.int (V 0 0 i))) (rb_W V) := by
  have h1 : 0 ≤ nI i ∧ nI i < 6 := ⟨nI_pos' (by omega), nI_lt (b := 6) hi (by omega)⟩
  simp only [r93_0, r93_1, r93_4, r93_7, r93_8, r93_11, r93_14, r93_15, r93_18, r93_21, r93_22, m_isSetting, m_at, if_pos h1, hi, rb_sg_self, rb_sg_sg, List.length_cons, List.length_nil, Nat.reduceAdd, Nat.reduceLeDiff, Nat.reduceLT, Nat.zero_add, Option.toList_some, Option.toList_none, List.cons_append, List.nil_append, rb_bi_eq0, rb_bi_ne0, rb_okv0, rb_okv1, rb_okvb, ln0, ln1, ln2, ln3, ln4, ln5, ln6, ln7, ln8, ln9, ln10, if_true, if_false, ite_not, Decidable.not_not]
theorem q_mark_b (h : ¬ ((0 ≤ x ∧ x < V 0 11 0) ∧ (0 ≤ y ∧ y < V 0 11 0))) : rb_G none 91 0 [some (.ref 0), some (.int x), some (.int y)] [] (rb_W V) P ↔ P (some (.int (-1))) (rb_W V) := by
  simp only [r91_0, r91_1, r91_4, r91_5, r91_8, r91_11, r91_12, r91_15, r91_16, r91_19, r91_22, r91_23, r91_24, r91_25, r91_28, r91_29, r91_32, r91_35, r91_36, r91_37, r91_40, r91_41, r91_42, r91_45, r91_48, r91_51, r91_53, m_isMember, rb_sg_self, rb_sg_sg, List.length_cons, List.length_nil, Nat.reduceAdd, Nat.reduceLeDiff, Nat.reduceLT, Nat.zero_add, Option.toList_some, Option.toList_none, List.cons_append, List.nil_append, rb_bi_eq0, rb_bi_ne0, rb_okv0, rb_okv1, rb_okvb, ln0, ln1, ln2, ln3, ln4, ln5, ln6, ln7, ln8, ln9, ln10, if_true, if_false, ite_not, Decidable.not_not]
  by_cases h1 : 0 ≤ x ∧ x < V 0 11 0
  · have h2 : ¬ (0 ≤ y ∧ y < V 0 11 0) := fun q => h ⟨h1, q⟩
    simp only [if_pos h1, if_neg h2]
  · simp only [if_neg h1]
theorem q_mark_k (H : hOK V m t rd ph f n) (ho : o < m) (hi : i < m) : rb_G none 91 0 [some (.ref 0), some (.int (nI o)), some (.int (nI i))] [] (rb_W V) P ↔ (if V 0 5 o = 0 then P (some (.int (-9))) (rb_W V) else P (some (.int (rb_mk (nI i) (V 0 9 (8 * o + i))))) (rb_W V)) := by
  obtain ⟨hm, hm2, hm8, ht, ht1, htm, hrd, hrd30, hph, hph3, hf, hf8, hn, hn8⟩ := H
  have h1 := rb_mem1 hi hm8
  have h2 := rb_mem1 ho hm8
  have hi8 : i < 8 := by omega
  have ho8 : o < 8 := by omega
  simp only [r91_0, r91_1, r91_4, r91_5, r91_8, r91_11, r91_12, r91_15, r91_16, r91_19, r91_22, r91_23, r91_24, r91_25, r91_28, r91_29, r91_32, r91_35, r91_36, r91_37, r91_40, r91_41, r91_42, r91_45, r91_48, r91_51, r91_53, m_isMember, m_isBound, m_trueShare, m_mk, hm, if_pos h1, if_pos h2, hi8, ho8, rb_sg_self, rb_sg_sg, List.length_cons, List.length_nil, Nat.reduceAdd, Nat.reduceLeDiff, Nat.reduceLT, Nat.zero_add, Option.toList_some, Option.toList_none, List.cons_append, List.nil_append, rb_bi_eq0, rb_bi_ne0, rb_okv0, rb_okv1, rb_okvb, ln0, ln1, ln2, ln3, ln4, ln5, ln6, ln7, ln8, ln9, ln10, if_true, if_false, ite_not, Decidable.not_not]
theorem q_share_b (h : ¬ ((0 ≤ x ∧ x < V 0 11 0) ∧ (0 ≤ y ∧ y < V 0 11 0))) : rb_G none 90 0 [some (.ref 0), some (.int x), some (.int y)] [] (rb_W V) P ↔ P (some (.int (-1))) (rb_W V) := by
  simp only [r90_0, r90_1, r90_4, r90_5, r90_8, r90_11, r90_12, r90_15, r90_16, r90_19, r90_22, r90_23, r90_24, r90_25, r90_28, r90_31, r90_32, r90_33, r90_36, r90_39, m_isMember, rb_sg_self, rb_sg_sg, List.length_cons, List.length_nil, Nat.reduceAdd, Nat.reduceLeDiff, Nat.reduceLT, Nat.zero_add, Option.toList_some, Option.toList_none, List.cons_append, List.nil_append, rb_bi_eq0, rb_bi_ne0, rb_okv0, rb_okv1, rb_okvb, ln0, ln1, ln2, ln3, ln4, ln5, ln6, ln7, ln8, ln9, ln10, if_true, if_false, ite_not, Decidable.not_not]
  by_cases h1 : 0 ≤ x ∧ x < V 0 11 0
  · have h2 : ¬ (0 ≤ y ∧ y < V 0 11 0) := fun q => h ⟨h1, q⟩
    simp only [if_pos h1, if_neg h2]
  · simp only [if_neg h1]
theorem q_share_k (H : hOK V m t rd ph f n) (ho : o < m) (hi : i < m) : rb_G none 90 0 [some (.ref 0), some (.int (nI o)), some (.int (nI i))] [] (rb_W V) P ↔ P (some (.int (V 0 10 (8 * o + i)))) (rb_W V) := by
  obtain ⟨hm, hm2, hm8, ht, ht1, htm, hrd, hrd30, hph, hph3, hf, hf8, hn, hn8⟩ := H
  have h1 := rb_mem1 hi hm8
  have h2 := rb_mem1 ho hm8
  have h64 : 8 * o + i < 64 := by omega
  simp only [r90_0, r90_1, r90_4, r90_5, r90_8, r90_11, r90_12, r90_15, r90_16, r90_19, r90_22, r90_23, r90_24, r90_25, r90_28, r90_31, r90_32, r90_33, r90_36, r90_39, m_isMember, m_cell, m_at, hm, if_pos h1, if_pos h2, h64, rb_sg_self, rb_sg_sg, List.length_cons, List.length_nil, Nat.reduceAdd, Nat.reduceLeDiff, Nat.reduceLT, Nat.zero_add, Option.toList_some, Option.toList_none, List.cons_append, List.nil_append, rb_bi_eq0, rb_bi_ne0, rb_okv0, rb_okv1, rb_okvb, ln0, ln1, ln2, ln3, ln4, ln5, ln6, ln7, ln8, ln9, ln10, if_true, if_false, ite_not, Decidable.not_not]
theorem q_past_b (H : hOK V m t rd ph f n) (h : ¬ (0 ≤ x ∧ x < nI rd)) : rb_G none 99 0 [some (.ref 0), some (.int x)] [] (rb_W V) P ↔ P (some (.int (-1))) (rb_W V) := by
  obtain ⟨hm, hm2, hm8, ht, ht1, htm, hrd, hrd30, hph, hph3, hf, hf8, hn, hn8⟩ := H
  simp only [r99_0, r99_1, r99_4, r99_5, r99_6, r99_9, r99_12, r99_15, r99_16, r99_19, r99_22, r99_23, r99_26, r99_29, r99_30, hrd, rb_sg_self, rb_sg_sg, List.length_cons, List.length_nil, Nat.reduceAdd, Nat.reduceLeDiff, Nat.reduceLT, Nat.zero_add, Option.toList_some, Option.toList_none, List.cons_append, List.nil_append, rb_bi_eq0, rb_bi_ne0, rb_okv0, rb_okv1, rb_okvb, ln0, ln1, ln2, ln3, ln4, ln5, ln6, ln7, ln8, ln9, ln10, if_true, if_false, ite_not, Decidable.not_not]
  by_cases h1 : x < 0
  · simp only [if_pos h1]
  · have h2 : nI rd ≤ x := Int32.not_lt.mp (fun q => h ⟨Int32.not_lt.mp h1, q⟩)
    simp only [if_neg h1, if_pos h2]
theorem q_past_k (H : hOK V m t rd ph f n) (hi : i < rd) : rb_G none 99 0 [some (.ref 0), some (.int (nI i))] [] (rb_W V) P ↔ P (some (.int (V 0 1 i))) (rb_W V) := by
  obtain ⟨hm, hm2, hm8, ht, ht1, htm, hrd, hrd30, hph, hph3, hf, hf8, hn, hn8⟩ := H
  have h1 : ¬ nI i < 0 := nI_pos (by omega)
  have h2 : ¬ nI rd ≤ nI i := nI_ge hi (by omega)
  have hi30 : i < 30 := by omega
  simp only [r99_0, r99_1, r99_4, r99_5, r99_6, r99_9, r99_12, r99_15, r99_16, r99_19, r99_22, r99_23, r99_26, r99_29, r99_30, hrd, m_at, if_neg h1, if_neg h2, hi30, rb_sg_self, rb_sg_sg, List.length_cons, List.length_nil, Nat.reduceAdd, Nat.reduceLeDiff, Nat.reduceLT, Nat.zero_add, Option.toList_some, Option.toList_none, List.cons_append, List.nil_append, rb_bi_eq0, rb_bi_ne0, rb_okv0, rb_okv1, rb_okvb, ln0, ln1, ln2, ln3, ln4, ln5, ln6, ln7, ln8, ln9, ln10, if_true, if_false, ite_not, Decidable.not_not]
theorem q_honest (H : hOK V m t rd ph f n) : rb_G none 95 0 [some (.ref 0)] [] (rb_W V) P ↔ (if V 0 11 4 = 0 ∨ ¬ 2 ≤ cBound (V 0) m then P (some (.int (-2))) (rb_W V) else P (some (.int (cBoundX (V 0) m))) (rb_W V)) := by
  obtain ⟨hm, hm2, hm8, ht, ht1, htm, hrd, hrd30, hph, hph3, hf, hf8, hn, hn8⟩ := H
  simp only [r95_0, r95_1, r95_4, r95_7, r95_10, r95_11, r95_14, r95_17, r95_18, r95_21, r95_23, r95_24, r95_25, r95_28, r95_31, m_countBound (show 0 < 12 by decide) hm hm8, m_combineBound (show 0 < 12 by decide) hm hm8, rb_sg_self, rb_sg_sg, List.length_cons, List.length_nil, Nat.reduceAdd, Nat.reduceLeDiff, Nat.reduceLT, Nat.zero_add, Option.toList_some, Option.toList_none, List.cons_append, List.nil_append, rb_bi_eq0, rb_bi_ne0, rb_okv0, rb_okv1, rb_okvb, ln0, ln1, ln2, ln3, ln4, ln5, ln6, ln7, ln8, ln9, ln10, if_true, if_false, ite_not, Decidable.not_not]
  by_cases h1 : V 0 11 4 = 0
  · simp only [if_pos h1, if_pos (show V 0 11 4 = 0 ∨ ¬ 2 ≤ cBound (V 0) m from Or.inl h1)]
  · by_cases h2 : 2 ≤ cBound (V 0) m
    · simp only [if_neg h1, if_pos h2, if_neg (show ¬ (V 0 11 4 = 0 ∨ ¬ 2 ≤ cBound (V 0) m) from fun q => q.elim h1 (fun q => q h2))]
    · simp only [if_neg h1, if_neg h2, if_pos (show V 0 11 4 = 0 ∨ ¬ 2 ≤ cBound (V 0) m from Or.inr h2)]
theorem m_imageAt : rb_G none 79 0 [some (.ref 0), some (.int x)] [] (rb_W V) P ↔ (if x = 0 then P (some (.ref 233)) (rb_W V) else if x = 1 then P (some (.ref 257)) (rb_W V) else P (some .null) (rb_W V)) := by
  simp only [r79_0, r79_1, r79_4, r79_5, r79_8n, r79_8r, r79_9, r79_10, r79_11, r79_14, r79_15, r79_18, r79_21, r79_22n, r79_22r, rb_sg_self, rb_sg_sg, List.length_cons, List.length_nil, Nat.reduceAdd, Nat.reduceLeDiff, Nat.reduceLT, Nat.zero_add, Option.toList_some, Option.toList_none, List.cons_append, List.nil_append, rb_bi_eq0, rb_bi_ne0, rb_okv0, rb_okv1, rb_okvb, ln0, ln1, ln2, ln3, ln4, ln5, ln6, ln7, ln8, ln9, ln10, if_true, if_false, ite_not, Decidable.not_not]
theorem q_keep (H : hOK V m t rd ph f n) : rb_G none 78 0 [some (.ref 0), some (.int x), none] [] (rb_W V) P ↔ (if x = 0 then P (some (.int (nI rd))) (rb_W (rb_sg (rb_sg V 10 (cCopy (V 10) (V 0))) 13 (rb_u2 (V 13) 1 0 1))) else if x = 1 then P (some (.int (nI rd))) (rb_W (rb_sg (rb_sg V 11 (cCopy (V 11) (V 0))) 13 (rb_u2 (V 13) 2 0 1))) else P (some (.int (-1))) (rb_W V)) := by
  obtain ⟨hm, hm2, hm8, ht, ht1, htm, hrd, hrd30, hph, hph3, hf, hf8, hn, hn8⟩ := H
  have e1 : ∀ c, rb_sg V 10 c 13 = V 13 := fun c => rb_sg_ne V c (by decide)
  have e2 : ∀ c, rb_sg V 11 c 13 = V 13 := fun c => rb_sg_ne V c (by decide)
  have e3 : ∀ c d, rb_sg (rb_sg V 10 c) 13 d 0 = V 0 := fun c d => by rw [rb_sg_ne _ _ (by decide), rb_sg_ne _ _ (by decide)]
  have e4 : ∀ c d, rb_sg (rb_sg V 11 c) 13 d 0 = V 0 := fun c d => by rw [rb_sg_ne _ _ (by decide), rb_sg_ne _ _ (by decide)]
  have n1 : ¬ (0 : Nat) = 10 := by decide
  have n2 : ¬ (0 : Nat) = 11 := by decide
  simp only [r78_0, r78_1, r78_2, r78_5, r78_5n, r78_6, r78_6n, r78_7n, r78_7r, r78_10, r78_11, r78_12, r78_12n, r78_13a, r78_13b, r78_16, r78_17, r78_20, r78_23, r78_23n, r78_24, r78_25a, r78_25b, r78_28, r78_29, r78_32, r78_35, m_imageAt, m_copyFrom (g := 10) (g' := 0) (by decide) (by decide) n1, m_copyFrom (g := 11) (g' := 0) (by decide) (by decide) n2, e1, e2, e3, e4, hrd, rb_sg_self, rb_sg_sg, List.length_cons, List.length_nil, Nat.reduceAdd, Nat.reduceLeDiff, Nat.reduceLT, Nat.zero_add, Option.toList_some, Option.toList_none, List.cons_append, List.nil_append, rb_bi_eq0, rb_bi_ne0, rb_okv0, rb_okv1, rb_okvb, ln0, ln1, ln2, ln3, ln4, ln5, ln6, ln7, ln8, ln9, ln10, if_true, if_false, ite_not, Decidable.not_not]
theorem q_back (H : hOK V m t rd ph f n) : rb_G none 80 0 [some (.ref 0), some (.int x), none] [] (rb_W V) P ↔ (if x = 0 then (if V 13 1 0 = 0 then P (some (.int (-2))) (rb_W V) else P (some (.int (V 10 11 3))) (rb_W (rb_sg (hRec V f n) 0 (cCopy (V 0) (V 10))))) else if x = 1 then (if V 13 2 0 = 0 then P (some (.int (-2))) (rb_W V) else P (some (.int (V 11 11 3))) (rb_W (rb_sg (hRec V f n) 0 (cCopy (V 0) (V 11))))) else P (some (.int (-1))) (rb_W V)) := by
  obtain ⟨hm, hm2, hm8, ht, ht1, htm, hrd, hrd30, hph, hph3, hf, hf8, hn, hn8⟩ := H
  have n1 : ¬ (10 : Nat) = 0 := by decide
  have n2 : ¬ (11 : Nat) = 0 := by decide
  have hp : (f + n) % 8 < 8 := Nat.mod_lt _ (by decide)
  have e1 : hRec V f n 10 = V 10 := by unfold hRec; rw [rb_sg_ne _ _ (by decide), rb_sg_ne _ _ (by omega)]
  have e2 : hRec V f n 11 = V 11 := by unfold hRec; rw [rb_sg_ne _ _ (by decide), rb_sg_ne _ _ (by omega)]
  have c3 : ∀ c d : Nat → Nat → Int32, cCopy c d 11 3 = d 11 3 := by
    intro c d
    unfold cCopy cScal
    simp only [rb_u1_row, rb_u2_ne, rb_u2_at, Nat.reduceEqDiff, not_false_eq_true, reduceCtorEq]
  simp only [r80_0, r80_1, r80_2, r80_5, r80_5n, r80_6, r80_6n, r80_7n, r80_7r, r80_10, r80_11, r80_12, r80_12n, r80_13a, r80_13b, r80_16, r80_19, r80_21, r80_22, r80_23, r80_26, r80_27, r80_30, r80_33, r80_34, r80_37, r80_37n, r80_38a, r80_38b, r80_41, r80_44, r80_45, r80_48, r80_51, m_imageAt, m_record hf hf8 hn hn8, m_copyFrom (g := 0) (g' := 10) (by decide) (by decide) n1, m_copyFrom (g := 0) (g' := 11) (by decide) (by decide) n2, hRec_0, e1, e2, c3, rb_sg_self, rb_sg_sg, List.length_cons, List.length_nil, Nat.reduceAdd, Nat.reduceLeDiff, Nat.reduceLT, Nat.zero_add, Option.toList_some, Option.toList_none, List.cons_append, List.nil_append, rb_bi_eq0, rb_bi_ne0, rb_okv0, rb_okv1, rb_okvb, ln0, ln1, ln2, ln3, ln4, ln5, ln6, ln7, ln8, ln9, ln10, if_true, if_false, ite_not, Decidable.not_not]
end RBM
