/-! THE LAW'S SECOND QUESTION: isOutput -/
theorem rn_ct_sub {p q : Nat → Prop} [DecidablePred p] [DecidablePred q] : ∀ {n : Nat}, (∀ k, k < n → p k → q k) → rn_ct p n ≤ rn_ct q n ∧ ((∃ i, i < n ∧ q i ∧ ¬ p i) → rn_ct p n < rn_ct q n)
  | 0, _ => ⟨Nat.le_refl _, fun ⟨i, hi, _⟩ => absurd hi (Nat.not_lt_zero i)⟩
  | n + 1, h => by
    obtain ⟨a, b⟩ := rn_ct_sub (p := p) (q := q) (n := n) (fun k hk => h k (by omega))
    have hn := h n (by omega)
    unfold rn_ct
    by_cases h1 : p n
    · rw [if_pos h1, if_pos (hn h1)]
      refine ⟨by omega, fun ⟨i, hi, q1, q2⟩ => ?_⟩
      have e : ¬ i = n := fun z => q2 (by rw [z]; exact h1)
      have := b ⟨i, by omega, q1, q2⟩
      omega
    · rw [if_neg h1]
      by_cases h2 : q n
      · rw [if_pos h2]; exact ⟨by omega, fun _ => by omega⟩
      · rw [if_neg h2]
        refine ⟨by omega, fun ⟨i, hi, q1, q2⟩ => ?_⟩
        have e : ¬ i = n := fun z => h2 (by rw [← z]; exact q1)
        have := b ⟨i, by omega, q1, q2⟩
        omega
theorem rn_xor_nn {f : Nat → Int32} : ∀ {n : Nat}, (∀ i, i < n → ¬ f i < 0) → ¬ rb_xor f n < 0
  | 0, _ => by show ¬ (0 : Int32) < 0; decide
  | n + 1, h => Int32.not_lt.mpr (rn_xorP (rn_xor_nn (fun i hi => h i (by omega))) (h n (by omega)))
def io_k (c : Nat → Nat → Int32) (m : Nat) : Nat := rn_ct (fun i => c 5 i = 2 ∨ c 5 i = 3) m
def io_b (c : Nat → Nat → Int32) (m : Nat) : Nat := rn_ct (fun i => ¬ c 5 i = 0) m
section RP
variable {S B m t rd ph f n i : Nat} {V : rb_V} {P : Option Value → rb_M → Prop}
theorem io_kn {c : Nat → Nat → Int32} (h : ∀ i, i < m → c 5 i = 0 ∨ c 5 i = 1 ∨ c 5 i = 2 ∨ c 5 i = 3) : cCount c 2 m + cCount c 3 m = nI (io_k c m) := by
  unfold cCount io_k
  rw [rn_sum_add2, ← rn_sum_bi]
  refine rb_sum_congr fun i hi => ?_
  show rb_bi (c 5 i = 2) + rb_bi (c 5 i = 3) = rb_bi (c 5 i = 2 ∨ c 5 i = 3)
  rcases h i hi with q | q | q | q <;> rw [q] <;> decide
theorem io_bn {c : Nat → Nat → Int32} (h : ∀ i, i < m → c 5 i = 0 ∨ c 5 i = 1 ∨ c 5 i = 2 ∨ c 5 i = 3) : cBound c m = nI (io_b c m) := by
  unfold cBound cCount io_b
  rw [rn_sum_add2, rn_sum_add2, ← rn_sum_bi]
  refine rb_sum_congr fun i hi => ?_
  show rb_bi (c 5 i = 1) + rb_bi (c 5 i = 2) + rb_bi (c 5 i = 3) = rb_bi (¬ c 5 i = 0)
  rcases h i hi with q | q | q | q <;> rw [q] <;> decide
theorem io_4 (h : rj_R S B V m t rd ph f n) : ∀ i, i < m → V 0 5 i = 0 ∨ V 0 5 i = 1 ∨ V 0 5 i = 2 ∨ V 0 5 i = 3 := fun i hi => rj_st (h.2.1.1.2.1 i (by have := (rj_m h).2.2; omega))
/-- an output is no number below -9 -/
theorem io_nn {c : Nat → Nat → Int32} (h : rj_S m t rd ph c) : ¬ cOut c m < -9 := by
  have hm8 : m ≤ 8 := h.1.2.2.1
  unfold cOut
  split
  · decide
  · have : ¬ cKnowX c m < 0 := rn_xor_nn fun i hi => by
      show ¬ (if c 5 i = 2 ∨ c 5 i = 3 then c 8 i else 0) < 0
      split
      · rename_i q
        rcases (h.2.1 i (by omega)).2 with z | ⟨_, _, z | z | z⟩
        · rw [z] at q; exact absurd q (by decide)
        · rw [z] at q; exact absurd q (by decide)
        · exact rn_in_nn z.2.2 (by decide)
        · exact rn_in_nn z.2.2 (by decide)
      · decide
    exact fun q => this (by rw [rb_lt_i] at q ⊢; exact Int.lt_trans q (by decide))
theorem io_hon (h : rj_R S B V m t rd ph f n) : ¬ cBoundX (V 0) m < 0 := by
  obtain ⟨hm, hm2, hm8⟩ := rj_m h
  exact rn_xor_nn fun i hi => by
    show ¬ (if ¬ V 0 5 i = 0 then V 0 7 i else 0) < 0
    split
    · rename_i q
      exact rn_in_nn ((h.2.1.1.2.1 i (by omega)).2.resolve_left q).2.1 (by decide)
    · decide
theorem io_copy {c d : Nat → Nat → Int32} : cOut (cCopy d c) m = cOut c m := by
  unfold cOut cCount cKnowX
  rw [cCopy_row d c 0 (by decide), cCopy_row d c 5 (by decide), cCopy_row d c 8 (by decide)]
/-- what outcome() says before the end -/
theorem io_out (h : rj_R S B V m t rd ph f n) (hp : ph = 1 ∨ ph = 2) : ∃ (x : Int32) (e : Nat → Nat → Int32), (∀ P, rb_G none 94 0 [some (.ref 0)] [] (rb_W V) P ↔ P (some (.int x)) (rb_W (rb_sg V 1 e))) ∧ ¬ x < -9 ∧ ((∀ o, o < m → ¬ V 0 5 o = 1) → x = cOut (V 0) m) := by
  have h4 := h.2.1.2.1
  have q0 : ¬ V 0 11 4 = 0 := by rw [h4]; exact nI_ne0 (by omega) (by omega)
  have q3 : ¬ V 0 11 4 = 3 := by rw [h4]; rcases hp with rfl | rfl <;> decide
  have hd : rj_S m t rd 3 (cCopy (V 1) (V 0)) := rj_S_k (by omega) (fun _ _ => rfl) (fun _ _ _ _ => rfl) (rj_T_copy (d := V 1) h.2.1).1
  refine ⟨cOut (cShowA (-1) m (cCopy (V 1) (V 0)) m) m, cShowA (-1) m (cCopy (V 1) (V 0)) m, fun P => by rw [q_outcome (rj_hOK h rfl rfl), if_neg q0, if_neg q3], io_nn (rj_showA hd m (Nat.le_refl m)), fun hh => ?_⟩
  rw [cShowA_id (fun o ho => by rw [cCopy_row _ _ 5 (by decide)]; exact hh o ho) m (Nat.le_refl m), io_copy]
theorem io_loop (h : rj_R S B V m t rd ph f n) : rb_G none 92 0 [some (.ref 0), none, none, none, none, none] [] (rb_W V) P ↔ rb_G none 92 60 [some (.ref 0), some (.int (cKnowX (V 0) m)), some (.int (nI (io_k (V 0) m))), some (.int (nI m)), none, none] [] (rb_W V) P := by
  obtain ⟨hm, hm2, hm8⟩ := rj_m h
  simp only [r92_0, r92_1, r92_2, r92_3, r92_4, r92_5]
  have key := rb_loop (Q := fun j => rb_G none 92 6 [some (.ref 0), some (.int (cKnowX (V 0) j)), some (.int (nI (io_k (V 0) j))), some (.int (nI j)), none, none] [] (rb_W V) P) m (fun j hj => by
    have h2 : ¬ nI m ≤ nI j := nI_ge hj (by omega)
    have m3 := hv_memb h hj (by decide) en3
    have hX : cKnowX (V 0) (j + 1) = cKnowX (V 0) j ^^^ (if V 0 5 j = 2 ∨ V 0 5 j = 3 then V 0 8 j else 0) := rfl
    have hK : io_k (V 0) (j + 1) = io_k (V 0) j + (if V 0 5 j = 2 ∨ V 0 5 j = 3 then 1 else 0) := rfl
    show rb_G none 92 6 _ _ _ _ ↔ _
    rw [r92_6, hX, hK]
    by_cases q : V 0 5 j = 2 ∨ V 0 5 j = 3
    · have e : cMemb (V 0) j m 3 = V 0 8 j := if_pos q
      rw [e] at m3
      have hlt : ¬ V 0 8 j < 0 := by
        rcases (h.2.1.1.2.1 j (by omega)).2 with z | ⟨_, _, z | z | z⟩
        · rw [z] at q; exact absurd q (by decide)
        · rw [z] at q; exact absurd q (by decide)
        · exact rn_in_nn z.2.2 (by decide)
        · exact rn_in_nn z.2.2 (by decide)
      simp only [r92_7, r92_8, r92_9, r92_12, r92_15, r92_16, r92_17, r92_18, r92_21, r92_24, r92_25, r92_26, r92_27, r92_28, r92_31, r92_32, r92_35, r92_36, r92_37, r92_38, r92_39, r92_40, r92_43, r92_46, r92_47, r92_48, r92_49, r92_52, r92_53, r92_54, r92_57, hv_t0 h, m3, h2, if_neg hlt, if_pos q, nI_1, rb_sg_self, rb_sg_sg, List.length_cons, List.length_nil, Nat.reduceAdd, Nat.reduceLeDiff, Nat.reduceLT, Nat.zero_add, Option.toList_some, Option.toList_none, List.cons_append, List.nil_append, rb_bi_eq0, rb_bi_ne0, rb_okv0, rb_okv1, rb_okvb, ln0, ln1, ln2, ln3, ln4, ln5, ln6, ln7, ln8, ln9, ln10, if_true, if_false, ite_not, Decidable.not_not]
    · have e : cMemb (V 0) j m 3 = -9 := if_neg q
      rw [e] at m3
      simp only [r92_7, r92_8, r92_9, r92_12, r92_15, r92_16, r92_17, r92_18, r92_21, r92_24, r92_25, r92_26, r92_27, r92_28, r92_31, r92_32, r92_35, r92_36, r92_37, r92_38, r92_39, r92_40, r92_43, r92_46, r92_47, r92_48, r92_49, r92_52, r92_53, r92_54, r92_57, hv_t0 h, m3, h2, if_pos n9lt, if_neg q, nI_1, Int32.xor_zero, Nat.add_zero, rb_sg_self, rb_sg_sg, List.length_cons, List.length_nil, Nat.reduceAdd, Nat.reduceLeDiff, Nat.reduceLT, Nat.zero_add, Option.toList_some, Option.toList_none, List.cons_append, List.nil_append, rb_bi_eq0, rb_bi_ne0, rb_okv0, rb_okv1, rb_okvb, ln0, ln1, ln2, ln3, ln4, ln5, ln6, ln7, ln8, ln9, ln10, if_true, if_false, ite_not, Decidable.not_not])
  simp only [nI_0, cKnowX, rb_xor, io_k, rn_ct] at key
  rw [key]
  have h3 : nI m ≤ nI m := nI_le (Nat.le_refl m) (by omega)
  rw [r92_6]
  simp only [r92_7, r92_8, r92_9, r92_12, hv_t0 h, h3, rb_sg_self, rb_sg_sg, List.length_cons, List.length_nil, Nat.reduceAdd, Nat.reduceLeDiff, Nat.reduceLT, Nat.zero_add, Option.toList_some, Option.toList_none, List.cons_append, List.nil_append, rb_bi_eq0, rb_bi_ne0, rb_okv0, rb_okv1, rb_okvb, ln0, ln1, ln2, ln3, ln4, ln5, ln6, ln7, ln8, ln9, ln10, if_true, if_false, ite_not, Decidable.not_not, cKnowX, io_k]
def io_due (c : Nat → Nat → Int32) (m : Nat) : Int32 := if nI (io_k c m) = 0 then -9 else if nI (io_b c m) ≤ nI (io_k c m) then cKnowX c m else if c 0 5 = 1 then -9 else cKnowX c m
theorem hv_set5 (h : rj_R S B V m t rd ph f n) (P : Option Value → rb_M → Prop) : rb_G none 93 0 [some (.ref 0), some (.int 5)] [] (rb_W V) P ↔ P (some (.int (V 0 0 5))) (rb_W V) := by
  have := q_setting_k (V := V) (P := P) (i := 5) (by decide)
  rw [en5] at this; exact this
theorem hv_t8 (h : rj_R S B V m t rd ph f n) (P : Option Value → rb_M → Prop) : rb_G none 10 0 [some (.ref 0), some (.int 8)] [] (rb_W V) P ↔ P (some (.int (nI (io_b (V 0) m)))) (rb_W V) := by
  rw [hv_told h (by decide) en8, show cTold (V 0) m rd n 8 = cBound (V 0) m from rfl, io_bn (io_4 h)]
theorem hv_t11 (h : rj_R S B V m t rd ph f n) (P : Option Value → rb_M → Prop) : rb_G none 10 0 [some (.ref 0), some (.int 11)] [] (rb_W V) P ↔ P (some (.int (V 0 1 rd))) (rb_W V) := by
  rw [hv_told h (by decide) en11]; exact Iff.rfl
theorem io_dues (h : rj_R S B V m t rd ph f n) : rb_G none 92 60 [some (.ref 0), some (.int (cKnowX (V 0) m)), some (.int (nI (io_k (V 0) m))), some (.int (nI m)), none, none] [] (rb_W V) P ↔ rb_G none 92 120 [some (.ref 0), some (.int (cKnowX (V 0) m)), some (.int (nI (io_k (V 0) m))), some (.int (nI ph)), some (.int (io_due (V 0) m)), some (.int 1)] [] (rb_W V) P := by
  have hp3 : ph ≤ 3 := h.2.1.2.2.1
  have e3 : nI ph = 3 ↔ ph = 3 := nI_eq (b := 3) (by omega) (by decide)
  have tail : ∀ a5 : Option Value, rb_G none 92 97 [some (.ref 0), some (.int (cKnowX (V 0) m)), some (.int (nI (io_k (V 0) m))), some (.int (nI ph)), some (.int (io_due (V 0) m)), a5] [] (rb_W V) P ↔ rb_G none 92 120 [some (.ref 0), some (.int (cKnowX (V 0) m)), some (.int (nI (io_k (V 0) m))), some (.int (nI ph)), some (.int (io_due (V 0) m)), some (.int 1)] [] (rb_W V) P := by
    intro a5
    by_cases q : ph = 3
    · simp only [r92_97, r92_98, r92_99, r92_102, r92_103, r92_105, r92_108, r92_110, r92_113, r92_114, r92_117, r92_118, e3, if_pos q, rb_sg_self, rb_sg_sg, List.length_cons, List.length_nil, Nat.reduceAdd, Nat.reduceLeDiff, Nat.reduceLT, Nat.zero_add, Option.toList_some, Option.toList_none, List.cons_append, List.nil_append, rb_bi_eq0, rb_bi_ne0, rb_okv0, rb_okv1, rb_okvb, ln0, ln1, ln2, ln3, ln4, ln5, ln6, ln7, ln8, ln9, ln10, if_true, if_false, ite_not, Decidable.not_not]
    · have ho : V 0 1 rd = -9 := h.2.1.2.2.2.1 (by omega)
      simp only [r92_97, r92_98, r92_99, r92_102, r92_103, r92_105, r92_108, r92_110, r92_113, r92_114, r92_117, r92_118, e3, if_neg q, hv_t11 h, if_pos ho, rb_sg_self, rb_sg_sg, List.length_cons, List.length_nil, Nat.reduceAdd, Nat.reduceLeDiff, Nat.reduceLT, Nat.zero_add, Option.toList_some, Option.toList_none, List.cons_append, List.nil_append, rb_bi_eq0, rb_bi_ne0, rb_okv0, rb_okv1, rb_okvb, ln0, ln1, ln2, ln3, ln4, ln5, ln6, ln7, ln8, ln9, ln10, if_true, if_false, ite_not, Decidable.not_not]
  rw [← tail none]
  unfold io_due
  by_cases q0 : nI (io_k (V 0) m) = 0
  · simp only [r92_60, r92_61, r92_62, r92_65, r92_66, r92_67, r92_70, r92_71, r92_72, r92_74, r92_77, r92_80, r92_81, r92_82, r92_85, r92_86, r92_89, r92_91, r92_94, r92_95, hv_t4 h, hv_t8 h, hv_set5 h, if_pos q0, rb_sg_self, rb_sg_sg, List.length_cons, List.length_nil, Nat.reduceAdd, Nat.reduceLeDiff, Nat.reduceLT, Nat.zero_add, Option.toList_some, Option.toList_none, List.cons_append, List.nil_append, rb_bi_eq0, rb_bi_ne0, rb_okv0, rb_okv1, rb_okvb, ln0, ln1, ln2, ln3, ln4, ln5, ln6, ln7, ln8, ln9, ln10, if_true, if_false, ite_not, Decidable.not_not]
  · by_cases q1 : nI (io_b (V 0) m) ≤ nI (io_k (V 0) m)
    · simp only [r92_60, r92_61, r92_62, r92_65, r92_66, r92_67, r92_70, r92_71, r92_72, r92_74, r92_77, r92_80, r92_81, r92_82, r92_85, r92_86, r92_89, r92_91, r92_94, r92_95, hv_t4 h, hv_t8 h, hv_set5 h, if_neg q0, if_pos q1, rb_sg_self, rb_sg_sg, List.length_cons, List.length_nil, Nat.reduceAdd, Nat.reduceLeDiff, Nat.reduceLT, Nat.zero_add, Option.toList_some, Option.toList_none, List.cons_append, List.nil_append, rb_bi_eq0, rb_bi_ne0, rb_okv0, rb_okv1, rb_okvb, ln0, ln1, ln2, ln3, ln4, ln5, ln6, ln7, ln8, ln9, ln10, if_true, if_false, ite_not, Decidable.not_not]
    · by_cases q2 : V 0 0 5 = 1
      · simp only [r92_60, r92_61, r92_62, r92_65, r92_66, r92_67, r92_70, r92_71, r92_72, r92_74, r92_77, r92_80, r92_81, r92_82, r92_85, r92_86, r92_89, r92_91, r92_94, r92_95, hv_t4 h, hv_t8 h, hv_set5 h, if_neg q0, if_neg q1, if_pos q2, rb_sg_self, rb_sg_sg, List.length_cons, List.length_nil, Nat.reduceAdd, Nat.reduceLeDiff, Nat.reduceLT, Nat.zero_add, Option.toList_some, Option.toList_none, List.cons_append, List.nil_append, rb_bi_eq0, rb_bi_ne0, rb_okv0, rb_okv1, rb_okvb, ln0, ln1, ln2, ln3, ln4, ln5, ln6, ln7, ln8, ln9, ln10, if_true, if_false, ite_not, Decidable.not_not]
      · simp only [r92_60, r92_61, r92_62, r92_65, r92_66, r92_67, r92_70, r92_71, r92_72, r92_74, r92_77, r92_80, r92_81, r92_82, r92_85, r92_86, r92_89, r92_91, r92_94, r92_95, hv_t4 h, hv_t8 h, hv_set5 h, if_neg q0, if_neg q1, if_neg q2, rb_sg_self, rb_sg_sg, List.length_cons, List.length_nil, Nat.reduceAdd, Nat.reduceLeDiff, Nat.reduceLT, Nat.zero_add, Option.toList_some, Option.toList_none, List.cons_append, List.nil_append, rb_bi_eq0, rb_bi_ne0, rb_okv0, rb_okv1, rb_okvb, ln0, ln1, ln2, ln3, ln4, ln5, ln6, ln7, ln8, ln9, ln10, if_true, if_false, ite_not, Decidable.not_not]
/-- where all that are bound are known, what is due is what outcome() says -/
theorem io_is (h : rj_R S B V m t rd ph f n) (hk : nI (io_b (V 0) m) ≤ nI (io_k (V 0) m)) : (∀ o, o < m → ¬ V 0 5 o = 1) ∧ io_due (V 0) m = cOut (V 0) m := by
  obtain ⟨hm, hm2, hm8⟩ := rj_m h
  have lk := rn_ct_le (fun i => V 0 5 i = 2 ∨ V 0 5 i = 3) m
  have lb := rn_ct_le (fun i => ¬ V 0 5 i = 0) m
  have hk' : io_b (V 0) m ≤ io_k (V 0) m := (nI_leI (by unfold io_b; omega) (by unfold io_k; omega)).mp hk
  have hh : ∀ o, o < m → ¬ V 0 5 o = 1 := fun o ho q => by
    have := (rn_ct_sub (p := fun i => V 0 5 i = 2 ∨ V 0 5 i = 3) (q := fun i => ¬ V 0 5 i = 0) (n := m) (fun k _ z => by rcases z with z | z <;> rw [z] <;> decide)).2 ⟨o, ho, by rw [q]; decide, by rw [q]; decide⟩
    unfold io_b io_k at hk'
    omega
  refine ⟨hh, ?_⟩
  have c1 : cCount (V 0) 1 m = 0 := by
    rw [rn_ct_x, rn_ct_zero.mpr (fun k hk => hh k hk)]; rfl
  unfold io_due cOut
  rw [io_kn (io_4 h), c1, if_pos hk]
  by_cases q0 : nI (io_k (V 0) m) = 0
  · rw [if_pos q0, if_pos (Or.inl q0)]
  · rw [if_neg q0, if_neg]
    rintro (z | z)
    · exact q0 z
    · exact z.2 (by decide)
theorem io_tail {b1 b2 b4 b5 : Option Value} (hp : 1 ≤ ph) (h : rj_R S B V m t rd ph f n) : rb_G none 92 221 [some (.ref 0), b1, b2, some (.int (nI ph)), b4, b5] [] (rb_W V) P ↔ P (some (.int 1)) (rb_W V) := by
  have hp3 : ph ≤ 3 := h.2.1.2.2.1
  obtain ⟨hm, hm2, hm8⟩ := rj_m h
  have lb := rn_ct_le (fun i => ¬ V 0 5 i = 0) m
  have e0 : ¬ nI ph = 0 := nI_ne0 (by omega) (by omega)
  have h4 : ¬ V 0 11 4 = 0 := by rw [h.2.1.2.1]; exact e0
  by_cases q : nI (io_b (V 0) m) < 2
  · simp only [r92_221, r92_222, r92_225, r92_226, r92_228, r92_231, r92_232, r92_235, r92_236, r92_239, r92_242, r92_243, r92_246, r92_247, hv_t8 h, if_neg e0, if_pos q, rb_okv1, rb_sg_self, rb_sg_sg, List.length_cons, List.length_nil, Nat.reduceAdd, Nat.reduceLeDiff, Nat.reduceLT, Nat.zero_add, Option.toList_some, Option.toList_none, List.cons_append, List.nil_append, rb_bi_eq0, rb_bi_ne0, rb_okv0, rb_okv1, rb_okvb, ln0, ln1, ln2, ln3, ln4, ln5, ln6, ln7, ln8, ln9, ln10, if_true, if_false, ite_not, Decidable.not_not]
  · have hh : ∀ P, rb_G none 95 0 [some (.ref 0)] [] (rb_W V) P ↔ P (some (.int (cBoundX (V 0) m))) (rb_W V) := fun P => by
      rw [q_honest (rj_hOK h rfl rfl), if_neg]
      rintro (z | z)
      · exact h4 z
      · rw [io_bn (io_4 h)] at z; exact z (Int32.not_lt.mp q)
    simp only [r92_221, r92_222, r92_225, r92_226, r92_228, r92_231, r92_232, r92_235, r92_236, r92_239, r92_242, r92_243, r92_246, r92_247, hv_t8 h, hh, if_neg e0, if_neg q, if_neg (io_hon h), rb_okv1, rb_sg_self, rb_sg_sg, List.length_cons, List.length_nil, Nat.reduceAdd, Nat.reduceLeDiff, Nat.reduceLT, Nat.zero_add, Option.toList_some, Option.toList_none, List.cons_append, List.nil_append, rb_bi_eq0, rb_bi_ne0, rb_okv0, rb_okv1, rb_okvb, ln0, ln1, ln2, ln3, ln4, ln5, ln6, ln7, ln8, ln9, ln10, if_true, if_false, ite_not, Decidable.not_not]
theorem io_all (h : rj_R S B V m t rd ph f n) : ∃ e : Nat → Nat → Int32, ∀ P, rb_G none 92 0 [some (.ref 0), none, none, none, none, none] [] (rb_W V) P ↔ P (some (.int 1)) (rb_W (rb_sg V 1 e)) := by
  have hp3 : ph ≤ 3 := h.2.1.2.2.1
  have h4 := h.2.1.2.1
  have h10 : ¬ (1 : Int32) = 0 := by decide
  rcases (by omega : ph = 0 ∨ ph = 3 ∨ (ph = 1 ∨ ph = 2)) with rfl | rfl | hp
  · refine ⟨V 1, fun P => ?_⟩
    have ho : ∀ P, rb_G none 94 0 [some (.ref 0)] [] (rb_W V) P ↔ P (some (.int (-2))) (rb_W V) := fun P => by rw [q_outcome (rj_hOK h rfl rfl), h4, if_pos nI_0]
    have hh : ∀ P, rb_G none 95 0 [some (.ref 0)] [] (rb_W V) P ↔ P (some (.int (-2))) (rb_W V) := fun P => by rw [q_honest (rj_hOK h rfl rfl), h4, if_pos (Or.inl nI_0)]
    have z1 : ¬ (0 : Int32) = 1 := by decide
    have z2 : ¬ (0 : Int32) = 2 := by decide
    rw [io_loop h, io_dues h, rb_sg_id]
    simp only [r92_120, r92_122, r92_125, r92_126, r92_129, r92_130, r92_133, r92_135, r92_138, r92_139, r92_142, r92_144, r92_147, r92_150, r92_151, r92_152, r92_155, r92_156, r92_159, r92_160, r92_162, r92_165, r92_168, r92_171, r92_172, r92_175, r92_177, r92_180, r92_181, r92_184, r92_185, r92_187, r92_189, r92_192, r92_193, r92_194, r92_197, r92_198, r92_199, r92_202, r92_203, r92_204, r92_206, r92_209, r92_212, r92_213, r92_216, r92_218, r92_221, r92_222, r92_225, r92_226, r92_228, r92_231, r92_232, r92_235, r92_236, r92_239, r92_242, r92_243, r92_246, r92_247, ho, hh, nI_0, if_neg h10, if_neg z1, if_neg z2, eq_self, rb_okv1, rb_sg_self, rb_sg_sg, List.length_cons, List.length_nil, Nat.reduceAdd, Nat.reduceLeDiff, Nat.reduceLT, Nat.zero_add, Option.toList_some, Option.toList_none, List.cons_append, List.nil_append, rb_bi_eq0, rb_bi_ne0, rb_okv0, rb_okv1, rb_okvb, ln0, ln1, ln2, ln3, ln4, ln5, ln6, ln7, ln8, ln9, ln10, if_true, if_false, ite_not, Decidable.not_not]
  · refine ⟨V 1, fun P => ?_⟩
    have z0 : ¬ nI 3 = 0 := by decide
    have z1 : ¬ nI 3 = 1 := by decide
    have z2 : ¬ nI 3 = 2 := by decide
    have z3 : nI 3 = 3 := rfl
    have ho : ∀ P, rb_G none 94 0 [some (.ref 0)] [] (rb_W V) P ↔ P (some (.int (V 0 1 rd))) (rb_W V) := fun P => by rw [q_outcome (rj_hOK h rfl rfl), h4, if_neg z0, if_pos z3]
    rw [io_loop h, io_dues h, rb_sg_id, ← io_tail (P := P) (b1 := some (.int (cKnowX (V 0) m))) (b2 := some (.int (nI (io_k (V 0) m)))) (b4 := some (.int (io_due (V 0) m))) (b5 := some (.int 1)) (by decide) h]
    simp only [r92_120, r92_122, r92_125, r92_126, r92_129, r92_130, r92_133, r92_135, r92_138, r92_139, r92_142, r92_144, r92_147, r92_150, r92_151, r92_152, r92_155, r92_156, r92_159, r92_160, r92_162, r92_165, r92_168, r92_171, r92_172, r92_175, r92_177, r92_180, r92_181, r92_184, r92_185, r92_187, r92_189, r92_192, r92_193, r92_194, r92_197, r92_198, r92_199, r92_202, r92_203, r92_204, r92_206, r92_209, r92_212, r92_213, r92_216, ho, hv_t11 h, if_neg h10, if_neg z0, if_neg z1, if_neg z2, if_pos z3, eq_self, rb_sg_self, rb_sg_sg, List.length_cons, List.length_nil, Nat.reduceAdd, Nat.reduceLeDiff, Nat.reduceLT, Nat.zero_add, Option.toList_some, Option.toList_none, List.cons_append, List.nil_append, rb_bi_eq0, rb_bi_ne0, rb_okv0, rb_okv1, rb_okvb, ln0, ln1, ln2, ln3, ln4, ln5, ln6, ln7, ln8, ln9, ln10, if_true, if_false, ite_not, Decidable.not_not]
  · have z0 : ¬ nI ph = 0 := nI_ne0 (by omega) (by omega)
    have z3 : ¬ nI ph = 3 := fun q => by have := (nI_eq (b := 3) (by omega) (by decide)).mp q; omega
    obtain ⟨x, e, hx, hx9, hxk⟩ := io_out h hp
    have g := rj_R_1 e h
    have g0 : rb_sg V 1 e 0 = V 0 := rb_sg_ne _ _ (by decide)
    obtain ⟨x2, e2, hx2, -, hxk2⟩ := io_out g hp
    rw [rb_sg_sg] at hx2
    rw [g0] at hxk2
    have g2 := rj_R_1 e2 h
    have t8 := hv_t8 g
    rw [g0] at t8
    have head : ∀ P, rb_G none 92 0 [some (.ref 0), none, none, none, none, none] [] (rb_W V) P ↔ rb_G none 92 202 [some (.ref 0), some (.int (cKnowX (V 0) m)), some (.int (nI (io_k (V 0) m))), some (.int (nI ph)), some (.int (io_due (V 0) m)), some (.int 1)] [] (rb_W (rb_sg V 1 e)) P := fun P => by
      rw [io_loop h, io_dues h]
      rcases hp with rfl | rfl
      · have z1 : nI 1 = 1 := rfl
        simp only [r92_120, r92_122, r92_125, r92_126, r92_129, r92_130, r92_133, r92_135, r92_138, r92_139, r92_142, r92_144, r92_147, r92_150, r92_151, r92_152, r92_155, r92_156, r92_159, r92_160, r92_162, r92_165, r92_168, r92_171, r92_172, r92_175, r92_177, r92_180, r92_181, r92_184, r92_185, r92_187, r92_189, r92_192, r92_193, r92_194, r92_197, r92_198, r92_199, hx, if_neg h10, if_neg z0, if_neg z3, if_pos z1, if_neg hx9, rb_sg_self, rb_sg_sg, List.length_cons, List.length_nil, Nat.reduceAdd, Nat.reduceLeDiff, Nat.reduceLT, Nat.zero_add, Option.toList_some, Option.toList_none, List.cons_append, List.nil_append, rb_bi_eq0, rb_bi_ne0, rb_okv0, rb_okv1, rb_okvb, ln0, ln1, ln2, ln3, ln4, ln5, ln6, ln7, ln8, ln9, ln10, if_true, if_false, ite_not, Decidable.not_not]
      · have z1 : ¬ nI 2 = 1 := by decide
        have z2 : nI 2 = 2 := rfl
        simp only [r92_120, r92_122, r92_125, r92_126, r92_129, r92_130, r92_133, r92_135, r92_138, r92_139, r92_142, r92_144, r92_147, r92_150, r92_151, r92_152, r92_155, r92_156, r92_159, r92_160, r92_162, r92_165, r92_168, r92_171, r92_172, r92_175, r92_177, r92_180, r92_181, r92_184, r92_185, r92_187, r92_189, r92_192, r92_193, r92_194, r92_197, r92_198, r92_199, hx, if_neg h10, if_neg z0, if_neg z3, if_neg z1, if_pos z2, if_neg hx9, rb_sg_self, rb_sg_sg, List.length_cons, List.length_nil, Nat.reduceAdd, Nat.reduceLeDiff, Nat.reduceLT, Nat.zero_add, Option.toList_some, Option.toList_none, List.cons_append, List.nil_append, rb_bi_eq0, rb_bi_ne0, rb_okv0, rb_okv1, rb_okvb, ln0, ln1, ln2, ln3, ln4, ln5, ln6, ln7, ln8, ln9, ln10, if_true, if_false, ite_not, Decidable.not_not]
    by_cases q : nI (io_b (V 0) m) ≤ nI (io_k (V 0) m)
    · refine ⟨e2, fun P => ?_⟩
      obtain ⟨hh, hd⟩ := io_is h q
      have q' : ¬ nI (io_k (V 0) m) < nI (io_b (V 0) m) := Int32.not_lt.mpr q
      have ed : x2 = io_due (V 0) m := by rw [hd]; exact hxk2 hh
      rw [head, ← io_tail (P := P) (b1 := some (.int (cKnowX (V 0) m))) (b2 := some (.int (nI (io_k (V 0) m)))) (b4 := some (.int (io_due (V 0) m))) (b5 := some (.int 1)) (by omega) g2]
      simp only [r92_202, r92_203, r92_204, r92_206, r92_209, r92_212, r92_213, r92_216, r92_218, t8, hx2, if_neg q', if_pos ed, rb_sg_self, rb_sg_sg, List.length_cons, List.length_nil, Nat.reduceAdd, Nat.reduceLeDiff, Nat.reduceLT, Nat.zero_add, Option.toList_some, Option.toList_none, List.cons_append, List.nil_append, rb_bi_eq0, rb_bi_ne0, rb_okv0, rb_okv1, rb_okvb, ln0, ln1, ln2, ln3, ln4, ln5, ln6, ln7, ln8, ln9, ln10, if_true, if_false, ite_not, Decidable.not_not]
    · refine ⟨e, fun P => ?_⟩
      have q' : nI (io_k (V 0) m) < nI (io_b (V 0) m) := Int32.not_le.mp q
      rw [head, ← io_tail (P := P) (b1 := some (.int (cKnowX (V 0) m))) (b2 := some (.int (nI (io_k (V 0) m)))) (b4 := some (.int (io_due (V 0) m))) (b5 := some (.int 1)) (by omega) g]
      simp only [r92_202, r92_203, r92_204, r92_206, r92_209, t8, if_pos q', rb_sg_self, rb_sg_sg, List.length_cons, List.length_nil, Nat.reduceAdd, Nat.reduceLeDiff, Nat.reduceLT, Nat.zero_add, Option.toList_some, Option.toList_none, List.cons_append, List.nil_append, rb_bi_eq0, rb_bi_ne0, rb_okv0, rb_okv1, rb_okvb, ln0, ln1, ln2, ln3, ln4, ln5, ln6, ln7, ln8, ln9, ln10, if_true, if_false, ite_not, Decidable.not_not]
end RP
