/-! THE LAW, 2: the script's cells, two objects alike -/
section RL
variable {xs : List Int32} {M : rb_M} {P : Option Value → rb_M → Prop}
theorem cl_cell (hM : M[rb_scr]? = none) (hx : xs.length ≤ 260) {k : Nat} (hk : k < 1000) : ∃ x : Int32, ∀ P, rb_G (some xs) 49 0 [some (.ref rb_scr), some (.int (nI k))] [] M P ↔ P (some (.int x)) M := by
  by_cases q : k < xs.length
  · have h1 : ¬ nI xs.length ≤ nI k := nI_ge q (by omega)
    have h2 : rb_inb (nI k) xs.length = true := rb_in_nI q (by omega)
    exact ⟨xs.getD (nI k).toNatClampNeg 0, fun P => by simp only [r49_0, r49_1, r49_2, r49_3, r49_6, r49_7, r49_8, r49_9, r49_12, r49_14, r49_15, r49_16, r49_17, r49_18, hM, h2, if_neg h1, rb_sg_self, rb_sg_sg, List.length_cons, List.length_nil, Nat.reduceAdd, Nat.reduceLeDiff, Nat.reduceLT, Nat.zero_add, Option.toList_some, Option.toList_none, List.cons_append, List.nil_append, rb_bi_eq0, rb_bi_ne0, rb_okv0, rb_okv1, rb_okvb, ln0, ln1, ln2, ln3, ln4, ln5, ln6, ln7, ln8, ln9, ln10, if_true, if_false, ite_not, Decidable.not_not]⟩
  · have h1 : nI xs.length ≤ nI k := nI_le (by omega) (by omega)
    exact ⟨_, fun P => by simp only [r49_0, r49_1, r49_2, r49_3, r49_6, r49_7, r49_8, r49_9, r49_12, r49_14, r49_15, r49_16, r49_17, r49_18, hM, if_pos h1, rb_sg_self, rb_sg_sg, List.length_cons, List.length_nil, Nat.reduceAdd, Nat.reduceLeDiff, Nat.reduceLT, Nat.zero_add, Option.toList_some, Option.toList_none, List.cons_append, List.nil_append, rb_bi_eq0, rb_bi_ne0, rb_okv0, rb_okv1, rb_okvb, ln0, ln1, ln2, ln3, ln4, ln5, ln6, ln7, ln8, ln9, ln10, if_true, if_false, ite_not, Decidable.not_not]; exact Iff.rfl⟩
theorem al_core {m rd : Nat} {z : UInt32} {T : Nat → Int32} {E : Nat → Nat → Int32} {H : Nat → Int32} (hm8 : m ≤ 8) (hrd : rd < 30) (hb0 : rb_isB M 0) (hb1 : rb_isB M 281) (hz : FP.fcmp z z = some .eq)
    (mo : ∀ P, rb_G (some xs) 98 0 [some (.ref 0), none] [] M P ↔ P (some (.float z)) M) (mq : ∀ P, rb_G (some xs) 98 0 [some (.ref 281), none] [] M P ↔ P (some (.float z)) M)
    (to : ∀ k, k < 15 → ∀ P, rb_G (some xs) 10 0 [some (.ref 0), some (.int (nI k))] [] M P ↔ P (some (.int (T k))) M) (tq : ∀ k, k < 15 → ∀ P, rb_G (some xs) 10 0 [some (.ref 281), some (.int (nI k))] [] M P ↔ P (some (.int (T k))) M)
    (eo : ∀ i k, i < m → k < 7 → ∀ P, rb_G (some xs) 17 0 [some (.ref 0), some (.int (nI i)), some (.int (nI k))] [] M P ↔ P (some (.int (E i k))) M) (eq : ∀ i k, i < m → k < 7 → ∀ P, rb_G (some xs) 17 0 [some (.ref 281), some (.int (nI i)), some (.int (nI k))] [] M P ↔ P (some (.int (E i k))) M)
    (ho : ∀ i, i < rd → ∀ P, rb_G (some xs) 99 0 [some (.ref 0), some (.int (nI i))] [] M P ↔ P (some (.int (H i))) M) (hq : ∀ i, i < rd → ∀ P, rb_G (some xs) 99 0 [some (.ref 281), some (.int (nI i))] [] M P ↔ P (some (.int (H i))) M)
    (T0 : T 0 = nI m) (T3 : T 3 = nI rd) : rb_G (some xs) 97 0 [some (.ref 0), some (.ref 281), none, none, none] [] M P ↔ P (some (.int 1)) M := by
  have h10 : ¬ (1 : Int32) = 0 := by decide
  have hc : Op.cmpValue (FP.fcmp z z) .l = 0 := by rw [hz]; rfl
  have t0 : ∀ P, rb_G (some xs) 10 0 [some (.ref 0), some (.int 0)] [] M P ↔ P (some (.int (nI m))) M := fun P => by have := to 0 (by decide) P; rw [en0, T0] at this; exact this
  have t3 : ∀ P, rb_G (some xs) 10 0 [some (.ref 0), some (.int 3)] [] M P ↔ P (some (.int (nI rd))) M := fun P => by have := to 3 (by decide) P; rw [en3, T3] at this; exact this
  simp only [r97_0, r97_1, r97_4, r97_5, r97_8, r97_9, r97_12, r97_13, r97_16, r97_17, r97_18, r97_19, hb0, hb1, mo, mq, hc, eq_self, rb_sg_self, rb_sg_sg, List.length_cons, List.length_nil, Nat.reduceAdd, Nat.reduceLeDiff, Nat.reduceLT, Nat.zero_add, Option.toList_some, Option.toList_none, List.cons_append, List.nil_append, rb_bi_eq0, rb_bi_ne0, rb_okv0, rb_okv1, rb_okvb, ln0, ln1, ln2, ln3, ln4, ln5, ln6, ln7, ln8, ln9, ln10, if_true, if_false, ite_not, Decidable.not_not]
  obtain ⟨N, hN⟩ : ∃ N : Nat, N = 14 := ⟨14, rfl⟩
  have key := rb_loop (Q := fun j => rb_G (some xs) 97 20 [some (.ref 0), some (.ref 281), some (.int 1), some (.int (nI j)), none] [] M P) N (fun j hj => by
    have h2 : ¬ (14 : Int32) ≤ nI j := nI_ge (b := 14) (by omega) (by omega)
    have a1 := to j (by omega)
    have a2 := tq j (by omega)
    show rb_G (some xs) 97 20 _ _ _ _ ↔ _
    rw [r97_20]
    simp only [r97_21, r97_23, r97_26, r97_27, r97_30, r97_31, r97_32, r97_35, r97_36, r97_37, r97_40, r97_43, r97_44, r97_47, r97_48, r97_49, r97_52, hb0, hb1, a1, a2, h2, if_neg h10, eq_self, nI_1, rb_sg_self, rb_sg_sg, List.length_cons, List.length_nil, Nat.reduceAdd, Nat.reduceLeDiff, Nat.reduceLT, Nat.zero_add, Option.toList_some, Option.toList_none, List.cons_append, List.nil_append, rb_bi_eq0, rb_bi_ne0, rb_okv0, rb_okv1, rb_okvb, ln0, ln1, ln2, ln3, ln4, ln5, ln6, ln7, ln8, ln9, ln10, if_true, if_false, ite_not, Decidable.not_not])
  simp only [nI_0] at key
  rw [key]
  have h3 : (14 : Int32) ≤ nI N := nI_le (a := 14) (by omega) (by omega)
  rw [r97_20]
  simp only [r97_21, r97_23, r97_55, r97_56, h3, rb_sg_self, rb_sg_sg, List.length_cons, List.length_nil, Nat.reduceAdd, Nat.reduceLeDiff, Nat.reduceLT, Nat.zero_add, Option.toList_some, Option.toList_none, List.cons_append, List.nil_append, rb_bi_eq0, rb_bi_ne0, rb_okv0, rb_okv1, rb_okvb, ln0, ln1, ln2, ln3, ln4, ln5, ln6, ln7, ln8, ln9, ln10, if_true, if_false, ite_not, Decidable.not_not]
  have key2 := rb_loopR (α := Option Value) (Q := fun i a4 => rb_G (some xs) 97 57 [some (.ref 0), some (.ref 281), some (.int 1), some (.int (nI i)), a4] [] M P) (R := P (some (.int 1)) M) m (fun a4 => by
    have h2 : nI m ≤ nI m := nI_le (Nat.le_refl m) (by omega)
    show rb_G (some xs) 97 57 _ _ _ _ ↔ _
    rw [r97_57]
    simp only [r97_58, r97_59, r97_60, r97_63, r97_115, r97_116, hb0, t0, h2, rb_sg_self, rb_sg_sg, List.length_cons, List.length_nil, Nat.reduceAdd, Nat.reduceLeDiff, Nat.reduceLT, Nat.zero_add, Option.toList_some, Option.toList_none, List.cons_append, List.nil_append, rb_bi_eq0, rb_bi_ne0, rb_okv0, rb_okv1, rb_okvb, ln0, ln1, ln2, ln3, ln4, ln5, ln6, ln7, ln8, ln9, ln10, if_true, if_false, ite_not, Decidable.not_not]
    have key3 := rb_loop (Q := fun j => rb_G (some xs) 97 117 [some (.ref 0), some (.ref 281), some (.int 1), some (.int (nI j)), a4] [] M P) rd (fun j hj => by
      have h2 : ¬ nI rd ≤ nI j := nI_ge hj (by omega)
      have a1 := ho j hj
      have a2 := hq j hj
      show rb_G (some xs) 97 117 _ _ _ _ ↔ _
      rw [r97_117]
      simp only [r97_118, r97_119, r97_120, r97_123, r97_126, r97_127, r97_130, r97_131, r97_132, r97_135, r97_136, r97_137, r97_140, r97_143, r97_144, r97_147, r97_148, r97_149, r97_152, hb0, hb1, t3, a1, a2, h2, if_neg h10, eq_self, nI_1, rb_sg_self, rb_sg_sg, List.length_cons, List.length_nil, Nat.reduceAdd, Nat.reduceLeDiff, Nat.reduceLT, Nat.zero_add, Option.toList_some, Option.toList_none, List.cons_append, List.nil_append, rb_bi_eq0, rb_bi_ne0, rb_okv0, rb_okv1, rb_okvb, ln0, ln1, ln2, ln3, ln4, ln5, ln6, ln7, ln8, ln9, ln10, if_true, if_false, ite_not, Decidable.not_not])
    simp only [nI_0] at key3
    rw [key3]
    have h4 : nI rd ≤ nI rd := nI_le (Nat.le_refl rd) (by omega)
    rw [r97_117]
    simp only [r97_118, r97_119, r97_120, r97_123, r97_155, r97_156, hb0, t3, h4, rb_okv1, rb_sg_self, rb_sg_sg, List.length_cons, List.length_nil, Nat.reduceAdd, Nat.reduceLeDiff, Nat.reduceLT, Nat.zero_add, Option.toList_some, Option.toList_none, List.cons_append, List.nil_append, rb_bi_eq0, rb_bi_ne0, rb_okv0, rb_okv1, rb_okvb, ln0, ln1, ln2, ln3, ln4, ln5, ln6, ln7, ln8, ln9, ln10, if_true, if_false, ite_not, Decidable.not_not]) (fun i hi ih a4 => by
    have h2 : ¬ nI m ≤ nI i := nI_ge hi (by omega)
    show rb_G (some xs) 97 57 _ _ _ _ ↔ _
    rw [r97_57]
    simp only [r97_58, r97_59, r97_60, r97_63, r97_66, r97_67, hb0, t0, h2, rb_sg_self, rb_sg_sg, List.length_cons, List.length_nil, Nat.reduceAdd, Nat.reduceLeDiff, Nat.reduceLT, Nat.zero_add, Option.toList_some, Option.toList_none, List.cons_append, List.nil_append, rb_bi_eq0, rb_bi_ne0, rb_okv0, rb_okv1, rb_okvb, ln0, ln1, ln2, ln3, ln4, ln5, ln6, ln7, ln8, ln9, ln10, if_true, if_false, ite_not, Decidable.not_not]
    obtain ⟨N7, hN7⟩ : ∃ N7 : Nat, N7 = 7 := ⟨7, rfl⟩
    have inner := rb_loop (Q := fun j => rb_G (some xs) 97 69 [some (.ref 0), some (.ref 281), some (.int 1), some (.int (nI i)), some (.int (nI j))] [] M P) N7 (fun j hj => by
      have h5 : ¬ (7 : Int32) ≤ nI j := nI_ge (b := 7) (by omega) (by omega)
      have a1 := eo i j hi (by omega)
      have a2 := eq i j hi (by omega)
      show rb_G (some xs) 97 69 _ _ _ _ ↔ _
      rw [r97_69]
      simp only [r97_71, r97_73, r97_76, r97_77, r97_80, r97_81, r97_82, r97_84, r97_87, r97_88, r97_89, r97_91, r97_94, r97_97, r97_98, r97_101, r97_102, r97_103, r97_106, hb0, hb1, a1, a2, h5, if_neg h10, eq_self, nI_1, rb_sg_self, rb_sg_sg, List.length_cons, List.length_nil, Nat.reduceAdd, Nat.reduceLeDiff, Nat.reduceLT, Nat.zero_add, Option.toList_some, Option.toList_none, List.cons_append, List.nil_append, rb_bi_eq0, rb_bi_ne0, rb_okv0, rb_okv1, rb_okvb, ln0, ln1, ln2, ln3, ln4, ln5, ln6, ln7, ln8, ln9, ln10, if_true, if_false, ite_not, Decidable.not_not])
    simp only [nI_0] at inner
    rw [inner, ← ih (some (.int (nI N7)))]
    have h6 : (7 : Int32) ≤ nI N7 := nI_le (a := 7) (by omega) (by omega)
    rw [r97_69]
    simp only [r97_71, r97_73, r97_109, r97_112, h6, nI_1, rb_sg_self, rb_sg_sg, List.length_cons, List.length_nil, Nat.reduceAdd, Nat.reduceLeDiff, Nat.reduceLT, Nat.zero_add, Option.toList_some, Option.toList_none, List.cons_append, List.nil_append, rb_bi_eq0, rb_bi_ne0, rb_okv0, rb_okv1, rb_okvb, ln0, ln1, ln2, ln3, ln4, ln5, ln6, ln7, ln8, ln9, ln10, if_true, if_false, ite_not, Decidable.not_not])
  have := key2 none
  simp only [nI_0] at this
  exact this
end RL
section RL
variable {xs : List Int32} {S B m t rd ph f n : Nat} {V : rb_V} {P : Option Value → rb_M → Prop}
theorem al_all (h : rj_R S B V m t rd ph f n) (e1 e2 : Nat → Nat → Int32) : rb_G (some xs) 97 0 [some (.ref 0), some (.ref 281), none, none, none] [] (rw_2 (rb_sg V 1 e1) (rb_sg V 1 e2)) P ↔ P (some (.int 1)) (rw_2 (rb_sg V 1 e1) (rb_sg V 1 e2)) := by
  obtain ⟨hm, hm2, hm8⟩ := rj_m h
  have hrd : rd < 30 := h.2.1.1.1.2.2.2.2.2.2.2.1
  have g1 := rj_R_1 e1 h
  have g2 := rj_R_1 e2 h
  have v1 : rb_sg V 1 e1 0 = V 0 := rb_sg_ne _ _ (by decide)
  have v2 : rb_sg V 1 e2 0 = V 0 := rb_sg_ne _ _ (by decide)
  obtain ⟨y1, y2⟩ := rn_meanF (cDep (V 0) m) hm2 hm8
  exact al_core (m := m) (rd := rd) (z := FP.fdiv (FP.i2f (cDep (V 0) m)) (FP.i2f (nI m))) (T := cTold (V 0) m rd n) (E := fun i k => cMemb (V 0) i m k) (H := fun i => V 0 1 i) hm8 hrd rw_b0 rw_b1 y2
    (o_of fun P => by have := q_mean (P := P) (rj_hOK g1 rfl rfl) (by rw [v1]; exact y1); rw [v1] at this; exact this)
    (q_of (ls := [some (.ref 0), none]) fun P => by have := q_mean (P := P) (rj_hOK g2 rfl rfl) (by rw [v2]; exact y1); rw [v2] at this; exact this)
    (fun k hk => o_of fun P => by have := q_told_k (P := P) (k := k) (rj_hOK g1 rfl rfl) hk; rw [v1] at this; exact this)
    (fun k hk => q_of (ls := [some (.ref 0), some (.int (nI k))]) fun P => by have := q_told_k (P := P) (k := k) (rj_hOK g2 rfl rfl) hk; rw [v2] at this; exact this)
    (fun i k hi hk => o_of fun P => by have := q_member_k (P := P) (k := k) (rj_hOK g1 rfl rfl) hi hk; rw [v1] at this; exact this)
    (fun i k hi hk => q_of (ls := [some (.ref 0), some (.int (nI i)), some (.int (nI k))]) fun P => by have := q_member_k (P := P) (k := k) (rj_hOK g2 rfl rfl) hi hk; rw [v2] at this; exact this)
    (fun i hi => o_of fun P => by have := q_past_k (P := P) (rj_hOK g1 rfl rfl) hi; rw [v1] at this; exact this)
    (fun i hi => q_of (ls := [some (.ref 0), some (.int (nI i))]) fun P => by have := q_past_k (P := P) (rj_hOK g2 rfl rfl) hi; rw [v2] at this; exact this)
    hm h.2.1.1.1.2.2.2.2.2.2.1
end RL
