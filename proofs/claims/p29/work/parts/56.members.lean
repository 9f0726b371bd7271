/-! THE LAW'S FIRST QUESTION: areMembers -/
def am_s (c : Nat → Nat → Int32) : Nat → Int32
  | 0 => c 11 6
  | i + 1 => am_s c i + c 2 i
theorem am_s_dep (c : Nat → Nat → Int32) : ∀ k, am_s c k = cDep c k + c 11 6
  | 0 => by show c 11 6 = 0 + c 11 6; rw [Int32.zero_add]
  | k + 1 => by
    show am_s c k + c 2 k = (rb_sum (fun i => c 2 i) k + c 2 k) + c 11 6
    rw [am_s_dep c k]
    unfold cDep
    ac_rfl
theorem n9lt : (-9 : Int32) < 0 := by decide
theorem rn_in_nn {N : Nat} {x : Int32} (h : rn_in N x) (hN : N ≤ 2 ^ 31) : ¬ x < 0 := by
  obtain ⟨v, hv, rfl⟩ := h
  exact nI_pos (by omega)
theorem rn_in_n9 {N : Nat} {x : Int32} (h : rn_in N x) (hN : N ≤ 2 ^ 31) : ¬ x = -9 := rn_in_ne h hN
theorem rj_mk_in {j : Nat} {x : Int32} (hj : j < 8) (hx : rn_in 257 x) : rn_in 10007 (rb_mk (nI j) x) := by
  obtain ⟨v, hv, rfl⟩ := hx
  unfold rb_mk
  have h1 : 91 * v * v ≤ 91 * 256 * 256 := Nat.mul_le_mul (Nat.mul_le_mul (Nat.le_refl _) (by omega)) (by omega)
  have e : 91 * nI v * nI v + 3 * nI v + nI j = nI (91 * v * v + 3 * v + j) := by
    show nI 91 * nI v * nI v + nI 3 * nI v + nI j = _
    simp only [pk_mul, nI_add]
  rw [e, rn_r10007 (by omega)]
  exact ⟨_, Nat.mod_lt _ (by decide), rfl⟩
section RP
variable {S B m t rd ph f n i : Nat} {V : rb_V} {P : Option Value → rb_M → Prop} {R : Prop}
theorem rj_R_1 (e : Nat → Nat → Int32) (h : rj_R S B V m t rd ph f n) : rj_R S B (rb_sg V 1 e) m t rd ph f n := by
  have eg : ∀ g, ¬ g = 1 → rb_sg V 1 e g = V g := fun g hg => rb_sg_ne _ _ hg
  obtain ⟨a, b, d, e', f', g, i, j, k⟩ := h
  refine ⟨a, by rw [eg 0 (by decide)]; exact b, by rw [eg 13 (by decide)]; exact d, e', by rw [eg 13 (by decide)]; exact f', g, fun x hx => ?_, ?_, ?_⟩
  · rw [eg _ (by omega)]; exact i x hx
  · rw [eg 13 (by decide), eg 10 (by decide)]; exact j
  · rw [eg 13 (by decide), eg 11 (by decide)]; exact k
theorem hv_told {k : Nat} {x : Int32} (h : rj_R S B V m t rd ph f n) (hk : k < 15) (hx : nI k = x) (P : Option Value → rb_M → Prop) : rb_G none 10 0 [some (.ref 0), some (.int x)] [] (rb_W V) P ↔ P (some (.int (cTold (V 0) m rd n k))) (rb_W V) := by
  subst hx; exact q_told_k (rj_hOK h rfl rfl) hk
theorem hv_memb {k : Nat} {x : Int32} (h : rj_R S B V m t rd ph f n) (hi : i < m) (hk : k < 7) (hx : nI k = x) (P : Option Value → rb_M → Prop) : rb_G none 17 0 [some (.ref 0), some (.int (nI i)), some (.int x)] [] (rb_W V) P ↔ P (some (.int (cMemb (V 0) i m k))) (rb_W V) := by
  subst hx; exact q_member_k (rj_hOK h rfl rfl) hi hk
theorem hv_t0 (h : rj_R S B V m t rd ph f n) (P : Option Value → rb_M → Prop) : rb_G none 10 0 [some (.ref 0), some (.int 0)] [] (rb_W V) P ↔ P (some (.int (nI m))) (rb_W V) := by
  rw [hv_told h (by decide) en0, show cTold (V 0) m rd n 0 = V 0 11 0 from rfl, (rj_m h).1]
theorem hv_t1 (h : rj_R S B V m t rd ph f n) (P : Option Value → rb_M → Prop) : rb_G none 10 0 [some (.ref 0), some (.int 1)] [] (rb_W V) P ↔ P (some (.int (nI t))) (rb_W V) := by
  rw [hv_told h (by decide) en1, show cTold (V 0) m rd n 1 = V 0 11 1 from rfl, h.2.1.1.1.2.2.2.1]
theorem hv_t4 (h : rj_R S B V m t rd ph f n) (P : Option Value → rb_M → Prop) : rb_G none 10 0 [some (.ref 0), some (.int 4)] [] (rb_W V) P ↔ P (some (.int (nI ph))) (rb_W V) := by
  rw [hv_told h (by decide) en4, show cTold (V 0) m rd n 4 = V 0 11 4 from rfl, h.2.1.2.1]
/-- the shares of one owner -/
theorem am_in (h : rj_R S B V m t rd ph f n) (hi : i < m) {b1 b2 b3 b4 b5 b6 : Option Value} (K : ∀ a11 a12 : Option Value, rb_G none 89 236 [some (.ref 0), b1, b2, b3, b4, b5, b6, some (.int (nI i)), some (.int (V 0 5 i)), some (.int (nI (rj_N (V 0) i m))), some (.int (nI m)), a11, a12] [] (rb_W V) P ↔ R) (a11 a12 : Option Value) : rb_G none 89 120 [some (.ref 0), b1, b2, b3, b4, b5, b6, some (.int (nI i)), some (.int (V 0 5 i)), some (.int 0), some (.int 0), a11, a12] [] (rb_W V) P ↔ R := by
  obtain ⟨hm, hm2, hm8⟩ := rj_m h
  obtain ⟨p1, p2, p3, p4, p5, p6⟩ := h.2.1.1.2.2 i (by omega)
  have key := rb_loopR (α := Option Value × Option Value) (Q := fun j a => rb_G none 89 120 [some (.ref 0), b1, b2, b3, b4, b5, b6, some (.int (nI i)), some (.int (V 0 5 i)), some (.int (nI (rj_N (V 0) i j))), some (.int (nI j)), a.1, a.2] [] (rb_W V) P) (R := R) m (fun a => by
    have h2 : nI m ≤ nI m := nI_le (Nat.le_refl m) (by omega)
    show rb_G none 89 120 _ _ _ _ ↔ _
    rw [← K a.1 a.2]
    simp only [r89_120, r89_122, r89_123, r89_124, r89_127, hv_t0 h, h2, rb_sg_self, rb_sg_sg, List.length_cons, List.length_nil, Nat.reduceAdd, Nat.reduceLeDiff, Nat.reduceLT, Nat.zero_add, Option.toList_some, Option.toList_none, List.cons_append, List.nil_append, rb_bi_eq0, rb_bi_ne0, rb_okv0, rb_okv1, rb_okvb, ln0, ln1, ln2, ln3, ln4, ln5, ln6, ln7, ln8, ln9, ln10, if_true, if_false, ite_not, Decidable.not_not]) (fun j hj ih a => by
    have h2 : ¬ nI m ≤ nI j := nI_ge hj (by omega)
    have hj8 : j < 8 := by omega
    have hN : rj_N (V 0) i (j + 1) = rj_N (V 0) i j + (if ¬ V 0 10 (8 * i + j) = -9 then 1 else 0) := rfl
    have hsh : ∀ P, rb_G none 90 0 [some (.ref 0), some (.int (nI i)), some (.int (nI j))] [] (rb_W V) P ↔ P (some (.int (V 0 10 (8 * i + j)))) (rb_W V) := fun P => q_share_k (rj_hOK h rfl rfl) hi hj
    have hmk : ∀ P, rb_G none 91 0 [some (.ref 0), some (.int (nI i)), some (.int (nI j))] [] (rb_W V) P ↔ (if V 0 5 i = 0 then P (some (.int (-9))) (rb_W V) else P (some (.int (rb_mk (nI j) (V 0 9 (8 * i + j))))) (rb_W V)) := fun P => q_mark_k (rj_hOK h rfl rfl) hi hj
    have ih' := ih
    show rb_G none 89 120 _ _ _ _ ↔ _
    by_cases hy : V 0 10 (8 * i + j) = -9
    · have hlt : V 0 10 (8 * i + j) < 0 := by rw [hy]; decide
      rw [hN, if_neg (fun q => q hy), Nat.add_zero] at ih
      by_cases h5 : V 0 5 i = 0
      · rw [← ih (some (.int (V 0 10 (8 * i + j))), some (.int (-9)))]
        rw [r89_120]
        simp only [r89_122, r89_123, r89_124, r89_127, r89_130, r89_131, r89_133, r89_135, r89_138, r89_140, r89_142, r89_145, r89_147, r89_148, r89_149, r89_152, r89_154, r89_156, r89_157, r89_159, r89_161, r89_164, r89_166, r89_168, r89_170, r89_173, r89_174, r89_177, r89_178, r89_180, r89_183, r89_184, r89_187, r89_188, r89_191, r89_193, r89_196, r89_198, r89_200, r89_203, r89_205, r89_207, r89_209, r89_210, r89_212, r89_213, r89_214, r89_216, r89_217, r89_218, r89_220, r89_221, r89_224, r89_225, r89_228, r89_229, r89_230, r89_233, hv_t0 h, hsh, hmk, h2, if_pos hlt, if_pos h5, eq_self, rb_sg_self, rb_sg_sg, List.length_cons, List.length_nil, Nat.reduceAdd, Nat.reduceLeDiff, Nat.reduceLT, Nat.zero_add, Option.toList_some, Option.toList_none, List.cons_append, List.nil_append, rb_bi_eq0, rb_bi_ne0, rb_okv0, rb_okv1, rb_okvb, ln0, ln1, ln2, ln3, ln4, ln5, ln6, ln7, ln8, ln9, ln10, if_true, if_false, ite_not, Decidable.not_not, nI_1]
      · have hz := rn_in_n9 (rj_mk_in hj8 (p2 h5 j hj)) (by decide)
        rw [← ih (some (.int (V 0 10 (8 * i + j))), some (.int (rb_mk (nI j) (V 0 9 (8 * i + j)))))]
        rw [r89_120]
        simp only [r89_122, r89_123, r89_124, r89_127, r89_130, r89_131, r89_133, r89_135, r89_138, r89_140, r89_142, r89_145, r89_147, r89_148, r89_149, r89_152, r89_154, r89_156, r89_157, r89_159, r89_161, r89_164, r89_166, r89_168, r89_170, r89_173, r89_174, r89_177, r89_178, r89_180, r89_183, r89_184, r89_187, r89_188, r89_191, r89_193, r89_196, r89_198, r89_200, r89_203, r89_205, r89_207, r89_209, r89_210, r89_212, r89_213, r89_214, r89_216, r89_217, r89_218, r89_220, r89_221, r89_224, r89_225, r89_228, r89_229, r89_230, r89_233, hv_t0 h, hsh, hmk, h2, if_pos hlt, if_neg h5, if_neg hz, eq_self, rb_sg_self, rb_sg_sg, List.length_cons, List.length_nil, Nat.reduceAdd, Nat.reduceLeDiff, Nat.reduceLT, Nat.zero_add, Option.toList_some, Option.toList_none, List.cons_append, List.nil_append, rb_bi_eq0, rb_bi_ne0, rb_okv0, rb_okv1, rb_okvb, ln0, ln1, ln2, ln3, ln4, ln5, ln6, ln7, ln8, ln9, ln10, if_true, if_false, ite_not, Decidable.not_not, nI_1]
    · obtain ⟨z1, z2, z3, z4, z5⟩ := (p1 j hj8).resolve_left hy
      have hlt := rn_in_nn z4 (by decide)
      have h5 : ¬ V 0 5 i = 0 := fun q => hy (p3 q j hj8)
      have hz := rn_in_n9 (rj_mk_in hj8 (p2 h5 j hj)) (by decide)
      have hij : ¬ nI i = nI j := fun q => z2 ((rb_eqn (by omega) (by omega)).mp q).symm
      have hmk2 : rb_mk (nI j) (V 0 9 (8 * i + j)) = rb_rem (91 * V 0 10 (8 * i + j) * V 0 10 (8 * i + j) + 3 * V 0 10 (8 * i + j) + nI j) 10007 := z5.symm
      have nzM : ¬ (10007 : Int32) = 0 := by decide
      rw [hN, if_pos hy] at ih
      rw [← ih (some (.int (V 0 10 (8 * i + j))), some (.int (rb_mk (nI j) (V 0 9 (8 * i + j)))))]
      rw [r89_120]
      simp only [r89_122, r89_123, r89_124, r89_127, r89_130, r89_131, r89_133, r89_135, r89_138, r89_140, r89_142, r89_145, r89_147, r89_148, r89_149, r89_152, r89_154, r89_156, r89_157, r89_159, r89_161, r89_164, r89_166, r89_168, r89_170, r89_173, r89_174, r89_177, r89_178, r89_180, r89_183, r89_184, r89_187, r89_188, r89_191, r89_193, r89_196, r89_198, r89_200, r89_203, r89_205, r89_207, r89_209, r89_210, r89_212, r89_213, r89_214, r89_216, r89_217, r89_218, r89_220, r89_221, r89_224, r89_225, r89_228, r89_229, r89_230, r89_233, hv_t0 h, hsh, hmk, h2, if_neg hlt, if_neg h5, if_neg hz, if_neg hij, if_pos hmk2, nzM, not_false_eq_true, eq_self, rb_sg_self, rb_sg_sg, List.length_cons, List.length_nil, Nat.reduceAdd, Nat.reduceLeDiff, Nat.reduceLT, Nat.zero_add, Option.toList_some, Option.toList_none, List.cons_append, List.nil_append, rb_bi_eq0, rb_bi_ne0, rb_okv0, rb_okv1, rb_okvb, ln0, ln1, ln2, ln3, ln4, ln5, ln6, ln7, ln8, ln9, ln10, if_true, if_false, ite_not, Decidable.not_not, nI_1])
  have := key (a11, a12)
  simp only [nI_0, rj_N, rn_ct] at this
  exact this
end RP
