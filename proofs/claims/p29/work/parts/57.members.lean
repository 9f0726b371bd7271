/-! THE LAW'S FIRST QUESTION, 2 -/
def am_b (c : Nat → Nat → Int32) (k : Nat) : Int32 := rb_sum (fun i => rb_bi (0 < c 5 i)) k
theorem rb_bi_cg {p q : Prop} [Decidable p] [Decidable q] (h : p ↔ q) : rb_bi p = rb_bi q := by
  by_cases z : p
  · rw [rb_bi_pos z, rb_bi_pos (h.mp z)]
  · rw [rb_bi_neg z, rb_bi_neg (fun y => z (h.mpr y))]
theorem rn_sum_add2 (f g : Nat → Int32) (k : Nat) : rb_sum f k + rb_sum g k = rb_sum (fun i => f i + g i) k := (rn_sum_add f g k).symm
section RP
variable {S B m t rd ph f n i : Nat} {V : rb_V} {P : Option Value → rb_M → Prop} {R : Prop}
theorem am_bound (h : rj_R S B V m t rd ph f n) : am_b (V 0) m = cBound (V 0) m := by
  obtain ⟨hm, hm2, hm8⟩ := rj_m h
  unfold am_b cBound cCount
  rw [rn_sum_add2, rn_sum_add2]
  refine rb_sum_congr fun i hi => ?_
  rcases rj_st (h.2.1.1.2.1 i (by omega)) with q | q | q | q <;> rw [q] <;> decide
theorem am_on (h : rj_R S B V m t rd ph f n) : rb_sum (fun i => V 0 3 i) m = cOnN (V 0) m := by
  obtain ⟨hm, hm2, hm8⟩ := rj_m h
  unfold cOnN
  refine rb_sum_congr fun i hi => ?_
  rcases (h.2.1.1.2.1 i (by omega)).1 with q | q <;> rw [q] <;> decide
theorem am_dep (hB : B < 2 ^ 31) (h : rj_R S B V m t rd ph f n) (hi : i < m) : ¬ V 0 2 i < 0 := by
  obtain ⟨D, p, a, b, d⟩ := h.2.1.2.2.2.2
  have hd := rj_sN_le (D := D) hi
  have hS := h.1
  rw [a i hi]
  exact nI_pos (by omega)
theorem am_n (h : rj_R S B V m t rd ph f n) (hi : i < m) : ph < 2 → rj_N (V 0) i m = 0 := fun hp => rn_ct_zero.mpr fun j hj q => by
  obtain ⟨hm, hm2, hm8⟩ := rj_m h
  have := ((h.2.1.1.2.2 i (by omega)).1 j (by omega)).resolve_left q
  omega
theorem am_ph {N : Nat} {x : Int32} {b2 b3 b4 b5 b6 b7 b10 b11 b12 : Option Value} (hp3 : ph ≤ 3) (h1 : ph = 0 → ¬ 1 < x) (h2 : ph < 2 → N = 0) : rb_G none 89 376 [some (.ref 0), some (.int (nI ph)), b2, b3, b4, b5, b6, b7, some (.int x), some (.int (nI N)), b10, b11, b12] [] (rb_W V) P ↔ rb_G none 89 396 [some (.ref 0), some (.int (nI ph)), b2, b3, b4, b5, b6, b7, some (.int x), some (.int (nI N)), b10, b11, b12] [] (rb_W V) P := by
  have e0 : nI ph = 0 ↔ ph = 0 := nI_eq (b := 0) (by omega) (by decide)
  have e2 : 2 ≤ nI ph ↔ 2 ≤ ph := nI_leI (a := 2) (by decide) (by omega)
  simp only [r89_376, r89_377, r89_380, r89_382, r89_383, r89_386, r89_387, r89_388, r89_391, r89_393, e0, e2, rb_sg_self, rb_sg_sg, List.length_cons, List.length_nil, Nat.reduceAdd, Nat.reduceLeDiff, Nat.reduceLT, Nat.zero_add, Option.toList_some, Option.toList_none, List.cons_append, List.nil_append, rb_bi_eq0, rb_bi_ne0, rb_okv0, rb_okv1, rb_okvb, ln0, ln1, ln2, ln3, ln4, ln5, ln6, ln7, ln8, ln9, ln10, if_true, if_false, ite_not, Decidable.not_not]
  by_cases q0 : ph = 0
  · have q2 : ¬ 2 ≤ ph := by omega
    have hN : ¬ 0 < nI N := by rw [h2 (by omega)]; decide
    simp only [if_pos q0, if_neg (h1 q0), if_neg q2, if_neg hN]
  · by_cases q2 : 2 ≤ ph
    · simp only [if_neg q0, if_pos q2]
    · have hN : ¬ 0 < nI N := by rw [h2 (by omega)]; decide
      simp only [if_neg q0, if_neg q2, if_neg hN]
theorem am_st0 (hB : B < 2 ^ 31) (h : rj_R S B V m t rd ph f n) (hi : i < m) (hst : V 0 5 i = 0) (ih : ∀ a : Option Value × Option Value × Option Value × Option Value × Option Value, rb_G none 89 27 [some (.ref 0), some (.int (nI ph)), some (.int (am_b (V 0) (i + 1))), some (.int (cCount (V 0) 2 (i + 1))), some (.int (cCount (V 0) 3 (i + 1))), some (.int (am_s (V 0) (i + 1))), some (.int (rb_sum (fun i => V 0 3 i) (i + 1))), some (.int (nI (i + 1))), a.1, a.2.1, a.2.2.1, a.2.2.2.1, a.2.2.2.2] [] (rb_W V) P ↔ R) (a8 a9 a10 a11 a12 : Option Value) : rb_G none 89 27 [some (.ref 0), some (.int (nI ph)), some (.int (am_b (V 0) i)), some (.int (cCount (V 0) 2 i)), some (.int (cCount (V 0) 3 i)), some (.int (am_s (V 0) i)), some (.int (rb_sum (fun i => V 0 3 i) i)), some (.int (nI i)), a8, a9, a10, a11, a12] [] (rb_W V) P ↔ R := by
  obtain ⟨hm, hm2, hm8⟩ := rj_m h
  have hp3 : ph ≤ 3 := h.2.1.2.2.1
  have ht8 : t ≤ m := h.2.1.1.1.2.2.2.2.2.1
  have ht1 : 1 ≤ t := h.2.1.1.1.2.2.2.2.1
  obtain ⟨p1, p2, p3, p4, p5, p6⟩ := h.2.1.1.2.2 i (by omega)
  obtain ⟨w1, w2⟩ := h.2.1.1.2.1 i (by omega)
  have hle : rj_N (V 0) i m ≤ m := rn_ct_le _ m
  have h2 : ¬ nI m ≤ nI i := nI_ge hi (by omega)
  have m0 := hv_memb h hi (by decide) en0
  have m1 := hv_memb h hi (by decide) en1
  have m2 := hv_memb h hi (by decide) en2
  have m3 := hv_memb h hi (by decide) en3
  have m4 := hv_memb h hi (by decide) en4
  have m5 := hv_memb h hi (by decide) en5
  have c4 : cMemb (V 0) i m 4 = nI (rj_N (V 0) i m) := rn_giv_bc (V 0) i m hm8
  have c0 : cMemb (V 0) i m 0 = V 0 2 i := rfl
  have c1 : cMemb (V 0) i m 1 = V 0 3 i := rfl
  have c5 : cMemb (V 0) i m 5 = V 0 5 i := rfl
  rw [c4] at m4
  rw [c0] at m0
  rw [c1] at m1
  rw [c5] at m5
  have hdep := am_dep hB h hi
  have h10 : ¬ (1 : Int32) = 0 := by decide
  have f1 : V 0 5 i ≤ 0 := by rw [hst]; decide
  have f2 : ¬ V 0 5 i = 2 := by rw [hst]; decide
  have f3 : ¬ V 0 5 i = 3 := by rw [hst]; decide
  have f4 : V 0 5 i = 0 := hst
  have f5 : ¬ 2 ≤ V 0 5 i := by rw [hst]; decide
  have e2 : cMemb (V 0) i m 2 = -9 := if_pos hst
  have e3 : cMemb (V 0) i m 3 = -9 := if_neg (by rw [hst]; decide)
  have e6 : cMemb (V 0) i m 3 ≤ 256 := by rw [e3]; decide
  have w4 : ph = 0 → ¬ 1 < V 0 5 i := fun _ => by rw [hst]; decide
  have hN : rj_N (V 0) i m = 0 := rn_ct_zero.mpr fun j hj q => q (p3 hst j (by omega))
  have e8 : ¬ nI t < nI (rj_N (V 0) i m) := nI_nlt (by omega) (by omega)
  have e9 : ¬ nI (rj_N (V 0) i m) = nI t := fun q => by have := (nI_eq (by omega) (by omega)).mp q; omega
  have s1 : am_b (V 0) (i + 1) = am_b (V 0) i + 0 := by show am_b (V 0) i + rb_bi (0 < V 0 5 i) = _; rw [hst]; rfl
  have s2 : cCount (V 0) 2 (i + 1) = cCount (V 0) 2 i + 0 := by show cCount (V 0) 2 i + rb_bi (V 0 5 i = 2) = _; rw [hst]; rfl
  have s3 : cCount (V 0) 3 (i + 1) = cCount (V 0) 3 i + 0 := by show cCount (V 0) 3 i + rb_bi (V 0 5 i = 3) = _; rw [hst]; rfl
  have s4 : am_s (V 0) (i + 1) = am_s (V 0) i + V 0 2 i := rfl
  have s5 : rb_sum (fun i => V 0 3 i) (i + 1) = rb_sum (fun i => V 0 3 i) i + V 0 3 i := rfl
  try rw [Int32.add_zero] at s1
  try rw [Int32.add_zero] at s2
  try rw [Int32.add_zero] at s3
  rw [s1, s2, s3, s4, s5] at ih
  rw [r89_27]
  simp only [r89_29, r89_30, r89_31, r89_34, r89_37, r89_38, r89_40, r89_41, r89_44, r89_46, r89_48, r89_51, r89_52, r89_53, r89_54, r89_57, r89_58, r89_59, r89_61, r89_62, r89_65, r89_66, r89_67, r89_68, r89_71, r89_72, r89_73, r89_75, r89_76, r89_79, r89_81, r89_82, r89_83, r89_86, r89_88, r89_90, r89_92, r89_93, r89_95, r89_96, r89_99, r89_100, r89_102, r89_104, r89_105, r89_107, r89_108, r89_111, r89_112, r89_114, r89_115, r89_117, r89_118, hv_t0 h, m0, m1, m5, h2, if_pos f1, if_neg f2, if_neg f3, if_pos f4, if_neg f5, if_pos e2, if_pos e3, if_pos e6, if_neg e8, if_neg e9, if_neg hdep, if_neg h10, rb_sg_self, rb_sg_sg, List.length_cons, List.length_nil, Nat.reduceAdd, Nat.reduceLeDiff, Nat.reduceLT, Nat.zero_add, Option.toList_some, Option.toList_none, List.cons_append, List.nil_append, rb_bi_eq0, rb_bi_ne0, rb_okv0, rb_okv1, rb_okvb, ln0, ln1, ln2, ln3, ln4, ln5, ln6, ln7, ln8, ln9, ln10, if_true, if_false, ite_not, Decidable.not_not]
  refine am_in h hi (fun b11 b12 => ?_) _ _
  simp only [r89_236, r89_237, r89_239, r89_240, r89_243, r89_245, r89_248, r89_249, r89_252, r89_253, r89_255, r89_258, r89_259, r89_262, r89_263, r89_266, r89_267, r89_269, r89_270, r89_273, r89_275, r89_278, r89_279, r89_282, r89_283, r89_285, r89_286, r89_289, r89_290, r89_293, r89_294, r89_297, r89_299, r89_300, r89_302, r89_303, r89_306, r89_309, r89_311, r89_312, r89_313, r89_316, r89_319, r89_321, r89_322, r89_325, r89_326, r89_329, r89_330, r89_332, r89_333, r89_336, r89_338, r89_339, r89_340, r89_343, r89_346, r89_347, r89_350, r89_351, r89_354, r89_355, r89_358, r89_359, r89_361, r89_363, r89_366, r89_367, r89_369, r89_370, r89_373, hv_t1 h, m0, m2, m3, m4, if_pos f1, if_neg f2, if_neg f3, if_pos f4, if_neg f5, if_pos e2, if_pos e3, if_pos e6, if_neg e8, if_neg e9, if_neg hdep, if_neg h10, eq_self, rb_sg_self, rb_sg_sg, List.length_cons, List.length_nil, Nat.reduceAdd, Nat.reduceLeDiff, Nat.reduceLT, Nat.zero_add, Option.toList_some, Option.toList_none, List.cons_append, List.nil_append, rb_bi_eq0, rb_bi_ne0, rb_okv0, rb_okv1, rb_okvb, ln0, ln1, ln2, ln3, ln4, ln5, ln6, ln7, ln8, ln9, ln10, if_true, if_false, ite_not, Decidable.not_not]
  rw [am_ph hp3 w4 (am_n h hi), ← ih (some (.int (V 0 5 i)), some (.int (nI (rj_N (V 0) i m))), some (.int 1), b11, b12)]
  simp only [r89_396, r89_397, r89_399, r89_400, r89_403, r89_406, r89_409, r89_410, r89_411, r89_414, m3, if_pos e6, nI_1, rb_sg_self, rb_sg_sg, List.length_cons, List.length_nil, Nat.reduceAdd, Nat.reduceLeDiff, Nat.reduceLT, Nat.zero_add, Option.toList_some, Option.toList_none, List.cons_append, List.nil_append, rb_bi_eq0, rb_bi_ne0, rb_okv0, rb_okv1, rb_okvb, ln0, ln1, ln2, ln3, ln4, ln5, ln6, ln7, ln8, ln9, ln10, if_true, if_false, ite_not, Decidable.not_not]
theorem am_st1 (hB : B < 2 ^ 31) (h : rj_R S B V m t rd ph f n) (hi : i < m) (hst : V 0 5 i = 1) (ih : ∀ a : Option Value × Option Value × Option Value × Option Value × Option Value, rb_G none 89 27 [some (.ref 0), some (.int (nI ph)), some (.int (am_b (V 0) (i + 1))), some (.int (cCount (V 0) 2 (i + 1))), some (.int (cCount (V 0) 3 (i + 1))), some (.int (am_s (V 0) (i + 1))), some (.int (rb_sum (fun i => V 0 3 i) (i + 1))), some (.int (nI (i + 1))), a.1, a.2.1, a.2.2.1, a.2.2.2.1, a.2.2.2.2] [] (rb_W V) P ↔ R) (a8 a9 a10 a11 a12 : Option Value) : rb_G none 89 27 [some (.ref 0), some (.int (nI ph)), some (.int (am_b (V 0) i)), some (.int (cCount (V 0) 2 i)), some (.int (cCount (V 0) 3 i)), some (.int (am_s (V 0) i)), some (.int (rb_sum (fun i => V 0 3 i) i)), some (.int (nI i)), a8, a9, a10, a11, a12] [] (rb_W V) P ↔ R := by
  obtain ⟨hm, hm2, hm8⟩ := rj_m h
  have hp3 : ph ≤ 3 := h.2.1.2.2.1
  have ht8 : t ≤ m := h.2.1.1.1.2.2.2.2.2.1
  have ht1 : 1 ≤ t := h.2.1.1.1.2.2.2.2.1
  obtain ⟨p1, p2, p3, p4, p5, p6⟩ := h.2.1.1.2.2 i (by omega)
  obtain ⟨w1, w2⟩ := h.2.1.1.2.1 i (by omega)
  have hle : rj_N (V 0) i m ≤ m := rn_ct_le _ m
  have h2 : ¬ nI m ≤ nI i := nI_ge hi (by omega)
  have m0 := hv_memb h hi (by decide) en0
  have m1 := hv_memb h hi (by decide) en1
  have m2 := hv_memb h hi (by decide) en2
  have m3 := hv_memb h hi (by decide) en3
  have m4 := hv_memb h hi (by decide) en4
  have m5 := hv_memb h hi (by decide) en5
  have c4 : cMemb (V 0) i m 4 = nI (rj_N (V 0) i m) := rn_giv_bc (V 0) i m hm8
  have c0 : cMemb (V 0) i m 0 = V 0 2 i := rfl
  have c1 : cMemb (V 0) i m 1 = V 0 3 i := rfl
  have c5 : cMemb (V 0) i m 5 = V 0 5 i := rfl
  rw [c4] at m4
  rw [c0] at m0
  rw [c1] at m1
  rw [c5] at m5
  have hdep := am_dep hB h hi
  have h10 : ¬ (1 : Int32) = 0 := by decide
  have f1 : ¬ V 0 5 i ≤ 0 := by rw [hst]; decide
  have f2 : ¬ V 0 5 i = 2 := by rw [hst]; decide
  have f3 : ¬ V 0 5 i = 3 := by rw [hst]; decide
  have f4 : ¬ V 0 5 i = 0 := by rw [hst]; decide
  have f5 : ¬ 2 ≤ V 0 5 i := by rw [hst]; decide
  have w3 := w2.resolve_left f4
  have e2 : ¬ cMemb (V 0) i m 2 = -9 := by
    rw [show cMemb (V 0) i m 2 = V 0 6 i from if_neg f4]; exact rn_in_ne w3.1 (by decide)
  have e3 : cMemb (V 0) i m 3 = -9 := if_neg (by rw [hst]; decide)
  have e6 : cMemb (V 0) i m 3 ≤ 256 := by rw [e3]; decide
  have w4 : ph = 0 → ¬ 1 < V 0 5 i := fun _ => by rw [hst]; decide
  have hN := p4 hst
  have e8 : ¬ nI t < nI (rj_N (V 0) i m) := nI_nlt (by omega) (by omega)
  have e9 : ¬ nI (rj_N (V 0) i m) = nI t := fun q => by have := (nI_eq (by omega) (by omega)).mp q; omega
  have s1 : am_b (V 0) (i + 1) = am_b (V 0) i + 1 := by show am_b (V 0) i + rb_bi (0 < V 0 5 i) = _; rw [hst]; rfl
  have s2 : cCount (V 0) 2 (i + 1) = cCount (V 0) 2 i + 0 := by show cCount (V 0) 2 i + rb_bi (V 0 5 i = 2) = _; rw [hst]; rfl
  have s3 : cCount (V 0) 3 (i + 1) = cCount (V 0) 3 i + 0 := by show cCount (V 0) 3 i + rb_bi (V 0 5 i = 3) = _; rw [hst]; rfl
  have s4 : am_s (V 0) (i + 1) = am_s (V 0) i + V 0 2 i := rfl
  have s5 : rb_sum (fun i => V 0 3 i) (i + 1) = rb_sum (fun i => V 0 3 i) i + V 0 3 i := rfl
  try rw [Int32.add_zero] at s1
  try rw [Int32.add_zero] at s2
  try rw [Int32.add_zero] at s3
  rw [s1, s2, s3, s4, s5] at ih
  rw [r89_27]
  simp only [r89_29, r89_30, r89_31, r89_34, r89_37, r89_38, r89_40, r89_41, r89_44, r89_46, r89_48, r89_51, r89_52, r89_53, r89_54, r89_57, r89_58, r89_59, r89_61, r89_62, r89_65, r89_66, r89_67, r89_68, r89_71, r89_72, r89_73, r89_75, r89_76, r89_79, r89_81, r89_82, r89_83, r89_86, r89_88, r89_90, r89_92, r89_93, r89_95, r89_96, r89_99, r89_100, r89_102, r89_104, r89_105, r89_107, r89_108, r89_111, r89_112, r89_114, r89_115, r89_117, r89_118, hv_t0 h, m0, m1, m5, h2, if_neg f1, if_neg f2, if_neg f3, if_neg f4, if_neg f5, if_neg e2, if_pos e3, if_pos e6, if_neg e8, if_neg e9, if_neg hdep, if_neg h10, rb_sg_self, rb_sg_sg, List.length_cons, List.length_nil, Nat.reduceAdd, Nat.reduceLeDiff, Nat.reduceLT, Nat.zero_add, Option.toList_some, Option.toList_none, List.cons_append, List.nil_append, rb_bi_eq0, rb_bi_ne0, rb_okv0, rb_okv1, rb_okvb, ln0, ln1, ln2, ln3, ln4, ln5, ln6, ln7, ln8, ln9, ln10, if_true, if_false, ite_not, Decidable.not_not]
  refine am_in h hi (fun b11 b12 => ?_) _ _
  simp only [r89_236, r89_237, r89_239, r89_240, r89_243, r89_245, r89_248, r89_249, r89_252, r89_253, r89_255, r89_258, r89_259, r89_262, r89_263, r89_266, r89_267, r89_269, r89_270, r89_273, r89_275, r89_278, r89_279, r89_282, r89_283, r89_285, r89_286, r89_289, r89_290, r89_293, r89_294, r89_297, r89_299, r89_300, r89_302, r89_303, r89_306, r89_309, r89_311, r89_312, r89_313, r89_316, r89_319, r89_321, r89_322, r89_325, r89_326, r89_329, r89_330, r89_332, r89_333, r89_336, r89_338, r89_339, r89_340, r89_343, r89_346, r89_347, r89_350, r89_351, r89_354, r89_355, r89_358, r89_359, r89_361, r89_363, r89_366, r89_367, r89_369, r89_370, r89_373, hv_t1 h, m0, m2, m3, m4, if_neg f1, if_neg f2, if_neg f3, if_neg f4, if_neg f5, if_neg e2, if_pos e3, if_pos e6, if_neg e8, if_neg e9, if_neg hdep, if_neg h10, eq_self, rb_sg_self, rb_sg_sg, List.length_cons, List.length_nil, Nat.reduceAdd, Nat.reduceLeDiff, Nat.reduceLT, Nat.zero_add, Option.toList_some, Option.toList_none, List.cons_append, List.nil_append, rb_bi_eq0, rb_bi_ne0, rb_okv0, rb_okv1, rb_okvb, ln0, ln1, ln2, ln3, ln4, ln5, ln6, ln7, ln8, ln9, ln10, if_true, if_false, ite_not, Decidable.not_not]
  rw [am_ph hp3 w4 (am_n h hi), ← ih (some (.int (V 0 5 i)), some (.int (nI (rj_N (V 0) i m))), some (.int 1), b11, b12)]
  simp only [r89_396, r89_397, r89_399, r89_400, r89_403, r89_406, r89_409, r89_410, r89_411, r89_414, m3, if_pos e6, nI_1, rb_sg_self, rb_sg_sg, List.length_cons, List.length_nil, Nat.reduceAdd, Nat.reduceLeDiff, Nat.reduceLT, Nat.zero_add, Option.toList_some, Option.toList_none, List.cons_append, List.nil_append, rb_bi_eq0, rb_bi_ne0, rb_okv0, rb_okv1, rb_okvb, ln0, ln1, ln2, ln3, ln4, ln5, ln6, ln7, ln8, ln9, ln10, if_true, if_false, ite_not, Decidable.not_not]
theorem am_st2 (hB : B < 2 ^ 31) (h : rj_R S B V m t rd ph f n) (hi : i < m) (hst : V 0 5 i = 2) (ih : ∀ a : Option Value × Option Value × Option Value × Option Value × Option Value, rb_G none 89 27 [some (.ref 0), some (.int (nI ph)), some (.int (am_b (V 0) (i + 1))), some (.int (cCount (V 0) 2 (i + 1))), some (.int (cCount (V 0) 3 (i + 1))), some (.int (am_s (V 0) (i + 1))), some (.int (rb_sum (fun i => V 0 3 i) (i + 1))), some (.int (nI (i + 1))), a.1, a.2.1, a.2.2.1, a.2.2.2.1, a.2.2.2.2] [] (rb_W V) P ↔ R) (a8 a9 a10 a11 a12 : Option Value) : rb_G none 89 27 [some (.ref 0), some (.int (nI ph)), some (.int (am_b (V 0) i)), some (.int (cCount (V 0) 2 i)), some (.int (cCount (V 0) 3 i)), some (.int (am_s (V 0) i)), some (.int (rb_sum (fun i => V 0 3 i) i)), some (.int (nI i)), a8, a9, a10, a11, a12] [] (rb_W V) P ↔ R := by
  obtain ⟨hm, hm2, hm8⟩ := rj_m h
  have hp3 : ph ≤ 3 := h.2.1.2.2.1
  have ht8 : t ≤ m := h.2.1.1.1.2.2.2.2.2.1
  have ht1 : 1 ≤ t := h.2.1.1.1.2.2.2.2.1
  obtain ⟨p1, p2, p3, p4, p5, p6⟩ := h.2.1.1.2.2 i (by omega)
  obtain ⟨w1, w2⟩ := h.2.1.1.2.1 i (by omega)
  have hle : rj_N (V 0) i m ≤ m := rn_ct_le _ m
  have h2 : ¬ nI m ≤ nI i := nI_ge hi (by omega)
  have m0 := hv_memb h hi (by decide) en0
  have m1 := hv_memb h hi (by decide) en1
  have m2 := hv_memb h hi (by decide) en2
  have m3 := hv_memb h hi (by decide) en3
  have m4 := hv_memb h hi (by decide) en4
  have m5 := hv_memb h hi (by decide) en5
  have c4 : cMemb (V 0) i m 4 = nI (rj_N (V 0) i m) := rn_giv_bc (V 0) i m hm8
  have c0 : cMemb (V 0) i m 0 = V 0 2 i := rfl
  have c1 : cMemb (V 0) i m 1 = V 0 3 i := rfl
  have c5 : cMemb (V 0) i m 5 = V 0 5 i := rfl
  rw [c4] at m4
  rw [c0] at m0
  rw [c1] at m1
  rw [c5] at m5
  have hdep := am_dep hB h hi
  have h10 : ¬ (1 : Int32) = 0 := by decide
  have f1 : ¬ V 0 5 i ≤ 0 := by rw [hst]; decide
  have f2 : V 0 5 i = 2 := hst
  have f3 : ¬ V 0 5 i = 3 := by rw [hst]; decide
  have f4 : ¬ V 0 5 i = 0 := by rw [hst]; decide
  have f5 : 2 ≤ V 0 5 i := by rw [hst]; decide
  have w3 := w2.resolve_left f4
  have e2 : ¬ cMemb (V 0) i m 2 = -9 := by
    rw [show cMemb (V 0) i m 2 = V 0 6 i from if_neg f4]; exact rn_in_ne w3.1 (by decide)
  have e7 : cMemb (V 0) i m 3 = V 0 8 i := if_pos (by rw [hst]; decide)
  have w5 : rn_in 257 (V 0 8 i) ∧ 1 ≤ ph := by
    rcases w3.2.2 with z | z | z
    · rw [hst] at z; exact absurd z (by decide)
    · exact ⟨z.2.2, z.1⟩
    · rw [hst] at z; exact absurd z.2.1 (by decide)
  have e3 : ¬ cMemb (V 0) i m 3 = -9 := by rw [e7]; exact rn_in_ne w5.1 (by decide)
  have e6 : cMemb (V 0) i m 3 ≤ 256 := by
    obtain ⟨v, hv, ev⟩ := w5.1
    rw [e7, ev]; exact nI_le (b := 256) (by omega) (by decide)
  have w4 : ph = 0 → ¬ 1 < V 0 5 i := fun q => by have := w5.2; omega
  have hN := p5 hst
  have e8 : ¬ nI t < nI (rj_N (V 0) i m) := nI_nlt (by omega) (by omega)
  have e9 : ¬ nI (rj_N (V 0) i m) = nI t := fun q => by have := (nI_eq (by omega) (by omega)).mp q; omega
  have s1 : am_b (V 0) (i + 1) = am_b (V 0) i + 1 := by show am_b (V 0) i + rb_bi (0 < V 0 5 i) = _; rw [hst]; rfl
  have s2 : cCount (V 0) 2 (i + 1) = cCount (V 0) 2 i + 1 := by show cCount (V 0) 2 i + rb_bi (V 0 5 i = 2) = _; rw [hst]; rfl
  have s3 : cCount (V 0) 3 (i + 1) = cCount (V 0) 3 i + 0 := by show cCount (V 0) 3 i + rb_bi (V 0 5 i = 3) = _; rw [hst]; rfl
  have s4 : am_s (V 0) (i + 1) = am_s (V 0) i + V 0 2 i := rfl
  have s5 : rb_sum (fun i => V 0 3 i) (i + 1) = rb_sum (fun i => V 0 3 i) i + V 0 3 i := rfl
  try rw [Int32.add_zero] at s1
  try rw [Int32.add_zero] at s2
  try rw [Int32.add_zero] at s3
  rw [s1, s2, s3, s4, s5] at ih
  rw [r89_27]
  simp only [r89_29, r89_30, r89_31, r89_34, r89_37, r89_38, r89_40, r89_41, r89_44, r89_46, r89_48, r89_51, r89_52, r89_53, r89_54, r89_57, r89_58, r89_59, r89_61, r89_62, r89_65, r89_66, r89_67, r89_68, r89_71, r89_72, r89_73, r89_75, r89_76, r89_79, r89_81, r89_82, r89_83, r89_86, r89_88, r89_90, r89_92, r89_93, r89_95, r89_96, r89_99, r89_100, r89_102, r89_104, r89_105, r89_107, r89_108, r89_111, r89_112, r89_114, r89_115, r89_117, r89_118, hv_t0 h, m0, m1, m5, h2, if_neg f1, if_pos f2, if_neg f3, if_neg f4, if_pos f5, if_neg e2, if_neg e3, if_pos e6, if_neg e8, if_neg e9, if_neg hdep, if_neg h10, rb_sg_self, rb_sg_sg, List.length_cons, List.length_nil, Nat.reduceAdd, Nat.reduceLeDiff, Nat.reduceLT, Nat.zero_add, Option.toList_some, Option.toList_none, List.cons_append, List.nil_append, rb_bi_eq0, rb_bi_ne0, rb_okv0, rb_okv1, rb_okvb, ln0, ln1, ln2, ln3, ln4, ln5, ln6, ln7, ln8, ln9, ln10, if_true, if_false, ite_not, Decidable.not_not]
  refine am_in h hi (fun b11 b12 => ?_) _ _
  simp only [r89_236, r89_237, r89_239, r89_240, r89_243, r89_245, r89_248, r89_249, r89_252, r89_253, r89_255, r89_258, r89_259, r89_262, r89_263, r89_266, r89_267, r89_269, r89_270, r89_273, r89_275, r89_278, r89_279, r89_282, r89_283, r89_285, r89_286, r89_289, r89_290, r89_293, r89_294, r89_297, r89_299, r89_300, r89_302, r89_303, r89_306, r89_309, r89_311, r89_312, r89_313, r89_316, r89_319, r89_321, r89_322, r89_325, r89_326, r89_329, r89_330, r89_332, r89_333, r89_336, r89_338, r89_339, r89_340, r89_343, r89_346, r89_347, r89_350, r89_351, r89_354, r89_355, r89_358, r89_359, r89_361, r89_363, r89_366, r89_367, r89_369, r89_370, r89_373, hv_t1 h, m0, m2, m3, m4, if_neg f1, if_pos f2, if_neg f3, if_neg f4, if_pos f5, if_neg e2, if_neg e3, if_pos e6, if_neg e8, if_neg e9, if_neg hdep, if_neg h10, eq_self, rb_sg_self, rb_sg_sg, List.length_cons, List.length_nil, Nat.reduceAdd, Nat.reduceLeDiff, Nat.reduceLT, Nat.zero_add, Option.toList_some, Option.toList_none, List.cons_append, List.nil_append, rb_bi_eq0, rb_bi_ne0, rb_okv0, rb_okv1, rb_okvb, ln0, ln1, ln2, ln3, ln4, ln5, ln6, ln7, ln8, ln9, ln10, if_true, if_false, ite_not, Decidable.not_not]
  rw [am_ph hp3 w4 (am_n h hi), ← ih (some (.int (V 0 5 i)), some (.int (nI (rj_N (V 0) i m))), some (.int 1), b11, b12)]
  simp only [r89_396, r89_397, r89_399, r89_400, r89_403, r89_406, r89_409, r89_410, r89_411, r89_414, m3, if_pos e6, nI_1, rb_sg_self, rb_sg_sg, List.length_cons, List.length_nil, Nat.reduceAdd, Nat.reduceLeDiff, Nat.reduceLT, Nat.zero_add, Option.toList_some, Option.toList_none, List.cons_append, List.nil_append, rb_bi_eq0, rb_bi_ne0, rb_okv0, rb_okv1, rb_okvb, ln0, ln1, ln2, ln3, ln4, ln5, ln6, ln7, ln8, ln9, ln10, if_true, if_false, ite_not, Decidable.not_not]
theorem am_st3 (hB : B < 2 ^ 31) (h : rj_R S B V m t rd ph f n) (hi : i < m) (hst : V 0 5 i = 3) (ih : ∀ a : Option Value × Option Value × Option Value × Option Value × Option Value, rb_G none 89 27 [some (.ref 0), some (.int (nI ph)), some (.int (am_b (V 0) (i + 1))), some (.int (cCount (V 0) 2 (i + 1))), some (.int (cCount (V 0) 3 (i + 1))), some (.int (am_s (V 0) (i + 1))), some (.int (rb_sum (fun i => V 0 3 i) (i + 1))), some (.int (nI (i + 1))), a.1, a.2.1, a.2.2.1, a.2.2.2.1, a.2.2.2.2] [] (rb_W V) P ↔ R) (a8 a9 a10 a11 a12 : Option Value) : rb_G none 89 27 [some (.ref 0), some (.int (nI ph)), some (.int (am_b (V 0) i)), some (.int (cCount (V 0) 2 i)), some (.int (cCount (V 0) 3 i)), some (.int (am_s (V 0) i)), some (.int (rb_sum (fun i => V 0 3 i) i)), some (.int (nI i)), a8, a9, a10, a11, a12] [] (rb_W V) P ↔ R := by
  obtain ⟨hm, hm2, hm8⟩ := rj_m h
  have hp3 : ph ≤ 3 := h.2.1.2.2.1
  have ht8 : t ≤ m := h.2.1.1.1.2.2.2.2.2.1
  have ht1 : 1 ≤ t := h.2.1.1.1.2.2.2.2.1
  obtain ⟨p1, p2, p3, p4, p5, p6⟩ := h.2.1.1.2.2 i (by omega)
  obtain ⟨w1, w2⟩ := h.2.1.1.2.1 i (by omega)
  have hle : rj_N (V 0) i m ≤ m := rn_ct_le _ m
  have h2 : ¬ nI m ≤ nI i := nI_ge hi (by omega)
  have m0 := hv_memb h hi (by decide) en0
  have m1 := hv_memb h hi (by decide) en1
  have m2 := hv_memb h hi (by decide) en2
  have m3 := hv_memb h hi (by decide) en3
  have m4 := hv_memb h hi (by decide) en4
  have m5 := hv_memb h hi (by decide) en5
  have c4 : cMemb (V 0) i m 4 = nI (rj_N (V 0) i m) := rn_giv_bc (V 0) i m hm8
  have c0 : cMemb (V 0) i m 0 = V 0 2 i := rfl
  have c1 : cMemb (V 0) i m 1 = V 0 3 i := rfl
  have c5 : cMemb (V 0) i m 5 = V 0 5 i := rfl
  rw [c4] at m4
  rw [c0] at m0
  rw [c1] at m1
  rw [c5] at m5
  have hdep := am_dep hB h hi
  have h10 : ¬ (1 : Int32) = 0 := by decide
  have f1 : ¬ V 0 5 i ≤ 0 := by rw [hst]; decide
  have f2 : ¬ V 0 5 i = 2 := by rw [hst]; decide
  have f3 : V 0 5 i = 3 := hst
  have f4 : ¬ V 0 5 i = 0 := by rw [hst]; decide
  have f5 : 2 ≤ V 0 5 i := by rw [hst]; decide
  have w3 := w2.resolve_left f4
  have e2 : ¬ cMemb (V 0) i m 2 = -9 := by
    rw [show cMemb (V 0) i m 2 = V 0 6 i from if_neg f4]; exact rn_in_ne w3.1 (by decide)
  have e7 : cMemb (V 0) i m 3 = V 0 8 i := if_pos (by rw [hst]; decide)
  have w5 : rn_in 257 (V 0 8 i) ∧ 2 ≤ ph := by
    rcases w3.2.2 with z | z | z
    · rw [hst] at z; exact absurd z (by decide)
    · rw [hst] at z; exact absurd z.2.1 (by decide)
    · exact ⟨z.2.2, z.1⟩
  have e3 : ¬ cMemb (V 0) i m 3 = -9 := by rw [e7]; exact rn_in_ne w5.1 (by decide)
  have e6 : cMemb (V 0) i m 3 ≤ 256 := by
    obtain ⟨v, hv, ev⟩ := w5.1
    rw [e7, ev]; exact nI_le (b := 256) (by omega) (by decide)
  have w4 : ph = 0 → ¬ 1 < V 0 5 i := fun q => by have := w5.2; omega
  have hN := p6 hst
  have e8 : ¬ nI t < nI (rj_N (V 0) i m) := nI_nlt (by omega) (by omega)
  have e9 : nI (rj_N (V 0) i m) = nI t := by rw [hN]
  have s1 : am_b (V 0) (i + 1) = am_b (V 0) i + 1 := by show am_b (V 0) i + rb_bi (0 < V 0 5 i) = _; rw [hst]; rfl
  have s2 : cCount (V 0) 2 (i + 1) = cCount (V 0) 2 i + 0 := by show cCount (V 0) 2 i + rb_bi (V 0 5 i = 2) = _; rw [hst]; rfl
  have s3 : cCount (V 0) 3 (i + 1) = cCount (V 0) 3 i + 1 := by show cCount (V 0) 3 i + rb_bi (V 0 5 i = 3) = _; rw [hst]; rfl
  have s4 : am_s (V 0) (i + 1) = am_s (V 0) i + V 0 2 i := rfl
  have s5 : rb_sum (fun i => V 0 3 i) (i + 1) = rb_sum (fun i => V 0 3 i) i + V 0 3 i := rfl
  try rw [Int32.add_zero] at s1
  try rw [Int32.add_zero] at s2
  try rw [Int32.add_zero] at s3
  rw [s1, s2, s3, s4, s5] at ih
  rw [r89_27]
  simp only [r89_29, r89_30, r89_31, r89_34, r89_37, r89_38, r89_40, r89_41, r89_44, r89_46, r89_48, r89_51, r89_52, r89_53, r89_54, r89_57, r89_58, r89_59, r89_61, r89_62, r89_65, r89_66, r89_67, r89_68, r89_71, r89_72, r89_73, r89_75, r89_76, r89_79, r89_81, r89_82, r89_83, r89_86, r89_88, r89_90, r89_92, r89_93, r89_95, r89_96, r89_99, r89_100, r89_102, r89_104, r89_105, r89_107, r89_108, r89_111, r89_112, r89_114, r89_115, r89_117, r89_118, hv_t0 h, m0, m1, m5, h2, if_neg f1, if_neg f2, if_pos f3, if_neg f4, if_pos f5, if_neg e2, if_neg e3, if_pos e6, if_neg e8, if_pos e9, if_neg hdep, if_neg h10, rb_sg_self, rb_sg_sg, List.length_cons, List.length_nil, Nat.reduceAdd, Nat.reduceLeDiff, Nat.reduceLT, Nat.zero_add, Option.toList_some, Option.toList_none, List.cons_append, List.nil_append, rb_bi_eq0, rb_bi_ne0, rb_okv0, rb_okv1, rb_okvb, ln0, ln1, ln2, ln3, ln4, ln5, ln6, ln7, ln8, ln9, ln10, if_true, if_false, ite_not, Decidable.not_not]
  refine am_in h hi (fun b11 b12 => ?_) _ _
  simp only [r89_236, r89_237, r89_239, r89_240, r89_243, r89_245, r89_248, r89_249, r89_252, r89_253, r89_255, r89_258, r89_259, r89_262, r89_263, r89_266, r89_267, r89_269, r89_270, r89_273, r89_275, r89_278, r89_279, r89_282, r89_283, r89_285, r89_286, r89_289, r89_290, r89_293, r89_294, r89_297, r89_299, r89_300, r89_302, r89_303, r89_306, r89_309, r89_311, r89_312, r89_313, r89_316, r89_319, r89_321, r89_322, r89_325, r89_326, r89_329, r89_330, r89_332, r89_333, r89_336, r89_338, r89_339, r89_340, r89_343, r89_346, r89_347, r89_350, r89_351, r89_354, r89_355, r89_358, r89_359, r89_361, r89_363, r89_366, r89_367, r89_369, r89_370, r89_373, hv_t1 h, m0, m2, m3, m4, if_neg f1, if_neg f2, if_pos f3, if_neg f4, if_pos f5, if_neg e2, if_neg e3, if_pos e6, if_neg e8, if_pos e9, if_neg hdep, if_neg h10, eq_self, rb_sg_self, rb_sg_sg, List.length_cons, List.length_nil, Nat.reduceAdd, Nat.reduceLeDiff, Nat.reduceLT, Nat.zero_add, Option.toList_some, Option.toList_none, List.cons_append, List.nil_append, rb_bi_eq0, rb_bi_ne0, rb_okv0, rb_okv1, rb_okvb, ln0, ln1, ln2, ln3, ln4, ln5, ln6, ln7, ln8, ln9, ln10, if_true, if_false, ite_not, Decidable.not_not]
  rw [am_ph hp3 w4 (am_n h hi), ← ih (some (.int (V 0 5 i)), some (.int (nI (rj_N (V 0) i m))), some (.int 1), b11, b12)]
  simp only [r89_396, r89_397, r89_399, r89_400, r89_403, r89_406, r89_409, r89_410, r89_411, r89_414, m3, if_pos e6, nI_1, rb_sg_self, rb_sg_sg, List.length_cons, List.length_nil, Nat.reduceAdd, Nat.reduceLeDiff, Nat.reduceLT, Nat.zero_add, Option.toList_some, Option.toList_none, List.cons_append, List.nil_append, rb_bi_eq0, rb_bi_ne0, rb_okv0, rb_okv1, rb_okvb, ln0, ln1, ln2, ln3, ln4, ln5, ln6, ln7, ln8, ln9, ln10, if_true, if_false, ite_not, Decidable.not_not]
theorem am_all (hB : B < 2 ^ 31) (h : rj_R S B V m t rd ph f n) : rb_G none 89 0 [some (.ref 0), none, none, none, none, none, none, none, none, none, none, none, none] [] (rb_W V) P ↔ P (some (.int 1)) (rb_W V) := by
  obtain ⟨hm, hm2, hm8⟩ := rj_m h
  have t6 := hv_told (k := 6) h (by decide) en6
  have t8 := hv_told (k := 8) h (by decide) en8
  have t9 := hv_told (k := 9) h (by decide) en9
  have t10 := hv_told (k := 10) h (by decide) en10
  have t12 := hv_told (k := 12) h (by decide) en12
  have t13 := hv_told (k := 13) h (by decide) en13
  rw [show cTold (V 0) m rd n 6 = am_s (V 0) 0 from rfl] at t6
  rw [show cTold (V 0) m rd n 8 = am_b (V 0) m from (am_bound h).symm] at t8
  rw [show cTold (V 0) m rd n 9 = cCount (V 0) 2 m from rfl] at t9
  rw [show cTold (V 0) m rd n 10 = cCount (V 0) 3 m from rfl] at t10
  rw [show cTold (V 0) m rd n 12 = am_s (V 0) m from (am_s_dep (V 0) m).symm] at t12
  rw [show cTold (V 0) m rd n 13 = rb_sum (fun i => V 0 3 i) m from (am_on h).symm] at t13
  simp only [r89_0, r89_1, r89_2, r89_5, r89_6, r89_7, r89_8, r89_9, r89_10, r89_11, r89_13, r89_14, r89_16, r89_19, r89_21, r89_22, r89_24, r89_25, hv_t4 h, t6, rb_sg_self, rb_sg_sg, List.length_cons, List.length_nil, Nat.reduceAdd, Nat.reduceLeDiff, Nat.reduceLT, Nat.zero_add, Option.toList_some, Option.toList_none, List.cons_append, List.nil_append, rb_bi_eq0, rb_bi_ne0, rb_okv0, rb_okv1, rb_okvb, ln0, ln1, ln2, ln3, ln4, ln5, ln6, ln7, ln8, ln9, ln10, if_true, if_false, ite_not, Decidable.not_not]
  have key := rb_loopR (α := Option Value × Option Value × Option Value × Option Value × Option Value) (Q := fun i a => rb_G none 89 27 [some (.ref 0), some (.int (nI ph)), some (.int (am_b (V 0) i)), some (.int (cCount (V 0) 2 i)), some (.int (cCount (V 0) 3 i)), some (.int (am_s (V 0) i)), some (.int (rb_sum (fun i => V 0 3 i) i)), some (.int (nI i)), a.1, a.2.1, a.2.2.1, a.2.2.2.1, a.2.2.2.2] [] (rb_W V) P) (R := P (some (.int 1)) (rb_W V)) m (fun a => by
    have h2 : nI m ≤ nI m := nI_le (Nat.le_refl m) (by omega)
    show rb_G none 89 27 _ _ _ _ ↔ _
    simp only [r89_27, r89_29, r89_30, r89_31, r89_34, r89_417, r89_418, r89_419, r89_421, r89_424, r89_427, r89_428, r89_429, r89_431, r89_434, r89_437, r89_439, r89_440, r89_442, r89_445, r89_448, r89_450, r89_451, r89_453, r89_456, r89_459, r89_461, r89_462, r89_464, r89_467, r89_470, r89_471, r89_474, r89_475, hv_t0 h, t8, t9, t10, t12, t13, h2, eq_self, rb_okv1, rb_sg_self, rb_sg_sg, List.length_cons, List.length_nil, Nat.reduceAdd, Nat.reduceLeDiff, Nat.reduceLT, Nat.zero_add, Option.toList_some, Option.toList_none, List.cons_append, List.nil_append, rb_bi_eq0, rb_bi_ne0, rb_okv0, rb_okv1, rb_okvb, ln0, ln1, ln2, ln3, ln4, ln5, ln6, ln7, ln8, ln9, ln10, if_true, if_false, ite_not, Decidable.not_not]) (fun i hi ih a => by
    rcases rj_st (h.2.1.1.2.1 i (by omega)) with q | q | q | q
    · exact am_st0 hB h hi q ih _ _ _ _ _
    · exact am_st1 hB h hi q ih _ _ _ _ _
    · exact am_st2 hB h hi q ih _ _ _ _ _
    · exact am_st3 hB h hi q ih _ _ _ _ _)
  exact key (none, none, none, none, none)
end RP
