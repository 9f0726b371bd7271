/-! THE LAW, 3: its loop -/
def lc_P : Option Value → rb_M → Prop := fun r M => r = some (.int 1) ∧ ∃ V U, M = rw_2 V U
section RL
variable {xs : List Int32} {S S' B m t rd ph f n turn : Nat} {V U : rb_V} {P : Option Value → rb_M → Prop}
theorem lw_low {x y : Int32} {M : rb_M} (hy : ¬ y = 0) (P : Option Value → rb_M → Prop) : rb_G (some xs) 50 0 [some (.int x), some (.int y)] [] M P ↔ P (some (.int (rl x y))) M := s_of (fun P => m_low hy) P
/-- behind the sum's check: the new sum, a member's influence -/
theorem lw_fin {v more a : Int32} {E1 E2 : Nat → Nat → Int32} {b3 : Option Value} (g : rj_R S B V m t rd ph f n)
    (K : ∀ (e1 : Nat → Nat → Int32) (a5 a6 a7 a8 a9 a10 a11 : Option Value), rb_G (some xs) 100 22 [some (.ref rb_scr), some (.ref 0), some (.ref 281), some (.int (nI S)), some (.int (nI (turn + 1))), a5, a6, a7, a8, a9, a10, a11] [] (rw_2 (rb_sg V 1 e1) (rb_sg V 1 E2)) P) (b8 b9 b10 b11 : Option Value) :
    rb_G (some xs) 100 148 [some (.ref rb_scr), some (.ref 0), some (.ref 281), b3, some (.int (nI turn)), some (.int v), some (.int more), some (.int a), b8, b9, b10, b11] [] (rw_2 (rb_sg V 1 E1) (rb_sg V 1 E2)) P := by
  obtain ⟨hm, hm2, hm8⟩ := rj_m g
  have hm0 : ¬ nI m = 0 := nI_ne0 (by omega) (by omega)
  have g1 := rj_R_1 E1 g
  have v1 : rb_sg V 1 E1 0 = V 0 := rb_sg_ne _ _ (by decide)
  obtain ⟨w, hw, ew⟩ := rl_in (x := more >>> ((4 : Int32) &&& 31)) (n := m) (by omega) (by omega)
  obtain ⟨x, E3, hif, hx⟩ := if_all g1 hw
  rw [rb_sg_sg] at hif
  rw [v1] at hx
  have g3 := rj_R_1 E3 g
  have v3 : rb_sg V 1 E3 0 = V 0 := rb_sg_ne _ _ (by decide)
  have t12 : ∀ P, rb_G (some xs) 10 0 [some (.ref 0), some (.int 12)] [] (rw_2 (rb_sg V 1 E1) (rb_sg V 1 E2)) P ↔ P (some (.int (nI S))) (rw_2 (rb_sg V 1 E1) (rb_sg V 1 E2)) := o_of (fun P => hv_t12 g1 P)
  have t0 : ∀ P, rb_G (some xs) 10 0 [some (.ref 0), some (.int 0)] [] (rw_2 (rb_sg V 1 E1) (rb_sg V 1 E2)) P ↔ P (some (.int (nI m))) (rw_2 (rb_sg V 1 E1) (rb_sg V 1 E2)) := o_of (fun P => hv_t0 g1 P)
  have hif2 : ∀ P, rb_G (some xs) 26 0 [some (.ref 0), some (.int (nI w))] [] (rw_2 (rb_sg V 1 E1) (rb_sg V 1 E2)) P ↔ P (some (.int x)) (rw_2 (rb_sg V 1 E3) (rb_sg V 1 E2)) := o_of hif
  have t4 : ∀ P, rb_G (some xs) 10 0 [some (.ref 0), some (.int 4)] [] (rw_2 (rb_sg V 1 E3) (rb_sg V 1 E2)) P ↔ P (some (.int (nI ph))) (rw_2 (rb_sg V 1 E3) (rb_sg V 1 E2)) := o_of (fun P => hv_t4 g3 P)
  have m1 : ∀ P, rb_G (some xs) 17 0 [some (.ref 0), some (.int (nI w)), some (.int 1)] [] (rw_2 (rb_sg V 1 E3) (rb_sg V 1 E2)) P ↔ P (some (.int (V 0 3 w))) (rw_2 (rb_sg V 1 E3) (rb_sg V 1 E2)) := o_of (fun P => by have := hv_memb g3 hw (by decide) en1 P; rw [v3] at this; exact this)
  have m5 : ∀ P, rb_G (some xs) 17 0 [some (.ref 0), some (.int (nI w)), some (.int 5)] [] (rw_2 (rb_sg V 1 E3) (rb_sg V 1 E2)) P ↔ P (some (.int (V 0 5 w))) (rw_2 (rb_sg V 1 E3) (rb_sg V 1 E2)) := o_of (fun P => by have := hv_memb g3 hw (by decide) en5 P; rw [v3] at this; exact this)
  have k1 := K E3
  rw [g.2.1.2.1] at hx
  have n01 : ¬ (0 : Int32) = 1 := by decide
  have n10 : ¬ (1 : Int32) = 0 := by decide
  have hb0 := rw_b0 (V := rb_sg V 1 E1) (U := rb_sg V 1 E2)
  have hb3 := rw_b0 (V := rb_sg V 1 E3) (U := rb_sg V 1 E2)
  rw [← nI_1] at k1
  by_cases c1 : nI ph = 1
  · by_cases c2 : V 0 3 w = 0
    · have hx2 : x = -2 := hx.mpr (fun z => by rw [c2] at z; exact absurd z.2.1 (by decide))
      simp only [r100_148, r100_148n, r100_149, r100_151, r100_154, r100_155, r100_157, r100_158, r100_159, r100_159n, r100_160, r100_161, r100_164, r100_167, r100_169, r100_169n, r100_170, r100_172, r100_175, r100_177, r100_179, r100_181, r100_184, r100_185, r100_188, r100_189, r100_189n, r100_190, r100_191, r100_194, r100_195, r100_198, r100_198n, r100_199, r100_201, r100_202, r100_205, r100_208, r100_208n, r100_209, r100_211, r100_212, r100_215, r100_216, r100_219, r100_220, r100_223, r100_224, r100_227, r100_228, r100_229, r100_232, hb0, hb3, t12, t0, lw_low hm0, ew, hif2, t4, m1, m5, if_pos c1, if_pos c2, if_pos hx2, eq_self, rb_sg_self, rb_sg_sg, List.length_cons, List.length_nil, Nat.reduceAdd, Nat.reduceLeDiff, Nat.reduceLT, Nat.zero_add, Option.toList_some, Option.toList_none, List.cons_append, List.nil_append, rb_bi_eq0, rb_bi_ne0, rb_okv0, rb_okv1, rb_okvb, ln0, ln1, ln2, ln3, ln4, ln5, ln6, ln7, ln8, ln9, ln10, if_true, if_false, ite_not, Decidable.not_not]
      exact k1 _ _ _ _ _ _ _
    · have c2' : V 0 3 w = 1 := (g.2.1.1.2.1 w (by omega)).1.resolve_left c2
      by_cases c3 : V 0 5 w = 1
      · have hx2 : ¬ x = -2 := fun z => (hx.mp z) ⟨c1, c2', c3⟩
        simp only [r100_148, r100_148n, r100_149, r100_151, r100_154, r100_155, r100_157, r100_158, r100_159, r100_159n, r100_160, r100_161, r100_164, r100_167, r100_169, r100_169n, r100_170, r100_172, r100_175, r100_177, r100_179, r100_181, r100_184, r100_185, r100_188, r100_189, r100_189n, r100_190, r100_191, r100_194, r100_195, r100_198, r100_198n, r100_199, r100_201, r100_202, r100_205, r100_208, r100_208n, r100_209, r100_211, r100_212, r100_215, r100_216, r100_219, r100_220, r100_223, r100_224, r100_227, r100_228, r100_229, r100_232, hb0, hb3, t12, t0, lw_low hm0, ew, hif2, t4, m1, m5, if_pos c1, if_neg c2, if_pos c3, if_neg hx2, eq_self, rb_sg_self, rb_sg_sg, List.length_cons, List.length_nil, Nat.reduceAdd, Nat.reduceLeDiff, Nat.reduceLT, Nat.zero_add, Option.toList_some, Option.toList_none, List.cons_append, List.nil_append, rb_bi_eq0, rb_bi_ne0, rb_okv0, rb_okv1, rb_okvb, ln0, ln1, ln2, ln3, ln4, ln5, ln6, ln7, ln8, ln9, ln10, if_true, if_false, ite_not, Decidable.not_not]
        exact k1 _ _ _ _ _ _ _
      · have hx2 : x = -2 := hx.mpr (fun z => c3 z.2.2)
        simp only [r100_148, r100_148n, r100_149, r100_151, r100_154, r100_155, r100_157, r100_158, r100_159, r100_159n, r100_160, r100_161, r100_164, r100_167, r100_169, r100_169n, r100_170, r100_172, r100_175, r100_177, r100_179, r100_181, r100_184, r100_185, r100_188, r100_189, r100_189n, r100_190, r100_191, r100_194, r100_195, r100_198, r100_198n, r100_199, r100_201, r100_202, r100_205, r100_208, r100_208n, r100_209, r100_211, r100_212, r100_215, r100_216, r100_219, r100_220, r100_223, r100_224, r100_227, r100_228, r100_229, r100_232, hb0, hb3, t12, t0, lw_low hm0, ew, hif2, t4, m1, m5, if_pos c1, if_neg c2, if_neg c3, if_pos hx2, eq_self, rb_sg_self, rb_sg_sg, List.length_cons, List.length_nil, Nat.reduceAdd, Nat.reduceLeDiff, Nat.reduceLT, Nat.zero_add, Option.toList_some, Option.toList_none, List.cons_append, List.nil_append, rb_bi_eq0, rb_bi_ne0, rb_okv0, rb_okv1, rb_okvb, ln0, ln1, ln2, ln3, ln4, ln5, ln6, ln7, ln8, ln9, ln10, if_true, if_false, ite_not, Decidable.not_not]
        exact k1 _ _ _ _ _ _ _
  · have hx2 : x = -2 := hx.mpr (fun z => c1 z.1)
    simp only [r100_148, r100_148n, r100_149, r100_151, r100_154, r100_155, r100_157, r100_158, r100_159, r100_159n, r100_160, r100_161, r100_164, r100_167, r100_169, r100_169n, r100_170, r100_172, r100_175, r100_177, r100_179, r100_181, r100_184, r100_185, r100_188, r100_189, r100_189n, r100_190, r100_191, r100_194, r100_195, r100_198, r100_198n, r100_199, r100_201, r100_202, r100_205, r100_208, r100_208n, r100_209, r100_211, r100_212, r100_215, r100_216, r100_219, r100_220, r100_223, r100_224, r100_227, r100_228, r100_229, r100_232, hb0, hb3, t12, t0, lw_low hm0, ew, hif2, t4, m1, m5, if_neg c1, if_pos hx2, eq_self, rb_sg_self, rb_sg_sg, List.length_cons, List.length_nil, Nat.reduceAdd, Nat.reduceLeDiff, Nat.reduceLT, Nat.zero_add, Option.toList_some, Option.toList_none, List.cons_append, List.nil_append, rb_bi_eq0, rb_bi_ne0, rb_okv0, rb_okv1, rb_okvb, ln0, ln1, ln2, ln3, ln4, ln5, ln6, ln7, ln8, ln9, ln10, if_true, if_false, ite_not, Decidable.not_not]
    exact k1 _ _ _ _ _ _ _
theorem lw_turn (hL : xs.length ≤ 260) (ht : turn < 40) (hS : rj_RS S (160 + 50 * turn) V) (e1 e2 : Nat → Nat → Int32)
    (K : ∀ (U : rb_V) (S' : Nat) (e1' : Nat → Nat → Int32) (a5 a6 a7 a8 a9 a10 a11 : Option Value), rj_RS S' (160 + 50 * (turn + 1)) U → rb_G (some xs) 100 22 [some (.ref rb_scr), some (.ref 0), some (.ref 281), some (.int (nI S')), some (.int (nI (turn + 1))), a5, a6, a7, a8, a9, a10, a11] [] (rw_2 (rb_sg U 1 e1') (rb_sg U 1 e2)) P) (a5 a6 a7 a8 a9 a10 a11 : Option Value) :
    rb_G (some xs) 100 22 [some (.ref rb_scr), some (.ref 0), some (.ref 281), some (.int (nI S)), some (.int (nI turn)), a5, a6, a7, a8, a9, a10, a11] [] (rw_2 (rb_sg V 1 e1) (rb_sg V 1 e2)) P := by
  obtain ⟨m, t, rd, ph, f, n, h⟩ := hS
  obtain ⟨v, hv⟩ := cl_cell (xs := xs) (M := rw_2 (rb_sg V 1 e1) (rb_sg V 1 e2)) rw_scr hL (k := 2 * turn) (by omega)
  obtain ⟨more, hmore⟩ := cl_cell (xs := xs) (M := rw_2 (rb_sg V 1 e1) (rb_sg V 1 e2)) rw_scr hL (k := 2 * turn + 1) (by omega)
  obtain ⟨a, U, S', hU, hs, h3⟩ := ch_change (v := v) (more := more) (by omega) (by omega) h
  have hU2 : rj_RS S' (160 + 50 * (turn + 1)) U := by rw [show 160 + 50 * (turn + 1) = 160 + 50 * turn + 50 by omega]; exact hU
  obtain ⟨m', t', rd', ph', f', n', g⟩ := hU2
  have g1 := rj_R_1 e1 g
  obtain ⟨E1, hio⟩ := io_all g1
  rw [rb_sg_sg] at hio
  have ho : ∀ P, rb_G (some xs) 51 0 [some (.ref 0), some (.int v), some (.int more), none, none, none, none] [] (rw_2 (rb_sg V 1 e1) (rb_sg V 1 e2)) P ↔ P (some (.int a)) (rw_2 (rb_sg U 1 e1) (rb_sg V 1 e2)) := o_of (h3 e1)
  have hq : ∀ P, rb_G (some xs) 51 0 [some (.ref 281), some (.int v), some (.int more), none, none, none, none] [] (rw_2 (rb_sg U 1 e1) (rb_sg V 1 e2)) P ↔ P (some (.int a)) (rw_2 (rb_sg U 1 e1) (rb_sg U 1 e2)) := q_of (h3 e2)
  have ham : ∀ P, rb_G (some xs) 89 0 [some (.ref 0), none, none, none, none, none, none, none, none, none, none, none, none] [] (rw_2 (rb_sg U 1 e1) (rb_sg U 1 e2)) P ↔ P (some (.int 1)) (rw_2 (rb_sg U 1 e1) (rb_sg U 1 e2)) := o_of (fun P => am_all (by omega) g1)
  have hio2 : ∀ P, rb_G (some xs) 92 0 [some (.ref 0), none, none, none, none, none] [] (rw_2 (rb_sg U 1 e1) (rb_sg U 1 e2)) P ↔ P (some (.int 1)) (rw_2 (rb_sg U 1 E1) (rb_sg U 1 e2)) := o_of hio
  have gE := rj_R_1 E1 g
  have t12 : ∀ P, rb_G (some xs) 10 0 [some (.ref 0), some (.int 12)] [] (rw_2 (rb_sg U 1 E1) (rb_sg U 1 e2)) P ↔ P (some (.int (nI S'))) (rw_2 (rb_sg U 1 E1) (rb_sg U 1 e2)) := o_of (fun P => hv_t12 gE P)
  have hb := rw_b0 (V := rb_sg U 1 E1) (U := rb_sg U 1 e2)
  have fin := lw_fin (xs := xs) (turn := turn) (v := v) (more := more) (a := a) (E1 := E1) (E2 := e2) (b3 := some (.int (nI S))) (P := P) g (fun e a5 a6 a7 a8 a9 a10 a11 => K U S' e a5 a6 a7 a8 a9 a10 a11 ⟨m', t', rd', ph', f', n', g⟩)
  have ek : (2 : Int32) * nI turn = nI (2 * turn) := pk_mul 2 turn
  have h2 : ¬ (40 : Int32) ≤ nI turn := nI_ge (b := 40) ht (by omega)
  have n10 : ¬ (1 : Int32) = 0 := by decide
  simp only [r100_22, r100_24, r100_26, r100_29, r100_30, r100_31, r100_33, r100_34, r100_37, r100_39, r100_40, r100_41, r100_43, r100_44, r100_45, r100_46, r100_49, r100_51, r100_51n, r100_52, r100_54, r100_56, r100_59, r100_61, r100_63, r100_63n, r100_64, r100_66, r100_68, r100_71, r100_74, r100_74n, r100_75, r100_78, r100_81, r100_81n, r100_82, r100_85, r100_88, r100_89, r100_90, r100_92, r100_94, r100_97, h2, ek, nI_1, hv, hmore, ho, hq, ham, hio2, lw_low nz24, if_neg n10, eq_self, rb_sg_self, rb_sg_sg, List.length_cons, List.length_nil, Nat.reduceAdd, Nat.reduceLeDiff, Nat.reduceLT, Nat.zero_add, Option.toList_some, Option.toList_none, List.cons_append, List.nil_append, rb_bi_eq0, rb_bi_ne0, rb_okv0, rb_okv1, rb_okvb, ln0, ln1, ln2, ln3, ln4, ln5, ln6, ln7, ln8, ln9, ln10, if_true, if_false, ite_not, Decidable.not_not]
  by_cases c0 : rl v 24 = 0
  · simp only [r100_99, r100_101, r100_104, r100_106, r100_107, r100_110, r100_112, r100_114, r100_117, r100_119, r100_121, r100_124, r100_125, r100_128, r100_129, r100_131, r100_133, if_pos c0, if_neg n10, rb_sg_self, rb_sg_sg, List.length_cons, List.length_nil, Nat.reduceAdd, Nat.reduceLeDiff, Nat.reduceLT, Nat.zero_add, Option.toList_some, Option.toList_none, List.cons_append, List.nil_append, rb_bi_eq0, rb_bi_ne0, rb_okv0, rb_okv1, rb_okvb, ln0, ln1, ln2, ln3, ln4, ln5, ln6, ln7, ln8, ln9, ln10, if_true, if_false, ite_not, Decidable.not_not]
    exact fin _ _ _ _
  · by_cases c3 : rl v 24 = 3
    · simp only [r100_99, r100_101, r100_104, r100_106, r100_107, r100_110, r100_112, r100_114, r100_117, r100_119, r100_121, r100_124, r100_125, r100_128, r100_129, r100_131, r100_133, if_neg c0, if_pos c3, if_neg n10, rb_sg_self, rb_sg_sg, List.length_cons, List.length_nil, Nat.reduceAdd, Nat.reduceLeDiff, Nat.reduceLT, Nat.zero_add, Option.toList_some, Option.toList_none, List.cons_append, List.nil_append, rb_bi_eq0, rb_bi_ne0, rb_okv0, rb_okv1, rb_okvb, ln0, ln1, ln2, ln3, ln4, ln5, ln6, ln7, ln8, ln9, ln10, if_true, if_false, ite_not, Decidable.not_not]
      exact fin _ _ _ _
    · by_cases c17 : rl v 24 = 17
      · simp only [r100_99, r100_101, r100_104, r100_106, r100_107, r100_110, r100_112, r100_114, r100_117, r100_119, r100_121, r100_124, r100_125, r100_128, r100_129, r100_131, r100_133, if_neg c0, if_neg c3, if_pos c17, if_neg n10, rb_sg_self, rb_sg_sg, List.length_cons, List.length_nil, Nat.reduceAdd, Nat.reduceLeDiff, Nat.reduceLT, Nat.zero_add, Option.toList_some, Option.toList_none, List.cons_append, List.nil_append, rb_bi_eq0, rb_bi_ne0, rb_okv0, rb_okv1, rb_okvb, ln0, ln1, ln2, ln3, ln4, ln5, ln6, ln7, ln8, ln9, ln10, if_true, if_false, ite_not, Decidable.not_not]
        exact fin _ _ _ _
      · by_cases c18 : rl v 24 = 18
        · simp only [r100_99, r100_101, r100_104, r100_106, r100_107, r100_110, r100_112, r100_114, r100_117, r100_119, r100_121, r100_124, r100_125, r100_128, r100_129, r100_131, r100_133, if_neg c0, if_neg c3, if_neg c17, if_pos c18, if_neg n10, rb_sg_self, rb_sg_sg, List.length_cons, List.length_nil, Nat.reduceAdd, Nat.reduceLeDiff, Nat.reduceLT, Nat.zero_add, Option.toList_some, Option.toList_none, List.cons_append, List.nil_append, rb_bi_eq0, rb_bi_ne0, rb_okv0, rb_okv1, rb_okvb, ln0, ln1, ln2, ln3, ln4, ln5, ln6, ln7, ln8, ln9, ln10, if_true, if_false, ite_not, Decidable.not_not]
          exact fin _ _ _ _
        · have e : S' = S := hs (fun z => z.elim c0 (fun z => z.elim c3 (fun z => z.elim c17 c18)))
          have e' : nI S' = nI S := by rw [e]
          simp only [r100_99, r100_101, r100_104, r100_106, r100_107, r100_110, r100_112, r100_114, r100_117, r100_119, r100_121, r100_124, r100_125, r100_128, r100_129, r100_131, r100_133, r100_136, r100_136n, r100_137, r100_139, r100_142, r100_143, hb, if_neg c0, if_neg c3, if_neg c17, if_neg c18, t12, if_pos e', rb_sg_self, rb_sg_sg, List.length_cons, List.length_nil, Nat.reduceAdd, Nat.reduceLeDiff, Nat.reduceLT, Nat.zero_add, Option.toList_some, Option.toList_none, List.cons_append, List.nil_append, rb_bi_eq0, rb_bi_ne0, rb_okv0, rb_okv1, rb_okvb, ln0, ln1, ln2, ln3, ln4, ln5, ln6, ln7, ln8, ln9, ln10, if_true, if_false, ite_not, Decidable.not_not]
          exact fin _ _ _ _
theorem lc_loop (hL : xs.length ≤ 260) : ∀ (d turn S : Nat) (V : rb_V) (e1 e2 : Nat → Nat → Int32) (a5 a6 a7 a8 a9 a10 a11 : Option Value), turn + d = 40 → rj_RS S (160 + 50 * turn) V → rb_G (some xs) 100 22 [some (.ref rb_scr), some (.ref 0), some (.ref 281), some (.int (nI S)), some (.int (nI turn)), a5, a6, a7, a8, a9, a10, a11] [] (rw_2 (rb_sg V 1 e1) (rb_sg V 1 e2)) lc_P := by
  intro d
  induction d with
  | zero =>
    intro turn S V e1 e2 a5 a6 a7 a8 a9 a10 a11 ht hS
    obtain ⟨m, t, rd, ph, f, n, h⟩ := hS
    have h2 : (40 : Int32) ≤ nI turn := nI_le (a := 40) (by omega) (by omega)
    simp only [r100_22, r100_24, r100_26, r100_235, r100_235n, r100_236, r100_236n, r100_237, r100_240, h2, al_all h, rb_okv1, rb_sg_self, rb_sg_sg, List.length_cons, List.length_nil, Nat.reduceAdd, Nat.reduceLeDiff, Nat.reduceLT, Nat.zero_add, Option.toList_some, Option.toList_none, List.cons_append, List.nil_append, rb_bi_eq0, rb_bi_ne0, rb_okv0, rb_okv1, rb_okvb, ln0, ln1, ln2, ln3, ln4, ln5, ln6, ln7, ln8, ln9, ln10, if_true, if_false, ite_not, Decidable.not_not]
    exact ⟨rfl, _, _, rfl⟩
  | succ d ih =>
    intro turn S V e1 e2 a5 a6 a7 a8 a9 a10 a11 ht hS
    exact lw_turn hL (by omega) hS e1 e2 (fun U S' e1' a5 a6 a7 a8 a9 a10 a11 hU => ih (turn + 1) S' U e1' e2 a5 a6 a7 a8 a9 a10 a11 (by omega) hU) a5 a6 a7 a8 a9 a10 a11
end RL
