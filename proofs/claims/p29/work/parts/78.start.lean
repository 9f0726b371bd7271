/-! THE START, 7: the pieces put together -/
section RG
variable {sc : Option (List Int32)} {k k' pc pc' n n1 : Nat} {ls ls' : rb_L} {st st' as rest : List Value} {M M' : rb_M} {P : Option Value → rb_M → Prop}
theorem rg_chunk (hc : rb_isC (rb_chunk n k pc ls st M) pc' ls' st' M' = true) (h : rb_G sc k pc' ls' st' M' P) : rb_G sc k pc ls st M P := by
  obtain ⟨f, r, M1, h1, h2⟩ := h
  exact ⟨f + n, r, M1, rb_chunk_ok h1 n pc ls st M (rb_isC_eq hc), h2⟩
theorem rg_call {lk : rb_L} (hc : rb_isL k pc ls st M n1 k' as rest = true) (he : rb_ent k' as = lk) (h : rb_G sc k' 0 lk [] M (fun r M1 => M1.length = n1 ∧ rb_G sc k (pc + 3) ls (r.toList ++ rest) M1 P)) : rb_G sc k pc ls st M P := by
  subst he
  obtain ⟨f1, r1, M1, h1, hn, f2, r, M2, h2, hP⟩ := h
  exact ⟨max f1 f2 + 1, r, M2, rb_call_ok hc hn (rb_fuel h1 (Nat.le_max_left _ _)) (rb_fuel h2 (Nat.le_max_right _ _)), hP⟩
theorem rg_run (hc : rb_isM (rb_ex2 n none k pc ls st M) M' = true) (h : P none M') : rb_G none k pc ls st M P := ⟨n, none, M', by rw [← rb_ex2_eq]; exact rb_isM_eq hc, h⟩
end RG
theorem re_1 {k : Nat} {a : Value} (h : rb_ml k = 1) : rb_ent k [a] = [some a] := by unfold rb_ent; rw [h]; rfl
theorem re_2 {k : Nat} {a : Value} (h : rb_ml k = 2) : rb_ent k [a] = [some a, none] := by unfold rb_ent; rw [h]; rfl
theorem le_b : rb_Mb.length = 24 := by decide +kernel
theorem le_d : rb_Md.length = 47 := by decide +kernel
theorem le_f : rb_Mf.length = 233 := by decide +kernel
theorem le_h : rb_Mh.length = 257 := by decide +kernel
theorem le_j : rb_Mj.length = 281 := by decide +kernel
theorem le_l : rs_Ml.length = 281 := by decide +kernel
theorem le_z : ∀ i, i < 8 → (rb_hz i).length = 72 + 23 * i := by decide +kernel
section RG
variable {P : Option Value → rb_M → Prop}
theorem ct_X0 (h : P none rb_Mf) : rb_G none 4 0 [some (.ref 47), none] [] rb_Me P := by
  refine rg_chunk sh_c0 (rg_call sh_l0 (re_1 ml_1) (rg_run sh_r0 ⟨le_z 0 (by decide), ?_⟩))
  refine rg_chunk sh_c1 (rg_call sh_l1 (re_1 ml_1) (rg_run sh_r1 ⟨le_z 1 (by decide), ?_⟩))
  refine rg_chunk sh_c2 (rg_call sh_l2 (re_1 ml_1) (rg_run sh_r2 ⟨le_z 2 (by decide), ?_⟩))
  refine rg_chunk sh_c3 (rg_call sh_l3 (re_1 ml_1) (rg_run sh_r3 ⟨le_z 3 (by decide), ?_⟩))
  refine rg_chunk sh_c4 (rg_call sh_l4 (re_1 ml_1) (rg_run sh_r4 ⟨le_z 4 (by decide), ?_⟩))
  refine rg_chunk sh_c5 (rg_call sh_l5 (re_1 ml_1) (rg_run sh_r5 ⟨le_z 5 (by decide), ?_⟩))
  refine rg_chunk sh_c6 (rg_call sh_l6 (re_1 ml_1) (rg_run sh_r6 ⟨le_z 6 (by decide), ?_⟩))
  refine rg_chunk sh_c7 (rg_call sh_l7 (re_1 ml_1) (rg_run sh_r7 ⟨le_z 7 (by decide), ?_⟩))
  refine rg_chunk sh_c8 ?_
  exact (g_vret (show decode (rb_by 4) 43 = .ok (.return_, 1) by decide +kernel) rt_4).mpr h
theorem ct_X4 (h : P none rs_Ml) : rb_G none 0 0 [some (.ref 0)] [] [.inl (4, rb_df 4)] P := by
  refine rg_chunk st_c0 (rg_call st_l0 (re_1 ml_1) (rg_run st_r0 ⟨le_b, ?_⟩))
  refine rg_chunk st_c1 (rg_call st_l1 (re_1 ml_1) (rg_run st_r1 ⟨le_d, ?_⟩))
  refine rg_chunk st_c2 (rg_call st_l2 (re_2 ml_4) (ct_X0 ⟨le_f, ?_⟩))
  refine rg_chunk st_c3 (rg_call st_l3 (re_1 ml_5) (rg_run st_r3 ⟨le_h, ?_⟩))
  refine rg_chunk st_c4 (rg_call st_l4 (re_1 ml_5) (rg_run st_r4 ⟨le_j, ?_⟩))
  refine rg_chunk st_c5 (rg_call st_l5 (lk := [some (.ref 1), some (.int 3), some (.int 2)]) (by unfold rb_ent; rw [ml_6]; rfl) (rg_run st_r5 ⟨le_l, ?_⟩))
  exact (g_vret (show decode (rb_by 0) 68 = .ok (.return_, 1) by decide +kernel) rt_0).mpr h
end RG
theorem ct_det (P : Option Value → rb_M → Prop) : rb_G none 0 0 [some (.ref 0)] [] [.inl (4, rb_df 4)] P ↔ P none (rb_W rs_Wa) := rb_G_det (ct_X4 ⟨rfl, rfl⟩) P
/-- the first object -/
theorem ct_o {sc : Option (List Int32)} (P : Option Value → rb_M → Prop) : rb_G sc 0 0 [some (.ref 0)] [] [.inl (4, rb_df 4)] P ↔ P none (rb_W rs_Wa) := by
  have := ro_G (sc := sc) (B := []) (C := []) (fun i _ => rfl) ct_det (Or.inl ⟨rfl, by rw [rb_W_len]; decide⟩) P
  have e : ∀ M, ro_Big [] M [] = M := fun M => by
    unfold ro_Big
    rw [List.nil_append, List.append_nil, List.length_nil, ro_M_0]
  rw [e, e, List.length_nil, ro_L_0, ro_r_0] at this
  exact this
/-- the second one, behind it -/
theorem ct_q {sc : Option (List Int32)} (P : Option Value → rb_M → Prop) : rb_G sc 0 0 [some (.ref 281)] [] (rb_W rs_Wa ++ [.inl (4, rb_df 4)]) P ↔ P none (rw_2 rs_Wa rs_Wa) := by
  have := ro_G (sc := sc) (B := rb_W rs_Wa) (C := []) (rw_clo rs_Wa) ct_det (Or.inl ⟨rfl, by rw [rb_W_len]; decide⟩) P
  rw [rw_q, rb_W_len] at this
  have e : ro_Big (rb_W rs_Wa) [.inl (4, rb_df 4)] [] = rb_W rs_Wa ++ [.inl (4, rb_df 4)] := by
    unfold ro_Big
    rw [List.append_nil]
    show rb_W rs_Wa ++ [(.inl (4, (rb_df 4).map (ro_v (rb_W rs_Wa).length)) : rb_O)] = _
    rw [ro_df _ (show 4 < 5 by decide)]
  rw [e] at this
  exact this
theorem rs_start0 : rj_RS 60 160 rs_Wa := by
  have e0 : rs_Wa 0 = cRest rb_V1 (nI 3) (nI 2) := rfl
  refine ⟨3, 2, 0, 0, 0, 0, by decide, ?_, rfl, by decide, rfl, by decide, fun k hk => absurd hk (Nat.not_lt_zero k), Or.inl rfl, Or.inl rfl⟩
  rw [e0]
  refine rj_begin (m := 3) (t := 2) (by decide) (by decide) (by decide) (by decide) ⟨1, by decide, rfl⟩ (fun j hj => ?_)
  rcases (by omega : j = 0 ∨ j = 1 ∨ j = 2 ∨ j = 3 ∨ j = 4 ∨ j = 5) with rfl | rfl | rfl | rfl | rfl | rfl
  · exact ⟨4, by decide, rfl⟩
  · exact ⟨4, by decide, rfl⟩
  · exact ⟨4, by decide, rfl⟩
  · exact ⟨5, by decide, rfl⟩
  · exact ⟨3, by decide, rfl⟩
  · exact ⟨0, by decide, rfl⟩
/-- the law, run: on every script of at most 260 ints it answers 1 -/
theorem lc_all (xs : List Int32) (hL : xs.length ≤ 260) : rb_G (some xs) 100 0 [some (.ref rb_scr), none, none, none, none, none, none, none, none, none, none, none] [] [] lc_P := by
  refine rg_chunk sl_c0 (rg_call sl_l0 (re_1 ml_0) ((ct_o _).mpr ⟨rb_W_len _, ?_⟩))
  refine rg_chunk sl_c1 (rg_call sl_l1 (re_1 ml_0) ((ct_q _).mpr ⟨rw_len, ?_⟩))
  have h3 := g_astore_n (sc := some xs) (k := 100) (pc := 15) (ls := [some (.ref rb_scr), some (.ref 0), none, none, none, none, none, none, none, none, none, none]) (st := []) (M := rw_2 rs_Wa rs_Wa) (P := lc_P) (x := 281) (j := 2) (show decode (rb_by 100) 15 = .ok (.astore_n 2, 1) by decide +kernel) (by decide +kernel) (by decide) rfl
  refine h3.mpr ?_
  have key := lc_loop hL 40 0 60 rs_Wa (rs_Wa 1) (rs_Wa 1) none none none none none none none (by decide) rs_start0
  rw [rb_sg_id, nI_0, show nI 60 = 60 from rfl] at key
  show rb_G (some xs) 100 16 [some (.ref rb_scr), some (.ref 0), some (.ref 281), none, none, none, none, none, none, none, none, none] [] (rw_2 rs_Wa rs_Wa) lc_P
  simp only [r100_16, r100_18, r100_19, r100_20, rb_sg_self, rb_sg_sg, List.length_cons, List.length_nil, Nat.reduceAdd, Nat.reduceLeDiff, Nat.reduceLT, Nat.zero_add, Option.toList_some, Option.toList_none, List.cons_append, List.nil_append, rb_bi_eq0, rb_bi_ne0, rb_okv0, rb_okv1, rb_okvb, ln0, ln1, ln2, ln3, ln4, ln5, ln6, ln7, ln8, ln9, ln10, if_true, if_false, ite_not, Decidable.not_not]
  exact key
