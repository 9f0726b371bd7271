/-! PAY-OUTS, THE END OF A PHASE, TICKS -/
theorem cPayL_o (c : Nat → Nat → Int32) (q : Int32) {r j : Nat} (h : ¬ r = 2) (h2 : ¬ (r = 11 ∧ j = 6)) : ∀ k, cPayL c q k r j = c r j
  | 0 => rfl
  | k + 1 => by
    unfold cPayL
    split
    · rw [rb_u2_o h2, rb_u2_o (fun z => h z.1)]; exact cPayL_o c q h h2 k
    · exact cPayL_o c q h h2 k
theorem cPayL_2 (c : Nat → Nat → Int32) (q : Int32) : ∀ k j, cPayL c q k 2 j = if j < k ∧ c 5 j = 2 then c 2 j + q else c 2 j
  | 0, j => by rw [if_neg (fun z => Nat.not_lt_zero _ z.1)]; rfl
  | k + 1, j => by
    have ih := cPayL_2 c q k
    unfold cPayL
    rw [cPayL_o c q (by omega) (by omega) k]
    by_cases h : c 5 k = 2
    · rw [if_pos h, rb_u2_o (by omega), rb_u2_get]
      by_cases e : j = k
      · subst e
        rw [if_pos ⟨rfl, rfl⟩, ih j, if_neg (fun z => Nat.lt_irrefl _ z.1), if_pos ⟨Nat.lt_succ_self j, h⟩]
      · rw [if_neg (fun z => e z.2), ih j]
        by_cases h3 : j < k ∧ c 5 j = 2
        · rw [if_pos h3, if_pos ⟨by omega, h3.2⟩]
        · rw [if_neg h3, if_neg (fun z => h3 ⟨by omega, z.2⟩)]
    · rw [if_neg h, ih j]
      by_cases h3 : j < k ∧ c 5 j = 2
      · rw [if_pos h3, if_pos ⟨by omega, h3.2⟩]
      · rw [if_neg h3, if_neg (fun z => h3 ⟨by
          by_cases e : j = k
          · rw [e] at z; exact absurd z.2 h
          · omega, z.2⟩)]
theorem cPayL_6 (c : Nat → Nat → Int32) (q : Int32) : ∀ k, cPayL c q k 11 6 = c 11 6 - nI (rn_ct (fun i => c 5 i = 2) k) * q
  | 0 => by
    show c 11 6 = c 11 6 - nI 0 * q
    rw [nI_0, Int32.zero_mul, Int32.sub_zero]
  | k + 1 => by
    have ih := cPayL_6 c q k
    unfold cPayL rn_ct
    rw [cPayL_o c q (by omega) (by omega) k]
    by_cases h : c 5 k = 2
    · rw [if_pos h, if_pos h, rb_u2_at, ih, ← nI_1, Int32.add_mul, Int32.one_mul, Int32.sub_eq_add_neg, Int32.sub_eq_add_neg, Int32.sub_eq_add_neg, Int32.neg_add, Int32.sub_eq_add_neg]
      ac_rfl
    · rw [if_neg h, if_neg h, ih, Nat.add_zero]
theorem wPayL_15 (W : Nat → Nat → Int32) (q : Int32) {j : Nat} (hj : j < 8) : ∀ k, k ≤ 8 → wPayL W q k 1 (15 + j) = if j < k then W 1 (15 + j) + (if W 1 (47 + j) = -9 then 0 else q) else W 1 (15 + j)
  | 0, _ => by rw [if_neg (Nat.not_lt_zero _)]; rfl
  | k + 1, hk => by
    have ih := wPayL_15 W q hj k (by omega)
    unfold wPayL
    rw [rb_u2_get]
    by_cases e : j = k
    · subst e
      rw [if_pos ⟨rfl, rfl⟩, ih, if_neg (Nat.lt_irrefl j), wPayL_ne W q (47 + j) (by omega) j (by omega), if_pos (show j < j + 1 by omega)]
    · rw [if_neg (fun z => by omega), ih]
      by_cases h : j < k
      · rw [if_pos h, if_pos (show j < k + 1 by omega)]
      · rw [if_neg h, if_neg (show ¬ j < k + 1 by omega)]
section RS
variable {m t rd ph : Nat} {c W : Nat → Nat → Int32} {i : Nat}
theorem rs_pay (h : rs_S m t rd ph c (W 1)) (h6 : W 1 6 = c 11 6) : rs_S m t rd ph (cPay c m) (wPay W m 1) ∧ wPay W m 1 6 = cPay c m 11 6 := by
  obtain ⟨hH, hA, hM, hP⟩ := h
  have hm8 : m ≤ 8 := hH.2.2.1
  have hrd : rd < 30 := hH.2.2.2.2.2.2.2.1
  have hn : wN W 47 m = cCount c 2 m := rs_n47 fun i hi => hM i (by omega)
  have hc : cCount c 2 m = nI (rn_ct (fun i => c 5 i = 2) m) := rn_ct_x c 2 m
  have hb := rn_ct_le (fun i => c 5 i = 2) m
  by_cases h0 : rn_ct (fun i => c 5 i = 2) m = 0
  · have e1 : cPay c m = c := by
      unfold cPay
      rw [if_pos]
      rw [hc, h0]; decide
    have e2 : wPay W m = W := by
      unfold wPay
      rw [if_pos]
      rw [hn, hc, h0]; rfl
    rw [e1, e2]
    exact ⟨⟨hH, hA, hM, hP⟩, h6⟩
  · have e1 : cPay c m = cPayL c (c 11 6 / cCount c 2 m) m := by
      unfold cPay
      rw [if_neg]
      rw [hc]
      exact fun z => h0 (by have := (nI_ltI (b := 1) (by omega) (by decide)).mp z; omega)
    have e2 : wPay W m = rb_u2 (wPayL W (wPayQ W m) m) 1 6 (wPayL W (wPayQ W m) m 1 6 - wN W 47 m * wPayQ W m) := by
      unfold wPay
      rw [if_neg]
      rw [hn, hc]
      exact nI_ne0 (by omega) (by omega)
    have eq : wPayQ W m = c 11 6 / cCount c 2 m := by unfold wPayQ; rw [h6, hn]
    rw [e1, e2, eq]
    generalize c 11 6 / cCount c 2 m = q
    have co : ∀ {r j : Nat}, ¬ r = 2 → ¬ (r = 11 ∧ j = 6) → cPayL c q m r j = c r j := fun h1 h2 => cPayL_o c q h1 h2 m
    have wo : ∀ {k : Nat} {v : Int32}, ¬ k = 6 → (k < 15 ∨ 23 ≤ k) → rb_u2 (wPayL W q m) 1 6 v 1 k = W 1 k := fun h1 h2 => by
      rw [rb_u2_o (fun z => h1 z.2), wPayL_ne W q _ h2 m hm8]
    refine ⟨⟨?_, ?_, fun j hj => ?_, fun o ho => ?_⟩, ?_⟩
    · exact rs_H_k (co (by omega) (by omega)) (co (by omega) (by omega)) (co (by omega) (by omega)) (co (by omega) (by omega)) hH
    · exact rs_A_k (fun k h1 h2 => co (by omega) (by omega)) (fun k h1 h2 => wo (by omega) (by omega)) (wo (by omega) (by omega)) (fun j hj => wo (by omega) (by omega)) (fun k hk => wo (by omega) (by omega)) (fun j hj => co (by omega) (by omega)) (fun k hk => co (by omega) (by omega)) hA
    · obtain ⟨a1, a2, a3, a4, a5⟩ := hM j hj
      refine ⟨?_, ?_, ?_, ?_, rs_B_k (co (by omega) (by omega)) (co (by omega) (by omega)) (co (by omega) (by omega)) (co (by omega) (by omega)) (wo (by omega) (by omega)) (wo (by omega) (by omega)) (wo (by omega) (by omega)) (wo (by omega) (by omega)) id a5⟩
      · rw [rb_u2_o (by omega), wPayL_15 W q hj m hm8, cPayL_2]
        have e := rs_rev (hM j hj)
        by_cases z : j < m
        · rw [if_pos z, a1]
          by_cases y : c 5 j = 2
          · rw [if_pos (show j < m ∧ c 5 j = 2 from ⟨z, y⟩), if_neg (fun x => (e.mp x) y)]
          · rw [if_neg (show ¬ (j < m ∧ c 5 j = 2) from fun x => y x.2), if_pos (e.mpr y), Int32.add_zero]
        · rw [if_neg z, if_neg (fun x => z x.1), a1]
      · rw [wo (by omega) (by omega), co (by omega) (by omega), a2]
      · rw [co (by omega) (by omega)]; exact a3
      · rw [wo (by omega) (by omega), co (by omega) (by omega), a4]
    · exact rs_P_k (co (by omega) (by omega)) (fun k h1 h2 => co (by omega) (by omega)) (fun k h1 h2 => co (by omega) (by omega)) (fun k hk => wo (by omega) (by omega)) hm8 (hP o ho)
    · rw [rb_u2_at, wPayL_ne W q 6 (by decide) m hm8, h6, cPayL_6, hn, hc]
theorem rs_S_out (v : Int32) (h : rs_S m t rd ph c (W 1)) : rs_S m t rd ph (rb_u2 c 1 rd v) (rb_u2 W 1 8 v 1) := by
  obtain ⟨hH, hA, hM, hP⟩ := h
  have hm8 : m ≤ 8 := hH.2.2.1
  have hrd : rd < 30 := hH.2.2.2.2.2.2.2.1
  have co : ∀ {r j : Nat}, ¬ (r = 1 ∧ j = rd) → rb_u2 c 1 rd v r j = c r j := fun h1 => rb_u2_o h1
  have wo : ∀ {k : Nat}, ¬ k = 8 → rb_u2 W 1 8 v 1 k = W 1 k := fun h1 => rb_u2_o (fun z => h1 z.2)
  obtain ⟨a0, a1, a2, a3, a7, a8, as, ap⟩ := hA
  refine ⟨rs_H_k (co (by omega)) (co (by omega)) (co (by omega)) (co (by omega)) hH, ⟨?_, ?_, ?_, ?_, ?_, ?_, fun j hj => ?_, fun k hk => ?_⟩, fun j hj => rs_M_k (fun r h1 h2 => co (by omega)) (fun k h1 h2 h3 => wo (by omega)) id hj (hM j hj), fun o ho => rs_P_k (co (by omega)) (fun k h1 h2 => co (by omega)) (fun k h1 h2 => co (by omega)) (fun k hk => wo (by omega)) hm8 (hP o ho)⟩
  · rw [wo (by decide), co (by omega), a0]
  · rw [wo (by decide), co (by omega), a1]
  · rw [wo (by decide), co (by omega), a2]
  · rw [wo (by decide), co (by omega), a3]
  · rw [wo (by decide), co (by omega), a7]
  · rw [rb_u2_at, rb_u2_at]
  · rw [wo (by omega), co (by omega), as j hj]
  · rw [wo (by omega), co (by omega), ap k hk]
theorem rs_close (h : rs_S m t rd ph c (W 1)) (h5 : W 1 5 = 0) (h6 : W 1 6 = c 11 6) : rs_T m t rd 3 (cClose c m rd) (wShut W m 1) := by
  have hm8 : m ≤ 8 := h.1.2.2.1
  have s1 : rs_S m t rd 3 (cEnter c 3) (W 1) := rs_S_k (fun k h1 h2 => cEnter_11 c 3 k (fun z => h2 (Or.inl z)) (fun z => h2 (Or.inr (Or.inl z)))) (fun r hr j => by unfold cEnter; rw [rb_u2_o (by omega), rb_u2_o (by omega)]) (fun _ _ _ => rfl) (fun _ => by decide) h
  have s6 : W 1 6 = cEnter c 3 11 6 := by rw [cEnter_11 c 3 6 (by decide) (by decide)]; exact h6
  obtain ⟨s2, s26⟩ := rs_pay s1 s6
  have s3 : rs_S m t rd 3 (cPay (cEnter c 3) m) (rb_u2 (wPay W m) 1 4 3 1) := rs_S_k (fun _ _ _ => rfl) (fun _ _ _ => rfl) (fun k h1 h2 => rb_u2_o (fun z => h2 (Or.inl z.2))) id s2
  have eo : wOut (rb_u2 (wPay W m) 1 4 3) m = cOut (cPay (cEnter c 3) m) m := rs_out (fun i hi => s3.2.2.1 i (by omega)) (s3.2.1.2.2.2.2.2.2.1 5 (by decide))
  have s4 := rs_S_out (cOut (cPay (cEnter c 3) m) m) s3
  unfold cClose wShut
  rw [eo]
  have e4 : cPay (cEnter c 3) m 11 4 = 3 := by rw [cPay_11 _ _ _ (by decide), cEnter_4]
  have e5 : cPay (cEnter c 3) m 11 5 = 0 := by rw [cPay_11 _ _ _ (by decide)]; unfold cEnter; rw [rb_u2_at]
  refine ⟨s4, ?_, by decide, ?_, ?_, ?_⟩
  · rw [rb_u2_o (by omega), e4]; rfl
  · rw [rb_u2_o (by omega), rb_u2_at, rb_u2_o (by omega), e4]
  · rw [rb_u2_o (by omega), rb_u2_o (by omega), rb_u2_o (by omega), e5, wPay_ne W m hm8 5 (by decide), h5]
  · rw [rb_u2_o (by omega), rb_u2_o (by omega), rb_u2_o (by omega), s26]
theorem rs_enter {p : Nat} (hp : p ≤ 3) (hpp : 2 ≤ ph → 2 ≤ p) (h : rs_S m t rd ph c (W 1)) (h5 : W 1 5 = 0) (h6 : W 1 6 = c 11 6) : rs_T m t rd p (cEnter c (nI p)) (rb_u2 W 1 4 (nI p) 1) := by
  have e5 : cEnter c (nI p) 11 5 = 0 := by unfold cEnter; rw [rb_u2_at]
  refine ⟨rs_S_k (fun k h1 h2 => cEnter_11 c _ k (fun z => h2 (Or.inl z)) (fun z => h2 (Or.inr (Or.inl z)))) (fun r hr j => by unfold cEnter; rw [rb_u2_o (by omega), rb_u2_o (by omega)]) (fun k h1 h2 => rb_u2_o (fun z => h2 (Or.inl z.2))) hpp h, cEnter_4 _ _, hp, ?_, ?_, ?_⟩
  · rw [rb_u2_at, cEnter_4]
  · rw [rb_u2_o (by omega), e5, h5]
  · rw [rb_u2_o (by omega), cEnter_11 _ _ _ (by decide) (by decide), h6]
theorem rs_end (hph : ph ≤ 2) (h : rs_T m t rd ph c (W 1)) : ∃ p, rs_T m t rd p (cEndP c m rd) (wEnd W m 1) := by
  obtain ⟨hS, h4, -, w4, w5, w6⟩ := h
  have hm8 : m ≤ 8 := hS.1.2.2.1
  have sE : rs_S m t rd ph c (rb_u2 W 1 5 0 1) := rs_S_k (fun _ _ _ => rfl) (fun _ _ _ => rfl) (fun k h1 h2 => rb_u2_o (fun z => h2 (Or.inr (Or.inl z.2)))) id hS
  have E5 : rb_u2 W 1 5 0 1 5 = 0 := rb_u2_at
  have E6 : rb_u2 W 1 5 0 1 6 = c 11 6 := by rw [rb_u2_o (by omega)]; exact w6
  unfold cEndP wEnd
  rw [w4, h4]
  generalize rb_u2 W 1 5 0 = E at sE E5 E6
  rcases (by omega : ph = 0 ∨ ph = 1 ∨ ph = 2) with rfl | rfl | rfl
  · rw [if_pos nI_0, if_pos nI_0]
    unfold cEnd0
    rw [rs_n31 (W := E) (c := c) (fun i hi => sE.2.2.1 i (by omega))]
    by_cases q : 2 ≤ cBound c m
    · rw [if_pos q]; exact ⟨1, rs_enter (p := 1) (by decide) (by decide) sE E5 E6⟩
    · rw [if_neg q]; exact ⟨3, rs_enter (p := 3) (by decide) (by decide) sE E5 E6⟩
  · have z0 : ¬ nI 1 = 0 := by decide
    rw [if_neg z0, if_neg z0, if_pos (show nI 1 = 1 from rfl), if_pos (show nI 1 = 1 from rfl)]
    obtain ⟨sF, F6⟩ := rs_fineS (by decide) sE E6 m hm8
    have F5 : wFineS E m 1 5 = 0 := by rw [wFineS_ne E 5 (by decide) m hm8]; exact E5
    unfold cEnd1
    generalize wFineS E m = F at sF F6 F5
    generalize cFineS c m = d at sF F6
    have hb : wN F 31 m = cBound d m := rs_n31 fun i hi => sF.2.2.1 i (by omega)
    have hr : wN F 47 m = cCount d 2 m := rs_n47 fun i hi => sF.2.2.1 i (by omega)
    have h3 : rn_ct (fun i => d 5 i = 3) m = 0 := rn_ct_zero.mpr fun i hi z => by
      rcases rs_st (sF.2.2.1 i (by omega)) with y | y | y | y
      · rw [z] at y; exact absurd y (by decide)
      · rw [z] at y; exact absurd y (by decide)
      · rw [z] at y; exact absurd y (by decide)
      · exact absurd y.2 (by decide)
    have b1 := rn_ct_le (fun i => d 5 i = 1) m
    have b2 := rn_ct_le (fun i => d 5 i = 2) m
    have e1 : cBound d m = nI (rn_ct (fun i => d 5 i = 1) m + rn_ct (fun i => d 5 i = 2) m) := by
      unfold cBound
      rw [rn_ct_x, rn_ct_x, rn_ct_x, h3, nI_add, nI_add, Nat.add_zero]
    have e2 : cCount d 1 m ≤ 0 ↔ wN F 47 m = wN F 31 m := by
      rw [hb, hr, e1, rn_ct_x, rn_ct_x, nI_eq (by omega) (by omega)]
      have := nI_leI (a := rn_ct (fun i => d 5 i = 1) m) (b := 0) (by omega) (by decide)
      rw [nI_0] at this
      rw [this]
      omega
    by_cases q : cCount d 1 m ≤ 0
    · rw [if_pos q, if_pos (e2.mp q)]; exact ⟨3, rs_close sF F5 F6⟩
    · rw [if_neg q, if_neg (fun z => q (e2.mpr z))]; exact ⟨2, rs_enter (p := 2) (by decide) (by decide) sF F5 F6⟩
  · have z0 : ¬ nI 2 = 0 := by decide
    have z1 : ¬ nI 2 = 1 := by decide
    rw [if_neg z0, if_neg z0, if_neg z1, if_neg z1]
    exact ⟨3, rs_close sE E5 E6⟩
theorem rs_time (h : rs_T m t rd ph c (W 1)) : rs_T m t rd ph (cTime c) (wTime W 1) := by
  obtain ⟨⟨hH, hA, hM, hP⟩, h4, hp3, w4, w5, w6⟩ := h
  have hm8 : m ≤ 8 := hH.2.2.1
  have co : ∀ {r j : Nat}, ¬ (r = 11 ∧ (j = 2 ∨ j = 5)) → cTime c r j = c r j := fun h1 => by unfold cTime; rw [rb_u2_o (by omega), rb_u2_o (by omega)]
  have wo : ∀ {k : Nat}, ¬ k = 2 → ¬ k = 5 → wTime W 1 k = W 1 k := fun h1 h2 => by unfold wTime; rw [rb_u2_o (by omega), rb_u2_o (by omega)]
  obtain ⟨a0, a1, a2, a3, a7, a8, as, ap⟩ := hA
  refine ⟨⟨rs_H_k (co (by omega)) (co (by omega)) (co (by omega)) (co (by omega)) hH, ⟨?_, ?_, ?_, ?_, ?_, ?_, fun j hj => ?_, fun k hk => ?_⟩, fun j hj => rs_M_k (fun r h1 h2 => co (by omega)) (fun k h1 h2 h3 => wo (by omega) (by omega)) id hj (hM j hj), fun o ho => rs_P_k (co (by omega)) (fun k h1 h2 => co (by omega)) (fun k h1 h2 => co (by omega)) (fun k hk => wo (by omega) (by omega)) hm8 (hP o ho)⟩, ?_, hp3, ?_, ?_, ?_⟩
  · rw [wo (by decide) (by decide), co (by omega), a0]
  · rw [wo (by decide) (by decide), co (by omega), a1]
  · unfold cTime wTime
    rw [rb_u2_o (by omega), rb_u2_at, rb_u2_o (by omega), rb_u2_at, a2]
  · rw [wo (by decide) (by decide), co (by omega), a3]
  · rw [wo (by decide) (by decide), co (by omega), a7]
  · rw [wo (by decide) (by decide), co (by omega), a8]
  · rw [wo (by omega) (by omega), co (by omega), as j hj]
  · rw [wo (by omega) (by omega), co (by omega), ap k hk]
  · rw [co (by omega), h4]
  · rw [wo (by decide) (by decide), co (by omega), w4]
  · unfold cTime wTime
    rw [rb_u2_at, rb_u2_at, w5]
  · rw [wo (by decide) (by decide), co (by omega), w6]
theorem rs_pass (h : rs_T m t rd ph c (W 1)) : ∃ p, rs_T m t rd p (cPass c m rd ph) (wTick W m ph 1) := by
  have ht := rs_time h
  have hp3 := h.2.2.1
  have hs : W 1 (9 + ph) = c 0 ph := h.1.2.1.2.2.2.2.2.2.1 ph (by omega)
  unfold cPass wTick
  rw [hs, h.2.2.2.2.1]
  by_cases q : ph = 3
  · rw [if_pos q, if_pos q]; exact ⟨ph, ht⟩
  · rw [if_neg q, if_neg q]
    by_cases q2 : c 11 5 + 1 < c 0 ph
    · rw [if_pos q2, if_pos q2]; exact ⟨ph, ht⟩
    · rw [if_neg q2, if_neg q2]; exact rs_end (by omega) ht
theorem rs_ticks (h : rs_T m t rd ph c (W 1)) : ∀ k, ∃ p, rs_T m t rd p (cTicks c m rd k) (wTicks W m k 1)
  | 0 => ⟨ph, h⟩
  | k + 1 => by
    obtain ⟨p, hp⟩ := rs_ticks h k
    have e1 : (cTicks c m rd k 11 4).toNatClampNeg = p := by rw [hp.2.1]; exact nI_clamp (by have := hp.2.2.1; omega)
    have e2 : (wTicks W m k 1 4).toNatClampNeg = p := by rw [hp.2.2.2.1]; exact e1
    unfold cTicks wTicks
    rw [e1, e2]
    exact rs_pass hp
end RS
