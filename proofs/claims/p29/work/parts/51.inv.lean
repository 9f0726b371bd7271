/-! WHAT HOLDS OF A STATE, 2: pay-outs, the end of a phase, ticks, rounds -/
theorem rn_ct_x (c : Nat → Nat → Int32) (x : Int32) (m : Nat) : cCount c x m = nI (rn_ct (fun i => c 5 i = x) m) := rn_sum_bi (fun i => c 5 i = x) m
theorem cPayL_o (c : Nat → Nat → Int32) (q : Int32) {r j : Nat} (h : ¬ r = 2) (h2 : ¬ (r = 11 ∧ j = 6)) : ∀ k, cPayL c q k r j = c r j
  | 0 => rfl
  | k + 1 => by
    unfold cPayL
    split
    · rw [rb_u2_o h2, rb_u2_o (fun z => h z.1)]; exact cPayL_o c q h h2 k
    · exact cPayL_o c q h h2 k
theorem cPayL_2 (c : Nat → Nat → Int32) (q : Int32) : ∀ k j, cPayL c q k 2 j = if j < k ∧ c 5 j = 2 then c 2 j + q else c 2 j
  | 0, j => by rw [if_neg (fun z => Nat.not_lt_zero _ z.1)]; rfl
  | k + 1, j => by
    have ih := cPayL_2 c q k
    unfold cPayL
    rw [cPayL_o c q (by omega) (by omega) k]
    by_cases h : c 5 k = 2
    · rw [if_pos h, rb_u2_o (by omega), rb_u2_get]
      by_cases e : j = k
      · subst e
        rw [if_pos ⟨rfl, rfl⟩, ih j, if_neg (fun z => Nat.lt_irrefl _ z.1), if_pos ⟨Nat.lt_succ_self j, h⟩]
      · rw [if_neg (fun z => e z.2), ih j]
        by_cases h3 : j < k ∧ c 5 j = 2
        · rw [if_pos h3, if_pos ⟨by omega, h3.2⟩]
        · rw [if_neg h3, if_neg (fun z => h3 ⟨by omega, z.2⟩)]
    · rw [if_neg h, ih j]
      by_cases h3 : j < k ∧ c 5 j = 2
      · rw [if_pos h3, if_pos ⟨by omega, h3.2⟩]
      · rw [if_neg h3, if_neg (fun z => h3 ⟨by
          by_cases e : j = k
          · rw [e] at z; exact absurd z.2 h
          · omega, z.2⟩)]
theorem cPayL_6 (c : Nat → Nat → Int32) (q : Int32) : ∀ k, cPayL c q k 11 6 = c 11 6 - nI (rn_ct (fun i => c 5 i = 2) k) * q
  | 0 => by
    show c 11 6 = c 11 6 - nI 0 * q
    rw [nI_0, Int32.zero_mul, Int32.sub_zero]
  | k + 1 => by
    have ih := cPayL_6 c q k
    unfold cPayL rn_ct
    rw [cPayL_o c q (by omega) (by omega) k]
    by_cases h : c 5 k = 2
    · rw [if_pos h, if_pos h, rb_u2_at, ih, ← nI_1, Int32.add_mul, Int32.one_mul, Int32.sub_eq_add_neg, Int32.sub_eq_add_neg, Int32.sub_eq_add_neg, Int32.neg_add, Int32.sub_eq_add_neg]
      ac_rfl
    · rw [if_neg h, if_neg h, ih, Nat.add_zero]
theorem cStart_o {c : Nat → Nat → Int32} {rd r j : Nat} (h : ¬ r = 5) (h2 : ¬ r = 10) (h3 : ¬ (r = 1 ∧ j = rd)) (h4 : ¬ (r = 11 ∧ (j = 4 ∨ j = 5))) : cStart c rd r j = c r j := by
  unfold cStart cEnter
  rw [rb_u1_o j h2, rb_u1_o j h, rb_u2_o h3, rb_u2_o (by omega), rb_u2_o (by omega)]
theorem cStart_5 {c : Nat → Nat → Int32} {rd j : Nat} (h : j < 8) : cStart c rd 5 j = 0 := by
  unfold cStart
  rw [rb_u1_o j (by decide), rb_u1_s j rfl]
  exact if_pos h
theorem cStart_10 {c : Nat → Nat → Int32} {rd j : Nat} (h : j < 64) : cStart c rd 10 j = -9 := by
  unfold cStart
  rw [rb_u1_s j rfl]
  exact if_pos h
theorem cStart_1 {c : Nat → Nat → Int32} {rd : Nat} : cStart c rd 1 rd = -9 := by
  unfold cStart
  rw [rb_u1_o rd (by decide), rb_u1_o rd (by decide), rb_u2_at]
theorem cStart_11 {c : Nat → Nat → Int32} {rd j : Nat} (h : j = 4 ∨ j = 5) : cStart c rd 11 j = 0 := by
  unfold cStart cEnter
  rw [rb_u1_o j (by decide), rb_u1_o j (by decide), rb_u2_o (by omega)]
  by_cases h1 : j = 5
  · exact rb_u2_s ⟨rfl, h1⟩
  · rw [rb_u2_o (by omega)]
    exact rb_u2_s ⟨rfl, by omega⟩
section RJ
variable {S m t rd ph ph' i o : Nat} {c c' : Nat → Nat → Int32}
theorem rj_sN_pay (D : Nat → Nat) (q : Nat) (p : Nat → Prop) [DecidablePred p] : ∀ n, rj_sN (fun i => if p i then D i + q else D i) n = rj_sN D n + rn_ct p n * q
  | 0 => by rw [show rn_ct p 0 = 0 from rfl, Nat.zero_mul]; rfl
  | n + 1 => by
    show rj_sN (fun i => if p i then D i + q else D i) n + (if p n then D n + q else D n) = rj_sN D n + D n + (rn_ct p n + (if p n then 1 else 0)) * q
    rw [rj_sN_pay D q p n, Nat.add_mul]
    by_cases h : p n
    · rw [if_pos h, if_pos h, Nat.one_mul]; omega
    · rw [if_neg h, if_neg h, Nat.zero_mul]; omega
theorem rj_sN_cg {D D' : Nat → Nat} : ∀ {n}, (∀ i, i < n → D i = D' i) → rj_sN D n = rj_sN D' n
  | 0, _ => rfl
  | n + 1, h => by
    show rj_sN D n + D n = rj_sN D' n + D' n
    rw [rj_sN_cg (fun i hi => h i (by omega)), h n (by omega)]
theorem cPay_o {r j : Nat} (h2 : ¬ r = 2) (h6 : ¬ (r = 11 ∧ j = 6)) : cPay c m r j = c r j := by
  unfold cPay
  split
  · rfl
  · exact cPayL_o c _ h2 h6 m
theorem rj_payD (hm8 : m ≤ 8) (hS : S < 2 ^ 31) (h : rj_D S m c) : rj_D S m (cPay c m) := by
  have hc : cCount c 2 m = nI (rn_ct (fun i => c 5 i = 2) m) := rn_ct_x c 2 m
  have hb := rn_ct_le (fun i => c 5 i = 2) m
  unfold cPay
  split
  · exact h
  · rename_i h1
    rw [hc] at h1 ⊢
    have h0 : 0 < rn_ct (fun i => c 5 i = 2) m := Nat.pos_of_ne_zero fun z => h1 (by rw [z]; decide)
    obtain ⟨D, p, h2, h6, hs⟩ := h
    have hp : p < 2 ^ 31 := by omega
    have eq : c 11 6 / nI (rn_ct (fun i => c 5 i = 2) m) = nI (p / rn_ct (fun i => c 5 i = 2) m) := by rw [h6, pk_div hp h0 (by omega)]
    rw [eq]
    have hq : rn_ct (fun i => c 5 i = 2) m * (p / rn_ct (fun i => c 5 i = 2) m) ≤ p := Nat.mul_div_le p _
    generalize hr : rn_ct (fun i => c 5 i = 2) m = r at hb h0 hq
    generalize p / r = q at hq
    refine ⟨fun i => if c 5 i = 2 then D i + q else D i, p - r * q, fun i hi => ?_, ?_, ?_⟩
    · rw [cPayL_2, h2 i hi]
      show _ = nI (if c 5 i = 2 then D i + q else D i)
      by_cases h5 : c 5 i = 2
      · rw [if_pos ⟨hi, h5⟩, if_pos h5, nI_add]
      · rw [if_neg (fun z => h5 z.2), if_neg h5]
    · rw [cPayL_6, h6, hr, pk_mul, pk_sub hq]
    · rw [rj_sN_pay D q (fun i => c 5 i = 2) m, hr]; omega
theorem rj_enterS {x : Int32} (hp : ph ≤ ph') (h : rj_S m t rd ph c) : rj_S m t rd ph' (cEnter c x) := rj_S_k hp (fun k hk => cEnter_11 c x k (by omega) (by omega)) (fun r j h1 h2 => by unfold cEnter; rw [rb_u2_o (by omega), rb_u2_o (by omega)]) h
theorem rj_enter {p : Nat} (hp : p ≤ 3) (hpp : ph ≤ p) (h1 : p < 3 → c 1 rd = -9) (h : rj_S m t rd ph c) (hD : rj_D S m c) : rj_T S m t rd p (cEnter c (nI p)) := by
  refine ⟨rj_enterS hpp h, cEnter_4 _ _, hp, fun q => ?_, rj_D_k (fun i _ => ?_) ?_ hD⟩
  · unfold cEnter; rw [rb_u2_o (by omega), rb_u2_o (by omega), h1 q]
  · unfold cEnter; rw [rb_u2_o (by omega), rb_u2_o (by omega)]
  · exact cEnter_11 c _ 6 (by decide) (by decide)
theorem rj_close (hph : ph ≤ 3) (hS : S < 2 ^ 31) (h : rj_S m t rd ph c) (hD : rj_D S m c) : rj_T S m t rd 3 (cClose c m rd) := by
  have hm8 : m ≤ 8 := h.1.2.2.1
  have s1 : rj_S m t rd 3 (cEnter c 3) := rj_enterS hph h
  have d1 : rj_D S m (cEnter c 3) := rj_D_k (fun i _ => by unfold cEnter; rw [rb_u2_o (by omega), rb_u2_o (by omega)]) (cEnter_11 c _ 6 (by decide) (by decide)) hD
  have s2 : rj_S m t rd 3 (cPay (cEnter c 3) m) := rj_S_k (Nat.le_refl _) (fun k hk => cPay_o (by omega) (by omega)) (fun r j h1 h2 => cPay_o (by omega) (by omega)) s1
  have d2 := rj_payD hm8 hS d1
  have e4 : cPay (cEnter c 3) m 11 4 = 3 := by rw [cPay_o (by omega) (by omega), cEnter_4]
  unfold cClose
  refine ⟨rj_S_k (Nat.le_refl _) (fun k hk => rb_u2_o (by omega)) (fun r j h1 h2 => rb_u2_o (by omega)) s2, ?_, by decide, fun q => absurd q (by decide), rj_D_k (fun i _ => rb_u2_o (by omega)) (rb_u2_o (by omega)) d2⟩
  rw [rb_u2_o (by omega), e4]; rfl
theorem rj_end (hph : ph ≤ 2) (hS : S < 2 ^ 31) (h : rj_T S m t rd ph c) : ∃ p, rj_T S m t rd p (cEndP c m rd) := by
  obtain ⟨hs, h4, -, h1, hD⟩ := h
  have hm8 : m ≤ 8 := hs.1.2.2.1
  have o1 := h1 (by omega)
  unfold cEndP
  rw [h4]
  rcases (by omega : ph = 0 ∨ ph = 1 ∨ ph = 2) with rfl | rfl | rfl
  · rw [if_pos nI_0]
    unfold cEnd0
    by_cases q : 2 ≤ cBound c m
    · rw [if_pos q]; exact ⟨1, rj_enter (p := 1) (by decide) (by decide) (fun _ => o1) hs hD⟩
    · rw [if_neg q]; exact ⟨3, rj_enter (p := 3) (by decide) (by decide) (fun _ => o1) hs hD⟩
  · rw [if_neg (show ¬ nI 1 = 0 by decide), if_pos (show nI 1 = 1 from rfl)]
    have s2 := rj_fineSs hs m
    have d2 := rj_fineSD hS (hs.1.2.2.2.2.2.2.2.2.2 3 (by decide)) hD m (Nat.le_refl m)
    have o2 : cFineS c m 1 rd = -9 := by rw [cFineS_o (by omega) (by omega) (by omega), o1]
    unfold cEnd1
    split
    · exact ⟨3, rj_close (by decide) hS s2 d2⟩
    · exact ⟨2, rj_enter (p := 2) (by decide) (by decide) (fun _ => o2) s2 d2⟩
  · rw [if_neg (show ¬ nI 2 = 0 by decide), if_neg (show ¬ nI 2 = 1 by decide)]
    exact ⟨3, rj_close (by decide) hS hs hD⟩
theorem rj_time (h : rj_T S m t rd ph c) : rj_T S m t rd ph (cTime c) := rj_T_k (fun k hk => cTime_11 c k (by omega) (by omega)) (fun r j h1 _ => by rw [cTime_row c r (by omega)]) h
theorem rj_pass (hS : S < 2 ^ 31) (h : rj_T S m t rd ph c) : ∃ p, rj_T S m t rd p (cPass c m rd ph) := by
  have ht := rj_time h
  have hp3 := h.2.2.1
  unfold cPass
  by_cases q : ph = 3
  · rw [if_pos q]; exact ⟨ph, ht⟩
  · rw [if_neg q]
    by_cases q2 : c 11 5 + 1 < c 0 ph
    · rw [if_pos q2]; exact ⟨ph, ht⟩
    · rw [if_neg q2]; exact rj_end (by omega) hS ht
theorem rj_ticks (hS : S < 2 ^ 31) (h : rj_T S m t rd ph c) : ∀ k, ∃ p, rj_T S m t rd p (cTicks c m rd k)
  | 0 => ⟨ph, h⟩
  | k + 1 => by
    obtain ⟨p, hp⟩ := rj_ticks hS h k
    have e1 : (cTicks c m rd k 11 4).toNatClampNeg = p := by rw [hp.2.1]; exact nI_clamp (by have := hp.2.2.1; omega)
    unfold cTicks
    rw [e1]
    exact rj_pass hS hp
theorem rj_start (hH : rj_H m t rd c) (h3 : ∀ i, i < 8 → c 3 i = 0 ∨ c 3 i = 1) (hD : rj_D S m c) : rj_T S m t rd 0 (cStart c rd) := by
  have hm8 : m ≤ 8 := hH.2.2.1
  have c5 : ∀ {o : Nat}, o < 8 → cStart c rd 5 o = 0 := fun h => cStart_5 h
  refine ⟨⟨rj_H_k (fun k hk => cStart_o (by omega) (by omega) (by omega) (by omega)) (fun j hj => cStart_o (by omega) (by omega) (by omega) (by omega)) hH, fun i hi => ⟨?_, Or.inl (c5 hi)⟩, fun o ho => ⟨fun j hj => Or.inl (cStart_10 (by omega)), fun q => absurd (c5 ho) q, fun _ j hj => cStart_10 (by omega), fun q => ?_, fun q => ?_, fun q => ?_⟩⟩, ?_, by decide, fun _ => cStart_1, rj_D_k (fun i _ => cStart_o (by omega) (by omega) (by omega) (by omega)) (cStart_o (by omega) (by omega) (by omega) (by omega)) hD⟩
  · rw [cStart_o (by omega) (by omega) (by omega) (by omega)]; exact h3 i hi
  · rw [c5 ho] at q; exact absurd q (by decide)
  · rw [c5 ho] at q; exact absurd q (by decide)
  · rw [c5 ho] at q; exact absurd q (by decide)
  · rw [cStart_11 (Or.inl rfl)]; rfl
theorem rj_next (hr : rd + 1 < 30) (h : rj_T S m t rd ph c) : rj_T S m t (rd + 1) 0 (cStart (rb_u2 c 11 3 (nI (rd + 1))) (rd + 1)) := by
  obtain ⟨⟨hH, hM, hP⟩, h4, hp3, h1, hD⟩ := h
  obtain ⟨b0, b1, b2, b3, b4, b5, b6, b7, b8, b9⟩ := hH
  have co : ∀ {r j : Nat}, ¬ (r = 11 ∧ j = 3) → rb_u2 c 11 3 (nI (rd + 1)) r j = c r j := fun h1 => rb_u2_o h1
  refine rj_start ⟨by rw [co (by omega), b0], b1, b2, by rw [co (by omega), b3], b4, b5, rb_u2_at, hr, by rw [co (by omega)]; exact b8, fun j hj => by rw [co (by omega)]; exact b9 j hj⟩ (fun i hi => by rw [co (by omega)]; exact (hM i hi).1) (rj_D_k (fun i _ => co (by omega)) (co (by omega)) hD)
theorem rj_sN_20 : ∀ n, rj_sN (fun _ => 20) n = 20 * n
  | 0 => rfl
  | n + 1 => by show rj_sN (fun _ => 20) n + 20 = 20 * (n + 1); rw [rj_sN_20 n]; omega
theorem rj_begin (hm2 : 2 ≤ m) (hm8 : m ≤ 8) (ht1 : 1 ≤ t) (htm : t ≤ m) (hs : rn_in (2 ^ 31) (c 11 7)) (h0 : ∀ j, j < 6 → rn_in 21 (c 0 j)) : rj_T (20 * m) m t 0 0 (cRest c (nI m) (nI t)) := by
  unfold cRest
  have co : ∀ {r j : Nat}, ¬ r = 2 → ¬ r = 3 → ¬ r = 4 → ∀ d : Nat → Nat → Int32, ∀ f g h, rb_u1 (rb_u1 (rb_u1 d 2 f) 3 g) 4 h r j = d r j := fun {r j} h1 h2 h3 d f g h => by rw [rb_u1_o j h3, rb_u1_o j h2, rb_u1_o j h1]
  refine rj_start ⟨?_, hm2, hm8, ?_, ht1, htm, ?_, by decide, ?_, fun j hj => ?_⟩ (fun i hi => ?_) ⟨fun _ => 20, 0, fun i hi => ?_, ?_, by rw [rj_sN_20]; rfl⟩
  · rw [co (by decide) (by decide) (by decide), rb_u2_o (by decide), rb_u2_o (by decide), rb_u2_o (by decide), rb_u2_o (by decide), rb_u2_at]
  · rw [co (by decide) (by decide) (by decide), rb_u2_o (by decide), rb_u2_o (by decide), rb_u2_o (by decide), rb_u2_at]
  · rw [co (by decide) (by decide) (by decide), rb_u2_o (by decide), rb_u2_at]; rfl
  · rw [co (by decide) (by decide) (by decide), rb_u2_o (by decide), rb_u2_o (by decide), rb_u2_o (by decide), rb_u2_o (by decide), rb_u2_o (by decide)]; exact hs
  · rw [co (by decide) (by decide) (by decide), rb_u2_o (by omega), rb_u2_o (by omega), rb_u2_o (by omega), rb_u2_o (by omega), rb_u2_o (by omega)]; exact h0 j hj
  · rw [rb_u1_o i (show ¬ 3 = 4 by decide), rb_u1_s i (r' := 3) rfl]
    exact Or.inr (if_pos hi)
  · rw [rb_u1_o i (show ¬ 2 = 4 by decide), rb_u1_o i (show ¬ 2 = 3 by decide), rb_u1_s i (r' := 2) rfl]
    exact if_pos (show i < 8 by omega)
  · rw [co (by decide) (by decide) (by decide), rb_u2_at]; rfl
end RJ
