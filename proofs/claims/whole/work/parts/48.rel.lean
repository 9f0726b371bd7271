/-! A NEW ROUND, A NEW BEACON -/
section RW
variable {W : Nat → Nat → Int32} {k : Nat}
theorem wRA_out : ∀ n, ¬ ((31 ≤ k ∧ k < 31 + n) ∨ (39 ≤ k ∧ k < 39 + n) ∨ (47 ≤ k ∧ k < 47 + n) ∨ (55 ≤ k ∧ k < 55 + n)) → wRA W n 1 k = W 1 k
  | 0, _ => rfl
  | n + 1, h => by
    unfold wRA
    rw [rb_u2_o (by omega), rb_u2_o (by omega), rb_u2_o (by omega), rb_u2_o (by omega)]
    exact wRA_out n (by omega)
theorem wRA_in : ∀ n, ((31 ≤ k ∧ k < 31 + n) ∨ (39 ≤ k ∧ k < 39 + n) ∨ (47 ≤ k ∧ k < 47 + n) ∨ (55 ≤ k ∧ k < 55 + n)) → wRA W n 1 k = -9
  | 0, h => by omega
  | n + 1, h => by
    unfold wRA
    by_cases h1 : k = 55 + n
    · exact rb_u2_s ⟨rfl, h1⟩
    · rw [rb_u2_o (by omega)]
      by_cases h2 : k = 47 + n
      · exact rb_u2_s ⟨rfl, h2⟩
      · rw [rb_u2_o (by omega)]
        by_cases h3 : k = 39 + n
        · exact rb_u2_s ⟨rfl, h3⟩
        · rw [rb_u2_o (by omega)]
          by_cases h4 : k = 31 + n
          · exact rb_u2_s ⟨rfl, h4⟩
          · rw [rb_u2_o (by omega)]
            exact wRA_in n (by omega)
theorem wRB_out : ∀ n, ¬ ((71 ≤ k ∧ k < 71 + n) ∨ (135 ≤ k ∧ k < 135 + n)) → wRB W n 1 k = W 1 k
  | 0, _ => rfl
  | n + 1, h => by
    unfold wRB
    rw [rb_u2_o (by omega), rb_u2_o (by omega)]
    exact wRB_out n (by omega)
theorem wRB_in : ∀ n, ((71 ≤ k ∧ k < 71 + n) ∨ (135 ≤ k ∧ k < 135 + n)) → wRB W n 1 k = -9
  | 0, h => by omega
  | n + 1, h => by
    unfold wRB
    by_cases h1 : k = 135 + n
    · exact rb_u2_s ⟨rfl, h1⟩
    · rw [rb_u2_o (by omega)]
      by_cases h2 : k = 71 + n
      · exact rb_u2_s ⟨rfl, h2⟩
      · rw [rb_u2_o (by omega)]
        exact wRB_in n (by omega)
theorem wRound_lo (h : k < 31 ∨ (63 ≤ k ∧ k < 71) ∨ 199 ≤ k) (h2 : ¬ (k = 4 ∨ k = 5 ∨ k = 8)) : wRound W 1 k = W 1 k := by
  unfold wRound
  rw [wRB_out 64 (by omega), wRA_out 8 (by omega)]
  unfold wR0
  rw [rb_u2_o (by omega), rb_u2_o (by omega), rb_u2_o (by omega)]
theorem wRound_9 (h : (31 ≤ k ∧ k < 63) ∨ (71 ≤ k ∧ k < 199) ∨ k = 8) : wRound W 1 k = -9 := by
  unfold wRound
  by_cases h1 : 71 ≤ k ∧ k < 199
  · exact wRB_in 64 (by omega)
  · rw [wRB_out 64 (by omega)]
    by_cases h2 : 31 ≤ k ∧ k < 63
    · exact wRA_in 8 (by omega)
    · rw [wRA_out 8 (by omega)]
      unfold wR0
      exact rb_u2_s ⟨rfl, by omega⟩
theorem wRound_0 (h : k = 4 ∨ k = 5) : wRound W 1 k = 0 := by
  unfold wRound
  rw [wRB_out 64 (by omega), wRA_out 8 (by omega)]
  unfold wR0
  rw [rb_u2_o (by omega)]
  by_cases h1 : k = 5
  · exact rb_u2_s ⟨rfl, h1⟩
  · rw [rb_u2_o (by omega)]
    exact rb_u2_s ⟨rfl, by omega⟩
end RW
section RS
variable {m t rd ph : Nat} {c W : Nat → Nat → Int32} {i : Nat}
theorem cStart_o {r j : Nat} (h : ¬ r = 5) (h2 : ¬ r = 10) (h3 : ¬ (r = 1 ∧ j = rd)) (h4 : ¬ (r = 11 ∧ (j = 4 ∨ j = 5))) : cStart c rd r j = c r j := by
  unfold cStart cEnter
  rw [rb_u1_o j h2, rb_u1_o j h, rb_u2_o h3, rb_u2_o (by omega), rb_u2_o (by omega)]
theorem cStart_5 {j : Nat} (h : j < 8) : cStart c rd 5 j = 0 := by
  unfold cStart
  rw [rb_u1_o j (by decide), rb_u1_s j rfl]
  exact if_pos h
theorem cStart_10 {j : Nat} (h : j < 64) : cStart c rd 10 j = -9 := by
  unfold cStart
  rw [rb_u1_s j rfl]
  exact if_pos h
theorem cStart_1 : cStart c rd 1 rd = -9 := by
  unfold cStart
  rw [rb_u1_o rd (by decide), rb_u1_o rd (by decide), rb_u2_at]
theorem cStart_11 {j : Nat} (h : j = 4 ∨ j = 5) : cStart c rd 11 j = 0 := by
  unfold cStart cEnter
  rw [rb_u1_o j (by decide), rb_u1_o j (by decide), rb_u2_o (by omega)]
  by_cases h1 : j = 5
  · exact rb_u2_s ⟨rfl, h1⟩
  · rw [rb_u2_o (by omega)]
    exact rb_u2_s ⟨rfl, by omega⟩
def rs_Q (rd : Nat) (c : Nat → Nat → Int32) (w : Nat → Int32) : Prop := w 0 = c 11 0 ∧ w 1 = c 11 1 ∧ w 2 = c 11 2 ∧ w 3 = c 11 3 ∧ w 6 = c 11 6 ∧ w 7 = c 11 7 ∧ (∀ j, j < 6 → w (9 + j) = c 0 j) ∧ (∀ k, k < rd → w (199 + k) = c 1 k) ∧ (∀ i, i < 8 → w (15 + i) = c 2 i ∧ w (23 + i) = c 3 i ∧ (c 3 i = 0 ∨ c 3 i = 1) ∧ w (63 + i) = c 4 i)
theorem rs_start (hH : rs_H m t rd c) (hQ : rs_Q rd c (W 1)) : rs_T m t rd 0 (cStart c rd) (wRound W 1) := by
  obtain ⟨a0, a1, a2, a3, a6, a7, as, ap, am⟩ := hQ
  have hm8 : m ≤ 8 := hH.2.2.1
  have hrd : rd < 30 := hH.2.2.2.2.2.2.2.1
  have c5 : ∀ {o : Nat}, o < 8 → cStart c rd 5 o = 0 := fun h => cStart_5 h
  have n1 : ¬ (0 : Int32) = 1 := by decide
  refine ⟨⟨rs_H_k (cStart_o (by omega) (by omega) (by omega) (by omega)) (cStart_o (by omega) (by omega) (by omega) (by omega)) (cStart_o (by omega) (by omega) (by omega) (by omega)) (cStart_o (by omega) (by omega) (by omega) (by omega)) hH, ⟨?_, ?_, ?_, ?_, ?_, ?_, fun j hj => ?_, fun k hk => ?_⟩, fun j hj => ?_, fun o ho => ⟨fun j hj => ?_, fun j hj => ?_, fun q => ?_, fun q => ?_, fun q j hj => ?_⟩⟩, ?_, by decide, ?_, ?_, ?_⟩
  · rw [wRound_lo (by omega) (by omega), cStart_o (by omega) (by omega) (by omega) (by omega), a0]
  · rw [wRound_lo (by omega) (by omega), cStart_o (by omega) (by omega) (by omega) (by omega), a1]
  · rw [wRound_lo (by omega) (by omega), cStart_o (by omega) (by omega) (by omega) (by omega), a2]
  · rw [wRound_lo (by omega) (by omega), cStart_o (by omega) (by omega) (by omega) (by omega), a3]
  · rw [wRound_lo (by omega) (by omega), cStart_o (by omega) (by omega) (by omega) (by omega), a7]
  · rw [wRound_9 (by omega), cStart_1]
  · rw [wRound_lo (by omega) (by omega), cStart_o (by omega) (by omega) (by omega) (by omega), as j hj]
  · rw [wRound_lo (by omega) (by omega), cStart_o (by omega) (by omega) (by omega) (by omega), ap k hk]
  · obtain ⟨b1, b2, b3, b4⟩ := am j hj
    refine ⟨?_, ?_, ?_, ?_, Or.inl ⟨c5 hj, wRound_9 (by omega), wRound_9 (by omega), wRound_9 (by omega)⟩⟩
    · rw [wRound_lo (by omega) (by omega), cStart_o (by omega) (by omega) (by omega) (by omega), b1]
    · rw [wRound_lo (by omega) (by omega), cStart_o (by omega) (by omega) (by omega) (by omega), b2]
    · rw [cStart_o (by omega) (by omega) (by omega) (by omega)]; exact b3
    · rw [wRound_lo (by omega) (by omega), cStart_o (by omega) (by omega) (by omega) (by omega), b4]
  · rw [wRound_9 (by omega), cStart_10 (by omega)]
  · exact Or.inl (cStart_10 (by omega))
  · exact absurd (c5 ho) q
  · rw [c5 ho] at q; exact absurd q n1
  · exact cStart_10 (by omega)
  · rw [cStart_11 (Or.inl rfl)]; rfl
  · rw [wRound_0 (Or.inl rfl), cStart_11 (Or.inl rfl)]
  · rw [wRound_0 (Or.inr rfl), cStart_11 (Or.inr rfl)]
  · rw [wRound_lo (by omega) (by omega), cStart_o (by omega) (by omega) (by omega) (by omega), a6]
theorem rs_next (hr : rd + 1 < 30) (h : rs_T m t rd ph c (W 1)) : rs_T m t (rd + 1) 0 (cStart (rb_u2 c 11 3 (nI (rd + 1))) (rd + 1)) (wNext W rd 1) := by
  obtain ⟨⟨hH, hA, hM, hP⟩, h4, hp3, w4, w5, w6⟩ := h
  obtain ⟨a0, a1, a2, a3, a7, a8, as, ap⟩ := hA
  obtain ⟨b0, b1, b2, b3, b4, b5, b6, b7, b8⟩ := hH
  unfold wNext
  have co : ∀ {r j : Nat}, ¬ (r = 11 ∧ j = 3) → rb_u2 c 11 3 (nI (rd + 1)) r j = c r j := fun h1 => rb_u2_o h1
  have wo : ∀ {k : Nat}, ¬ k = 3 → ¬ k = 199 + rd → rb_u2 (rb_u2 W 1 (199 + rd) (W 1 8)) 1 3 (nI (rd + 1)) 1 k = W 1 k := fun h1 h2 => by rw [rb_u2_o (by omega), rb_u2_o (by omega)]
  refine rs_start ⟨?_, b1, b2, ?_, b4, b5, rb_u2_at, hr, ?_⟩ ⟨?_, ?_, ?_, ?_, ?_, ?_, fun j hj => ?_, fun k hk => ?_, fun i hi => ⟨?_, ?_, ?_, ?_⟩⟩
  · rw [co (by omega), b0]
  · rw [co (by omega), b3]
  · rw [co (by omega)]; exact b8
  · rw [wo (by omega) (by omega), co (by omega), a0]
  · rw [wo (by omega) (by omega), co (by omega), a1]
  · rw [wo (by omega) (by omega), co (by omega), a2]
  · rw [rb_u2_at, rb_u2_at]
  · rw [wo (by omega) (by omega), co (by omega), w6]
  · rw [wo (by omega) (by omega), co (by omega), a7]
  · rw [wo (by omega) (by omega), co (by omega), as j hj]
  · rw [co (by omega)]
    by_cases e : k = rd
    · subst e
      rw [rb_u2_o (by omega), rb_u2_at, a8]
    · rw [wo (by omega) (by omega), ap k (by omega)]
  · rw [wo (by omega) (by omega), co (by omega), (hM i hi).1]
  · rw [wo (by omega) (by omega), co (by omega), (hM i hi).2.1]
  · rw [co (by omega)]; exact (hM i hi).2.2.1
  · rw [wo (by omega) (by omega), co (by omega), (hM i hi).2.2.2.1]
theorem wLA_out {k : Nat} : ∀ n, ¬ ((15 ≤ k ∧ k < 15 + n) ∨ (23 ≤ k ∧ k < 23 + n) ∨ (63 ≤ k ∧ k < 63 + n)) → wLA W n 1 k = W 1 k
  | 0, _ => rfl
  | n + 1, h => by
    unfold wLA
    rw [rb_u2_o (by omega), rb_u2_o (by omega), rb_u2_o (by omega)]
    exact wLA_out n (by omega)
theorem wLA_in {j : Nat} : ∀ n, n ≤ 8 → j < n → wLA W n 1 (15 + j) = 20 ∧ wLA W n 1 (23 + j) = 1 ∧ wLA W n 1 (63 + j) = 0
  | 0, _, h => absurd h (Nat.not_lt_zero _)
  | n + 1, hn, h => by
    unfold wLA
    by_cases e : j = n
    · subst e
      refine ⟨?_, ?_, ?_⟩
      · rw [rb_u2_o (by omega), rb_u2_o (by omega), rb_u2_at]
      · rw [rb_u2_o (by omega), rb_u2_at]
      · rw [rb_u2_at]
    · obtain ⟨a, b, d⟩ := wLA_in n (by omega) (show j < n by omega)
      refine ⟨?_, ?_, ?_⟩
      · rw [rb_u2_o (by omega), rb_u2_o (by omega), rb_u2_o (by omega)]; exact a
      · rw [rb_u2_o (by omega), rb_u2_o (by omega), rb_u2_o (by omega)]; exact b
      · rw [rb_u2_o (by omega), rb_u2_o (by omega), rb_u2_o (by omega)]; exact d
theorem wLB_out {k : Nat} : ∀ n, ¬ (199 ≤ k ∧ k < 199 + n) → wLB W n 1 k = W 1 k
  | 0, _ => rfl
  | n + 1, h => by
    unfold wLB
    rw [rb_u2_o (by omega)]
    exact wLB_out n (by omega)
theorem rs_begin (hm2 : 2 ≤ m) (hm8 : m ≤ 8) (ht1 : 1 ≤ t) (htm : t ≤ m) (hs : rn_in (2 ^ 31) (c 11 7)) (h7 : W 1 7 = c 11 7) (h9 : ∀ j, j < 6 → W 1 (9 + j) = c 0 j) : rs_T m t 0 0 (cRest c (nI m) (nI t)) (wNew W (nI m) (nI t) 1) := by
  unfold cRest wNew
  have wo : ∀ {k : Nat}, k < 15 → wLB (wLA (wL0 W (nI m) (nI t)) 8) 30 1 k = wL0 W (nI m) (nI t) 1 k := fun h => by rw [wLB_out 30 (by omega), wLA_out 8 (by omega)]
  have w0 : ∀ {k : Nat}, ¬ (k = 0 ∨ k = 1 ∨ k = 2 ∨ k = 3 ∨ k = 6) → wL0 W (nI m) (nI t) 1 k = W 1 k := fun h => by unfold wL0; rw [rb_u2_o (by omega), rb_u2_o (by omega), rb_u2_o (by omega), rb_u2_o (by omega), rb_u2_o (by omega)]
  have co : ∀ {r j : Nat}, ¬ r = 2 → ¬ r = 3 → ¬ r = 4 → ∀ d : Nat → Nat → Int32, ∀ f g h, rb_u1 (rb_u1 (rb_u1 d 2 f) 3 g) 4 h r j = d r j := fun {r j} h1 h2 h3 d f g h => by rw [rb_u1_o j h3, rb_u1_o j h2, rb_u1_o j h1]
  refine rs_start ⟨?_, hm2, hm8, ?_, ht1, htm, ?_, by decide, ?_⟩ ⟨?_, ?_, ?_, ?_, ?_, ?_, fun j hj => ?_, fun k hk => absurd hk (Nat.not_lt_zero k), fun i hi => ?_⟩
  · rw [co (by decide) (by decide) (by decide), rb_u2_o (by decide), rb_u2_o (by decide), rb_u2_o (by decide), rb_u2_o (by decide), rb_u2_at]
  · rw [co (by decide) (by decide) (by decide), rb_u2_o (by decide), rb_u2_o (by decide), rb_u2_o (by decide), rb_u2_at]
  · rw [co (by decide) (by decide) (by decide), rb_u2_o (by decide), rb_u2_at]; rfl
  · rw [co (by decide) (by decide) (by decide), rb_u2_o (by decide), rb_u2_o (by decide), rb_u2_o (by decide), rb_u2_o (by decide), rb_u2_o (by decide)]; exact hs
  · rw [wo (by decide), co (by decide) (by decide) (by decide), rb_u2_o (by decide), rb_u2_o (by decide), rb_u2_o (by decide), rb_u2_o (by decide), rb_u2_at]
    unfold wL0
    rw [rb_u2_o (by decide), rb_u2_o (by decide), rb_u2_o (by decide), rb_u2_o (by decide), rb_u2_at]
  · rw [wo (by decide), co (by decide) (by decide) (by decide), rb_u2_o (by decide), rb_u2_o (by decide), rb_u2_o (by decide), rb_u2_at]
    unfold wL0
    rw [rb_u2_o (by decide), rb_u2_o (by decide), rb_u2_o (by decide), rb_u2_at]
  · rw [wo (by decide), co (by decide) (by decide) (by decide), rb_u2_o (by decide), rb_u2_o (by decide), rb_u2_at]
    unfold wL0
    rw [rb_u2_o (by decide), rb_u2_o (by decide), rb_u2_at]
  · rw [wo (by decide), co (by decide) (by decide) (by decide), rb_u2_o (by decide), rb_u2_at]
    unfold wL0
    rw [rb_u2_o (by decide), rb_u2_at]
  · rw [wo (by decide), co (by decide) (by decide) (by decide), rb_u2_at]
    unfold wL0
    rw [rb_u2_at]
  · rw [wo (by decide), co (by decide) (by decide) (by decide), rb_u2_o (by decide), rb_u2_o (by decide), rb_u2_o (by decide), rb_u2_o (by decide), rb_u2_o (by decide), w0 (by decide)]; exact h7
  · rw [wo (by omega), co (by decide) (by decide) (by decide), rb_u2_o (by omega), rb_u2_o (by omega), rb_u2_o (by omega), rb_u2_o (by omega), rb_u2_o (by omega), w0 (by omega)]; exact h9 j hj
  · obtain ⟨e1, e2, e3⟩ := wLA_in (W := wL0 W (nI m) (nI t)) 8 (Nat.le_refl 8) hi
    have f2 : ∀ {x : Int32} {f : Nat → Int32}, rb_fl1 f 8 x i = x := fun {x f} => if_pos hi
    rw [wLB_out 30 (by omega), wLB_out 30 (by omega), wLB_out 30 (by omega), e1, e2, e3]
    rw [rb_u1_s i (r' := 4) rfl, rb_u1_o i (show ¬ 2 = 4 by decide), rb_u1_o i (show ¬ 2 = 3 by decide), rb_u1_s i (r' := 2) rfl, rb_u1_o i (show ¬ 3 = 4 by decide), rb_u1_s i (r' := 3) rfl, f2, f2, f2]
    exact ⟨rfl, rfl, Or.inr rfl, rfl⟩
end RS
