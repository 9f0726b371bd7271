/-! SETTINGS, SEEDS, SWITCHES, PAYMENTS, REVELATIONS, COMMITMENTS -/
section RS
variable {m t rd ph : Nat} {c W : Nat → Nat → Int32} {i : Nat} {y : Int32}
theorem rs_set (hi : i < 6) (h : rs_T m t rd ph c (W 1)) : rs_T m t rd ph (rb_u2 c 0 i y) (rb_u2 W 1 (9 + i) y 1) := by
  obtain ⟨⟨hH, hA, hM, hP⟩, h4, hp3, w4, w5, w6⟩ := h
  obtain ⟨a0, a1, a2, a3, a7, a8, as, ap⟩ := hA
  have hm8 : m ≤ 8 := hH.2.2.1
  have co : ∀ {r j : Nat}, ¬ (r = 0 ∧ j = i) → rb_u2 c 0 i y r j = c r j := fun h1 => rb_u2_o h1
  have wo : ∀ {k : Nat}, ¬ k = 9 + i → rb_u2 W 1 (9 + i) y 1 k = W 1 k := fun h1 => rb_u2_o (fun z => h1 z.2)
  refine ⟨⟨rs_H_k (co (by omega)) (co (by omega)) (co (by omega)) (co (by omega)) hH, ⟨?_, ?_, ?_, ?_, ?_, ?_, fun j hj => ?_, fun k hk => ?_⟩, fun j hj => rs_M_k (fun r h1 h2 => co (by omega)) (fun k h1 h2 h3 => wo (by omega)) id hj (hM j hj), fun o ho => rs_P_k (co (by omega)) (fun k h1 h2 => co (by omega)) (fun k h1 h2 => co (by omega)) (fun k hk => wo (by omega)) hm8 (hP o ho)⟩, ?_, hp3, ?_, ?_, ?_⟩
  · rw [wo (by omega), co (by omega), a0]
  · rw [wo (by omega), co (by omega), a1]
  · rw [wo (by omega), co (by omega), a2]
  · rw [wo (by omega), co (by omega), a3]
  · rw [wo (by omega), co (by omega), a7]
  · rw [wo (by omega), co (by omega), a8]
  · by_cases e : j = i
    · subst e; rw [rb_u2_at, rb_u2_at]
    · rw [wo (by omega), co (by omega), as j hj]
  · rw [wo (by omega), co (by omega), ap k hk]
  · rw [co (by omega), h4]
  · rw [wo (by omega), co (by omega), w4]
  · rw [wo (by omega), co (by omega), w5]
  · rw [wo (by omega), co (by omega), w6]
theorem rs_seed (hy : rn_in (2 ^ 31) y) (h : rs_T m t rd ph c (W 1)) : rs_T m t rd ph (rb_u2 c 11 7 y) (rb_u2 W 1 7 y 1) := by
  obtain ⟨⟨hH, hA, hM, hP⟩, h4, hp3, w4, w5, w6⟩ := h
  obtain ⟨a0, a1, a2, a3, a7, a8, as, ap⟩ := hA
  have hm8 : m ≤ 8 := hH.2.2.1
  have co : ∀ {r j : Nat}, ¬ (r = 11 ∧ j = 7) → rb_u2 c 11 7 y r j = c r j := fun h1 => rb_u2_o h1
  have wo : ∀ {k : Nat}, ¬ k = 7 → rb_u2 W 1 7 y 1 k = W 1 k := fun h1 => rb_u2_o (fun z => h1 z.2)
  obtain ⟨b0, b1, b2, b3, b4, b5, b6, b7, b8⟩ := hH
  refine ⟨⟨⟨by rw [co (by omega), b0], b1, b2, by rw [co (by omega), b3], b4, b5, by rw [co (by omega), b6], b7, by rw [rb_u2_at]; exact hy⟩, ⟨?_, ?_, ?_, ?_, ?_, ?_, fun j hj => ?_, fun k hk => ?_⟩, fun j hj => rs_M_k (fun r h1 h2 => co (by omega)) (fun k h1 h2 h3 => wo (by omega)) id hj (hM j hj), fun o ho => rs_P_k (co (by omega)) (fun k h1 h2 => co (by omega)) (fun k h1 h2 => co (by omega)) (fun k hk => wo (by omega)) hm8 (hP o ho)⟩, ?_, hp3, ?_, ?_, ?_⟩
  · rw [wo (by omega), co (by omega), a0]
  · rw [wo (by omega), co (by omega), a1]
  · rw [wo (by omega), co (by omega), a2]
  · rw [wo (by omega), co (by omega), a3]
  · rw [rb_u2_at, rb_u2_at]
  · rw [wo (by omega), co (by omega), a8]
  · rw [wo (by omega), co (by omega), as j hj]
  · rw [wo (by omega), co (by omega), ap k hk]
  · rw [co (by omega), h4]
  · rw [wo (by omega), co (by omega), w4]
  · rw [wo (by omega), co (by omega), w5]
  · rw [wo (by omega), co (by omega), w6]
/-- a change of one row of one member: all but that member -/
theorem rs_mem {w' : Nat → Int32} {c' : Nat → Nat → Int32} (hi : i < 8) (h : rs_T m t rd ph c (W 1)) (co : ∀ r j, ¬ (2 ≤ r ∧ r ≤ 8 ∧ j = i) → c' r j = c r j) (wo : ∀ k, ¬ (15 ≤ k ∧ k < 71 ∧ k % 8 = (i + 7) % 8) → w' k = W 1 k) (hM' : rs_M ph c' w' i) (hP' : rs_P m t c' w' i) : rs_T m t rd ph c' w' := by
  obtain ⟨⟨hH, hA, hM, hP⟩, h4, hp3, w4, w5, w6⟩ := h
  have hm8 : m ≤ 8 := hH.2.2.1
  refine ⟨⟨rs_H_k (co _ _ (by omega)) (co _ _ (by omega)) (co _ _ (by omega)) (co _ _ (by omega)) hH, rs_A_k (fun k h1 h2 => co _ _ (by omega)) (fun k h1 h2 => wo _ (by omega)) (wo _ (by omega)) (fun j hj => wo _ (by omega)) (fun k hk => wo _ (by omega)) (fun j hj => co _ _ (by omega)) (fun k hk => co _ _ (by omega)) hA, fun j hj => ?_, fun o ho => ?_⟩, ?_, hp3, ?_, ?_, ?_⟩
  · by_cases e : j = i
    · subst e; exact hM'
    · exact rs_M_k (fun r h1 h2 => co _ _ (by omega)) (fun k h1 h2 h3 => wo _ (by omega)) id hj (hM j hj)
  · by_cases e : o = i
    · subst e; exact hP'
    · exact rs_P_k (co _ _ (by omega)) (fun k h1 h2 => co _ _ (by omega)) (fun k h1 h2 => co _ _ (by omega)) (fun k hk => wo _ (by omega)) hm8 (hP o ho)
  · rw [co _ _ (by omega), h4]
  · rw [wo _ (by omega), co _ _ (by omega), w4]
  · rw [wo _ (by omega), co _ _ (by omega), w5]
  · rw [wo _ (by omega), co _ _ (by omega), w6]
theorem rs_turn (hi : i < 8) (hy : y = 0 ∨ y = 1) (h : rs_T m t rd ph c (W 1)) : rs_T m t rd ph (rb_u2 c 3 i y) (rb_u2 W 1 (23 + i) y 1) := by
  have hm8 : m ≤ 8 := h.1.1.2.2.1
  have co : ∀ {r j : Nat}, ¬ (r = 3 ∧ j = i) → rb_u2 c 3 i y r j = c r j := fun h1 => rb_u2_o h1
  have wo : ∀ {k : Nat}, ¬ k = 23 + i → rb_u2 W 1 (23 + i) y 1 k = W 1 k := fun h1 => rb_u2_o (fun z => h1 z.2)
  obtain ⟨a1, a2, a3, a4, a5⟩ := h.1.2.2.1 i hi
  refine rs_mem hi h (fun r j h1 => co (by omega)) (fun k h1 => wo (by omega)) ⟨?_, ?_, ?_, ?_, rs_B_k (co (by omega)) (co (by omega)) (co (by omega)) (co (by omega)) (wo (by omega)) (wo (by omega)) (wo (by omega)) (wo (by omega)) id a5⟩ (rs_P_k (co (by omega)) (fun k h1 h2 => co (by omega)) (fun k h1 h2 => co (by omega)) (fun k hk => wo (by omega)) hm8 (h.1.2.2.2 i hi))
  · rw [wo (by omega), co (by omega), a1]
  · rw [rb_u2_at, rb_u2_at]
  · rw [rb_u2_at]; exact hy
  · rw [wo (by omega), co (by omega), a4]
theorem rs_payM (hi : i < 8) (h : rs_T m t rd ph c (W 1)) : rs_T m t rd ph (rb_u2 c 2 i y) (rb_u2 W 1 (15 + i) y 1) := by
  have hm8 : m ≤ 8 := h.1.1.2.2.1
  have co : ∀ {r j : Nat}, ¬ (r = 2 ∧ j = i) → rb_u2 c 2 i y r j = c r j := fun h1 => rb_u2_o h1
  have wo : ∀ {k : Nat}, ¬ k = 15 + i → rb_u2 W 1 (15 + i) y 1 k = W 1 k := fun h1 => rb_u2_o (fun z => h1 z.2)
  obtain ⟨a1, a2, a3, a4, a5⟩ := h.1.2.2.1 i hi
  refine rs_mem hi h (fun r j h1 => co (by omega)) (fun k h1 => wo (by omega)) ⟨?_, ?_, ?_, ?_, rs_B_k (co (by omega)) (co (by omega)) (co (by omega)) (co (by omega)) (wo (by omega)) (wo (by omega)) (wo (by omega)) (wo (by omega)) id a5⟩ (rs_P_k (co (by omega)) (fun k h1 h2 => co (by omega)) (fun k h1 h2 => co (by omega)) (fun k hk => wo (by omega)) hm8 (h.1.2.2.2 i hi))
  · rw [rb_u2_at, rb_u2_at]
  · rw [wo (by omega), co (by omega), a2]
  · rw [co (by omega)]; exact a3
  · rw [wo (by omega), co (by omega), a4]
theorem rs_reveal (hi : i < 8) (hy : rn_in 256 y) (h1 : c 5 i = 1) (h : rs_T m t rd ph c (W 1)) : rs_T m t rd ph (cLearn c i y 2) (rb_u2 W 1 (47 + i) y 1) := by
  have hm8 : m ≤ 8 := h.1.1.2.2.1
  have co : ∀ {r j : Nat}, ¬ ((r = 8 ∨ r = 5) ∧ j = i) → cLearn c i y 2 r j = c r j := fun h1 => by unfold cLearn; rw [rb_u2_o (by omega), rb_u2_o (by omega)]
  have wo : ∀ {k : Nat}, ¬ k = 47 + i → rb_u2 W 1 (47 + i) y 1 k = W 1 k := fun h1 => rb_u2_o (fun z => h1 z.2)
  have e5 : cLearn c i y 2 5 i = 2 := by unfold cLearn; rw [rb_u2_at]
  have e8 : cLearn c i y 2 8 i = y := by unfold cLearn; rw [rb_u2_o (by omega), rb_u2_at]
  obtain ⟨a1, a2, a3, a4, a5⟩ := h.1.2.2.1 i hi
  obtain ⟨p1, p2, p3, p4, p5⟩ := h.1.2.2.2 i hi
  refine rs_mem hi h (fun r j h1 => co (by omega)) (fun k h1 => wo (by omega)) ⟨?_, ?_, ?_, ?_, ?_⟩ ⟨fun j hj => ?_, fun j hj => ?_, fun q j hj => ?_, fun q => ?_, fun q => ?_⟩
  · rw [wo (by omega), co (by omega), a1]
  · rw [wo (by omega), co (by omega), a2]
  · rw [co (by omega)]; exact a3
  · rw [wo (by omega), co (by omega), a4]
  · rcases a5 with z | ⟨b1, b2, b3, b4, z⟩
    · rw [h1] at z; exact absurd z.1 (by decide)
    · refine Or.inr ⟨?_, ?_, ?_, ?_, Or.inr (Or.inl ⟨e5, ?_, ?_, ?_⟩)⟩
      · rw [co (by omega)]; exact b1
      · rw [co (by omega)]; exact b2
      · rw [wo (by omega), co (by omega), b3]
      · rw [wo (by omega), co (by omega), b4]
      · rw [e8]; exact rn_in_mono hy (by decide)
      · rw [rb_u2_at, e8]
      · rw [wo (by omega)]
        rcases z with z | z | z
        · exact z.2.2
        · rw [h1] at z; exact absurd z.1 (by decide)
        · rw [h1] at z; exact absurd z.1 (by decide)
  · rw [wo (by omega), co (by omega), p1 j hj]
  · rw [co (by omega)]; exact p2 j hj
  · rw [wo (by omega), co (by omega)]
    exact p3 (by rw [h1]; decide) j hj
  · rw [e5] at q; exact absurd q (by decide)
  · rw [e5] at q; exact absurd q (by decide)
theorem rs_fineT (hi : i < 8) (a : Int32) (h : rs_T m t rd ph c (W 1)) : rs_T m t rd ph (cFine c i a) (wFine W i a 1) := by
  obtain ⟨hS, h4, hp3, w4, w5, w6⟩ := h
  obtain ⟨s1, s6⟩ := rs_fine hi a hS w6
  refine ⟨s1, ?_, hp3, ?_, ?_, s6⟩
  · rw [cFine_11 _ _ _ _ (by decide), h4]
  · rw [wFine_ne W i hi a 4 (by decide), cFine_11 _ _ _ _ (by decide), w4]
  · rw [wFine_ne W i hi a 5 (by decide), cFine_11 _ _ _ _ (by decide), w5]
/-! shares dealt -/
theorem cDeal0_o {s : Int32} {o r k : Nat} : ∀ n, ¬ (r = 9 ∧ 8 * o ≤ k ∧ k < 8 * o + n) → cDeal0 c o s n r k = c r k
  | 0, _ => rfl
  | n + 1, h => by unfold cDeal0; rw [rb_u2_o (by omega)]; exact cDeal0_o n (by omega)
theorem cDeal0_i {s : Int32} {o j : Nat} : ∀ n, j < n → cDeal0 c o s n 9 (8 * o + j) = s
  | 0, h => absurd h (Nat.not_lt_zero _)
  | n + 1, h => by
    unfold cDeal0
    by_cases e : j = n
    · exact rb_u2_s ⟨rfl, by omega⟩
    · rw [rb_u2_o (by omega)]; exact cDeal0_i n (by omega)
theorem cDealI_o {q : Int32} {o p r k : Nat} : ∀ n, ¬ (r = 9 ∧ 8 * o ≤ k ∧ k < 8 * o + n) → cDealI c o q p n r k = c r k
  | 0, _ => rfl
  | n + 1, h => by unfold cDealI; rw [rb_u2_o (by omega)]; exact cDealI_o n (by omega)
theorem cDealI_i {q : Int32} {o p j : Nat} : ∀ n, j < n → cDealI c o q p n 9 (8 * o + j) = rb_rem (c 9 (8 * o + j) + q * rb_pw (nI (j + 1)) p) 257
  | 0, h => absurd h (Nat.not_lt_zero _)
  | n + 1, h => by
    unfold cDealI
    by_cases e : j = n
    · subst e
      rw [rb_u2_at, cDealI_o j (by omega)]
    · rw [rb_u2_o (by omega)]; exact cDealI_i n (by omega)
theorem cDealP_o {o r k : Nat} : ∀ p, ¬ (r = 9 ∧ 8 * o ≤ k ∧ k < 8 * o + m) → ¬ (r = 11 ∧ k = 7) → cDealP c o m p r k = c r k
  | 0, _, _ => rfl
  | p + 1, h, h2 => by
    unfold cDealP
    rw [cDealI_o m h]
    unfold cDraw
    rw [rb_u2_o h2]
    exact cDealP_o p h h2
theorem cDealP_7 {o : Nat} : ∀ p, cDealP c o m p 11 7 = rn_sg (c 11 7) p
  | 0 => rfl
  | p + 1 => by
    unfold cDealP
    rw [cDealI_o m (by omega)]
    unfold cDraw
    rw [rb_u2_at, cDealP_7 p]; rfl
def rn_v (s σ : Int32) (j : Nat) : Nat → Int32
  | 0 => s
  | p + 1 => rb_rem (rn_v s σ j p + rb_dr (rn_sg σ (p + 1)) * rb_pw (nI (j + 1)) (p + 1)) 257
theorem cDealP_i {o j : Nat} (hj : j < m) : ∀ p, cDealP c o m p 9 (8 * o + j) = rn_v (c 9 (8 * o + j)) (c 11 7) j p
  | 0 => rfl
  | p + 1 => by
    unfold cDealP
    rw [cDealI_i m hj]
    unfold cDraw
    rw [rb_u2_o (by omega), cDealP_i hj p, cDealP_7]
    rfl
theorem wTerms_7 {s : Int32} : ∀ p, wTerms W s p 1 7 = rn_sg (W 1 7) p
  | 0 => by unfold wTerms; rw [rb_u2_o (by omega)]; rfl
  | p + 1 => by
    unfold wTerms wDraw
    rw [rb_u2_o (by omega), rb_u2_at, wTerms_7 p]; rfl
def rn_tm (s σ : Int32) (k : Nat) : Int32 := if k = 0 then s else rb_dr (rn_sg σ k)
theorem wTerms_4 {s : Int32} : ∀ p k, k ≤ p → wTerms W s p 4 k = rn_tm s (W 1 7) k
  | 0, k, h => by
    unfold wTerms rn_tm
    rw [rb_u2_s ⟨rfl, by omega⟩, if_pos (by omega)]
  | p + 1, k, h => by
    unfold wTerms
    by_cases e : k = p + 1
    · rw [rb_u2_s ⟨rfl, e⟩, wTerms_7]
      unfold rn_tm
      rw [if_neg (by omega), e]; rfl
    · rw [rb_u2_o (by omega)]
      unfold wDraw
      rw [rb_u2_o (by omega)]
      exact wTerms_4 p k (by omega)
theorem wLay_o {o k : Nat} : ∀ n, ¬ (71 + 8 * o ≤ k ∧ k < 71 + 8 * o + n) → wLay W o t n 1 k = W 1 k
  | 0, _ => rfl
  | n + 1, h => by unfold wLay; rw [rb_u2_o (by omega)]; exact wLay_o n (by omega)
theorem wLay_i {o j : Nat} : ∀ n, j < n → wLay W o t n 1 (71 + 8 * o + j) = rb_rem (wPoly W j t) 257
  | 0, h => absurd h (Nat.not_lt_zero _)
  | n + 1, h => by
    unfold wLay
    by_cases e : j = n
    · subst e
      rw [rb_u2_at]
      unfold wPoly
      rw [wLay_4]
    · rw [rb_u2_o (by omega)]; exact wLay_i n (by omega)
theorem rn_poly {s σ : Int32} {j : Nat} (hs : rn_in 256 s) (hσ : rn_in (2 ^ 31) σ) (hj : j < 8) : ∀ p, p ≤ 7 → ∃ S, S ≤ 256 + 65536 * p ∧ rb_sum (fun k => rn_tm s σ k * rb_pw (nI (j + 1)) k) (p + 1) = nI S ∧ rn_v s σ j p = nI (S % 257)
  | 0, _ => by
    obtain ⟨n, hn, rfl⟩ := hs
    refine ⟨n, by omega, ?_, ?_⟩
    · show 0 + (if 0 = 0 then nI n else _) * 1 = nI n
      rw [if_pos rfl, Int32.mul_one, Int32.zero_add]
    · show nI n = _
      rw [Nat.mod_eq_of_lt (by omega)]
  | p + 1, hp => by
    obtain ⟨S, hS, e1, e2⟩ := rn_poly hs hσ hj p (by omega)
    obtain ⟨q, hq, e3⟩ := rn_sg_dr hσ (p + 1)
    have e4 := rn_pw_ok (b := j + 1) (by omega) (p + 1)
    have hb := rn_pw_lt (j + 1) (p + 1)
    have hqb : q * rn_pw (j + 1) (p + 1) ≤ 256 * 256 := Nat.mul_le_mul (by omega) (by omega)
    refine ⟨S + q * rn_pw (j + 1) (p + 1), by omega, ?_, ?_⟩
    · show rb_sum (fun k => rn_tm s σ k * rb_pw (nI (j + 1)) k) (p + 1) + (if p + 1 = 0 then s else rb_dr (rn_sg σ (p + 1))) * rb_pw (nI (j + 1)) (p + 1) = _
      rw [e1, if_neg (by omega), e3, e4, pk_mul, nI_add]
    · unfold rn_v
      rw [e2, e3, e4, pk_mul, nI_add, rn_r257 (by omega), Nat.mod_add_mod]
end RS
