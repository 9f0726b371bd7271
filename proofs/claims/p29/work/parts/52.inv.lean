/-! WHAT HOLDS OF A STATE, 3: settings, seeds, switches, payments, revelations, commitments, shares -/
section RJ
variable {S m t rd ph i o : Nat} {c : Nat → Nat → Int32} {y z : Int32}
theorem rj_set (hy : rn_in 21 y) (h : rj_T S m t rd ph c) : rj_T S m t rd ph (rb_u2 c 0 i y) := by
  obtain ⟨⟨hH, hM, hP⟩, h4, hp3, h1, hD⟩ := h
  have co : ∀ {r j : Nat}, ¬ r = 0 → rb_u2 c 0 i y r j = c r j := fun h1 => rb_u2_o (fun z => h1 z.1)
  obtain ⟨b0, b1, b2, b3, b4, b5, b6, b7, b8, b9⟩ := hH
  refine ⟨⟨⟨by rw [co (by omega), b0], b1, b2, by rw [co (by omega), b3], b4, b5, by rw [co (by omega), b6], b7, by rw [co (by omega)]; exact b8, fun j hj => ?_⟩, fun j hj => rj_M_k (Nat.le_refl _) (co (by omega)) (co (by omega)) (co (by omega)) (co (by omega)) (co (by omega)) (hM j hj), fun o ho => rj_P_k b2 (Nat.le_refl _) (co (by omega)) (fun k _ _ => co (by omega)) (fun k _ _ => co (by omega)) (hP o ho)⟩, by rw [co (by omega), h4], hp3, fun q => by rw [co (by omega), h1 q], rj_D_k (fun k _ => co (by omega)) (co (by omega)) hD⟩
  by_cases e : j = i
  · subst e; rw [rb_u2_at]; exact hy
  · rw [rb_u2_o (by omega)]; exact b9 j hj
theorem rj_seed (hy : rn_in (2 ^ 31) y) (h : rj_T S m t rd ph c) : rj_T S m t rd ph (rb_u2 c 11 7 y) := by
  obtain ⟨⟨hH, hM, hP⟩, h4, hp3, h1, hD⟩ := h
  have co : ∀ {r j : Nat}, ¬ (r = 11 ∧ j = 7) → rb_u2 c 11 7 y r j = c r j := fun h1 => rb_u2_o h1
  obtain ⟨b0, b1, b2, b3, b4, b5, b6, b7, b8, b9⟩ := hH
  exact ⟨⟨⟨by rw [co (by omega), b0], b1, b2, by rw [co (by omega), b3], b4, b5, by rw [co (by omega), b6], b7, by rw [rb_u2_at]; exact hy, fun j hj => by rw [co (by omega)]; exact b9 j hj⟩, fun j hj => rj_M_k (Nat.le_refl _) (co (by omega)) (co (by omega)) (co (by omega)) (co (by omega)) (co (by omega)) (hM j hj), fun o ho => rj_P_k b2 (Nat.le_refl _) (co (by omega)) (fun k _ _ => co (by omega)) (fun k _ _ => co (by omega)) (hP o ho)⟩, by rw [co (by omega), h4], hp3, fun q => by rw [co (by omega), h1 q], rj_D_k (fun k _ => co (by omega)) (co (by omega)) hD⟩
theorem rj_turn (hy : y = 0 ∨ y = 1) (h : rj_T S m t rd ph c) : rj_T S m t rd ph (rb_u2 c 3 i y) := by
  obtain ⟨⟨hH, hM, hP⟩, h4, hp3, h1, hD⟩ := h
  have co : ∀ {r j : Nat}, ¬ r = 3 → rb_u2 c 3 i y r j = c r j := fun h1 => rb_u2_o (fun z => h1 z.1)
  have b2 := hH.2.2.1
  refine ⟨⟨rj_H_k (fun k _ => co (by omega)) (fun j _ => co (by omega)) hH, fun j hj => ?_, fun o ho => rj_P_k b2 (Nat.le_refl _) (co (by omega)) (fun k _ _ => co (by omega)) (fun k _ _ => co (by omega)) (hP o ho)⟩, by rw [co (by omega), h4], hp3, fun q => by rw [co (by omega), h1 q], rj_D_k (fun k _ => co (by omega)) (co (by omega)) hD⟩
  by_cases e : j = i
  · subst e
    obtain ⟨a1, a2⟩ := hM j hj
    refine ⟨by rw [rb_u2_at]; exact hy, ?_⟩
    unfold rj_K
    rw [co (by omega), co (by omega), co (by omega), co (by omega)]; exact a2
  · exact rj_M_k (Nat.le_refl _) (rb_u2_o (by omega)) (co (by omega)) (co (by omega)) (co (by omega)) (co (by omega)) (hM j hj)
theorem rj_payM {a : Nat} (hi : i < m) (h : rj_T S m t rd ph c) : rj_T (S + a) m t rd ph (rb_u2 c 2 i (c 2 i + nI a)) := by
  obtain ⟨⟨hH, hM, hP⟩, h4, hp3, h1, D, p, h2, h6, hs⟩ := h
  have co : ∀ {r j : Nat}, ¬ (r = 2 ∧ j = i) → rb_u2 c 2 i (c 2 i + nI a) r j = c r j := fun h1 => rb_u2_o h1
  refine ⟨rj_S_k (Nat.le_refl _) (fun k _ => co (by omega)) (fun r j _ _ => co (by omega)) ⟨hH, hM, hP⟩, by rw [co (by omega), h4], hp3, fun q => by rw [co (by omega), h1 q], fun k => if k = i then D i + a else D k, p, fun k hk => ?_, by rw [co (by omega), h6], ?_⟩
  · show _ = nI (if k = i then D i + a else D k)
    by_cases e : k = i
    · subst e; rw [rb_u2_at, if_pos rfl, h2 k hk, nI_add]
    · rw [co (by omega), if_neg e, h2 k hk]
  · have := (rj_sN_up (i := i) (D := D) (D' := fun k => if k = i then D i + a else D k) (x := 0) (y := a) (by
      show (if i = i then D i + a else D i) + 0 = D i + a
      rw [if_pos rfl]; rfl) (fun k hk => if_neg hk) m).2 hi
    omega
theorem cLearn_o {x w : Int32} {r k : Nat} (h : ¬ ((r = 8 ∨ r = 5) ∧ k = i)) : cLearn c i x w r k = c r k := by
  unfold cLearn; rw [rb_u2_o (by omega), rb_u2_o (by omega)]
theorem rj_reveal (hi : i < 8) (hp : 1 ≤ ph) (hy : rn_in 257 y) (h1 : c 5 i = 1) (h : rj_S m t rd ph c) : rj_S m t rd ph (cLearn c i y 2) := by
  obtain ⟨hH, hM, hP⟩ := h
  have b2 := hH.2.2.1
  have e5 : cLearn c i y 2 5 i = 2 := by unfold cLearn; rw [rb_u2_at]
  have e8 : cLearn c i y 2 8 i = y := by unfold cLearn; rw [rb_u2_o (by omega), rb_u2_at]
  refine ⟨rj_H_k (fun k _ => cLearn_o (by omega)) (fun j _ => cLearn_o (by omega)) hH, fun j hj => ?_, fun o ho => ?_⟩
  · by_cases e : j = i
    · subst e
      obtain ⟨a1, a2⟩ := hM j hj
      refine ⟨by rw [cLearn_o (by omega)]; exact a1, Or.inr ?_⟩
      rcases a2 with z | ⟨z1, z2, z3⟩
      · rw [h1] at z; exact absurd z (by decide)
      · refine ⟨by rw [cLearn_o (by omega)]; exact z1, by rw [cLearn_o (by omega)]; exact z2, Or.inr (Or.inl ⟨hp, e5, by rw [e8]; exact hy⟩)⟩
    · exact rj_M_k (Nat.le_refl _) (cLearn_o (by omega)) (cLearn_o (by omega)) (cLearn_o (by omega)) (cLearn_o (by omega)) (cLearn_o (by omega)) (hM j hj)
  · by_cases e : o = i
    · subst e
      obtain ⟨p1, p2, p3, p4, p5, p6⟩ := hP o ho
      have en : rj_N (cLearn c o y 2) o m = rj_N c o m := rj_N_k b2 (fun k _ _ => cLearn_o (by omega))
      refine ⟨fun j hj => ?_, fun q j hj => ?_, fun q => ?_, fun q => ?_, fun q => ?_, fun q => ?_⟩
      · rw [cLearn_o (by omega), cLearn_o (by omega)]; exact p1 j hj
      · rw [cLearn_o (by omega)]; exact p2 (by rw [h1]; decide) j hj
      · rw [e5] at q; exact absurd q (by decide)
      · rw [e5] at q; exact absurd q (by decide)
      · rw [en]; exact p4 h1
      · rw [e5] at q; exact absurd q (by decide)
    · exact rj_P_k b2 (Nat.le_refl _) (cLearn_o (by omega)) (fun k _ _ => cLearn_o (by omega)) (fun k _ _ => cLearn_o (by omega)) (hP o ho)
theorem rj_revealT (hi : i < 8) (hp : 1 ≤ ph) (hy : rn_in 257 y) (h1 : c 5 i = 1) (h : rj_T S m t rd ph c) : rj_T S m t rd ph (cLearn c i y 2) := by
  obtain ⟨a, b, d, e, f⟩ := h
  exact ⟨rj_reveal hi hp hy h1 a, by rw [cLearn_o (by omega), b], d, fun q => by rw [cLearn_o (by omega), e q], rj_D_k (fun k _ => cLearn_o (by omega)) (cLearn_o (by omega)) f⟩
/-! shares dealt -/
theorem cDeal0_o {s : Int32} {o r k : Nat} : ∀ n, ¬ (r = 9 ∧ 8 * o ≤ k ∧ k < 8 * o + n) → cDeal0 c o s n r k = c r k
  | 0, _ => rfl
  | n + 1, h => by unfold cDeal0; rw [rb_u2_o (by omega)]; exact cDeal0_o n (by omega)
theorem cDeal0_i {s : Int32} {o j : Nat} : ∀ n, j < n → cDeal0 c o s n 9 (8 * o + j) = s
  | 0, h => absurd h (Nat.not_lt_zero _)
  | n + 1, h => by
    unfold cDeal0
    by_cases e : j = n
    · exact rb_u2_s ⟨rfl, by omega⟩
    · rw [rb_u2_o (by omega)]; exact cDeal0_i n (by omega)
theorem cDealI_o {q : Int32} {o p r k : Nat} : ∀ n, ¬ (r = 9 ∧ 8 * o ≤ k ∧ k < 8 * o + n) → cDealI c o q p n r k = c r k
  | 0, _ => rfl
  | n + 1, h => by unfold cDealI; rw [rb_u2_o (by omega)]; exact cDealI_o n (by omega)
theorem cDealI_i {q : Int32} {o p j : Nat} : ∀ n, j < n → cDealI c o q p n 9 (8 * o + j) = rb_rem (c 9 (8 * o + j) + q * rb_pw (nI (j + 1)) p) 257
  | 0, h => absurd h (Nat.not_lt_zero _)
  | n + 1, h => by
    unfold cDealI
    by_cases e : j = n
    · subst e
      rw [rb_u2_at, cDealI_o j (by omega)]
    · rw [rb_u2_o (by omega)]; exact cDealI_i n (by omega)
theorem cDealP_o {o r k : Nat} : ∀ p, ¬ (r = 9 ∧ 8 * o ≤ k ∧ k < 8 * o + m) → ¬ (r = 11 ∧ k = 7) → cDealP c o m p r k = c r k
  | 0, _, _ => rfl
  | p + 1, h, h2 => by
    unfold cDealP
    rw [cDealI_o m h]
    unfold cDraw
    rw [rb_u2_o h2]
    exact cDealP_o p h h2
theorem cDealP_7 {o : Nat} : ∀ p, cDealP c o m p 11 7 = rn_sg (c 11 7) p
  | 0 => rfl
  | p + 1 => by
    unfold cDealP
    rw [cDealI_o m (by omega)]
    unfold cDraw
    rw [rb_u2_at, cDealP_7 p]; rfl
def rn_v (s σ : Int32) (j : Nat) : Nat → Int32
  | 0 => s
  | p + 1 => rb_rem (rn_v s σ j p + rb_dr (rn_sg σ (p + 1)) * rb_pw (nI (j + 1)) (p + 1)) 257
theorem cDealP_i {o j : Nat} (hj : j < m) : ∀ p, cDealP c o m p 9 (8 * o + j) = rn_v (c 9 (8 * o + j)) (c 11 7) j p
  | 0 => rfl
  | p + 1 => by
    unfold cDealP
    rw [cDealI_i m hj]
    unfold cDraw
    rw [rb_u2_o (by omega), cDealP_i hj p, cDealP_7]
    rfl
theorem rn_v_in {s σ : Int32} {j : Nat} (hs : rn_in 256 s) (hσ : rn_in (2 ^ 31) σ) (hj : j < 8) : ∀ p, rn_in 257 (rn_v s σ j p)
  | 0 => rn_in_mono hs (by decide)
  | p + 1 => by
    obtain ⟨v, hv, e1⟩ := rn_v_in hs hσ hj p
    obtain ⟨q, hq, e3⟩ := rn_sg_dr hσ (p + 1)
    have e4 := rn_pw_ok (b := j + 1) (by omega) (p + 1)
    have hb := rn_pw_lt (j + 1) (p + 1)
    have hqb : q * rn_pw (j + 1) (p + 1) ≤ 256 * 256 := Nat.mul_le_mul (by omega) (by omega)
    unfold rn_v
    rw [e1, e3, e4, pk_mul, nI_add, rn_r257 (by omega)]
    exact ⟨_, Nat.mod_lt _ (by decide), rfl⟩
theorem rj_commit6 : cBind c i y z m t 6 i = rb_cm (nI i) y z := by
  unfold cBind cDeal
  rw [cDealP_o _ (by omega) (by omega), cDeal0_o m (by omega), rb_u2_o (by omega), rb_u2_o (by omega), rb_u2_at]
theorem rj_commit (hi : i < m) (hy : 0 ≤ y ∧ y < 256) (hz : 0 ≤ z ∧ z < 1000) (h5 : c 5 i = 0) (h : rj_T S m t rd ph c) : rj_T S m t rd ph (cBind c i y z m t) := by
  obtain ⟨⟨hH, hM, hP⟩, h4, hp3, ho1, hD⟩ := h
  obtain ⟨b0, b1, b2, b3, b4, b5, b6, b7, b8, b9⟩ := hH
  have hi8 : i < 8 := by omega
  have hy' : rn_in 256 y := rn_in_of (N := 256) (by decide) hy
  have hcm : rn_in 10007 (rb_cm (nI i) y z) := rn_cm_in (m := m) b2 (rb_mem1 hi b2) hy hz
  have cq : ∀ {r k : Nat}, ¬ (r = 9 ∧ 8 * i ≤ k ∧ k < 8 * i + m) → ¬ (r = 11 ∧ k = 7) → cBind c i y z m t r k = rb_u2 (rb_u2 (rb_u2 c 6 i (rb_cm (nI i) y z)) 7 i y) 5 i 1 r k := fun h1 h2 => by
    unfold cBind cDeal; rw [cDealP_o _ h1 h2, cDeal0_o m h1]
  have co : ∀ {r k : Nat}, ¬ (r = 9 ∧ 8 * i ≤ k ∧ k < 8 * i + m) → ¬ (r = 11 ∧ k = 7) → ¬ ((r = 5 ∨ r = 6 ∨ r = 7) ∧ k = i) → cBind c i y z m t r k = c r k := fun h1 h2 h3 => by
    rw [cq h1 h2, rb_u2_o (by omega), rb_u2_o (by omega), rb_u2_o (by omega)]
  have c7 : cBind c i y z m t 11 7 = rn_sg (c 11 7) (t - 1) := by
    unfold cBind cDeal; rw [cDealP_7, cDeal0_o m (by omega), rb_u2_o (by omega), rb_u2_o (by omega), rb_u2_o (by omega)]
  have e5 : cBind c i y z m t 5 i = 1 := by rw [cq (by omega) (by omega), rb_u2_at]
  have e6 : cBind c i y z m t 6 i = rb_cm (nI i) y z := rj_commit6
  have e7 : cBind c i y z m t 7 i = y := by rw [cq (by omega) (by omega), rb_u2_o (by omega), rb_u2_at]
  have e9 : ∀ j, j < m → cBind c i y z m t 9 (8 * i + j) = rn_v y (c 11 7) j (t - 1) := fun j hj => by
    unfold cBind cDeal; rw [cDealP_i hj, cDeal0_i m hj, cDeal0_o m (by omega), rb_u2_o (by omega), rb_u2_o (by omega), rb_u2_o (by omega)]
  refine ⟨⟨⟨by rw [co (by omega) (by omega) (by omega), b0], b1, b2, by rw [co (by omega) (by omega) (by omega), b3], b4, b5, by rw [co (by omega) (by omega) (by omega), b6], b7, by rw [c7]; exact rn_sg_in b8 _, fun j hj => by rw [co (by omega) (by omega) (by omega)]; exact b9 j hj⟩, fun j hj => ?_, fun o ho => ?_⟩, by rw [co (by omega) (by omega) (by omega), h4], hp3, fun q => by rw [co (by omega) (by omega) (by omega), ho1 q], rj_D_k (fun k _ => co (by omega) (by omega) (by omega)) (co (by omega) (by omega) (by omega)) hD⟩
  · by_cases e : j = i
    · subst e
      refine ⟨by rw [co (by omega) (by omega) (by omega)]; exact (hM j hj).1, Or.inr ⟨by rw [e6]; exact hcm, by rw [e7]; exact hy', Or.inl e5⟩⟩
    · exact rj_M_k (Nat.le_refl _) (co (by omega) (by omega) (by omega)) (co (by omega) (by omega) (by omega)) (co (by omega) (by omega) (by omega)) (co (by omega) (by omega) (by omega)) (co (by omega) (by omega) (by omega)) (hM j hj)
  · by_cases e : o = i
    · subst e
      obtain ⟨p1, p2, p3, p4, p5, p6⟩ := hP o ho
      refine ⟨fun j hj => ?_, fun q j hj => ?_, fun q => ?_, fun q => ?_, fun q => ?_, fun q => ?_⟩
      · rw [co (by omega) (by omega) (by omega)]; exact Or.inl (p3 h5 j hj)
      · rw [e9 j hj]; exact rn_v_in hy' b8 (by omega) _
      · rw [e5] at q; exact absurd q (by decide)
      · have : rj_N (cBind c o y z m t) o m = 0 := rn_ct_zero.mpr fun j hj q2 => q2 (by rw [co (by omega) (by omega) (by omega)]; exact p3 h5 j (by omega))
        omega
      · rw [e5] at q; exact absurd q (by decide)
      · rw [e5] at q; exact absurd q (by decide)
    · exact rj_P_k b2 (Nat.le_refl _) (co (by omega) (by omega) (by omega)) (fun k _ _ => co (by omega) (by omega) (by omega)) (fun k _ _ => co (by omega) (by omega) (by omega)) (hP o ho)
/-! one more share -/
theorem cShowC_o {x : Int32} {r k : Nat} (hk : rb_mk (nI i) x = rb_mk (nI i) (c 9 (8 * o + i))) (h1 : ¬ (r = 10 ∧ k = 8 * o + i)) (h2 : ¬ ((r = 8 ∨ r = 5) ∧ k = o)) : cShowC c i o x m r k = c r k := by
  unfold cShowC
  rw [if_pos hk]
  split
  · exact rb_u2_o h1
  · rw [cLearn_o h2, rb_u2_o h1]
theorem rj_show (hi : i < m) (ho : o < m) (hio : ¬ i = o) (h1 : c 5 o = 1) (h9 : c 10 (8 * o + i) = -9) (hz : rn_in 257 z) (hp : 2 ≤ ph) (hk : rb_mk (nI i) z = rb_mk (nI i) (c 9 (8 * o + i))) (h : rj_S m t rd ph c) : rj_S m t rd ph (cShowC c i o z m) := by
  obtain ⟨hH, hM, hP⟩ := h
  have hm8 : m ≤ 8 := hH.2.2.1
  have ht : c 11 1 = nI t := hH.2.2.2.1
  obtain ⟨p1, p2, p3, p4, p5, p6⟩ := hP o (by omega)
  have do_ : ∀ {r k : Nat}, ¬ (r = 10 ∧ k = 8 * o + i) → rb_u2 c 10 (8 * o + i) z r k = c r k := fun q => rb_u2_o q
  have dv : ∀ j, j < 8 → rb_u2 c 10 (8 * o + i) z 10 (8 * o + j) = -9 ∨ (j < m ∧ ¬ j = o ∧ 2 ≤ ph ∧ rn_in 257 (rb_u2 c 10 (8 * o + i) z 10 (8 * o + j)) ∧ rb_mk (nI j) (rb_u2 c 10 (8 * o + i) z 10 (8 * o + j)) = rb_mk (nI j) (c 9 (8 * o + j))) := fun j hj => by
    by_cases e : j = i
    · subst e; rw [rb_u2_at]; exact Or.inr ⟨hi, hio, hp, hz, hk⟩
    · rw [do_ (by omega)]; exact p1 j hj
  have hn : rj_N (rb_u2 c 10 (8 * o + i) z) o m = rj_N c o m + 1 := rn_ct_set (i := i) (fun q => q h9) (by rw [rb_u2_at]; exact rn_in_ne hz (by decide)) (fun k hk => by rw [do_ (by omega)]) hi
  have hlt := p4 h1
  have hle := rn_ct_le (fun j => ¬ c 10 (8 * o + j) = -9) m
  have hle2 : rj_N c o m ≤ m := hle
  have hbc : rb_bc (cGiv (rb_u2 c 10 (8 * o + i) z) o m) = nI (rj_N (rb_u2 c 10 (8 * o + i) z) o m) := rn_giv_bc _ o m hm8
  have hitp : rn_in 257 (cItp (rb_u2 c 10 (8 * o + i) z) o (cGiv (rb_u2 c 10 (8 * o + i) z) o m) m) := rn_itp hm8 fun j hj hb => by
    have := (rn_giv_bit _ o m hm8 (show j < 8 by omega)).mp hb
    rcases dv j (by omega) with q | q
    · exact absurd q this.2
    · exact q.2.2.2.1
  have htm : t ≤ m := hH.2.2.2.2.2.1
  have key : ∀ (c' : Nat → Nat → Int32), (∀ r k, ¬ (r = 10 ∧ k = 8 * o + i) → ¬ ((r = 8 ∨ r = 5) ∧ k = o) → c' r k = c r k) → (∀ j, j < 8 → c' 10 (8 * o + j) = rb_u2 c 10 (8 * o + i) z 10 (8 * o + j)) → ((c' 5 o = 1 ∧ rj_N c o m + 1 < t) ∨ (c' 5 o = 3 ∧ rn_in 257 (c' 8 o) ∧ rj_N c o m + 1 = t)) → rj_S m t rd ph c' := by
    intro c' co c10 hc
    have c5 : ¬ c' 5 o = 0 := by rcases hc with q | q <;> rw [q.1] <;> decide
    refine ⟨rj_H_k (fun k _ => co _ _ (by omega) (by omega)) (fun j _ => co _ _ (by omega) (by omega)) hH, fun j hj => ?_, fun x hx => ?_⟩
    · by_cases e : j = o
      · subst e
        obtain ⟨a1, a2⟩ := hM j hj
        refine ⟨by rw [co _ _ (by omega) (by omega)]; exact a1, Or.inr ?_⟩
        rcases a2 with q | ⟨q1, q2, q3⟩
        · rw [h1] at q; exact absurd q (by decide)
        · refine ⟨by rw [co _ _ (by omega) (by omega)]; exact q1, by rw [co _ _ (by omega) (by omega)]; exact q2, ?_⟩
          rcases hc with ⟨x1, x2⟩ | ⟨x1, x2, x3⟩
          · exact Or.inl x1
          · exact Or.inr (Or.inr ⟨hp, x1, x2⟩)
      · exact rj_M_k (Nat.le_refl _) (co _ _ (by omega) (by omega)) (co _ _ (by omega) (by omega)) (co _ _ (by omega) (by omega)) (co _ _ (by omega) (by omega)) (co _ _ (by omega) (by omega)) (hM j hj)
    · by_cases e : x = o
      · subst e
        have en : rj_N c' x m = rj_N c x m + 1 := by rw [← hn]; exact rn_ct_cong fun j hj => by rw [c10 j (by omega)]
        refine ⟨fun j hj => ?_, fun q j hj => ?_, fun q => absurd q c5, fun q => ?_, fun q => ?_, fun q => ?_⟩
        · rw [c10 j hj, co 9 _ (by omega) (by omega)]; exact dv j hj
        · rw [co _ _ (by omega) (by omega)]; exact p2 (by rw [h1]; decide) j hj
        · rw [en]
          rcases hc with y | y
          · exact y.2
          · rw [q] at y; exact absurd y.1 (by decide)
        · rcases hc with y | y
          · rw [q] at y; exact absurd y.1 (by decide)
          · rw [q] at y; exact absurd y.1 (by decide)
        · rw [en]
          rcases hc with y | y
          · rw [q] at y; exact absurd y.1 (by decide)
          · exact y.2.2
      · exact rj_P_k hm8 (Nat.le_refl _) (co _ _ (by omega) (by omega)) (fun k q1 q2 => co _ _ (by omega) (by omega)) (fun k q1 q2 => co _ _ (by omega) (by omega)) (hP x hx)
  unfold cShowC
  rw [if_pos hk, hbc, hn, ht]
  by_cases q : rj_N c o m + 1 < t
  · rw [if_pos (nI_lt q (by omega))]
    exact key _ (fun r k q1 _ => do_ q1) (fun j hj => rfl) (Or.inl ⟨by rw [do_ (by omega)]; exact h1, q⟩)
  · rw [if_neg (nI_nlt (by omega) (by omega))]
    refine key _ (fun r k q1 q2 => by rw [cLearn_o q2, do_ q1]) (fun j hj => by rw [cLearn_o (by omega)]) (Or.inr ⟨?_, ?_, by omega⟩)
    · unfold cLearn; rw [rb_u2_at]
    · unfold cLearn; rw [rb_u2_o (by omega), rb_u2_at]; exact hitp
theorem rj_showT (hi : i < m) (ho : o < m) (hio : ¬ i = o) (h1 : c 5 o = 1) (h9 : c 10 (8 * o + i) = -9) (hz : rn_in 257 z) (hp : 2 ≤ ph) (hk : rb_mk (nI i) z = rb_mk (nI i) (c 9 (8 * o + i))) (h : rj_T S m t rd ph c) : rj_T S m t rd ph (cShowC c i o z m) := by
  obtain ⟨a, b, d, e, f⟩ := h
  exact ⟨rj_show hi ho hio h1 h9 hz hp hk a, by rw [cShowC_o hk (by omega) (by omega), b], d, fun q => by rw [cShowC_o hk (by omega) (by omega), e q], rj_D_k (fun k _ => cShowC_o hk (by omega) (by omega)) (cShowC_o hk (by omega) (by omega)) f⟩
/-! all show what they can -/
theorem rj_showI {s : Int32} (ho : o < m) (h : rj_S m t rd 3 c) : ∀ i, i ≤ m → rj_S m t rd 3 (cShowI s o m c i)
  | 0, _ => h
  | i + 1, hi => by
    have ih := rj_showI (s := s) ho h i (by omega)
    have hm8 : m ≤ 8 := h.1.2.2.1
    unfold cShowI
    split
    · rename_i q
      obtain ⟨q1, q2, q3, q4, q5, q6⟩ := q
      exact rj_show (by omega) ho q2 q5 q6 ((ih.2.2 o (by omega)).2.1 (by rw [q5]; decide) i (by omega)) (by decide) rfl ih
    · exact ih
theorem rj_showA {s : Int32} (h : rj_S m t rd 3 c) : ∀ o, o ≤ m → rj_S m t rd 3 (cShowA s m c o)
  | 0, _ => h
  | o + 1, ho => by
    unfold cShowA
    exact rj_showI (by omega) (rj_showA h o (by omega)) m (Nat.le_refl m)
theorem cShowI_id {s : Int32} (h1 : ¬ c 5 o = 1) : ∀ i, cShowI s o m c i = c
  | 0 => rfl
  | i + 1 => by
    unfold cShowI
    rw [cShowI_id h1 i, if_neg (fun q => h1 q.2.2.2.2.1)]
theorem cShowA_id {s : Int32} (h1 : ∀ o, o < m → ¬ c 5 o = 1) : ∀ o, o ≤ m → cShowA s m c o = c
  | 0, _ => rfl
  | o + 1, ho => by
    unfold cShowA
    rw [cShowA_id h1 o (by omega), cShowI_id (h1 o (by omega))]
end RJ
