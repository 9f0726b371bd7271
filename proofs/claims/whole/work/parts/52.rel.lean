/-! WHAT COULD BE, 2; WHAT WAS -/
theorem rn_no {a : Int32} (h : a < 0) {i : Nat} (hi : i < 8) : ¬ nI i = a := fun q => nI_pos (show i < 2 ^ 31 by omega) (by rw [q]; exact h)
section RW
variable {W : Nat → Nat → Int32} {k r : Nat}
theorem wTake_W (o : Nat) (hr : ¬ r = 5) : ∀ n, wTake W o n r = W r
  | 0 => rfl
  | n + 1 => by unfold wTake; rw [rb_u2_row hr]; exact wTake_W o hr n
theorem wRcO_W {s : Int32} {t m o : Nat} (h1 : ¬ r = 1) (h5 : ¬ r = 5) : wRcO s t m o W r = W r := by
  unfold wRcO
  split
  · rw [rb_u2_row h1, wGvL_1 s o t _ r h5, wTake_W o h5]
  · rfl
theorem wRcA_W {s : Int32} {t m : Nat} (h1 : ¬ r = 1) (h5 : ¬ r = 5) : ∀ n, wRcA s t m W n r = W r
  | 0 => rfl
  | n + 1 => by unfold wRcA; rw [wRcO_W h1 h5]; exact wRcA_W h1 h5 n
theorem wUnc_W {s x : Int32} (h1 : ¬ r = 1) : ∀ n, wUnc s x W n r = W r
  | 0 => rfl
  | n + 1 => by
    unfold wUnc
    split
    · rw [rb_u2_row h1]; exact wUnc_W h1 n
    · exact wUnc_W h1 n
theorem wRel_W (h1 : ¬ r = 1) : ∀ n, wRel W n r = W r
  | 0 => rfl
  | n + 1 => by unfold wRel; rw [rb_u2_row h1]; exact wRel_W h1 n
theorem wHold_6 : ∀ n, wHold W n 6 k = if k < n then W 1 k else W 6 k
  | 0 => by rw [if_neg (Nat.not_lt_zero _)]; rfl
  | n + 1 => by
    unfold wHold
    by_cases e : k = n
    · rw [rb_u2_s ⟨rfl, e⟩, wHold_1 W 1 (by decide), if_pos (show k < n + 1 by omega), e]
    · rw [rb_u2_o (by omega), wHold_6 n]
      by_cases h : k < n
      · rw [if_pos h, if_pos (show k < n + 1 by omega)]
      · rw [if_neg h, if_neg (show ¬ k < n + 1 by omega)]
theorem wSh_2 : ∀ n, wSh W n 2 k = if k < n then W 2 (k + 229) else W 2 k
  | 0 => by rw [if_neg (Nat.not_lt_zero _)]; rfl
  | n + 1 => by
    have e2 : ∀ j, n ≤ j → wSh W n 2 j = W 2 j := fun j hj => by
      have : ∀ q, q ≤ n → wSh W q 2 j = W 2 j := by
        intro q
        induction q with
        | zero => intro _; rfl
        | succ q ih => intro hq; unfold wSh; rw [rb_u2_o (by omega)]; exact ih (by omega)
      exact this n (Nat.le_refl n)
    unfold wSh
    by_cases e : k = n
    · rw [rb_u2_s ⟨rfl, e⟩, e2 _ (by omega), if_pos (show k < n + 1 by omega), e]
    · rw [rb_u2_o (by omega), wSh_2 n]
      by_cases h : k < n
      · rw [if_pos h, if_pos (show k < n + 1 by omega)]
      · rw [if_neg h, if_neg (show ¬ k < n + 1 by omega)]
theorem wCp_i {p j : Nat} : ∀ n, j < n → wCp W p n 2 (229 * p + j) = W 1 j
  | 0, h => absurd h (Nat.not_lt_zero _)
  | n + 1, h => by
    unfold wCp
    by_cases e : j = n
    · subst e; rw [rb_u2_at, wCp_1 W p 1 (by decide)]
    · rw [rb_u2_o (by omega)]; exact wCp_i n (by omega)
theorem wCp_o {p : Nat} : ∀ n, ¬ (229 * p ≤ k ∧ k < 229 * p + n) → wCp W p n 2 k = W 2 k
  | 0, _ => rfl
  | n + 1, h => by unfold wCp; rw [rb_u2_o (by omega)]; exact wCp_o n (by omega)
theorem wUnL_1 {p : Nat} : ∀ n, wUnL W p n 1 k = if k < n then W 2 (229 * p + k) else W 1 k
  | 0 => by rw [if_neg (Nat.not_lt_zero _)]; rfl
  | n + 1 => by
    unfold wUnL
    by_cases e : k = n
    · rw [rb_u2_s ⟨rfl, e⟩, wUnL_W W p 2 (by decide), if_pos (show k < n + 1 by omega), e]
    · rw [rb_u2_o (by omega), wUnL_1 n]
      by_cases h : k < n
      · rw [if_pos h, if_pos (show k < n + 1 by omega)]
      · rw [if_neg h, if_neg (show ¬ k < n + 1 by omega)]
theorem wKp_i {p j : Nat} : ∀ n, j < n → wKp W p n 3 (229 * p + j) = W 1 j
  | 0, h => absurd h (Nat.not_lt_zero _)
  | n + 1, h => by
    unfold wKp
    by_cases e : j = n
    · subst e; rw [rb_u2_at, wKp_W W p 1 (by decide)]
    · rw [rb_u2_o (by omega)]; exact wKp_i n (by omega)
theorem wKp_o {p : Nat} : ∀ n, ¬ (229 * p ≤ k ∧ k < 229 * p + n) → wKp W p n 3 k = W 3 k
  | 0, _ => rfl
  | n + 1, h => by unfold wKp; rw [rb_u2_o (by omega)]; exact wKp_o n (by omega)
theorem wBk_1 {p : Nat} : ∀ n, wBk W p n 1 k = if k < n then W 3 (229 * p + k) else W 1 k
  | 0 => by rw [if_neg (Nat.not_lt_zero _)]; rfl
  | n + 1 => by
    unfold wBk
    by_cases e : k = n
    · rw [rb_u2_s ⟨rfl, e⟩, wBk_W W p 3 (by decide), if_pos (show k < n + 1 by omega), e]
    · rw [rb_u2_o (by omega), wBk_1 n]
      by_cases h : k < n
      · rw [if_pos h, if_pos (show k < n + 1 by omega)]
      · rw [if_neg h, if_neg (show ¬ k < n + 1 by omega)]
/-- what was held comes back -/
theorem wRel_1 {X : Nat → Nat → Int32} (h6 : X 6 = wHold W 229 6) (hk : k < 229) : wRel X 229 1 k = W 1 k := by
  rw [wRel_lo, if_pos hk, h6, wHold_6, if_pos hk]
theorem wIf_W {s x : Int32} {m t : Nat} (h1 : ¬ r = 1) (h5 : ¬ r = 5) (h6 : ¬ r = 6) : wIf W s x m t r = W r := by
  unfold wIf; rw [wRcA_W h1 h5, wUnc_W h1, wHold_1 W r h6]
theorem wIf_6 {s x : Int32} {m t : Nat} : wIf W s x m t 6 = wHold W 229 6 := by
  unfold wIf; rw [wRcA_W (by decide) (by decide), wUnc_W (by decide)]
theorem wUnc_o {s x : Int32} : ∀ n, n ≤ 8 → ¬ (47 ≤ k ∧ k < 47 + n ∧ W 1 (23 + (k - 47)) = 1 ∧ ¬ W 1 (31 + (k - 47)) = -9 ∧ W 1 (47 + (k - 47)) = -9 ∧ (nI (k - 47) = s → ¬ x = 0)) → wUnc s x W n 1 k = W 1 k
  | 0, _, _ => rfl
  | n + 1, hn, h => by
    have ih : ∀ j, ¬ (47 ≤ j ∧ j < 47 + n) → wUnc s x W n 1 j = W 1 j := fun j hj => by
      have : ∀ q, q ≤ n → wUnc s x W q 1 j = W 1 j := by
        intro q
        induction q with
        | zero => intro _; rfl
        | succ q ih =>
          intro hq
          unfold wUnc
          split
          · rw [rb_u2_o (by omega)]; exact ih (by omega)
          · exact ih (by omega)
      exact this n (Nat.le_refl n)
    unfold wUnc
    by_cases e : k = 47 + n
    · subst e
      rw [ih _ (by omega), ih _ (by omega), ih _ (by omega), ih _ (by omega), if_neg, ih _ (by omega)]
      rw [show 47 + n - 47 = n by omega] at h
      exact fun q => h ⟨by omega, by omega, q⟩
    · have i2 := wUnc_o (s := s) (x := x) n (by omega) (fun q => h ⟨q.1, by omega, q.2.2⟩)
      split
      · rw [rb_u2_o (by omega)]; exact i2
      · exact i2
theorem wUnc_u {s x : Int32} {j : Nat} : ∀ n, n ≤ 8 → j < n → W 1 (23 + j) = 1 ∧ ¬ W 1 (31 + j) = -9 ∧ W 1 (47 + j) = -9 ∧ (nI j = s → ¬ x = 0) → wUnc s x W n 1 (47 + j) = W 1 (39 + j)
  | 0, _, h, _ => absurd h (Nat.not_lt_zero _)
  | n + 1, hn, h, hc => by
    unfold wUnc
    by_cases e : j = n
    · subst e
      rw [wUnc_o (k := 23 + j) j (by omega) (by omega), wUnc_o (k := 31 + j) j (by omega) (by omega), wUnc_o (k := 47 + j) j (by omega) (by omega), if_pos hc, rb_u2_at, wUnc_o (k := 39 + j) j (by omega) (by omega)]
    · have i2 := wUnc_u n (by omega) (show j < n by omega) hc
      split
      · rw [rb_u2_o (by omega)]; exact i2
      · exact i2
end RW
section RS
variable {m t rd ph : Nat} {c d e W : Nat → Nat → Int32} {i : Nat}
theorem cUncov_o {s : Int32} {r k : Nat} : ∀ n, ¬ ((r = 5 ∨ r = 8) ∧ k < n ∧ ¬ nI k = s ∧ e 3 k = 1 ∧ e 5 k = 1) → cUncov s e n r k = e r k
  | 0, _ => rfl
  | n + 1, h => by
    have i3 : ∀ j, cUncov s e n 3 j = e 3 j := fun j => by
      have : ∀ q, cUncov s e q 3 j = e 3 j := by
        intro q
        induction q with
        | zero => rfl
        | succ q ih => unfold cUncov; split <;> (try unfold cLearn) <;> (try rw [rb_u2_o (by omega), rb_u2_o (by omega)]) <;> exact ih
      exact this n
    have i5 : cUncov s e n 5 n = e 5 n := cUncov_o n (fun q => by omega)
    have i2 := cUncov_o (s := s) (r := r) (k := k) n (fun q => h ⟨q.1, by omega, q.2.2⟩)
    unfold cUncov
    rw [i3, i5]
    by_cases q : ¬ nI n = s ∧ e 3 n = 1 ∧ e 5 n = 1
    · rw [if_pos q]
      by_cases e1 : k = n
      · subst e1
        have hr : ¬ (r = 5 ∨ r = 8) := fun z => h ⟨z, by omega, q⟩
        unfold cLearn
        rw [rb_u2_o (by omega), rb_u2_o (by omega)]; exact i2
      · unfold cLearn
        rw [rb_u2_o (by omega), rb_u2_o (by omega)]; exact i2
    · rw [if_neg q]; exact i2
theorem cUncov_u {s : Int32} {k : Nat} : ∀ n, k < n → ¬ nI k = s ∧ e 3 k = 1 ∧ e 5 k = 1 → cUncov s e n 5 k = 2 ∧ cUncov s e n 8 k = e 7 k
  | 0, h, _ => absurd h (Nat.not_lt_zero _)
  | n + 1, h, q => by
    by_cases e1 : k = n
    · subst e1
      have i3 : cUncov s e k 3 k = e 3 k := cUncov_o k (fun z => by omega)
      have i5 : cUncov s e k 5 k = e 5 k := cUncov_o k (fun z => by omega)
      have i7 : cUncov s e k 7 k = e 7 k := cUncov_o k (fun z => by omega)
      unfold cUncov
      rw [i3, i5, if_pos q, i7]
      unfold cLearn
      exact ⟨by rw [rb_u2_at], by rw [rb_u2_o (by omega), rb_u2_at]⟩
    · obtain ⟨a, b⟩ := cUncov_u n (show k < n by omega) q
      unfold cUncov
      split
      · unfold cLearn
        exact ⟨by rw [rb_u2_o (by omega), rb_u2_o (by omega)]; exact a, by rw [rb_u2_o (by omega), rb_u2_o (by omega)]; exact b⟩
      · exact ⟨a, b⟩
theorem rs_cond (hph : ph < 2) (h : rs_T m t rd ph c (W 1)) {j : Nat} (hj : j < 8) {q : Prop} : (W 1 (23 + j) = 1 ∧ ¬ W 1 (31 + j) = -9 ∧ W 1 (47 + j) = -9 ∧ q) ↔ (c 3 j = 1 ∧ c 5 j = 1 ∧ q) := by
  have hM := h.1.2.2.1 j hj
  rw [hM.2.1, rs_bound hM, rs_rev hM]
  constructor
  · rintro ⟨a, b, d, e⟩
    refine ⟨a, ?_, e⟩
    rcases rs_st hM with z | z | z | z
    · exact absurd z b
    · exact z
    · exact absurd z d
    · omega
  · rintro ⟨a, b, e⟩
    refine ⟨a, ?_, ?_, e⟩
    · rw [b]; decide
    · rw [b]; decide
theorem rs_outc (h : rs_T m t rd ph c (W 1)) : wOut (wRcA (-9) t m (wHold W 229) m) m = cOut (cShowA (-1) m (cCopy d c) m) m := by
  have hT : rs_T m t rd ph (cCopy d c) (wHold W 229 1) := by rw [wHold_1 W 1 (by decide)]; exact rs_T_copy h
  exact rs_all h.1.1.2.2.1 h.1.1.2.2.2.2.2.1 h.1.1.2.2.2.2.1 (fun i hi => ⟨fun q => absurd q (rn_no (by decide) hi), fun q => absurd q (rn_no (by decide) hi)⟩) (rs_V0 hT)
theorem rs_inf0 (hph : ph < 2) (hi : i < 8) (h : rs_T m t rd ph c (W 1)) : wOut (wIf W (nI i) 0 m t) m = cOut (cTry d c i m false) m := by
  have hT : rs_T m t rd ph (cCopy d c) (wHold W 229 1) := by rw [wHold_1 W 1 (by decide)]; exact rs_T_copy h
  have hm8 : m ≤ 8 := h.1.1.2.2.1
  unfold wIf cTry
  rw [if_neg (show ¬ false = true by decide)]
  generalize cCopy d c = e at hT
  generalize wHold W 229 = X at hT
  have en : ∀ {k : Nat}, k < 8 → (nI k = nI i ↔ k = i) := fun hk => nI_eq (by omega) (by omega)
  refine rs_all hm8 h.1.1.2.2.2.2.2.1 h.1.1.2.2.2.2.1 (fun _ _ => Iff.rfl) (rs_unc (U := fun j => j < m ∧ ¬ nI j = nI i ∧ e 3 j = 1 ∧ e 5 j = 1) hT (fun j u => u.2.2.2) (fun r k q => cUncov_o m q) (fun k u => cUncov_u m u.1 u.2) (fun k q => ?_) (fun k hk u => ?_))
  · refine wUnc_o m hm8 (fun z => q ⟨z.1, by omega, by omega, ?_⟩)
    obtain ⟨a, b, f⟩ := (rs_cond hph hT (show k - 47 < 8 by omega)).mp z.2.2
    exact ⟨fun y => f y rfl, a, b⟩
  · exact wUnc_u m hm8 u.1 ((rs_cond hph hT hk).mpr ⟨u.2.2.1, u.2.2.2, fun y => absurd y u.2.1⟩)
theorem rs_inf1 (hph : ph < 2) (hi : i < m) (h3 : c 3 i = 1) (h5 : c 5 i = 1) (h : rs_T m t rd ph c (W 1)) : wOut (wIf W (nI i) 1 m t) m = cOut (cTry d c i m true) m := by
  have hT : rs_T m t rd ph (cCopy d c) (wHold W 229 1) := by rw [wHold_1 W 1 (by decide)]; exact rs_T_copy h
  have hm8 : m ≤ 8 := h.1.1.2.2.1
  have k3 : cCopy d c 3 i = 1 := by rw [cCopy_row d c 3 (by decide)]; exact h3
  have k5 : cCopy d c 5 i = 1 := by rw [cCopy_row d c 5 (by decide)]; exact h5
  unfold wIf cTry
  rw [if_pos rfl]
  generalize cCopy d c = e at hT k3 k5
  generalize wHold W 229 = X at hT
  have en : ∀ {k : Nat}, k < 8 → (nI k = nI i ↔ k = i) := fun hk => nI_eq (by omega) (by omega)
  have e7 : cUncov (nI i) e m 7 i = e 7 i := cUncov_o m (fun z => by omega)
  refine rs_all hm8 h.1.1.2.2.2.2.2.1 h.1.1.2.2.2.2.1 (fun _ _ => Iff.rfl) (rs_unc (U := fun j => j < m ∧ e 3 j = 1 ∧ e 5 j = 1) hT (fun j u => u.2.2) (fun r k q => ?_) (fun k u => ?_) (fun k q => ?_) (fun k hk u => ?_))
  · unfold cLearn
    have hq : ¬ ((r = 5 ∨ r = 8) ∧ k = i) := fun z => q ⟨z.1, by rw [z.2]; exact ⟨hi, k3, k5⟩⟩
    rw [rb_u2_o (by omega), rb_u2_o (by omega)]
    exact cUncov_o m (fun z => q ⟨z.1, z.2.1, z.2.2.2⟩)
  · by_cases z : k = i
    · subst z
      unfold cLearn
      rw [e7]
      exact ⟨by rw [rb_u2_at], by rw [rb_u2_o (by omega), rb_u2_at]⟩
    · obtain ⟨a, b⟩ := cUncov_u (s := nI i) m u.1 ⟨fun y => z ((en (by omega)).mp y), u.2⟩
      unfold cLearn
      exact ⟨by rw [rb_u2_o (by omega), rb_u2_o (by omega)]; exact a, by rw [rb_u2_o (by omega), rb_u2_o (by omega)]; exact b⟩
  · refine wUnc_o m hm8 (fun z => q ⟨z.1, by omega, by omega, ?_⟩)
    obtain ⟨a, b, f⟩ := (rs_cond hph hT (show k - 47 < 8 by omega)).mp z.2.2
    exact ⟨a, b⟩
  · exact wUnc_u m hm8 u.1 ((rs_cond hph hT hk).mpr ⟨u.2.1, u.2.2, fun _ => by decide⟩)
end RS
