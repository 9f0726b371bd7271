/-! WHAT HOLDS OF A STATE: members, shares, money -/
theorem rb_u2_o {c : Nat → Nat → Int32} {r j r' j' : Nat} {v : Int32} (h : ¬ (r' = r ∧ j' = j)) : rb_u2 c r j v r' j' = c r' j' := by rw [rb_u2_get, if_neg h]
theorem rb_u2_s {c : Nat → Nat → Int32} {r j r' j' : Nat} {v : Int32} (h : r' = r ∧ j' = j) : rb_u2 c r j v r' j' = v := by rw [rb_u2_get, if_pos h]
theorem rb_u1_o {c : Nat → Nat → Int32} {r r' : Nat} {f : Nat → Int32} (j' : Nat) (h : ¬ r' = r) : rb_u1 c r f r' j' = c r' j' := by rw [rb_u1_row h]
theorem rb_u1_s {c : Nat → Nat → Int32} {r r' : Nat} {f : Nat → Int32} (j' : Nat) (h : r' = r) : rb_u1 c r f r' j' = f j' := by subst h; rw [rb_u1_at]
def rj_H (m t rd : Nat) (c : Nat → Nat → Int32) : Prop := c 11 0 = nI m ∧ 2 ≤ m ∧ m ≤ 8 ∧ c 11 1 = nI t ∧ 1 ≤ t ∧ t ≤ m ∧ c 11 3 = nI rd ∧ rd < 30 ∧ rn_in (2 ^ 31) (c 11 7) ∧ (∀ j, j < 6 → rn_in 21 (c 0 j))
def rj_K (ph : Nat) (c : Nat → Nat → Int32) (i : Nat) : Prop := c 5 i = 1 ∨ (1 ≤ ph ∧ c 5 i = 2 ∧ rn_in 257 (c 8 i)) ∨ (2 ≤ ph ∧ c 5 i = 3 ∧ rn_in 257 (c 8 i))
def rj_M (ph : Nat) (c : Nat → Nat → Int32) (i : Nat) : Prop := (c 3 i = 0 ∨ c 3 i = 1) ∧ (c 5 i = 0 ∨ (rn_in 10007 (c 6 i) ∧ rn_in 256 (c 7 i) ∧ rj_K ph c i))
def rj_N (c : Nat → Nat → Int32) (o m : Nat) : Nat := rn_ct (fun j => ¬ c 10 (8 * o + j) = -9) m
def rj_P (m t ph : Nat) (c : Nat → Nat → Int32) (o : Nat) : Prop := (∀ j, j < 8 → c 10 (8 * o + j) = -9 ∨ (j < m ∧ ¬ j = o ∧ 2 ≤ ph ∧ rn_in 257 (c 10 (8 * o + j)) ∧ rb_mk (nI j) (c 10 (8 * o + j)) = rb_mk (nI j) (c 9 (8 * o + j)))) ∧ (¬ c 5 o = 0 → ∀ j, j < m → rn_in 257 (c 9 (8 * o + j))) ∧ (c 5 o = 0 → ∀ j, j < 8 → c 10 (8 * o + j) = -9) ∧ (c 5 o = 1 → rj_N c o m < t) ∧ (c 5 o = 2 → rj_N c o m < t) ∧ (c 5 o = 3 → rj_N c o m = t)
def rj_S (m t rd ph : Nat) (c : Nat → Nat → Int32) : Prop := rj_H m t rd c ∧ (∀ i, i < 8 → rj_M ph c i) ∧ (∀ o, o < 8 → rj_P m t ph c o)
def rj_sN (D : Nat → Nat) : Nat → Nat
  | 0 => 0
  | n + 1 => rj_sN D n + D n
def rj_D (S m : Nat) (c : Nat → Nat → Int32) : Prop := ∃ (D : Nat → Nat) (p : Nat), (∀ i, i < m → c 2 i = nI (D i)) ∧ c 11 6 = nI p ∧ rj_sN D m + p = S
def rj_T (S m t rd ph : Nat) (c : Nat → Nat → Int32) : Prop := rj_S m t rd ph c ∧ c 11 4 = nI ph ∧ ph ≤ 3 ∧ (ph < 3 → c 1 rd = -9) ∧ rj_D S m c
section RJ
variable {S m t rd ph ph' i o : Nat} {c c' : Nat → Nat → Int32}
theorem rj_H_k (hc : ∀ k, k = 0 ∨ k = 1 ∨ k = 3 ∨ k = 7 → c' 11 k = c 11 k) (h0 : ∀ j, j < 6 → c' 0 j = c 0 j) (h : rj_H m t rd c) : rj_H m t rd c' := by
  obtain ⟨a, b, d, e, f, g, i, j, k, l⟩ := h
  refine ⟨?_, b, d, ?_, f, g, ?_, j, ?_, fun j hj => ?_⟩
  · rw [hc 0 (by omega), a]
  · rw [hc 1 (by omega), e]
  · rw [hc 3 (by omega), i]
  · rw [hc 7 (by omega)]; exact k
  · rw [h0 j hj]; exact l j hj
theorem rj_M_k (hp : ph ≤ ph') (h3 : c' 3 i = c 3 i) (h5 : c' 5 i = c 5 i) (h6 : c' 6 i = c 6 i) (h7 : c' 7 i = c 7 i) (h8 : c' 8 i = c 8 i) (h : rj_M ph c i) : rj_M ph' c' i := by
  unfold rj_M rj_K
  rw [h3, h5, h6, h7, h8]
  obtain ⟨a, h⟩ := h
  refine ⟨a, ?_⟩
  rcases h with h | ⟨b, d, h⟩
  · exact Or.inl h
  · refine Or.inr ⟨b, d, ?_⟩
    rcases h with h | ⟨e, h⟩ | ⟨e, h⟩
    · exact Or.inl h
    · exact Or.inr (Or.inl ⟨by omega, h⟩)
    · exact Or.inr (Or.inr ⟨by omega, h⟩)
theorem rj_N_k (hm : m ≤ 8) (h10 : ∀ k, 8 * o ≤ k → k < 8 * o + 8 → c' 10 k = c 10 k) : rj_N c' o m = rj_N c o m := rn_ct_cong fun j hj => by rw [h10 _ (by omega) (by omega)]
theorem rj_P_k (hm : m ≤ 8) (hp : ph ≤ ph') (h5 : c' 5 o = c 5 o) (h9 : ∀ k, 8 * o ≤ k → k < 8 * o + 8 → c' 9 k = c 9 k) (h10 : ∀ k, 8 * o ≤ k → k < 8 * o + 8 → c' 10 k = c 10 k) (h : rj_P m t ph c o) : rj_P m t ph' c' o := by
  obtain ⟨a, b, d, e, f, g⟩ := h
  have en := rj_N_k (c := c) (c' := c') (o := o) hm h10
  refine ⟨fun j hj => ?_, fun q j hj => ?_, fun q j hj => ?_, fun q => ?_, fun q => ?_, fun q => ?_⟩
  · rw [h10 _ (by omega) (by omega), h9 _ (by omega) (by omega)]
    rcases a j hj with z | ⟨z1, z2, z3, z4⟩
    · exact Or.inl z
    · exact Or.inr ⟨z1, z2, by omega, z4⟩
  · rw [h5] at q; rw [h9 _ (by omega) (by omega)]; exact b q j hj
  · rw [h5] at q; rw [h10 _ (by omega) (by omega)]; exact d q j hj
  · rw [h5] at q; rw [en]; exact e q
  · rw [h5] at q; rw [en]; exact f q
  · rw [h5] at q; rw [en]; exact g q
/-- what changes nothing that the members' standing looks at -/
theorem rj_S_k (hp : ph ≤ ph') (hc : ∀ k, k = 0 ∨ k = 1 ∨ k = 3 ∨ k = 7 → c' 11 k = c 11 k) (hr : ∀ r j, r < 11 → ¬ (r = 1 ∨ r = 2 ∨ r = 4) → c' r j = c r j) (h : rj_S m t rd ph c) : rj_S m t rd ph' c' := by
  obtain ⟨a, b, d⟩ := h
  have hm8 : m ≤ 8 := a.2.2.1
  exact ⟨rj_H_k hc (fun j _ => hr 0 j (by omega) (by omega)) a, fun i hi => rj_M_k hp (hr _ _ (by omega) (by omega)) (hr _ _ (by omega) (by omega)) (hr _ _ (by omega) (by omega)) (hr _ _ (by omega) (by omega)) (hr _ _ (by omega) (by omega)) (b i hi), fun o ho => rj_P_k hm8 hp (hr _ _ (by omega) (by omega)) (fun k _ _ => hr _ _ (by omega) (by omega)) (fun k _ _ => hr _ _ (by omega) (by omega)) (d o ho)⟩
theorem rj_D_k (h2 : ∀ i, i < m → c' 2 i = c 2 i) (h6 : c' 11 6 = c 11 6) (h : rj_D S m c) : rj_D S m c' := by
  obtain ⟨D, p, a, b, d⟩ := h
  exact ⟨D, p, fun i hi => by rw [h2 i hi, a i hi], by rw [h6, b], d⟩
theorem rj_T_k (hc : ∀ k, k = 0 ∨ k = 1 ∨ k = 3 ∨ k = 4 ∨ k = 6 ∨ k = 7 → c' 11 k = c 11 k) (hr : ∀ r j, r < 11 → ¬ r = 4 → c' r j = c r j) (h : rj_T S m t rd ph c) : rj_T S m t rd ph c' := by
  obtain ⟨a, b, d, e, f⟩ := h
  refine ⟨rj_S_k (Nat.le_refl _) (fun k hk => hc k (by omega)) (fun r j h1 h2 => hr r j h1 (by omega)) a, ?_, d, fun q => ?_, rj_D_k (fun i _ => hr 2 i (by omega) (by omega)) (hc 6 (by omega)) f⟩
  · rw [hc 4 (by omega), b]
  · rw [hr 1 rd (by omega) (by omega), e q]
theorem rj_T_copy {d : Nat → Nat → Int32} (h : rj_T S m t rd ph c) : rj_T S m t rd ph (cCopy d c) := rj_T_k (fun k hk => cCopy_11 d c k (by omega)) (fun r j hr _ => by rw [cCopy_row d c r hr]) h
theorem rj_st (h : rj_M ph c i) : c 5 i = 0 ∨ c 5 i = 1 ∨ c 5 i = 2 ∨ c 5 i = 3 := by
  rcases h.2 with h | ⟨_, _, h | h | h⟩
  · exact Or.inl h
  · exact Or.inr (Or.inl h)
  · exact Or.inr (Or.inr (Or.inl h.2.1))
  · exact Or.inr (Or.inr (Or.inr h.2.1))
/-! money -/
theorem rj_sN_up {D D' : Nat → Nat} {x y : Nat} (hi : D' i + x = D i + y) (hk : ∀ k, ¬ k = i → D' k = D k) : ∀ n, (n ≤ i → rj_sN D' n = rj_sN D n) ∧ (i < n → rj_sN D' n + x = rj_sN D n + y)
  | 0 => ⟨fun _ => rfl, fun h => absurd h (Nat.not_lt_zero _)⟩
  | n + 1 => by
    obtain ⟨a, b⟩ := rj_sN_up hi hk n
    refine ⟨fun h => ?_, fun h => ?_⟩
    · show rj_sN D' n + D' n = rj_sN D n + D n
      rw [a (by omega), hk n (by omega)]
    · show rj_sN D' n + D' n + x = rj_sN D n + D n + y
      by_cases e : n = i
      · subst e
        have := a (Nat.le_refl _)
        omega
      · have := b (by omega)
        rw [hk n e]
        omega
theorem rj_sN_le {D : Nat → Nat} : ∀ {n}, i < n → D i ≤ rj_sN D n
  | 0, h => absurd h (Nat.not_lt_zero _)
  | n + 1, h => by
    show D i ≤ rj_sN D n + D n
    by_cases e : i = n
    · subst e; omega
    · have := rj_sN_le (D := D) (show i < n by omega); omega
theorem rj_sN_dep {D : Nat → Nat} : ∀ n, (∀ i, i < n → c 2 i = nI (D i)) → cDep c n = nI (rj_sN D n)
  | 0, _ => rfl
  | n + 1, h => by
    show rb_sum (fun i => c 2 i) n + c 2 n = nI (rj_sN D n + D n)
    have := rj_sN_dep (D := D) n (fun i hi => h i (by omega))
    unfold cDep at this
    rw [this, h n (by omega), nI_add]
theorem rj_sum (h : rj_D S m c) : cDep c m + c 11 6 = nI S := by
  obtain ⟨D, p, a, b, d⟩ := h
  rw [rj_sN_dep m a, b, nI_add, d]
theorem rj_min {a d : Nat} (ha : a < 2 ^ 31) (hd : d < 2 ^ 31) : rb_min (nI a) (nI d) = nI (min a d) := by
  unfold rb_min
  by_cases h : d < a
  · rw [if_pos (nI_lt h ha), Nat.min_eq_right (by omega)]
  · rw [if_neg (nI_nlt (by omega) hd), Nat.min_eq_left (by omega)]
theorem rj_sub {a b : Nat} (h : b ≤ a) : nI a + -(nI b) = nI (a - b) := by
  rw [← Int32.sub_eq_add_neg, pk_sub h]
theorem rj_fineD (hi : i < m) {a : Nat} (ha : a < 21) (hS : S < 2 ^ 31) (h : rj_D S m c) : rj_D S m (cFine c i (nI a)) := by
  obtain ⟨D, p, h2, h6, hs⟩ := h
  have hd : D i ≤ rj_sN D m := rj_sN_le hi
  have e1 : rb_min (nI a) (c 2 i) = nI (min a (D i)) := by rw [h2 i hi, rj_min (by omega) (by omega)]
  refine ⟨fun k => if k = i then D i - min a (D i) else D k, p + min a (D i), fun k hk => ?_, ?_, ?_⟩
  · unfold cFine
    rw [rb_u2_o (by omega), rb_u2_o (by omega)]
    show _ = nI (if k = i then D i - min a (D i) else D k)
    by_cases e : k = i
    · subst e
      rw [rb_u2_at, e1, h2 k hk, if_pos rfl, rj_sub (Nat.min_le_right _ _)]
    · rw [rb_u2_o (by omega), if_neg e, h2 k hk]
  · unfold cFine
    rw [rb_u2_o (by omega), rb_u2_at, e1, h6, nI_add]
  · have := (rj_sN_up (i := i) (D := D) (D' := fun k => if k = i then D i - min a (D i) else D k) (x := min a (D i)) (y := 0) (by
      have := Nat.min_le_right a (D i)
      show (if i = i then D i - min a (D i) else D i) + min a (D i) = D i + 0
      rw [if_pos rfl]; omega) (fun k hk => if_neg hk) m).2 hi
    omega
theorem cFine_o {a : Int32} {r k : Nat} (h1 : ¬ (r = 2 ∧ k = i)) (h2 : ¬ (r = 11 ∧ k = 6)) (h3 : ¬ (r = 4 ∧ k = i)) : cFine c i a r k = c r k := by
  unfold cFine; rw [rb_u2_o h3, rb_u2_o h2, rb_u2_o h1]
theorem rj_fineS1 {a : Int32} (h : rj_S m t rd ph c) : rj_S m t rd ph (cFine c i a) := rj_S_k (Nat.le_refl _) (fun k hk => cFine_o (by omega) (by omega) (by omega)) (fun r j h1 h2 => cFine_o (by omega) (by omega) (by omega)) h
theorem rj_fineT (hi : i < m) {a : Int32} (ha : rn_in 21 a) (hS : S < 2 ^ 31) (h : rj_T S m t rd ph c) : rj_T S m t rd ph (cFine c i a) := by
  obtain ⟨x, hx, rfl⟩ := ha
  obtain ⟨b, d, e, f, g⟩ := h
  exact ⟨rj_fineS1 b, by rw [cFine_o (by omega) (by omega) (by omega), d], e, fun q => by rw [cFine_o (by omega) (by omega) (by omega), f q], rj_fineD hi hx hS g⟩
theorem cFineS_o {r j : Nat} (h2 : ¬ r = 2) (h6 : ¬ (r = 11 ∧ j = 6)) (h4 : ¬ r = 4) : ∀ k, cFineS c k r j = c r j
  | 0 => rfl
  | k + 1 => by
    unfold cFineS
    split
    · rw [cFine_o (by omega) (by omega) (by omega)]; exact cFineS_o h2 h6 h4 k
    · exact cFineS_o h2 h6 h4 k
theorem rj_fineSs (h : rj_S m t rd ph c) (k : Nat) : rj_S m t rd ph (cFineS c k) := rj_S_k (Nat.le_refl _) (fun j hj => cFineS_o (by omega) (by omega) (by omega) k) (fun r j h1 h2 => cFineS_o (by omega) (by omega) (by omega) k) h
theorem rj_fineSD (hS : S < 2 ^ 31) (h3 : rn_in 21 (c 0 3)) (h : rj_D S m c) : ∀ k, k ≤ m → rj_D S m (cFineS c k)
  | 0, _ => h
  | k + 1, hk => by
    have ih := rj_fineSD hS h3 h k (by omega)
    unfold cFineS
    split
    · rw [cFineS_o (r := 0) (j := 3) (by omega) (by omega) (by omega)]
      obtain ⟨x, hx, e⟩ := h3
      rw [e]
      exact rj_fineD (by omega) hx hS ih
    · exact ih
end RJ
