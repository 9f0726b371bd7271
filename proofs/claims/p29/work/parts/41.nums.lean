/-! NUMBERS, 2: the givers' bits, the polynomial's value -/
theorem rn_bits1 : ∀ j, j < 8 → ∀ a, a < 2 ^ j → nI a ||| (1 <<< (nI j &&& 31)) = nI (a + 2 ^ j) := by decide +kernel
theorem rn_bits2 : ∀ j, j < 8 → ∀ a, a < 2 ^ j → rb_bc (nI (a + 2 ^ j)) = rb_bc (nI a) + 1 := by decide +kernel
theorem rn_bits3 : ∀ j, j < 8 → ∀ a, a < 2 ^ j → ∀ k, k < 8 → ((nI (a + 2 ^ j) >>> (nI k &&& 31)) &&& 1 = 1 ↔ (k = j ∨ (nI a >>> (nI k &&& 31)) &&& 1 = 1)) := by decide +kernel
theorem rn_bits4 : ∀ k, k < 8 → ¬ (nI 0 >>> (nI k &&& 31)) &&& 1 = 1 := by decide +kernel
def rn_msk (p : Nat → Prop) [DecidablePred p] : Nat → Nat
  | 0 => 0
  | j + 1 => rn_msk p j + (if p j then 2 ^ j else 0)
theorem rn_msk_lt (p : Nat → Prop) [DecidablePred p] : ∀ n, rn_msk p n < 2 ^ n
  | 0 => show 0 < 1 by decide
  | n + 1 => by
    have := rn_msk_lt p n
    unfold rn_msk
    rw [Nat.pow_succ]
    split <;> omega
theorem rn_msk_or (p : Nat → Prop) [DecidablePred p] : ∀ n, n ≤ 8 → rb_or (fun i => if p i then 1 <<< (nI i &&& 31) else 0) n = nI (rn_msk p n)
  | 0, _ => rfl
  | n + 1, h => by
    show rb_or (fun i => if p i then 1 <<< (nI i &&& 31) else 0) n ||| (if p n then 1 <<< (nI n &&& 31) else 0) = nI (rn_msk p n + (if p n then 2 ^ n else 0))
    rw [rn_msk_or p n (by omega)]
    by_cases h1 : p n
    · rw [if_pos h1, if_pos h1, rn_bits1 n (by omega) _ (rn_msk_lt p n)]
    · rw [if_neg h1, if_neg h1, Int32.or_zero, Nat.add_zero]
theorem rn_msk_bc (p : Nat → Prop) [DecidablePred p] : ∀ n, n ≤ 8 → rb_bc (nI (rn_msk p n)) = nI (rn_ct p n)
  | 0, _ => by show rb_bc (nI 0) = nI 0; decide +kernel
  | n + 1, h => by
    have ih := rn_msk_bc p n (by omega)
    unfold rn_msk rn_ct
    by_cases h1 : p n
    · rw [if_pos h1, if_pos h1, rn_bits2 n (by omega) _ (rn_msk_lt p n), ih, nI_1]
    · rw [if_neg h1, if_neg h1, Nat.add_zero, Nat.add_zero, ih]
theorem rn_msk_bit (p : Nat → Prop) [DecidablePred p] {k : Nat} (hk : k < 8) : ∀ n, n ≤ 8 → ((nI (rn_msk p n) >>> (nI k &&& 31)) &&& 1 = 1 ↔ k < n ∧ p k)
  | 0, _ => ⟨fun q => absurd q (rn_bits4 k hk), fun q => absurd q.1 (Nat.not_lt_zero k)⟩
  | n + 1, h => by
    have ih := rn_msk_bit p hk n (by omega)
    unfold rn_msk
    by_cases h1 : p n
    · rw [if_pos h1, rn_bits3 n (by omega) _ (rn_msk_lt p n) k hk, ih]
      constructor
      · rintro (rfl | ⟨h2, h3⟩)
        · exact ⟨by omega, h1⟩
        · exact ⟨by omega, h3⟩
      · rintro ⟨h2, h3⟩
        by_cases e : k = n
        · exact Or.inl e
        · exact Or.inr ⟨by omega, h3⟩
    · rw [if_neg h1, Nat.add_zero, ih]
      constructor
      · exact fun ⟨h2, h3⟩ => ⟨by omega, h3⟩
      · rintro ⟨h2, h3⟩
        refine ⟨?_, h3⟩
        by_cases e : k = n
        · rw [e] at h3; exact absurd h3 h1
        · omega
theorem rn_giv (c : Nat → Nat → Int32) (o m : Nat) (hm8 : m ≤ 8) : cGiv c o m = nI (rn_msk (fun i => ¬ c 10 (8 * o + i) = -9) m) := rn_msk_or (fun i => ¬ c 10 (8 * o + i) = -9) m hm8
theorem rn_giv_bc (c : Nat → Nat → Int32) (o m : Nat) (hm8 : m ≤ 8) : rb_bc (cGiv c o m) = nI (rn_ct (fun i => ¬ c 10 (8 * o + i) = -9) m) := by
  rw [rn_giv c o m hm8, rn_msk_bc _ m hm8]
theorem rn_giv_bit (c : Nat → Nat → Int32) (o m : Nat) (hm8 : m ≤ 8) {k : Nat} (hk : k < 8) : ((cGiv c o m >>> (nI k &&& 31)) &&& 1 = 1) ↔ (k < m ∧ ¬ c 10 (8 * o + k) = -9) := by
  rw [rn_giv c o m hm8]; exact rn_msk_bit _ hk m hm8
theorem rn_fmP : ∀ n, n < 1800 → rb_fm (nI n) 257 = nI (n % 257) := by decide +kernel
theorem rn_fmN : ∀ n, n < 1800 → rb_fm (-(nI n)) 257 = nI ((257 - n % 257) % 257) := by decide +kernel
theorem rn_bot1 {b k j : Nat} (hb : b < 257) (hk : k < 8) (hj : j < 8) : rb_fm (nI b * (nI k - nI j)) 257 = nI (b * ((k + 257 - j) % 257) % 257) := by
  by_cases h : j ≤ k
  · have hd : b * (k - j) < 1800 := Nat.lt_of_le_of_lt (Nat.mul_le_mul (show b ≤ 256 by omega) (show k - j ≤ 7 by omega)) (by decide)
    rw [pk_sub h, pk_mul, rn_fmP _ hd]
    by_cases e : k = j
    · subst e; rw [Nat.sub_self, show k + 257 - k = 257 by omega]
    · rw [show (k + 257 - j) % 257 = k - j by omega]
  · have hd : b * (j - k) < 1800 := Nat.lt_of_le_of_lt (Nat.mul_le_mul (show b ≤ 256 by omega) (show j - k ≤ 7 by omega)) (by decide)
    have e : nI k - nI j = -(nI (j - k)) := by
      rw [← pk_sub (show k ≤ j by omega), Int32.neg_sub]
    rw [e, Int32.mul_neg, pk_mul, rn_fmN _ hd, show (k + 257 - j) % 257 = 257 - (j - k) by omega]
    have hs : b * (257 - (j - k)) + b * (j - k) = 257 * b := by
      rw [← Nat.mul_add, show 257 - (j - k) + (j - k) = 257 by omega, Nat.mul_comm]
    generalize b * (257 - (j - k)) = Q at hs ⊢
    generalize b * (j - k) = R at hs ⊢
    congr 1
    omega
section RNI
variable {x : Int32} {j : Nat}
theorem rn_wa : ∀ k, k ≤ 8 → ∃ a, a < 257 ∧ rb_wa x j k = nI a
  | 0, _ => ⟨1, by decide, rfl⟩
  | k + 1, hk => by
    obtain ⟨a, ha, e1⟩ := rn_wa k (by omega)
    unfold rb_wa
    split
    · rw [e1, nI_1, pk_mul, rn_r257 (rn_mul_lt ha (show k + 1 < 9 by omega) (by decide))]
      exact ⟨a * (k + 1) % 257, Nat.mod_lt _ (by decide), rfl⟩
    · exact ⟨a, ha, e1⟩
theorem rn_wb (hj : j < 8) : ∀ k, k ≤ 8 → ∃ b, b < 257 ∧ rb_wb x j k = nI b
  | 0, _ => ⟨1, by decide, rfl⟩
  | k + 1, hk => by
    obtain ⟨b, hb, e1⟩ := rn_wb hj k (by omega)
    unfold rb_wb
    split
    · rw [e1, rn_bot1 hb (by omega) hj]
      exact ⟨_, Nat.mod_lt _ (by decide), rfl⟩
    · exact ⟨b, hb, e1⟩
theorem rn_wg (hj : j < 8) : rn_in 257 (rb_wg x j) := by
  obtain ⟨a, ha, a1⟩ := rn_wa (x := x) (j := j) 8 (Nat.le_refl 8)
  obtain ⟨b, hb, b1⟩ := rn_wb (x := x) hj 8 (Nat.le_refl 8)
  unfold rb_wg
  rw [a1, b1, rn_iv_pw hb, rn_pw_ok hb, pk_mul, rn_r257 (rn_mul_lt ha (rn_pw_lt b 255) (by decide))]
  exact ⟨_, Nat.mod_lt _ (by decide), rfl⟩
end RNI
theorem rn_sum_in {g : Nat → Int32} (hg : ∀ j, rn_in 257 (g j) ∨ 8 ≤ j) : ∀ n, n ≤ 8 → rn_in (257 * n + 1) (rb_sum g n)
  | 0, _ => ⟨0, by decide, rfl⟩
  | n + 1, h => by
    obtain ⟨s, hs, e⟩ := rn_sum_in hg n (by omega)
    rcases hg n with ⟨v, hv, e2⟩ | h8
    · exact ⟨s + v, by omega, by show rb_sum g n + g n = _; rw [e, e2, nI_add]⟩
    · omega
/-- what is recovered is a number from 0 to 256 -/
theorem rn_itp {c : Nat → Nat → Int32} {o m : Nat} {x : Int32} (hm8 : m ≤ 8) (hx : ∀ j, j < m → (x >>> (nI j &&& 31)) &&& 1 = 1 → rn_in 257 (c 10 (8 * o + j))) : rn_in 257 (cItp c o x m) := by
  unfold cItp
  have e : rb_sum (fun i => if (x >>> (nI i &&& 31)) &&& 1 = 1 then rb_rem (c 10 (8 * o + i) * rb_wg x i) 257 else 0) m = rb_sum (fun i => if i < m then (if (x >>> (nI i &&& 31)) &&& 1 = 1 then rb_rem (c 10 (8 * o + i) * rb_wg x i) 257 else 0) else 0) m := rb_sum_congr fun j hj => by rw [if_pos hj]
  rw [e]
  obtain ⟨s, hs, e2⟩ := rn_sum_in (g := fun i => if i < m then (if (x >>> (nI i &&& 31)) &&& 1 = 1 then rb_rem (c 10 (8 * o + i) * rb_wg x i) 257 else 0) else 0) (fun j => by
    by_cases hj : j < 8
    · refine Or.inl ?_
      show rn_in 257 (if j < m then (if (x >>> (nI j &&& 31)) &&& 1 = 1 then rb_rem (c 10 (8 * o + j) * rb_wg x j) 257 else 0) else 0)
      by_cases h1 : j < m
      · rw [if_pos h1]
        by_cases h2 : (x >>> (nI j &&& 31)) &&& 1 = 1
        · rw [if_pos h2]
          obtain ⟨v, hv, ev⟩ := hx j h1 h2
          obtain ⟨g, hg, eg⟩ := rn_wg (x := x) hj
          rw [ev, eg, pk_mul, rn_r257 (rn_mul_lt hv hg (by decide))]
          exact ⟨_, Nat.mod_lt _ (by decide), rfl⟩
        · rw [if_neg h2]; exact ⟨0, by decide, rfl⟩
      · rw [if_neg h1]; exact ⟨0, by decide, rfl⟩
    · exact Or.inr (by omega)) m hm8
  rw [e2, rn_r257 (by omega)]
  exact ⟨_, Nat.mod_lt _ (by decide), rfl⟩
