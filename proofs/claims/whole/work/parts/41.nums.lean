/-! NUMBERS, 2: the givers' bits, the polynomial's value -/
theorem rn_bits1 : ∀ j, j < 8 → ∀ a, a < 2 ^ j → nI a ||| (1 <<< (nI j &&& 31)) = nI (a + 2 ^ j) := by decide +kernel
theorem rn_bits2 : ∀ j, j < 8 → ∀ a, a < 2 ^ j → rb_bc (nI (a + 2 ^ j)) = rb_bc (nI a) + 1 := by decide +kernel
theorem rn_bits3 : ∀ j, j < 8 → ∀ a, a < 2 ^ j → ∀ k, k < 8 → ((nI (a + 2 ^ j) >>> (nI k &&& 31)) &&& 1 = 1 ↔ (k = j ∨ (nI a >>> (nI k &&& 31)) &&& 1 = 1)) := by decide +kernel
theorem rn_bits4 : ∀ k, k < 8 → ¬ (nI 0 >>> (nI k &&& 31)) &&& 1 = 1 := by decide +kernel
def rn_msk (p : Nat → Prop) [DecidablePred p] : Nat → Nat
  | 0 => 0
  | j + 1 => rn_msk p j + (if p j then 2 ^ j else 0)
theorem rn_msk_lt (p : Nat → Prop) [DecidablePred p] : ∀ n, rn_msk p n < 2 ^ n
  | 0 => show 0 < 1 by decide
  | n + 1 => by
    have := rn_msk_lt p n
    unfold rn_msk
    rw [Nat.pow_succ]
    split <;> omega
theorem rn_msk_or (p : Nat → Prop) [DecidablePred p] : ∀ n, n ≤ 8 → rb_or (fun i => if p i then 1 <<< (nI i &&& 31) else 0) n = nI (rn_msk p n)
  | 0, _ => rfl
  | n + 1, h => by
    show rb_or (fun i => if p i then 1 <<< (nI i &&& 31) else 0) n ||| (if p n then 1 <<< (nI n &&& 31) else 0) = nI (rn_msk p n + (if p n then 2 ^ n else 0))
    rw [rn_msk_or p n (by omega)]
    by_cases h1 : p n
    · rw [if_pos h1, if_pos h1, rn_bits1 n (by omega) _ (rn_msk_lt p n)]
    · rw [if_neg h1, if_neg h1, Int32.or_zero, Nat.add_zero]
theorem rn_msk_bc (p : Nat → Prop) [DecidablePred p] : ∀ n, n ≤ 8 → rb_bc (nI (rn_msk p n)) = nI (rn_ct p n)
  | 0, _ => by show rb_bc (nI 0) = nI 0; decide +kernel
  | n + 1, h => by
    have ih := rn_msk_bc p n (by omega)
    unfold rn_msk rn_ct
    by_cases h1 : p n
    · rw [if_pos h1, if_pos h1, rn_bits2 n (by omega) _ (rn_msk_lt p n), ih, nI_1]
    · rw [if_neg h1, if_neg h1, Nat.add_zero, Nat.add_zero, ih]
theorem rn_msk_bit (p : Nat → Prop) [DecidablePred p] {k : Nat} (hk : k < 8) : ∀ n, n ≤ 8 → ((nI (rn_msk p n) >>> (nI k &&& 31)) &&& 1 = 1 ↔ k < n ∧ p k)
  | 0, _ => ⟨fun q => absurd q (rn_bits4 k hk), fun q => absurd q.1 (Nat.not_lt_zero k)⟩
  | n + 1, h => by
    have ih := rn_msk_bit p hk n (by omega)
    unfold rn_msk
    by_cases h1 : p n
    · rw [if_pos h1, rn_bits3 n (by omega) _ (rn_msk_lt p n) k hk, ih]
      constructor
      · rintro (rfl | ⟨h2, h3⟩)
        · exact ⟨by omega, h1⟩
        · exact ⟨by omega, h3⟩
      · rintro ⟨h2, h3⟩
        by_cases e : k = n
        · exact Or.inl e
        · exact Or.inr ⟨by omega, h3⟩
    · rw [if_neg h1, Nat.add_zero, ih]
      constructor
      · exact fun ⟨h2, h3⟩ => ⟨by omega, h3⟩
      · rintro ⟨h2, h3⟩
        refine ⟨?_, h3⟩
        by_cases e : k = n
        · rw [e] at h3; exact absurd h3 h1
        · omega
theorem rn_giv (c : Nat → Nat → Int32) (o m : Nat) (hm8 : m ≤ 8) : cGiv c o m = nI (rn_msk (fun i => ¬ c 10 (8 * o + i) = -9) m) := rn_msk_or (fun i => ¬ c 10 (8 * o + i) = -9) m hm8
theorem rn_giv_bc (c : Nat → Nat → Int32) (o m : Nat) (hm8 : m ≤ 8) : rb_bc (cGiv c o m) = nI (rn_ct (fun i => ¬ c 10 (8 * o + i) = -9) m) := by
  rw [rn_giv c o m hm8, rn_msk_bc _ m hm8]
theorem rn_giv_bit (c : Nat → Nat → Int32) (o m : Nat) (hm8 : m ≤ 8) {k : Nat} (hk : k < 8) : ((cGiv c o m >>> (nI k &&& 31)) &&& 1 = 1) ↔ (k < m ∧ ¬ c 10 (8 * o + k) = -9) := by
  rw [rn_giv c o m hm8]; exact rn_msk_bit _ hk m hm8
theorem rn_fmP : ∀ n, n < 1800 → rb_fm (nI n) 257 = nI (n % 257) := by decide +kernel
theorem rn_fmN : ∀ n, n < 1800 → rb_fm (-(nI n)) 257 = nI ((257 - n % 257) % 257) := by decide +kernel
theorem rn_bot1 {b k j : Nat} (hb : b < 257) (hk : k < 8) (hj : j < 8) : rb_fm (nI b * (nI k - nI j)) 257 = nI (b * ((k + 257 - j) % 257) % 257) := by
  by_cases h : j ≤ k
  · have hd : b * (k - j) < 1800 := Nat.lt_of_le_of_lt (Nat.mul_le_mul (show b ≤ 256 by omega) (show k - j ≤ 7 by omega)) (by decide)
    rw [pk_sub h, pk_mul, rn_fmP _ hd]
    by_cases e : k = j
    · subst e; rw [Nat.sub_self, show k + 257 - k = 257 by omega]
    · rw [show (k + 257 - j) % 257 = k - j by omega]
  · have hd : b * (j - k) < 1800 := Nat.lt_of_le_of_lt (Nat.mul_le_mul (show b ≤ 256 by omega) (show j - k ≤ 7 by omega)) (by decide)
    have e : nI k - nI j = -(nI (j - k)) := by
      rw [← pk_sub (show k ≤ j by omega), Int32.neg_sub]
    rw [e, Int32.mul_neg, pk_mul, rn_fmN _ hd, show (k + 257 - j) % 257 = 257 - (j - k) by omega]
    have hs : b * (257 - (j - k)) + b * (j - k) = 257 * b := by
      rw [← Nat.mul_add, show 257 - (j - k) + (j - k) = 257 by omega, Nat.mul_comm]
    generalize b * (257 - (j - k)) = Q at hs ⊢
    generalize b * (j - k) = R at hs ⊢
    congr 1
    omega
theorem rn_bot2 {b k j : Nat} (hb : b < 257) (hk : k < 8) (hj : j < 8) : rb_rem (nI b * rb_rem (nI k - nI j + 257) 257) 257 = nI (b * ((k + 257 - j) % 257) % 257) := by
  have e : nI k - nI j + 257 = nI (k + 257 - j) := by
    have h1 : nI k - nI j + 257 = nI k + 257 - nI j := by rw [Int32.sub_eq_add_neg, Int32.sub_eq_add_neg]; ac_rfl
    rw [h1, show nI k + 257 = nI (k + 257) from nI_add k 257, pk_sub (by omega)]
  rw [e, rn_r257 (by omega), pk_mul, rn_r257 (rn_mul_lt hb (Nat.mod_lt _ (by decide)) (by decide : 257 * 257 ≤ 2 ^ 31))]
section RNI
variable {x : Int32} {f : Nat → Int32} {j : Nat}
theorem rn_top (hx : ∀ k, k < 8 → ((x >>> (nI k &&& 31)) &&& 1 = 1 ↔ ¬ f k = -9)) {v : Nat} (hv : v < 257) (hf : f j = nI v) : ∀ k, k ≤ 8 → ∃ a, a < 257 ∧ rb_wa x j k = nI a ∧ wTop f j k = nI (v * a % 257)
  | 0, _ => ⟨1, by decide, rfl, by show f j = _; rw [hf, Nat.mul_one, Nat.mod_eq_of_lt hv]⟩
  | k + 1, hk => by
    obtain ⟨a, ha, e1, e2⟩ := rn_top hx hv hf k (by omega)
    have hc : (¬ k = j ∧ (x >>> (nI k &&& 31)) &&& 1 = 1) ↔ (¬ k = j ∧ ¬ f k = -9) := and_congr_right fun _ => hx k (by omega)
    unfold rb_wa wTop
    by_cases h : ¬ k = j ∧ ¬ f k = -9
    · rw [if_pos (hc.mpr h), if_pos h, e1, e2, nI_1, pk_mul, pk_mul, rn_r257 (rn_mul_lt ha (show k + 1 < 9 by omega) (by decide)), rn_r257 (rn_mul_lt (Nat.mod_lt (v * a) (show 0 < 257 by decide)) (show k + 1 < 9 by omega) (by decide))]
      refine ⟨a * (k + 1) % 257, Nat.mod_lt _ (by decide), rfl, ?_⟩
      congr 1
      rw [Nat.mul_mod (v * a % 257), Nat.mod_mod, ← Nat.mul_mod, Nat.mul_assoc, Nat.mul_mod v (a * (k + 1) % 257), Nat.mod_mod, ← Nat.mul_mod]
    · rw [if_neg (fun q => h (hc.mp q)), if_neg h]
      exact ⟨a, ha, e1, e2⟩
theorem rn_bot (hx : ∀ k, k < 8 → ((x >>> (nI k &&& 31)) &&& 1 = 1 ↔ ¬ f k = -9)) (hj : j < 8) : ∀ k, k ≤ 8 → ∃ b, b < 257 ∧ rb_wb x j k = nI b ∧ wBot f j k = nI b
  | 0, _ => ⟨1, by decide, rfl, rfl⟩
  | k + 1, hk => by
    obtain ⟨b, hb, e1, e2⟩ := rn_bot hx hj k (by omega)
    have hc : (¬ k = j ∧ (x >>> (nI k &&& 31)) &&& 1 = 1) ↔ (¬ k = j ∧ ¬ f k = -9) := and_congr_right fun _ => hx k (by omega)
    unfold rb_wb wBot
    by_cases h : ¬ k = j ∧ ¬ f k = -9
    · rw [if_pos (hc.mpr h), if_pos h, e1, e2, rn_bot1 hb (by omega) hj, rn_bot2 hb (by omega) hj]
      exact ⟨_, Nat.mod_lt _ (by decide), rfl, rfl⟩
    · rw [if_neg (fun q => h (hc.mp q)), if_neg h]
      exact ⟨b, hb, e1, e2⟩
theorem rn_term (hx : ∀ k, k < 8 → ((x >>> (nI k &&& 31)) &&& 1 = 1 ↔ ¬ f k = -9)) (hj : j < 8) {v : Nat} (hv : v < 257) (hf : f j = nI v) : rb_rem (f j * rb_wg x j) 257 = rb_rem (wTop f j 8 * rb_pw (wBot f j 8) 255) 257 ∧ rn_in 257 (rb_rem (f j * rb_wg x j) 257) := by
  obtain ⟨a, ha, a1, a2⟩ := rn_top hx hv hf 8 (Nat.le_refl 8)
  obtain ⟨b, hb, b1, b2⟩ := rn_bot hx hj 8 (Nat.le_refl 8)
  have e1 : rb_wg x j = nI (a * rn_pw b 255 % 257) := by
    unfold rb_wg
    rw [a1, b1, rn_iv_pw hb, rn_pw_ok hb, pk_mul, rn_r257 (rn_mul_lt ha (rn_pw_lt b 255) (by decide))]
  have e2 : rb_rem (f j * rb_wg x j) 257 = nI (v * (a * rn_pw b 255 % 257) % 257) := by
    rw [hf, e1, pk_mul, rn_r257 (rn_mul_lt hv (Nat.mod_lt _ (by decide)) (by decide : 257 * 257 ≤ 2 ^ 31))]
  refine ⟨?_, ?_⟩
  · rw [e2, a2, b2, rn_pw_ok hb, pk_mul, rn_r257 (rn_mul_lt (Nat.mod_lt _ (show 0 < 257 by decide)) (rn_pw_lt b 255) (by decide))]
    congr 1
    rw [Nat.mul_mod v, Nat.mod_mod, ← Nat.mul_mod, Nat.mul_mod (v * a % 257), Nat.mod_mod, ← Nat.mul_mod, Nat.mul_assoc]
  · rw [e2]; exact ⟨_, Nat.mod_lt _ (by decide), rfl⟩
end RNI
theorem rn_sum_in {g : Nat → Int32} (hg : ∀ j, rn_in 257 (g j) ∨ 8 ≤ j) : ∀ n, n ≤ 8 → rn_in (257 * n + 1) (rb_sum g n)
  | 0, _ => ⟨0, by decide, rfl⟩
  | n + 1, h => by
    obtain ⟨s, hs, e⟩ := rn_sum_in hg n (by omega)
    rcases hg n with ⟨v, hv, e2⟩ | h8
    · exact ⟨s + v, by omega, by show rb_sum g n + g n = _; rw [e, e2, nI_add]⟩
    · omega
/-- the polynomial's value is the same, taken from either end -/
theorem rn_itp {c : Nat → Nat → Int32} {o m : Nat} {x : Int32} {f : Nat → Int32} (hm8 : m ≤ 8) (hf : ∀ j, j < 8 → f j = c 10 (8 * o + j)) (hv : ∀ j, j < 8 → f j = -9 ∨ rn_in 257 (f j)) (hx : ∀ k, k < 8 → ((x >>> (nI k &&& 31)) &&& 1 = 1 ↔ ¬ f k = -9)) (hm : ∀ j, m ≤ j → j < 8 → f j = -9) : cItp c o x m = wAtZ f ∧ rn_in 257 (wAtZ f) := by
  have e0 : ∀ j, j < 8 → (if (x >>> (nI j &&& 31)) &&& 1 = 1 then rb_rem (c 10 (8 * o + j) * rb_wg x j) 257 else 0) = (if f j = -9 then 0 else rb_rem (wTop f j 8 * rb_pw (wBot f j 8) 255) 257) := by
    intro j hj
    by_cases h : f j = -9
    · rw [if_pos h, if_neg (fun q => (hx j hj).mp q h)]
    · obtain ⟨v, hv1, hv2⟩ := (hv j hj).resolve_left h
      rw [if_neg h, if_pos ((hx j hj).mpr h), ← hf j hj, (rn_term hx hj hv1 hv2).1]
  have e1 : rb_sum (fun j => if f j = -9 then 0 else rb_rem (wTop f j 8 * rb_pw (wBot f j 8) 255) 257) 8 = rb_sum (fun j => if f j = -9 then 0 else rb_rem (wTop f j 8 * rb_pw (wBot f j 8) 255) 257) m := rn_sum_ext hm8 fun j h1 h2 => if_pos (hm j h1 h2)
  refine ⟨?_, ?_⟩
  · unfold cItp wAtZ
    rw [e1, rb_sum_congr (fun j hj => e0 j (by omega))]
  · unfold wAtZ
    obtain ⟨s, hs, e⟩ := rn_sum_in (g := fun j => if f j = -9 then 0 else rb_rem (wTop f j 8 * rb_pw (wBot f j 8) 255) 257) (fun j => by
      by_cases hj : j < 8
      · refine Or.inl ?_
        by_cases h : f j = -9
        · exact ⟨0, by decide, by show (if f j = -9 then 0 else _) = _; rw [if_pos h]; rfl⟩
        · obtain ⟨v, hv1, hv2⟩ := (hv j hj).resolve_left h
          have := rn_term hx hj hv1 hv2
          rw [this.1] at this
          show rn_in 257 (if f j = -9 then 0 else _)
          rw [if_neg h]
          exact this.2
      · exact Or.inr (by omega)) 8 (Nat.le_refl 8)
    rw [e, rn_r257 (by omega)]
    exact ⟨_, Nat.mod_lt _ (by decide), rfl⟩
