/-! NUMBERS, 1: sums, counts, remainders -/
theorem rn_sum_add (f g : Nat → Int32) (n : Nat) : rb_sum (fun i => f i + g i) n = rb_sum f n + rb_sum g n := by
  induction n with
  | zero => rfl
  | succ n ih =>
    show rb_sum (fun i => f i + g i) n + (f n + g n) = rb_sum f n + f n + (rb_sum g n + g n)
    rw [ih]; ac_rfl
theorem rn_sum_zero {f : Nat → Int32} {a : Nat} : ∀ d, (∀ j, a ≤ j → j < a + d → f j = 0) → rb_sum f (a + d) = rb_sum f a
  | 0, _ => rfl
  | d + 1, h => by
    show rb_sum f (a + d) + f (a + d) = rb_sum f a
    rw [rn_sum_zero d (fun j h1 h2 => h j h1 (by omega)), h (a + d) (by omega) (by omega), Int32.add_zero]
theorem rn_sum_ext {f : Nat → Int32} {a b : Nat} (hab : a ≤ b) (h : ∀ j, a ≤ j → j < b → f j = 0) : rb_sum f b = rb_sum f a := by
  have := rn_sum_zero (f := f) (a := a) (b - a) (fun j h1 h2 => h j h1 (by omega))
  rw [show a + (b - a) = b by omega] at this
  exact this
def rn_ct (p : Nat → Prop) [DecidablePred p] : Nat → Nat
  | 0 => 0
  | n + 1 => rn_ct p n + (if p n then 1 else 0)
theorem rn_ct_le (p : Nat → Prop) [DecidablePred p] : ∀ n, rn_ct p n ≤ n
  | 0 => Nat.le_refl _
  | n + 1 => by
    have := rn_ct_le p n
    unfold rn_ct
    split <;> omega
theorem rn_sum_bi (p : Nat → Prop) [DecidablePred p] : ∀ n, rb_sum (fun i => rb_bi (p i)) n = nI (rn_ct p n)
  | 0 => rfl
  | n + 1 => by
    show rb_sum (fun i => rb_bi (p i)) n + rb_bi (p n) = nI (rn_ct p n + (if p n then 1 else 0))
    rw [rn_sum_bi p n]
    by_cases h : p n
    · rw [rb_bi_pos h, if_pos h, nI_1]
    · rw [rb_bi_neg h, if_neg h, Int32.add_zero]; rfl
theorem rn_ct_cong {p q : Nat → Prop} [DecidablePred p] [DecidablePred q] : ∀ {n : Nat}, (∀ k, k < n → (p k ↔ q k)) → rn_ct p n = rn_ct q n
  | 0, _ => rfl
  | n + 1, h => by
    unfold rn_ct
    rw [rn_ct_cong (fun k hk => h k (by omega))]
    by_cases h1 : p n
    · rw [if_pos h1, if_pos ((h n (by omega)).mp h1)]
    · rw [if_neg h1, if_neg (fun q => h1 ((h n (by omega)).mpr q))]
theorem rn_ct_zero {p : Nat → Prop} [DecidablePred p] : ∀ {n : Nat}, rn_ct p n = 0 ↔ ∀ k, k < n → ¬ p k
  | 0 => ⟨fun _ k hk => absurd hk (Nat.not_lt_zero k), fun _ => rfl⟩
  | n + 1 => by
    have ih := rn_ct_zero (p := p) (n := n)
    unfold rn_ct
    by_cases h1 : p n
    · rw [if_pos h1]
      exact ⟨fun q => by omega, fun q => absurd h1 (q n (by omega))⟩
    · rw [if_neg h1, Nat.add_zero, ih]
      constructor
      · intro q k hk
        by_cases e : k = n
        · rw [e]; exact h1
        · exact q k (by omega)
      · exact fun q k hk => q k (by omega)
theorem rn_ct_ext {p : Nat → Prop} [DecidablePred p] {a : Nat} : ∀ d, (∀ j, a ≤ j → j < a + d → ¬ p j) → rn_ct p (a + d) = rn_ct p a
  | 0, _ => rfl
  | d + 1, h => by
    show rn_ct p (a + d) + (if p (a + d) then 1 else 0) = rn_ct p a
    rw [rn_ct_ext d (fun j h1 h2 => h j h1 (by omega)), if_neg (h (a + d) (by omega) (by omega)), Nat.add_zero]
theorem rn_ct_up {p : Nat → Prop} [DecidablePred p] {a b : Nat} (hab : a ≤ b) (h : ∀ j, a ≤ j → j < b → ¬ p j) : rn_ct p b = rn_ct p a := by
  have := rn_ct_ext (p := p) (a := a) (b - a) (fun j h1 h2 => h j h1 (by omega))
  rw [show a + (b - a) = b by omega] at this
  exact this
theorem rn_ct_set {p q : Nat → Prop} [DecidablePred p] [DecidablePred q] {i : Nat} (hp : ¬ p i) (hq : q i) (h : ∀ k, ¬ k = i → (q k ↔ p k)) : ∀ {n : Nat}, i < n → rn_ct q n = rn_ct p n + 1
  | 0, hi => absurd hi (Nat.not_lt_zero i)
  | n + 1, hi => by
    unfold rn_ct
    by_cases e : i = n
    · subst e
      rw [if_pos hq, if_neg hp, rn_ct_cong (p := q) (q := p) (fun k hk => h k (by omega))]
    · rw [rn_ct_set hp hq h (show i < n by omega)]
      by_cases h1 : p n
      · rw [if_pos h1, if_pos ((h n (fun q => e q.symm)).mpr h1)]
      · rw [if_neg h1, if_neg (fun q => h1 ((h n (fun q => e q.symm)).mp q))]
/-- counted along what lists them in order -/
theorem rn_ct_list {p : Nat → Prop} [DecidablePred p] {e : Nat → Nat} (he : ∀ a b, a < b → e a < e b) (hp : ∀ x, p x → ∃ k, x = e k) : ∀ (N K : Nat), (∀ k, k < K → e k < N) → (∀ k, K ≤ k → N ≤ e k) → rn_ct p N = rn_ct (fun k => p (e k)) K
  | 0, K, h1, _ => by
    cases K with
    | zero => rfl
    | succ K => exact absurd (h1 0 (by omega)) (Nat.not_lt_zero _)
  | N + 1, K, h1, h2 => by
    by_cases hK : ∃ k, k < K ∧ e k = N
    · obtain ⟨k, hk, ek⟩ := hK
      have hk1 : k + 1 = K := by
        by_cases q : k + 1 < K
        · have := h1 (k + 1) q
          have := he k (k + 1) (by omega)
          omega
        · omega
      subst hk1
      have ih := rn_ct_list he hp N k (fun j hj => by have := he j k hj; omega) (fun j hj => by
        by_cases q : j = k
        · rw [q, ek]; exact Nat.le_refl _
        · have := he k j (by omega); omega)
      show rn_ct p N + (if p N then 1 else 0) = rn_ct (fun k => p (e k)) k + (if p (e k) then 1 else 0)
      rw [ih, ek]
    · have h3 : ¬ p N := fun q => by
        obtain ⟨k, ek⟩ := hp N q
        by_cases hk : k < K
        · exact hK ⟨k, hk, ek.symm⟩
        · have := h2 k (by omega); omega
      have ih := rn_ct_list he hp N K (fun j hj => by
        have := h1 j hj
        have : ¬ e j = N := fun q => hK ⟨j, hj, q⟩
        omega) (fun j hj => by have := h2 j hj; omega)
      show rn_ct p N + (if p N then 1 else 0) = _
      rw [if_neg h3, ih]; rfl
def rn_in (N : Nat) (x : Int32) : Prop := ∃ v, v < N ∧ x = nI v
theorem rn_in_ne {N : Nat} {x : Int32} (h : rn_in N x) (hN : N ≤ 2 ^ 31) : ¬ x = -9 := by
  obtain ⟨v, hv, rfl⟩ := h
  intro q
  have h1 : (nI v).toInt = (v : Int) := nI_toInt (by omega)
  rw [q] at h1
  have h2 : (-9 : Int32).toInt = -9 := by decide
  omega
theorem rn_in_of {N : Nat} {x : Int32} (hN : N < 2 ^ 31) (h : 0 ≤ x ∧ x < nI N) : rn_in N x := by
  obtain ⟨v, hv, rfl⟩ := nI_of (Int32.not_lt.mpr h.1)
  exact ⟨v, (nI_ltI hv hN).mp h.2, rfl⟩
theorem rn_in_mono {N M : Nat} {x : Int32} (h : rn_in N x) (hM : N ≤ M) : rn_in M x := by
  obtain ⟨v, hv, e⟩ := h; exact ⟨v, by omega, e⟩
theorem rn_in_lt {N : Nat} {x : Int32} (hN : N < 2 ^ 31) (h : rn_in N x) : ¬ x < 0 ∧ x < nI N := by
  obtain ⟨v, hv, rfl⟩ := h
  exact ⟨nI_pos (by omega), nI_lt hv hN⟩
theorem rn_r257 {a : Nat} (h : a < 2 ^ 31) : rb_rem (nI a) 257 = nI (a % 257) := rb_rem_nI (b := 257) h (by decide) (by decide)
theorem rn_r10007 {a : Nat} (h : a < 2 ^ 31) : rb_rem (nI a) 10007 = nI (a % 10007) := rb_rem_nI (b := 10007) h (by decide) (by decide)
def rn_pw (b : Nat) : Nat → Nat
  | 0 => 1
  | e + 1 => (rn_pw b e * b) % 257
theorem rn_pw_lt (b : Nat) : ∀ e, rn_pw b e < 257
  | 0 => show 1 < 257 by decide
  | _ + 1 => Nat.mod_lt _ (by decide)
theorem rn_mul_lt {a b A B : Nat} (ha : a < A) (hb : b < B) (h : A * B ≤ 2 ^ 31) : a * b < 2 ^ 31 := Nat.lt_of_lt_of_le (Nat.mul_lt_mul'' ha hb) h
theorem rn_pw_ok {b : Nat} (hb : b < 257) : ∀ e, rb_pw (nI b) e = nI (rn_pw b e)
  | 0 => rfl
  | e + 1 => by
    unfold rb_pw rn_pw
    rw [rn_pw_ok hb e, pk_mul, rn_r257 (rn_mul_lt (rn_pw_lt b e) hb (by decide))]
theorem rn_pw_pow (b : Nat) : ∀ e, rn_pw b e = b ^ e % 257
  | 0 => rfl
  | e + 1 => by
    unfold rn_pw
    rw [rn_pw_pow b e, Nat.pow_succ, Nat.mul_mod, Nat.mod_mod, ← Nat.mul_mod]
def rn_iv (b : Nat) : Nat → Nat
  | 0 => 1
  | e + 1 => (rn_iv b e * rn_iv b e * b) % 257
theorem rn_iv_lt (b : Nat) : ∀ e, rn_iv b e < 257
  | 0 => show 1 < 257 by decide
  | _ + 1 => Nat.mod_lt _ (by decide)
theorem rn_iv_ok {b : Nat} (hb : b < 257) : ∀ e, rb_iv (nI b) e = nI (rn_iv b e)
  | 0 => rfl
  | e + 1 => by
    unfold rb_iv rn_iv
    have h1 : rn_iv b e * rn_iv b e < 257 * 257 := Nat.mul_lt_mul'' (rn_iv_lt b e) (rn_iv_lt b e)
    rw [rn_iv_ok hb e, pk_mul, pk_mul, rn_r257 (rn_mul_lt h1 hb (by decide))]
theorem rn_iv_pow (b : Nat) : ∀ e, rn_iv b e = b ^ (2 ^ e - 1) % 257
  | 0 => rfl
  | e + 1 => by
    unfold rn_iv
    have h0 : 0 < 2 ^ e := Nat.two_pow_pos e
    have h1 : 2 ^ (e + 1) - 1 = (2 ^ e - 1) + (2 ^ e - 1) + 1 := by rw [Nat.pow_succ]; omega
    rw [rn_iv_pow b e, h1, Nat.pow_succ, Nat.pow_add]
    rw [Nat.mul_mod, ← Nat.mul_mod (b ^ (2 ^ e - 1)) (b ^ (2 ^ e - 1)) 257, ← Nat.mul_mod]
theorem rn_iv_pw {b : Nat} (hb : b < 257) : rb_iv (nI b) 8 = rb_pw (nI b) 255 := by
  rw [rn_iv_ok hb, rn_pw_ok hb, rn_iv_pow, rn_pw_pow]
