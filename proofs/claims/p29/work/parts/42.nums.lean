/-! NUMBERS, 3: salts that open a commitment, seeds -/
theorem rn_lt0 (x : Int32) : x < 0 ↔ x.toBitVec.msb = true := by
  rw [BitVec.msb_eq_toInt, decide_eq_true_eq, Int32.lt_iff_toInt_lt]; exact Iff.rfl
theorem rn_msbx (a b : Int32) : (a ^^^ b).toBitVec.msb = (a.toBitVec.msb ^^ b.toBitVec.msb) := by rw [Int32.toBitVec_xor, BitVec.msb_xor]
theorem rn_msbF {x : Int32} (h : ¬ x < 0) : x.toBitVec.msb = false := by
  rw [rn_lt0] at h; exact Bool.eq_false_iff.mpr h
theorem rn_xorP {a b : Int32} (ha : ¬ a < 0) (hb : ¬ b < 0) : 0 ≤ a ^^^ b := by
  refine Int32.not_lt.mp (fun q => ?_)
  rw [rn_lt0, rn_msbx, rn_msbF ha, rn_msbF hb] at q
  cases q
theorem rn_xorN {a b : Int32} (ha : a < 0) (hb : ¬ b < 0) : ¬ 0 ≤ a ^^^ b := by
  refine Int32.not_le.mpr ?_
  rw [rn_lt0, rn_msbx, (rn_lt0 a).mp ha, rn_msbF hb]
  rfl
theorem rn_fm_sub {a b : Nat} (ha : a < 10007) (hb : b < 10007) : rb_fm (nI a - nI b) 10007 = nI ((a + 10007 - b) % 10007) := by
  have hM : ¬ (10007 : Int32) < 0 := by decide
  by_cases h : b ≤ a
  · rw [pk_sub h]
    unfold rb_fm
    rw [if_pos (rn_xorP (nI_pos (by omega)) hM), rn_r10007 (by omega)]
    congr 1; omega
  · have e : nI a - nI b = -(nI (b - a)) := by
      rw [← pk_sub (show a ≤ b by omega), Int32.neg_sub]
    have hn : b - a < 10007 ∧ 0 < b - a := by omega
    generalize b - a = n at e hn
    have ht : (-(nI n)).toInt = -(n : Int) := sb_negT (by omega)
    have hneg : -(nI n) < 0 := by
      rw [Int32.lt_iff_toInt_lt, ht]
      show -(n : Int) < 0
      omega
    have hr : rb_rem (-(nI n)) 10007 = -(nI n) := by
      apply Int32.toInt_inj.mp
      rw [rb_rem_toInt, ht]
      show (-(n : Int)).tmod 10007 = -(n : Int)
      rw [Int.neg_tmod]
      congr 1
      exact Int.tmod_eq_of_lt (by omega) (by omega)
    rw [e]
    unfold rb_fm
    rw [if_neg (rn_xorN hneg hM), hr, if_neg (fun q => by rw [q] at hneg; exact absurd hneg (by decide))]
    rw [← e]
    have e2 : nI a - nI b + 10007 = nI a + 10007 - nI b := by rw [Int32.sub_eq_add_neg, Int32.sub_eq_add_neg]; ac_rfl
    rw [e2, show nI a + 10007 = nI (a + 10007) from nI_add a 10007, pk_sub (by omega)]
    congr 1; omega
def rn_C (i s : Nat) : Nat := 31 * s * s + 1000 * i + 5
def rn_L (s : Nat) : Nat := 17 + 7 * s
theorem rn_C_lt {i s : Nat} (hi : i < 8) (hs : s < 256) : rn_C i s < 3000000 := by
  unfold rn_C
  have : 31 * s * s ≤ 31 * 255 * 255 := Nat.mul_le_mul (Nat.mul_le_mul (Nat.le_refl _) (by omega)) (by omega)
  omega
theorem rn_L_lt {s : Nat} (hs : s < 256) : 17 ≤ rn_L s ∧ rn_L s < 1803 := by unfold rn_L; omega
theorem rn_cm {i s v : Nat} (hi : i < 8) (hs : s < 256) (hv : v < 1000) : rb_cm (nI i) (nI s) (nI v) = nI ((rn_C i s + rn_L s * v) % 10007) := by
  have h1 := rn_C_lt hi hs
  have h2 : rn_L s * v < 1803 * 1000 := Nat.mul_lt_mul'' (rn_L_lt hs).2 hv
  have e : 31 * nI s * nI s + 17 * nI v + 7 * nI s * nI v + 1000 * nI i + 5 = nI (rn_C i s + rn_L s * v) := by
    show nI 31 * nI s * nI s + nI 17 * nI v + nI 7 * nI s * nI v + nI 1000 * nI i + nI 5 = _
    simp only [pk_mul, nI_add]
    congr 1
    unfold rn_C rn_L
    rw [Nat.add_mul]
    omega
  unfold rb_cm
  rw [e, rn_r10007 (by omega)]
theorem rn_cm_in {x y z : Int32} {m : Nat} (hm8 : m ≤ 8) (hx : 0 ≤ x ∧ x < nI m) (hy : 0 ≤ y ∧ y < 256) (hz : 0 ≤ z ∧ z < 1000) : rn_in 10007 (rb_cm x y z) := by
  obtain ⟨i, hi, rfl⟩ := rn_in_of (by omega) hx
  obtain ⟨s, hs, rfl⟩ := rn_in_of (N := 256) (by decide) hy
  obtain ⟨v, hv, rfl⟩ := rn_in_of (N := 1000) (by decide) hz
  exact ⟨_, Nat.mod_lt _ (by decide), rn_cm (by omega) hs hv⟩
theorem rn_sd {n : Nat} (h : n < 2 ^ 31) : rb_sd (nI n) = nI ((1103515245 * n + 12345) % 2147483648) := by
  unfold rb_sd
  have e : 1103515245 * (nI n).toInt64 + 12345 = lN (1103515245 * n + 12345) := by
    rw [nI_l h]
    show lN 1103515245 * lN n + lN 12345 = _
    rw [lN_mul, lN_add]
  have hb : 1103515245 * n + 12345 < 2 ^ 63 := by omega
  have e3 : rb_lrem (lN (1103515245 * n + 12345)) 2147483648 = lN ((1103515245 * n + 12345) % 2147483648) := pk_lRem (b := 2147483648) hb (by decide) (by decide)
  rw [e, e3, lN_i]
theorem rn_dr {n : Nat} (h : n < 2 ^ 31) : rb_dr (nI n) = nI (n / 65536 % 257) := by
  unfold rb_dr
  rw [show nI n / 65536 = nI (n / 65536) from pk_div (d := 65536) h (by decide) (by decide), rn_r257 (by omega)]
def rn_sg (s : Int32) : Nat → Int32
  | 0 => s
  | k + 1 => rb_sd (rn_sg s k)
theorem rn_sg_in {s : Int32} (h : rn_in (2 ^ 31) s) : ∀ k, rn_in (2 ^ 31) (rn_sg s k)
  | 0 => h
  | k + 1 => by
    obtain ⟨n, hn, e⟩ := rn_sg_in h k
    unfold rn_sg
    rw [e, rn_sd hn]
    exact ⟨_, by omega, rfl⟩
theorem rn_sg_dr {s : Int32} (h : rn_in (2 ^ 31) s) (k : Nat) : rn_in 257 (rb_dr (rn_sg s k)) := by
  obtain ⟨n, hn, e⟩ := rn_sg_in h k
  rw [e, rn_dr hn]
  exact ⟨_, Nat.mod_lt _ (by decide), rfl⟩
