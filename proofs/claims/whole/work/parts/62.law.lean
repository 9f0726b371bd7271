/-! THE LAW, 3: its loop -/
def lc_P : Option Value → rb_M → Prop := fun r M => r = some (.int 1) ∧ ∃ V, M = rb_W V
theorem lc_loop {xs : List Int32} (hL : xs.length ≤ 2048) : ∀ (d i : Nat) (a4 a5 a6 a7 : Option Value) (V : rb_V), xs.length < i + d → i ≤ 2052 → rs_RR V → rb_G (some xs) 163 18 [some (.ref rb_scr), some (.ref 0), some (.ref 281), some (.int (nI i)), a4, a5, a6, a7] [] (rb_W V) lc_P := by
  intro d
  induction d with
  | zero =>
    intro i a4 a5 a6 a7 V hi hi2 h
    have hc : nI xs.length - 4 < nI i := by
      rw [rb_lt_i, show (nI xs.length - 4).toInt = (xs.length : Int) - 4 from pk_sub_toInt (b := 4) (by omega) (by decide), nI_toInt (show i < 2 ^ 31 by omega)]
      omega
    simp only [r163_18, r163_19, r163_20, r163_21, r163_22, r163_23, r163_906, r163_907, hc, rb_okv1, if_true]
    exact ⟨rfl, V, rfl⟩
  | succ d ih =>
    intro i a4 a5 a6 a7 V hi hi2 h
    have hc : nI xs.length - 4 < nI i ↔ ¬ i + 4 ≤ xs.length := by
      rw [rb_lt_i, show (nI xs.length - 4).toInt = (xs.length : Int) - 4 from pk_sub_toInt (b := 4) (by omega) (by decide), nI_toInt (show i < 2 ^ 31 by omega)]
      omega
    by_cases hj : i + 4 ≤ xs.length
    · have hc1 : ¬ nI xs.length - 4 < nI i := fun q => (hc.mp q) hj
      have h1 : rb_inb (nI i) xs.length = true := rb_in_nI (by omega) (by omega)
      have c1 : (nI i).toNatClampNeg = i := nI_clamp (by omega)
      have hK : ∀ (V2 : rb_V) (a4 a5 a6 a7 : Option Value), rs_RR V2 → rb_G (some xs) 163 900 [some (.ref rb_scr), some (.ref 0), some (.ref 281), some (.int (nI i)), a4, a5, a6, a7] [] (rb_W V2) lc_P := by
        intro V2 a4 a5 a6 a7 h2
        simp only [r163_900, r163_903, nI_4]
        exact ih (i + 4) a4 a5 a6 a7 V2 (by omega) (by omega) h2
      have hK2 : ∀ (V2 : rb_V), rs_RR V2 → rb_G (some xs) 163 900 [some (.ref rb_scr), some (.ref 0), some (.ref 281), some (.int (nI i)), a4, a5, a6, a7] [] (rb_W V2) lc_P := fun V2 h2 => hK V2 a4 a5 a6 a7 h2
      simp only [r163_18, r163_19, r163_20, r163_21, r163_22, r163_23, r163_26, r163_27, r163_28, r163_29, r163_31, hc1, if_false, h1, c1]
      obtain ⟨v, hv, ev⟩ := pk_andE (xs.getD i 0) (m := 31) 5 (by decide)
      rw [ev]
      rcases (by omega : v = 0 ∨ v = 1 ∨ v = 2 ∨ v = 3 ∨ v = 4 ∨ v = 5 ∨ v = 6 ∨ v = 7 ∨ v = 8 ∨ v = 9 ∨ v = 10 ∨ v = 11 ∨ v = 12 ∨ v = 13 ∨ v = 14 ∨ v = 15 ∨ v = 16 ∨ v = 17 ∨ v = 18 ∨ v = 19 ∨ v = 20 ∨ v = 21 ∨ v = 22 ∨ v = 23 ∨ v = 24 ∨ v = 25 ∨ 26 ≤ v) with rfl | rfl | rfl | rfl | rfl | rfl | rfl | rfl | rfl | rfl | rfl | rfl | rfl | rfl | rfl | rfl | rfl | rfl | rfl | rfl | rfl | rfl | rfl | rfl | rfl | rfl | h26
      · rw [en0, r163_32c0]; exact lc_0 h hj hL hK2
      · rw [en1, r163_32c1]; exact lc_1 h hj hL hK2
      · rw [en2, r163_32c2]; exact lc_2 h hj hL hK2
      · rw [en3, r163_32c3]; exact lc_3 h hj hL hK2
      · rw [en4, r163_32c4]; exact lc_4 h hj hL hK2
      · rw [en5, r163_32c5]; exact lc_5 h hj hL hK2
      · rw [en6, r163_32c6]; exact lc_6 h hj hL hK2
      · rw [en7, r163_32c7]; exact lc_7 h hj hL hK2
      · rw [en8, r163_32c8]; exact lc_8 h hj hL hK2
      · rw [en9, r163_32c9]; exact lc_9 h hj hL hK2
      · rw [en10, r163_32c10]; exact lc_10 h hj hL hK2
      · rw [en11, r163_32c11]; exact lc_11 h hj hL hK2
      · rw [en12, r163_32c12]; exact lc_12 h hj hL hK2
      · rw [en13, r163_32c13]; exact lc_13 h hj hL hK2
      · rw [en14, r163_32c14]; exact lc_14 h hj hL hK2
      · rw [en15, r163_32c15]; exact lc_15 h hj hL hK2
      · rw [en16, r163_32c16]; exact lc_16 h hj hL hK2
      · rw [en17, r163_32c17]; exact lc_17 h hj hL hK2
      · rw [en18, r163_32c18]; exact lc_18 h hj hL hK2
      · rw [en19, r163_32c19]; exact lc_19 h hj hL hK2
      · rw [en20, r163_32c20]; exact lc_20 h hj hL hK2
      · rw [en21, r163_32c21]; exact lc_21 h hj hL hK2
      · rw [en22, r163_32c22]; exact lc_22 h hj hL hK2
      · rw [en23, r163_32c23]; exact lc_23 h hK
      · rw [en24, r163_32c24]; exact lc_24 h hj hL hK2
      · rw [en25, r163_32c25]; exact lc_25 h hj hL hK2
      · rw [r163_32d (Or.inr (by rw [nI_toInt (by omega)]; omega))]
        exact hK2 V h
    · have hc1 : nI xs.length - 4 < nI i := hc.mpr hj
      simp only [r163_18, r163_19, r163_20, r163_21, r163_22, r163_23, r163_906, r163_907, hc1, rb_okv1, if_true]
      exact ⟨rfl, V, rfl⟩
