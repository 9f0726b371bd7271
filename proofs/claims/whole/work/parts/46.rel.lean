/-! WHAT IS COUNTED IS THE SAME -/
theorem rb_bi_c {p q : Prop} [Decidable p] [Decidable q] (h : p ↔ q) : rb_bi p = rb_bi q := by
  by_cases z : p
  · rw [rb_bi_pos z, rb_bi_pos (h.mp z)]
  · rw [rb_bi_neg z, rb_bi_neg (fun y => z (h.mpr y))]
theorem rn_ct_x (c : Nat → Nat → Int32) (x : Int32) (m : Nat) : cCount c x m = nI (rn_ct (fun i => c 5 i = x) m) := rn_sum_bi (fun i => c 5 i = x) m
theorem rn_wN (W : Nat → Nat → Int32) (p m : Nat) : wN W p m = nI (rn_ct (fun i => ¬ W 1 (p + i) = -9) m) := rn_sum_bi (fun i => ¬ W 1 (p + i) = -9) m
theorem rn_le8 {p : Nat → Prop} [DecidablePred p] {m : Nat} (hm8 : m ≤ 8) : rn_ct p m < 2 ^ 31 := by have := rn_ct_le p m; omega
theorem rs_bi3 {x : Int32} (h : x = 0 ∨ x = 1 ∨ x = 2 ∨ x = 3) : rb_bi (x = 1) + rb_bi (x = 2) + rb_bi (x = 3) = rb_bi (¬ x = 0) := by
  rcases h with rfl | rfl | rfl | rfl <;> decide
theorem rs_bi2 {x : Int32} (h : x = 0 ∨ x = 1 ∨ x = 2 ∨ x = 3) : rb_bi (x = 2) + rb_bi (x = 3) = rb_bi (x = 2 ∨ x = 3) := by
  rcases h with rfl | rfl | rfl | rfl <;> decide
section RS
variable {m t rd ph : Nat} {c W : Nat → Nat → Int32}
theorem rs_st4 {w : Nat → Int32} {i : Nat} (h : rs_M ph c w i) : c 5 i = 0 ∨ c 5 i = 1 ∨ c 5 i = 2 ∨ c 5 i = 3 := by
  rcases rs_st h with h | h | h | h
  · exact Or.inl h
  · exact Or.inr (Or.inl h)
  · exact Or.inr (Or.inr (Or.inl h))
  · exact Or.inr (Or.inr (Or.inr h.1))
theorem rs_n31 (h : ∀ i, i < m → rs_M ph c (W 1) i) : wN W 31 m = cBound c m := by
  unfold wN cBound cCount
  rw [← rn_sum_add, ← rn_sum_add]
  refine rb_sum_congr fun i hi => ?_
  have e := rs_bound (h i hi)
  show rb_bi (¬ W 1 (31 + i) = -9) = rb_bi (c 5 i = 1) + rb_bi (c 5 i = 2) + rb_bi (c 5 i = 3)
  rw [rs_bi3 (rs_st4 (h i hi))]
  exact rb_bi_c (not_congr e)
theorem rs_n47 (h : ∀ i, i < m → rs_M ph c (W 1) i) : wN W 47 m = cCount c 2 m := by
  unfold wN cCount
  refine rb_sum_congr fun i hi => ?_
  have e := rs_rev (h i hi)
  exact rb_bi_c ((not_congr e).trans Decidable.not_not)
theorem rs_n55 (h : ∀ i, i < m → rs_M ph c (W 1) i) : wN W 55 m = cCount c 3 m := by
  unfold wN cCount
  refine rb_sum_congr fun i hi => ?_
  have e := rs_rec (h i hi)
  exact rb_bi_c ((not_congr e).trans Decidable.not_not)
theorem rs_outN (h : ∀ i, i < m → rs_M ph c (W 1) i) : wOutN W m = cCount c 2 m + cCount c 3 m := by
  unfold wOutN cCount
  rw [← rn_sum_add]
  refine rb_sum_congr fun i hi => ?_
  have e := rs_bound (h i hi)
  have e2 := (rs_kn (h i hi)).2
  show (if W 1 (31 + i) = -9 then 0 else rb_bi (¬ wKn W i = -9)) = rb_bi (c 5 i = 2) + rb_bi (c 5 i = 3)
  rw [rs_bi2 (rs_st4 (h i hi))]
  by_cases q : c 5 i = 0
  · rw [if_pos (e.mpr q)]
    exact (rb_bi_neg (show ¬ (c 5 i = 2 ∨ c 5 i = 3) by rw [q]; decide)).symm
  · rw [if_neg (fun z => q (e.mp z))]
    exact rb_bi_c ((not_congr e2).trans Decidable.not_not)
theorem rs_outL (h : ∀ i, i < m → rs_M ph c (W 1) i) : wOutL W m = cCount c 1 m := by
  unfold wOutL cCount
  refine rb_sum_congr fun i hi => ?_
  have e := rs_bound (h i hi)
  have e2 := (rs_kn (h i hi)).2
  by_cases q : c 5 i = 0
  · rw [if_pos (e.mpr q)]
    exact (rb_bi_neg (show ¬ c 5 i = 1 by rw [q]; decide)).symm
  · rw [if_neg (fun z => q (e.mp z))]
    refine rb_bi_c (e2.trans ⟨fun z => ?_, fun z => by rw [z]; decide⟩)
    rcases rs_st4 (h i hi) with y | y | y | y
    · exact absurd y q
    · exact y
    · exact absurd (Or.inl y) z
    · exact absurd (Or.inr y) z
theorem rs_outX (h : ∀ i, i < m → rs_M ph c (W 1) i) : wOutX W m = cKnowX c m := by
  unfold wOutX cKnowX
  refine rb_xor_congr fun i hi => ?_
  have e := rs_bound (h i hi)
  obtain ⟨e1, e2⟩ := rs_kn (h i hi)
  by_cases q : c 5 i = 2 ∨ c 5 i = 3
  · rw [if_pos q, if_neg (fun z => by rw [e.mp z] at q; exact absurd q (by decide)), if_neg (fun z => (e2.mp z) q), e1, if_pos q]
  · rw [if_neg q, if_pos (e2.mpr q)]
    split <;> rfl
theorem rs_out (h : ∀ i, i < m → rs_M ph c (W 1) i) (h5 : W 1 14 = c 0 5) : wOut W m = cOut c m := by
  unfold wOut cOut
  rw [rs_outN h, rs_outL h, rs_outX h, h5]
theorem rs_hon (h : ∀ i, i < m → rs_M ph c (W 1) i) : wHon W m = cBoundX c m := by
  unfold wHon cBoundX
  refine rb_xor_congr fun i hi => ?_
  have e := rs_bound (h i hi)
  by_cases q : c 5 i = 0
  · rw [if_pos (e.mpr q), if_neg (fun z => z q)]
  · rw [if_neg (fun z => q (e.mp z)), if_pos q]
    rcases (h i hi).2.2.2.2 with z | z
    · exact absurd z.1 q
    · exact z.2.2.2.1
theorem rs_dep (h : ∀ i, i < m → rs_M ph c (W 1) i) : wDep W m = cDep c m := by
  unfold wDep cDep
  exact rb_sum_congr fun i hi => (h i hi).1
theorem rs_ons (h : ∀ i, i < m → rs_M ph c (W 1) i) : wOns W m = cOnN c m := by
  unfold wOns cOnN
  refine rb_sum_congr fun i hi => ?_
  rw [(h i hi).2.1]
  rcases (h i hi).2.2.1 with q | q
  · rw [q]; decide
  · rw [q]; decide
theorem rs_stand {i : Nat} (h : rs_M ph c (W 1) i) : wSt W i = c 5 i := by
  unfold wSt
  have e1 := rs_bound h
  have e2 := rs_rev h
  have e3 := rs_rec h
  rcases rs_st4 h with q | q | q | q
  · rw [if_pos (e1.mpr q), q]
  · rw [if_neg (fun z => by rw [e1.mp z] at q; exact absurd q (by decide)), if_pos (e2.mpr (by rw [q]; decide)), if_pos (e3.mpr (by rw [q]; decide)), q]
  · rw [if_neg (fun z => by rw [e1.mp z] at q; exact absurd q (by decide)), if_neg (fun z => (e2.mp z) q), q]
  · rw [if_neg (fun z => by rw [e1.mp z] at q; exact absurd q (by decide)), if_pos (e2.mpr (by rw [q]; decide)), if_neg (fun z => (e3.mp z) q), q]
theorem wTake_5 (W : Nat → Nat → Int32) (o : Nat) : ∀ n j, wTake W o n 5 j = if j < n then W 1 (135 + 8 * o + j) else W 5 j
  | 0, j => by rw [if_neg (Nat.not_lt_zero _)]; rfl
  | n + 1, j => by
    unfold wTake
    rw [rb_u2_get, wTake_1]
    by_cases h : j = n
    · rw [if_pos ⟨rfl, h⟩, if_pos (by omega), h]
    · rw [if_neg (fun q => h q.2), wTake_5 W o n j]
      by_cases h2 : j < n
      · rw [if_pos h2, if_pos (by omega)]
      · rw [if_neg h2, if_neg (by omega)]
theorem rn_wSk (W : Nat → Nat → Int32) : wSk W = nI (rn_ct (fun j => ¬ W 5 j = -9) 8) := rn_sum_bi (fun j => ¬ W 5 j = -9) 8
/-- the row 5 is the owner's published shares -/
theorem rs_sk {Y : Nat → Nat → Int32} {o : Nat} (hm8 : m ≤ 8) (h : ∀ j, j < 8 → Y 5 j = c 10 (8 * o + j)) (hm : ∀ j, m ≤ j → j < 8 → c 10 (8 * o + j) = -9) : wSk Y = nI (rn_ct (fun j => ¬ c 10 (8 * o + j) = -9) m) := by
  rw [rn_wSk, rn_ct_cong (q := fun j => ¬ c 10 (8 * o + j) = -9) (fun j hj => by rw [h j hj])]
  rw [rn_ct_up hm8 (fun j h1 h2 q => q (hm j h1 h2))]
theorem rs_Pm {w : Nat → Int32} {o : Nat} (h : rs_P m t c w o) : ∀ j, m ≤ j → j < 8 → c 10 (8 * o + j) = -9 := fun j h1 h2 => (h.2.1 j h2).resolve_right (fun q => by omega)
theorem rs_pub {o : Nat} (hm8 : m ≤ 8) (h : rs_P m t c (W 1) o) : wPub W o = rb_bc (cGiv c o m) := by
  unfold wPub
  rw [rn_giv_bc c o m hm8]
  refine rs_sk hm8 (fun j hj => ?_) (rs_Pm h)
  rw [wTake_5, if_pos hj]
  exact h.1 j hj
end RS
/-! FINES, PAY-OUTS -/
theorem rs_min (a d : Int32) : d + -(rb_min a d) = d - (if a ≤ d then a else d) ∧ rb_min a d = (if a ≤ d then a else d) := by
  unfold rb_min
  by_cases h : d < a
  · rw [if_pos h, if_neg (Int32.not_le.mpr h)]; exact ⟨(Int32.sub_eq_add_neg _ _).symm, rfl⟩
  · rw [if_neg h, if_pos (Int32.not_lt.mp h)]; exact ⟨(Int32.sub_eq_add_neg _ _).symm, rfl⟩
section RS
variable {m t rd ph : Nat} {c W : Nat → Nat → Int32} {i : Nat}
theorem rs_fine (hi : i < 8) (a : Int32) (h : rs_S m t rd ph c (W 1)) (h6 : W 1 6 = c 11 6) : rs_S m t rd ph (cFine c i a) (wFine W i a 1) ∧ wFine W i a 1 6 = cFine c i a 11 6 := by
  obtain ⟨hH, hA, hM, hP⟩ := h
  have hm8 : m ≤ 8 := hH.2.2.1
  have hrd : rd < 30 := hH.2.2.2.2.2.2.2.1
  have cw : ∀ r k, ¬ (r = 2 ∧ k = i) → ¬ (r = 11 ∧ k = 6) → ¬ (r = 4 ∧ k = i) → cFine c i a r k = c r k := fun r k h1 h2 h3 => by
    unfold cFine; rw [rb_u2_o h3, rb_u2_o h2, rb_u2_o h1]
  have ww : ∀ k, ¬ k = 15 + i → ¬ k = 6 → ¬ k = 63 + i → wFine W i a 1 k = W 1 k := fun k h1 h2 h3 => by
    unfold wFine; rw [rb_u2_o (fun q => h3 q.2), rb_u2_o (fun q => h2 q.2), rb_u2_o (fun q => h1 q.2)]
  have hd : W 1 (15 + i) = c 2 i := (hM i hi).1
  refine ⟨⟨?_, ?_, fun j hj => ?_, fun o ho => ?_⟩, ?_⟩
  · exact rs_H_k (cw _ _ (by omega) (by omega) (by omega)) (cw _ _ (by omega) (by omega) (by omega)) (cw _ _ (by omega) (by omega) (by omega)) (cw _ _ (by omega) (by omega) (by omega)) hH
  · exact rs_A_k (fun k h1 h2 => cw _ _ (by omega) (by omega) (by omega)) (fun k h1 h2 => ww _ (by omega) (by omega) (by omega)) (ww _ (by omega) (by omega) (by omega)) (fun j hj => ww _ (by omega) (by omega) (by omega)) (fun k hk => ww _ (by omega) (by omega) (by omega)) (fun j hj => cw _ _ (by omega) (by omega) (by omega)) (fun k hk => cw _ _ (by omega) (by omega) (by omega)) hA
  · by_cases e : j = i
    · subst e
      obtain ⟨a1, a2, a3, a4, a5⟩ := hM j hj
      refine ⟨?_, ?_, ?_, ?_, rs_B_k (cw _ _ (by omega) (by omega) (by omega)) (cw _ _ (by omega) (by omega) (by omega)) (cw _ _ (by omega) (by omega) (by omega)) (cw _ _ (by omega) (by omega) (by omega)) (ww _ (by omega) (by omega) (by omega)) (ww _ (by omega) (by omega) (by omega)) (ww _ (by omega) (by omega) (by omega)) (ww _ (by omega) (by omega) (by omega)) id a5⟩
      · have e1 : wFine W j a 1 (15 + j) = W 1 (15 + j) - (if a ≤ W 1 (15 + j) then a else W 1 (15 + j)) := by
          unfold wFine; rw [rb_u2_o (by omega), rb_u2_o (by omega), rb_u2_at]
        have e2 : cFine c j a 2 j = c 2 j + -(rb_min a (c 2 j)) := by
          unfold cFine; rw [rb_u2_o (by omega), rb_u2_o (by omega), rb_u2_at]
        rw [e1, e2, hd, (rs_min a (c 2 j)).1]
      · rw [ww _ (by omega) (by omega) (by omega), cw _ _ (by omega) (by omega) (by omega), a2]
      · rw [cw _ _ (by omega) (by omega) (by omega)]; exact a3
      · have e1 : wFine W j a 1 (63 + j) = W 1 (63 + j) + 1 := by unfold wFine; rw [rb_u2_at]
        have e2 : cFine c j a 4 j = c 4 j + 1 := by unfold cFine; rw [rb_u2_at]
        rw [e1, e2, a4]
    · exact rs_M_k (fun r h1 h2 => cw _ _ (by omega) (by omega) (by omega)) (fun k h1 h2 h3 => ww _ (by omega) (by omega) (by omega)) id hj (hM j hj)
  · exact rs_P_k (cw _ _ (by omega) (by omega) (by omega)) (fun k h1 h2 => cw _ _ (by omega) (by omega) (by omega)) (fun k h1 h2 => cw _ _ (by omega) (by omega) (by omega)) (fun k hk => ww _ (by omega) (by omega) (by omega)) hm8 (hP o ho)
  · have e1 : wFine W i a 1 6 = W 1 6 + (if a ≤ W 1 (15 + i) then a else W 1 (15 + i)) := by
      unfold wFine; rw [rb_u2_o (by omega), rb_u2_at]
    have e2 : cFine c i a 11 6 = c 11 6 + rb_min a (c 2 i) := by
      unfold cFine; rw [rb_u2_o (by omega), rb_u2_at]
    rw [e1, e2, h6, hd, (rs_min a (c 2 i)).2]
/-- the phase of revelations: nobody's secret is recovered yet -/
theorem rs_fineS (hph : ph < 2) (h : rs_S m t rd ph c (W 1)) (h6 : W 1 6 = c 11 6) : ∀ k, k ≤ 8 → rs_S m t rd ph (cFineS c k) (wFineS W k 1) ∧ wFineS W k 1 6 = cFineS c k 11 6
  | 0, _ => ⟨h, h6⟩
  | k + 1, hk => by
    obtain ⟨ih, ih6⟩ := rs_fineS hph h h6 k (by omega)
    have hM := ih.2.2.1 k (by omega)
    have hs : wFineS W k 1 12 = cFineS c k 0 3 := ih.2.1.2.2.2.2.2.2.1 3 (by decide)
    have e1 := rs_bound hM
    have e2 := rs_rev hM
    unfold cFineS wFineS
    by_cases q : cFineS c k 5 k = 1
    · rw [if_pos q, if_pos ⟨fun z => by rw [e1.mp z] at q; exact absurd q (by decide), e2.mpr (by rw [q]; decide)⟩, hs]
      exact rs_fine (by omega) _ ih ih6
    · rw [if_neg q, if_neg]
      · exact ⟨ih, ih6⟩
      · rintro ⟨z1, z2⟩
        rcases rs_st hM with z | z | z | z
        · exact z1 (e1.mpr z)
        · exact q z
        · exact (e2.mp z2) z
        · omega
end RS
