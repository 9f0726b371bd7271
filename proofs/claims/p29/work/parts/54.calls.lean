/-! EACH CHANGE, WHATEVER IT IS GIVEN -/
theorem rb_lt_i (x y : Int32) : x < y ↔ x.toInt < y.toInt := Int32.lt_iff_toInt_lt
theorem rb_le_i (x y : Int32) : x ≤ y ↔ x.toInt ≤ y.toInt := Int32.le_iff_toInt_le
theorem nI_50 {y : Int32} (h2 : ¬ y < 1) (h3 : y ≤ 50) : ∃ k, 1 ≤ k ∧ k ≤ 50 ∧ y = nI k := by
  obtain ⟨j, hj, rfl⟩ := nI_of2 (M := 50) (n := 50) (by decide) (fun q => h2 (by rw [rb_lt_i] at q ⊢; exact Int.lt_trans q (by decide))) h3
  refine ⟨j, Nat.le_of_not_lt fun q => h2 ?_, by omega, rfl⟩
  exact nI_lt (b := 1) q (by decide)
section RP
variable {S B m t rd ph f n : Nat} {V : rb_V} {q : Prop} {x y z : Int32}
theorem ch_begin (hB : 160 ≤ B) (h : rj_R S B V m t rd ph f n) : ch_ S B V 52 [some (.ref 0), some (.int x), some (.int y), none] False := by
  by_cases hc : x < 2 ∨ 8 < x ∨ y < 1 ∨ x < y
  · exact ch_eq (a := -1) h (fun V' h0 h13 P => by rw [q_begin (rj_hOK h h0 h13), if_pos hc])
  · have hx : rn_in 9 x := rn_in_of (by decide) ⟨Int32.not_lt.mp fun q => hc (Or.inl (by rw [rb_lt_i] at q ⊢; exact Int.lt_trans q (by decide))), by
      refine Int32.not_le.mp fun q => hc (Or.inr (Or.inl ?_))
      rw [rb_le_i] at q; rw [rb_lt_i]
      exact Int.lt_of_lt_of_le (by decide) q⟩
    obtain ⟨m', hm', rfl⟩ := hx
    have h2 : 2 ≤ m' := by
      refine Nat.le_of_not_lt fun q => hc (Or.inl ?_)
      exact nI_lt (b := 2) q (by decide)
    have hy : ¬ y < 1 := fun q => hc (Or.inr (Or.inr (Or.inl q)))
    have hy2 : ¬ nI m' < y := fun q => hc (Or.inr (Or.inr (Or.inr q)))
    obtain ⟨t', ht', rfl⟩ := nI_of (x := y) (fun q => hy (by rw [rb_lt_i] at q ⊢; exact Int.lt_trans q (by decide)))
    have ht1 : 1 ≤ t' := by
      refine Nat.le_of_not_lt fun q => hy ?_
      exact nI_lt (b := 1) q (by decide)
    have htm : t' ≤ m' := by
      refine Nat.le_of_not_lt fun q => hy2 ?_
      exact nI_lt q ht'
    have hH := h.2.1.1.1
    exact ch_chg (a := V 0 11 3 + 1) h (S' := 20 * m') (by omega) (fun z => z.elim) (rj_begin h2 (by omega) ht1 htm hH.2.2.2.2.2.2.2.2.1 hH.2.2.2.2.2.2.2.2.2) (fun V' h0 h13 P => by rw [q_begin (rj_hOK h h0 h13), if_neg hc, h0])
theorem ch_set (h : rj_R S B V m t rd ph f n) : ch_ S B V 56 [some (.ref 0), some (.int x), some (.int y), none] q := by
  by_cases hc : (0 ≤ x ∧ x < 6) ∧ ¬ y < (if x < 3 then 1 else 0) ∧ y ≤ (if x = 5 then 1 else 20)
  · obtain ⟨hx, h2, h3⟩ := hc
    obtain ⟨i, hi, rfl⟩ := rn_in_of (N := 6) (by decide) hx
    have hy : rn_in 21 y := by
      refine rn_in_of (N := 21) (by decide) ⟨Int32.not_lt.mp fun q => h2 ?_, ?_⟩
      · split
        · rw [rb_lt_i] at q ⊢; exact Int.lt_trans q (by decide)
        · exact q
      · rw [rb_le_i] at h3
        rw [rb_lt_i]
        refine Int.lt_of_le_of_lt h3 ?_
        split <;> decide
    exact ch_sam (a := V 0 0 i) h (rj_set (i := i) hy h.2.1) (fun V' h0 h13 P => by rw [q_set_k (rj_hOK h h0 h13) hi h2 h3, h0])
  · exact ch_eq (a := -1) h (fun V' h0 h13 P => by rw [q_set_b hc])
theorem ch_setSeed (h : rj_R S B V m t rd ph f n) : ch_ S B V 55 [some (.ref 0), some (.int x), none] q := by
  by_cases hc : x < 0
  · exact ch_eq (a := -1) h (fun V' h0 h13 P => by rw [q_setSeed (rj_hOK h h0 h13), if_pos hc])
  · obtain ⟨v, hv, rfl⟩ := nI_of hc
    exact ch_sam (a := V 0 11 7) h (rj_seed ⟨v, hv, rfl⟩ h.2.1) (fun V' h0 h13 P => by rw [q_setSeed (rj_hOK h h0 h13), if_neg hc, h0])
theorem ch_turn (h : rj_R S B V m t rd ph f n) : ch_ S B V 60 [some (.ref 0), some (.int x), some (.int y), none] q := by
  obtain ⟨hm, hm2, hm8⟩ := rj_m h
  by_cases hc : (0 ≤ x ∧ x < nI m) ∧ ¬ y < 0 ∧ y ≤ 1
  · obtain ⟨hx, h2, h3⟩ := hc
    obtain ⟨i, hi, rfl⟩ := rb_nmem hm8 hx
    have hy : y = 0 ∨ y = 1 := by
      obtain ⟨j, hj, rfl⟩ := nI_of2 (M := 1) (n := 1) (by decide) h2 h3
      rcases (by omega : j = 0 ∨ j = 1) with rfl | rfl
      · exact Or.inl rfl
      · exact Or.inr rfl
    exact ch_sam (a := V 0 3 i) h (rj_turn (i := i) hy h.2.1) (fun V' h0 h13 P => by rw [q_turn_k (rj_hOK h h0 h13) hi h2 h3, h0])
  · exact ch_eq (a := -1) h (fun V' h0 h13 P => by rw [q_turn_b (by rw [h0, hm]; exact hc)])
theorem ch_pay (h : rj_R S B V m t rd ph f n) : ch_ S B V 61 [some (.ref 0), some (.int x), some (.int y)] False := by
  obtain ⟨hm, hm2, hm8⟩ := rj_m h
  by_cases hc : (0 ≤ x ∧ x < nI m) ∧ ¬ y < 1 ∧ y ≤ 50
  · obtain ⟨hx, h2, h3⟩ := hc
    obtain ⟨i, hi, rfl⟩ := rb_nmem hm8 hx
    obtain ⟨a, ha1, ha2, rfl⟩ := nI_50 h2 h3
    by_cases q : V 0 2 i + nI a ≤ 999
    · exact ch_chg (a := V 0 2 i + nI a) h (S' := S + a) (by have := h.1; omega) (fun z => z.elim) (rj_payM hi h.2.1) (fun V' h0 h13 P => by rw [q_pay_k (rj_hOK h h0 h13) hi h2 h3, h0, if_pos q])
    · exact ch_eq (a := -3) h (fun V' h0 h13 P => by rw [q_pay_k (rj_hOK h h0 h13) hi h2 h3, h0, if_neg q])
  · exact ch_eq (a := -1) h (fun V' h0 h13 P => by rw [q_pay_b (by rw [h0, hm]; exact hc)])
theorem ch_commit (h : rj_R S B V m t rd ph f n) : ch_ S B V 62 [some (.ref 0), some (.int x), some (.int y), some (.int z)] q := by
  obtain ⟨hm, hm2, hm8⟩ := rj_m h
  by_cases hc : (0 ≤ x ∧ x < nI m) ∧ (0 ≤ y ∧ y < 256) ∧ (0 ≤ z ∧ z < 1000)
  · obtain ⟨hx, h2, h3⟩ := hc
    obtain ⟨i, hi, rfl⟩ := rb_nmem hm8 hx
    by_cases q : V 0 11 4 = 0 ∧ V 0 3 i = 1 ∧ V 0 5 i = 0 ∧ ¬ V 0 2 i < V 0 0 3
    · exact ch_sam (a := cBind (V 0) i y z m t 6 i) h (rj_commit hi h2 h3 q.2.2.1 h.2.1) (fun V' h0 h13 P => by rw [q_commit_k (rj_hOK h h0 h13) hi h2 h3, h0, if_pos q])
    · exact ch_eq (a := -2) h (fun V' h0 h13 P => by rw [q_commit_k (rj_hOK h h0 h13) hi h2 h3, h0, if_neg q])
  · exact ch_eq (a := -1) h (fun V' h0 h13 P => by rw [q_commit_b (by rw [h0, hm]; exact hc)])
theorem ch_reveal (hB : B < 2 ^ 31) (h : rj_R S B V m t rd ph f n) : ch_ S B V 71 [some (.ref 0), some (.int x), some (.int y), some (.int z)] q := by
  obtain ⟨hm, hm2, hm8⟩ := rj_m h
  have hS : S < 2 ^ 31 := Nat.lt_of_le_of_lt h.1 hB
  by_cases hc : (0 ≤ x ∧ x < nI m) ∧ (0 ≤ y ∧ y < 256) ∧ (0 ≤ z ∧ z < 1000)
  · obtain ⟨hx, h2, h3⟩ := hc
    obtain ⟨i, hi, rfl⟩ := rb_nmem hm8 hx
    by_cases q : V 0 11 4 = 1 ∧ V 0 3 i = 1 ∧ V 0 5 i = 1
    · have hp := rj_ph h (p := 1) (by decide) q.1
      by_cases q2 : rb_cm (nI i) y z = V 0 6 i
      · exact ch_sam (a := 1) h (rj_revealT (by omega) (by omega) (rn_in_mono (rn_in_of (N := 256) (by decide) h2) (by decide)) q.2.2 h.2.1) (fun V' h0 h13 P => by rw [q_reveal_k (rj_hOK h h0 h13) hi h2 h3, h0, if_pos q, if_pos q2])
      · exact ch_sam (a := 0) h (rj_fineT hi (h.2.1.1.1.2.2.2.2.2.2.2.2.2 4 (by decide)) hS h.2.1) (fun V' h0 h13 P => by rw [q_reveal_k (rj_hOK h h0 h13) hi h2 h3, h0, if_pos q, if_neg q2])
    · exact ch_eq (a := -2) h (fun V' h0 h13 P => by rw [q_reveal_k (rj_hOK h h0 h13) hi h2 h3, h0, if_neg q])
  · exact ch_eq (a := -1) h (fun V' h0 h13 P => by rw [q_reveal_b (by rw [h0, hm]; exact hc)])
theorem rj_pubT {i o : Nat} (hB : B < 2 ^ 31) (h : rj_R S B V m t rd ph f n) (hi : i < m) (ho : o < m) (hz : rn_in 257 z) (c : V 0 11 4 = 2 ∧ ¬ i = o ∧ V 0 3 i = 1 ∧ ¬ V 0 5 i = 0 ∧ V 0 5 o = 1 ∧ V 0 10 (8 * o + i) = -9) : rj_T S m t rd ph (cShowC (V 0) i o z m) := by
  have hS : S < 2 ^ 31 := Nat.lt_of_le_of_lt h.1 hB
  have hp := rj_ph h (p := 2) (by decide) c.1
  by_cases hk : rb_mk (nI i) z = rb_mk (nI i) (V 0 9 (8 * o + i))
  · exact rj_showT hi ho c.2.1 c.2.2.2.2.1 c.2.2.2.2.2 hz (by omega) hk h.2.1
  · unfold cShowC
    rw [if_neg hk]
    exact rj_fineT hi (h.2.1.1.1.2.2.2.2.2.2.2.2.2 4 (by decide)) hS h.2.1
theorem ch_give (hB : B < 2 ^ 31) (h : rj_R S B V m t rd ph f n) : ch_ S B V 73 [some (.ref 0), some (.int x), some (.int y)] q := by
  obtain ⟨hm, hm2, hm8⟩ := rj_m h
  by_cases hc : (0 ≤ x ∧ x < nI m) ∧ (0 ≤ y ∧ y < nI m) ∧ ¬ x = y
  · obtain ⟨hx, hy, hxy⟩ := hc
    obtain ⟨i, hi, rfl⟩ := rb_nmem hm8 hx
    obtain ⟨o, ho, rfl⟩ := rb_nmem hm8 hy
    have hio : ¬ i = o := fun e => hxy (by rw [e])
    by_cases q : V 0 11 4 = 2 ∧ ¬ i = o ∧ V 0 3 i = 1 ∧ ¬ V 0 5 i = 0 ∧ V 0 5 o = 1 ∧ V 0 10 (8 * o + i) = -9
    · have hz : rn_in 257 (V 0 9 (8 * o + i)) := (h.2.1.1.2.2 o (by omega)).2.1 (by rw [q.2.2.2.2.1]; decide) i hi
      exact ch_sam (a := cShowR (V 0) i o (V 0 9 (8 * o + i)) m) h (rj_pubT hB h hi ho hz q) (fun V' h0 h13 P => by rw [q_give_k (rj_hOK h h0 h13) hi ho hio, h0, if_pos q])
    · exact ch_eq (a := -2) h (fun V' h0 h13 P => by rw [q_give_k (rj_hOK h h0 h13) hi ho hio, h0, if_neg q])
  · exact ch_eq (a := -1) h (fun V' h0 h13 P => by rw [q_give_b (by rw [h0, hm]; exact hc)])
theorem ch_publish (hB : B < 2 ^ 31) (h : rj_R S B V m t rd ph f n) : ch_ S B V 76 [some (.ref 0), some (.int x), some (.int y), some (.int z)] q := by
  obtain ⟨hm, hm2, hm8⟩ := rj_m h
  by_cases hc : ((0 ≤ x ∧ x < nI m) ∧ (0 ≤ y ∧ y < nI m) ∧ ¬ x = y) ∧ ¬ z < 0 ∧ z < 257
  · obtain ⟨⟨hx, hy, hxy⟩, h2, h3⟩ := hc
    obtain ⟨i, hi, rfl⟩ := rb_nmem hm8 hx
    obtain ⟨o, ho, rfl⟩ := rb_nmem hm8 hy
    have hio : ¬ i = o := fun e => hxy (by rw [e])
    have hz : rn_in 257 z := rn_in_of (N := 257) (by decide) ⟨Int32.not_lt.mp h2, h3⟩
    by_cases q : V 0 11 4 = 2 ∧ ¬ i = o ∧ V 0 3 i = 1 ∧ ¬ V 0 5 i = 0 ∧ V 0 5 o = 1 ∧ V 0 10 (8 * o + i) = -9
    · exact ch_sam (a := cShowR (V 0) i o z m) h (rj_pubT hB h hi ho hz q) (fun V' h0 h13 P => by rw [q_publish_k (rj_hOK h h0 h13) hi ho hio h2 h3, h0, if_pos q])
    · exact ch_eq (a := -2) h (fun V' h0 h13 P => by rw [q_publish_k (rj_hOK h h0 h13) hi ho hio h2 h3, h0, if_neg q])
  · exact ch_eq (a := -1) h (fun V' h0 h13 P => by rw [q_publish_b (by rw [h0, hm]; exact hc)])
theorem ch_next (h : rj_R S B V m t rd ph f n) : ch_ S B V 77 [some (.ref 0)] q := by
  by_cases q : V 0 11 4 = 3
  · by_cases q2 : rd + 1 < 30
    · exact ch_sam (a := nI (rd + 1)) h (rj_next q2 h.2.1) (fun V' h0 h13 P => by rw [q_next (rj_hOK h h0 h13), h0, if_pos q, if_pos q2])
    · exact ch_eq (a := -3) h (fun V' h0 h13 P => by rw [q_next (rj_hOK h h0 h13), h0, if_pos q, if_neg q2])
  · exact ch_eq (a := -2) h (fun V' h0 h13 P => by rw [q_next (rj_hOK h h0 h13), h0, if_neg q])
theorem ch_tick (hB : B < 2 ^ 31) (h : rj_R S B V m t rd ph f n) : ch_ S B V 83 [some (.ref 0), some (.int x), none] q := by
  have hS : S < 2 ^ 31 := Nat.lt_of_le_of_lt h.1 hB
  by_cases hc : x < 1 ∨ 60 < x
  · exact ch_eq (a := -1) h (fun V' h0 h13 P => by rw [q_tick_b hc])
  · obtain ⟨k, hk, rfl⟩ := nI_of2 (M := 60) (n := 60) (x := x) (by decide) (fun q => hc (Or.inl (by rw [rb_lt_i] at q ⊢; exact Int.lt_trans q (by decide)))) (Int32.not_lt.mp fun q => hc (Or.inr q))
    have hk1 : 1 ≤ k := Nat.le_of_not_lt fun q => hc (Or.inl (nI_lt (b := 1) q (by decide)))
    obtain ⟨p, hp⟩ := rj_ticks hS h.2.1 k
    exact ch_sam (a := cTicks (V 0) m rd k 11 4) h hp (fun V' h0 h13 P => by rw [q_tick_k (rj_hOK h h0 h13) hk1 (by omega), h0])
theorem ch_undo (h : rj_R S B V m t rd ph f n) : ch_ S B V 81 [some (.ref 0)] False := by
  cases n with
  | zero => exact ch_eq (a := -2) h (fun V' h0 h13 P => by rw [q_undo_0 (rj_hOK h h0 h13)])
  | succ n =>
    obtain ⟨S', m', t', rd', ph', f', n', hU⟩ := rj_undo h
    refine ⟨nI n, hRes V f n, S', ⟨m', t', rd', ph', f', n', rj_mono (Nat.le_add_right _ _) hU⟩, fun z => z.elim, fun e P => ?_⟩
    rw [q_undo_s (rj_hOK h (rb_sg_ne _ _ (by decide)) (rb_sg_ne _ _ (by decide))), hRes_1]
theorem ch_keep (h : rj_R S B V m t rd ph f n) : ch_ S B V 78 [some (.ref 0), some (.int x), none] False := by
  have e0 : ∀ e, rb_sg V 1 e 0 = V 0 := fun e => rb_sg_ne _ _ (by decide)
  have e13 : ∀ e, rb_sg V 1 e 13 = V 13 := fun e => rb_sg_ne _ _ (by decide)
  have e10 : ∀ e, rb_sg V 1 e 10 = V 10 := fun e => rb_sg_ne _ _ (by decide)
  have e11 : ∀ e, rb_sg V 1 e 11 = V 11 := fun e => rb_sg_ne _ _ (by decide)
  by_cases q0 : x = 0
  · subst q0
    obtain ⟨m', t', rd', ph', f', n', hU⟩ := rj_keep0 h
    refine ⟨nI rd, _, S, ⟨m', t', rd', ph', f', n', rj_mono (Nat.le_add_right _ _) hU⟩, fun z => z.elim, fun e P => ?_⟩
    rw [q_keep (rj_hOK h (e0 e) (e13 e)), if_pos rfl, e0, e10, e13, rb_sg_comm V e _ (show (1 : Nat) ≠ 10 by decide), rb_sg_comm _ e _ (show (1 : Nat) ≠ 13 by decide)]
  · by_cases q1 : x = 1
    · subst q1
      obtain ⟨m', t', rd', ph', f', n', hU⟩ := rj_keep1 h
      refine ⟨nI rd, _, S, ⟨m', t', rd', ph', f', n', rj_mono (Nat.le_add_right _ _) hU⟩, fun z => z.elim, fun e P => ?_⟩
      rw [q_keep (rj_hOK h (e0 e) (e13 e)), if_neg q0, if_pos rfl, e0, e11, e13, rb_sg_comm V e _ (show (1 : Nat) ≠ 11 by decide), rb_sg_comm _ e _ (show (1 : Nat) ≠ 13 by decide)]
    · exact ch_eq (a := -1) h (fun V' h0 h13 P => by rw [q_keep (rj_hOK h h0 h13), if_neg q0, if_neg q1])
/-- an image that was kept becomes the present state -/
theorem ch_img {k g : Nat} {L : rb_L} (hg : ¬ g = 0 ∧ ¬ g = 1 ∧ g < 12) (h : rj_R S B V m t rd ph f n) (hE : rj_E B (V g)) (hq : ∀ V' : rb_V, V' 0 = V 0 → V' 13 = V 13 → ∀ P, rb_G none k 0 L [] (rb_W V') P ↔ P (some (.int (V' g 11 3))) (rb_W (rb_sg (hRec V' f n) 0 (cCopy (V' 0) (V' g))))) : ch_ S B V k L False := by
  obtain ⟨S', m', t', rd', ph', hS', hE⟩ := hE
  refine ⟨V g 11 3, rb_sg (hRec V f n) 0 (cCopy (V 0) (V g)), S', rj_chg (Nat.le_add_right _ _) h (by omega) (rj_T_copy hE), fun z => z.elim, fun e P => ?_⟩
  have eg : rb_sg V 1 e g = V g := rb_sg_ne _ _ hg.2.1
  have e0 : rb_sg V 1 e 0 = V 0 := rb_sg_ne _ _ (by decide)
  rw [hq (rb_sg V 1 e) e0 (rb_sg_ne _ _ (by decide)) P, hRec_1, rb_sg_comm _ e _ (show (1 : Nat) ≠ 0 by decide), eg, e0]
theorem ch_back (h : rj_R S B V m t rd ph f n) : ch_ S B V 80 [some (.ref 0), some (.int x), none] False := by
  by_cases q0 : x = 0
  · subst q0
    by_cases q : V 13 1 0 = 0
    · exact ch_eq (a := -2) h (fun V' h0 h13 P => by rw [q_back (rj_hOK h h0 h13), if_pos rfl, h13, if_pos q])
    · exact ch_img (g := 10) (by decide) h (h.2.2.2.2.2.2.2.1.resolve_left q) (fun V' h0 h13 P => by rw [q_back (rj_hOK h h0 h13), if_pos rfl, h13, if_neg q])
  · by_cases q1 : x = 1
    · subst q1
      by_cases q : V 13 2 0 = 0
      · exact ch_eq (a := -2) h (fun V' h0 h13 P => by rw [q_back (rj_hOK h h0 h13), if_neg q0, if_pos rfl, h13, if_pos q])
      · exact ch_img (g := 11) (by decide) h (h.2.2.2.2.2.2.2.2.resolve_left q) (fun V' h0 h13 P => by rw [q_back (rj_hOK h h0 h13), if_neg q0, if_pos rfl, h13, if_neg q])
    · exact ch_eq (a := -1) h (fun V' h0 h13 P => by rw [q_back (rj_hOK h h0 h13), if_neg q0, if_neg q1])
end RP
