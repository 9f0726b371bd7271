/-! BOTH OBJECTS AT ONE CALL, 1 -/
def rs_pair (V : rb_V) (kq : Nat) (Lq : rb_L) (kp : Nat) (Lp : rb_L) : Prop := ∃ (a : Int32) (V1 V2 : rb_V), (∀ P, rb_G none kq 0 Lq [] (rb_W V) P ↔ P (some (.int a)) (rb_W V1)) ∧ (∀ P, rb_G none kp 0 Lp [] (rb_W V1) P ↔ P (some (.int a)) (rb_W V2)) ∧ rs_RR V2
section RW
variable {W : Nat → Nat → Int32} {r : Nat}
theorem wRA_W (h : ¬ r = 1) : ∀ n, wRA W n r = W r
  | 0 => rfl
  | n + 1 => by unfold wRA; rw [rb_u2_row h, rb_u2_row h, rb_u2_row h, rb_u2_row h]; exact wRA_W h n
theorem wRB_W (h : ¬ r = 1) : ∀ n, wRB W n r = W r
  | 0 => rfl
  | n + 1 => by unfold wRB; rw [rb_u2_row h, rb_u2_row h]; exact wRB_W h n
theorem wLA_W (h : ¬ r = 1) : ∀ n, wLA W n r = W r
  | 0 => rfl
  | n + 1 => by unfold wLA; rw [rb_u2_row h, rb_u2_row h, rb_u2_row h]; exact wLA_W h n
theorem wLB_W (h : ¬ r = 1) : ∀ n, wLB W n r = W r
  | 0 => rfl
  | n + 1 => by unfold wLB; rw [rb_u2_row h]; exact wLB_W h n
theorem wRound_W (h : ¬ r = 1) : wRound W r = W r := by
  unfold wRound wR0; rw [wRB_W h, wRA_W h, rb_u2_row h, rb_u2_row h, rb_u2_row h]
theorem wNew_W (h : ¬ r = 1) {x y : Int32} : wNew W x y r = W r := by
  unfold wNew wL0; rw [wRound_W h, wLB_W h, wLA_W h, rb_u2_row h, rb_u2_row h, rb_u2_row h, rb_u2_row h, rb_u2_row h]
theorem wNext_W (h : ¬ r = 1) {rd : Nat} : wNext W rd r = W r := by
  unfold wNext; rw [wRound_W h, rb_u2_row h, rb_u2_row h]
theorem wFine_W (h : ¬ r = 1) {i : Nat} {a : Int32} : wFine W i a r = W r := by
  unfold wFine; rw [rb_u2_row h, rb_u2_row h, rb_u2_row h]
theorem wLay_W (h : ¬ r = 1) {o t : Nat} : ∀ n, wLay W o t n r = W r
  | 0 => rfl
  | n + 1 => by unfold wLay; rw [rb_u2_row h]; exact wLay_W h n
theorem wTerms_W (h : ¬ r = 1) (h4 : ¬ r = 4) {s : Int32} : ∀ n, wTerms W s n r = W r
  | 0 => by unfold wTerms; rw [rb_u2_row h4]
  | n + 1 => by unfold wTerms wDraw; rw [rb_u2_row h4, rb_u2_row h]; exact wTerms_W h h4 n
theorem wLayS_W (h : ¬ r = 1) (h4 : ¬ r = 4) {o m t i : Nat} {s y z : Int32} : wLayS (wCom W i y z) o s m t r = W r := by
  unfold wLayS wCom; rw [wLay_W h, wTerms_W h h4, rb_u2_row h, rb_u2_row h]
theorem wPubl_W (h : ¬ r = 1) (h5 : ¬ r = 5) {o i t : Nat} {z : Int32} : wPubl W o i z t r = W r := by
  unfold wPubl wPublT; rw [rb_u2_row h, wTake_W o h5, rb_u2_row h]
theorem wFineS_W (h : ¬ r = 1) : ∀ n, wFineS W n r = W r
  | 0 => rfl
  | n + 1 => by
    unfold wFineS
    split
    · rw [wFine_W h]; exact wFineS_W h n
    · exact wFineS_W h n
theorem wEnd_W (h : ¬ r = 1) {m : Nat} : wEnd W m r = W r := by
  unfold wEnd
  split
  · rw [rb_u2_row h, rb_u2_row h]
  · split
    · split
      · rw [wShut_W _ _ _ h, wFineS_W h, rb_u2_row h]
      · rw [rb_u2_row h, wFineS_W h, rb_u2_row h]
    · rw [wShut_W _ _ _ h, rb_u2_row h]
theorem wTick_W (h : ¬ r = 1) {m ph : Nat} : wTick W m ph r = W r := by
  have ht : wTime W r = W r := by unfold wTime; rw [rb_u2_row h, rb_u2_row h]
  unfold wTick
  split
  · exact ht
  · split
    · exact ht
    · rw [wEnd_W h, ht]
theorem wTicks_W (h : ¬ r = 1) {m : Nat} : ∀ n, wTicks W m n r = W r
  | 0 => rfl
  | n + 1 => by unfold wTicks; rw [wTick_W h]; exact wTicks_W h n
theorem wBkR_W (h : ¬ r = 1) {p : Nat} : ∀ n, wBk W p n r = W r := fun n => wBk_W W p r h n
end RW
section RP
variable {V : rb_V} {m t rd ph f n kq kp : Nat} {Lq Lp : rb_L} {a b : Int32} {x y z : Int32}
/-- nothing changes -/
theorem rs_pair_eq (h : rs_RR V) (hab : a = b) (hq : ∀ P, rb_G none kq 0 Lq [] (rb_W V) P ↔ P (some (.int a)) (rb_W V)) (hp : ∀ P, rb_G none kp 0 Lp [] (rb_W V) P ↔ P (some (.int b)) (rb_W V)) : rs_pair V kq Lq kp Lp := by
  subst hab
  exact ⟨a, V, V, hq, hp, h⟩
/-- a change -/
theorem rs_pair_chg {c' W' : Nat → Nat → Int32} (h : rs_R V m t rd ph f n) (hab : a = b) (h0 : ∀ r, r = 0 ∨ r = 2 ∨ r = 3 → W' r = wRem (V 12) n r) (hE : rs_E c' (W' 1)) (hq : ∀ P, rb_G none kq 0 Lq [] (rb_W V) P ↔ P (some (.int a)) (rb_W (rb_sg (hRec V f n) 0 c'))) (hp : ∀ (V1 : rb_V), V1 12 = V 12 → ∀ P, rb_G none kp 0 Lp [] (rb_W V1) P ↔ P (some (.int b)) (rb_W (rb_sg V1 12 W'))) : rs_pair V kq Lq kp Lp := by
  subst hab
  exact ⟨a, _, _, hq, hp _ (by rw [rb_sg_ne _ _ (by decide), hRec_12]), rs_chg h (h0 0 (Or.inl rfl)) (h0 2 (Or.inr (Or.inl rfl))) (h0 3 (Or.inr (Or.inr rfl))) hE⟩
theorem rs_RR_of (h : rs_R V m t rd ph f n) : rs_RR V := ⟨m, t, rd, ph, f, n, h⟩
theorem rs_T_rem (h : rs_R V m t rd ph f n) : rs_T m t rd ph (V 0) (wRem (V 12) n 1) := by rw [wRem_1]; exact h.1
theorem rs_w (h : rs_R V m t rd ph f n) (k : Nat) (hk : k < 8) : V 12 1 k = V 0 11 k := by
  obtain ⟨⟨⟨hH, hA, hM, hP⟩, h4, hp3, w4, w5, w6⟩, -⟩ := h
  rcases (by omega : k = 0 ∨ k = 1 ∨ k = 2 ∨ k = 3 ∨ k = 4 ∨ k = 5 ∨ k = 6 ∨ k = 7) with rfl | rfl | rfl | rfl | rfl | rfl | rfl | rfl
  · exact hA.1
  · exact hA.2.1
  · exact hA.2.2.1
  · exact hA.2.2.2.1
  · exact w4
  · exact w5
  · exact w6
  · exact hA.2.2.2.2.1
theorem rs_m (h : rs_R V m t rd ph f n) : V 0 11 0 = nI m ∧ 2 ≤ m ∧ m ≤ 8 := ⟨h.1.1.1.1, h.1.1.1.2.1, h.1.1.1.2.2.1⟩
theorem rs_mp (h : rs_R V m t rd ph f n) {V1 : rb_V} (hV : V1 12 = V 12) : V1 12 1 0 = nI m := by rw [hV, rs_w h 0 (by decide), (rs_m h).1]
theorem pr_begin (h : rs_R V m t rd ph f n) : rs_pair V 10 [some (.ref 0), some (.int x), some (.int y), none] 100 [some (.ref 281), some (.int x), some (.int y), none] := by
  by_cases hc : x < 2 ∨ 8 < x ∨ y < 1 ∨ x < y
  · exact rs_pair_eq (rs_RR_of h) rfl (fun P => by rw [q_begin (rs_hOK h), if_pos hc]) (fun P => by rw [p_begin (rs_pOK h rfl), if_pos hc])
  · have hx : rn_in 9 x := rn_in_of (by decide) ⟨Int32.not_lt.mp fun q => hc (Or.inl (by rw [rb_lt_i] at q ⊢; exact Int.lt_trans q (by decide))), by
      refine Int32.not_le.mp fun q => hc (Or.inr (Or.inl ?_))
      rw [rb_le_i] at q; rw [rb_lt_i]
      exact Int.lt_of_lt_of_le (by decide) q⟩
    obtain ⟨m', hm', rfl⟩ := hx
    have h2 : 2 ≤ m' := by
      refine Nat.le_of_not_lt fun q => hc (Or.inl ?_)
      exact nI_lt (b := 2) q (by decide)
    have hy : ¬ y < 1 := fun q => hc (Or.inr (Or.inr (Or.inl q)))
    have hy2 : ¬ nI m' < y := fun q => hc (Or.inr (Or.inr (Or.inr q)))
    obtain ⟨t', ht', rfl⟩ := nI_of (x := y) (fun q => hy (by rw [rb_lt_i] at q ⊢; exact Int.lt_trans q (by decide)))
    have ht1 : 1 ≤ t' := by
      refine Nat.le_of_not_lt fun q => hy ?_
      exact nI_lt (b := 1) q (by decide)
    have htm : t' ≤ m' := by
      refine Nat.le_of_not_lt fun q => hy2 ?_
      exact nI_lt q ht'
    refine rs_pair_chg h ?_ (fun r hr => wNew_W (by omega)) ⟨m', t', 0, 0, rs_begin h2 (by omega) ht1 htm h.1.1.1.2.2.2.2.2.2.2.2 ?_ ?_⟩ (fun P => by rw [q_begin (rs_hOK h), if_neg hc]) (fun V1 hV P => by rw [p_begin (rs_pOK h hV), if_neg hc, hV])
    · rw [rs_w h 3 (by decide)]
    · rw [wRem_1, rs_w h 7 (by decide)]
    · rw [wRem_1]; exact h.1.1.2.1.2.2.2.2.2.2.1
theorem pr_set (h : rs_R V m t rd ph f n) : rs_pair V 16 [some (.ref 0), some (.int x), some (.int y), none] 103 [some (.ref 281), some (.int x), some (.int y), none] := by
  by_cases hc : (0 ≤ x ∧ x < 6) ∧ ¬ y < (if x < 3 then 1 else 0) ∧ y ≤ (if x = 5 then 1 else 20)
  · obtain ⟨hx, h2, h3⟩ := hc
    obtain ⟨i, hi, rfl⟩ := rn_in_of (N := 6) (by decide) hx
    refine rs_pair_chg (a := V 0 0 i) (b := V 12 1 (9 + i)) (c' := rb_u2 (V 0) 0 i y) (W' := rb_u2 (wRem (V 12) n) 1 (9 + i) y) h ?_ (fun r hr => rb_u2_row (by omega)) ⟨m, t, rd, ph, rs_set (i := i) (y := y) hi (rs_T_rem h)⟩ (fun P => by rw [q_set_k (rs_hOK h) hi h2 h3]) (fun V1 hV P => by rw [p_set_k (rs_pOK h hV) hi h2 h3, hV])
    exact (h.1.1.2.1.2.2.2.2.2.2.1 i hi).symm
  · exact rs_pair_eq (rs_RR_of h) rfl (fun P => by rw [q_set_b hc]) (fun P => by rw [p_set_b hc])
theorem pr_setSeed (h : rs_R V m t rd ph f n) : rs_pair V 21 [some (.ref 0), some (.int x), none] 106 [some (.ref 281), some (.int x)] := by
  by_cases hc : x < 0
  · exact rs_pair_eq (rs_RR_of h) rfl (fun P => by rw [q_setSeed (rs_hOK h), if_pos hc]) (fun P => by rw [p_setSeed (rs_pOK h rfl), if_pos hc])
  · obtain ⟨v, hv, rfl⟩ := nI_of hc
    refine rs_pair_chg h ?_ (fun r hr => rb_u2_row (by omega)) ⟨m, t, rd, ph, rs_seed ⟨v, hv, rfl⟩ (rs_T_rem h)⟩ (fun P => by rw [q_setSeed (rs_hOK h), if_neg hc]) (fun V1 hV P => by rw [p_setSeed (rs_pOK h hV), if_neg hc, hV])
    rw [rs_w h 7 (by decide)]
theorem pr_turn (h : rs_R V m t rd ph f n) : rs_pair V 22 [some (.ref 0), some (.int x), some (.int y), none] 107 [some (.ref 281), some (.int x), some (.int y)] := by
  obtain ⟨hm, hm2, hm8⟩ := rs_m h
  by_cases hc : (0 ≤ x ∧ x < nI m) ∧ ¬ y < 0 ∧ y ≤ 1
  · obtain ⟨hx, h2, h3⟩ := hc
    obtain ⟨i, hi, rfl⟩ := rb_nmem hm8 hx
    have hy : y = 0 ∨ y = 1 := by
      obtain ⟨j, hj, rfl⟩ := nI_of2 (M := 1) (n := 1) (by decide) h2 h3
      rcases (by omega : j = 0 ∨ j = 1) with rfl | rfl
      · exact Or.inl rfl
      · exact Or.inr rfl
    refine rs_pair_chg (a := V 0 3 i) (b := V 12 1 (23 + i)) (c' := rb_u2 (V 0) 3 i y) (W' := rb_u2 (wRem (V 12) n) 1 (23 + i) y) h ?_ (fun r hr => rb_u2_row (by omega)) ⟨m, t, rd, ph, rs_turn (i := i) (y := y) (by omega) hy (rs_T_rem h)⟩ (fun P => by rw [q_turn_k (rs_hOK h) hi h2 h3]) (fun V1 hV P => by rw [p_turn_k (rs_pOK h hV) hi h2 h3, hV])
    exact (h.1.1.2.2.1 i (by omega)).2.1.symm
  · exact rs_pair_eq (rs_RR_of h) rfl (fun P => by rw [q_turn_b (by rw [hm]; exact hc)]) (fun P => by rw [p_turn_b (rs_mp h rfl) hm2 hm8 hc])
theorem pr_pay (h : rs_R V m t rd ph f n) : rs_pair V 24 [some (.ref 0), some (.int x), some (.int y)] 109 [some (.ref 281), some (.int x), some (.int y)] := by
  obtain ⟨hm, hm2, hm8⟩ := rs_m h
  by_cases hc : (0 ≤ x ∧ x < nI m) ∧ ¬ y < 1 ∧ y ≤ 50
  · obtain ⟨hx, h2, h3⟩ := hc
    obtain ⟨i, hi, rfl⟩ := rb_nmem hm8 hx
    have e : V 12 1 (15 + i) = V 0 2 i := (h.1.1.2.2.1 i (by omega)).1
    by_cases q : V 0 2 i + y ≤ 999
    · refine rs_pair_chg h (a := V 0 2 i + y) (b := V 0 2 i + y) rfl (fun r hr => ?_) ⟨m, t, rd, ph, rs_payM (i := i) (y := V 0 2 i + y) (by omega) (rs_T_rem h)⟩ (fun P => by rw [q_pay_k (rs_hOK h) hi h2 h3, if_pos q]) (fun V1 hV P => by rw [p_pay_k (rs_pOK h hV) hi h2 h3, hV, e, if_pos q])
      exact rb_u2_row (by omega)
    · exact rs_pair_eq (rs_RR_of h) rfl (fun P => by rw [q_pay_k (rs_hOK h) hi h2 h3, if_neg q]) (fun P => by rw [p_pay_k (rs_pOK h rfl) hi h2 h3, e, if_neg q])
  · exact rs_pair_eq (rs_RR_of h) rfl (fun P => by rw [q_pay_b (by rw [hm]; exact hc)]) (fun P => by rw [p_pay_b (rs_mp h rfl) hm2 hm8 hc])
theorem pr_commit (h : rs_R V m t rd ph f n) : rs_pair V 26 [some (.ref 0), some (.int x), some (.int y), some (.int z)] 110 [some (.ref 281), some (.int x), some (.int y), some (.int z)] := by
  obtain ⟨hm, hm2, hm8⟩ := rs_m h
  by_cases hc : (0 ≤ x ∧ x < nI m) ∧ (0 ≤ y ∧ y < 256) ∧ (0 ≤ z ∧ z < 1000)
  · obtain ⟨hx, h2, h3⟩ := hc
    obtain ⟨i, hi, rfl⟩ := rb_nmem hm8 hx
    have hM := h.1.1.2.2.1 i (by omega)
    have e12 : V 12 1 12 = V 0 0 3 := h.1.1.2.1.2.2.2.2.2.2.1 3 (by decide)
    have hiff : (V 12 1 4 = 0 ∧ V 12 1 (23 + i) = 1 ∧ V 12 1 (31 + i) = -9 ∧ ¬ V 12 1 (15 + i) < V 12 1 12) ↔ (V 0 11 4 = 0 ∧ V 0 3 i = 1 ∧ V 0 5 i = 0 ∧ ¬ V 0 2 i < V 0 0 3) := by
      rw [rs_w h 4 (by decide), hM.2.1, rs_bound hM, hM.1, e12]
    by_cases q : V 0 11 4 = 0 ∧ V 0 3 i = 1 ∧ V 0 5 i = 0 ∧ ¬ V 0 2 i < V 0 0 3
    · refine rs_pair_chg h rs_commit6 (fun r hr => ?_) ⟨m, t, rd, ph, rs_commit hi h2 h3 q.2.2.1 (rs_T_rem h)⟩ (fun P => by rw [q_commit_k (rs_hOK h) hi h2 h3, if_pos q]) (fun V1 hV P => by rw [p_commit_k (rs_pOK h hV) hi h2 h3, hV, if_pos (hiff.mpr q)])
      exact wLayS_W (by omega) (by omega)
    · exact rs_pair_eq (rs_RR_of h) rfl (fun P => by rw [q_commit_k (rs_hOK h) hi h2 h3, if_neg q]) (fun P => by rw [p_commit_k (rs_pOK h rfl) hi h2 h3, if_neg (fun z => q (hiff.mp z))])
  · exact rs_pair_eq (rs_RR_of h) rfl (fun P => by rw [q_commit_b (by rw [hm]; exact hc)]) (fun P => by rw [p_commit_b (rs_mp h rfl) hm2 hm8 hc])
theorem rs_ph (h : rs_R V m t rd ph f n) {p : Nat} (hp : p ≤ 3) (e : V 0 11 4 = nI p) : ph = p := by
  have h4 := h.1.2.1
  have h3 := h.1.2.2.1
  rw [h4] at e
  exact (nI_eq (by omega) (by omega)).mp e
theorem rs_may (h : rs_R V m t rd ph f n) {i : Nat} (hi : i < 8) : (V 12 1 4 = 1 ∧ V 12 1 (23 + i) = 1 ∧ ¬ V 12 1 (31 + i) = -9 ∧ V 12 1 (47 + i) = -9) ↔ (V 0 11 4 = 1 ∧ V 0 3 i = 1 ∧ V 0 5 i = 1) := by
  rw [rs_w h 4 (by decide)]
  refine and_congr_right fun h4 => ?_
  have hp := rs_ph h (p := 1) (by decide) h4
  have := rs_cond (ph := ph) (by omega) h.1 hi (q := True)
  rw [and_true, and_true] at this
  exact this
theorem pr_reveal (h : rs_R V m t rd ph f n) : rs_pair V 39 [some (.ref 0), some (.int x), some (.int y), some (.int z)] 118 [some (.ref 281), some (.int x), some (.int y), some (.int z)] := by
  obtain ⟨hm, hm2, hm8⟩ := rs_m h
  by_cases hc : (0 ≤ x ∧ x < nI m) ∧ (0 ≤ y ∧ y < 256) ∧ (0 ≤ z ∧ z < 1000)
  · obtain ⟨hx, h2, h3⟩ := hc
    obtain ⟨i, hi, rfl⟩ := rb_nmem hm8 hx
    have hM := h.1.1.2.2.1 i (by omega)
    have hiff := rs_may h (show i < 8 by omega)
    have e13 : V 12 1 13 = V 0 0 4 := h.1.1.2.1.2.2.2.2.2.2.1 4 (by decide)
    by_cases q : V 0 11 4 = 1 ∧ V 0 3 i = 1 ∧ V 0 5 i = 1
    · have e31 : V 12 1 (31 + i) = V 0 6 i := by
        rcases hM.2.2.2.2 with z | z
        · rw [q.2.2] at z; exact absurd z.1 (by decide)
        · exact z.2.2.1
      by_cases q2 : rb_cm (nI i) y z = V 0 6 i
      · refine rs_pair_chg h (a := 1) rfl (fun r hr => ?_) ⟨m, t, rd, ph, rs_reveal (i := i) (by omega) (rn_in_of (N := 256) (by decide) h2) q.2.2 (rs_T_rem h)⟩ (fun P => by rw [q_reveal_k (rs_hOK h) hi h2 h3, if_pos q, if_pos q2]) (fun V1 hV P => by rw [p_reveal_k (rs_pOK h hV) hi h2 h3, hV, if_pos (hiff.mpr q), e31, if_pos q2])
        exact rb_u2_row (by omega)
      · refine rs_pair_chg h (a := 0) rfl (fun r hr => ?_) ⟨m, t, rd, ph, rs_fineT (i := i) (by omega) (V 0 0 4) (rs_T_rem h)⟩ (fun P => by rw [q_reveal_k (rs_hOK h) hi h2 h3, if_pos q, if_neg q2]) (fun V1 hV P => by rw [p_reveal_k (rs_pOK h hV) hi h2 h3, hV, if_pos (hiff.mpr q), e31, if_neg q2, e13])
        exact wFine_W (by omega)
    · exact rs_pair_eq (rs_RR_of h) rfl (fun P => by rw [q_reveal_k (rs_hOK h) hi h2 h3, if_neg q]) (fun P => by rw [p_reveal_k (rs_pOK h rfl) hi h2 h3, if_neg (fun z => q (hiff.mp z))])
  · exact rs_pair_eq (rs_RR_of h) rfl (fun P => by rw [q_reveal_b (by rw [hm]; exact hc)]) (fun P => by rw [p_reveal_b (rs_mp h rfl) hm2 hm8 hc])
end RP
