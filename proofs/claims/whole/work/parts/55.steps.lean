/-! BOTH OBJECTS AT ONE CALL, 2 -/
section RP
variable {V : rb_V} {m t rd ph f n kq kp : Nat} {Lq Lp : rb_L} {a b : Int32} {x y z : Int32}
theorem rs_may2 (h : rs_R V m t rd ph f n) {i o : Nat} (hi : i < 8) (ho : o < 8) (hio : ¬ i = o) : (V 12 1 4 = 2 ∧ V 12 1 (23 + i) = 1 ∧ ¬ V 12 1 (31 + i) = -9 ∧ ¬ V 12 1 (31 + o) = -9 ∧ wKn (V 12) o = -9 ∧ V 12 1 (135 + 8 * o + i) = -9) ↔ (V 0 11 4 = 2 ∧ ¬ i = o ∧ V 0 3 i = 1 ∧ ¬ V 0 5 i = 0 ∧ V 0 5 o = 1 ∧ V 0 10 (8 * o + i) = -9) := by
  have hM := h.1.1.2.2.1 i hi
  have hMo := h.1.1.2.2.1 o ho
  have hP := h.1.1.2.2.2 o ho
  rw [rs_w h 4 (by decide), hM.2.1, rs_bound hM, rs_bound hMo, (rs_kn hMo).2, hP.1 i hi]
  constructor
  · rintro ⟨a1, a2, a3, a4, a5, a6⟩
    refine ⟨a1, hio, a2, a3, ?_, a6⟩
    rcases rs_st4 hMo with q | q | q | q
    · exact absurd q a4
    · exact q
    · exact absurd (Or.inl q) a5
    · exact absurd (Or.inr q) a5
  · rintro ⟨a1, _, a2, a3, a5, a6⟩
    refine ⟨a1, a2, a3, ?_, ?_, a6⟩
    · rw [a5]; decide
    · rw [a5]; decide
theorem pr_publish (h : rs_R V m t rd ph f n) : rs_pair V 45 [some (.ref 0), some (.int x), some (.int y), some (.int z)] 120 [some (.ref 281), some (.int x), some (.int y), some (.int z), none] := by
  obtain ⟨hm, hm2, hm8⟩ := rs_m h
  by_cases hc : ((0 ≤ x ∧ x < nI m) ∧ (0 ≤ y ∧ y < nI m) ∧ ¬ x = y) ∧ ¬ z < 0 ∧ z < 257
  · obtain ⟨⟨hx, hy, hxy⟩, h2, h3⟩ := hc
    obtain ⟨i, hi, rfl⟩ := rb_nmem hm8 hx
    obtain ⟨o, ho, rfl⟩ := rb_nmem hm8 hy
    have hio : ¬ i = o := fun q => hxy (by rw [q])
    have hz : rn_in 257 z := rn_in_of (N := 257) (by decide) ⟨Int32.not_lt.mp h2, h3⟩
    have hiff := rs_may2 h (show i < 8 by omega) (show o < 8 by omega) hio
    have e13 : V 12 1 13 = V 0 0 4 := h.1.1.2.1.2.2.2.2.2.2.1 4 (by decide)
    have hP := h.1.1.2.2.2 o (by omega)
    by_cases q : V 0 11 4 = 2 ∧ ¬ i = o ∧ V 0 3 i = 1 ∧ ¬ V 0 5 i = 0 ∧ V 0 5 o = 1 ∧ V 0 10 (8 * o + i) = -9
    · have e71 : V 12 1 (71 + 8 * o + i) = V 0 9 (8 * o + i) := (hP.2.2.1 (by rw [q.2.2.2.2.1]; decide) i hi).1
      have hph := rs_ph h (p := 2) (by decide) q.1
      by_cases q2 : rb_mk (nI i) z = rb_mk (nI i) (V 0 9 (8 * o + i))
      · obtain ⟨s1, s2⟩ := rs_show hi ho q.2.2.2.2.1 q.2.2.2.2.2 hz (by omega) q2 (rs_T_rem h)
        refine rs_pair_chg h s2 (fun r hr => ?_) ⟨m, t, rd, ph, s1⟩ (fun P => by rw [q_publish_k (rs_hOK h) hi ho hio h2 h3, if_pos q]) (fun V1 hV P => by rw [p_publish_k (rs_pOK h hV) hi ho hio h2 h3, hV, if_pos (hiff.mpr q), e71, if_pos q2])
        exact wPubl_W (by omega) (by omega)
      · have eC : cShowC (V 0) i o z m = cFine (V 0) i (V 0 0 4) := by unfold cShowC; rw [if_neg q2]
        have eR : cShowR (V 0) i o z m = 0 := by unfold cShowR; rw [if_neg q2]
        refine rs_pair_chg h eR (fun r hr => ?_) ⟨m, t, rd, ph, rs_fineT (i := i) (by omega) (V 0 0 4) (rs_T_rem h)⟩ (fun P => by rw [q_publish_k (rs_hOK h) hi ho hio h2 h3, if_pos q, eC]) (fun V1 hV P => by rw [p_publish_k (rs_pOK h hV) hi ho hio h2 h3, hV, if_pos (hiff.mpr q), e71, if_neg q2, e13])
        exact wFine_W (by omega)
    · exact rs_pair_eq (rs_RR_of h) rfl (fun P => by rw [q_publish_k (rs_hOK h) hi ho hio h2 h3, if_neg q]) (fun P => by rw [p_publish_k (rs_pOK h rfl) hi ho hio h2 h3, if_neg (fun z => q (hiff.mp z))])
  · exact rs_pair_eq (rs_RR_of h) rfl (fun P => by rw [q_publish_b (by rw [hm]; exact hc)]) (fun P => by rw [p_publish_b (rs_mp h rfl) hm2 hm8 hc])
theorem pr_give (h : rs_R V m t rd ph f n) : rs_pair V 59 [some (.ref 0), some (.int x), some (.int y)] 128 [some (.ref 281), some (.int x), some (.int y)] := by
  obtain ⟨hm, hm2, hm8⟩ := rs_m h
  by_cases hc : (0 ≤ x ∧ x < nI m) ∧ (0 ≤ y ∧ y < nI m) ∧ ¬ x = y
  · obtain ⟨hx, hy, hxy⟩ := hc
    obtain ⟨i, hi, rfl⟩ := rb_nmem hm8 hx
    obtain ⟨o, ho, rfl⟩ := rb_nmem hm8 hy
    have hio : ¬ i = o := fun q => hxy (by rw [q])
    have hiff := rs_may2 h (show i < 8 by omega) (show o < 8 by omega) hio
    have hP := h.1.1.2.2.2 o (by omega)
    have hz : ∀ V1 : rb_V, V1 12 = V 12 → V1 12 1 4 = 2 ∧ V1 12 1 (23 + i) = 1 ∧ ¬ V1 12 1 (31 + i) = -9 ∧ ¬ V1 12 1 (31 + o) = -9 ∧ wKn (V1 12) o = -9 ∧ V1 12 1 (135 + 8 * o + i) = -9 → ¬ V1 12 1 (71 + 8 * o + i) < 0 ∧ V1 12 1 (71 + 8 * o + i) < 257 := by
      intro V1 hV q
      rw [hV] at q ⊢
      have q5 := (hiff.mp q).2.2.2.2.1
      obtain ⟨e, e2⟩ := hP.2.2.1 (by rw [q5]; decide) i hi
      rw [e]
      exact rn_in_lt (N := 257) (by decide) e2
    by_cases q : V 0 11 4 = 2 ∧ ¬ i = o ∧ V 0 3 i = 1 ∧ ¬ V 0 5 i = 0 ∧ V 0 5 o = 1 ∧ V 0 10 (8 * o + i) = -9
    · obtain ⟨e71, e2⟩ := hP.2.2.1 (by rw [q.2.2.2.2.1]; decide) i hi
      have hph := rs_ph h (p := 2) (by decide) q.1
      obtain ⟨s1, s2⟩ := rs_show hi ho q.2.2.2.2.1 q.2.2.2.2.2 e2 (by omega) rfl (rs_T_rem h)
      refine rs_pair_chg h s2 (fun r hr => ?_) ⟨m, t, rd, ph, s1⟩ (fun P => by rw [q_give_k (rs_hOK h) hi ho hio, if_pos q]) (fun V1 hV P => by rw [p_give_k (rs_pOK h hV) hi ho hio (hz V1 hV), hV, if_pos (hiff.mpr q), e71])
      exact wPubl_W (by omega) (by omega)
    · exact rs_pair_eq (rs_RR_of h) rfl (fun P => by rw [q_give_k (rs_hOK h) hi ho hio, if_neg q]) (fun P => by rw [p_give_k (rs_pOK h rfl) hi ho hio (hz V rfl), if_neg (fun z => q (hiff.mp z))])
  · exact rs_pair_eq (rs_RR_of h) rfl (fun P => by rw [q_give_b (by rw [hm]; exact hc)]) (fun P => by rw [p_give_b (rs_mp h rfl) hm2 hm8 hc])
theorem pr_tick (h : rs_R V m t rd ph f n) : rs_pair V 60 [some (.ref 0), some (.int x), none] 129 [some (.ref 281), some (.int x), none] := by
  by_cases hc : x < 1 ∨ 60 < x
  · exact rs_pair_eq (rs_RR_of h) rfl (fun P => by rw [q_tick_b hc]) (fun P => by rw [p_tick_b hc])
  · obtain ⟨k, hk, rfl⟩ := nI_of (x := x) (fun q => hc (Or.inl (by rw [rb_lt_i] at q ⊢; exact Int.lt_trans q (by decide))))
    have h1 : 1 ≤ k := Nat.le_of_not_lt fun q => hc (Or.inl (nI_lt (b := 1) q (by decide)))
    have h60 : k ≤ 60 := Nat.le_of_not_lt fun q => hc (Or.inr (nI_lt (a := 60) q hk))
    obtain ⟨p, hp⟩ := rs_ticks (rs_T_rem h) k
    exact rs_pair_chg h hp.2.2.2.1.symm (fun r hr => wTicks_W (by omega) k) ⟨m, t, rd, p, hp⟩ (fun P => by rw [q_tick_k (rs_hOK h) h1 h60]) (fun V1 hV P => by rw [p_tick_k (rs_pOK h hV) h1 h60, hV])
theorem pr_next (h : rs_R V m t rd ph f n) : rs_pair V 70 [some (.ref 0)] 137 [some (.ref 281)] := by
  have e4 := rs_w h 4 (by decide)
  by_cases q : V 0 11 4 = 3
  · by_cases q2 : rd + 1 < 30
    · exact rs_pair_chg h rfl (fun r hr => wNext_W (by omega)) ⟨m, t, rd + 1, 0, rs_next q2 (rs_T_rem h)⟩ (fun P => by rw [q_next (rs_hOK h), if_pos q, if_pos q2]) (fun V1 hV P => by rw [p_next (rs_pOK h hV), hV, e4, if_pos q, if_pos q2])
    · exact rs_pair_eq (rs_RR_of h) rfl (fun P => by rw [q_next (rs_hOK h), if_pos q, if_neg q2]) (fun P => by rw [p_next (rs_pOK h rfl), e4, if_pos q, if_neg q2])
  · exact rs_pair_eq (rs_RR_of h) rfl (fun P => by rw [q_next (rs_hOK h), if_neg q]) (fun P => by rw [p_next (rs_pOK h rfl), e4, if_neg q])
theorem pr_undo (h : rs_R V m t rd ph f n) : rs_pair V 71 [some (.ref 0)] 138 [some (.ref 281), none] := by
  cases n with
  | zero => exact rs_pair_eq (rs_RR_of h) rfl (fun P => by rw [q_undo_0 (rs_hOK h)]) (fun P => by rw [p_undo_0 (rs_pOK h rfl)])
  | succ n =>
    have hV : hRes V f n 12 = V 12 := hRes_g (by decide) (by decide)
    exact ⟨nI n, _, _, fun P => q_undo_s (rs_hOK h), fun P => by rw [p_undo_s (rs_pOK h hV), hV], rs_undo h⟩
theorem pr_told (h : rs_R V m t rd ph f n) : rs_pair V 73 [some (.ref 0), some (.int x)] 139 [some (.ref 281), some (.int x)] := by
  obtain ⟨hm, hm2, hm8⟩ := rs_m h
  by_cases hc : x.toInt < 0 ∨ 14 < x.toInt
  · exact rs_pair_eq (rs_RR_of h) rfl (fun P => by rw [q_told_b hc]) (fun P => by rw [p_told_b hc])
  · obtain ⟨k, hk, rfl⟩ := nI_of (x := x) (fun q => hc (Or.inl (by rw [rb_lt_i] at q; exact q)))
    have hk15 : k < 15 := by
      rw [nI_toInt hk] at hc
      omega
    have hM : ∀ i, i < m → rs_M ph (V 0) (V 12 1) i := fun i hi => h.1.1.2.2.1 i (by omega)
    refine rs_pair_eq (rs_RR_of h) (a := cTold (V 0) m rd n k) (b := wTold (V 12) m n k) ?_ (fun P => by rw [q_told_k (rs_hOK h) hk15]) (fun P => by rw [p_told_k (rs_pOK h rfl) hk15])
    rcases (by omega : k = 0 ∨ k = 1 ∨ k = 2 ∨ k = 3 ∨ k = 4 ∨ k = 5 ∨ k = 6 ∨ k = 7 ∨ k = 8 ∨ k = 9 ∨ k = 10 ∨ k = 11 ∨ k = 12 ∨ k = 13 ∨ k = 14) with rfl | rfl | rfl | rfl | rfl | rfl | rfl | rfl | rfl | rfl | rfl | rfl | rfl | rfl | rfl
    · exact (rs_w h 0 (by decide)).symm
    · exact (rs_w h 1 (by decide)).symm
    · exact (rs_w h 2 (by decide)).symm
    · exact (rs_w h 3 (by decide)).symm
    · exact (rs_w h 4 (by decide)).symm
    · exact (rs_w h 5 (by decide)).symm
    · exact (rs_w h 6 (by decide)).symm
    · exact (rs_w h 7 (by decide)).symm
    · exact (rs_n31 hM).symm
    · exact (rs_n47 hM).symm
    · exact (rs_n55 hM).symm
    · exact h.1.1.2.1.2.2.2.2.2.1.symm
    · show cDep (V 0) m + V 0 11 6 = wDep (V 12) m + V 12 1 6
      rw [rs_dep hM, rs_w h 6 (by decide)]
    · exact (rs_ons hM).symm
    · rfl
theorem pr_setting (h : rs_R V m t rd ph f n) : rs_pair V 76 [some (.ref 0), some (.int x)] 142 [some (.ref 281), some (.int x)] := by
  by_cases hc : 0 ≤ x ∧ x < 6
  · obtain ⟨i, hi, rfl⟩ := rn_in_of (N := 6) (by decide) hc
    exact rs_pair_eq (rs_RR_of h) (h.1.1.2.1.2.2.2.2.2.2.1 i hi).symm (fun P => by rw [q_setting_k hi]) (fun P => by rw [p_setting_k hi])
  · exact rs_pair_eq (rs_RR_of h) rfl (fun P => by rw [q_setting_b hc]) (fun P => by rw [p_setting_b hc])
/-- the reference's own scratch rows alone are changed -/
theorem rs_pair_scr {W' : Nat → Nat → Int32} (h : rs_R V m t rd ph f n) (hab : a = b) (h0 : ∀ r, r = 0 ∨ r = 2 ∨ r = 3 → W' r = V 12 r) (h1 : ∀ k, k < 229 → W' 1 k = V 12 1 k) (hq : ∀ P, rb_G none kq 0 Lq [] (rb_W V) P ↔ P (some (.int a)) (rb_W V)) (hp : ∀ P, rb_G none kp 0 Lp [] (rb_W V) P ↔ P (some (.int b)) (rb_W (rb_sg V 12 W'))) : rs_pair V kq Lq kp Lp := by
  subst hab
  refine ⟨a, V, _, hq, hp, m, t, rd, ph, f, n, rs_R_k (fun g _ _ h12 => rb_sg_ne _ _ h12) (fun k _ => ?_) (fun k hk => ?_) ?_ ?_ h⟩
  · rw [rb_sg_self, h0 0 (Or.inl rfl)]
  · rw [rb_sg_self, h1 k hk]
  · rw [rb_sg_self, h0 2 (Or.inr (Or.inl rfl))]
  · rw [rb_sg_self, h0 3 (Or.inr (Or.inr rfl))]
theorem pr_member (h : rs_R V m t rd ph f n) : rs_pair V 77 [some (.ref 0), some (.int x), some (.int y)] 143 [some (.ref 281), some (.int x), some (.int y)] := by
  obtain ⟨hm, hm2, hm8⟩ := rs_m h
  by_cases hx : 0 ≤ x ∧ x < nI m
  · obtain ⟨i, hi, rfl⟩ := rb_nmem hm8 hx
    by_cases hc : y.toInt < 0 ∨ 6 < y.toInt
    · exact rs_pair_eq (rs_RR_of h) rfl (fun P => by rw [q_member_c (rs_hOK h) hi hc]) (fun P => by rw [p_member_c (rs_pOK h rfl) hi hc])
    · obtain ⟨k, hk, rfl⟩ := nI_of (x := y) (fun q => hc (Or.inl (by rw [rb_lt_i] at q; exact q)))
      have hk7 : k < 7 := by
        rw [nI_toInt hk] at hc
        omega
      have hM := h.1.1.2.2.1 i (by omega)
      refine rs_pair_scr (a := cMemb (V 0) i m k) (b := wMemb (V 12) i k) (W' := wMembW (V 12) i k) h ?_ (fun r hr => ?_) (fun j hj => ?_) (fun P => by rw [q_member_k (rs_hOK h) hi hk7]) (fun P => by rw [p_member_k (rs_pOK h rfl) hi hk7])
      · rcases (by omega : k = 0 ∨ k = 1 ∨ k = 2 ∨ k = 3 ∨ k = 4 ∨ k = 5 ∨ k = 6) with rfl | rfl | rfl | rfl | rfl | rfl | rfl
        · exact hM.1.symm
        · exact hM.2.1.symm
        · show (if V 0 5 i = 0 then -9 else V 0 6 i) = V 12 1 (31 + i)
          rcases hM.2.2.2.2 with z | z
          · rw [if_pos z.1, z.2.1]
          · rw [if_neg (fun q => rn_in_ne z.1 (by decide) (z.2.2.1.symm.trans ((rs_bound hM).mpr q))), z.2.2.1]
        · exact (rs_kn hM).1.symm
        · exact (rs_pub hm8 (h.1.1.2.2.2 i (by omega))).symm
        · exact (rs_stand hM).symm
        · exact hM.2.2.2.1.symm
      · unfold wMembW
        split
        · exact wTake_W i (by omega) 8
        · rfl
      · unfold wMembW
        split
        · rw [wTake_1]
        · rfl
  · exact rs_pair_eq (rs_RR_of h) rfl (fun P => by rw [q_member_b (by rw [hm]; exact hx)]) (fun P => by rw [p_member_b (rs_mp h rfl) hm2 hm8 hx])
theorem pr_mark (h : rs_R V m t rd ph f n) : rs_pair V 79 [some (.ref 0), some (.int x), some (.int y)] 146 [some (.ref 281), some (.int x), some (.int y)] := by
  obtain ⟨hm, hm2, hm8⟩ := rs_m h
  by_cases hc : (0 ≤ x ∧ x < nI m) ∧ (0 ≤ y ∧ y < nI m)
  · obtain ⟨o, ho, rfl⟩ := rb_nmem hm8 hc.1
    obtain ⟨i, hi, rfl⟩ := rb_nmem hm8 hc.2
    have hMo := h.1.1.2.2.1 o (by omega)
    have hP := h.1.1.2.2.2 o (by omega)
    by_cases q : V 0 5 o = 0
    · exact rs_pair_eq (rs_RR_of h) rfl (fun P => by rw [q_mark_k (rs_hOK h) ho hi, if_pos q]) (fun P => by rw [p_mark_k (rs_pOK h rfl) ho hi, if_pos ((rs_bound hMo).mpr q)])
    · exact rs_pair_eq (rs_RR_of h) rfl (fun P => by rw [q_mark_k (rs_hOK h) ho hi, if_neg q]) (fun P => by rw [p_mark_k (rs_pOK h rfl) ho hi, if_neg (fun z => q ((rs_bound hMo).mp z)), (hP.2.2.1 q i hi).1])
  · exact rs_pair_eq (rs_RR_of h) rfl (fun P => by rw [q_mark_b (by rw [hm]; exact hc)]) (fun P => by rw [p_mark_b (rs_mp h rfl) hm2 hm8 hc])
theorem pr_share (h : rs_R V m t rd ph f n) : rs_pair V 80 [some (.ref 0), some (.int x), some (.int y)] 147 [some (.ref 281), some (.int x), some (.int y)] := by
  obtain ⟨hm, hm2, hm8⟩ := rs_m h
  by_cases hc : (0 ≤ x ∧ x < nI m) ∧ (0 ≤ y ∧ y < nI m)
  · obtain ⟨o, ho, rfl⟩ := rb_nmem hm8 hc.1
    obtain ⟨i, hi, rfl⟩ := rb_nmem hm8 hc.2
    have hP := h.1.1.2.2.2 o (by omega)
    exact rs_pair_eq (rs_RR_of h) (hP.1 i (by omega)).symm (fun P => by rw [q_share_k (rs_hOK h) ho hi]) (fun P => by rw [p_share_k (rs_pOK h rfl) ho hi])
  · exact rs_pair_eq (rs_RR_of h) rfl (fun P => by rw [q_share_b (by rw [hm]; exact hc)]) (fun P => by rw [p_share_b (rs_mp h rfl) hm2 hm8 hc])
theorem pr_commitment (h : rs_R V m t rd ph f n) : rs_pair V 81 [some (.ref 0), some (.int x), some (.int y), some (.int z)] 148 [some (.ref 281), some (.int x), some (.int y), some (.int z)] := by
  obtain ⟨hm, hm2, hm8⟩ := rs_m h
  by_cases hc : (0 ≤ x ∧ x < nI m) ∧ (0 ≤ y ∧ y < 256) ∧ (0 ≤ z ∧ z < 1000)
  · exact rs_pair_eq (rs_RR_of h) rfl (fun P => by rw [q_commitment_k (by rw [hm]; exact hc.1) hc.2.1 hc.2.2]) (fun P => by rw [p_commitment_k (rs_mp h rfl) hm2 hm8 hc.1 hc.2.1 hc.2.2])
  · exact rs_pair_eq (rs_RR_of h) rfl (fun P => by rw [q_commitment_b (by rw [hm]; exact hc)]) (fun P => by rw [p_commitment_b (rs_mp h rfl) hm2 hm8 hc])
theorem pr_openings (h : rs_R V m t rd ph f n) : rs_pair V 82 [some (.ref 0), some (.int x), some (.int y), none, none, none] 149 [some (.ref 281), some (.int x), some (.int y), none, none] := by
  obtain ⟨hm, hm2, hm8⟩ := rs_m h
  have hy : (-1 ≤ y ∧ y ≤ 255) ↔ (y = -1 ∨ (0 ≤ y ∧ y < 256)) := by
    rw [rb_le_i, rb_le_i, rb_le_i, rb_lt_i, ← Int32.toInt_inj]
    show (-1 ≤ y.toInt ∧ y.toInt ≤ 255) ↔ (y.toInt = -1 ∨ (0 ≤ y.toInt ∧ y.toInt < 256))
    omega
  by_cases hc : (0 ≤ x ∧ x < nI m) ∧ (y = -1 ∨ (0 ≤ y ∧ y < 256))
  · obtain ⟨i, hi, rfl⟩ := rb_nmem hm8 hc.1
    have hM := h.1.1.2.2.1 i (by omega)
    have hy' := hy.mpr hc.2
    by_cases q : V 0 5 i = 0
    · exact rs_pair_eq (rs_RR_of h) rfl (fun P => by rw [q_openings_u (rs_hOK h) hi hc.2 q]) (fun P => by rw [p_openings_k (rs_pOK h rfl) hi hy', if_pos ((rs_bound hM).mpr q)])
    · have q' : ¬ V 12 1 (31 + i) = -9 := fun z => q ((rs_bound hM).mp z)
      have hcm : ∃ k, k < 10007 ∧ V 0 6 i = nI k ∧ V 12 1 (31 + i) = nI k := by
        rcases hM.2.2.2.2 with z | z
        · exact absurd z.1 q
        · obtain ⟨k, hk, e⟩ := z.1
          exact ⟨k, hk, e, by rw [z.2.2.1, e]⟩
      obtain ⟨k, hk, e1, e2⟩ := hcm
      rcases hc.2 with rfl | hs
      · refine rs_pair_eq (rs_RR_of h) ?_ (fun P => by rw [q_openings_a (rs_hOK h) hi q e1 hk]) (fun P => by rw [p_openings_k (rs_pOK h rfl) hi hy', if_neg q', if_pos (by decide)])
        unfold cOpA wOpA
        exact rb_sum_congr fun s hs => (rn_ops (by omega) hs hk e2).symm
      · obtain ⟨s, hs1, rfl⟩ := rn_in_of (N := 256) (by decide) hs
        exact rs_pair_eq (rs_RR_of h) (rn_ops (by omega) hs1 hk e2).symm (fun P => by rw [q_openings_s (rs_hOK h) hi hs1 q e1 hk]) (fun P => by rw [p_openings_k (rs_pOK h rfl) hi hy', if_neg q', if_neg (nI_pos (by omega))])
  · exact rs_pair_eq (rs_RR_of h) rfl (fun P => by rw [q_openings_b (by rw [hm]; exact hc)]) (fun P => by rw [p_openings_b (rs_mp h rfl) hm2 hm8 (fun z => hc ⟨z.1, hy.mp z.2⟩)])
theorem pr_past (h : rs_R V m t rd ph f n) : rs_pair V 84 [some (.ref 0), some (.int x)] 151 [some (.ref 281), some (.int x)] := by
  have hrd : rd < 30 := h.1.1.1.2.2.2.2.2.2.2.1
  by_cases hc : 0 ≤ x ∧ x < nI rd
  · obtain ⟨i, hi, rfl⟩ := rn_in_of (N := rd) (by omega) hc
    exact rs_pair_eq (rs_RR_of h) (h.1.1.2.1.2.2.2.2.2.2.2 i hi).symm (fun P => by rw [q_past_k (rs_hOK h) hi]) (fun P => by rw [p_past_k (rs_pOK h rfl) hi])
  · exact rs_pair_eq (rs_RR_of h) rfl (fun P => by rw [q_past_b (rs_hOK h) hc]) (fun P => by rw [p_past_b (rs_pOK h rfl) hc])
theorem pr_honest (h : rs_R V m t rd ph f n) : rs_pair V 85 [some (.ref 0)] 152 [some (.ref 281), none, none] := by
  obtain ⟨hm, hm2, hm8⟩ := rs_m h
  have hM : ∀ i, i < m → rs_M ph (V 0) (V 12 1) i := fun i hi => h.1.1.2.2.1 i (by omega)
  by_cases q : V 0 11 4 = 0 ∨ ¬ 2 ≤ cBound (V 0) m
  · exact rs_pair_eq (rs_RR_of h) rfl (fun P => by rw [q_honest (rs_hOK h), if_pos q]) (fun P => by rw [p_honest (rs_pOK h rfl), rs_w h 4 (by decide), rs_n31 hM, if_pos q])
  · exact rs_pair_eq (rs_RR_of h) (rs_hon hM).symm (fun P => by rw [q_honest (rs_hOK h), if_neg q]) (fun P => by rw [p_honest (rs_pOK h rfl), rs_w h 4 (by decide), rs_n31 hM, if_neg q])
/-- the scratch state and the reference's scratch rows alone are changed -/
theorem rs_pair_try {c' W' : Nat → Nat → Int32} (h : rs_R V m t rd ph f n) (hab : a = b) (h0 : ∀ r, r = 0 ∨ r = 2 ∨ r = 3 → W' r = V 12 r) (h1 : ∀ k, k < 229 → W' 1 k = V 12 1 k) (hq : ∀ P, rb_G none kq 0 Lq [] (rb_W V) P ↔ P (some (.int a)) (rb_W (rb_sg V 1 c'))) (hp : ∀ V1 : rb_V, V1 12 = V 12 → ∀ P, rb_G none kp 0 Lp [] (rb_W V1) P ↔ P (some (.int b)) (rb_W (rb_sg V1 12 W'))) : rs_pair V kq Lq kp Lp := by
  subst hab
  refine ⟨a, _, _, hq, hp _ (rb_sg_ne _ _ (by decide)), m, t, rd, ph, f, n, rs_R_k (fun g _ g1 h12 => by rw [rb_sg_ne _ _ h12, rb_sg_ne _ _ g1]) (fun k _ => ?_) (fun k hk => ?_) ?_ ?_ h⟩
  · rw [rb_sg_self, h0 0 (Or.inl rfl)]
  · rw [rb_sg_self, h1 k hk]
  · rw [rb_sg_self, h0 2 (Or.inr (Or.inl rfl))]
  · rw [rb_sg_self, h0 3 (Or.inr (Or.inr rfl))]
theorem pr_outcome (h : rs_R V m t rd ph f n) : rs_pair V 87 [some (.ref 0)] 153 [some (.ref 281), none] := by
  have e4 := rs_w h 4 (by decide)
  by_cases q : V 0 11 4 = 0
  · exact rs_pair_eq (rs_RR_of h) rfl (fun P => by rw [q_outcome (rs_hOK h), if_pos q]) (fun P => by rw [p_outcome (rs_pOK h rfl), e4, if_pos q])
  · by_cases q2 : V 0 11 4 = 3
    · exact rs_pair_eq (rs_RR_of h) h.1.1.2.1.2.2.2.2.2.1.symm (fun P => by rw [q_outcome (rs_hOK h), if_neg q, if_pos q2]) (fun P => by rw [p_outcome (rs_pOK h rfl), e4, if_neg q, if_pos q2])
    · refine rs_pair_try h (rs_outc (d := V 1) h.1).symm (fun r hr => ?_) (fun k hk => ?_) (fun P => by rw [q_outcome (rs_hOK h), if_neg q, if_neg q2]) (fun V1 hV P => by rw [p_outcome (rs_pOK h hV), hV, e4, if_neg q, if_neg q2])
      · rw [wRel_W (by omega), wRcA_W (by omega) (by omega), wHold_1 _ _ (by omega)]
      · exact wRel_1 (W := V 12) (wRcA_W (by decide) (by decide) m) hk
theorem pr_influence (h : rs_R V m t rd ph f n) : rs_pair V 89 [some (.ref 0), some (.int x)] 157 [some (.ref 281), some (.int x)] := by
  obtain ⟨hm, hm2, hm8⟩ := rs_m h
  by_cases hc : 0 ≤ x ∧ x < nI m
  · obtain ⟨i, hi, rfl⟩ := rb_nmem hm8 hc
    have hiff := rs_may h (show i < 8 by omega)
    have k1 : ∀ k, k < 229 → wRel (wIf (V 12) (nI i) 1 m t) 229 1 k = V 12 1 k := fun k hk => wRel_1 wIf_6 hk
    have k0 : wRel (wIf (V 12) (nI i) 1 m t) 229 1 0 = nI m := by rw [k1 0 (by decide), rs_w h 0 (by decide), hm]
    have kt : wRel (wIf (V 12) (nI i) 1 m t) 229 1 1 = nI t := by rw [k1 1 (by decide), rs_w h 1 (by decide)]; exact h.1.1.1.2.2.2.1
    by_cases q : V 0 11 4 = 1 ∧ V 0 3 i = 1 ∧ V 0 5 i = 1
    · have hph := rs_ph h (p := 1) (by decide) q.1
      have hT2 : rs_T m t rd ph (V 0) (wRel (wIf (V 12) (nI i) 1 m t) 229 1) := rs_T_k (fun _ _ => rfl) (fun _ _ _ => rfl) k1 h.1
      have g1 := rs_inf1 (d := V 1) (by omega) hi q.2.1 q.2.2 h.1
      have g0 := rs_inf0 (d := cTry (V 1) (V 0) i m true) (i := i) (by omega) (by omega) hT2
      refine rs_pair_try h (a := if cOut (cTry (V 1) (V 0) i m true) m = cOut (cTry (cTry (V 1) (V 0) i m true) (V 0) i m false) m then 1 else 2) (b := if wOut (wIf (V 12) (nI i) 1 m t) m = wOut (wIf (wRel (wIf (V 12) (nI i) 1 m t) 229) (nI i) 0 m t) m then 1 else 2) (by rw [g1, g0]) (fun r hr => ?_) (fun k hk => ?_) (fun P => by rw [q_influence_k (rs_hOK h) hi, if_pos q]) (fun V1 hV P => by rw [p_influence_k (rs_pOK h hV) hi (by rw [hV]; exact k0) (by rw [hV]; exact kt), hV, if_pos (hiff.mpr q)])
      · rw [wRel_W (by omega), wIf_W (by omega) (by omega) (by omega), wRel_W (by omega), wIf_W (by omega) (by omega) (by omega)]
      · rw [wRel_1 wIf_6 hk, k1 k hk]
    · exact rs_pair_eq (rs_RR_of h) rfl (fun P => by rw [q_influence_k (rs_hOK h) hi, if_neg q]) (fun P => by rw [p_influence_k (rs_pOK h rfl) hi k0 kt, if_neg (fun z => q (hiff.mp z))])
  · exact rs_pair_eq (rs_RR_of h) rfl (fun P => by rw [q_influence_b (by rw [hm]; exact hc)]) (fun P => by rw [p_influence_b (rs_mp h rfl) hm2 hm8 hc])
theorem pr_keep (h : rs_R V m t rd ph f n) : rs_pair V 94 [some (.ref 0), some (.int x), none] 160 [some (.ref 281), some (.int x), none] := by
  by_cases q0 : x = 0
  · subst q0
    have hV : rb_sg (rb_sg V 10 (cCopy (V 10) (V 0))) 13 (rb_u2 (V 13) 1 0 1) 12 = V 12 := by rw [rb_sg_ne _ _ (by decide), rb_sg_ne _ _ (by decide)]
    exact ⟨nI rd, _, _, fun P => by rw [q_keep (rs_hOK h), if_pos rfl], fun P => by
      have e := p_keep_k (P := P) (p := 0) (rs_pOK h hV) (by decide)
      rw [hV] at e
      exact e, rs_keep0 h⟩
  · by_cases q1 : x = 1
    · subst q1
      have hV : rb_sg (rb_sg V 11 (cCopy (V 11) (V 0))) 13 (rb_u2 (V 13) 2 0 1) 12 = V 12 := by rw [rb_sg_ne _ _ (by decide), rb_sg_ne _ _ (by decide)]
      exact ⟨nI rd, _, _, fun P => by rw [q_keep (rs_hOK h), if_neg q0, if_pos rfl], fun P => by
        have e := p_keep_k (P := P) (p := 1) (rs_pOK h hV) (by decide)
        rw [hV] at e
        exact e, rs_keep1 h⟩
    · exact rs_pair_eq (rs_RR_of h) rfl (fun P => by rw [q_keep (rs_hOK h), if_neg q0, if_neg q1]) (fun P => by rw [p_keep_b q0 q1])
theorem pr_back (h : rs_R V m t rd ph f n) : rs_pair V 96 [some (.ref 0), some (.int x), none] 162 [some (.ref 281), some (.int x), none] := by
  obtain ⟨b0, b1, c0, c1, c2, c3, c4, c5, c6⟩ := h.2.2.2.2.2.2.2
  have hfl := rs_flag b0 c0 b1 c1
  rw [← c4] at hfl
  have z0 : (V 13 1 0 = 0) ↔ b0 = 0 := by rw [c2]; exact nI_eq (b := 0) (by omega) (by decide)
  have z1 : (V 13 2 0 = 0) ↔ b1 = 0 := by rw [c3]; exact nI_eq (b := 0) (by omega) (by decide)
  have bk : ∀ p k, k < 229 → wBk (wRem (V 12) n) p 229 1 k = V 12 3 (229 * p + k) := fun p k hk => by rw [wBk_1, if_pos hk, wRem_3]
  have pb : ∀ p, p < 2 → ∀ V1 : rb_V, V1 12 = V 12 → ∀ P, rb_G none 162 0 [some (.ref 281), some (.int (nI p)), none] [] (rb_W V1) P ↔ (if (V 12 0 1 >>> (nI p &&& 31)) &&& 1 = 0 then P (some (.int (-2))) (rb_W V1) else P (some (.int (wBk (wRem (V 12) n) p 229 1 3))) (rb_W (rb_sg V1 12 (wBk (wRem (V 12) n) p 229)))) := fun p hp V1 hV P => by
    have e := p_back_k (P := P) (p := p) (rs_pOK h hV) hp
    rw [hV] at e
    exact e
  by_cases q0 : x = 0
  · subst q0
    by_cases q : b0 = 0
    · exact rs_pair_eq (rs_RR_of h) rfl (fun P => by rw [q_back (rs_hOK h), if_pos rfl, if_pos (z0.mpr q)]) (fun P => (pb 0 (by decide) V rfl P).trans (by rw [if_pos (hfl.2.2.1.mpr q)]))
    · have hE := c5 (by omega)
      refine rs_pair_chg h (a := V 10 11 3) (b := wBk (wRem (V 12) n) 0 229 1 3) (c' := cCopy (V 0) (V 10)) (W' := wBk (wRem (V 12) n) 0 229) ?_ (fun r hr => wBkR_W (by omega) 229) ?_ (fun P => by rw [q_back (rs_hOK h), if_pos rfl, if_neg (fun y => q (z0.mp y))]) (fun V1 hV P => (pb 0 (by decide) V1 hV P).trans (by rw [if_neg (fun y => q (hfl.2.2.1.mp y))]))
      · obtain ⟨m', t', rd', ph', hE⟩ := hE
        rw [bk 0 3 (by decide)]
        exact hE.1.2.1.2.2.2.1.symm
      · exact rs_E_w (fun k hk => bk 0 k hk) (rs_E_copy hE)
  · by_cases q1 : x = 1
    · subst q1
      by_cases q : b1 = 0
      · exact rs_pair_eq (rs_RR_of h) rfl (fun P => by rw [q_back (rs_hOK h), if_neg q0, if_pos rfl, if_pos (z1.mpr q)]) (fun P => (pb 1 (by decide) V rfl P).trans (by rw [if_pos (hfl.2.2.2.mpr q)]))
      · have hE := c6 (by omega)
        refine rs_pair_chg h (a := V 11 11 3) (b := wBk (wRem (V 12) n) 1 229 1 3) (c' := cCopy (V 0) (V 11)) (W' := wBk (wRem (V 12) n) 1 229) ?_ (fun r hr => wBkR_W (by omega) 229) ?_ (fun P => by rw [q_back (rs_hOK h), if_neg q0, if_pos rfl, if_neg (fun y => q (z1.mp y))]) (fun V1 hV P => (pb 1 (by decide) V1 hV P).trans (by rw [if_neg (fun y => q (hfl.2.2.2.mp y))]))
        · obtain ⟨m', t', rd', ph', hE⟩ := hE
          rw [bk 1 3 (by decide)]
          exact hE.1.2.1.2.2.2.1.symm
        · exact rs_E_w (fun k hk => bk 1 k hk) (rs_E_copy hE)
    · exact rs_pair_eq (rs_RR_of h) rfl (fun P => by rw [q_back (rs_hOK h), if_neg q0, if_neg q1]) (fun P => by rw [p_back_b q0 q1])
end RP
