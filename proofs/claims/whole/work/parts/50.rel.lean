/-! COMMITMENTS, SHARES PUBLISHED -/
section RS
variable {m t rd ph : Nat} {c d W Y : Nat → Nat → Int32} {i o : Nat} {y z : Int32}
theorem rs_commit (hi : i < m) (hy : 0 ≤ y ∧ y < 256) (hz : 0 ≤ z ∧ z < 1000) (h5 : c 5 i = 0) (h : rs_T m t rd ph c (W 1)) : rs_T m t rd ph (cBind c i y z m t) (wLayS (wCom W i y z) i y m t 1) := by
  obtain ⟨⟨hH, hA, hM, hP⟩, h4, hp3, w4, w5, w6⟩ := h
  obtain ⟨a0, a1, a2, a3, a7, a8, as, ap⟩ := hA
  obtain ⟨b0, b1, b2, b3, b4, b5, b6, b7, b8⟩ := hH
  have hm8 : m ≤ 8 := b2
  have hi8 : i < 8 := by omega
  have hy' : rn_in 256 y := rn_in_of (N := 256) (by decide) hy
  have hcm : rn_in 10007 (rb_cm (nI i) y z) := rn_cm_in (m := m) hm8 (rb_mem1 hi hm8) hy hz
  have cq : ∀ {r k : Nat}, ¬ (r = 9 ∧ 8 * i ≤ k ∧ k < 8 * i + m) → ¬ (r = 11 ∧ k = 7) → cBind c i y z m t r k = rb_u2 (rb_u2 (rb_u2 c 6 i (rb_cm (nI i) y z)) 7 i y) 5 i 1 r k := fun h1 h2 => by
    unfold cBind cDeal; rw [cDealP_o _ h1 h2, cDeal0_o m h1]
  have co : ∀ {r k : Nat}, ¬ (r = 9 ∧ 8 * i ≤ k ∧ k < 8 * i + m) → ¬ (r = 11 ∧ k = 7) → ¬ ((r = 5 ∨ r = 6 ∨ r = 7) ∧ k = i) → cBind c i y z m t r k = c r k := fun h1 h2 h3 => by
    rw [cq h1 h2, rb_u2_o (by omega), rb_u2_o (by omega), rb_u2_o (by omega)]
  have c7 : cBind c i y z m t 11 7 = rn_sg (c 11 7) (t - 1) := by
    unfold cBind cDeal; rw [cDealP_7, cDeal0_o m (by omega), rb_u2_o (by omega), rb_u2_o (by omega), rb_u2_o (by omega)]
  have e5 : cBind c i y z m t 5 i = 1 := by rw [cq (by omega) (by omega), rb_u2_at]
  have e6 : cBind c i y z m t 6 i = rb_cm (nI i) y z := by rw [cq (by omega) (by omega), rb_u2_o (by omega), rb_u2_o (by omega), rb_u2_at]
  have e7 : cBind c i y z m t 7 i = y := by rw [cq (by omega) (by omega), rb_u2_o (by omega), rb_u2_at]
  have e9 : ∀ j, j < m → cBind c i y z m t 9 (8 * i + j) = rn_v y (c 11 7) j (t - 1) := fun j hj => by
    unfold cBind cDeal; rw [cDealP_i hj, cDeal0_i m hj, cDeal0_o m (by omega), rb_u2_o (by omega), rb_u2_o (by omega), rb_u2_o (by omega)]
  have wq : ∀ {k : Nat}, ¬ (71 + 8 * i ≤ k ∧ k < 71 + 8 * i + m) → ¬ k = 7 → wLayS (wCom W i y z) i y m t 1 k = wCom W i y z 1 k := fun h1 h2 => by
    unfold wLayS; rw [wLay_o m h1, wTerms_1 _ _ _ h2]
  have wo : ∀ {k : Nat}, ¬ (71 + 8 * i ≤ k ∧ k < 71 + 8 * i + m) → ¬ k = 7 → ¬ k = 31 + i → ¬ k = 39 + i → wLayS (wCom W i y z) i y m t 1 k = W 1 k := fun h1 h2 h3 h4 => by
    rw [wq h1 h2]; unfold wCom; rw [rb_u2_o (by omega), rb_u2_o (by omega)]
  have wc7 : wCom W i y z 1 7 = W 1 7 := by unfold wCom; rw [rb_u2_o (by omega), rb_u2_o (by omega)]
  have w7 : wLayS (wCom W i y z) i y m t 1 7 = rn_sg (c 11 7) (t - 1) := by
    unfold wLayS; rw [wLay_o m (by omega), wTerms_7, wc7, a7]
  have w31 : wLayS (wCom W i y z) i y m t 1 (31 + i) = rb_cm (nI i) y z := by
    rw [wq (by omega) (by omega)]; unfold wCom; rw [rb_u2_o (by omega), rb_u2_at]
  have w39 : wLayS (wCom W i y z) i y m t 1 (39 + i) = y := by
    rw [wq (by omega) (by omega)]; unfold wCom; rw [rb_u2_at]
  have w71 : ∀ j, j < m → wLayS (wCom W i y z) i y m t 1 (71 + 8 * i + j) = rn_v y (c 11 7) j (t - 1) ∧ rn_in 257 (rn_v y (c 11 7) j (t - 1)) := fun j hj => by
    obtain ⟨S, hS, p1, p2⟩ := rn_poly hy' b8 (show j < 8 by omega) (t - 1) (by omega)
    refine ⟨?_, by rw [p2]; exact ⟨_, Nat.mod_lt _ (by decide), rfl⟩⟩
    unfold wLayS
    rw [wLay_i m hj]
    unfold wPoly
    rw [rb_sum_congr (f' := fun k => rn_tm y (c 11 7) k * rb_pw (nI (j + 1)) k) (fun k hk => by rw [wTerms_4 (t - 1) k (by omega), wc7, a7])]
    rw [show t - 1 + 1 = t by omega] at p1
    rw [p1, p2, rn_r257 (by omega)]
  refine ⟨⟨⟨by rw [co (by omega) (by omega) (by omega), b0], b1, b2, by rw [co (by omega) (by omega) (by omega), b3], b4, b5, by rw [co (by omega) (by omega) (by omega), b6], b7, by rw [c7]; exact rn_sg_in b8 _⟩, ⟨?_, ?_, ?_, ?_, ?_, ?_, fun j hj => ?_, fun k hk => ?_⟩, fun j hj => ?_, fun o ho => ?_⟩, ?_, hp3, ?_, ?_, ?_⟩
  · rw [wo (by omega) (by omega) (by omega) (by omega), co (by omega) (by omega) (by omega), a0]
  · rw [wo (by omega) (by omega) (by omega) (by omega), co (by omega) (by omega) (by omega), a1]
  · rw [wo (by omega) (by omega) (by omega) (by omega), co (by omega) (by omega) (by omega), a2]
  · rw [wo (by omega) (by omega) (by omega) (by omega), co (by omega) (by omega) (by omega), a3]
  · rw [w7, c7]
  · rw [wo (by omega) (by omega) (by omega) (by omega), co (by omega) (by omega) (by omega), a8]
  · rw [wo (by omega) (by omega) (by omega) (by omega), co (by omega) (by omega) (by omega), as j hj]
  · rw [wo (by omega) (by omega) (by omega) (by omega), co (by omega) (by omega) (by omega), ap k hk]
  · by_cases e : j = i
    · subst e
      obtain ⟨m1, m2, m3, m4, m5⟩ := hM j hj
      refine ⟨?_, ?_, ?_, ?_, Or.inr ⟨?_, ?_, ?_, ?_, Or.inl ⟨e5, ?_, ?_⟩⟩⟩
      · rw [wo (by omega) (by omega) (by omega) (by omega), co (by omega) (by omega) (by omega), m1]
      · rw [wo (by omega) (by omega) (by omega) (by omega), co (by omega) (by omega) (by omega), m2]
      · rw [co (by omega) (by omega) (by omega)]; exact m3
      · rw [wo (by omega) (by omega) (by omega) (by omega), co (by omega) (by omega) (by omega), m4]
      · rw [e6]; exact hcm
      · rw [e7]; exact hy'
      · rw [w31, e6]
      · rw [w39, e7]
      · rw [wo (by omega) (by omega) (by omega) (by omega)]
        exact (rs_rev (hM j hj)).mpr (by rw [h5]; decide)
      · rw [wo (by omega) (by omega) (by omega) (by omega)]
        exact (rs_rec (hM j hj)).mpr (by rw [h5]; decide)
    · exact rs_M_k (fun r h1 h2 => co (by omega) (by omega) (by omega)) (fun k h1 h2 h3 => wo (by omega) (by omega) (by omega) (by omega)) id hj (hM j hj)
  · by_cases e : o = i
    · subst e
      obtain ⟨p1, p2, p3, p4, p5⟩ := hP o ho
      refine ⟨fun j hj => ?_, fun j hj => ?_, fun q j hj => ?_, fun q => ?_, fun q => ?_⟩
      · rw [wo (by omega) (by omega) (by omega) (by omega), co (by omega) (by omega) (by omega), p1 j hj]
      · rw [co (by omega) (by omega) (by omega)]; exact p2 j hj
      · rw [e9 j hj, (w71 j hj).1]; exact ⟨rfl, (w71 j hj).2⟩
      · have : rn_ct (fun j => ¬ cBind c o y z m t 10 (8 * o + j) = -9) m = 0 := rn_ct_zero.mpr fun j hj q2 => q2 (by rw [co (by omega) (by omega) (by omega)]; exact p5 h5 j (by omega))
        rw [this]; omega
      · rw [e5] at q; exact absurd q (by decide)
    · exact rs_P_k (co (by omega) (by omega) (by omega)) (fun k h1 h2 => co (by omega) (by omega) (by omega)) (fun k h1 h2 => co (by omega) (by omega) (by omega)) (fun k hk => wo (by omega) (by omega) (by omega) (by omega)) hm8 (hP o ho)
  · rw [co (by omega) (by omega) (by omega), h4]
  · rw [wo (by omega) (by omega) (by omega) (by omega), co (by omega) (by omega) (by omega), w4]
  · rw [wo (by omega) (by omega) (by omega) (by omega), co (by omega) (by omega) (by omega), w5]
  · rw [wo (by omega) (by omega) (by omega) (by omega), co (by omega) (by omega) (by omega), w6]
theorem rs_commit6 : cBind c i y z m t 6 i = rb_cm (nI i) y z := by
  unfold cBind cDeal
  rw [cDealP_o _ (by omega) (by omega), cDeal0_o m (by omega), rb_u2_o (by omega), rb_u2_o (by omega), rb_u2_at]
/-- an owner's row of published shares, told from either side -/
theorem rs_row (hm8 : m ≤ 8) (hY : ∀ j, j < 8 → Y 5 j = d 10 (8 * o + j)) (hv : ∀ j, j < 8 → d 10 (8 * o + j) = -9 ∨ (j < m ∧ rn_in 257 (d 10 (8 * o + j)))) : rb_bc (cGiv d o m) = nI (rn_ct (fun j => ¬ d 10 (8 * o + j) = -9) m) ∧ wSk Y = nI (rn_ct (fun j => ¬ d 10 (8 * o + j) = -9) m) ∧ cItp d o (cGiv d o m) m = wAtZ (Y 5) ∧ rn_in 257 (wAtZ (Y 5)) := by
  have hm : ∀ j, m ≤ j → j < 8 → d 10 (8 * o + j) = -9 := fun j h1 h2 => (hv j h2).resolve_right (fun q => by omega)
  refine ⟨rn_giv_bc d o m hm8, rs_sk hm8 hY hm, ?_⟩
  refine rn_itp hm8 hY (fun j hj => ?_) (fun k hk => ?_) (fun j h1 h2 => ?_)
  · rw [hY j hj]
    rcases hv j hj with q | q
    · exact Or.inl q
    · exact Or.inr q.2
  · rw [rn_giv_bit d o m hm8 hk, hY k hk]
    constructor
    · exact fun q => q.2
    · intro q
      refine ⟨?_, q⟩
      rcases hv k hk with q2 | q2
      · exact absurd q2 q
      · exact q2.1
  · rw [hY j h2]; exact hm j h1 h2
/-- one more share -/
theorem rs_show (hi : i < m) (ho : o < m) (h1 : c 5 o = 1) (h9 : c 10 (8 * o + i) = -9) (hz : rn_in 257 z) (hp : 2 ≤ ph) (hk : rb_mk (nI i) z = rb_mk (nI i) (c 9 (8 * o + i))) (h : rs_T m t rd ph c (W 1)) : rs_T m t rd ph (cShowC c i o z m) (wPubl W o i z t 1) ∧ cShowR c i o z m = wSk (wPublT W o i z) := by
  obtain ⟨⟨hH, hA, hM, hP⟩, h4, hp3, w4, w5, w6⟩ := h
  have hm8 : m ≤ 8 := hH.2.2.1
  have hi8 : i < 8 := by omega
  have ho8 : o < 8 := by omega
  have ht : c 11 1 = nI t := hH.2.2.2.1
  obtain ⟨p1, p2, p3, p4, p5⟩ := hP o ho8
  obtain ⟨m1, m2, m3, m4, m5⟩ := hM o ho8
  have do_ : ∀ {r k : Nat}, ¬ (r = 10 ∧ k = 8 * o + i) → rb_u2 c 10 (8 * o + i) z r k = c r k := fun q => rb_u2_o q
  have dv : ∀ j, j < 8 → rb_u2 c 10 (8 * o + i) z 10 (8 * o + j) = -9 ∨ (j < m ∧ rn_in 257 (rb_u2 c 10 (8 * o + i) z 10 (8 * o + j))) := fun j hj => by
    by_cases e : j = i
    · subst e; rw [rb_u2_at]; exact Or.inr ⟨hi, hz⟩
    · rw [do_ (by omega)]; exact p2 j hj
  have tw : ∀ k, wPublT W o i z 1 k = rb_u2 W 1 (135 + 8 * o + i) z 1 k := fun k => by unfold wPublT; rw [wTake_1]
  have t5 : ∀ j, j < 8 → wPublT W o i z 5 j = rb_u2 c 10 (8 * o + i) z 10 (8 * o + j) := fun j hj => by
    unfold wPublT
    rw [wTake_5, if_pos hj]
    by_cases e : j = i
    · subst e; rw [rb_u2_at, rb_u2_at]
    · rw [do_ (by omega), rb_u2_o (by omega), p1 j hj]
  obtain ⟨r1, r2, r3, r4⟩ := rs_row (d := rb_u2 c 10 (8 * o + i) z) (Y := wPublT W o i z) (o := o) hm8 t5 dv
  have hn : rn_ct (fun j => ¬ rb_u2 c 10 (8 * o + i) z 10 (8 * o + j) = -9) m = rn_ct (fun j => ¬ c 10 (8 * o + j) = -9) m + 1 := rn_ct_set (i := i) (fun q => q h9) (by rw [rb_u2_at]; exact rn_in_ne hz (by decide)) (fun k hk => by rw [do_ (by omega)]) hi
  have hlt := p4 h1
  have hle := rn_ct_le (fun j => ¬ c 10 (8 * o + j) = -9) m
  have ht8 : t ≤ m := hH.2.2.2.2.2.1
  rw [hn] at r1 r2
  generalize rn_ct (fun j => ¬ c 10 (8 * o + j) = -9) m = n at hn hlt hle r1 r2
  have ew : ∀ v k, ¬ k = 55 + o → rb_u2 (wPublT W o i z) 1 (55 + o) v 1 k = rb_u2 W 1 (135 + 8 * o + i) z 1 k := fun v k q => by rw [rb_u2_o (by omega), tw]
  have wo : ∀ v k, ¬ k = 55 + o → ¬ k = 135 + 8 * o + i → rb_u2 (wPublT W o i z) 1 (55 + o) v 1 k = W 1 k := fun v k q1 q2 => by rw [ew v k q1, rb_u2_o (by omega)]
  have eR : cShowR c i o z m = wSk (wPublT W o i z) := by unfold cShowR; rw [if_pos hk, r1, r2]
  refine ⟨?_, eR⟩
  unfold wPubl cShowC
  rw [if_pos hk, r1, r2, r3, ht]
  have w47 : W 1 (47 + o) = -9 := (rs_rev (hM o ho8)).mpr (by rw [h1]; decide)
  have w55 : W 1 (55 + o) = -9 := (rs_rec (hM o ho8)).mpr (by rw [h1]; decide)
  have key : ∀ (c' : Nat → Nat → Int32) (v : Int32), (∀ r k, ¬ (r = 10 ∧ k = 8 * o + i) → ¬ ((r = 5 ∨ r = 8) ∧ k = o) → c' r k = c r k) → (∀ j, j < 8 → c' 10 (8 * o + j) = rb_u2 c 10 (8 * o + i) z 10 (8 * o + j)) → ((c' 5 o = 1 ∧ n + 1 < t ∧ v = -9) ∨ (c' 5 o = 3 ∧ rn_in 257 v ∧ c' 8 o = v)) → rs_T m t rd ph c' (rb_u2 (wPublT W o i z) 1 (55 + o) v 1) := by
    intro c' v co c10 hc
    have c5 : ¬ c' 5 o = 0 := by rcases hc with q | q <;> rw [q.1] <;> decide
    refine ⟨⟨rs_H_k (co _ _ (by omega) (by omega)) (co _ _ (by omega) (by omega)) (co _ _ (by omega) (by omega)) (co _ _ (by omega) (by omega)) hH, rs_A_k (fun k q1 q2 => co _ _ (by omega) (by omega)) (fun k q1 q2 => wo _ _ (by omega) (by omega)) (wo _ _ (by omega) (by omega)) (fun j hj => wo _ _ (by omega) (by omega)) (fun k hk => by have := hH.2.2.2.2.2.2.2.1; exact wo _ _ (by omega) (by omega)) (fun j hj => co _ _ (by omega) (by omega)) (fun k hk => co _ _ (by omega) (by omega)) hA, fun j hj => ?_, fun x hx => ?_⟩, ?_, hp3, ?_, ?_, ?_⟩
    · by_cases e : j = o
      · subst e
        refine ⟨?_, ?_, ?_, ?_, ?_⟩
        · rw [wo _ _ (by omega) (by omega), co _ _ (by omega) (by omega), m1]
        · rw [wo _ _ (by omega) (by omega), co _ _ (by omega) (by omega), m2]
        · rw [co _ _ (by omega) (by omega)]; exact m3
        · rw [wo _ _ (by omega) (by omega), co _ _ (by omega) (by omega), m4]
        · rcases m5 with q | ⟨q1, q2, q3, q4, q5⟩
          · rw [h1] at q; exact absurd q.1 (by decide)
          · refine Or.inr ⟨?_, ?_, ?_, ?_, ?_⟩
            · rw [co _ _ (by omega) (by omega)]; exact q1
            · rw [co _ _ (by omega) (by omega)]; exact q2
            · rw [wo _ _ (by omega) (by omega), co _ _ (by omega) (by omega), q3]
            · rw [wo _ _ (by omega) (by omega), co _ _ (by omega) (by omega), q4]
            · rcases hc with ⟨x1, x2, x3⟩ | ⟨x1, x2, x3⟩
              · exact Or.inl ⟨x1, by rw [wo _ _ (by omega) (by omega), w47], by rw [rb_u2_at, x3]⟩
              · exact Or.inr (Or.inr ⟨x1, hp, by rw [x3]; exact x2, by rw [wo _ _ (by omega) (by omega), w47], by rw [rb_u2_at, x3]⟩)
      · exact rs_M_k (fun r q1 q2 => co _ _ (by omega) (by omega)) (fun k q1 q2 q3 => wo _ _ (by omega) (by omega)) id hj (hM j hj)
    · by_cases e : x = o
      · subst e
        refine ⟨fun j hj => ?_, fun j hj => ?_, fun q j hj => ?_, fun q => ?_, fun q => absurd q c5⟩
        · rw [ew _ _ (by omega), c10 j hj]
          by_cases e2 : j = i
          · subst e2; rw [rb_u2_at, rb_u2_at]
          · rw [rb_u2_o (by omega), rb_u2_o (by omega), p1 j hj]
        · rw [c10 j hj]; exact dv j hj
        · rw [wo _ _ (by omega) (by omega), co _ _ (by omega) (by omega)]
          exact p3 (by rw [h1]; decide) j hj
        · rw [rn_ct_cong (q := fun j => ¬ rb_u2 c 10 (8 * x + i) z 10 (8 * x + j) = -9) (fun j hj => by rw [c10 j (by omega)]), hn]
          rcases hc with y | y
          · exact y.2.1
          · rw [q] at y; exact absurd y.1 (by decide)
      · exact rs_P_k (co _ _ (by omega) (by omega)) (fun k q1 q2 => co _ _ (by omega) (by omega)) (fun k q1 q2 => co _ _ (by omega) (by omega)) (fun k hk => wo _ _ (by omega) (by omega)) hm8 (hP x hx)
    · rw [co _ _ (by omega) (by omega), h4]
    · rw [wo _ _ (by omega) (by omega), co _ _ (by omega) (by omega), w4]
    · rw [wo _ _ (by omega) (by omega), co _ _ (by omega) (by omega), w5]
    · rw [wo _ _ (by omega) (by omega), co _ _ (by omega) (by omega), w6]
  by_cases q : n + 1 < t
  · rw [if_pos (nI_lt q (by omega)), if_neg (fun x => by have := (nI_eq (by omega) (by omega)).mp x; omega)]
    exact key _ _ (fun r k q1 _ => do_ q1) (fun j hj => rfl) (Or.inl ⟨by rw [do_ (by omega)]; exact h1, q, rfl⟩)
  · rw [if_neg (nI_nlt (by omega) (by omega)), if_pos (by rw [show n + 1 = t by omega])]
    refine key _ _ (fun r k q1 q2 => ?_) (fun j hj => ?_) (Or.inr ⟨?_, r4, ?_⟩)
    · unfold cLearn; rw [rb_u2_o (by omega), rb_u2_o (by omega), do_ q1]
    · unfold cLearn; rw [rb_u2_o (by omega), rb_u2_o (by omega)]
    · unfold cLearn; rw [rb_u2_at]
    · unfold cLearn; rw [rb_u2_o (by omega), rb_u2_at]
end RS
