/-! WHAT COULD BE: shares shown by all -/
def rs_V (m t n : Nat) (d Y : Nat → Nat → Int32) : Prop := d 11 1 = nI t ∧ Y 1 14 = d 0 5 ∧ (∀ i, i < 8 → rs_M 3 d (Y 1) i) ∧ (∀ o, n ≤ o → o < 8 → rs_P m t d (Y 1) o)
section RS
variable {m t rd ph : Nat} {c d W Y : Nat → Nat → Int32} {i o : Nat} {s s' : Int32}
/-- a hidden secret's owner, in the midst of it -/
def rs_J (m t o : Nat) (d Y G Z : Nat → Nat → Int32) : Prop := (∀ r k, ¬ (r = 10 ∧ 8 * o ≤ k ∧ k < 8 * o + 8) → ¬ ((r = 5 ∨ r = 8) ∧ k = o) → G r k = d r k) ∧ Z 1 = Y 1 ∧ (∀ j, j < 8 → Z 5 j = G 10 (8 * o + j)) ∧ (∀ j, j < 8 → G 10 (8 * o + j) = -9 ∨ (j < m ∧ rn_in 257 (G 10 (8 * o + j)))) ∧ ((G 5 o = 1 ∧ rn_ct (fun j => ¬ G 10 (8 * o + j) = -9) m < t) ∨ (G 5 o = 3 ∧ rn_ct (fun j => ¬ G 10 (8 * o + j) = -9) m = t ∧ G 8 o = wAtZ (Z 5) ∧ rn_in 257 (G 8 o)))
theorem rs_J0 (hm8 : m ≤ 8) (ho : o < 8) (h1 : d 5 o = 1) (h : rs_P m t d (Y 1) o) : rs_J m t o d Y d (wTake Y o 8) := by
  obtain ⟨p1, p2, p3, p4, p5⟩ := h
  refine ⟨fun _ _ _ _ => rfl, wTake_1 Y o 8, fun j hj => ?_, p2, Or.inl ⟨h1, p4 h1⟩⟩
  rw [wTake_5, if_pos hj, p1 j hj]
theorem rs_Jn (hm8 : m ≤ 8) (htm : t ≤ m) (ho : o < m) (hi : i < m) (hs : nI i = s ↔ nI i = s') (hV : rs_V m t o d Y) (h1 : d 5 o = 1) (h : rs_J m t o d Y (cShowI s o m d i) (wGvL s' o t (wTake Y o 8) i)) : rs_J m t o d Y (cShowI s o m d (i + 1)) (wGvL s' o t (wTake Y o 8) (i + 1)) := by
  obtain ⟨vt, -, vM, vP⟩ := hV
  obtain ⟨p1, p2, p3, p4, p5⟩ := vP o (Nat.le_refl _) (by omega)
  have h0 := h
  obtain ⟨jo, jz, j5, jv, jc⟩ := h
  unfold cShowI wGvL
  generalize cShowI s o m d i = G at jo jz j5 jv jc h0
  generalize wGvL s' o t (wTake Y o 8) i = Z at jo jz j5 jv jc h0
  obtain ⟨r1, r2, r3, r4⟩ := rs_row (d := G) (Y := Z) (o := o) hm8 j5 jv
  have hle := rn_ct_le (fun j => ¬ G 10 (8 * o + j) = -9) m
  rcases jc with ⟨g5, glt⟩ | ⟨g5, geq, g8, g8'⟩
  · rw [if_neg (show ¬ nI t ≤ wSk Z by rw [r2]; exact nI_ge glt (by omega))]
    have e3 : i = o ∨ (Z 1 (23 + i) = G 3 i ∧ (Z 1 (31 + i) = -9 ↔ G 5 i = 0)) := by
      by_cases e : i = o
      · exact Or.inl e
      · refine Or.inr ⟨?_, ?_⟩
        · rw [jz, (vM i (by omega)).2.1, jo _ _ (by omega) (by omega)]
        · rw [jz, rs_bound (vM i (by omega)), jo 5 i (by omega) (by omega)]
    have hcond : (¬ nI i = s ∧ ¬ i = o ∧ G 3 i = 1 ∧ ¬ G 5 i = 0 ∧ G 5 o = 1 ∧ G 10 (8 * o + i) = -9) ↔ (¬ i = o ∧ ¬ nI i = s' ∧ Z 1 (23 + i) = 1 ∧ ¬ Z 1 (31 + i) = -9 ∧ Z 5 i = -9) := by
      rw [j5 i (by omega), hs]
      rcases e3 with e | ⟨e1, e2⟩
      · exact ⟨fun q => absurd e q.2.1, fun q => absurd e q.1⟩
      · rw [e1, e2]
        exact ⟨fun ⟨q1, q2, q3, q4, q5, q6⟩ => ⟨q2, q1, q3, q4, q6⟩, fun ⟨q2, q1, q3, q4, q6⟩ => ⟨q1, q2, q3, q4, g5, q6⟩⟩
    by_cases hq : ¬ i = o ∧ ¬ nI i = s' ∧ Z 1 (23 + i) = 1 ∧ ¬ Z 1 (31 + i) = -9 ∧ Z 5 i = -9
    · rw [if_pos (hcond.mpr hq), if_pos hq]
      have hz5 : Z 5 i = -9 := hq.2.2.2.2
      have g9 : G 10 (8 * o + i) = -9 := by rw [← j5 i (by omega)]; exact hz5
      obtain ⟨x1, x2⟩ := p3 (by rw [h1]; decide) i hi
      have ex : Z 1 (71 + 8 * o + i) = G 9 (8 * o + i) := by rw [jz, x1, jo _ _ (by omega) (by omega)]
      have ez : rn_in 257 (G 9 (8 * o + i)) := by rw [jo _ _ (by omega) (by omega)]; exact x2
      obtain ⟨z, hz⟩ : ∃ z, z = G 9 (8 * o + i) := ⟨_, rfl⟩
      rw [ex]
      rw [← hz] at ez ⊢
      have go : ∀ {r k : Nat}, ¬ (r = 10 ∧ k = 8 * o + i) → rb_u2 G 10 (8 * o + i) z r k = G r k := fun q => rb_u2_o q
      have dv : ∀ j, j < 8 → rb_u2 G 10 (8 * o + i) z 10 (8 * o + j) = -9 ∨ (j < m ∧ rn_in 257 (rb_u2 G 10 (8 * o + i) z 10 (8 * o + j))) := fun j hj => by
        by_cases e : j = i
        · subst e; rw [rb_u2_at]; exact Or.inr ⟨hi, ez⟩
        · rw [go (by omega)]; exact jv j hj
      have z5 : ∀ j, j < 8 → rb_u2 Z 5 i z 5 j = rb_u2 G 10 (8 * o + i) z 10 (8 * o + j) := fun j hj => by
        by_cases e : j = i
        · subst e; rw [rb_u2_at, rb_u2_at]
        · rw [go (by omega), rb_u2_o (by omega), j5 j hj]
      obtain ⟨q1, q2, q3, q4⟩ := rs_row (d := rb_u2 G 10 (8 * o + i) z) (Y := rb_u2 Z 5 i z) (o := o) hm8 z5 dv
      have hn : rn_ct (fun j => ¬ rb_u2 G 10 (8 * o + i) z 10 (8 * o + j) = -9) m = rn_ct (fun j => ¬ G 10 (8 * o + j) = -9) m + 1 := rn_ct_set (i := i) (fun q => q g9) (by rw [rb_u2_at]; exact rn_in_ne ez (by decide)) (fun k hk => by rw [go (by omega)]) hi
      have z1 : rb_u2 Z 5 i z 1 = Y 1 := by rw [rb_u2_row (by decide), jz]
      unfold cShowC
      have g11 : G 11 1 = nI t := by rw [jo _ _ (by omega) (by omega), vt]
      rw [if_pos (show rb_mk (nI i) z = rb_mk (nI i) (G 9 (8 * o + i)) by rw [hz]), q1, q3, g11]
      have lo : ∀ {v : Int32} {r k : Nat}, ¬ ((r = 5 ∨ r = 8) ∧ k = o) → cLearn (rb_u2 G 10 (8 * o + i) z) o v 3 r k = rb_u2 G 10 (8 * o + i) z r k := fun q => by
        unfold cLearn; rw [rb_u2_o (by omega), rb_u2_o (by omega)]
      by_cases q : rn_ct (fun j => ¬ rb_u2 G 10 (8 * o + i) z 10 (8 * o + j) = -9) m < t
      · rw [if_pos (nI_lt q (by omega))]
        exact ⟨fun r k a b => by rw [go (by omega), jo r k a b], z1, z5, dv, Or.inl ⟨by rw [go (by omega)]; exact g5, q⟩⟩
      · rw [if_neg (nI_nlt (by omega) (by omega))]
        refine ⟨fun r k a b => by rw [lo b, go (by omega), jo r k a b], z1, fun j hj => by rw [lo (by omega)]; exact z5 j hj, fun j hj => by rw [lo (by omega)]; exact dv j hj, Or.inr ⟨?_, ?_, ?_, ?_⟩⟩
        · unfold cLearn; rw [rb_u2_at]
        · rw [rn_ct_cong (q := fun j => ¬ rb_u2 G 10 (8 * o + i) z 10 (8 * o + j) = -9) (fun j hj => by rw [lo (by omega)])]; omega
        · unfold cLearn; rw [rb_u2_o (by omega), rb_u2_at]
        · unfold cLearn; rw [rb_u2_o (by omega), rb_u2_at]; exact q4
    · rw [if_neg (fun x => hq (hcond.mp x)), if_neg hq]
      exact h0
  · rw [if_pos (show nI t ≤ wSk Z by rw [r2, geq]; exact nI_le (Nat.le_refl t) (by omega)), if_neg (fun q => by rw [g5] at q; exact absurd q.2.2.2.2.1 (by decide))]
    exact h0
theorem rs_Ja (hm8 : m ≤ 8) (htm : t ≤ m) (ho : o < m) (hs : ∀ i, i < 8 → (nI i = s ↔ nI i = s')) (hV : rs_V m t o d Y) (h1 : d 5 o = 1) : ∀ i, i ≤ m → rs_J m t o d Y (cShowI s o m d i) (wGvL s' o t (wTake Y o 8) i)
  | 0, _ => rs_J0 hm8 (by omega) h1 (hV.2.2.2 o (Nat.le_refl _) (by omega))
  | i + 1, hi => rs_Jn hm8 htm ho (by omega) (hs i (by omega)) hV h1 (rs_Ja hm8 htm ho hs hV h1 i (by omega))
theorem cShowI_id (h1 : ¬ d 5 o = 1) : ∀ i, cShowI s o m d i = d
  | 0 => rfl
  | i + 1 => by
    unfold cShowI
    rw [cShowI_id h1 i, if_neg (fun q => h1 q.2.2.2.2.1)]
theorem rs_Vn (hm8 : m ≤ 8) (htm : t ≤ m) (ht1 : 1 ≤ t) (ho : o < m) (hs : ∀ i, i < 8 → (nI i = s ↔ nI i = s')) (hV : rs_V m t o d Y) : rs_V m t (o + 1) (cShowI s o m d m) (wRcO s' t m o Y) := by
  have hMo := hV.2.2.1 o (by omega)
  have e1 := rs_bound hMo
  have e2 := (rs_kn hMo).2
  unfold wRcO
  by_cases h1 : d 5 o = 1
  · rw [if_pos ⟨fun q => by rw [e1.mp q] at h1; exact absurd h1 (by decide), e2.mpr (by rw [h1]; decide)⟩]
    obtain ⟨jo, jz, j5, jv, jc⟩ := rs_Ja hm8 htm ho hs hV h1 m (Nat.le_refl _)
    obtain ⟨vt, v14, vM, vP⟩ := hV
    generalize cShowI s o m d m = G at jo jz j5 jv jc
    generalize wGvL s' o t (wTake Y o 8) m = Z at jo jz j5 jv jc
    obtain ⟨r1, r2, r3, r4⟩ := rs_row (d := G) (Y := Z) (o := o) hm8 j5 jv
    have hle := rn_ct_le (fun j => ¬ G 10 (8 * o + j) = -9) m
    have wo : ∀ {k : Nat} {v : Int32}, ¬ k = 55 + o → rb_u2 Z 1 (55 + o) v 1 k = Y 1 k := fun q => by rw [rb_u2_o (by omega), jz]
    have w47 : Y 1 (47 + o) = -9 := (rs_rev hMo).mpr (by rw [h1]; decide)
    obtain ⟨m1, m2, m3, m4, m5⟩ := hMo
    refine ⟨?_, ?_, fun i hi => ?_, fun x hx hx8 => ?_⟩
    · rw [jo _ _ (by omega) (by omega), vt]
    · rw [wo (by omega), jo _ _ (by omega) (by omega), v14]
    · by_cases e : i = o
      · subst e
        refine ⟨?_, ?_, ?_, ?_, ?_⟩
        · rw [wo (by omega), jo _ _ (by omega) (by omega), m1]
        · rw [wo (by omega), jo _ _ (by omega) (by omega), m2]
        · rw [jo _ _ (by omega) (by omega)]; exact m3
        · rw [wo (by omega), jo _ _ (by omega) (by omega), m4]
        · rcases m5 with q | ⟨q1, q2, q3, q4, q5⟩
          · rw [h1] at q; exact absurd q.1 (by decide)
          · refine Or.inr ⟨?_, ?_, ?_, ?_, ?_⟩
            · rw [jo _ _ (by omega) (by omega)]; exact q1
            · rw [jo _ _ (by omega) (by omega)]; exact q2
            · rw [wo (by omega), jo _ _ (by omega) (by omega), q3]
            · rw [wo (by omega), jo _ _ (by omega) (by omega), q4]
            · rcases jc with ⟨g5, glt⟩ | ⟨g5, geq, g8, g8'⟩
              · refine Or.inl ⟨g5, by rw [wo (by omega), w47], ?_⟩
                rw [rb_u2_at, r2, if_neg (fun x => by have := (nI_eq (by omega) (by omega)).mp x; omega)]
              · refine Or.inr (Or.inr ⟨g5, by decide, g8', by rw [wo (by omega), w47], ?_⟩)
                rw [rb_u2_at, r2, if_pos (by rw [geq]), g8]
      · exact rs_M_k (fun r q1 q2 => jo _ _ (by omega) (by omega)) (fun k q1 q2 q3 => wo (by omega)) id hi (vM i hi)
    · exact rs_P_k (jo _ _ (by omega) (by omega)) (fun k q1 q2 => jo _ _ (by omega) (by omega)) (fun k q1 q2 => jo _ _ (by omega) (by omega)) (fun k hk => wo (by omega)) hm8 (vP x (by omega) hx8)
  · rw [cShowI_id h1, if_neg]
    · exact ⟨hV.1, hV.2.1, hV.2.2.1, fun x hx => hV.2.2.2 x (by omega)⟩
    · rintro ⟨q1, q2⟩
      rcases rs_st4 hMo with q | q | q | q
      · exact q1 (e1.mpr q)
      · exact h1 q
      · exact (e2.mp q2) (Or.inl q)
      · exact (e2.mp q2) (Or.inr q)
theorem rs_Va (hm8 : m ≤ 8) (htm : t ≤ m) (ht1 : 1 ≤ t) (hs : ∀ i, i < 8 → (nI i = s ↔ nI i = s')) (hV : rs_V m t 0 d Y) : ∀ o, o ≤ m → rs_V m t o (cShowA s m d o) (wRcA s' t m Y o)
  | 0, _ => hV
  | o + 1, ho => rs_Vn hm8 htm ht1 (by omega) hs (rs_Va hm8 htm ht1 hs hV o (by omega))
/-- all show what they can: the output is the same -/
theorem rs_all (hm8 : m ≤ 8) (htm : t ≤ m) (ht1 : 1 ≤ t) (hs : ∀ i, i < 8 → (nI i = s ↔ nI i = s')) (hV : rs_V m t 0 d Y) : wOut (wRcA s' t m Y m) m = cOut (cShowA s m d m) m := by
  have h := rs_Va hm8 htm ht1 hs hV m (Nat.le_refl _)
  exact rs_out (fun i hi => h.2.2.1 i (by omega)) h.2.1
theorem rs_V0 (h : rs_T m t rd ph c (W 1)) : rs_V m t 0 c W := ⟨h.1.1.2.2.2.1, h.1.2.1.2.2.2.2.2.2.1 5 (by decide), fun i hi => rs_M_k (fun _ _ _ => rfl) (fun _ _ _ _ => rfl) (fun _ => by decide) hi (h.1.2.2.1 i hi), fun o _ ho => h.1.2.2.2 o ho⟩
/-- some secrets are uncovered -/
theorem rs_unc {U : Nat → Prop} {c' W' : Nat → Nat → Int32} (h : rs_T m t rd ph c (W 1)) (hU : ∀ j, U j → c 5 j = 1) (co : ∀ r k, ¬ ((r = 5 ∨ r = 8) ∧ U k) → c' r k = c r k) (c5 : ∀ k, U k → c' 5 k = 2 ∧ c' 8 k = c 7 k) (wo : ∀ k, ¬ (47 ≤ k ∧ k < 55 ∧ U (k - 47)) → W' 1 k = W 1 k) (w5 : ∀ k, k < 8 → U k → W' 1 (47 + k) = W 1 (39 + k)) : rs_V m t 0 c' W' := by
  have hm8 : m ≤ 8 := h.1.1.2.2.1
  refine ⟨?_, ?_, fun i hi => ?_, fun o _ ho => ?_⟩
  · rw [co _ _ (by omega)]; exact h.1.1.2.2.2.1
  · rw [wo _ (by omega), co _ _ (by omega)]; exact h.1.2.1.2.2.2.2.2.2.1 5 (by decide)
  · have hM := h.1.2.2.1 i hi
    obtain ⟨m1, m2, m3, m4, m5⟩ := hM
    by_cases u : U i
    · refine ⟨?_, ?_, ?_, ?_, ?_⟩
      · rw [wo _ (by omega), co _ _ (by omega), m1]
      · rw [wo _ (by omega), co _ _ (by omega), m2]
      · rw [co _ _ (by omega)]; exact m3
      · rw [wo _ (by omega), co _ _ (by omega), m4]
      · have q5 := hU i u
        obtain ⟨u5, u8⟩ := c5 i u
        rcases m5 with q | ⟨q1, q2, q3, q4, q⟩
        · rw [q5] at q; exact absurd q.1 (by decide)
        · refine Or.inr ⟨?_, ?_, ?_, ?_, Or.inr (Or.inl ⟨u5, ?_, ?_, ?_⟩)⟩
          · rw [co _ _ (by omega)]; exact q1
          · rw [co _ _ (by omega)]; exact q2
          · rw [wo _ (by omega), co _ _ (by omega), q3]
          · rw [wo _ (by omega), co _ _ (by omega), q4]
          · rw [u8]; exact rn_in_mono q2 (by decide)
          · rw [w5 i hi u, u8, q4]
          · rw [wo _ (by omega)]
            exact (rs_rec (h.1.2.2.1 i hi)).mpr (by rw [q5]; decide)
    · refine rs_M_k (fun r q1 q2 => co _ _ (fun q => u q.2)) (fun k q1 q2 q3 => wo _ (fun q => u ?_)) (fun _ => by decide) hi (h.1.2.2.1 i hi)
      have : k - 47 = i := by omega
      rw [← this]; exact q.2.2
  · obtain ⟨p1, p2, p3, p4, p5⟩ := h.1.2.2.2 o ho
    have z5 : (c' 5 o = 0 ↔ c 5 o = 0) ∧ (c' 5 o = 1 → c 5 o = 1) := by
      by_cases u : U o
      · have q5 := hU o u
        have u5 := (c5 o u).1
        rw [q5, u5]; decide
      · rw [co 5 o (fun q => u q.2)]; exact ⟨Iff.rfl, id⟩
    refine ⟨fun j hj => ?_, fun j hj => ?_, fun q j hj => ?_, fun q => ?_, fun q j hj => ?_⟩
    · rw [wo _ (by omega), co _ _ (by omega)]; exact p1 j hj
    · rw [co _ _ (by omega)]; exact p2 j hj
    · rw [wo _ (by omega), co _ _ (by omega)]; exact p3 (fun x => q (z5.1.mpr x)) j hj
    · rw [rn_ct_cong (q := fun j => ¬ c 10 (8 * o + j) = -9) (fun j hj => by rw [co _ _ (by omega)])]
      exact p4 (z5.2 q)
    · rw [co _ _ (by omega)]; exact p5 (z5.1.mp q) j hj
end RS
