/-! THE RELATION of a state's content c to the reference's numbers w -/
theorem rb_u2_o {c : Nat → Nat → Int32} {r j r' j' : Nat} {v : Int32} (h : ¬ (r' = r ∧ j' = j)) : rb_u2 c r j v r' j' = c r' j' := by rw [rb_u2_get, if_neg h]
theorem rb_u2_s {c : Nat → Nat → Int32} {r j r' j' : Nat} {v : Int32} (h : r' = r ∧ j' = j) : rb_u2 c r j v r' j' = v := by rw [rb_u2_get, if_pos h]
theorem rb_u1_o {c : Nat → Nat → Int32} {r r' : Nat} {f : Nat → Int32} (j' : Nat) (h : ¬ r' = r) : rb_u1 c r f r' j' = c r' j' := by rw [rb_u1_row h]
theorem rb_u1_s {c : Nat → Nat → Int32} {r r' : Nat} {f : Nat → Int32} (j' : Nat) (h : r' = r) : rb_u1 c r f r' j' = f j' := by subst h; rw [rb_u1_at]
def rs_H (m t rd : Nat) (c : Nat → Nat → Int32) : Prop := c 11 0 = nI m ∧ 2 ≤ m ∧ m ≤ 8 ∧ c 11 1 = nI t ∧ 1 ≤ t ∧ t ≤ m ∧ c 11 3 = nI rd ∧ rd < 30 ∧ rn_in (2 ^ 31) (c 11 7)
def rs_A (rd : Nat) (c : Nat → Nat → Int32) (w : Nat → Int32) : Prop := w 0 = c 11 0 ∧ w 1 = c 11 1 ∧ w 2 = c 11 2 ∧ w 3 = c 11 3 ∧ w 7 = c 11 7 ∧ w 8 = c 1 rd ∧ (∀ j, j < 6 → w (9 + j) = c 0 j) ∧ (∀ k, k < rd → w (199 + k) = c 1 k)
def rs_K (ph : Nat) (c : Nat → Nat → Int32) (w : Nat → Int32) (i : Nat) : Prop := (c 5 i = 1 ∧ w (47 + i) = -9 ∧ w (55 + i) = -9) ∨ (c 5 i = 2 ∧ rn_in 257 (c 8 i) ∧ w (47 + i) = c 8 i ∧ w (55 + i) = -9) ∨ (c 5 i = 3 ∧ 2 ≤ ph ∧ rn_in 257 (c 8 i) ∧ w (47 + i) = -9 ∧ w (55 + i) = c 8 i)
def rs_B (ph : Nat) (c : Nat → Nat → Int32) (w : Nat → Int32) (i : Nat) : Prop := (c 5 i = 0 ∧ w (31 + i) = -9 ∧ w (47 + i) = -9 ∧ w (55 + i) = -9) ∨ (rn_in 10007 (c 6 i) ∧ rn_in 256 (c 7 i) ∧ w (31 + i) = c 6 i ∧ w (39 + i) = c 7 i ∧ rs_K ph c w i)
def rs_M (ph : Nat) (c : Nat → Nat → Int32) (w : Nat → Int32) (i : Nat) : Prop := w (15 + i) = c 2 i ∧ w (23 + i) = c 3 i ∧ (c 3 i = 0 ∨ c 3 i = 1) ∧ w (63 + i) = c 4 i ∧ rs_B ph c w i
def rs_P (m t : Nat) (c : Nat → Nat → Int32) (w : Nat → Int32) (o : Nat) : Prop := (∀ j, j < 8 → w (135 + 8 * o + j) = c 10 (8 * o + j)) ∧ (∀ j, j < 8 → c 10 (8 * o + j) = -9 ∨ (j < m ∧ rn_in 257 (c 10 (8 * o + j)))) ∧ (¬ c 5 o = 0 → ∀ j, j < m → w (71 + 8 * o + j) = c 9 (8 * o + j) ∧ rn_in 257 (c 9 (8 * o + j))) ∧ (c 5 o = 1 → rn_ct (fun j => ¬ c 10 (8 * o + j) = -9) m < t) ∧ (c 5 o = 0 → ∀ j, j < 8 → c 10 (8 * o + j) = -9)
def rs_S (m t rd ph : Nat) (c : Nat → Nat → Int32) (w : Nat → Int32) : Prop := rs_H m t rd c ∧ rs_A rd c w ∧ (∀ i, i < 8 → rs_M ph c w i) ∧ (∀ o, o < 8 → rs_P m t c w o)
def rs_T (m t rd ph : Nat) (c : Nat → Nat → Int32) (w : Nat → Int32) : Prop := rs_S m t rd ph c w ∧ c 11 4 = nI ph ∧ ph ≤ 3 ∧ w 4 = c 11 4 ∧ w 5 = c 11 5 ∧ w 6 = c 11 6
section RS
variable {m t rd ph ph' : Nat} {c c' : Nat → Nat → Int32} {w w' : Nat → Int32} {i j o : Nat}
theorem rs_H_k (h0 : c' 11 0 = c 11 0) (h1 : c' 11 1 = c 11 1) (h3 : c' 11 3 = c 11 3) (h7 : c' 11 7 = c 11 7) (h : rs_H m t rd c) : rs_H m t rd c' := by
  unfold rs_H; rw [h0, h1, h3, h7]; exact h
theorem rs_A_k (hc : ∀ k, k < 8 → ¬ (k = 4 ∨ k = 5 ∨ k = 6) → c' 11 k = c 11 k) (hw : ∀ k, k < 8 → ¬ (k = 4 ∨ k = 5 ∨ k = 6) → w' k = w k) (h8 : w' 8 = w 8) (hs : ∀ j, j < 6 → w' (9 + j) = w (9 + j)) (hp : ∀ k, k < rd → w' (199 + k) = w (199 + k)) (h0 : ∀ j, j < 6 → c' 0 j = c 0 j) (h1 : ∀ k, k ≤ rd → c' 1 k = c 1 k) (h : rs_A rd c w) : rs_A rd c' w' := by
  obtain ⟨a0, a1, a2, a3, a7, a8, as, ap⟩ := h
  refine ⟨?_, ?_, ?_, ?_, ?_, ?_, fun j hj => ?_, fun k hk => ?_⟩
  · rw [hw 0 (by decide) (by decide), hc 0 (by decide) (by decide), a0]
  · rw [hw 1 (by decide) (by decide), hc 1 (by decide) (by decide), a1]
  · rw [hw 2 (by decide) (by decide), hc 2 (by decide) (by decide), a2]
  · rw [hw 3 (by decide) (by decide), hc 3 (by decide) (by decide), a3]
  · rw [hw 7 (by decide) (by decide), hc 7 (by decide) (by decide), a7]
  · rw [h8, h1 rd (Nat.le_refl _), a8]
  · rw [hs j hj, h0 j hj, as j hj]
  · rw [hp k hk, h1 k (by omega), ap k hk]
theorem rs_B_k (h5 : c' 5 i = c 5 i) (h6 : c' 6 i = c 6 i) (h7 : c' 7 i = c 7 i) (h8 : c' 8 i = c 8 i) (a : w' (31 + i) = w (31 + i)) (b : w' (39 + i) = w (39 + i)) (d : w' (47 + i) = w (47 + i)) (e : w' (55 + i) = w (55 + i)) (hp : 2 ≤ ph → 2 ≤ ph') (h : rs_B ph c w i) : rs_B ph' c' w' i := by
  unfold rs_B rs_K
  rw [h5, h6, h7, h8, a, b, d, e]
  rcases h with h | ⟨a1, a2, a3, a4, h⟩
  · exact Or.inl h
  · refine Or.inr ⟨a1, a2, a3, a4, ?_⟩
    rcases h with h | h | ⟨b1, b2, b3⟩
    · exact Or.inl h
    · exact Or.inr (Or.inl h)
    · exact Or.inr (Or.inr ⟨b1, hp b2, b3⟩)
/-- a member that nothing was done to -/
theorem rs_M_k (hc : ∀ r, 2 ≤ r → r ≤ 8 → c' r i = c r i) (hw : ∀ k, 15 ≤ k → k < 71 → k % 8 = (i + 7) % 8 → w' k = w k) (hp : 2 ≤ ph → 2 ≤ ph') (hi : i < 8) (h : rs_M ph c w i) : rs_M ph' c' w' i := by
  obtain ⟨a, b, d, e, h⟩ := h
  refine ⟨?_, ?_, ?_, ?_, rs_B_k (hc 5 (by decide) (by decide)) (hc 6 (by decide) (by decide)) (hc 7 (by decide) (by decide)) (hc 8 (by decide) (by decide)) (hw _ (by omega) (by omega) (by omega)) (hw _ (by omega) (by omega) (by omega)) (hw _ (by omega) (by omega) (by omega)) (hw _ (by omega) (by omega) (by omega)) hp h⟩
  · rw [hw _ (by omega) (by omega) (by omega), hc 2 (by decide) (by decide), a]
  · rw [hw _ (by omega) (by omega) (by omega), hc 3 (by decide) (by decide), b]
  · rw [hc 3 (by decide) (by decide)]; exact d
  · rw [hw _ (by omega) (by omega) (by omega), hc 4 (by decide) (by decide), e]
/-- an owner whose shares nothing was done to -/
theorem rs_P_k (h5 : c' 5 o = c 5 o) (h9 : ∀ k, 8 * o ≤ k → k < 8 * o + 8 → c' 9 k = c 9 k) (h10 : ∀ k, 8 * o ≤ k → k < 8 * o + 8 → c' 10 k = c 10 k) (hw : ∀ k, (71 + 8 * o ≤ k ∧ k < 79 + 8 * o) ∨ (135 + 8 * o ≤ k ∧ k < 143 + 8 * o) → w' k = w k) (hm : m ≤ 8) (h : rs_P m t c w o) : rs_P m t c' w' o := by
  obtain ⟨a, b, d, e, f⟩ := h
  refine ⟨fun j hj => ?_, fun j hj => ?_, fun q j hj => ?_, fun q => ?_, fun q j hj => ?_⟩
  · rw [hw _ (by omega), h10 _ (by omega) (by omega), a j hj]
  · rw [h10 _ (by omega) (by omega)]; exact b j hj
  · rw [hw _ (by omega), h9 _ (by omega) (by omega)]; rw [h5] at q; exact d q j hj
  · rw [h5] at q
    rw [rn_ct_cong (q := fun j => ¬ c 10 (8 * o + j) = -9) (fun j hj => by rw [h10 _ (by omega) (by omega)])]
    exact e q
  · rw [h5] at q; rw [h10 _ (by omega) (by omega)]; exact f q j hj
/-- what speaks of the same numbers -/
theorem rs_S_k (hc : ∀ k, k < 8 → ¬ (k = 4 ∨ k = 5 ∨ k = 6) → c' 11 k = c 11 k) (hr : ∀ r, r < 11 → ∀ j, c' r j = c r j) (hw : ∀ k, k < 229 → ¬ (k = 4 ∨ k = 5 ∨ k = 6) → w' k = w k) (hp : 2 ≤ ph → 2 ≤ ph') (h : rs_S m t rd ph c w) : rs_S m t rd ph' c' w' := by
  obtain ⟨a, b, d, e⟩ := h
  have hm8 : m ≤ 8 := a.2.2.1
  have hrd : rd < 30 := a.2.2.2.2.2.2.2.1
  refine ⟨rs_H_k (hc 0 (by decide) (by decide)) (hc 1 (by decide) (by decide)) (hc 3 (by decide) (by decide)) (hc 7 (by decide) (by decide)) a, rs_A_k hc (fun k h1 h2 => hw k (by omega) h2) (hw 8 (by decide) (by decide)) (fun j hj => hw _ (by omega) (by omega)) (fun k hk => hw _ (by omega) (by omega)) (fun j _ => hr 0 (by decide) j) (fun k _ => hr 1 (by decide) k) b, fun i hi => rs_M_k (fun r _ h2 => hr r (by omega) i) (fun k h1 h2 _ => hw k (by omega) (by omega)) hp hi (d i hi), fun o ho => rs_P_k (hr 5 (by decide) o) (fun k _ _ => hr 9 (by decide) k) (fun k _ _ => hr 10 (by decide) k) (fun k hk => hw k (by omega) (by omega)) hm8 (e o ho)⟩
theorem rs_T_k (hc : ∀ k, k < 8 → c' 11 k = c 11 k) (hr : ∀ r, r < 11 → ∀ j, c' r j = c r j) (hw : ∀ k, k < 229 → w' k = w k) (h : rs_T m t rd ph c w) : rs_T m t rd ph c' w' := by
  obtain ⟨a, b, b2, d, e, f⟩ := h
  exact ⟨rs_S_k (fun k h1 _ => hc k h1) hr (fun k h1 _ => hw k h1) id a, by rw [hc 4 (by decide), b], b2, by rw [hw 4 (by decide), hc 4 (by decide), d], by rw [hw 5 (by decide), hc 5 (by decide), e], by rw [hw 6 (by decide), hc 6 (by decide), f]⟩
theorem rs_T_copy {d : Nat → Nat → Int32} (h : rs_T m t rd ph c w) : rs_T m t rd ph (cCopy d c) w := rs_T_k (fun k hk => cCopy_11 d c k hk) (fun r hr j => by rw [cCopy_row d c r hr]) (fun _ _ => rfl) h
/-- how a member stands, told from either side -/
theorem rs_bound (h : rs_M ph c w i) : (w (31 + i) = -9 ↔ c 5 i = 0) := by
  rcases h.2.2.2.2 with h | ⟨a1, a2, a3, a4, h⟩
  · exact ⟨fun _ => h.1, fun _ => h.2.1⟩
  · refine ⟨fun q => absurd (a3 ▸ q) (rn_in_ne a1 (by decide)), fun q => ?_⟩
    rcases h with h | h | h
    · rw [h.1] at q; exact absurd q (by decide)
    · rw [h.1] at q; exact absurd q (by decide)
    · rw [h.1] at q; exact absurd q (by decide)
theorem rs_rev (h : rs_M ph c w i) : (w (47 + i) = -9 ↔ ¬ c 5 i = 2) := by
  rcases h.2.2.2.2 with h | ⟨a1, a2, a3, a4, h | h | h⟩
  · exact ⟨fun _ => by rw [h.1]; decide, fun _ => h.2.2.1⟩
  · exact ⟨fun _ => by rw [h.1]; decide, fun _ => h.2.1⟩
  · exact ⟨fun q => absurd (h.2.2.1 ▸ q) (rn_in_ne h.2.1 (by decide)), fun q => absurd h.1 q⟩
  · exact ⟨fun _ => by rw [h.1]; decide, fun _ => h.2.2.2.1⟩
theorem rs_rec (h : rs_M ph c w i) : (w (55 + i) = -9 ↔ ¬ c 5 i = 3) := by
  rcases h.2.2.2.2 with h | ⟨a1, a2, a3, a4, h | h | h⟩
  · exact ⟨fun _ => by rw [h.1]; decide, fun _ => h.2.2.2⟩
  · exact ⟨fun _ => by rw [h.1]; decide, fun _ => h.2.2⟩
  · exact ⟨fun _ => by rw [h.1]; decide, fun _ => h.2.2.2⟩
  · exact ⟨fun q => absurd (h.2.2.2.2 ▸ q) (rn_in_ne h.2.2.1 (by decide)), fun q => absurd h.1 q⟩
theorem rs_st (h : rs_M ph c w i) : c 5 i = 0 ∨ c 5 i = 1 ∨ c 5 i = 2 ∨ (c 5 i = 3 ∧ 2 ≤ ph) := by
  rcases h.2.2.2.2 with h | ⟨a1, a2, a3, a4, h | h | h⟩
  · exact Or.inl h.1
  · exact Or.inr (Or.inl h.1)
  · exact Or.inr (Or.inr (Or.inl h.1))
  · exact Or.inr (Or.inr (Or.inr ⟨h.1, h.2.1⟩))
end RS
theorem rs_kn {W c : Nat → Nat → Int32} {ph i : Nat} (h : rs_M ph c (W 1) i) : wKn W i = (if c 5 i = 2 ∨ c 5 i = 3 then c 8 i else -9) ∧ (wKn W i = -9 ↔ ¬ (c 5 i = 2 ∨ c 5 i = 3)) := by
  unfold wKn
  rcases h.2.2.2.2 with h | ⟨a1, a2, a3, a4, h | h | h⟩
  · have hn : ¬ (c 5 i = 2 ∨ c 5 i = 3) := by rw [h.1]; decide
    rw [if_pos h.2.2.1, h.2.2.2, if_neg hn]
    exact ⟨rfl, fun _ => hn, fun _ => rfl⟩
  · have hn : ¬ (c 5 i = 2 ∨ c 5 i = 3) := by rw [h.1]; decide
    rw [if_pos h.2.1, h.2.2, if_neg hn]
    exact ⟨rfl, fun _ => hn, fun _ => rfl⟩
  · have hp : c 5 i = 2 ∨ c 5 i = 3 := Or.inl h.1
    have hn := rn_in_ne h.2.1 (by decide)
    rw [h.2.2.1, if_neg hn, if_pos hp]
    exact ⟨rfl, fun q => absurd q hn, fun q => absurd hp q⟩
  · have hp : c 5 i = 2 ∨ c 5 i = 3 := Or.inr h.1
    have hn := rn_in_ne h.2.2.1 (by decide)
    rw [if_pos h.2.2.2.1, h.2.2.2.2, if_pos hp]
    exact ⟨rfl, fun q => absurd q hn, fun q => absurd hp q⟩
