/-! THE RELATION OF THE TWO OBJECTS -/
def rs_E (c : Nat → Nat → Int32) (w : Nat → Int32) : Prop := ∃ m t rd ph, rs_T m t rd ph c w
def rs_Hi (V : rb_V) (f n : Nat) : Prop := ∀ k, k < n → rs_E (V (2 + (f + k) % 8)) (fun j => V 12 2 (229 * k + j))
def rs_Im (V : rb_V) : Prop := ∃ b0 b1 : Nat, b0 < 2 ∧ b1 < 2 ∧ V 13 1 0 = nI b0 ∧ V 13 2 0 = nI b1 ∧ V 12 0 1 = nI (b0 + 2 * b1) ∧ (b0 = 1 → rs_E (V 10) (fun j => V 12 3 (229 * 0 + j))) ∧ (b1 = 1 → rs_E (V 11) (fun j => V 12 3 (229 * 1 + j)))
def rs_R (V : rb_V) (m t rd ph f n : Nat) : Prop := rs_T m t rd ph (V 0) (V 12 1) ∧ V 13 0 0 = nI f ∧ f < 8 ∧ V 13 0 1 = nI n ∧ n ≤ 8 ∧ V 12 0 0 = nI n ∧ rs_Hi V f n ∧ rs_Im V
def rs_RR (V : rb_V) : Prop := ∃ m t rd ph f n, rs_R V m t rd ph f n
theorem rs_E_k {c c' : Nat → Nat → Int32} {w w' : Nat → Int32} (hc : ∀ k, k < 8 → c' 11 k = c 11 k) (hr : ∀ r, r < 11 → ∀ j, c' r j = c r j) (hw : ∀ k, k < 229 → w' k = w k) (h : rs_E c w) : rs_E c' w' := by
  obtain ⟨m, t, rd, ph, h⟩ := h
  exact ⟨m, t, rd, ph, rs_T_k hc hr hw h⟩
theorem rs_E_w {c : Nat → Nat → Int32} {w w' : Nat → Int32} (hw : ∀ k, k < 229 → w' k = w k) (h : rs_E c w) : rs_E c w' := rs_E_k (fun _ _ => rfl) (fun _ _ _ => rfl) hw h
theorem rs_E_copy {d c : Nat → Nat → Int32} {w : Nat → Int32} (h : rs_E c w) : rs_E (cCopy d c) w := by
  obtain ⟨m, t, rd, ph, h⟩ := h
  exact ⟨m, t, rd, ph, rs_T_copy h⟩
section RS
variable {V : rb_V} {m t rd ph f n : Nat}
theorem rs_hOK (h : rs_R V m t rd ph f n) : hOK V m t rd ph f n := by
  obtain ⟨⟨⟨hH, hA, hM, hP⟩, h4, hp3, w4, w5, w6⟩, hf, hf8, hn, hn8, hn', -, -⟩ := h
  exact ⟨hH.1, hH.2.1, hH.2.2.1, hH.2.2.2.1, hH.2.2.2.2.1, hH.2.2.2.2.2.1, hH.2.2.2.2.2.2.1, hH.2.2.2.2.2.2.2.1, h4, hp3, hf, hf8, hn, hn8⟩
theorem rs_pOK (h : rs_R V m t rd ph f n) {V' : rb_V} (hV : V' 12 = V 12) : pOK V' m t rd ph n := by
  obtain ⟨⟨⟨hH, hA, hM, hP⟩, h4, hp3, w4, w5, w6⟩, hf, hf8, hn, hn8, hn', -, -⟩ := h
  unfold pOK
  rw [hV]
  exact ⟨hA.1.trans hH.1, hH.2.1, hH.2.2.1, hA.2.1.trans hH.2.2.2.1, hH.2.2.2.2.1, hH.2.2.2.2.2.1, hA.2.2.2.1.trans hH.2.2.2.2.2.2.1, hH.2.2.2.2.2.2.2.1, w4.trans h4, hp3, hn', hn8⟩
/-- what of the world the relation looks at -/
theorem rs_R_k {V' : rb_V} (hg : ∀ g, g < 14 → ¬ g = 1 → ¬ g = 12 → V' g = V g) (h0 : ∀ k, k < 2 → V' 12 0 k = V 12 0 k) (h1 : ∀ k, k < 229 → V' 12 1 k = V 12 1 k) (h2 : V' 12 2 = V 12 2) (h3 : V' 12 3 = V 12 3) (h : rs_R V m t rd ph f n) : rs_R V' m t rd ph f n := by
  obtain ⟨hT, hf, hf8, hn, hn8, hn', hH, b0, b1, q0, q1, q2, q3, q4, q5, q6⟩ := h
  have e13 := hg 13 (by decide) (by decide) (by decide)
  refine ⟨?_, by rw [e13, hf], hf8, by rw [e13, hn], hn8, by rw [h0 0 (by decide), hn'], fun k hk => ?_, b0, b1, q0, q1, by rw [e13, q2], by rw [e13, q3], by rw [h0 1 (by decide), q4], fun z => ?_, fun z => ?_⟩
  · rw [hg 0 (by decide) (by decide) (by decide)]
    exact rs_T_k (fun _ _ => rfl) (fun _ _ _ => rfl) h1 hT
  · have := Nat.mod_lt (f + k) (show 0 < 8 by decide)
    rw [hg _ (by omega) (by omega) (by omega), h2]
    exact hH k hk
  · rw [hg 10 (by decide) (by decide) (by decide), h3]; exact q5 z
  · rw [hg 11 (by decide) (by decide) (by decide), h3]; exact q6 z
theorem hRec_g {g : Nat} (hg : ¬ g = 13) (h2 : ¬ g = 2 + (f + n) % 8) : hRec V f n g = V g := by
  unfold hRec; rw [rb_sg_ne _ _ hg, rb_sg_ne _ _ h2]
theorem hRec_p : hRec V f n (2 + (f + n) % 8) = cCopy (V (2 + (f + n) % 8)) (V 0) := by
  unfold hRec
  have := Nat.mod_lt (f + n) (show 0 < 8 by decide)
  rw [rb_sg_ne _ _ (by omega), rb_sg_self]
theorem hRec_12 : hRec V f n 12 = V 12 := by
  have := Nat.mod_lt (f + n) (show 0 < 8 by decide)
  exact hRec_g (by decide) (by omega)
theorem hRec_13 : hRec V f n 13 = (if n < 8 then rb_u2 (V 13) 0 1 (nI (n + 1)) else rb_u2 (V 13) 0 0 (nI ((f + 1) % 8))) := by
  unfold hRec; rw [rb_sg_self]
theorem wRem_2a {W : Nat → Nat → Int32} (h8 : ¬ n = 8) {k : Nat} (h : ¬ (229 * n ≤ k ∧ k < 229 * n + 229)) : wRem W n 2 k = W 2 k := by
  unfold wRem; rw [if_neg h8, rb_u2_o (by omega), wCp_o 229 h]
theorem wRem_2b {W : Nat → Nat → Int32} (h8 : ¬ n = 8) {j : Nat} (h : j < 229) : wRem W n 2 (229 * n + j) = W 1 j := by
  unfold wRem; rw [if_neg h8, rb_u2_o (by omega), wCp_i 229 h]
theorem wRem_2c {W : Nat → Nat → Int32} {k : Nat} (h : k < 1603) : wRem W 8 2 k = W 2 (k + 229) := by
  unfold wRem; rw [if_pos rfl, rb_u2_o (by omega), wCp_o 229 (by omega), rb_u2_o (by omega), wSh_2, if_pos h]
theorem wRem_2d {W : Nat → Nat → Int32} {j : Nat} (h : j < 229) : wRem W 8 2 (229 * 7 + j) = W 1 j := by
  unfold wRem; rw [if_pos rfl, rb_u2_o (by omega), wCp_i 229 h, rb_u2_o (by omega), wSh_1 W 1 (by decide)]
theorem wRem_0 {W : Nat → Nat → Int32} (hn8 : n ≤ 8) : wRem W n 0 0 = nI (if n < 8 then n + 1 else 8) ∧ wRem W n 0 1 = W 0 1 := by
  unfold wRem
  by_cases h : n = 8
  · rw [if_pos h, if_neg (show ¬ n < 8 by omega), rb_u2_at, rb_u2_o (by omega), wCp_1 _ _ 0 (by decide), rb_u2_o (by omega), wSh_1 W 0 (by decide)]
    exact ⟨rfl, rfl⟩
  · rw [if_neg h, if_pos (show n < 8 by omega), rb_u2_at, rb_u2_o (by omega), wCp_1 _ _ 0 (by decide)]
    exact ⟨rfl, rfl⟩
theorem wRem_3 {W : Nat → Nat → Int32} : wRem W n 3 = W 3 := by
  unfold wRem
  by_cases h : n = 8
  · rw [if_pos h, rb_u2_row (by decide), wCp_1 _ _ 3 (by decide), rb_u2_row (by decide), wSh_1 W 3 (by decide)]
  · rw [if_neg h, rb_u2_row (by decide), wCp_1 _ _ 3 (by decide)]
/-- a change, recorded -/
theorem rs_chg {c' W' : Nat → Nat → Int32} (h : rs_R V m t rd ph f n) (h0 : W' 0 = wRem (V 12) n 0) (h2 : W' 2 = wRem (V 12) n 2) (h3 : W' 3 = wRem (V 12) n 3) (hE : rs_E c' (W' 1)) : rs_RR (rb_sg (rb_sg (hRec V f n) 0 c') 12 W') := by
  obtain ⟨hT, hf, hf8, hn, hn8, hn', hH, b0, b1, q0, q1, q2, q3, q4, q5, q6⟩ := h
  obtain ⟨m', t', rd', ph', hE⟩ := hE
  have hp := Nat.mod_lt (f + n) (show 0 < 8 by decide)
  have e0 : rb_sg (rb_sg (hRec V f n) 0 c') 12 W' 0 = c' := by rw [rb_sg_ne _ _ (by decide), rb_sg_self]
  have e12 : rb_sg (rb_sg (hRec V f n) 0 c') 12 W' 12 = W' := rb_sg_self _ _ _
  have eg : ∀ g, ¬ g = 0 → ¬ g = 12 → rb_sg (rb_sg (hRec V f n) 0 c') 12 W' g = hRec V f n g := fun g a b => by rw [rb_sg_ne _ _ b, rb_sg_ne _ _ a]
  have e13 := eg 13 (by decide) (by decide)
  obtain ⟨r0, r1⟩ := wRem_0 (W := V 12) hn8
  have hIm : rs_Im (rb_sg (rb_sg (hRec V f n) 0 c') 12 W') := by
    have k1 : ∀ r, ¬ r = 0 → rb_sg (rb_sg (hRec V f n) 0 c') 12 W' 13 r = V 13 r := fun r hr => by
      rw [e13, hRec_13]; split <;> exact rb_u2_row hr
    refine ⟨b0, b1, q0, q1, by rw [k1 1 (by decide), q2], by rw [k1 2 (by decide), q3], by rw [e12, h0, r1, q4], fun z => ?_, fun z => ?_⟩
    · rw [eg 10 (by decide) (by decide), hRec_g (by decide) (by omega), e12, h3, wRem_3]; exact q5 z
    · rw [eg 11 (by decide) (by decide), hRec_g (by decide) (by omega), e12, h3, wRem_3]; exact q6 z
  by_cases h8 : n = 8
  · subst h8
    have hf1 := Nat.mod_lt (f + 1) (show 0 < 8 by decide)
    refine ⟨m', t', rd', ph', (f + 1) % 8, 8, by rw [e0, e12]; exact hE, by rw [e13, hRec_13, if_neg (by decide), rb_u2_at], hf1, by rw [e13, hRec_13, if_neg (by decide), rb_u2_o (by omega), hn], by decide, by rw [e12, h0, r0, if_neg (by decide)], fun k hk => ?_, hIm⟩
    rw [e12, h2]
    by_cases e : k = 7
    · subst e
      rw [show ((f + 1) % 8 + 7) % 8 = (f + 8) % 8 by omega, eg _ (by omega) (by omega), hRec_p]
      exact rs_E_w (fun j hj => wRem_2d hj) (rs_E_copy ⟨m, t, rd, ph, hT⟩)
    · have hk1 := hH (k + 1) (by omega)
      have hq := Nat.mod_lt (f + (k + 1)) (show 0 < 8 by decide)
      rw [show ((f + 1) % 8 + k) % 8 = (f + (k + 1)) % 8 by omega, eg _ (by omega) (by omega), hRec_g (by omega) (by omega)]
      refine rs_E_w (fun j hj => ?_) hk1
      show wRem (V 12) 8 2 (229 * k + j) = V 12 2 (229 * (k + 1) + j)
      rw [wRem_2c (by omega), show 229 * k + j + 229 = 229 * (k + 1) + j by omega]
  · refine ⟨m', t', rd', ph', f, n + 1, by rw [e0, e12]; exact hE, by rw [e13, hRec_13, if_pos (show n < 8 by omega), rb_u2_o (by omega), hf], hf8, by rw [e13, hRec_13, if_pos (show n < 8 by omega), rb_u2_at], by omega, by rw [e12, h0, r0, if_pos (show n < 8 by omega)], fun k hk => ?_, hIm⟩
    have hq := Nat.mod_lt (f + k) (show 0 < 8 by decide)
    rw [e12, h2]
    by_cases e : k = n
    · subst e
      rw [eg _ (by omega) (by omega), hRec_p]
      exact rs_E_w (fun j hj => wRem_2b h8 hj) (rs_E_copy ⟨m, t, rd, ph, hT⟩)
    · rw [eg _ (by omega) (by omega), hRec_g (by omega) (by omega)]
      exact rs_E_w (fun j hj => wRem_2a h8 (by omega)) (hH k (by omega))
theorem hRes_g {g : Nat} (hg : ¬ g = 13) (h0 : ¬ g = 0) : hRes V f n g = V g := by
  unfold hRes; rw [rb_sg_ne _ _ h0, rb_sg_ne _ _ hg]
theorem rs_undo (h : rs_R V m t rd ph f (n + 1)) : rs_RR (rb_sg (hRes V f n) 12 (wUn (V 12) n)) := by
  obtain ⟨hT, hf, hf8, hn, hn8, hn', hH, b0, b1, q0, q1, q2, q3, q4, q5, q6⟩ := h
  have hp := Nat.mod_lt (f + n) (show 0 < 8 by decide)
  have e12 : rb_sg (hRes V f n) 12 (wUn (V 12) n) 12 = wUn (V 12) n := rb_sg_self _ _ _
  have eg : ∀ g, ¬ g = 12 → rb_sg (hRes V f n) 12 (wUn (V 12) n) g = hRes V f n g := fun g a => rb_sg_ne _ _ a
  have u2 : ∀ r, ¬ r = 0 → ¬ r = 1 → wUn (V 12) n r = V 12 r := fun r a b => by unfold wUn; rw [wUnL_W _ _ _ b, rb_u2_row a]
  have u0 : ∀ k, wUn (V 12) n 0 k = rb_u2 (V 12) 0 0 (nI n) 0 k := fun k => by unfold wUn; rw [wUnL_W _ _ _ (by decide)]
  have u1 : ∀ k, k < 229 → wUn (V 12) n 1 k = V 12 2 (229 * n + k) := fun k hk => by
    unfold wUn; rw [wUnL_1, if_pos hk, rb_u2_o (by omega)]
  obtain ⟨m', t', rd', ph', hE⟩ := hH n (by omega)
  refine ⟨m', t', rd', ph', f, n, ?_, ?_, hf8, ?_, by omega, ?_, fun k hk => ?_, b0, b1, q0, q1, ?_, ?_, ?_, fun z => ?_, fun z => ?_⟩
  · rw [e12, eg 0 (by decide)]
    have : hRes V f n 0 = cCopy (V 0) (V (2 + (f + n) % 8)) := by unfold hRes; rw [rb_sg_self]
    rw [this]
    exact rs_T_k (fun _ _ => rfl) (fun _ _ _ => rfl) u1 (rs_T_copy hE)
  · rw [eg 13 (by decide), hRes_13, rb_u2_o (by omega), hf]
  · rw [eg 13 (by decide), hRes_13, rb_u2_at]
  · rw [e12, u0, rb_u2_at]
  · have hq := Nat.mod_lt (f + k) (show 0 < 8 by decide)
    rw [e12, u2 2 (by decide) (by decide), eg _ (by omega), hRes_g (by omega) (by omega)]
    exact hH k (by omega)
  · rw [eg 13 (by decide), hRes_13, rb_u2_o (by omega), q2]
  · rw [eg 13 (by decide), hRes_13, rb_u2_o (by omega), q3]
  · rw [e12, u0, rb_u2_o (by omega), q4]
  · rw [e12, u2 3 (by decide) (by decide), eg 10 (by decide), hRes_g (by decide) (by decide)]; exact q5 z
  · rw [e12, u2 3 (by decide) (by decide), eg 11 (by decide), hRes_g (by decide) (by decide)]; exact q6 z
end RS
theorem rs_flag : ∀ b0, b0 < 2 → ∀ b1, b1 < 2 → nI (b0 + 2 * b1) ||| 1 <<< (nI 0 &&& 31) = nI (1 + 2 * b1) ∧ nI (b0 + 2 * b1) ||| 1 <<< (nI 1 &&& 31) = nI (b0 + 2 * 1) ∧ ((nI (b0 + 2 * b1) >>> (nI 0 &&& 31)) &&& 1 = 0 ↔ b0 = 0) ∧ ((nI (b0 + 2 * b1) >>> (nI 1 &&& 31)) &&& 1 = 0 ↔ b1 = 0) := by decide +kernel
section RS
variable {V : rb_V} {m t rd ph f n : Nat}
theorem wKeep_W {W : Nat → Nat → Int32} {p r : Nat} (h0 : ¬ r = 0) (h3 : ¬ r = 3) : wKeep W p r = W r := by
  unfold wKeep; rw [rb_u2_row h0, wKp_W W p r h3]
theorem wKeep_0 {W : Nat → Nat → Int32} {p : Nat} : wKeep W p 0 0 = W 0 0 ∧ wKeep W p 0 1 = W 0 1 ||| 1 <<< (nI p &&& 31) := by
  unfold wKeep; rw [rb_u2_o (by omega), rb_u2_at, wKp_W W p 0 (by decide)]; exact ⟨rfl, rfl⟩
theorem wKeep_3a {W : Nat → Nat → Int32} {p j : Nat} (hj : j < 229) : wKeep W p 3 (229 * p + j) = W 1 j := by
  unfold wKeep; rw [rb_u2_o (by omega), wKp_i 229 hj]
theorem wKeep_3b {W : Nat → Nat → Int32} {p k : Nat} (hk : ¬ (229 * p ≤ k ∧ k < 229 * p + 229)) : wKeep W p 3 k = W 3 k := by
  unfold wKeep; rw [rb_u2_o (by omega), wKp_o 229 hk]
theorem rs_keep0 (h : rs_R V m t rd ph f n) : rs_RR (rb_sg (rb_sg (rb_sg V 10 (cCopy (V 10) (V 0))) 13 (rb_u2 (V 13) 1 0 1)) 12 (wKeep (V 12) 0)) := by
  obtain ⟨hT, hf, hf8, hn, hn8, hn', hH, b0, b1, q0, q1, q2, q3, q4, q5, q6⟩ := h
  have e12 : rb_sg (rb_sg (rb_sg V 10 (cCopy (V 10) (V 0))) 13 (rb_u2 (V 13) 1 0 1)) 12 (wKeep (V 12) 0) 12 = wKeep (V 12) 0 := rb_sg_self _ _ _
  have e13 : rb_sg (rb_sg (rb_sg V 10 (cCopy (V 10) (V 0))) 13 (rb_u2 (V 13) 1 0 1)) 12 (wKeep (V 12) 0) 13 = rb_u2 (V 13) 1 0 1 := by rw [rb_sg_ne _ _ (by decide), rb_sg_self]
  have e10 : rb_sg (rb_sg (rb_sg V 10 (cCopy (V 10) (V 0))) 13 (rb_u2 (V 13) 1 0 1)) 12 (wKeep (V 12) 0) 10 = cCopy (V 10) (V 0) := by rw [rb_sg_ne _ _ (by decide), rb_sg_ne _ _ (by decide), rb_sg_self]
  have eg : ∀ g, ¬ g = 10 → ¬ g = 12 → ¬ g = 13 → rb_sg (rb_sg (rb_sg V 10 (cCopy (V 10) (V 0))) 13 (rb_u2 (V 13) 1 0 1)) 12 (wKeep (V 12) 0) g = V g := fun g a b d => by rw [rb_sg_ne _ _ b, rb_sg_ne _ _ d, rb_sg_ne _ _ a]
  refine ⟨m, t, rd, ph, f, n, ?_, by rw [e13, rb_u2_o (by omega), hf], hf8, by rw [e13, rb_u2_o (by omega), hn], hn8, by rw [e12, wKeep_0.1, hn'], fun k hk => ?_, 1, b1, by decide, q1, by rw [e13, rb_u2_at]; rfl, by rw [e13, rb_u2_o (by omega), q3], ?_, fun z => ?_, fun z => ?_⟩
  · rw [eg 0 (by decide) (by decide) (by decide), e12, wKeep_W (by decide) (by decide)]; exact hT
  · have hq := Nat.mod_lt (f + k) (show 0 < 8 by decide)
    rw [eg _ (by omega) (by omega) (by omega), e12, wKeep_W (by decide) (by decide)]; exact hH k hk
  · rw [e12, wKeep_0.2, q4, (rs_flag b0 q0 b1 q1).1]
  · rw [e10, e12]
    exact rs_E_w (fun j hj => wKeep_3a hj) (rs_E_copy ⟨m, t, rd, ph, hT⟩)
  · rw [eg 11 (by decide) (by decide) (by decide), e12]
    exact rs_E_w (fun j hj => wKeep_3b (by omega)) (q6 z)
theorem rs_keep1 (h : rs_R V m t rd ph f n) : rs_RR (rb_sg (rb_sg (rb_sg V 11 (cCopy (V 11) (V 0))) 13 (rb_u2 (V 13) 2 0 1)) 12 (wKeep (V 12) 1)) := by
  obtain ⟨hT, hf, hf8, hn, hn8, hn', hH, b0, b1, q0, q1, q2, q3, q4, q5, q6⟩ := h
  have e12 : rb_sg (rb_sg (rb_sg V 11 (cCopy (V 11) (V 0))) 13 (rb_u2 (V 13) 2 0 1)) 12 (wKeep (V 12) 1) 12 = wKeep (V 12) 1 := rb_sg_self _ _ _
  have e13 : rb_sg (rb_sg (rb_sg V 11 (cCopy (V 11) (V 0))) 13 (rb_u2 (V 13) 2 0 1)) 12 (wKeep (V 12) 1) 13 = rb_u2 (V 13) 2 0 1 := by rw [rb_sg_ne _ _ (by decide), rb_sg_self]
  have e11 : rb_sg (rb_sg (rb_sg V 11 (cCopy (V 11) (V 0))) 13 (rb_u2 (V 13) 2 0 1)) 12 (wKeep (V 12) 1) 11 = cCopy (V 11) (V 0) := by rw [rb_sg_ne _ _ (by decide), rb_sg_ne _ _ (by decide), rb_sg_self]
  have eg : ∀ g, ¬ g = 11 → ¬ g = 12 → ¬ g = 13 → rb_sg (rb_sg (rb_sg V 11 (cCopy (V 11) (V 0))) 13 (rb_u2 (V 13) 2 0 1)) 12 (wKeep (V 12) 1) g = V g := fun g a b d => by rw [rb_sg_ne _ _ b, rb_sg_ne _ _ d, rb_sg_ne _ _ a]
  refine ⟨m, t, rd, ph, f, n, ?_, by rw [e13, rb_u2_o (by omega), hf], hf8, by rw [e13, rb_u2_o (by omega), hn], hn8, by rw [e12, wKeep_0.1, hn'], fun k hk => ?_, b0, 1, q0, by decide, by rw [e13, rb_u2_o (by omega), q2], by rw [e13, rb_u2_at]; rfl, ?_, fun z => ?_, fun z => ?_⟩
  · rw [eg 0 (by decide) (by decide) (by decide), e12, wKeep_W (by decide) (by decide)]; exact hT
  · have hq := Nat.mod_lt (f + k) (show 0 < 8 by decide)
    rw [eg _ (by omega) (by omega) (by omega), e12, wKeep_W (by decide) (by decide)]; exact hH k hk
  · rw [e12, wKeep_0.2, q4, (rs_flag b0 q0 b1 q1).2.1]
  · rw [eg 10 (by decide) (by decide) (by decide), e12]
    exact rs_E_w (fun j hj => wKeep_3b (by omega)) (q5 z)
  · rw [e11, e12]
    exact rs_E_w (fun j hj => wKeep_3a hj) (rs_E_copy ⟨m, t, rd, ph, hT⟩)
end RS
