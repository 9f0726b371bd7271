/-! WHAT HOLDS OF THE OBJECT: the present state, the history, the images; S: the sum of deposits and pool, B: what no sum is above -/
def rj_E (B : Nat) (c : Nat → Nat → Int32) : Prop := ∃ S m t rd ph, S ≤ B ∧ rj_T S m t rd ph c
def rj_R (S B : Nat) (V : rb_V) (m t rd ph f n : Nat) : Prop := S ≤ B ∧ rj_T S m t rd ph (V 0) ∧ V 13 0 0 = nI f ∧ f < 8 ∧ V 13 0 1 = nI n ∧ n ≤ 8 ∧ (∀ k, k < n → rj_E B (V (2 + (f + k) % 8))) ∧ (V 13 1 0 = 0 ∨ rj_E B (V 10)) ∧ (V 13 2 0 = 0 ∨ rj_E B (V 11))
def rj_RS (S B : Nat) (V : rb_V) : Prop := ∃ m t rd ph f n, rj_R S B V m t rd ph f n
/-- a call of the object, whatever its scratch state is: its answer, the object behind it -/
def ch_ (S B : Nat) (V : rb_V) (k : Nat) (L : rb_L) (q : Prop) : Prop := ∃ (a : Int32) (U : rb_V) (S' : Nat), rj_RS S' (B + 50) U ∧ (q → S' = S) ∧ ∀ (e : Nat → Nat → Int32) (P : Option Value → rb_M → Prop), rb_G none k 0 L [] (rb_W (rb_sg V 1 e)) P ↔ P (some (.int a)) (rb_W (rb_sg U 1 e))
section RJ
variable {S S' B B' m t rd ph f n k : Nat} {V : rb_V} {L : rb_L} {a : Int32} {q : Prop}
theorem rj_E_mono {c : Nat → Nat → Int32} (hB : B ≤ B') (h : rj_E B c) : rj_E B' c := by
  obtain ⟨S, m, t, rd, ph, a, b⟩ := h
  exact ⟨S, m, t, rd, ph, by omega, b⟩
theorem rj_E_copy {d c : Nat → Nat → Int32} (h : rj_E B c) : rj_E B (cCopy d c) := by
  obtain ⟨S, m, t, rd, ph, a, b⟩ := h
  exact ⟨S, m, t, rd, ph, a, rj_T_copy b⟩
theorem rj_mono (hB : B ≤ B') (h : rj_R S B V m t rd ph f n) : rj_R S B' V m t rd ph f n := by
  obtain ⟨a, b, d, e, f, g, i, j, k⟩ := h
  exact ⟨by omega, b, d, e, f, g, fun x hx => rj_E_mono hB (i x hx), j.imp id (rj_E_mono hB), k.imp id (rj_E_mono hB)⟩
theorem rj_hOK (h : rj_R S B V m t rd ph f n) {V' : rb_V} (h0 : V' 0 = V 0) (h13 : V' 13 = V 13) : hOK V' m t rd ph f n := by
  obtain ⟨-, ⟨⟨hH, hM, hP⟩, h4, hp3, -, -⟩, hf, hf8, hn, hn8, -⟩ := h
  unfold hOK
  rw [h0, h13]
  exact ⟨hH.1, hH.2.1, hH.2.2.1, hH.2.2.2.1, hH.2.2.2.2.1, hH.2.2.2.2.2.1, hH.2.2.2.2.2.2.1, hH.2.2.2.2.2.2.2.1, h4, hp3, hf, hf8, hn, hn8⟩
theorem rj_m (h : rj_R S B V m t rd ph f n) : V 0 11 0 = nI m ∧ 2 ≤ m ∧ m ≤ 8 := ⟨h.2.1.1.1.1, h.2.1.1.1.2.1, h.2.1.1.1.2.2.1⟩
theorem rj_ph (h : rj_R S B V m t rd ph f n) {p : Nat} (hp : p ≤ 3) (e : V 0 11 4 = nI p) : ph = p := by
  have h4 := h.2.1.2.1
  have h3 := h.2.1.2.2.1
  rw [h4] at e
  exact (nI_eq (by omega) (by omega)).mp e
theorem hRec_g {g : Nat} (hg : ¬ g = 13) (h2 : ¬ g = 2 + (f + n) % 8) : hRec V f n g = V g := by
  unfold hRec; rw [rb_sg_ne _ _ hg, rb_sg_ne _ _ h2]
theorem hRec_p : hRec V f n (2 + (f + n) % 8) = cCopy (V (2 + (f + n) % 8)) (V 0) := by
  unfold hRec
  have := Nat.mod_lt (f + n) (show 0 < 8 by decide)
  rw [rb_sg_ne _ _ (by omega), rb_sg_self]
theorem hRec_13 : hRec V f n 13 = (if n < 8 then rb_u2 (V 13) 0 1 (nI (n + 1)) else rb_u2 (V 13) 0 0 (nI ((f + 1) % 8))) := by
  unfold hRec; rw [rb_sg_self]
theorem hRes_g {g : Nat} (hg : ¬ g = 13) (h0 : ¬ g = 0) : hRes V f n g = V g := by
  unfold hRes; rw [rb_sg_ne _ _ h0, rb_sg_ne _ _ hg]
theorem hRec_1 (e : Nat → Nat → Int32) : hRec (rb_sg V 1 e) f n = rb_sg (hRec V f n) 1 e := by
  have := Nat.mod_lt (f + n) (show 0 < 8 by decide)
  unfold hRec
  rw [rb_sg_ne V e (show (2 + (f + n) % 8) ≠ 1 by omega), rb_sg_ne V e (show (0 : Nat) ≠ 1 by decide), rb_sg_ne V e (show (13 : Nat) ≠ 1 by decide), rb_sg_comm V e _ (show 1 ≠ 2 + (f + n) % 8 by omega), rb_sg_comm _ e _ (show (1 : Nat) ≠ 13 by decide)]
theorem hRes_1 (e : Nat → Nat → Int32) : hRes (rb_sg V 1 e) f n = rb_sg (hRes V f n) 1 e := by
  have := Nat.mod_lt (f + n) (show 0 < 8 by decide)
  unfold hRes
  rw [rb_sg_ne V e (show (2 + (f + n) % 8) ≠ 1 by omega), rb_sg_ne V e (show (0 : Nat) ≠ 1 by decide), rb_sg_ne V e (show (13 : Nat) ≠ 1 by decide), rb_sg_comm V e _ (show (1 : Nat) ≠ 13 by decide), rb_sg_comm _ e _ (show (1 : Nat) ≠ 0 by decide)]
/-- a change, recorded -/
theorem rj_chg {m' t' rd' ph' : Nat} {c' : Nat → Nat → Int32} (hB : B ≤ B') (h : rj_R S B V m t rd ph f n) (hS : S' ≤ B') (hE : rj_T S' m' t' rd' ph' c') : rj_RS S' B' (rb_sg (hRec V f n) 0 c') := by
  obtain ⟨hSB, hT, hf, hf8, hn, hn8, hH, q0, q1⟩ := h
  have hp := Nat.mod_lt (f + n) (show 0 < 8 by decide)
  have e0 : rb_sg (hRec V f n) 0 c' 0 = c' := rb_sg_self _ _ _
  have eg : ∀ g, ¬ g = 0 → rb_sg (hRec V f n) 0 c' g = hRec V f n g := fun g a => rb_sg_ne _ _ a
  have e13 := eg 13 (by decide)
  have k1 : ∀ r, ¬ r = 0 → rb_sg (hRec V f n) 0 c' 13 r = V 13 r := fun r hr => by
    rw [e13, hRec_13]; split <;> exact rb_u2_row hr
  have i0 : rb_sg (hRec V f n) 0 c' 13 1 0 = 0 ∨ rj_E B' (rb_sg (hRec V f n) 0 c' 10) := by
    rw [k1 1 (by decide), eg 10 (by decide), hRec_g (by decide) (by omega)]
    exact q0.imp id (rj_E_mono hB)
  have i1 : rb_sg (hRec V f n) 0 c' 13 2 0 = 0 ∨ rj_E B' (rb_sg (hRec V f n) 0 c' 11) := by
    rw [k1 2 (by decide), eg 11 (by decide), hRec_g (by decide) (by omega)]
    exact q1.imp id (rj_E_mono hB)
  have hnow : rj_E B' (cCopy (V (2 + (f + n) % 8)) (V 0)) := rj_E_copy ⟨S, m, t, rd, ph, by omega, hT⟩
  by_cases h8 : n = 8
  · subst h8
    have hf1 := Nat.mod_lt (f + 1) (show 0 < 8 by decide)
    refine ⟨m', t', rd', ph', (f + 1) % 8, 8, hS, by rw [e0]; exact hE, by rw [e13, hRec_13, if_neg (by decide), rb_u2_at], hf1, by rw [e13, hRec_13, if_neg (by decide), rb_u2_o (by omega), hn], by decide, fun k hk => ?_, i0, i1⟩
    by_cases e : k = 7
    · subst e
      rw [show ((f + 1) % 8 + 7) % 8 = (f + 8) % 8 by omega, eg _ (by omega), hRec_p]
      exact hnow
    · have hk1 := hH (k + 1) (by omega)
      have hq := Nat.mod_lt (f + (k + 1)) (show 0 < 8 by decide)
      rw [show ((f + 1) % 8 + k) % 8 = (f + (k + 1)) % 8 by omega, eg _ (by omega), hRec_g (by omega) (by omega)]
      exact rj_E_mono hB hk1
  · refine ⟨m', t', rd', ph', f, n + 1, hS, by rw [e0]; exact hE, by rw [e13, hRec_13, if_pos (show n < 8 by omega), rb_u2_o (by omega), hf], hf8, by rw [e13, hRec_13, if_pos (show n < 8 by omega), rb_u2_at], by omega, fun k hk => ?_, i0, i1⟩
    have hq := Nat.mod_lt (f + k) (show 0 < 8 by decide)
    by_cases e : k = n
    · subst e
      rw [eg _ (by omega), hRec_p]
      exact hnow
    · rw [eg _ (by omega), hRec_g (by omega) (by omega)]
      exact rj_E_mono hB (hH k (by omega))
theorem rj_undo (h : rj_R S B V m t rd ph f (n + 1)) : ∃ S', rj_RS S' B (hRes V f n) := by
  obtain ⟨hSB, hT, hf, hf8, hn, hn8, hH, q0, q1⟩ := h
  have hp := Nat.mod_lt (f + n) (show 0 < 8 by decide)
  obtain ⟨S', m', t', rd', ph', hS', hE⟩ := hH n (by omega)
  refine ⟨S', m', t', rd', ph', f, n, hS', ?_, ?_, hf8, ?_, by omega, fun k hk => ?_, ?_, ?_⟩
  · have : hRes V f n 0 = cCopy (V 0) (V (2 + (f + n) % 8)) := by unfold hRes; rw [rb_sg_self]
    rw [this]
    exact rj_T_copy hE
  · rw [hRes_13, rb_u2_o (by omega), hf]
  · rw [hRes_13, rb_u2_at]
  · have hq := Nat.mod_lt (f + k) (show 0 < 8 by decide)
    rw [hRes_g (by omega) (by omega)]
    exact hH k (by omega)
  · rw [hRes_13, rb_u2_o (by omega), hRes_g (by decide) (by decide)]; exact q0
  · rw [hRes_13, rb_u2_o (by omega), hRes_g (by decide) (by decide)]; exact q1
theorem rj_keep0 (h : rj_R S B V m t rd ph f n) : rj_RS S B (rb_sg (rb_sg V 10 (cCopy (V 10) (V 0))) 13 (rb_u2 (V 13) 1 0 1)) := by
  obtain ⟨hSB, hT, hf, hf8, hn, hn8, hH, q0, q1⟩ := h
  have e13 : rb_sg (rb_sg V 10 (cCopy (V 10) (V 0))) 13 (rb_u2 (V 13) 1 0 1) 13 = rb_u2 (V 13) 1 0 1 := rb_sg_self _ _ _
  have e10 : rb_sg (rb_sg V 10 (cCopy (V 10) (V 0))) 13 (rb_u2 (V 13) 1 0 1) 10 = cCopy (V 10) (V 0) := by rw [rb_sg_ne _ _ (by decide), rb_sg_self]
  have eg : ∀ g, ¬ g = 10 → ¬ g = 13 → rb_sg (rb_sg V 10 (cCopy (V 10) (V 0))) 13 (rb_u2 (V 13) 1 0 1) g = V g := fun g a b => by rw [rb_sg_ne _ _ b, rb_sg_ne _ _ a]
  refine ⟨m, t, rd, ph, f, n, hSB, by rw [eg 0 (by decide) (by decide)]; exact hT, by rw [e13, rb_u2_o (by omega), hf], hf8, by rw [e13, rb_u2_o (by omega), hn], hn8, fun k hk => ?_, Or.inr ?_, ?_⟩
  · have hq := Nat.mod_lt (f + k) (show 0 < 8 by decide)
    rw [eg _ (by omega) (by omega)]; exact hH k hk
  · rw [e10]; exact rj_E_copy ⟨S, m, t, rd, ph, hSB, hT⟩
  · rw [e13, rb_u2_o (by omega), eg 11 (by decide) (by decide)]; exact q1
theorem rj_keep1 (h : rj_R S B V m t rd ph f n) : rj_RS S B (rb_sg (rb_sg V 11 (cCopy (V 11) (V 0))) 13 (rb_u2 (V 13) 2 0 1)) := by
  obtain ⟨hSB, hT, hf, hf8, hn, hn8, hH, q0, q1⟩ := h
  have e13 : rb_sg (rb_sg V 11 (cCopy (V 11) (V 0))) 13 (rb_u2 (V 13) 2 0 1) 13 = rb_u2 (V 13) 2 0 1 := rb_sg_self _ _ _
  have e11 : rb_sg (rb_sg V 11 (cCopy (V 11) (V 0))) 13 (rb_u2 (V 13) 2 0 1) 11 = cCopy (V 11) (V 0) := by rw [rb_sg_ne _ _ (by decide), rb_sg_self]
  have eg : ∀ g, ¬ g = 11 → ¬ g = 13 → rb_sg (rb_sg V 11 (cCopy (V 11) (V 0))) 13 (rb_u2 (V 13) 2 0 1) g = V g := fun g a b => by rw [rb_sg_ne _ _ b, rb_sg_ne _ _ a]
  refine ⟨m, t, rd, ph, f, n, hSB, by rw [eg 0 (by decide) (by decide)]; exact hT, by rw [e13, rb_u2_o (by omega), hf], hf8, by rw [e13, rb_u2_o (by omega), hn], hn8, fun k hk => ?_, ?_, Or.inr ?_⟩
  · have hq := Nat.mod_lt (f + k) (show 0 < 8 by decide)
    rw [eg _ (by omega) (by omega)]; exact hH k hk
  · rw [e13, rb_u2_o (by omega), eg 10 (by decide) (by decide)]; exact q0
  · rw [e11]; exact rj_E_copy ⟨S, m, t, rd, ph, hSB, hT⟩
/-- nothing changes -/
theorem ch_eq (h : rj_R S B V m t rd ph f n) (hq : ∀ V' : rb_V, V' 0 = V 0 → V' 13 = V 13 → ∀ P, rb_G none k 0 L [] (rb_W V') P ↔ P (some (.int a)) (rb_W V')) : ch_ S B V k L q :=
  ⟨a, V, S, ⟨m, t, rd, ph, f, n, rj_mono (Nat.le_add_right _ _) h⟩, fun _ => rfl, fun e P => hq (rb_sg V 1 e) (rb_sg_ne _ _ (by decide)) (rb_sg_ne _ _ (by decide)) P⟩
/-- a change -/
theorem ch_chg {m' t' rd' ph' : Nat} {c' : Nat → Nat → Int32} (h : rj_R S B V m t rd ph f n) (hS : S' ≤ B + 50) (hs : q → S' = S) (hE : rj_T S' m' t' rd' ph' c') (hq : ∀ V' : rb_V, V' 0 = V 0 → V' 13 = V 13 → ∀ P, rb_G none k 0 L [] (rb_W V') P ↔ P (some (.int a)) (rb_W (rb_sg (hRec V' f n) 0 c'))) : ch_ S B V k L q := by
  refine ⟨a, rb_sg (hRec V f n) 0 c', S', rj_chg (Nat.le_add_right _ _) h hS hE, hs, fun e P => ?_⟩
  rw [hq (rb_sg V 1 e) (rb_sg_ne _ _ (by decide)) (rb_sg_ne _ _ (by decide)) P, hRec_1, rb_sg_comm _ e _ (show (1 : Nat) ≠ 0 by decide)]
/-- a change that keeps the sum -/
theorem ch_sam {m' t' rd' ph' : Nat} {c' : Nat → Nat → Int32} (h : rj_R S B V m t rd ph f n) (hE : rj_T S m' t' rd' ph' c') (hq : ∀ V' : rb_V, V' 0 = V 0 → V' 13 = V 13 → ∀ P, rb_G none k 0 L [] (rb_W V') P ↔ P (some (.int a)) (rb_W (rb_sg (hRec V' f n) 0 c'))) : ch_ S B V k L q :=
  ch_chg h (by have := h.1; omega) (fun _ => rfl) hE hq
theorem ch_to {q' : Prop} (h : ch_ S B V k L q) (hq : q' → q) : ch_ S B V k L q' := by
  obtain ⟨a, U, S', h1, h2, h3⟩ := h
  exact ⟨a, U, S', h1, fun z => h2 (hq z), h3⟩
end RJ
