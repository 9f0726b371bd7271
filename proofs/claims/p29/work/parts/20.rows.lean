/-! THE METHODS' ANSWERS, 1: rows -/
def rb_bi (p : Prop) [Decidable p] : Int32 := if p then 1 else 0
theorem rb_bi_eq0 {p : Prop} [Decidable p] : (rb_bi p = 0) ↔ ¬ p := by unfold rb_bi; by_cases h : p <;> simp [h]
theorem rb_bi_ne0 {p : Prop} [Decidable p] : (¬ rb_bi p = 0) ↔ p := by rw [rb_bi_eq0]; exact Decidable.not_not
theorem rb_bi_pos {p : Prop} [Decidable p] (h : p) : rb_bi p = 1 := if_pos h
theorem rb_bi_neg {p : Prop} [Decidable p] (h : ¬ p) : rb_bi p = 0 := if_neg h
theorem rb_okv0 : rb_okv .boolean (.int 0) = true := by simp [rb_okv]
theorem rb_okv1 : rb_okv .boolean (.int 1) = true := by simp [rb_okv]
theorem rb_okvb {p : Prop} [Decidable p] : rb_okv .boolean (.int (rb_bi p)) = true := by unfold rb_bi; by_cases h : p <;> simp only [h, if_true, if_false] <;> rfl
/-- two ends of a yes or no -/
theorem rb_ite_bi {p : Prop} [Decidable p] {P : Option Value → rb_M → Prop} {M : rb_M} : (if p then P (some (.int 1)) M else P (some (.int 0)) M) ↔ P (some (.int (rb_bi p))) M := by
  unfold rb_bi; by_cases h : p
  · rw [if_pos h, if_pos h]
  · rw [if_neg h, if_neg h]
theorem rb_ite_ib {p : Prop} [Decidable p] {P : Option Value → rb_M → Prop} {M : rb_M} : (if p then P (some (.int 0)) M else P (some (.int 1)) M) ↔ P (some (.int (rb_bi (¬ p)))) M := by
  unfold rb_bi; by_cases h : p
  · rw [if_pos h, if_neg (fun q => q h)]
  · rw [if_neg h, if_pos h]
theorem rb_ln_le : ∀ g, g < 12 → ∀ r, r < 11 → rb_ln g r ≤ 64 := by decide +kernel
theorem ln0 {g : Nat} (h : g < 12) : rb_ln g 0 = 6 := if_pos h
theorem ln1 {g : Nat} (h : g < 12) : rb_ln g 1 = 30 := if_pos h
theorem ln2 {g : Nat} (h : g < 12) : rb_ln g 2 = 8 := if_pos h
theorem ln3 {g : Nat} (h : g < 12) : rb_ln g 3 = 8 := if_pos h
theorem ln4 {g : Nat} (h : g < 12) : rb_ln g 4 = 8 := if_pos h
theorem ln5 {g : Nat} (h : g < 12) : rb_ln g 5 = 8 := if_pos h
theorem ln6 {g : Nat} (h : g < 12) : rb_ln g 6 = 8 := if_pos h
theorem ln7 {g : Nat} (h : g < 12) : rb_ln g 7 = 8 := if_pos h
theorem ln8 {g : Nat} (h : g < 12) : rb_ln g 8 = 8 := if_pos h
theorem ln9 {g : Nat} (h : g < 12) : rb_ln g 9 = 64 := if_pos h
theorem ln10 {g : Nat} (h : g < 12) : rb_ln g 10 = 64 := if_pos h
theorem rb_in_nI {j n : Nat} (h : j < n) (hn : n < 2 ^ 31) : rb_inb (nI j) n = true := by
  have h1 := nI_in h hn
  unfold rb_inb
  cases h2 : decide (nI j < 0) with
  | true => exact absurd (Or.inl (of_decide_eq_true h2)) h1
  | false =>
    cases h3 : decide (n ≤ (nI j).toNatClampNeg) with
    | true => exact absurd (Or.inr (of_decide_eq_true h3)) h1
    | false => rfl
section RBM
variable {V : rb_V} {P : Option Value → rb_M → Prop} {g r j : Nat}
theorem m_at (hg : g < 12) (hr : r < 11) (hj : j < rb_ln g r) : rb_G none 13 0 [some (.ref (rb_rw g r)), some (.int (nI j))] [] (rb_W V) P ↔ P (some (.int (V g r j))) (rb_W V) := by
  have hl := rb_ln_le g hg r hr
  have h1 : ¬ nI j < 0 := nI_pos (by omega)
  have h2 : ¬ nI (rb_ln g r) ≤ nI j := nI_ge hj (by omega)
  have h3 : rb_inb (nI j) (rb_ln g r) = true := rb_in_nI hj (by omega)
  have h4 : (nI j).toNatClampNeg = j := nI_clamp (by omega)
  simp only [r13_0, r13_1, r13_4, r13_5, r13_6, r13_9, r13_10, r13_13, r13_14, r13_17, r13_18, r13_19, r13_22, r13_23, hg, hr, h1, h2, h3, h4, if_false]
theorem m_put {x : Int32} {a2 : Option Value} (hg : g < 12) (hr : r < 11) (hj : j < rb_ln g r) : rb_G none 3 0 [some (.ref (rb_rw g r)), some (.int (nI j)), some (.int x)] [] (rb_W V) P ↔ P none (rb_W (rb_sg V g (rb_u2 (V g) r j x))) := by
  have hl := rb_ln_le g hg r hr
  have h1 : ¬ nI j < 0 := nI_pos (by omega)
  have h2 : ¬ nI (rb_ln g r) ≤ nI j := nI_ge hj (by omega)
  have h3 : rb_inb (nI j) (rb_ln g r) = true := rb_in_nI hj (by omega)
  have h4 : (nI j).toNatClampNeg = j := nI_clamp (by omega)
  simp only [r3_0, r3_1, r3_4, r3_5, r3_6, r3_9, r3_10, r3_13, r3_14, r3_17, r3_18, r3_19, r3_20, hg, hr, h1, h2, h3, h4, if_false]
theorem m_add {x : Int32} (hg : g < 12) (hr : r < 11) (hj : j < rb_ln g r) : rb_G none 42 0 [some (.ref (rb_rw g r)), some (.int (nI j)), some (.int x)] [] (rb_W V) P ↔ P none (rb_W (rb_sg V g (rb_u2 (V g) r j (V g r j + x)))) := by
  simp only [r42_0, r42_1, r42_2, r42_3, r42_4, r42_7, r42_8, r42_9, r42_12, hg, hr, hj, m_at, m_put (a2 := none), List.length_cons, List.length_nil, Nat.reduceAdd, Nat.reduceLeDiff, Option.toList_some, Option.toList_none, List.cons_append, List.nil_append]
/-- a whole row of one value, as far as it goes -/
def rb_fl1 (f : Nat → Int32) (n : Nat) (x : Int32) : Nat → Int32 := fun j => if j < n then x else f j
theorem m_fill_loop {x : Int32} (hg : g < 12) (hr : r < 11) : ∀ (d j : Nat) (V : rb_V), j + d = rb_ln g r → (rb_G none 7 2 [some (.ref (rb_rw g r)), some (.int x), some (.int (nI j))] [] (rb_W V) P ↔ P none (rb_W (rb_sg V g (rb_u1 (V g) r (fun i => if j ≤ i ∧ i < rb_ln g r then x else V g r i))))) := by
  have hl := rb_ln_le g hg r hr
  intro d
  induction d with
  | zero =>
    intro j V hj
    have h2 : nI (rb_ln g r) ≤ nI j := nI_le (by omega) (by omega)
    simp only [r7_0, r7_1, r7_2, r7_3, r7_4, r7_7, r7_8, r7_11, r7_12, r7_15, r7_16, r7_17, r7_18, r7_21, r7_24, hg, hr, h2, if_true]
    have e : rb_sg V g (rb_u1 (V g) r (fun i => if j ≤ i ∧ i < rb_ln g r then x else V g r i)) = V := by
      have e1 : (fun i => if j ≤ i ∧ i < rb_ln g r then x else V g r i) = V g r := by funext i; exact if_neg (by omega)
      have e2 : rb_u1 (V g) r (V g r) = V g := by funext r'; unfold rb_u1; by_cases h : r' = r <;> simp [h]
      rw [e1, e2, rb_sg_id]
    rw [e]
  | succ d ih =>
    intro j V hj
    have h2 : ¬ nI (rb_ln g r) ≤ nI j := nI_ge (by omega) (by omega)
    have h3 : rb_inb (nI j) (rb_ln g r) = true := rb_in_nI (by omega) (by omega)
    have h4 : (nI j).toNatClampNeg = j := nI_clamp (by omega)
    rw [r7_2]
    simp only [r7_0, r7_1, r7_3, r7_4, r7_7, r7_8, r7_11, r7_12, r7_15, r7_16, r7_17, r7_18, r7_21, r7_24, hg, hr, h2, h3, h4, if_false, nI_1]
    rw [ih (j + 1) _ (by omega)]
    have e : rb_sg (rb_sg V g (rb_u2 (V g) r j x)) g (rb_u1 (rb_sg V g (rb_u2 (V g) r j x) g) r (fun i => if j + 1 ≤ i ∧ i < rb_ln g r then x else rb_sg V g (rb_u2 (V g) r j x) g r i)) = rb_sg V g (rb_u1 (V g) r (fun i => if j ≤ i ∧ i < rb_ln g r then x else V g r i)) := by
      rw [rb_sg_sg, rb_sg_self]
      unfold rb_u2
      rw [rb_u1_u1, rb_u1_self]
      congr 2
      funext i
      by_cases h : i = j
      · subst h
        rw [if_neg (by omega), if_pos (by omega)]
        unfold upd; rw [if_pos rfl]
      · by_cases h5 : j + 1 ≤ i ∧ i < rb_ln g r
        · rw [if_pos h5, if_pos (by omega)]
        · rw [if_neg h5, if_neg (by omega)]
          unfold upd; rw [if_neg h]
    rw [e]
theorem m_fill {x : Int32} (hg : g < 12) (hr : r < 11) : rb_G none 7 0 [some (.ref (rb_rw g r)), some (.int x), none] [] (rb_W V) P ↔ P none (rb_W (rb_sg V g (rb_u1 (V g) r (rb_fl1 (V g r) (rb_ln g r) x)))) := by
  rw [r7_0, r7_1]
  have := m_fill_loop (P := P) (x := x) hg hr (rb_ln g r) 0 V (by omega)
  rw [nI_0] at this
  rw [this]
  have e : (fun i => if 0 ≤ i ∧ i < rb_ln g r then x else V g r i) = rb_fl1 (V g r) (rb_ln g r) x := by
    funext i; unfold rb_fl1
    by_cases h : i < rb_ln g r
    · rw [if_pos h, if_pos ⟨Nat.zero_le _, h⟩]
    · rw [if_neg h, if_neg (fun q => h q.2)]
  rw [e]
theorem m_min {x y : Int32} : rb_G none 32 0 [some (.int x), some (.int y)] [] (rb_W V) P ↔ P (some (.int (if y < x then y else x))) (rb_W V) := by
  simp only [r32_0, r32_1, r32_2, r32_5, r32_6, r32_9, r32_10]
  by_cases h : y < x
  · rw [if_pos h, if_pos h]
  · rw [if_neg h, if_neg h]
theorem m_copyRow {g' r' : Nat} (hg : g < 12) (hr : r < 11) (hg' : g' < 12) (hr' : r' < 11) (hn : rb_ln g' r' = rb_ln g r) : rb_G none 31 0 [some (.ref (rb_rw g r)), some (.ref (rb_rw g' r'))] [] (rb_W V) P ↔ P none (rb_W (rb_sg V g (rb_u1 (V g) r (V g' r')))) := by
  have hl := rb_ln_le g hg r hr
  have h1 : rb_ln g r < 2000 := by omega
  have h2 : (if nI (rb_ln g r) < nI (rb_ln g r) then nI (rb_ln g r) else nI (rb_ln g r)) = nI (rb_ln g r) := by split <;> rfl
  simp only [r31_0, r31_1, r31_4, r31_5, r31_6, r31_9, r31_10, r31_11, r31_14, r31_15, r31_16, r31_19, r31_20, r31_23, r31_26, hg, hr, hg', hr', hn, m_min, List.length_cons, List.length_nil, Nat.reduceAdd, Nat.reduceLeDiff, Option.toList_some, Option.toList_none, List.cons_append, List.nil_append, h1, h2]
end RBM
