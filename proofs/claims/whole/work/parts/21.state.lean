/-! THE METHODS' ANSWERS, 2: a state's small ones -/
theorem rb_u2_row {c : Nat → Nat → Int32} {r j r' : Nat} {v : Int32} (h : ¬ r' = r) : rb_u2 c r j v r' = c r' := rb_u1_ne _ _ h
theorem rb_u2_at {c : Nat → Nat → Int32} {r j : Nat} {v : Int32} : rb_u2 c r j v r j = v := by unfold rb_u2; rw [rb_u1_self]; exact if_pos rfl
theorem rb_u2_ne {c : Nat → Nat → Int32} {r j j' : Nat} {v : Int32} (h : ¬ j' = j) : rb_u2 c r j v r j' = c r j' := by unfold rb_u2; rw [rb_u1_self]; exact if_neg h
theorem rb_u2_get {c : Nat → Nat → Int32} {r j r' j' : Nat} {v : Int32} : rb_u2 c r j v r' j' = if r' = r ∧ j' = j then v else c r' j' := by
  by_cases h : r' = r
  · subst h
    by_cases h2 : j' = j
    · subst h2; rw [rb_u2_at, if_pos ⟨rfl, rfl⟩]
    · rw [rb_u2_ne h2, if_neg (fun q => h2 q.2)]
  · rw [rb_u2_row h, if_neg (fun q => h q.1)]
/-- what holds of a loop's every turn holds of the whole -/
theorem rb_loop {Q : Nat → Prop} (n : Nat) (h : ∀ j, j < n → (Q j ↔ Q (j + 1))) : Q 0 ↔ Q n := by
  have : ∀ k, k ≤ n → (Q 0 ↔ Q k) := by
    intro k
    induction k with
    | zero => exact fun _ => Iff.rfl
    | succ k ih => exact fun hk => (ih (by omega)).trans (h k (by omega))
  exact this n (Nat.le_refl n)
def rb_sum (f : Nat → Int32) : Nat → Int32
  | 0 => 0
  | j + 1 => rb_sum f j + f j
def rb_xor (f : Nat → Int32) : Nat → Int32
  | 0 => 0
  | j + 1 => rb_xor f j ^^^ f j
theorem rb_sum_congr {f f' : Nat → Int32} {n : Nat} (h : ∀ j, j < n → f j = f' j) : rb_sum f n = rb_sum f' n := by
  induction n with
  | zero => rfl
  | succ n ih =>
    show rb_sum f n + f n = rb_sum f' n + f' n
    rw [ih (fun j hj => h j (by omega)), h n (by omega)]
theorem rb_xor_congr {f f' : Nat → Int32} {n : Nat} (h : ∀ j, j < n → f j = f' j) : rb_xor f n = rb_xor f' n := by
  induction n with
  | zero => rfl
  | succ n ih =>
    show rb_xor f n ^^^ f n = rb_xor f' n ^^^ f' n
    rw [ih (fun j hj => h j (by omega)), h n (by omega)]
def rb_min (x y : Int32) : Int32 := if y < x then y else x
def cEnter (c : Nat → Nat → Int32) (x : Int32) : Nat → Nat → Int32 := rb_u2 (rb_u2 c 11 4 x) 11 5 0
def cFine (c : Nat → Nat → Int32) (i : Nat) (a : Int32) : Nat → Nat → Int32 := rb_u2 (rb_u2 (rb_u2 c 2 i (c 2 i + -(rb_min a (c 2 i)))) 11 6 (c 11 6 + rb_min a (c 2 i))) 4 i (c 4 i + 1)
def cLearn (c : Nat → Nat → Int32) (i : Nat) (x z : Int32) : Nat → Nat → Int32 := rb_u2 (rb_u2 c 8 i x) 5 i z
def cCount (c : Nat → Nat → Int32) (x : Int32) (m : Nat) : Int32 := rb_sum (fun i => rb_bi (c 5 i = x)) m
section RBM
variable {V : rb_V} {P : Option Value → rb_M → Prop} {g r j i m : Nat}
theorem m_enter {x : Int32} (hg : g < 12) : rb_G none 9 0 [some (.ref (rb_st g)), some (.int x)] [] (rb_W V) P ↔ P none (rb_W (rb_sg V g (cEnter (V g) x))) := by
  simp only [r9_0, r9_1, r9_2, r9_5, r9_6, r9_7, r9_10, hg, rb_sg_self, rb_sg_sg, List.length_cons, List.length_nil, Nat.reduceAdd, Nat.reduceLeDiff, Nat.reduceLT, Nat.zero_add, Option.toList_some, Option.toList_none, List.cons_append, List.nil_append, rb_bi_eq0, rb_bi_ne0, rb_okv0, rb_okv1, rb_okvb, ln0, ln1, ln2, ln3, ln4, ln5, ln6, ln7, ln8, ln9, ln10, if_true, if_false, ite_not, Decidable.not_not, cEnter]
theorem m_isMember {x : Int32} (hg : g < 12) : rb_G none 23 0 [some (.ref (rb_st g)), some (.int x)] [] (rb_W V) P ↔ P (some (.int (rb_bi (0 ≤ x ∧ x < V g 11 0)))) (rb_W V) := by
  simp only [r23_0, r23_1, r23_4, r23_5, r23_6, r23_9, r23_12, r23_13, r23_16, r23_17, hg, rb_sg_self, rb_sg_sg, List.length_cons, List.length_nil, Nat.reduceAdd, Nat.reduceLeDiff, Nat.reduceLT, Nat.zero_add, Option.toList_some, Option.toList_none, List.cons_append, List.nil_append, rb_bi_eq0, rb_bi_ne0, rb_okv0, rb_okv1, rb_okvb, ln0, ln1, ln2, ln3, ln4, ln5, ln6, ln7, ln8, ln9, ln10, if_true, if_false, ite_not, Decidable.not_not]
  by_cases h1 : x < 0
  · rw [if_pos h1, rb_bi_neg (fun q => Int32.not_le.mpr h1 q.1)]
  · rw [if_neg h1]
    by_cases h2 : V g 11 0 ≤ x
    · rw [if_pos h2, rb_bi_neg (fun q => Int32.not_le.mpr q.2 h2)]
    · rw [if_neg h2, rb_bi_pos ⟨Int32.not_lt.mp h1, Int32.not_le.mp h2⟩]
theorem m_isPair {x y : Int32} (hg : g < 12) : rb_G none 46 0 [some (.ref (rb_st g)), some (.int x), some (.int y)] [] (rb_W V) P ↔ P (some (.int (rb_bi ((0 ≤ x ∧ x < V g 11 0) ∧ (0 ≤ y ∧ y < V g 11 0) ∧ ¬ x = y)))) (rb_W V) := by
  simp only [r46_0, r46_1, r46_2, r46_5, r46_8, r46_9, r46_10, r46_13, r46_16, r46_17, r46_18, r46_21, r46_22, r46_25, r46_26, m_isMember, hg, rb_sg_self, rb_sg_sg, List.length_cons, List.length_nil, Nat.reduceAdd, Nat.reduceLeDiff, Nat.reduceLT, Nat.zero_add, Option.toList_some, Option.toList_none, List.cons_append, List.nil_append, rb_bi_eq0, rb_bi_ne0, rb_okv0, rb_okv1, rb_okvb, ln0, ln1, ln2, ln3, ln4, ln5, ln6, ln7, ln8, ln9, ln10, if_true, if_false, ite_not, Decidable.not_not]
  by_cases h1 : 0 ≤ x ∧ x < V g 11 0
  · by_cases h2 : 0 ≤ y ∧ y < V g 11 0
    · by_cases h3 : x = y
      · simp only [if_pos h1, if_pos h2, if_pos h3, rb_bi_neg (fun q : (0 ≤ x ∧ x < V g 11 0) ∧ (0 ≤ y ∧ y < V g 11 0) ∧ ¬ x = y => q.2.2 h3)]
      · simp only [if_pos h1, if_pos h2, if_neg h3, rb_bi_pos (show (0 ≤ x ∧ x < V g 11 0) ∧ (0 ≤ y ∧ y < V g 11 0) ∧ ¬ x = y from ⟨h1, h2, h3⟩)]
    · simp only [if_pos h1, if_neg h2, rb_bi_neg (fun q : (0 ≤ x ∧ x < V g 11 0) ∧ (0 ≤ y ∧ y < V g 11 0) ∧ ¬ x = y => h2 q.2.1)]
  · simp only [if_neg h1, rb_bi_neg (fun q : (0 ≤ x ∧ x < V g 11 0) ∧ (0 ≤ y ∧ y < V g 11 0) ∧ ¬ x = y => h1 q.1)]
theorem m_isOn (hg : g < 12) (hi : i < 8) : rb_G none 30 0 [some (.ref (rb_st g)), some (.int (nI i))] [] (rb_W V) P ↔ P (some (.int (rb_bi (V g 3 i = 1)))) (rb_W V) := by
  simp only [r30_0, r30_1, r30_4, r30_5, r30_8, r30_9, r30_12, r30_13, r30_16, r30_17, m_at, hg, hi, rb_sg_self, rb_sg_sg, List.length_cons, List.length_nil, Nat.reduceAdd, Nat.reduceLeDiff, Nat.reduceLT, Nat.zero_add, Option.toList_some, Option.toList_none, List.cons_append, List.nil_append, rb_bi_eq0, rb_bi_ne0, rb_okv0, rb_okv1, rb_okvb, ln0, ln1, ln2, ln3, ln4, ln5, ln6, ln7, ln8, ln9, ln10, if_true, if_false, ite_not, Decidable.not_not, rb_ite_bi]
theorem m_isBound (hg : g < 12) (hi : i < 8) : rb_G none 31 0 [some (.ref (rb_st g)), some (.int (nI i))] [] (rb_W V) P ↔ P (some (.int (rb_bi (¬ V g 5 i = 0)))) (rb_W V) := by
  simp only [r31_0, r31_1, r31_4, r31_5, r31_8, r31_11, r31_12, r31_15, r31_16, m_at, hg, hi, rb_sg_self, rb_sg_sg, List.length_cons, List.length_nil, Nat.reduceAdd, Nat.reduceLeDiff, Nat.reduceLT, Nat.zero_add, Option.toList_some, Option.toList_none, List.cons_append, List.nil_append, rb_bi_eq0, rb_bi_ne0, rb_okv0, rb_okv1, rb_okvb, ln0, ln1, ln2, ln3, ln4, ln5, ln6, ln7, ln8, ln9, ln10, if_true, if_false, ite_not, Decidable.not_not, rb_ite_ib]
theorem m_isHidden (hg : g < 12) (hi : i < 8) : rb_G none 41 0 [some (.ref (rb_st g)), some (.int (nI i))] [] (rb_W V) P ↔ P (some (.int (rb_bi (V g 5 i = 1)))) (rb_W V) := by
  simp only [r41_0, r41_1, r41_4, r41_5, r41_8, r41_9, r41_12, r41_13, r41_16, r41_17, m_at, hg, hi, rb_sg_self, rb_sg_sg, List.length_cons, List.length_nil, Nat.reduceAdd, Nat.reduceLeDiff, Nat.reduceLT, Nat.zero_add, Option.toList_some, Option.toList_none, List.cons_append, List.nil_append, rb_bi_eq0, rb_bi_ne0, rb_okv0, rb_okv1, rb_okvb, ln0, ln1, ln2, ln3, ln4, ln5, ln6, ln7, ln8, ln9, ln10, if_true, if_false, ite_not, Decidable.not_not, rb_ite_bi]
theorem m_isKnown (hg : g < 12) (hi : i < 8) : rb_G none 69 0 [some (.ref (rb_st g)), some (.int (nI i))] [] (rb_W V) P ↔ P (some (.int (rb_bi (V g 5 i = 2 ∨ V g 5 i = 3)))) (rb_W V) := by
  simp only [r69_0, r69_1, r69_4, r69_5, r69_8, r69_9, r69_12, r69_13, r69_16, r69_17, r69_20, r69_21, r69_24, r69_25, r69_28, r69_29, m_at, hg, hi, rb_sg_self, rb_sg_sg, List.length_cons, List.length_nil, Nat.reduceAdd, Nat.reduceLeDiff, Nat.reduceLT, Nat.zero_add, Option.toList_some, Option.toList_none, List.cons_append, List.nil_append, rb_bi_eq0, rb_bi_ne0, rb_okv0, rb_okv1, rb_okvb, ln0, ln1, ln2, ln3, ln4, ln5, ln6, ln7, ln8, ln9, ln10, if_true, if_false, ite_not, Decidable.not_not]
  by_cases h1 : V g 5 i = 2
  · simp only [if_pos h1, rb_bi_pos (show V g 5 i = 2 ∨ V g 5 i = 3 from Or.inl h1)]
  · by_cases h2 : V g 5 i = 3
    · simp only [if_neg h1, if_pos h2, rb_bi_pos (show V g 5 i = 2 ∨ V g 5 i = 3 from Or.inr h2)]
    · simp only [if_neg h1, if_neg h2, rb_bi_neg (show ¬ (V g 5 i = 2 ∨ V g 5 i = 3) from fun q => q.elim h1 h2)]
theorem m_fine {a : Int32} (hg : g < 12) (hi : i < 8) : rb_G none 43 0 [some (.ref (rb_st g)), some (.int (nI i)), some (.int a), none] [] (rb_W V) P ↔ P none (rb_W (rb_sg V g (cFine (V g) i a))) := by
  simp only [r43_0, r43_1, r43_2, r43_5, r43_6, r43_9, r43_12, r43_13, r43_14, r43_17, r43_18, r43_19, r43_20, r43_23, r43_24a, r43_24i, r43_25, r43_28, r43_29, r43_30, r43_33, r43_34, r43_37, r43_38, r43_39, r43_42, m_at, m_add, m_min, hg, hi, rb_sg_self, rb_sg_sg, List.length_cons, List.length_nil, Nat.reduceAdd, Nat.reduceLeDiff, Nat.reduceLT, Nat.zero_add, Option.toList_some, Option.toList_none, List.cons_append, List.nil_append, rb_bi_eq0, rb_bi_ne0, rb_okv0, rb_okv1, rb_okvb, ln0, ln1, ln2, ln3, ln4, ln5, ln6, ln7, ln8, ln9, ln10, if_true, if_false, ite_not, Decidable.not_not, rb_u2_row, rb_u2_at, rb_u2_ne, ne_eq, Nat.reduceEqDiff, not_false_eq_true, reduceCtorEq, cFine, rb_min]
theorem m_countStanding {x : Int32} (hg : g < 12) (hm : V g 11 0 = nI m) (hm8 : m ≤ 8) : rb_G none 64 0 [some (.ref (rb_st g)), some (.int x), none, none] [] (rb_W V) P ↔ P (some (.int (cCount (V g) x m))) (rb_W V) := by
  simp only [r64_0, r64_1, r64_2, r64_3]
  have key := rb_loop (Q := fun j => rb_G none 64 4 [some (.ref (rb_st g)), some (.int x), some (.int (rb_sum (fun i => rb_bi (V g 5 i = x)) j)), some (.int (nI j))] [] (rb_W V) P) m (fun j hj => by
    have h2 : ¬ nI m ≤ nI j := nI_ge hj (by omega)
    have hj8 : j < 8 := by omega
    show rb_G none 64 4 _ _ _ _ ↔ _
    rw [r64_4]
    simp only [r64_0, r64_1, r64_2, r64_3, r64_5, r64_6, r64_9, r64_12, r64_13, r64_14, r64_17, r64_18, r64_21, r64_22, r64_25, r64_26, r64_29, r64_30, r64_31, r64_32, r64_35, r64_38, r64_39, m_at, hg, hj8, hm, h2, rb_sg_self, rb_sg_sg, List.length_cons, List.length_nil, Nat.reduceAdd, Nat.reduceLeDiff, Nat.reduceLT, Nat.zero_add, Option.toList_some, Option.toList_none, List.cons_append, List.nil_append, rb_bi_eq0, rb_bi_ne0, rb_okv0, rb_okv1, rb_okvb, ln0, ln1, ln2, ln3, ln4, ln5, ln6, ln7, ln8, ln9, ln10, if_true, if_false, ite_not, Decidable.not_not, nI_1]
    by_cases h : V g 5 j = x
    · simp only [if_pos h, rb_sum, rb_bi_pos h]
    · simp only [if_neg h, rb_sum, rb_bi_neg h])
  simp only [nI_0, rb_sum] at key
  rw [key]
  have h3 : nI m ≤ nI m := nI_le (Nat.le_refl m) (by omega)
  simp only [r64_0, r64_1, r64_2, r64_3, r64_4, r64_5, r64_6, r64_9, r64_12, r64_13, r64_14, r64_17, r64_18, r64_21, r64_22, r64_25, r64_26, r64_29, r64_30, r64_31, r64_32, r64_35, r64_38, r64_39, hg, hm, h3, if_true, cCount]
end RBM
