/-! THE METHODS' ANSWERS, 2: a state's small ones -/
theorem rb_u2_row {c : Nat → Nat → Int32} {r j r' : Nat} {v : Int32} (h : ¬ r' = r) : rb_u2 c r j v r' = c r' := rb_u1_ne _ _ h
theorem rb_u2_at {c : Nat → Nat → Int32} {r j : Nat} {v : Int32} : rb_u2 c r j v r j = v := by unfold rb_u2; rw [rb_u1_self]; exact if_pos rfl
theorem rb_u2_ne {c : Nat → Nat → Int32} {r j j' : Nat} {v : Int32} (h : ¬ j' = j) : rb_u2 c r j v r j' = c r j' := by unfold rb_u2; rw [rb_u1_self]; exact if_neg h
theorem rb_u2_get {c : Nat → Nat → Int32} {r j r' j' : Nat} {v : Int32} : rb_u2 c r j v r' j' = if r' = r ∧ j' = j then v else c r' j' := by
  by_cases h : r' = r
  · subst h
    by_cases h2 : j' = j
    · subst h2; rw [rb_u2_at, if_pos ⟨rfl, rfl⟩]
    · rw [rb_u2_ne h2, if_neg (fun q => h2 q.2)]
  · rw [rb_u2_row h, if_neg (fun q => h q.1)]
/-- what holds of a loop's every turn holds of the whole -/
theorem rb_loop {Q : Nat → Prop} (n : Nat) (h : ∀ j, j < n → (Q j ↔ Q (j + 1))) : Q 0 ↔ Q n := by
  have : ∀ k, k ≤ n → (Q 0 ↔ Q k) := by
    intro k
    induction k with
    | zero => exact fun _ => Iff.rfl
    | succ k ih => exact fun hk => (ih (by omega)).trans (h k (by omega))
  exact this n (Nat.le_refl n)
def rb_sum (f : Nat → Int32) : Nat → Int32
  | 0 => 0
  | j + 1 => rb_sum f j + f j
def rb_xor (f : Nat → Int32) : Nat → Int32
  | 0 => 0
  | j + 1 => rb_xor f j ^^^ f j
theorem rb_sum_congr {f f' : Nat → Int32} {n : Nat} (h : ∀ j, j < n → f j = f' j) : rb_sum f n = rb_sum f' n := by
  induction n with
  | zero => rfl
  | succ n ih =>
    show rb_sum f n + f n = rb_sum f' n + f' n
    rw [ih (fun j hj => h j (by omega)), h n (by omega)]
theorem rb_xor_congr {f f' : Nat → Int32} {n : Nat} (h : ∀ j, j < n → f j = f' j) : rb_xor f n = rb_xor f' n := by
  induction n with
  | zero => rfl
  | succ n ih =>
    show rb_xor f n ^^^ f n = rb_xor f' n ^^^ f' n
    rw [ih (fun j hj => h j (by omega)), h n (by omega)]
def rb_min (x y : Int32) : Int32 := if y < x then y else x
def cEnter (c : Nat → Nat → Int32) (x : Int32) : Nat → Nat → Int32 := rb_u2 (rb_u2 c 11 4 x) 11 5 0
def cFine (c : Nat → Nat → Int32) (i : Nat) (a : Int32) : Nat → Nat → Int32 := rb_u2 (rb_u2 (rb_u2 c 2 i (c 2 i + -(rb_min a (c 2 i)))) 11 6 (c 11 6 + rb_min a (c 2 i))) 4 i (c 4 i + 1)
def cLearn (c : Nat → Nat → Int32) (i : Nat) (x z : Int32) : Nat → Nat → Int32 := rb_u2 (rb_u2 c 8 i x) 5 i z
def cCount (c : Nat → Nat → Int32) (x : Int32) (m : Nat) : Int32 := rb_sum (fun i => rb_bi (c 5 i = x)) m
section RBM
variable {V : rb_V} {P : Option Value → rb_M → Prop} {g r j i m : Nat}
theorem m_enter {x : Int32} (hg : g < 12) : rb_G none 9 0 [some (.ref (rb_st g)), some (.int x)] [] (rb_W V) P ↔ P none (rb_W (rb_sg V g (cEnter (V g) x))) := by
  simp only [r9_0, r9_1, r9_2, r9_5, r9_6, r9_7, r9_10, hg, rb_sg_self, rb_sg_sg, List.length_cons, List.length_nil, Nat.reduceAdd, Nat.reduceLeDiff, Nat.reduceLT, Nat.zero_add, Option.toList_some, Option.toList_none, List.cons_append, List.nil_append, rb_bi_eq0, rb_bi_ne0, rb_okv0, rb_okv1, rb_okvb, ln0, ln1, ln2, ln3, ln4, ln5, ln6, ln7, ln8, ln9, ln10, if_true, if_false, ite_not, Decidable.not_not, cEnter]
theorem m_isMember {x : Int32} (hg : g < 12) : rb_G none 18 0 [some (.ref (rb_st g)), some (.int x)] [] (rb_W V) P ↔ P (some (.int (rb_bi (0 ≤ x ∧ x < V g 11 0)))) (rb_W V) := by
  simp only [r18_0, r18_1, r18_4, r18_5, r18_6, r18_9, r18_12, r18_13, r18_16, r18_17, hg, rb_sg_self, rb_sg_sg, List.length_cons, List.length_nil, Nat.reduceAdd, Nat.reduceLeDiff, Nat.reduceLT, Nat.zero_add, Option.toList_some, Option.toList_none, List.cons_append, List.nil_append, rb_bi_eq0, rb_bi_ne0, rb_okv0, rb_okv1, rb_okvb, ln0, ln1, ln2, ln3, ln4, ln5, ln6, ln7, ln8, ln9, ln10, if_true, if_false, ite_not, Decidable.not_not]
  by_cases h1 : x < 0
  · rw [if_pos h1, rb_bi_neg (fun q => Int32.not_le.mpr h1 q.1)]
  · rw [if_neg h1]
    by_cases h2 : V g 11 0 ≤ x
    · rw [if_pos h2, rb_bi_neg (fun q => Int32.not_le.mpr q.2 h2)]
    · rw [if_neg h2, rb_bi_pos ⟨Int32.not_lt.mp h1, Int32.not_le.mp h2⟩]
theorem m_isPair {x y : Int32} (hg : g < 12) : rb_G none 74 0 [some (.ref (rb_st g)), some (.int x), some (.int y)] [] (rb_W V) P ↔ P (some (.int (rb_bi ((0 ≤ x ∧ x < V g 11 0) ∧ (0 ≤ y ∧ y < V g 11 0) ∧ ¬ x = y)))) (rb_W V) := by
  simp only [r74_0, r74_1, r74_2, r74_5, r74_8, r74_9, r74_10, r74_13, r74_16, r74_17, r74_18, r74_21, r74_22, r74_25, r74_26, m_isMember, hg, rb_sg_self, rb_sg_sg, List.length_cons, List.length_nil, Nat.reduceAdd, Nat.reduceLeDiff, Nat.reduceLT, Nat.zero_add, Option.toList_some, Option.toList_none, List.cons_append, List.nil_append, rb_bi_eq0, rb_bi_ne0, rb_okv0, rb_okv1, rb_okvb, ln0, ln1, ln2, ln3, ln4, ln5, ln6, ln7, ln8, ln9, ln10, if_true, if_false, ite_not, Decidable.not_not]
  by_cases h1 : 0 ≤ x ∧ x < V g 11 0
  · by_cases h2 : 0 ≤ y ∧ y < V g 11 0
    · by_cases h3 : x = y
      · simp only [if_pos h1, if_pos h2, if_pos h3, rb_bi_neg (fun q : (0 ≤ x ∧ x < V g 11 0) ∧ (0 ≤ y ∧ y < V g 11 0) ∧ ¬ x = y => q.2.2 h3)]
      · simp only [if_pos h1, if_pos h2, if_neg h3, rb_bi_pos (show (0 ≤ x ∧ x < V g 11 0) ∧ (0 ≤ y ∧ y < V g 11 0) ∧ ¬ x = y from ⟨h1, h2, h3⟩)]
    · simp only [if_pos h1, if_neg h2, rb_bi_neg (fun q : (0 ≤ x ∧ x < V g 11 0) ∧ (0 ≤ y ∧ y < V g 11 0) ∧ ¬ x = y => h2 q.2.1)]
  · simp only [if_neg h1, rb_bi_neg (fun q : (0 ≤ x ∧ x < V g 11 0) ∧ (0 ≤ y ∧ y < V g 11 0) ∧ ¬ x = y => h1 q.1)]
theorem m_isOn (hg : g < 12) (hi : i < 8) : rb_G none 16 0 [some (.ref (rb_st g)), some (.int (nI i))] [] (rb_W V) P ↔ P (some (.int (rb_bi (V g 3 i = 1)))) (rb_W V) := by
  simp only [r16_0, r16_1, r16_4, r16_5, r16_8, r16_9, r16_12, r16_13, r16_16, r16_17, m_at, hg, hi, rb_sg_self, rb_sg_sg, List.length_cons, List.length_nil, Nat.reduceAdd, Nat.reduceLeDiff, Nat.reduceLT, Nat.zero_add, Option.toList_some, Option.toList_none, List.cons_append, List.nil_append, rb_bi_eq0, rb_bi_ne0, rb_okv0, rb_okv1, rb_okvb, ln0, ln1, ln2, ln3, ln4, ln5, ln6, ln7, ln8, ln9, ln10, if_true, if_false, ite_not, Decidable.not_not, rb_ite_bi]
theorem m_isBound (hg : g < 12) (hi : i < 8) : rb_G none 19 0 [some (.ref (rb_st g)), some (.int (nI i))] [] (rb_W V) P ↔ P (some (.int (rb_bi (¬ V g 5 i = 0)))) (rb_W V) := by
  simp only [r19_0, r19_1, r19_4, r19_5, r19_8, r19_11, r19_12, r19_15, r19_16, m_at, hg, hi, rb_sg_self, rb_sg_sg, List.length_cons, List.length_nil, Nat.reduceAdd, Nat.reduceLeDiff, Nat.reduceLT, Nat.zero_add, Option.toList_some, Option.toList_none, List.cons_append, List.nil_append, rb_bi_eq0, rb_bi_ne0, rb_okv0, rb_okv1, rb_okvb, ln0, ln1, ln2, ln3, ln4, ln5, ln6, ln7, ln8, ln9, ln10, if_true, if_false, ite_not, Decidable.not_not, rb_ite_ib]
theorem m_isHidden (hg : g < 12) (hi : i < 8) : rb_G none 28 0 [some (.ref (rb_st g)), some (.int (nI i))] [] (rb_W V) P ↔ P (some (.int (rb_bi (V g 5 i = 1)))) (rb_W V) := by
  simp only [r28_0, r28_1, r28_4, r28_5, r28_8, r28_9, r28_12, r28_13, r28_16, r28_17, m_at, hg, hi, rb_sg_self, rb_sg_sg, List.length_cons, List.length_nil, Nat.reduceAdd, Nat.reduceLeDiff, Nat.reduceLT, Nat.zero_add, Option.toList_some, Option.toList_none, List.cons_append, List.nil_append, rb_bi_eq0, rb_bi_ne0, rb_okv0, rb_okv1, rb_okvb, ln0, ln1, ln2, ln3, ln4, ln5, ln6, ln7, ln8, ln9, ln10, if_true, if_false, ite_not, Decidable.not_not, rb_ite_bi]
theorem m_isKnown (hg : g < 12) (hi : i < 8) : rb_G none 20 0 [some (.ref (rb_st g)), some (.int (nI i))] [] (rb_W V) P ↔ P (some (.int (rb_bi (V g 5 i = 2 ∨ V g 5 i = 3)))) (rb_W V) := by
  simp only [r20_0, r20_1, r20_4, r20_5, r20_8, r20_9, r20_12, r20_13, r20_16, r20_17, r20_20, r20_21, r20_24, r20_25, r20_28, r20_29, m_at, hg, hi, rb_sg_self, rb_sg_sg, List.length_cons, List.length_nil, Nat.reduceAdd, Nat.reduceLeDiff, Nat.reduceLT, Nat.zero_add, Option.toList_some, Option.toList_none, List.cons_append, List.nil_append, rb_bi_eq0, rb_bi_ne0, rb_okv0, rb_okv1, rb_okvb, ln0, ln1, ln2, ln3, ln4, ln5, ln6, ln7, ln8, ln9, ln10, if_true, if_false, ite_not, Decidable.not_not]
  by_cases h1 : V g 5 i = 2
  · simp only [if_pos h1, rb_bi_pos (show V g 5 i = 2 ∨ V g 5 i = 3 from Or.inl h1)]
  · by_cases h2 : V g 5 i = 3
    · simp only [if_neg h1, if_pos h2, rb_bi_pos (show V g 5 i = 2 ∨ V g 5 i = 3 from Or.inr h2)]
    · simp only [if_neg h1, if_neg h2, rb_bi_neg (show ¬ (V g 5 i = 2 ∨ V g 5 i = 3) from fun q => q.elim h1 h2)]
theorem m_fine {a : Int32} (hg : g < 12) (hi : i < 8) : rb_G none 41 0 [some (.ref (rb_st g)), some (.int (nI i)), some (.int a), none] [] (rb_W V) P ↔ P none (rb_W (rb_sg V g (cFine (V g) i a))) := by
  simp only [r41_0, r41_1, r41_2, r41_5, r41_6, r41_9, r41_12, r41_13, r41_14, r41_17, r41_18, r41_19, r41_20, r41_23, r41_24a, r41_24i, r41_25, r41_28, r41_29, r41_30, r41_33, r41_34, r41_37, r41_38, r41_39, r41_42, m_at, m_add, m_min, hg, hi, rb_sg_self, rb_sg_sg, List.length_cons, List.length_nil, Nat.reduceAdd, Nat.reduceLeDiff, Nat.reduceLT, Nat.zero_add, Option.toList_some, Option.toList_none, List.cons_append, List.nil_append, rb_bi_eq0, rb_bi_ne0, rb_okv0, rb_okv1, rb_okvb, ln0, ln1, ln2, ln3, ln4, ln5, ln6, ln7, ln8, ln9, ln10, if_true, if_false, ite_not, Decidable.not_not, rb_u2_row, rb_u2_at, rb_u2_ne, ne_eq, Nat.reduceEqDiff, not_false_eq_true, reduceCtorEq, cFine, rb_min]
theorem m_countStanding {x : Int32} (hg : g < 12) (hm : V g 11 0 = nI m) (hm8 : m ≤ 8) : rb_G none 12 0 [some (.ref (rb_st g)), some (.int x), none, none] [] (rb_W V) P ↔ P (some (.int (cCount (V g) x m))) (rb_W V) := by
  simp only [r12_0, r12_1, r12_2, r12_3]
  have key := rb_loop (Q := fun j => rb_G none 12 4 [some (.ref (rb_st g)), some (.int x), some (.int (rb_sum (fun i => rb_bi (V g 5 i = x)) j)), some (.int (nI j))] [] (rb_W V) P) m (fun j hj => by
    have h2 : ¬ nI m ≤ nI j := nI_ge hj (by omega)
    have hj8 : j < 8 := by omega
    show rb_G none 12 4 _ _ _ _ ↔ _
    rw [r12_4]
    simp only [r12_0, r12_1, r12_2, r12_3, r12_5, r12_6, r12_9, r12_12, r12_13, r12_14, r12_17, r12_18, r12_21, r12_22, r12_25, r12_26, r12_29, r12_30, r12_31, r12_32, r12_35, r12_38, r12_39, m_at, hg, hj8, hm, h2, rb_sg_self, rb_sg_sg, List.length_cons, List.length_nil, Nat.reduceAdd, Nat.reduceLeDiff, Nat.reduceLT, Nat.zero_add, Option.toList_some, Option.toList_none, List.cons_append, List.nil_append, rb_bi_eq0, rb_bi_ne0, rb_okv0, rb_okv1, rb_okvb, ln0, ln1, ln2, ln3, ln4, ln5, ln6, ln7, ln8, ln9, ln10, if_true, if_false, ite_not, Decidable.not_not, nI_1]
    by_cases h : V g 5 j = x
    · simp only [if_pos h, rb_sum, rb_bi_pos h]
    · simp only [if_neg h, rb_sum, rb_bi_neg h])
  simp only [nI_0, rb_sum] at key
  rw [key]
  have h3 : nI m ≤ nI m := nI_le (Nat.le_refl m) (by omega)
  simp only [r12_0, r12_1, r12_2, r12_3, r12_4, r12_5, r12_6, r12_9, r12_12, r12_13, r12_14, r12_17, r12_18, r12_21, r12_22, r12_25, r12_26, r12_29, r12_30, r12_31, r12_32, r12_35, r12_38, r12_39, hg, hm, h3, if_true, cCount]
end RBM
