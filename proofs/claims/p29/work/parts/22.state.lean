/-! THE METHODS' ANSWERS, 3: a state's loops -/
def rb_cm (i s v : Int32) : Int32 := rb_rem (31 * s * s + 17 * v + 7 * s * v + 1000 * i + 5) 10007
def rb_mk (j x : Int32) : Int32 := rb_rem (91 * x * x + 3 * x + j) 10007
def rb_pw (b : Int32) : Nat → Int32
  | 0 => 1
  | e + 1 => rb_rem (rb_pw b e * b) 257
def rb_iv (b : Int32) : Nat → Int32
  | 0 => 1
  | e + 1 => rb_rem (rb_iv b e * rb_iv b e * b) 257
def rb_fm (a b : Int32) : Int32 := if 0 ≤ a ^^^ b then rb_rem a b else if rb_rem a b = 0 then rb_rem a b else rb_rem a b + b
def rb_am (x : Int32) (k : Nat) : Prop := (x >>> (nI k &&& 31)) &&& 1 = 1
/-- the last half of a bit's finding: yes or no -/
theorem rb_am_iff {x : Int32} {k : Nat} : rb_am x k ↔ (x >>> (nI k &&& 31)) &&& 1 = 1 := Iff.rfl
noncomputable def rb_wa (x : Int32) (j : Nat) : Nat → Int32
  | 0 => 1
  | k + 1 => if ¬ k = j ∧ (x >>> (nI k &&& 31)) &&& 1 = 1 then rb_rem (rb_wa x j k * (nI k + 1)) 257 else rb_wa x j k
noncomputable def rb_wb (x : Int32) (j : Nat) : Nat → Int32
  | 0 => 1
  | k + 1 => if ¬ k = j ∧ (x >>> (nI k &&& 31)) &&& 1 = 1 then rb_fm (rb_wb x j k * (nI k - nI j)) 257 else rb_wb x j k
noncomputable def rb_wg (x : Int32) (j : Nat) : Int32 := rb_rem (rb_wa x j 8 * rb_iv (rb_wb x j 8) 8) 257
def rb_or (f : Nat → Int32) : Nat → Int32
  | 0 => 0
  | j + 1 => rb_or f j ||| f j
def rb_bc1 (x : Int32) : Int32 := x - (rb_ush x 1 &&& 1431655765)
def rb_bc2 (x : Int32) : Int32 := (x &&& 858993459) + (rb_ush x 2 &&& 858993459)
def rb_bc3 (x : Int32) : Int32 := (x + rb_ush x 4) &&& 252645135
def rb_bc4 (x : Int32) : Int32 := x + rb_ush x 8
def rb_bc5 (x : Int32) : Int32 := x + rb_ush x 16
def rb_bc (x : Int32) : Int32 := rb_bc5 (rb_bc4 (rb_bc3 (rb_bc2 (rb_bc1 x)))) &&& 63
theorem cell_nI (o i : Nat) : nI o * 8 + nI i = nI (8 * o + i) := by
  have : nI o * 8 = nI (8 * o) := by
    show Int32.ofNat o * Int32.ofNat 8 = Int32.ofNat (8 * o)
    rw [← Int32.ofNat_mul, Nat.mul_comm]
  rw [this, nI_add]
theorem rb_eqn {a b : Nat} (ha : a < 64) (hb : b < 64) : (nI a = nI b) ↔ a = b := nI_eq (by omega) (by omega)
def cBound (c : Nat → Nat → Int32) (m : Nat) : Int32 := cCount c 1 m + cCount c 2 m + cCount c 3 m
def cDep (c : Nat → Nat → Int32) (m : Nat) : Int32 := rb_sum (fun i => c 2 i) m
def cOnN (c : Nat → Nat → Int32) (m : Nat) : Int32 := rb_sum (fun i => rb_bi (c 3 i = 1)) m
def cKnowX (c : Nat → Nat → Int32) (m : Nat) : Int32 := rb_xor (fun i => if c 5 i = 2 ∨ c 5 i = 3 then c 8 i else 0) m
def cBoundX (c : Nat → Nat → Int32) (m : Nat) : Int32 := rb_xor (fun i => if ¬ c 5 i = 0 then c 7 i else 0) m
def cOut (c : Nat → Nat → Int32) (m : Nat) : Int32 := if cCount c 2 m + cCount c 3 m = 0 ∨ (c 0 5 = 1 ∧ ¬ cCount c 1 m ≤ 0) then -9 else cKnowX c m
def cGiv (c : Nat → Nat → Int32) (o m : Nat) : Int32 := rb_or (fun i => if ¬ c 10 (8 * o + i) = -9 then 1 <<< (nI i &&& 31) else 0) m
noncomputable def cItp (c : Nat → Nat → Int32) (o : Nat) (x : Int32) (m : Nat) : Int32 := rb_rem (rb_sum (fun i => if (x >>> (nI i &&& 31)) &&& 1 = 1 then rb_rem (c 10 (8 * o + i) * rb_wg x i) 257 else 0) m) 257
section RBM
variable {V : rb_V} {P : Option Value → rb_M → Prop} {g r j i o m : Nat}
theorem m_countBound (hg : g < 12) (hm : V g 11 0 = nI m) (hm8 : m ≤ 8) : rb_G none 11 0 [some (.ref (rb_st g))] [] (rb_W V) P ↔ P (some (.int (cBound (V g) m))) (rb_W V) := by
  simp only [r11_0, r11_1, r11_2, r11_5, r11_6, r11_7, r11_10, r11_11, r11_12, r11_13, r11_16, r11_17, m_countStanding hg hm hm8, hg, rb_sg_self, rb_sg_sg, List.length_cons, List.length_nil, Nat.reduceAdd, Nat.reduceLeDiff, Nat.reduceLT, Nat.zero_add, Option.toList_some, Option.toList_none, List.cons_append, List.nil_append, rb_bi_eq0, rb_bi_ne0, rb_okv0, rb_okv1, rb_okvb, ln0, ln1, ln2, ln3, ln4, ln5, ln6, ln7, ln8, ln9, ln10, if_true, if_false, ite_not, Decidable.not_not, cBound]
theorem m_sumDeposits (hg : g < 12) (hm : V g 11 0 = nI m) (hm8 : m ≤ 8) : rb_G none 14 0 [some (.ref (rb_st g)), none, none] [] (rb_W V) P ↔ P (some (.int (cDep (V g) m))) (rb_W V) := by
  simp only [r14_0, r14_1, r14_2, r14_3]
  have key := rb_loop (Q := fun j => rb_G none 14 4 [some (.ref (rb_st g)), some (.int (rb_sum (fun i => V g 2 i) j)), some (.int (nI j))] [] (rb_W V) P) m (fun j hj => by
    have h2 : ¬ nI m ≤ nI j := nI_ge hj (by omega)
    have hj8 : j < 8 := by omega
    show rb_G none 14 4 _ _ _ _ ↔ _
    rw [r14_4]
    simp only [r14_0, r14_1, r14_2, r14_3, r14_5, r14_6, r14_9, r14_12, r14_13, r14_14, r14_17, r14_18, r14_21, r14_22, r14_23, r14_26, r14_29, r14_30, m_at, hg, hj8, hm, h2, rb_sg_self, rb_sg_sg, List.length_cons, List.length_nil, Nat.reduceAdd, Nat.reduceLeDiff, Nat.reduceLT, Nat.zero_add, Option.toList_some, Option.toList_none, List.cons_append, List.nil_append, rb_bi_eq0, rb_bi_ne0, rb_okv0, rb_okv1, rb_okvb, ln0, ln1, ln2, ln3, ln4, ln5, ln6, ln7, ln8, ln9, ln10, if_true, if_false, ite_not, Decidable.not_not, nI_1, rb_sum])
  simp only [nI_0, rb_sum] at key
  rw [key]
  have h3 : nI m ≤ nI m := nI_le (Nat.le_refl m) (by omega)
  simp only [r14_0, r14_1, r14_2, r14_3, r14_4, r14_5, r14_6, r14_9, r14_12, r14_13, r14_14, r14_17, r14_18, r14_21, r14_22, r14_23, r14_26, r14_29, r14_30, hg, hm, h3, if_true, cDep]
theorem m_countOn (hg : g < 12) (hm : V g 11 0 = nI m) (hm8 : m ≤ 8) : rb_G none 15 0 [some (.ref (rb_st g)), none, none] [] (rb_W V) P ↔ P (some (.int (cOnN (V g) m))) (rb_W V) := by
  simp only [r15_0, r15_1, r15_2, r15_3]
  have key := rb_loop (Q := fun j => rb_G none 15 4 [some (.ref (rb_st g)), some (.int (rb_sum (fun i => rb_bi (V g 3 i = 1)) j)), some (.int (nI j))] [] (rb_W V) P) m (fun j hj => by
    have h2 : ¬ nI m ≤ nI j := nI_ge hj (by omega)
    have hj8 : j < 8 := by omega
    show rb_G none 15 4 _ _ _ _ ↔ _
    rw [r15_4]
    simp only [r15_0, r15_1, r15_2, r15_3, r15_5, r15_6, r15_9, r15_12, r15_13, r15_14, r15_15, r15_18, r15_21, r15_22, r15_25, r15_26, r15_27, r15_28, r15_31, r15_34, r15_35, m_isOn, hg, hj8, hm, h2, rb_sg_self, rb_sg_sg, List.length_cons, List.length_nil, Nat.reduceAdd, Nat.reduceLeDiff, Nat.reduceLT, Nat.zero_add, Option.toList_some, Option.toList_none, List.cons_append, List.nil_append, rb_bi_eq0, rb_bi_ne0, rb_okv0, rb_okv1, rb_okvb, ln0, ln1, ln2, ln3, ln4, ln5, ln6, ln7, ln8, ln9, ln10, if_true, if_false, ite_not, Decidable.not_not, nI_1]
    by_cases h : V g 3 j = 1
    · simp only [if_pos h, rb_sum, rb_bi_pos h]
    · simp only [if_neg h, rb_sum, rb_bi_neg h])
  simp only [nI_0, rb_sum] at key
  rw [key]
  have h3 : nI m ≤ nI m := nI_le (Nat.le_refl m) (by omega)
  simp only [r15_0, r15_1, r15_2, r15_3, r15_4, r15_5, r15_6, r15_9, r15_12, r15_13, r15_14, r15_15, r15_18, r15_21, r15_22, r15_25, r15_26, r15_27, r15_28, r15_31, r15_34, r15_35, hg, hm, h3, if_true, cOnN]
theorem m_cm {x s v : Int32} : rb_G none 67 0 [some (.int x), some (.int s), some (.int v)] [] (rb_W V) P ↔ P (some (.int (rb_cm x s v))) (rb_W V) := by
  have h : ¬ (10007 : Int32) = 0 := by decide
  simp only [r67_0, r67_2, r67_3, r67_4, r67_5, r67_6, r67_8, r67_9, r67_10, r67_11, r67_13, r67_14, r67_15, r67_16, r67_17, r67_18, r67_21, r67_22, r67_23, r67_24, r67_25, r67_26, r67_29, r67_30, h, not_false_eq_true, rb_cm]
theorem m_mk {x y : Int32} : rb_G none 40 0 [some (.int x), some (.int y)] [] (rb_W V) P ↔ P (some (.int (rb_mk x y))) (rb_W V) := by
  have h : ¬ (10007 : Int32) = 0 := by decide
  simp only [r40_0, r40_2, r40_3, r40_4, r40_5, r40_6, r40_7, r40_8, r40_9, r40_10, r40_11, r40_12, r40_15, r40_16, h, not_false_eq_true, rb_mk]
theorem m_cell : rb_G none 24 0 [some (.int (nI o)), some (.int (nI i))] [] (rb_W V) P ↔ P (some (.int (nI (8 * o + i)))) (rb_W V) := by
  simp only [r24_0, r24_1, r24_3, r24_4, r24_5, r24_6, cell_nI]
theorem m_raise {b : Int32} {e : Nat} (he : e < 64) : rb_G none 70 0 [some (.int b), some (.int (nI e)), none, none] [] (rb_W V) P ↔ P (some (.int (rb_pw b e))) (rb_W V) := by
  have h257 : ¬ (257 : Int32) = 0 := by decide
  simp only [r70_0, r70_1, r70_2, r70_3]
  have key := rb_loop (Q := fun j => rb_G none 70 4 [some (.int b), some (.int (nI e)), some (.int (rb_pw b j)), some (.int (nI j))] [] (rb_W V) P) e (fun j hj => by
    have h2 : ¬ nI e ≤ nI j := nI_ge hj (by omega)
    show rb_G none 70 4 _ _ _ _ ↔ _
    rw [r70_4]
    simp only [r70_0, r70_1, r70_2, r70_3, r70_5, r70_6, r70_9, r70_10, r70_11, r70_12, r70_15, r70_16, r70_17, r70_20, r70_23, r70_24, h2, h257, not_false_eq_true, rb_sg_self, rb_sg_sg, List.length_cons, List.length_nil, Nat.reduceAdd, Nat.reduceLeDiff, Nat.reduceLT, Nat.zero_add, Option.toList_some, Option.toList_none, List.cons_append, List.nil_append, rb_bi_eq0, rb_bi_ne0, rb_okv0, rb_okv1, rb_okvb, ln0, ln1, ln2, ln3, ln4, ln5, ln6, ln7, ln8, ln9, ln10, if_true, if_false, ite_not, Decidable.not_not, nI_1, rb_pw])
  simp only [nI_0, rb_pw] at key
  rw [key]
  have h3 : nI e ≤ nI e := nI_le (Nat.le_refl e) (by omega)
  simp only [r70_0, r70_1, r70_2, r70_3, r70_4, r70_5, r70_6, r70_9, r70_10, r70_11, r70_12, r70_15, r70_16, r70_17, r70_20, r70_23, r70_24, h3, if_true]
theorem m_invert {b : Int32} : rb_G none 47 0 [some (.int b), none, none] [] (rb_W V) P ↔ P (some (.int (rb_iv b 8))) (rb_W V) := by
  have h257 : ¬ (257 : Int32) = 0 := by decide
  simp only [r47_0, r47_1, r47_2, r47_3]
  have key := rb_loop (Q := fun j => rb_G none 47 4 [some (.int b), some (.int (rb_iv b j)), some (.int (nI j))] [] (rb_W V) P) 8 (fun j hj => by
    have h2 : ¬ (8 : Int32) ≤ nI j := nI_ge (b := 8) hj (by omega)
    show rb_G none 47 4 _ _ _ _ ↔ _
    rw [r47_4]
    simp only [r47_0, r47_1, r47_2, r47_3, r47_5, r47_7, r47_10, r47_11, r47_12, r47_13, r47_14, r47_15, r47_18, r47_19, r47_20, r47_23, r47_26, r47_27, h2, h257, not_false_eq_true, rb_sg_self, rb_sg_sg, List.length_cons, List.length_nil, Nat.reduceAdd, Nat.reduceLeDiff, Nat.reduceLT, Nat.zero_add, Option.toList_some, Option.toList_none, List.cons_append, List.nil_append, rb_bi_eq0, rb_bi_ne0, rb_okv0, rb_okv1, rb_okvb, ln0, ln1, ln2, ln3, ln4, ln5, ln6, ln7, ln8, ln9, ln10, if_true, if_false, ite_not, Decidable.not_not, nI_1, rb_iv])
  simp only [nI_0, rb_iv] at key
  rw [key]
  have h3 : (8 : Int32) ≤ nI 8 := nI_le (a := 8) (Nat.le_refl 8) (by omega)
  simp only [r47_0, r47_1, r47_2, r47_3, r47_4, r47_5, r47_7, r47_10, r47_11, r47_12, r47_13, r47_14, r47_15, r47_18, r47_19, r47_20, r47_23, r47_26, r47_27, h3, if_true, rb_iv]
theorem m_isAmong {x : Int32} : rb_G none 44 0 [some (.int x), some (.int (nI i))] [] (rb_W V) P ↔ P (some (.int (rb_bi ((x >>> (nI i &&& 31)) &&& 1 = 1)))) (rb_W V) := by
  simp only [r44_0, r44_1, r44_2, r44_3, r44_4, r44_5, r44_6, r44_9, r44_10, r44_13, r44_14, rb_sg_self, rb_sg_sg, List.length_cons, List.length_nil, Nat.reduceAdd, Nat.reduceLeDiff, Nat.reduceLT, Nat.zero_add, Option.toList_some, Option.toList_none, List.cons_append, List.nil_append, rb_bi_eq0, rb_bi_ne0, rb_okv0, rb_okv1, rb_okvb, ln0, ln1, ln2, ln3, ln4, ln5, ln6, ln7, ln8, ln9, ln10, if_true, if_false, ite_not, Decidable.not_not, rb_ite_bi]
theorem m_floorMod {a b : Int32} (hb : ¬ b = 0) : rb_G none 46 0 [some (.int a), some (.int b), none] [] (rb_W V) P ↔ P (some (.int (rb_fm a b))) (rb_W V) := by
  simp only [r46_0, r46_1, r46_2, r46_3, r46_4, r46_5, r46_6, r46_7, r46_10, r46_11, r46_14, r46_15, r46_16, r46_17, r46_18, r46_19, hb, not_false_eq_true, rb_fm]
  by_cases h1 : 0 ≤ a ^^^ b
  · simp only [if_pos h1]
  · by_cases h2 : rb_rem a b = 0
    · simp only [if_neg h1, if_pos h2]
    · simp only [if_neg h1, if_neg h2]
theorem m_bitCount {x : Int32} : rb_G none 25 0 [some (.int x)] [] (rb_W V) P ↔ P (some (.int (rb_bc x))) (rb_W V) := by
  simp only [r25_0, r25_1, r25_2, r25_3, r25_4, r25_7, r25_8, r25_9, r25_10, r25_11, r25_14, r25_15, r25_16, r25_17, r25_18, r25_21, r25_22, r25_23, r25_24, r25_25, r25_26, r25_27, r25_28, r25_29, r25_32, r25_33, r25_34, r25_35, r25_36, r25_38, r25_39, r25_40, r25_41, r25_42, r25_43, r25_45, r25_46, r25_47, r25_48, r25_49, r25_51, r25_52, rb_bc, rb_bc1, rb_bc2, rb_bc3, rb_bc4, rb_bc5]
theorem m_weigh {x : Int32} (hi : i < 8) : rb_G none 45 0 [some (.int x), some (.int (nI i)), none, none, none] [] (rb_W V) P ↔ P (some (.int (rb_wg x i))) (rb_W V) := by
  have h257 : ¬ (257 : Int32) = 0 := by decide
  simp only [r45_0, r45_1, r45_2, r45_3, r45_4, r45_5]
  obtain ⟨N, hN⟩ : ∃ N : Nat, N = 8 := ⟨8, rfl⟩
  have key := rb_loop (Q := fun j => rb_G none 45 7 [some (.int x), some (.int (nI i)), some (.int (rb_wa x i j)), some (.int (rb_wb x i j)), some (.int (nI j))] [] (rb_W V) P) N (fun j hj => by
    have h2 : ¬ (8 : Int32) ≤ nI j := nI_ge (b := 8) (by omega) (by omega)
    have h4 : (nI j = nI i) ↔ j = i := rb_eqn (by omega) (by omega)
    show rb_G none 45 7 _ _ _ _ ↔ _
    rw [r45_7]
    simp only [r45_0, r45_1, r45_2, r45_3, r45_4, r45_5, r45_9, r45_11, r45_14, r45_16, r45_17, r45_20, r45_21, r45_23, r45_26, r45_29, r45_30, r45_32, r45_33, r45_34, r45_35, r45_38, r45_39, r45_40, r45_41, r45_43, r45_44, r45_45, r45_46, r45_49, r45_52, r45_53, r45_56, r45_59, r45_60, r45_61, r45_64, r45_65, r45_68, r45_69, m_isAmong, m_floorMod, h2, h4, h257, not_false_eq_true, rb_sg_self, rb_sg_sg, List.length_cons, List.length_nil, Nat.reduceAdd, Nat.reduceLeDiff, Nat.reduceLT, Nat.zero_add, Option.toList_some, Option.toList_none, List.cons_append, List.nil_append, rb_bi_eq0, rb_bi_ne0, rb_okv0, rb_okv1, rb_okvb, ln0, ln1, ln2, ln3, ln4, ln5, ln6, ln7, ln8, ln9, ln10, if_true, if_false, ite_not, Decidable.not_not, nI_1]
    by_cases h5 : j = i
    · have h6 : ¬ (¬ j = i ∧ (x >>> (nI j &&& 31)) &&& 1 = 1) := fun q => q.1 h5
      simp only [if_pos h5, rb_wa, rb_wb, if_neg h6]
    · by_cases h7 : (x >>> (nI j &&& 31)) &&& 1 = 1
      · simp only [if_neg h5, if_pos h7, rb_wa, rb_wb, if_pos (And.intro h5 h7), nI_1]
      · have h6 : ¬ (¬ j = i ∧ (x >>> (nI j &&& 31)) &&& 1 = 1) := fun q => h7 q.2
        simp only [if_neg h5, if_neg h7, rb_wa, rb_wb, if_neg h6])
  simp only [nI_0, rb_wa, rb_wb] at key
  rw [key]
  have e : rb_wg x i = rb_rem (rb_wa x i N * rb_iv (rb_wb x i N) 8) 257 := by rw [hN]; rfl
  have h3 : (8 : Int32) ≤ nI N := nI_le (a := 8) (by omega) (by omega)
  rw [e]
  simp only [r45_7, r45_9, r45_11, r45_59, r45_60, r45_61, r45_64, r45_65, r45_68, r45_69, m_invert, h3, h257, not_false_eq_true, rb_sg_self, rb_sg_sg, List.length_cons, List.length_nil, Nat.reduceAdd, Nat.reduceLeDiff, Nat.reduceLT, Nat.zero_add, Option.toList_some, Option.toList_none, List.cons_append, List.nil_append, rb_bi_eq0, rb_bi_ne0, rb_okv0, rb_okv1, rb_okvb, ln0, ln1, ln2, ln3, ln4, ln5, ln6, ln7, ln8, ln9, ln10, if_true, if_false, ite_not, Decidable.not_not]
theorem m_isShown (hg : g < 12) (ho : o < 8) (hi : i < 8) : rb_G none 23 0 [some (.ref (rb_st g)), some (.int (nI o)), some (.int (nI i))] [] (rb_W V) P ↔ P (some (.int (rb_bi (¬ V g 10 (8 * o + i) = -9)))) (rb_W V) := by
  have h64 : 8 * o + i < 64 := by omega
  simp only [r23_0, r23_1, r23_4, r23_5, r23_6, r23_9, r23_12, r23_14, r23_17, r23_18, r23_21, r23_22, m_at, m_cell, hg, h64, rb_sg_self, rb_sg_sg, List.length_cons, List.length_nil, Nat.reduceAdd, Nat.reduceLeDiff, Nat.reduceLT, Nat.zero_add, Option.toList_some, Option.toList_none, List.cons_append, List.nil_append, rb_bi_eq0, rb_bi_ne0, rb_okv0, rb_okv1, rb_okvb, ln0, ln1, ln2, ln3, ln4, ln5, ln6, ln7, ln8, ln9, ln10, if_true, if_false, ite_not, Decidable.not_not, rb_ite_ib]
theorem m_trueShare (hg : g < 12) (ho : o < 8) (hi : i < 8) : rb_G none 38 0 [some (.ref (rb_st g)), some (.int (nI o)), some (.int (nI i))] [] (rb_W V) P ↔ P (some (.int (V g 9 (8 * o + i)))) (rb_W V) := by
  have h64 : 8 * o + i < 64 := by omega
  simp only [r38_0, r38_1, r38_4, r38_5, r38_6, r38_9, r38_12, m_at, m_cell, hg, h64, rb_sg_self, rb_sg_sg, List.length_cons, List.length_nil, Nat.reduceAdd, Nat.reduceLeDiff, Nat.reduceLT, Nat.zero_add, Option.toList_some, Option.toList_none, List.cons_append, List.nil_append, rb_bi_eq0, rb_bi_ne0, rb_okv0, rb_okv1, rb_okvb, ln0, ln1, ln2, ln3, ln4, ln5, ln6, ln7, ln8, ln9, ln10, if_true, if_false, ite_not, Decidable.not_not]
theorem m_learn {x z : Int32} (hg : g < 12) (hi : i < 8) : rb_G none 35 0 [some (.ref (rb_st g)), some (.int (nI i)), some (.int x), some (.int z)] [] (rb_W V) P ↔ P none (rb_W (rb_sg V g (cLearn (V g) i x z))) := by
  simp only [r35_0, r35_1, r35_4, r35_5, r35_6, r35_9, r35_10, r35_13, r35_14, r35_15, r35_18, m_put (a2 := none), hg, hi, rb_sg_self, rb_sg_sg, List.length_cons, List.length_nil, Nat.reduceAdd, Nat.reduceLeDiff, Nat.reduceLT, Nat.zero_add, Option.toList_some, Option.toList_none, List.cons_append, List.nil_append, rb_bi_eq0, rb_bi_ne0, rb_okv0, rb_okv1, rb_okvb, ln0, ln1, ln2, ln3, ln4, ln5, ln6, ln7, ln8, ln9, ln10, if_true, if_false, ite_not, Decidable.not_not, rb_u2_row, rb_u2_at, rb_u2_ne, ne_eq, Nat.reduceEqDiff, not_false_eq_true, reduceCtorEq, cLearn]
theorem m_uncover (hg : g < 12) (hi : i < 8) : rb_G none 34 0 [some (.ref (rb_st g)), some (.int (nI i))] [] (rb_W V) P ↔ P none (rb_W (rb_sg V g (cLearn (V g) i (V g 7 i) 2))) := by
  simp only [r34_0, r34_1, r34_2, r34_3, r34_6, r34_7, r34_10, r34_11, r34_14, m_at, m_learn, hg, hi, rb_sg_self, rb_sg_sg, List.length_cons, List.length_nil, Nat.reduceAdd, Nat.reduceLeDiff, Nat.reduceLT, Nat.zero_add, Option.toList_some, Option.toList_none, List.cons_append, List.nil_append, rb_bi_eq0, rb_bi_ne0, rb_okv0, rb_okv1, rb_okvb, ln0, ln1, ln2, ln3, ln4, ln5, ln6, ln7, ln8, ln9, ln10, if_true, if_false, ite_not, Decidable.not_not]
theorem m_mayCommit (hg : g < 12) (hi : i < 8) : rb_G none 65 0 [some (.ref (rb_st g)), some (.int (nI i))] [] (rb_W V) P ↔ P (some (.int (rb_bi (V g 11 4 = 0 ∧ V g 3 i = 1 ∧ V g 5 i = 0 ∧ ¬ V g 2 i < V g 0 3)))) (rb_W V) := by
  simp only [r65_0, r65_1, r65_4, r65_7, r65_8, r65_9, r65_12, r65_15, r65_16, r65_17, r65_20, r65_23, r65_24, r65_27, r65_28, r65_31, r65_32, r65_35, r65_36, r65_39, r65_42, r65_43, r65_46, r65_47, m_isOn, m_isBound, show (3 : Int32) = nI 3 from rfl, m_at, hg, hi, rb_sg_self, rb_sg_sg, List.length_cons, List.length_nil, Nat.reduceAdd, Nat.reduceLeDiff, Nat.reduceLT, Nat.zero_add, Option.toList_some, Option.toList_none, List.cons_append, List.nil_append, rb_bi_eq0, rb_bi_ne0, rb_okv0, rb_okv1, rb_okvb, ln0, ln1, ln2, ln3, ln4, ln5, ln6, ln7, ln8, ln9, ln10, if_true, if_false, ite_not, Decidable.not_not]
  by_cases h1 : V g 11 4 = 0
  · by_cases h2 : V g 3 i = 1
    · by_cases h3 : V g 5 i = 0
      · by_cases h4 : V g 2 i < V g 0 3
        · simp only [if_pos h1, if_pos h2, if_pos h3, if_pos h4, rb_bi_neg (show ¬ (V g 11 4 = 0 ∧ V g 3 i = 1 ∧ V g 5 i = 0 ∧ ¬ V g 2 i < V g 0 3) from fun q => q.2.2.2 h4)]
        · simp only [if_pos h1, if_pos h2, if_pos h3, if_neg h4, rb_bi_pos (show V g 11 4 = 0 ∧ V g 3 i = 1 ∧ V g 5 i = 0 ∧ ¬ V g 2 i < V g 0 3 from ⟨h1, h2, h3, h4⟩)]
      · simp only [if_pos h1, if_pos h2, if_neg h3, rb_bi_neg (show ¬ (V g 11 4 = 0 ∧ V g 3 i = 1 ∧ V g 5 i = 0 ∧ ¬ V g 2 i < V g 0 3) from fun q => h3 q.2.2.1)]
    · simp only [if_pos h1, if_neg h2, rb_bi_neg (show ¬ (V g 11 4 = 0 ∧ V g 3 i = 1 ∧ V g 5 i = 0 ∧ ¬ V g 2 i < V g 0 3) from fun q => h2 q.2.1)]
  · simp only [if_neg h1, rb_bi_neg (show ¬ (V g 11 4 = 0 ∧ V g 3 i = 1 ∧ V g 5 i = 0 ∧ ¬ V g 2 i < V g 0 3) from fun q => h1 q.1)]
end RBM
