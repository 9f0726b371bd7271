/-! THE METHODS' ANSWERS, 3: a state's loops -/
def rb_cm (i s v : Int32) : Int32 := rb_rem (31 * s * s + 17 * v + 7 * s * v + 1000 * i + 5) 10007
def rb_mk (j x : Int32) : Int32 := rb_rem (91 * x * x + 3 * x + j) 10007
def rb_pw (b : Int32) : Nat → Int32
  | 0 => 1
  | e + 1 => rb_rem (rb_pw b e * b) 257
def rb_iv (b : Int32) : Nat → Int32
  | 0 => 1
  | e + 1 => rb_rem (rb_iv b e * rb_iv b e * b) 257
def rb_fm (a b : Int32) : Int32 := if 0 ≤ a ^^^ b then rb_rem a b else if rb_rem a b = 0 then rb_rem a b else rb_rem a b + b
def rb_am (x : Int32) (k : Nat) : Prop := (x >>> (nI k &&& 31)) &&& 1 = 1
/-- the last half of a bit's finding: yes or no -/
theorem rb_am_iff {x : Int32} {k : Nat} : rb_am x k ↔ (x >>> (nI k &&& 31)) &&& 1 = 1 := Iff.rfl
noncomputable def rb_wa (x : Int32) (j : Nat) : Nat → Int32
  | 0 => 1
  | k + 1 => if ¬ k = j ∧ (x >>> (nI k &&& 31)) &&& 1 = 1 then rb_rem (rb_wa x j k * (nI k + 1)) 257 else rb_wa x j k
noncomputable def rb_wb (x : Int32) (j : Nat) : Nat → Int32
  | 0 => 1
  | k + 1 => if ¬ k = j ∧ (x >>> (nI k &&& 31)) &&& 1 = 1 then rb_fm (rb_wb x j k * (nI k - nI j)) 257 else rb_wb x j k
noncomputable def rb_wg (x : Int32) (j : Nat) : Int32 := rb_rem (rb_wa x j 8 * rb_iv (rb_wb x j 8) 8) 257
def rb_or (f : Nat → Int32) : Nat → Int32
  | 0 => 0
  | j + 1 => rb_or f j ||| f j
def rb_bc1 (x : Int32) : Int32 := x - (rb_ush x 1 &&& 1431655765)
def rb_bc2 (x : Int32) : Int32 := (x &&& 858993459) + (rb_ush x 2 &&& 858993459)
def rb_bc3 (x : Int32) : Int32 := (x + rb_ush x 4) &&& 252645135
def rb_bc4 (x : Int32) : Int32 := x + rb_ush x 8
def rb_bc5 (x : Int32) : Int32 := x + rb_ush x 16
def rb_bc (x : Int32) : Int32 := rb_bc5 (rb_bc4 (rb_bc3 (rb_bc2 (rb_bc1 x)))) &&& 63
theorem cell_nI (o i : Nat) : nI o * 8 + nI i = nI (8 * o + i) := by
  have : nI o * 8 = nI (8 * o) := by
    show Int32.ofNat o * Int32.ofNat 8 = Int32.ofNat (8 * o)
    rw [← Int32.ofNat_mul, Nat.mul_comm]
  rw [this, nI_add]
theorem rb_eqn {a b : Nat} (ha : a < 64) (hb : b < 64) : (nI a = nI b) ↔ a = b := nI_eq (by omega) (by omega)
def cBound (c : Nat → Nat → Int32) (m : Nat) : Int32 := cCount c 1 m + cCount c 2 m + cCount c 3 m
def cDep (c : Nat → Nat → Int32) (m : Nat) : Int32 := rb_sum (fun i => c 2 i) m
def cOnN (c : Nat → Nat → Int32) (m : Nat) : Int32 := rb_sum (fun i => rb_bi (c 3 i = 1)) m
def cKnowX (c : Nat → Nat → Int32) (m : Nat) : Int32 := rb_xor (fun i => if c 5 i = 2 ∨ c 5 i = 3 then c 8 i else 0) m
def cBoundX (c : Nat → Nat → Int32) (m : Nat) : Int32 := rb_xor (fun i => if ¬ c 5 i = 0 then c 7 i else 0) m
def cOut (c : Nat → Nat → Int32) (m : Nat) : Int32 := if cCount c 2 m + cCount c 3 m = 0 ∨ (c 0 5 = 1 ∧ ¬ cCount c 1 m ≤ 0) then -9 else cKnowX c m
def cGiv (c : Nat → Nat → Int32) (o m : Nat) : Int32 := rb_or (fun i => if ¬ c 10 (8 * o + i) = -9 then 1 <<< (nI i &&& 31) else 0) m
noncomputable def cItp (c : Nat → Nat → Int32) (o : Nat) (x : Int32) (m : Nat) : Int32 := rb_rem (rb_sum (fun i => if (x >>> (nI i &&& 31)) &&& 1 = 1 then rb_rem (c 10 (8 * o + i) * rb_wg x i) 257 else 0) m) 257
section RBM
variable {V : rb_V} {P : Option Value → rb_M → Prop} {g r j i o m : Nat}
theorem m_countBound (hg : g < 12) (hm : V g 11 0 = nI m) (hm8 : m ≤ 8) : rb_G none 63 0 [some (.ref (rb_st g))] [] (rb_W V) P ↔ P (some (.int (cBound (V g) m))) (rb_W V) := by
  simp only [r63_0, r63_1, r63_2, r63_5, r63_6, r63_7, r63_10, r63_11, r63_12, r63_13, r63_16, r63_17, m_countStanding hg hm hm8, hg, rb_sg_self, rb_sg_sg, List.length_cons, List.length_nil, Nat.reduceAdd, Nat.reduceLeDiff, Nat.reduceLT, Nat.zero_add, Option.toList_some, Option.toList_none, List.cons_append, List.nil_append, rb_bi_eq0, rb_bi_ne0, rb_okv0, rb_okv1, rb_okvb, ln0, ln1, ln2, ln3, ln4, ln5, ln6, ln7, ln8, ln9, ln10, if_true, if_false, ite_not, Decidable.not_not, cBound]
theorem m_sumDeposits (hg : g < 12) (hm : V g 11 0 = nI m) (hm8 : m ≤ 8) : rb_G none 74 0 [some (.ref (rb_st g)), none, none] [] (rb_W V) P ↔ P (some (.int (cDep (V g) m))) (rb_W V) := by
  simp only [r74_0, r74_1, r74_2, r74_3]
  have key := rb_loop (Q := fun j => rb_G none 74 4 [some (.ref (rb_st g)), some (.int (rb_sum (fun i => V g 2 i) j)), some (.int (nI j))] [] (rb_W V) P) m (fun j hj => by
    have h2 : ¬ nI m ≤ nI j := nI_ge hj (by omega)
    have hj8 : j < 8 := by omega
    show rb_G none 74 4 _ _ _ _ ↔ _
    rw [r74_4]
    simp only [r74_0, r74_1, r74_2, r74_3, r74_5, r74_6, r74_9, r74_12, r74_13, r74_14, r74_17, r74_18, r74_21, r74_22, r74_23, r74_26, r74_29, r74_30, m_at, hg, hj8, hm, h2, rb_sg_self, rb_sg_sg, List.length_cons, List.length_nil, Nat.reduceAdd, Nat.reduceLeDiff, Nat.reduceLT, Nat.zero_add, Option.toList_some, Option.toList_none, List.cons_append, List.nil_append, rb_bi_eq0, rb_bi_ne0, rb_okv0, rb_okv1, rb_okvb, ln0, ln1, ln2, ln3, ln4, ln5, ln6, ln7, ln8, ln9, ln10, if_true, if_false, ite_not, Decidable.not_not, nI_1, rb_sum])
  simp only [nI_0, rb_sum] at key
  rw [key]
  have h3 : nI m ≤ nI m := nI_le (Nat.le_refl m) (by omega)
  simp only [r74_0, r74_1, r74_2, r74_3, r74_4, r74_5, r74_6, r74_9, r74_12, r74_13, r74_14, r74_17, r74_18, r74_21, r74_22, r74_23, r74_26, r74_29, r74_30, hg, hm, h3, if_true, cDep]
theorem m_countOn (hg : g < 12) (hm : V g 11 0 = nI m) (hm8 : m ≤ 8) : rb_G none 75 0 [some (.ref (rb_st g)), none, none] [] (rb_W V) P ↔ P (some (.int (cOnN (V g) m))) (rb_W V) := by
  simp only [r75_0, r75_1, r75_2, r75_3]
  have key := rb_loop (Q := fun j => rb_G none 75 4 [some (.ref (rb_st g)), some (.int (rb_sum (fun i => rb_bi (V g 3 i = 1)) j)), some (.int (nI j))] [] (rb_W V) P) m (fun j hj => by
    have h2 : ¬ nI m ≤ nI j := nI_ge hj (by omega)
    have hj8 : j < 8 := by omega
    show rb_G none 75 4 _ _ _ _ ↔ _
    rw [r75_4]
    simp only [r75_0, r75_1, r75_2, r75_3, r75_5, r75_6, r75_9, r75_12, r75_13, r75_14, r75_15, r75_18, r75_21, r75_22, r75_25, r75_26, r75_27, r75_28, r75_31, r75_34, r75_35, m_isOn, hg, hj8, hm, h2, rb_sg_self, rb_sg_sg, List.length_cons, List.length_nil, Nat.reduceAdd, Nat.reduceLeDiff, Nat.reduceLT, Nat.zero_add, Option.toList_some, Option.toList_none, List.cons_append, List.nil_append, rb_bi_eq0, rb_bi_ne0, rb_okv0, rb_okv1, rb_okvb, ln0, ln1, ln2, ln3, ln4, ln5, ln6, ln7, ln8, ln9, ln10, if_true, if_false, ite_not, Decidable.not_not, nI_1]
    by_cases h : V g 3 j = 1
    · simp only [if_pos h, rb_sum, rb_bi_pos h]
    · simp only [if_neg h, rb_sum, rb_bi_neg h])
  simp only [nI_0, rb_sum] at key
  rw [key]
  have h3 : nI m ≤ nI m := nI_le (Nat.le_refl m) (by omega)
  simp only [r75_0, r75_1, r75_2, r75_3, r75_4, r75_5, r75_6, r75_9, r75_12, r75_13, r75_14, r75_15, r75_18, r75_21, r75_22, r75_25, r75_26, r75_27, r75_28, r75_31, r75_34, r75_35, hg, hm, h3, if_true, cOnN]
theorem m_cm {x s v : Int32} : rb_G none 33 0 [some (.int x), some (.int s), some (.int v)] [] (rb_W V) P ↔ P (some (.int (rb_cm x s v))) (rb_W V) := by
  have h : ¬ (10007 : Int32) = 0 := by decide
  simp only [r33_0, r33_2, r33_3, r33_4, r33_5, r33_6, r33_8, r33_9, r33_10, r33_11, r33_13, r33_14, r33_15, r33_16, r33_17, r33_18, r33_21, r33_22, r33_23, r33_24, r33_25, r33_26, r33_29, r33_30, h, not_false_eq_true, rb_cm]
theorem m_mk {x y : Int32} : rb_G none 51 0 [some (.int x), some (.int y)] [] (rb_W V) P ↔ P (some (.int (rb_mk x y))) (rb_W V) := by
  have h : ¬ (10007 : Int32) = 0 := by decide
  simp only [r51_0, r51_2, r51_3, r51_4, r51_5, r51_6, r51_7, r51_8, r51_9, r51_10, r51_11, r51_12, r51_15, r51_16, h, not_false_eq_true, rb_mk]
theorem m_cell : rb_G none 35 0 [some (.int (nI o)), some (.int (nI i))] [] (rb_W V) P ↔ P (some (.int (nI (8 * o + i)))) (rb_W V) := by
  simp only [r35_0, r35_1, r35_3, r35_4, r35_5, r35_6, cell_nI]
theorem m_raise {b : Int32} {e : Nat} (he : e < 64) : rb_G none 38 0 [some (.int b), some (.int (nI e)), none, none] [] (rb_W V) P ↔ P (some (.int (rb_pw b e))) (rb_W V) := by
  have h257 : ¬ (257 : Int32) = 0 := by decide
  simp only [r38_0, r38_1, r38_2, r38_3]
  have key := rb_loop (Q := fun j => rb_G none 38 4 [some (.int b), some (.int (nI e)), some (.int (rb_pw b j)), some (.int (nI j))] [] (rb_W V) P) e (fun j hj => by
    have h2 : ¬ nI e ≤ nI j := nI_ge hj (by omega)
    show rb_G none 38 4 _ _ _ _ ↔ _
    rw [r38_4]
    simp only [r38_0, r38_1, r38_2, r38_3, r38_5, r38_6, r38_9, r38_10, r38_11, r38_12, r38_15, r38_16, r38_17, r38_20, r38_23, r38_24, h2, h257, not_false_eq_true, rb_sg_self, rb_sg_sg, List.length_cons, List.length_nil, Nat.reduceAdd, Nat.reduceLeDiff, Nat.reduceLT, Nat.zero_add, Option.toList_some, Option.toList_none, List.cons_append, List.nil_append, rb_bi_eq0, rb_bi_ne0, rb_okv0, rb_okv1, rb_okvb, ln0, ln1, ln2, ln3, ln4, ln5, ln6, ln7, ln8, ln9, ln10, if_true, if_false, ite_not, Decidable.not_not, nI_1, rb_pw])
  simp only [nI_0, rb_pw] at key
  rw [key]
  have h3 : nI e ≤ nI e := nI_le (Nat.le_refl e) (by omega)
  simp only [r38_0, r38_1, r38_2, r38_3, r38_4, r38_5, r38_6, r38_9, r38_10, r38_11, r38_12, r38_15, r38_16, r38_17, r38_20, r38_23, r38_24, h3, if_true]
theorem m_invert {b : Int32} : rb_G none 58 0 [some (.int b), none, none] [] (rb_W V) P ↔ P (some (.int (rb_iv b 8))) (rb_W V) := by
  have h257 : ¬ (257 : Int32) = 0 := by decide
  simp only [r58_0, r58_1, r58_2, r58_3]
  have key := rb_loop (Q := fun j => rb_G none 58 4 [some (.int b), some (.int (rb_iv b j)), some (.int (nI j))] [] (rb_W V) P) 8 (fun j hj => by
    have h2 : ¬ (8 : Int32) ≤ nI j := nI_ge (b := 8) hj (by omega)
    show rb_G none 58 4 _ _ _ _ ↔ _
    rw [r58_4]
    simp only [r58_0, r58_1, r58_2, r58_3, r58_5, r58_7, r58_10, r58_11, r58_12, r58_13, r58_14, r58_15, r58_18, r58_19, r58_20, r58_23, r58_26, r58_27, h2, h257, not_false_eq_true, rb_sg_self, rb_sg_sg, List.length_cons, List.length_nil, Nat.reduceAdd, Nat.reduceLeDiff, Nat.reduceLT, Nat.zero_add, Option.toList_some, Option.toList_none, List.cons_append, List.nil_append, rb_bi_eq0, rb_bi_ne0, rb_okv0, rb_okv1, rb_okvb, ln0, ln1, ln2, ln3, ln4, ln5, ln6, ln7, ln8, ln9, ln10, if_true, if_false, ite_not, Decidable.not_not, nI_1, rb_iv])
  simp only [nI_0, rb_iv] at key
  rw [key]
  have h3 : (8 : Int32) ≤ nI 8 := nI_le (a := 8) (Nat.le_refl 8) (by omega)
  simp only [r58_0, r58_1, r58_2, r58_3, r58_4, r58_5, r58_7, r58_10, r58_11, r58_12, r58_13, r58_14, r58_15, r58_18, r58_19, r58_20, r58_23, r58_26, r58_27, h3, if_true, rb_iv]
theorem m_isAmong {x : Int32} : rb_G none 55 0 [some (.int x), some (.int (nI i))] [] (rb_W V) P ↔ P (some (.int (rb_bi ((x >>> (nI i &&& 31)) &&& 1 = 1)))) (rb_W V) := by
  simp only [r55_0, r55_1, r55_2, r55_3, r55_4, r55_5, r55_6, r55_9, r55_10, r55_13, r55_14, rb_sg_self, rb_sg_sg, List.length_cons, List.length_nil, Nat.reduceAdd, Nat.reduceLeDiff, Nat.reduceLT, Nat.zero_add, Option.toList_some, Option.toList_none, List.cons_append, List.nil_append, rb_bi_eq0, rb_bi_ne0, rb_okv0, rb_okv1, rb_okvb, ln0, ln1, ln2, ln3, ln4, ln5, ln6, ln7, ln8, ln9, ln10, if_true, if_false, ite_not, Decidable.not_not, rb_ite_bi]
theorem m_floorMod {a b : Int32} (hb : ¬ b = 0) : rb_G none 57 0 [some (.int a), some (.int b), none] [] (rb_W V) P ↔ P (some (.int (rb_fm a b))) (rb_W V) := by
  simp only [r57_0, r57_1, r57_2, r57_3, r57_4, r57_5, r57_6, r57_7, r57_10, r57_11, r57_14, r57_15, r57_16, r57_17, r57_18, r57_19, hb, not_false_eq_true, rb_fm]
  by_cases h1 : 0 ≤ a ^^^ b
  · simp only [if_pos h1]
  · by_cases h2 : rb_rem a b = 0
    · simp only [if_neg h1, if_pos h2]
    · simp only [if_neg h1, if_neg h2]
theorem m_bitCount {x : Int32} : rb_G none 53 0 [some (.int x)] [] (rb_W V) P ↔ P (some (.int (rb_bc x))) (rb_W V) := by
  simp only [r53_0, r53_1, r53_2, r53_3, r53_4, r53_7, r53_8, r53_9, r53_10, r53_11, r53_14, r53_15, r53_16, r53_17, r53_18, r53_21, r53_22, r53_23, r53_24, r53_25, r53_26, r53_27, r53_28, r53_29, r53_32, r53_33, r53_34, r53_35, r53_36, r53_38, r53_39, r53_40, r53_41, r53_42, r53_43, r53_45, r53_46, r53_47, r53_48, r53_49, r53_51, r53_52, rb_bc, rb_bc1, rb_bc2, rb_bc3, rb_bc4, rb_bc5]
theorem m_weigh {x : Int32} (hi : i < 8) : rb_G none 56 0 [some (.int x), some (.int (nI i)), none, none, none] [] (rb_W V) P ↔ P (some (.int (rb_wg x i))) (rb_W V) := by
  have h257 : ¬ (257 : Int32) = 0 := by decide
  simp only [r56_0, r56_1, r56_2, r56_3, r56_4, r56_5]
  obtain ⟨N, hN⟩ : ∃ N : Nat, N = 8 := ⟨8, rfl⟩
  have key := rb_loop (Q := fun j => rb_G none 56 7 [some (.int x), some (.int (nI i)), some (.int (rb_wa x i j)), some (.int (rb_wb x i j)), some (.int (nI j))] [] (rb_W V) P) N (fun j hj => by
    have h2 : ¬ (8 : Int32) ≤ nI j := nI_ge (b := 8) (by omega) (by omega)
    have h4 : (nI j = nI i) ↔ j = i := rb_eqn (by omega) (by omega)
    show rb_G none 56 7 _ _ _ _ ↔ _
    rw [r56_7]
    simp only [r56_0, r56_1, r56_2, r56_3, r56_4, r56_5, r56_9, r56_11, r56_14, r56_16, r56_17, r56_20, r56_21, r56_23, r56_26, r56_29, r56_30, r56_32, r56_33, r56_34, r56_35, r56_38, r56_39, r56_40, r56_41, r56_43, r56_44, r56_45, r56_46, r56_49, r56_52, r56_53, r56_56, r56_59, r56_60, r56_61, r56_64, r56_65, r56_68, r56_69, m_isAmong, m_floorMod, h2, h4, h257, not_false_eq_true, rb_sg_self, rb_sg_sg, List.length_cons, List.length_nil, Nat.reduceAdd, Nat.reduceLeDiff, Nat.reduceLT, Nat.zero_add, Option.toList_some, Option.toList_none, List.cons_append, List.nil_append, rb_bi_eq0, rb_bi_ne0, rb_okv0, rb_okv1, rb_okvb, ln0, ln1, ln2, ln3, ln4, ln5, ln6, ln7, ln8, ln9, ln10, if_true, if_false, ite_not, Decidable.not_not, nI_1]
    by_cases h5 : j = i
    · have h6 : ¬ (¬ j = i ∧ (x >>> (nI j &&& 31)) &&& 1 = 1) := fun q => q.1 h5
      simp only [if_pos h5, rb_wa, rb_wb, if_neg h6]
    · by_cases h7 : (x >>> (nI j &&& 31)) &&& 1 = 1
      · simp only [if_neg h5, if_pos h7, rb_wa, rb_wb, if_pos (And.intro h5 h7), nI_1]
      · have h6 : ¬ (¬ j = i ∧ (x >>> (nI j &&& 31)) &&& 1 = 1) := fun q => h7 q.2
        simp only [if_neg h5, if_neg h7, rb_wa, rb_wb, if_neg h6])
  simp only [nI_0, rb_wa, rb_wb] at key
  rw [key]
  have e : rb_wg x i = rb_rem (rb_wa x i N * rb_iv (rb_wb x i N) 8) 257 := by rw [hN]; rfl
  have h3 : (8 : Int32) ≤ nI N := nI_le (a := 8) (by omega) (by omega)
  rw [e]
  simp only [r56_7, r56_9, r56_11, r56_59, r56_60, r56_61, r56_64, r56_65, r56_68, r56_69, m_invert, h3, h257, not_false_eq_true, rb_sg_self, rb_sg_sg, List.length_cons, List.length_nil, Nat.reduceAdd, Nat.reduceLeDiff, Nat.reduceLT, Nat.zero_add, Option.toList_some, Option.toList_none, List.cons_append, List.nil_append, rb_bi_eq0, rb_bi_ne0, rb_okv0, rb_okv1, rb_okvb, ln0, ln1, ln2, ln3, ln4, ln5, ln6, ln7, ln8, ln9, ln10, if_true, if_false, ite_not, Decidable.not_not]
theorem m_isShown (hg : g < 12) (ho : o < 8) (hi : i < 8) : rb_G none 49 0 [some (.ref (rb_st g)), some (.int (nI o)), some (.int (nI i))] [] (rb_W V) P ↔ P (some (.int (rb_bi (¬ V g 10 (8 * o + i) = -9)))) (rb_W V) := by
  have h64 : 8 * o + i < 64 := by omega
  simp only [r49_0, r49_1, r49_4, r49_5, r49_6, r49_9, r49_12, r49_14, r49_17, r49_18, r49_21, r49_22, m_at, m_cell, hg, h64, rb_sg_self, rb_sg_sg, List.length_cons, List.length_nil, Nat.reduceAdd, Nat.reduceLeDiff, Nat.reduceLT, Nat.zero_add, Option.toList_some, Option.toList_none, List.cons_append, List.nil_append, rb_bi_eq0, rb_bi_ne0, rb_okv0, rb_okv1, rb_okvb, ln0, ln1, ln2, ln3, ln4, ln5, ln6, ln7, ln8, ln9, ln10, if_true, if_false, ite_not, Decidable.not_not, rb_ite_ib]
theorem m_trueShare (hg : g < 12) (ho : o < 8) (hi : i < 8) : rb_G none 37 0 [some (.ref (rb_st g)), some (.int (nI o)), some (.int (nI i))] [] (rb_W V) P ↔ P (some (.int (V g 9 (8 * o + i)))) (rb_W V) := by
  have h64 : 8 * o + i < 64 := by omega
  simp only [r37_0, r37_1, r37_4, r37_5, r37_6, r37_9, r37_12, m_at, m_cell, hg, h64, rb_sg_self, rb_sg_sg, List.length_cons, List.length_nil, Nat.reduceAdd, Nat.reduceLeDiff, Nat.reduceLT, Nat.zero_add, Option.toList_some, Option.toList_none, List.cons_append, List.nil_append, rb_bi_eq0, rb_bi_ne0, rb_okv0, rb_okv1, rb_okvb, ln0, ln1, ln2, ln3, ln4, ln5, ln6, ln7, ln8, ln9, ln10, if_true, if_false, ite_not, Decidable.not_not]
theorem m_learn {x z : Int32} (hg : g < 12) (hi : i < 8) : rb_G none 44 0 [some (.ref (rb_st g)), some (.int (nI i)), some (.int x), some (.int z)] [] (rb_W V) P ↔ P none (rb_W (rb_sg V g (cLearn (V g) i x z))) := by
  simp only [r44_0, r44_1, r44_4, r44_5, r44_6, r44_9, r44_10, r44_13, r44_14, r44_15, r44_18, m_put (a2 := none), hg, hi, rb_sg_self, rb_sg_sg, List.length_cons, List.length_nil, Nat.reduceAdd, Nat.reduceLeDiff, Nat.reduceLT, Nat.zero_add, Option.toList_some, Option.toList_none, List.cons_append, List.nil_append, rb_bi_eq0, rb_bi_ne0, rb_okv0, rb_okv1, rb_okvb, ln0, ln1, ln2, ln3, ln4, ln5, ln6, ln7, ln8, ln9, ln10, if_true, if_false, ite_not, Decidable.not_not, rb_u2_row, rb_u2_at, rb_u2_ne, ne_eq, Nat.reduceEqDiff, not_false_eq_true, reduceCtorEq, cLearn]
theorem m_uncover (hg : g < 12) (hi : i < 8) : rb_G none 92 0 [some (.ref (rb_st g)), some (.int (nI i))] [] (rb_W V) P ↔ P none (rb_W (rb_sg V g (cLearn (V g) i (V g 7 i) 2))) := by
  simp only [r92_0, r92_1, r92_2, r92_3, r92_6, r92_7, r92_10, r92_11, r92_14, m_at, m_learn, hg, hi, rb_sg_self, rb_sg_sg, List.length_cons, List.length_nil, Nat.reduceAdd, Nat.reduceLeDiff, Nat.reduceLT, Nat.zero_add, Option.toList_some, Option.toList_none, List.cons_append, List.nil_append, rb_bi_eq0, rb_bi_ne0, rb_okv0, rb_okv1, rb_okvb, ln0, ln1, ln2, ln3, ln4, ln5, ln6, ln7, ln8, ln9, ln10, if_true, if_false, ite_not, Decidable.not_not]
theorem m_mayCommit (hg : g < 12) (hi : i < 8) : rb_G none 29 0 [some (.ref (rb_st g)), some (.int (nI i))] [] (rb_W V) P ↔ P (some (.int (rb_bi (V g 11 4 = 0 ∧ V g 3 i = 1 ∧ V g 5 i = 0 ∧ ¬ V g 2 i < V g 0 3)))) (rb_W V) := by
  simp only [r29_0, r29_1, r29_4, r29_7, r29_8, r29_9, r29_12, r29_15, r29_16, r29_17, r29_20, r29_23, r29_24, r29_27, r29_28, r29_31, r29_32, r29_35, r29_36, r29_39, r29_42, r29_43, r29_46, r29_47, m_isOn, m_isBound, show (3 : Int32) = nI 3 from rfl, m_at, hg, hi, rb_sg_self, rb_sg_sg, List.length_cons, List.length_nil, Nat.reduceAdd, Nat.reduceLeDiff, Nat.reduceLT, Nat.zero_add, Option.toList_some, Option.toList_none, List.cons_append, List.nil_append, rb_bi_eq0, rb_bi_ne0, rb_okv0, rb_okv1, rb_okvb, ln0, ln1, ln2, ln3, ln4, ln5, ln6, ln7, ln8, ln9, ln10, if_true, if_false, ite_not, Decidable.not_not]
  by_cases h1 : V g 11 4 = 0
  · by_cases h2 : V g 3 i = 1
    · by_cases h3 : V g 5 i = 0
      · by_cases h4 : V g 2 i < V g 0 3
        · simp only [if_pos h1, if_pos h2, if_pos h3, if_pos h4, rb_bi_neg (show ¬ (V g 11 4 = 0 ∧ V g 3 i = 1 ∧ V g 5 i = 0 ∧ ¬ V g 2 i < V g 0 3) from fun q => q.2.2.2 h4)]
        · simp only [if_pos h1, if_pos h2, if_pos h3, if_neg h4, rb_bi_pos (show V g 11 4 = 0 ∧ V g 3 i = 1 ∧ V g 5 i = 0 ∧ ¬ V g 2 i < V g 0 3 from ⟨h1, h2, h3, h4⟩)]
      · simp only [if_pos h1, if_pos h2, if_neg h3, rb_bi_neg (show ¬ (V g 11 4 = 0 ∧ V g 3 i = 1 ∧ V g 5 i = 0 ∧ ¬ V g 2 i < V g 0 3) from fun q => h3 q.2.2.1)]
    · simp only [if_pos h1, if_neg h2, rb_bi_neg (show ¬ (V g 11 4 = 0 ∧ V g 3 i = 1 ∧ V g 5 i = 0 ∧ ¬ V g 2 i < V g 0 3) from fun q => h2 q.2.1)]
  · simp only [if_neg h1, rb_bi_neg (show ¬ (V g 11 4 = 0 ∧ V g 3 i = 1 ∧ V g 5 i = 0 ∧ ¬ V g 2 i < V g 0 3) from fun q => h1 q.1)]
end RBM
