/-! THE REFERENCE'S ANSWERS, 1 -/
def wN (W : Nat → Nat → Int32) (p m : Nat) : Int32 := rb_sum (fun i => rb_bi (¬ W 1 (p + i) = -9)) m
def wKn (W : Nat → Nat → Int32) (i : Nat) : Int32 := if W 1 (47 + i) = -9 then W 1 (55 + i) else W 1 (47 + i)
def wDraw (W : Nat → Nat → Int32) : Nat → Nat → Int32 := rb_u2 W 1 7 (rb_sd (W 1 7))
def wTerms (W : Nat → Nat → Int32) (s : Int32) : Nat → Nat → Nat → Int32
  | 0 => rb_u2 W 4 0 s
  | k + 1 => rb_u2 (wDraw (wTerms W s k)) 4 (k + 1) (rb_dr (rb_sd (wTerms W s k 1 7)))
def wPoly (W : Nat → Nat → Int32) (j : Nat) (t : Nat) : Int32 := rb_sum (fun k => W 4 k * rb_pw (nI (j + 1)) k) t
def wLay (W : Nat → Nat → Int32) (o t : Nat) : Nat → Nat → Nat → Int32
  | 0 => W
  | j + 1 => rb_u2 (wLay W o t j) 1 (71 + 8 * o + j) (rb_rem (wPoly (wLay W o t j) j t) 257)
def wLayS (W : Nat → Nat → Int32) (o : Nat) (s : Int32) (m t : Nat) : Nat → Nat → Int32 := wLay (wTerms W s (t - 1)) o t m
def wSk (W : Nat → Nat → Int32) : Int32 := rb_sum (fun j => rb_bi (¬ W 5 j = -9)) 8
def wTake (W : Nat → Nat → Int32) (o : Nat) : Nat → Nat → Nat → Int32
  | 0 => W
  | j + 1 => rb_u2 (wTake W o j) 5 j (wTake W o j 1 (135 + 8 * o + j))
def wTop (f : Nat → Int32) (j : Nat) : Nat → Int32
  | 0 => f j
  | k + 1 => if ¬ k = j ∧ ¬ f k = -9 then rb_rem (wTop f j k * (nI k + 1)) 257 else wTop f j k
def wBot (f : Nat → Int32) (j : Nat) : Nat → Int32
  | 0 => 1
  | k + 1 => if ¬ k = j ∧ ¬ f k = -9 then rb_rem (wBot f j k * rb_rem (nI k - nI j + 257) 257) 257 else wBot f j k
def wAtZ (f : Nat → Int32) : Int32 := rb_rem (rb_sum (fun j => if f j = -9 then 0 else rb_rem (wTop f j 8 * rb_pw (wBot f j 8) 255) 257) 8) 257
def wFine (W : Nat → Nat → Int32) (i : Nat) (a : Int32) : Nat → Nat → Int32 := rb_u2 (rb_u2 (rb_u2 W 1 (15 + i) (W 1 (15 + i) - (if a ≤ W 1 (15 + i) then a else W 1 (15 + i)))) 1 6 (W 1 6 + (if a ≤ W 1 (15 + i) then a else W 1 (15 + i)))) 1 (63 + i) (W 1 (63 + i) + 1)
theorem rb_sc {c : Nat → Nat → Int32} {V : rb_V} : rb_sg V 12 c 12 = c := rb_sg_self V 12 c
section RBM
variable {V : rb_V} {P : Option Value → rb_M → Prop} {i j o m t : Nat} {x y z : Int32}
theorem n_isIn : rb_G none 101 0 [some (.int x), some (.int y), some (.int z)] [] (rb_W V) P ↔ P (some (.int (rb_bi (y ≤ x ∧ x ≤ z)))) (rb_W V) := by
  simp only [r101_0, r101_1, r101_2, r101_5, r101_6, r101_7, r101_10, r101_11, r101_14, r101_15, rb_sg_self, rb_sg_sg, List.length_cons, List.length_nil, Nat.reduceAdd, Nat.reduceLeDiff, Nat.reduceLT, Nat.zero_add, Option.toList_some, Option.toList_none, List.cons_append, List.nil_append, rb_bi_eq0, rb_bi_ne0, rb_okv0, rb_okv1, rb_okvb, ln0, ln1, ln2, ln3, ln4, ln5, ln6, ln7, ln8, ln9, ln10, if_true, if_false, ite_not, Decidable.not_not]
  by_cases h1 : x < y
  · simp only [if_pos h1, rb_bi_neg (show ¬ (y ≤ x ∧ x ≤ z) from fun q => Int32.not_le.mpr h1 q.1)]
  · by_cases h2 : z < x
    · simp only [if_neg h1, if_pos h2, rb_bi_neg (show ¬ (y ≤ x ∧ x ≤ z) from fun q => Int32.not_le.mpr h2 q.2)]
    · simp only [if_neg h1, if_neg h2, rb_bi_pos (show y ≤ x ∧ x ≤ z from ⟨Int32.not_lt.mp h1, Int32.not_lt.mp h2⟩)]
theorem n_isMember : rb_G none 108 0 [some (.ref 281), some (.int x)] [] (rb_W V) P ↔ P (some (.int (rb_bi (0 ≤ x ∧ x ≤ V 12 1 0 - 1)))) (rb_W V) := by
  simp only [r108_0, r108_1, r108_2, r108_3, r108_6, r108_7, r108_8, r108_9, r108_10, r108_13, n_isIn, r17, lm1, lm2, lm3, lm4, lm5, lm6, ib0, ib1, ib2, ib3, ib4, ib5, ib6, ib7, ib8, ib9, ib10, ib11, ib12, ib13, ib14, tn0, tn1, tn2, tn3, tn4, tn5, tn6, tn7, tn8, tn9, tn10, tn11, tn12, tn13, tn14, ibt0, ca9, in9, cl9, ca15, in15, cl15, ca23, in23, cl23, ca31, in31, cl31, ca39, in39, cl39, ca47, in47, cl47, ca55, in55, cl55, ca63, in63, cl63, ca199, in199, cl199, ca71, in71, cl71, ca135, in135, cl135, cm8, ine8, cle8, nI_add, rb_sg_self, rb_sg_sg, List.length_cons, List.length_nil, Nat.reduceAdd, Nat.reduceLeDiff, Nat.reduceLT, Nat.zero_add, Option.toList_some, Option.toList_none, List.cons_append, List.nil_append, rb_bi_eq0, rb_bi_ne0, rb_okv0, rb_okv1, rb_okvb, ln0, ln1, ln2, ln3, ln4, ln5, ln6, ln7, ln8, ln9, ln10, if_true, if_false, ite_not, Decidable.not_not]
theorem n_isOn (hi : i < 8) : rb_G none 112 0 [some (.ref 281), some (.int (nI i))] [] (rb_W V) P ↔ P (some (.int (rb_bi (V 12 1 (23 + i) = 1)))) (rb_W V) := by
  simp only [r112_0, r112_1, r112_4, r112_6, r112_7, r112_8, r112_9, r112_10, r112_13, r112_14, r112_17, r112_18, hi, r17, lm1, lm2, lm3, lm4, lm5, lm6, ib0, ib1, ib2, ib3, ib4, ib5, ib6, ib7, ib8, ib9, ib10, ib11, ib12, ib13, ib14, tn0, tn1, tn2, tn3, tn4, tn5, tn6, tn7, tn8, tn9, tn10, tn11, tn12, tn13, tn14, ibt0, ca9, in9, cl9, ca15, in15, cl15, ca23, in23, cl23, ca31, in31, cl31, ca39, in39, cl39, ca47, in47, cl47, ca55, in55, cl55, ca63, in63, cl63, ca199, in199, cl199, ca71, in71, cl71, ca135, in135, cl135, cm8, ine8, cle8, nI_add, rb_sg_self, rb_sg_sg, List.length_cons, List.length_nil, Nat.reduceAdd, Nat.reduceLeDiff, Nat.reduceLT, Nat.zero_add, Option.toList_some, Option.toList_none, List.cons_append, List.nil_append, rb_bi_eq0, rb_bi_ne0, rb_okv0, rb_okv1, rb_okvb, ln0, ln1, ln2, ln3, ln4, ln5, ln6, ln7, ln8, ln9, ln10, if_true, if_false, ite_not, Decidable.not_not, rb_ite_bi]
theorem n_isBound (hi : i < 8) : rb_G none 113 0 [some (.ref 281), some (.int (nI i))] [] (rb_W V) P ↔ P (some (.int (rb_bi (¬ V 12 1 (31 + i) = -9)))) (rb_W V) := by
  simp only [r113_0, r113_1, r113_4, r113_6, r113_7, r113_8, r113_9, r113_11, r113_14, r113_15, r113_18, r113_19, hi, r17, lm1, lm2, lm3, lm4, lm5, lm6, ib0, ib1, ib2, ib3, ib4, ib5, ib6, ib7, ib8, ib9, ib10, ib11, ib12, ib13, ib14, tn0, tn1, tn2, tn3, tn4, tn5, tn6, tn7, tn8, tn9, tn10, tn11, tn12, tn13, tn14, ibt0, ca9, in9, cl9, ca15, in15, cl15, ca23, in23, cl23, ca31, in31, cl31, ca39, in39, cl39, ca47, in47, cl47, ca55, in55, cl55, ca63, in63, cl63, ca199, in199, cl199, ca71, in71, cl71, ca135, in135, cl135, cm8, ine8, cle8, nI_add, rb_sg_self, rb_sg_sg, List.length_cons, List.length_nil, Nat.reduceAdd, Nat.reduceLeDiff, Nat.reduceLT, Nat.zero_add, Option.toList_some, Option.toList_none, List.cons_append, List.nil_append, rb_bi_eq0, rb_bi_ne0, rb_okv0, rb_okv1, rb_okvb, ln0, ln1, ln2, ln3, ln4, ln5, ln6, ln7, ln8, ln9, ln10, if_true, if_false, ite_not, Decidable.not_not, rb_ite_ib]
theorem n_known (hi : i < 8) : rb_G none 123 0 [some (.ref 281), some (.int (nI i))] [] (rb_W V) P ↔ P (some (.int (wKn (V 12) i))) (rb_W V) := by
  simp only [r123_0, r123_1, r123_4, r123_6, r123_7, r123_8, r123_9, r123_11, r123_14, r123_15, r123_18, r123_20, r123_21, r123_22, r123_23, r123_26, r123_27, r123_30, r123_32, r123_33, r123_34, r123_35, hi, r17, lm1, lm2, lm3, lm4, lm5, lm6, ib0, ib1, ib2, ib3, ib4, ib5, ib6, ib7, ib8, ib9, ib10, ib11, ib12, ib13, ib14, tn0, tn1, tn2, tn3, tn4, tn5, tn6, tn7, tn8, tn9, tn10, tn11, tn12, tn13, tn14, ibt0, ca9, in9, cl9, ca15, in15, cl15, ca23, in23, cl23, ca31, in31, cl31, ca39, in39, cl39, ca47, in47, cl47, ca55, in55, cl55, ca63, in63, cl63, ca199, in199, cl199, ca71, in71, cl71, ca135, in135, cl135, cm8, ine8, cle8, nI_add, rb_sg_self, rb_sg_sg, List.length_cons, List.length_nil, Nat.reduceAdd, Nat.reduceLeDiff, Nat.reduceLT, Nat.zero_add, Option.toList_some, Option.toList_none, List.cons_append, List.nil_append, rb_bi_eq0, rb_bi_ne0, rb_okv0, rb_okv1, rb_okvb, ln0, ln1, ln2, ln3, ln4, ln5, ln6, ln7, ln8, ln9, ln10, if_true, if_false, ite_not, Decidable.not_not, wKn]
  by_cases h : V 12 1 (47 + i) = -9
  · simp only [if_pos h]
  · simp only [if_neg h]
theorem n_bound (hm : V 12 1 0 = nI m) (hm8 : m ≤ 8) : rb_G none 132 0 [some (.ref 281), none, none] [] (rb_W V) P ↔ P (some (.int (wN (V 12) 31 m))) (rb_W V) := by
  simp only [r132_0, r132_1, r132_2, r132_3]
  have h3 : nI m ≤ nI m := nI_le (Nat.le_refl m) (by omega)
  have key := rb_loop (Q := fun j => rb_G none 132 4 [some (.ref 281), some (.int (wN (V 12) 31 j)), some (.int (nI j))] [] (rb_W V) P) m (fun j hj => by
    have h2 : ¬ nI m ≤ nI j := nI_ge hj (by omega)
    have hj8 : j < 8 := by omega
    show rb_G none 132 4 _ _ _ _ ↔ _
    rw [r132_4]
    simp only [r132_0, r132_1, r132_2, r132_3, r132_5, r132_6, r132_9, r132_10, r132_11, r132_14, r132_15, r132_16, r132_17, r132_20, r132_23, r132_24, r132_27, r132_28, r132_29, r132_30, r132_33, r132_36, r132_37, n_isBound, hj8, hm, h2, r17, lm1, lm2, lm3, lm4, lm5, lm6, ib0, ib1, ib2, ib3, ib4, ib5, ib6, ib7, ib8, ib9, ib10, ib11, ib12, ib13, ib14, tn0, tn1, tn2, tn3, tn4, tn5, tn6, tn7, tn8, tn9, tn10, tn11, tn12, tn13, tn14, ibt0, ca9, in9, cl9, ca15, in15, cl15, ca23, in23, cl23, ca31, in31, cl31, ca39, in39, cl39, ca47, in47, cl47, ca55, in55, cl55, ca63, in63, cl63, ca199, in199, cl199, ca71, in71, cl71, ca135, in135, cl135, cm8, ine8, cle8, nI_add, rb_sg_self, rb_sg_sg, List.length_cons, List.length_nil, Nat.reduceAdd, Nat.reduceLeDiff, Nat.reduceLT, Nat.zero_add, Option.toList_some, Option.toList_none, List.cons_append, List.nil_append, rb_bi_eq0, rb_bi_ne0, rb_okv0, rb_okv1, rb_okvb, ln0, ln1, ln2, ln3, ln4, ln5, ln6, ln7, ln8, ln9, ln10, if_true, if_false, ite_not, Decidable.not_not, nI_1]
    by_cases h : V 12 1 (31 + j) = -9
    · simp only [if_pos h, wN, rb_sum, rb_bi_neg (show ¬ ¬ V 12 1 (31 + j) = -9 from fun q => q h)]
    · simp only [if_neg h, wN, rb_sum, rb_bi_pos h])
  simp only [nI_0, wN, rb_sum] at key
  rw [key]
  simp only [r132_4, r132_5, r132_6, r132_9, r132_10, r132_11, r132_36, r132_37, hm, h3, r17, lm1, lm2, lm3, lm4, lm5, lm6, ib0, ib1, ib2, ib3, ib4, ib5, ib6, ib7, ib8, ib9, ib10, ib11, ib12, ib13, ib14, tn0, tn1, tn2, tn3, tn4, tn5, tn6, tn7, tn8, tn9, tn10, tn11, tn12, tn13, tn14, ibt0, ca9, in9, cl9, ca15, in15, cl15, ca23, in23, cl23, ca31, in31, cl31, ca39, in39, cl39, ca47, in47, cl47, ca55, in55, cl55, ca63, in63, cl63, ca199, in199, cl199, ca71, in71, cl71, ca135, in135, cl135, cm8, ine8, cle8, nI_add, rb_sg_self, rb_sg_sg, List.length_cons, List.length_nil, Nat.reduceAdd, Nat.reduceLeDiff, Nat.reduceLT, Nat.zero_add, Option.toList_some, Option.toList_none, List.cons_append, List.nil_append, rb_bi_eq0, rb_bi_ne0, rb_okv0, rb_okv1, rb_okvb, ln0, ln1, ln2, ln3, ln4, ln5, ln6, ln7, ln8, ln9, ln10, if_true, if_false, ite_not, Decidable.not_not, wN]
theorem n_countP {p : Nat} (hp : p + 8 ≤ 229) (hm : V 12 1 0 = nI m) (hm8 : m ≤ 8) : rb_G none 133 0 [some (.ref 281), some (.int (nI p)), none, none] [] (rb_W V) P ↔ P (some (.int (wN (V 12) p m))) (rb_W V) := by
  simp only [r133_0, r133_1, r133_2, r133_3]
  have h3 : nI m ≤ nI m := nI_le (Nat.le_refl m) (by omega)
  have key := rb_loop (Q := fun j => rb_G none 133 4 [some (.ref 281), some (.int (nI p)), some (.int (wN (V 12) p j)), some (.int (nI j))] [] (rb_W V) P) m (fun j hj => by
    have h2 : ¬ nI m ≤ nI j := nI_ge hj (by omega)
    have hib : rb_inb (nI (p + j)) 229 = true := rb_ib (by omega) (by decide)
    have hcl : (nI (p + j)).toNatClampNeg = p + j := nI_clamp (by omega)
    show rb_G none 133 4 _ _ _ _ ↔ _
    rw [r133_4]
    simp only [r133_0, r133_1, r133_2, r133_3, r133_5, r133_6, r133_9, r133_10, r133_11, r133_14, r133_15, r133_16, r133_19, r133_20, r133_21, r133_22, r133_23, r133_25, r133_28, r133_29, r133_32, r133_33, r133_34, r133_35, r133_38, r133_41, r133_42, hib, hcl, hm, h2, r17, lm1, lm2, lm3, lm4, lm5, lm6, ib0, ib1, ib2, ib3, ib4, ib5, ib6, ib7, ib8, ib9, ib10, ib11, ib12, ib13, ib14, tn0, tn1, tn2, tn3, tn4, tn5, tn6, tn7, tn8, tn9, tn10, tn11, tn12, tn13, tn14, ibt0, ca9, in9, cl9, ca15, in15, cl15, ca23, in23, cl23, ca31, in31, cl31, ca39, in39, cl39, ca47, in47, cl47, ca55, in55, cl55, ca63, in63, cl63, ca199, in199, cl199, ca71, in71, cl71, ca135, in135, cl135, cm8, ine8, cle8, nI_add, rb_sg_self, rb_sg_sg, List.length_cons, List.length_nil, Nat.reduceAdd, Nat.reduceLeDiff, Nat.reduceLT, Nat.zero_add, Option.toList_some, Option.toList_none, List.cons_append, List.nil_append, rb_bi_eq0, rb_bi_ne0, rb_okv0, rb_okv1, rb_okvb, ln0, ln1, ln2, ln3, ln4, ln5, ln6, ln7, ln8, ln9, ln10, if_true, if_false, ite_not, Decidable.not_not, nI_1]
    by_cases h : V 12 1 (p + j) = -9
    · simp only [if_pos h, wN, rb_sum, rb_bi_neg (show ¬ ¬ V 12 1 (p + j) = -9 from fun q => q h)]
    · simp only [if_neg h, wN, rb_sum, rb_bi_pos h])
  simp only [nI_0, wN, rb_sum] at key
  rw [key]
  simp only [r133_4, r133_5, r133_6, r133_9, r133_10, r133_11, r133_41, r133_42, hm, h3, r17, lm1, lm2, lm3, lm4, lm5, lm6, ib0, ib1, ib2, ib3, ib4, ib5, ib6, ib7, ib8, ib9, ib10, ib11, ib12, ib13, ib14, tn0, tn1, tn2, tn3, tn4, tn5, tn6, tn7, tn8, tn9, tn10, tn11, tn12, tn13, tn14, ibt0, ca9, in9, cl9, ca15, in15, cl15, ca23, in23, cl23, ca31, in31, cl31, ca39, in39, cl39, ca47, in47, cl47, ca55, in55, cl55, ca63, in63, cl63, ca199, in199, cl199, ca71, in71, cl71, ca135, in135, cl135, cm8, ine8, cle8, nI_add, rb_sg_self, rb_sg_sg, List.length_cons, List.length_nil, Nat.reduceAdd, Nat.reduceLeDiff, Nat.reduceLT, Nat.zero_add, Option.toList_some, Option.toList_none, List.cons_append, List.nil_append, rb_bi_eq0, rb_bi_ne0, rb_okv0, rb_okv1, rb_okvb, ln0, ln1, ln2, ln3, ln4, ln5, ln6, ln7, ln8, ln9, ln10, if_true, if_false, ite_not, Decidable.not_not, wN]
theorem n_count47 (hm : V 12 1 0 = nI m) (hm8 : m ≤ 8) : rb_G none 133 0 [some (.ref 281), some (.int 47), none, none] [] (rb_W V) P ↔ P (some (.int (wN (V 12) 47 m))) (rb_W V) := n_countP (p := 47) (by decide) hm hm8
theorem n_count55 (hm : V 12 1 0 = nI m) (hm8 : m ≤ 8) : rb_G none 133 0 [some (.ref 281), some (.int 55), none, none] [] (rb_W V) P ↔ P (some (.int (wN (V 12) 55 m))) (rb_W V) := n_countP (p := 55) (by decide) hm hm8
theorem n_bind : rb_G none 114 0 [some (.int x), some (.int y), some (.int z)] [] (rb_W V) P ↔ P (some (.int (rb_cm x y z))) (rb_W V) := by
  have h : ¬ (10007 : Int32) = 0 := by decide
  simp only [r114_0, r114_2, r114_3, r114_4, r114_5, r114_6, r114_8, r114_9, r114_10, r114_11, r114_13, r114_14, r114_15, r114_16, r114_17, r114_18, r114_21, r114_22, r114_23, r114_24, r114_25, r114_26, r114_29, r114_30, h, not_false_eq_true, rb_cm]
theorem n_markOf : rb_G none 124 0 [some (.int x), some (.int y)] [] (rb_W V) P ↔ P (some (.int (rb_mk y x))) (rb_W V) := by
  have h : ¬ (10007 : Int32) = 0 := by decide
  simp only [r124_0, r124_2, r124_3, r124_4, r124_5, r124_6, r124_7, r124_8, r124_9, r124_10, r124_11, r124_12, r124_15, r124_16, h, not_false_eq_true, rb_mk]
theorem n_power {e : Nat} (he : e < 1000) : rb_G none 117 0 [some (.int x), some (.int (nI e)), none, none] [] (rb_W V) P ↔ P (some (.int (rb_pw x e))) (rb_W V) := by
  have h257 : ¬ (257 : Int32) = 0 := by decide
  simp only [r117_0, r117_1, r117_2, r117_3]
  have key := rb_loop (Q := fun j => rb_G none 117 4 [some (.int x), some (.int (nI e)), some (.int (rb_pw x j)), some (.int (nI j))] [] (rb_W V) P) e (fun j hj => by
    have h2 : ¬ nI e ≤ nI j := nI_ge hj (by omega)
    show rb_G none 117 4 _ _ _ _ ↔ _
    rw [r117_4]
    simp only [r117_0, r117_1, r117_2, r117_3, r117_5, r117_6, r117_9, r117_10, r117_11, r117_12, r117_15, r117_16, r117_17, r117_20, r117_23, r117_24, h2, h257, not_false_eq_true, rb_sg_self, rb_sg_sg, List.length_cons, List.length_nil, Nat.reduceAdd, Nat.reduceLeDiff, Nat.reduceLT, Nat.zero_add, Option.toList_some, Option.toList_none, List.cons_append, List.nil_append, rb_bi_eq0, rb_bi_ne0, rb_okv0, rb_okv1, rb_okvb, ln0, ln1, ln2, ln3, ln4, ln5, ln6, ln7, ln8, ln9, ln10, if_true, if_false, ite_not, Decidable.not_not, nI_1, rb_pw])
  simp only [nI_0, rb_pw] at key
  rw [key]
  have h3 : nI e ≤ nI e := nI_le (Nat.le_refl e) (by omega)
  simp only [r117_0, r117_1, r117_2, r117_3, r117_4, r117_5, r117_6, r117_9, r117_10, r117_11, r117_12, r117_15, r117_16, r117_17, r117_20, r117_23, r117_24, h3, if_true]
theorem n_draw : rb_G none 116 0 [some (.ref 281), some (.int 257), none, none] [] (rb_W V) P ↔ P (some (.int (rb_dr (rb_sd (V 12 1 7))))) (rb_W (rb_sg V 12 (wDraw (V 12)))) := by
  have h1 : ¬ (2147483648 : Int64) = 0 := by decide
  have h2 : ¬ (65536 : Int32) = 0 := by decide
  have h3 : ¬ (257 : Int32) = 0 := by decide
  simp only [r116_0, r116_3, r116_4, r116_7, r116_9, r116_10, r116_11, r116_12, r116_15, r116_16, r116_19, r116_20, r116_21, r116_22, r116_25, r116_27, r116_28, r116_29, r116_30, r116_31, r116_34, r116_36, r116_37, r116_39, r116_40, r116_41, r116_42, h1, h2, h3, r17, not_false_eq_true, lm1, lm2, lm3, lm4, lm5, lm6, ib0, ib1, ib2, ib3, ib4, ib5, ib6, ib7, ib8, ib9, ib10, ib11, ib12, ib13, ib14, tn0, tn1, tn2, tn3, tn4, tn5, tn6, tn7, tn8, tn9, tn10, tn11, tn12, tn13, tn14, ibt0, ca9, in9, cl9, ca15, in15, cl15, ca23, in23, cl23, ca31, in31, cl31, ca39, in39, cl39, ca47, in47, cl47, ca55, in55, cl55, ca63, in63, cl63, ca199, in199, cl199, ca71, in71, cl71, ca135, in135, cl135, cm8, ine8, cle8, nI_add, rb_sg_self, rb_sg_sg, List.length_cons, List.length_nil, Nat.reduceAdd, Nat.reduceLeDiff, Nat.reduceLT, Nat.zero_add, Option.toList_some, Option.toList_none, List.cons_append, List.nil_append, rb_bi_eq0, rb_bi_ne0, rb_okv0, rb_okv1, rb_okvb, ln0, ln1, ln2, ln3, ln4, ln5, ln6, ln7, ln8, ln9, ln10, if_true, if_false, ite_not, Decidable.not_not, rb_u2_at, wDraw, rb_dr, rb_sd]
theorem n_sharesKnown : rb_G none 126 0 [some (.ref 281), none, none] [] (rb_W V) P ↔ P (some (.int (wSk (V 12)))) (rb_W V) := by
  obtain ⟨N, hN⟩ : ∃ N : Nat, N = 8 := ⟨8, rfl⟩
  simp only [r126_0, r126_1, r126_2, r126_3]
  have h3 : (8 : Int32) ≤ nI N := nI_le (a := 8) (by omega) (by omega)
  have key := rb_loop (Q := fun j => rb_G none 126 4 [some (.ref 281), some (.int (rb_sum (fun j => rb_bi (¬ V 12 5 j = -9)) j)), some (.int (nI j))] [] (rb_W V) P) N (fun j hj => by
    have h2 : ¬ (8 : Int32) ≤ nI j := nI_ge (b := 8) (by omega) (by omega)
    have hj8 : j < 8 := by omega
    show rb_G none 126 4 _ _ _ _ ↔ _
    rw [r126_4]
    simp only [r126_0, r126_1, r126_2, r126_3, r126_5, r126_7, r126_10, r126_11, r126_12, r126_15, r126_16, r126_17, r126_19, r126_22, r126_23, r126_26, r126_27, r126_28, r126_29, r126_32, r126_35, r126_36, hj8, h2, r57, lm1, lm2, lm3, lm4, lm5, lm6, ib0, ib1, ib2, ib3, ib4, ib5, ib6, ib7, ib8, ib9, ib10, ib11, ib12, ib13, ib14, tn0, tn1, tn2, tn3, tn4, tn5, tn6, tn7, tn8, tn9, tn10, tn11, tn12, tn13, tn14, ibt0, ca9, in9, cl9, ca15, in15, cl15, ca23, in23, cl23, ca31, in31, cl31, ca39, in39, cl39, ca47, in47, cl47, ca55, in55, cl55, ca63, in63, cl63, ca199, in199, cl199, ca71, in71, cl71, ca135, in135, cl135, cm8, ine8, cle8, nI_add, rb_sg_self, rb_sg_sg, List.length_cons, List.length_nil, Nat.reduceAdd, Nat.reduceLeDiff, Nat.reduceLT, Nat.zero_add, Option.toList_some, Option.toList_none, List.cons_append, List.nil_append, rb_bi_eq0, rb_bi_ne0, rb_okv0, rb_okv1, rb_okvb, ln0, ln1, ln2, ln3, ln4, ln5, ln6, ln7, ln8, ln9, ln10, if_true, if_false, ite_not, Decidable.not_not, nI_1]
    by_cases h : V 12 5 j = -9
    · simp only [if_pos h, rb_sum, rb_bi_neg (show ¬ ¬ V 12 5 j = -9 from fun q => q h)]
    · simp only [if_neg h, rb_sum, rb_bi_pos h])
  simp only [nI_0, rb_sum] at key
  rw [key]
  have e : wSk (V 12) = rb_sum (fun j => rb_bi (¬ V 12 5 j = -9)) N := by rw [hN]; rfl
  rw [e]
  simp only [r126_4, r126_5, r126_7, r126_35, r126_36, h3, rb_sg_self, rb_sg_sg, List.length_cons, List.length_nil, Nat.reduceAdd, Nat.reduceLeDiff, Nat.reduceLT, Nat.zero_add, Option.toList_some, Option.toList_none, List.cons_append, List.nil_append, rb_bi_eq0, rb_bi_ne0, rb_okv0, rb_okv1, rb_okvb, ln0, ln1, ln2, ln3, ln4, ln5, ln6, ln7, ln8, ln9, ln10, if_true, if_false, ite_not, Decidable.not_not]
theorem wTake_1 (W : Nat → Nat → Int32) (o : Nat) : ∀ j, wTake W o j 1 = W 1
  | 0 => rfl
  | j + 1 => by unfold wTake; rw [rb_u2_row (by decide)]; exact wTake_1 W o j
theorem n_takePublished (ho : o < 8) : rb_G none 125 0 [some (.ref 281), some (.int (nI o)), none] [] (rb_W V) P ↔ P none (rb_W (rb_sg V 12 (wTake (V 12) o 8))) := by
  obtain ⟨N, hN⟩ : ∃ N : Nat, N = 8 := ⟨8, rfl⟩
  simp only [r125_0, r125_1]
  have h3 : (8 : Int32) ≤ nI N := nI_le (a := 8) (by omega) (by omega)
  have key := rb_loop (Q := fun j => rb_G none 125 2 [some (.ref 281), some (.int (nI o)), some (.int (nI j))] [] (rb_W (rb_sg V 12 (wTake (V 12) o j))) P) N (fun j hj => by
    have h2 : ¬ (8 : Int32) ≤ nI j := nI_ge (b := 8) (by omega) (by omega)
    have hj8 : j < 8 := by omega
    show rb_G none 125 2 _ _ _ _ ↔ _
    rw [r125_2]
    simp only [r125_0, r125_1, r125_3, r125_5, r125_8, r125_9, r125_12, r125_13, r125_14, r125_17, r125_20, r125_22, r125_23, r125_24, r125_25, r125_26, r125_27, r125_28, r125_29, r125_32, r125_35, hj8, ho, h2, r17, r57, lm1, lm2, lm3, lm4, lm5, lm6, ib0, ib1, ib2, ib3, ib4, ib5, ib6, ib7, ib8, ib9, ib10, ib11, ib12, ib13, ib14, tn0, tn1, tn2, tn3, tn4, tn5, tn6, tn7, tn8, tn9, tn10, tn11, tn12, tn13, tn14, ibt0, ca9, in9, cl9, ca15, in15, cl15, ca23, in23, cl23, ca31, in31, cl31, ca39, in39, cl39, ca47, in47, cl47, ca55, in55, cl55, ca63, in63, cl63, ca199, in199, cl199, ca71, in71, cl71, ca135, in135, cl135, cm8, ine8, cle8, nI_add, rb_sg_self, rb_sg_sg, List.length_cons, List.length_nil, Nat.reduceAdd, Nat.reduceLeDiff, Nat.reduceLT, Nat.zero_add, Option.toList_some, Option.toList_none, List.cons_append, List.nil_append, rb_bi_eq0, rb_bi_ne0, rb_okv0, rb_okv1, rb_okvb, ln0, ln1, ln2, ln3, ln4, ln5, ln6, ln7, ln8, ln9, ln10, if_true, if_false, ite_not, Decidable.not_not, nI_1, wTake])
  simp only [nI_0, wTake, rb_sg_id] at key
  rw [key]
  rw [← hN]
  simp only [r125_2, r125_3, r125_5, r125_35, h3, rb_sg_self, rb_sg_sg, List.length_cons, List.length_nil, Nat.reduceAdd, Nat.reduceLeDiff, Nat.reduceLT, Nat.zero_add, Option.toList_some, Option.toList_none, List.cons_append, List.nil_append, rb_bi_eq0, rb_bi_ne0, rb_okv0, rb_okv1, rb_okvb, ln0, ln1, ln2, ln3, ln4, ln5, ln6, ln7, ln8, ln9, ln10, if_true, if_false, ite_not, Decidable.not_not]
theorem n_atZero : rb_G none 127 0 [some (.ref 281), none, none, none, none, none] [] (rb_W V) P ↔ P (some (.int (wAtZ (V 12 5)))) (rb_W V) := by
  obtain ⟨N, hN⟩ : ∃ N : Nat, N = 8 := ⟨8, rfl⟩
  have h257 : ¬ (257 : Int32) = 0 := by decide
  have h3 : (8 : Int32) ≤ nI N := nI_le (a := 8) (by omega) (by omega)
  have e255 : (255 : Int32) = nI 255 := rfl
  have hp : ∀ {b : Int32} {P' : Option Value → rb_M → Prop}, rb_G none 117 0 [some (.int b), some (.int 255), none, none] [] (rb_W V) P' ↔ P' (some (.int (rb_pw b 255))) (rb_W V) := fun {b P'} => n_power (e := 255) (by decide)
  simp only [r127_0, r127_1, r127_2, r127_3]
  have e : wAtZ (V 12 5) = rb_rem (rb_sum (fun j => if V 12 5 j = -9 then 0 else rb_rem (wTop (V 12 5) j N * rb_pw (wBot (V 12 5) j N) 255) 257) N) 257 := by rw [hN]; rfl
  have key := rb_loopR (α := Option Value × Option Value × Option Value) (Q := fun j a => rb_G none 127 4 [some (.ref 281), some (.int (rb_sum (fun j => if V 12 5 j = -9 then 0 else rb_rem (wTop (V 12 5) j N * rb_pw (wBot (V 12 5) j N) 255) 257) j)), some (.int (nI j)), a.1, a.2.1, a.2.2] [] (rb_W V) P) (R := P (some (.int (wAtZ (V 12 5)))) (rb_W V)) N (fun a => by
    show rb_G none 127 4 _ _ _ _ ↔ _
    simp only [r127_4, r127_5, r127_7, r127_120, r127_121, r127_124, r127_125, h3, h257, not_false_eq_true, rb_sg_self, rb_sg_sg, List.length_cons, List.length_nil, Nat.reduceAdd, Nat.reduceLeDiff, Nat.reduceLT, Nat.zero_add, Option.toList_some, Option.toList_none, List.cons_append, List.nil_append, rb_bi_eq0, rb_bi_ne0, rb_okv0, rb_okv1, rb_okvb, ln0, ln1, ln2, ln3, ln4, ln5, ln6, ln7, ln8, ln9, ln10, if_true, if_false, ite_not, Decidable.not_not, e]) (fun j hj ih a => by
    have h2 : ¬ (8 : Int32) ≤ nI j := nI_ge (b := 8) (by omega) (by omega)
    have hj8 : j < 8 := by omega
    show rb_G none 127 4 _ _ _ _ ↔ _
    rw [r127_4]
    simp only [r127_5, r127_7, r127_10, r127_11, r127_14, r127_15, r127_16, r127_18, r127_21, r127_22, r127_25, r127_26, r127_27, r127_28, r127_29, r127_31, r127_32, r127_114, r127_117, hj8, h2, r57, lm1, lm2, lm3, lm4, lm5, lm6, ib0, ib1, ib2, ib3, ib4, ib5, ib6, ib7, ib8, ib9, ib10, ib11, ib12, ib13, ib14, tn0, tn1, tn2, tn3, tn4, tn5, tn6, tn7, tn8, tn9, tn10, tn11, tn12, tn13, tn14, ibt0, ca9, in9, cl9, ca15, in15, cl15, ca23, in23, cl23, ca31, in31, cl31, ca39, in39, cl39, ca47, in47, cl47, ca55, in55, cl55, ca63, in63, cl63, ca199, in199, cl199, ca71, in71, cl71, ca135, in135, cl135, cm8, ine8, cle8, nI_add, rb_sg_self, rb_sg_sg, List.length_cons, List.length_nil, Nat.reduceAdd, Nat.reduceLeDiff, Nat.reduceLT, Nat.zero_add, Option.toList_some, Option.toList_none, List.cons_append, List.nil_append, rb_bi_eq0, rb_bi_ne0, rb_okv0, rb_okv1, rb_okvb, ln0, ln1, ln2, ln3, ln4, ln5, ln6, ln7, ln8, ln9, ln10, if_true, if_false, ite_not, Decidable.not_not, nI_1]
    by_cases h : V 12 5 j = -9
    · simp only [if_pos h]
      have := ih (a.1, a.2.1, a.2.2)
      simp only [rb_sum, if_pos h, Int32.add_zero] at this
      exact this
    · simp only [if_neg h]
      have inner := rb_loop (Q := fun k => rb_G none 127 34 [some (.ref 281), some (.int (rb_sum (fun j => if V 12 5 j = -9 then 0 else rb_rem (wTop (V 12 5) j N * rb_pw (wBot (V 12 5) j N) 255) 257) j)), some (.int (nI j)), some (.int (wTop (V 12 5) j k)), some (.int (wBot (V 12 5) j k)), some (.int (nI k))] [] (rb_W V) P) N (fun k hk => by
        have h4 : ¬ (8 : Int32) ≤ nI k := nI_ge (b := 8) (by omega) (by omega)
        have hk8 : k < 8 := by omega
        have h5 : (nI k = nI j) ↔ k = j := rb_eqn (by omega) (by omega)
        show rb_G none 127 34 _ _ _ _ ↔ _
        rw [r127_34]
        simp only [r127_36, r127_38, r127_41, r127_43, r127_44, r127_47, r127_48, r127_51, r127_53, r127_54, r127_56, r127_59, r127_60, r127_62, r127_63, r127_64, r127_65, r127_68, r127_69, r127_70, r127_72, r127_74, r127_75, r127_76, r127_79, r127_80, r127_83, r127_84, r127_85, r127_88, r127_89, r127_91, r127_94, hk8, h4, h5, r57, h257, not_false_eq_true, lm5, ine8, cle8, rb_sg_self, rb_sg_sg, List.length_cons, List.length_nil, Nat.reduceAdd, Nat.reduceLeDiff, Nat.reduceLT, Nat.zero_add, Option.toList_some, Option.toList_none, List.cons_append, List.nil_append, rb_bi_eq0, rb_bi_ne0, rb_okv0, rb_okv1, rb_okvb, ln0, ln1, ln2, ln3, ln4, ln5, ln6, ln7, ln8, ln9, ln10, if_true, if_false, ite_not, Decidable.not_not]
        by_cases h6 : k = j
        · simp only [if_pos h6, wTop, wBot, if_neg (show ¬ (¬ k = j ∧ ¬ V 12 5 k = -9) from fun q => q.1 h6), nI_1]
        · by_cases h7 : V 12 5 k = -9
          · simp only [if_neg h6, if_pos h7, wTop, wBot, if_neg (show ¬ (¬ k = j ∧ ¬ V 12 5 k = -9) from fun q => q.2 h7), nI_1]
          · simp only [if_neg h6, if_neg h7, wTop, wBot, if_pos (show ¬ k = j ∧ ¬ V 12 5 k = -9 from ⟨h6, h7⟩), nI_1])
      simp only [nI_0, wTop, wBot] at inner
      rw [inner]
      simp only [r127_34, r127_36, r127_38, r127_97, r127_98, r127_99, r127_101, r127_104, r127_107, r127_108, r127_111, r127_112, r127_113, r127_114, r127_117, hp, h3, h257, not_false_eq_true, rb_sg_self, rb_sg_sg, List.length_cons, List.length_nil, Nat.reduceAdd, Nat.reduceLeDiff, Nat.reduceLT, Nat.zero_add, Option.toList_some, Option.toList_none, List.cons_append, List.nil_append, rb_bi_eq0, rb_bi_ne0, rb_okv0, rb_okv1, rb_okvb, ln0, ln1, ln2, ln3, ln4, ln5, ln6, ln7, ln8, ln9, ln10, if_true, if_false, ite_not, Decidable.not_not, nI_1]
      have := ih (some (.int (wTop (V 12 5) j N)), some (.int (wBot (V 12 5) j N)), some (.int (nI N)))
      simp only [rb_sum, if_neg h] at this
      exact this)
  have := key (none, none, none)
  simp only [nI_0, rb_sum] at this
  exact this
theorem n_fine {a : Int32} (hi : i < 8) : rb_G none 119 0 [some (.ref 281), some (.int (nI i)), some (.int a), none] [] (rb_W V) P ↔ P none (rb_W (rb_sg V 12 (wFine (V 12) i a))) := by
  have e1 : ¬ 6 = 15 + i := by omega
  have e2 : ¬ 63 + i = 6 := by omega
  have e3 : ¬ 63 + i = 15 + i := by omega
  simp only [r119_0, r119_1, r119_2, r119_5, r119_7, r119_8, r119_9, r119_10, r119_13, r119_14, r119_17, r119_19, r119_20, r119_21, r119_22, r119_25, r119_26, r119_27, r119_28, r119_31, r119_33, r119_34, r119_35, r119_36, r119_37, r119_38, r119_39, r119_40, r119_41, r119_44, r119_46, r119_47, r119_48, r119_49, r119_50, r119_51, r119_52, r119_55, r119_57, r119_58, r119_59, r119_60, r119_61, r119_62, r119_63, r119_64, hi, r17, lm1, lm2, lm3, lm4, lm5, lm6, ib0, ib1, ib2, ib3, ib4, ib5, ib6, ib7, ib8, ib9, ib10, ib11, ib12, ib13, ib14, tn0, tn1, tn2, tn3, tn4, tn5, tn6, tn7, tn8, tn9, tn10, tn11, tn12, tn13, tn14, ibt0, ca9, in9, cl9, ca15, in15, cl15, ca23, in23, cl23, ca31, in31, cl31, ca39, in39, cl39, ca47, in47, cl47, ca55, in55, cl55, ca63, in63, cl63, ca199, in199, cl199, ca71, in71, cl71, ca135, in135, cl135, cm8, ine8, cle8, nI_add, rb_sg_self, rb_sg_sg, List.length_cons, List.length_nil, Nat.reduceAdd, Nat.reduceLeDiff, Nat.reduceLT, Nat.zero_add, Option.toList_some, Option.toList_none, List.cons_append, List.nil_append, rb_bi_eq0, rb_bi_ne0, rb_okv0, rb_okv1, rb_okvb, ln0, ln1, ln2, ln3, ln4, ln5, ln6, ln7, ln8, ln9, ln10, if_true, if_false, ite_not, Decidable.not_not, rb_u2_at, rb_u2_ne, e1, e2, e3, not_false_eq_true]
  by_cases h : a ≤ V 12 1 (15 + i)
  · simp only [if_pos h, wFine, rb_u2_at, rb_u2_ne, e1, e2, e3, not_false_eq_true]
  · simp only [if_neg h, wFine, rb_u2_at, rb_u2_ne, e1, e2, e3, not_false_eq_true]
end RBM
