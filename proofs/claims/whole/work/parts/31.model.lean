/-! THE REFERENCE'S ANSWERS, 2 -/
def wR0 (W : Nat → Nat → Int32) : Nat → Nat → Int32 := rb_u2 (rb_u2 (rb_u2 W 1 4 0) 1 5 0) 1 8 (-9)
def wRA (W : Nat → Nat → Int32) : Nat → Nat → Nat → Int32
  | 0 => W
  | j + 1 => rb_u2 (rb_u2 (rb_u2 (rb_u2 (wRA W j) 1 (31 + j) (-9)) 1 (39 + j) (-9)) 1 (47 + j) (-9)) 1 (55 + j) (-9)
def wRB (W : Nat → Nat → Int32) : Nat → Nat → Nat → Int32
  | 0 => W
  | j + 1 => rb_u2 (rb_u2 (wRB W j) 1 (71 + j) (-9)) 1 (135 + j) (-9)
def wRound (W : Nat → Nat → Int32) : Nat → Nat → Int32 := wRB (wRA (wR0 W) 8) 64
def wL0 (W : Nat → Nat → Int32) (x y : Int32) : Nat → Nat → Int32 := rb_u2 (rb_u2 (rb_u2 (rb_u2 (rb_u2 W 1 0 x) 1 1 y) 1 2 0) 1 3 0) 1 6 0
def wLA (W : Nat → Nat → Int32) : Nat → Nat → Nat → Int32
  | 0 => W
  | j + 1 => rb_u2 (rb_u2 (rb_u2 (wLA W j) 1 (15 + j) 20) 1 (23 + j) 1) 1 (63 + j) 0
def wLB (W : Nat → Nat → Int32) : Nat → Nat → Nat → Int32
  | 0 => W
  | j + 1 => rb_u2 (wLB W j) 1 (199 + j) (-9)
def wNew (W : Nat → Nat → Int32) (x y : Int32) : Nat → Nat → Int32 := wRound (wLB (wLA (wL0 W x y) 8) 30)
def wSh (W : Nat → Nat → Int32) : Nat → Nat → Nat → Int32
  | 0 => W
  | k + 1 => rb_u2 (wSh W k) 2 k (wSh W k 2 (k + 229))
def wCp (W : Nat → Nat → Int32) (p : Nat) : Nat → Nat → Nat → Int32
  | 0 => W
  | k + 1 => rb_u2 (wCp W p k) 2 (229 * p + k) (wCp W p k 1 k)
def wRem (W : Nat → Nat → Int32) (n : Nat) : Nat → Nat → Int32 := if n = 8 then rb_u2 (wCp (rb_u2 (wSh W 1603) 0 0 (nI 7)) 7 229) 0 0 (nI 8) else rb_u2 (wCp W n 229) 0 0 (nI (n + 1))
def wPayL (W : Nat → Nat → Int32) (q : Int32) : Nat → Nat → Nat → Int32
  | 0 => W
  | j + 1 => rb_u2 (wPayL W q j) 1 (15 + j) (wPayL W q j 1 (15 + j) + (if wPayL W q j 1 (47 + j) = -9 then 0 else q))
def wPayQ (W : Nat → Nat → Int32) (m : Nat) : Int32 := W 1 6 / wN W 47 m
def wPay (W : Nat → Nat → Int32) (m : Nat) : Nat → Nat → Int32 := if wN W 47 m = 0 then W else rb_u2 (wPayL W (wPayQ W m) m) 1 6 (wPayL W (wPayQ W m) m 1 6 - wN W 47 m * wPayQ W m)
def wHas (W : Nat → Nat → Int32) (i : Nat) : Prop := ¬ W 1 (31 + i) = -9 ∧ ¬ wKn W i = -9
def wOutN (W : Nat → Nat → Int32) (m : Nat) : Int32 := rb_sum (fun i => if W 1 (31 + i) = -9 then 0 else rb_bi (¬ wKn W i = -9)) m
def wOutL (W : Nat → Nat → Int32) (m : Nat) : Int32 := rb_sum (fun i => if W 1 (31 + i) = -9 then 0 else rb_bi (wKn W i = -9)) m
def wOutX (W : Nat → Nat → Int32) (m : Nat) : Int32 := rb_xor (fun i => if W 1 (31 + i) = -9 then 0 else if wKn W i = -9 then 0 else wKn W i) m
def wOut (W : Nat → Nat → Int32) (m : Nat) : Int32 := if wOutN W m = 0 ∨ (W 1 14 = 1 ∧ ¬ wOutL W m ≤ 0) then -9 else wOutX W m
def wShut (W : Nat → Nat → Int32) (m : Nat) : Nat → Nat → Int32 := rb_u2 (rb_u2 (wPay W m) 1 4 3) 1 8 (wOut (rb_u2 (wPay W m) 1 4 3) m)
def wFineS (W : Nat → Nat → Int32) : Nat → Nat → Nat → Int32
  | 0 => W
  | j + 1 => if ¬ wFineS W j 1 (31 + j) = -9 ∧ wFineS W j 1 (47 + j) = -9 then wFine (wFineS W j) j (wFineS W j 1 12) else wFineS W j
def wEnd (W : Nat → Nat → Int32) (m : Nat) : Nat → Nat → Int32 := if W 1 4 = 0 then rb_u2 (rb_u2 W 1 5 0) 1 4 (if 2 ≤ wN (rb_u2 W 1 5 0) 31 m then 1 else 3) else if W 1 4 = 1 then (if wN (wFineS (rb_u2 W 1 5 0) m) 47 m = wN (wFineS (rb_u2 W 1 5 0) m) 31 m then wShut (wFineS (rb_u2 W 1 5 0) m) m else rb_u2 (wFineS (rb_u2 W 1 5 0) m) 1 4 2) else wShut (rb_u2 W 1 5 0) m
def wTime (W : Nat → Nat → Int32) : Nat → Nat → Int32 := rb_u2 (rb_u2 W 1 2 (W 1 2 + 1)) 1 5 (W 1 5 + 1)
def wTick (W : Nat → Nat → Int32) (m ph : Nat) : Nat → Nat → Int32 := if ph = 3 then wTime W else if W 1 5 + 1 < W 1 (9 + ph) then wTime W else wEnd (wTime W) m
theorem wPayL_ne (W : Nat → Nat → Int32) (q : Int32) (k : Nat) (hk : k < 15 ∨ 23 ≤ k) : ∀ j, j ≤ 8 → wPayL W q j 1 k = W 1 k
  | 0, _ => rfl
  | j + 1, h => by unfold wPayL; rw [rb_u2_ne (by omega)]; exact wPayL_ne W q k hk j (by omega)
theorem wFine_ne (W : Nat → Nat → Int32) (i : Nat) (hi : i < 8) (a : Int32) (k : Nat) (hk : ¬ k = 6 ∧ (k < 15 ∨ (23 ≤ k ∧ k < 63) ∨ 71 ≤ k)) : wFine W i a 1 k = W 1 k := by
  unfold wFine
  rw [rb_u2_ne (by omega), rb_u2_ne (by omega), rb_u2_ne (by omega)]
theorem wFineS_ne (W : Nat → Nat → Int32) (k : Nat) (hk : ¬ k = 6 ∧ (k < 15 ∨ (23 ≤ k ∧ k < 63) ∨ 71 ≤ k)) : ∀ j, j ≤ 8 → wFineS W j 1 k = W 1 k
  | 0, _ => rfl
  | j + 1, h => by
    unfold wFineS
    by_cases h1 : ¬ wFineS W j 1 (31 + j) = -9 ∧ wFineS W j 1 (47 + j) = -9
    · rw [if_pos h1, wFine_ne _ j (by omega) _ k hk]; exact wFineS_ne W k hk j (by omega)
    · rw [if_neg h1]; exact wFineS_ne W k hk j (by omega)
theorem wPay_ne (W : Nat → Nat → Int32) (m : Nat) (hm8 : m ≤ 8) (k : Nat) (hk : (k < 15 ∨ 23 ≤ k) ∧ ¬ k = 6) : wPay W m 1 k = W 1 k := by
  unfold wPay
  by_cases h : wN W 47 m = 0
  · rw [if_pos h]
  · rw [if_neg h, rb_u2_ne hk.2, wPayL_ne _ _ _ hk.1 _ hm8]
theorem wTerms_1 (W : Nat → Nat → Int32) (s : Int32) (k : Nat) (hk : ¬ k = 7) : ∀ j, wTerms W s j 1 k = W 1 k
  | 0 => by unfold wTerms; rw [rb_u2_row (by decide)]
  | j + 1 => by unfold wTerms wDraw; rw [rb_u2_row (by decide), rb_u2_ne hk]; exact wTerms_1 W s k hk j
theorem wLay_1 (W : Nat → Nat → Int32) (o t : Nat) (k : Nat) (hk : k < 71) : ∀ j, wLay W o t j 1 k = W 1 k
  | 0 => rfl
  | j + 1 => by unfold wLay; rw [rb_u2_ne (by omega)]; exact wLay_1 W o t k hk j
theorem wLay_4 (W : Nat → Nat → Int32) (o t : Nat) : ∀ j, wLay W o t j 4 = W 4
  | 0 => rfl
  | j + 1 => by unfold wLay; rw [rb_u2_row (by decide)]; exact wLay_4 W o t j
section RBM
variable {V : rb_V} {P : Option Value → rb_M → Prop} {i j o m t n : Nat} {x y z : Int32}
theorem n_layRound : rb_G none 99 0 [some (.ref 281), none] [] (rb_W V) P ↔ P none (rb_W (rb_sg V 12 (wRound (V 12)))) := by
  obtain ⟨N, hN⟩ : ∃ N : Nat, N = 8 := ⟨8, rfl⟩
  obtain ⟨K, hK⟩ : ∃ K : Nat, K = 64 := ⟨64, rfl⟩
  have h3 : (8 : Int32) ≤ nI N := nI_le (a := 8) (by omega) (by omega)
  have h4 : (64 : Int32) ≤ nI K := nI_le (a := 64) (by omega) (by omega)
  simp only [r99_0, r99_1, r99_4, r99_5, r99_6, r99_7, r99_8, r99_11, r99_12, r99_13, r99_14, r99_15, r99_18, r99_20, r99_22, r99_23, r99_24, r17, lm1, lm2, lm3, lm4, lm5, lm6, ib0, ib1, ib2, ib3, ib4, ib5, ib6, ib7, ib8, ib9, ib10, ib11, ib12, ib13, ib14, tn0, tn1, tn2, tn3, tn4, tn5, tn6, tn7, tn8, tn9, tn10, tn11, tn12, tn13, tn14, ibt0, ca9, in9, cl9, ca15, in15, cl15, ca23, in23, cl23, ca31, in31, cl31, ca39, in39, cl39, ca47, in47, cl47, ca55, in55, cl55, ca63, in63, cl63, ca199, in199, cl199, ca71, in71, cl71, ca135, in135, cl135, cm8, ine8, cle8, nI_add, rb_sg_self, rb_sg_sg, List.length_cons, List.length_nil, Nat.reduceAdd, Nat.reduceLeDiff, Nat.reduceLT, Nat.zero_add, Option.toList_some, Option.toList_none, List.cons_append, List.nil_append, rb_bi_eq0, rb_bi_ne0, rb_okv0, rb_okv1, rb_okvb, ln0, ln1, ln2, ln3, ln4, ln5, ln6, ln7, ln8, ln9, ln10, if_true, if_false, ite_not, Decidable.not_not]
  have key := rb_loop (Q := fun j => rb_G none 99 25 [some (.ref 281), some (.int (nI j))] [] (rb_W (rb_sg V 12 (wRA (wR0 (V 12)) j))) P) N (fun j hj => by
    have h2 : ¬ (8 : Int32) ≤ nI j := nI_ge (b := 8) (by omega) (by omega)
    have hj8 : j < 8 := by omega
    show rb_G none 99 25 _ _ _ _ ↔ _
    rw [r99_25]
    simp only [r99_26, r99_28, r99_31, r99_32, r99_35, r99_37, r99_38, r99_39, r99_41, r99_42, r99_43, r99_46, r99_48, r99_49, r99_50, r99_52, r99_53, r99_54, r99_57, r99_59, r99_60, r99_61, r99_63, r99_64, r99_65, r99_68, r99_70, r99_71, r99_72, r99_74, r99_75, r99_78, hj8, h2, r17, lm1, lm2, lm3, lm4, lm5, lm6, ib0, ib1, ib2, ib3, ib4, ib5, ib6, ib7, ib8, ib9, ib10, ib11, ib12, ib13, ib14, tn0, tn1, tn2, tn3, tn4, tn5, tn6, tn7, tn8, tn9, tn10, tn11, tn12, tn13, tn14, ibt0, ca9, in9, cl9, ca15, in15, cl15, ca23, in23, cl23, ca31, in31, cl31, ca39, in39, cl39, ca47, in47, cl47, ca55, in55, cl55, ca63, in63, cl63, ca199, in199, cl199, ca71, in71, cl71, ca135, in135, cl135, cm8, ine8, cle8, nI_add, rb_sg_self, rb_sg_sg, List.length_cons, List.length_nil, Nat.reduceAdd, Nat.reduceLeDiff, Nat.reduceLT, Nat.zero_add, Option.toList_some, Option.toList_none, List.cons_append, List.nil_append, rb_bi_eq0, rb_bi_ne0, rb_okv0, rb_okv1, rb_okvb, ln0, ln1, ln2, ln3, ln4, ln5, ln6, ln7, ln8, ln9, ln10, if_true, if_false, ite_not, Decidable.not_not, nI_1, wRA])
  simp only [nI_0, wRA, wR0] at key
  rw [key]
  simp only [r99_25, r99_26, r99_28, r99_81, r99_82, h3, rb_sg_self, rb_sg_sg, List.length_cons, List.length_nil, Nat.reduceAdd, Nat.reduceLeDiff, Nat.reduceLT, Nat.zero_add, Option.toList_some, Option.toList_none, List.cons_append, List.nil_append, rb_bi_eq0, rb_bi_ne0, rb_okv0, rb_okv1, rb_okvb, ln0, ln1, ln2, ln3, ln4, ln5, ln6, ln7, ln8, ln9, ln10, if_true, if_false, ite_not, Decidable.not_not]
  have key2 := rb_loop (Q := fun j => rb_G none 99 83 [some (.ref 281), some (.int (nI j))] [] (rb_W (rb_sg V 12 (wRB (wRA (wR0 (V 12)) N) j))) P) K (fun j hj => by
    have h2 : ¬ (64 : Int32) ≤ nI j := nI_ge (b := 64) (by omega) (by omega)
    have hj8 : j < 64 := by omega
    show rb_G none 99 83 _ _ _ _ ↔ _
    rw [r99_83]
    simp only [r99_84, r99_86, r99_89, r99_90, r99_93, r99_95, r99_96, r99_97, r99_99, r99_100, r99_101, r99_104, r99_107, r99_108, r99_109, r99_111, r99_112, r99_115, hj8, h2, r17, in71s, cl71s, in135s, cl135s, lm1, lm2, lm3, lm4, lm5, lm6, ib0, ib1, ib2, ib3, ib4, ib5, ib6, ib7, ib8, ib9, ib10, ib11, ib12, ib13, ib14, tn0, tn1, tn2, tn3, tn4, tn5, tn6, tn7, tn8, tn9, tn10, tn11, tn12, tn13, tn14, ibt0, ca9, in9, cl9, ca15, in15, cl15, ca23, in23, cl23, ca31, in31, cl31, ca39, in39, cl39, ca47, in47, cl47, ca55, in55, cl55, ca63, in63, cl63, ca199, in199, cl199, ca71, in71, cl71, ca135, in135, cl135, cm8, ine8, cle8, nI_add, rb_sg_self, rb_sg_sg, List.length_cons, List.length_nil, Nat.reduceAdd, Nat.reduceLeDiff, Nat.reduceLT, Nat.zero_add, Option.toList_some, Option.toList_none, List.cons_append, List.nil_append, rb_bi_eq0, rb_bi_ne0, rb_okv0, rb_okv1, rb_okvb, ln0, ln1, ln2, ln3, ln4, ln5, ln6, ln7, ln8, ln9, ln10, if_true, if_false, ite_not, Decidable.not_not, nI_1, wRB])
  simp only [nI_0, wRB, wR0] at key2
  rw [key2]
  simp only [r99_83, r99_84, r99_86, r99_118, h4, rb_sg_self, rb_sg_sg, List.length_cons, List.length_nil, Nat.reduceAdd, Nat.reduceLeDiff, Nat.reduceLT, Nat.zero_add, Option.toList_some, Option.toList_none, List.cons_append, List.nil_append, rb_bi_eq0, rb_bi_ne0, rb_okv0, rb_okv1, rb_okvb, ln0, ln1, ln2, ln3, ln4, ln5, ln6, ln7, ln8, ln9, ln10, if_true, if_false, ite_not, Decidable.not_not]
  unfold wRound wR0
  rw [hN, hK]
theorem n_lay : rb_G none 98 0 [some (.ref 281), some (.int x), some (.int y), none] [] (rb_W V) P ↔ P none (rb_W (rb_sg V 12 (wNew (V 12) x y))) := by
  obtain ⟨N, hN⟩ : ∃ N : Nat, N = 8 := ⟨8, rfl⟩
  obtain ⟨K, hK⟩ : ∃ K : Nat, K = 30 := ⟨30, rfl⟩
  have h3 : (8 : Int32) ≤ nI N := nI_le (a := 8) (by omega) (by omega)
  have h4 : (30 : Int32) ≤ nI K := nI_le (a := 30) (by omega) (by omega)
  simp only [r98_0, r98_1, r98_4, r98_5, r98_6, r98_7, r98_8, r98_11, r98_12, r98_13, r98_14, r98_15, r98_18, r98_19, r98_20, r98_21, r98_22, r98_25, r98_26, r98_27, r98_28, r98_29, r98_32, r98_34, r98_35, r98_36, r98_37, r17, lm1, lm2, lm3, lm4, lm5, lm6, ib0, ib1, ib2, ib3, ib4, ib5, ib6, ib7, ib8, ib9, ib10, ib11, ib12, ib13, ib14, tn0, tn1, tn2, tn3, tn4, tn5, tn6, tn7, tn8, tn9, tn10, tn11, tn12, tn13, tn14, ibt0, ca9, in9, cl9, ca15, in15, cl15, ca23, in23, cl23, ca31, in31, cl31, ca39, in39, cl39, ca47, in47, cl47, ca55, in55, cl55, ca63, in63, cl63, ca199, in199, cl199, ca71, in71, cl71, ca135, in135, cl135, cm8, ine8, cle8, nI_add, rb_sg_self, rb_sg_sg, List.length_cons, List.length_nil, Nat.reduceAdd, Nat.reduceLeDiff, Nat.reduceLT, Nat.zero_add, Option.toList_some, Option.toList_none, List.cons_append, List.nil_append, rb_bi_eq0, rb_bi_ne0, rb_okv0, rb_okv1, rb_okvb, ln0, ln1, ln2, ln3, ln4, ln5, ln6, ln7, ln8, ln9, ln10, if_true, if_false, ite_not, Decidable.not_not]
  have key := rb_loop (Q := fun j => rb_G none 98 38 [some (.ref 281), some (.int x), some (.int y), some (.int (nI j))] [] (rb_W (rb_sg V 12 (wLA (wL0 (V 12) x y) j))) P) N (fun j hj => by
    have h2 : ¬ (8 : Int32) ≤ nI j := nI_ge (b := 8) (by omega) (by omega)
    have hj8 : j < 8 := by omega
    show rb_G none 98 38 _ _ _ _ ↔ _
    rw [r98_38]
    simp only [r98_39, r98_41, r98_44, r98_45, r98_48, r98_50, r98_51, r98_52, r98_54, r98_55, r98_56, r98_59, r98_61, r98_62, r98_63, r98_64, r98_65, r98_66, r98_69, r98_71, r98_72, r98_73, r98_74, r98_75, r98_78, hj8, h2, r17, lm1, lm2, lm3, lm4, lm5, lm6, ib0, ib1, ib2, ib3, ib4, ib5, ib6, ib7, ib8, ib9, ib10, ib11, ib12, ib13, ib14, tn0, tn1, tn2, tn3, tn4, tn5, tn6, tn7, tn8, tn9, tn10, tn11, tn12, tn13, tn14, ibt0, ca9, in9, cl9, ca15, in15, cl15, ca23, in23, cl23, ca31, in31, cl31, ca39, in39, cl39, ca47, in47, cl47, ca55, in55, cl55, ca63, in63, cl63, ca199, in199, cl199, ca71, in71, cl71, ca135, in135, cl135, cm8, ine8, cle8, nI_add, rb_sg_self, rb_sg_sg, List.length_cons, List.length_nil, Nat.reduceAdd, Nat.reduceLeDiff, Nat.reduceLT, Nat.zero_add, Option.toList_some, Option.toList_none, List.cons_append, List.nil_append, rb_bi_eq0, rb_bi_ne0, rb_okv0, rb_okv1, rb_okvb, ln0, ln1, ln2, ln3, ln4, ln5, ln6, ln7, ln8, ln9, ln10, if_true, if_false, ite_not, Decidable.not_not, nI_1, wLA])
  simp only [nI_0, wLA, wL0] at key
  rw [key]
  simp only [r98_38, r98_39, r98_41, r98_81, r98_82, h3, rb_sg_self, rb_sg_sg, List.length_cons, List.length_nil, Nat.reduceAdd, Nat.reduceLeDiff, Nat.reduceLT, Nat.zero_add, Option.toList_some, Option.toList_none, List.cons_append, List.nil_append, rb_bi_eq0, rb_bi_ne0, rb_okv0, rb_okv1, rb_okvb, ln0, ln1, ln2, ln3, ln4, ln5, ln6, ln7, ln8, ln9, ln10, if_true, if_false, ite_not, Decidable.not_not]
  have key2 := rb_loop (Q := fun j => rb_G none 98 83 [some (.ref 281), some (.int x), some (.int y), some (.int (nI j))] [] (rb_W (rb_sg V 12 (wLB (wLA (wL0 (V 12) x y) N) j))) P) K (fun j hj => by
    have h2 : ¬ (30 : Int32) ≤ nI j := nI_ge (b := 30) (by omega) (by omega)
    have hj8 : j < 30 := by omega
    show rb_G none 98 83 _ _ _ _ ↔ _
    rw [r98_83]
    simp only [r98_84, r98_86, r98_89, r98_90, r98_93, r98_96, r98_97, r98_98, r98_100, r98_101, r98_104, hj8, h2, r17, lm1, lm2, lm3, lm4, lm5, lm6, ib0, ib1, ib2, ib3, ib4, ib5, ib6, ib7, ib8, ib9, ib10, ib11, ib12, ib13, ib14, tn0, tn1, tn2, tn3, tn4, tn5, tn6, tn7, tn8, tn9, tn10, tn11, tn12, tn13, tn14, ibt0, ca9, in9, cl9, ca15, in15, cl15, ca23, in23, cl23, ca31, in31, cl31, ca39, in39, cl39, ca47, in47, cl47, ca55, in55, cl55, ca63, in63, cl63, ca199, in199, cl199, ca71, in71, cl71, ca135, in135, cl135, cm8, ine8, cle8, nI_add, rb_sg_self, rb_sg_sg, List.length_cons, List.length_nil, Nat.reduceAdd, Nat.reduceLeDiff, Nat.reduceLT, Nat.zero_add, Option.toList_some, Option.toList_none, List.cons_append, List.nil_append, rb_bi_eq0, rb_bi_ne0, rb_okv0, rb_okv1, rb_okvb, ln0, ln1, ln2, ln3, ln4, ln5, ln6, ln7, ln8, ln9, ln10, if_true, if_false, ite_not, Decidable.not_not, nI_1, wLB])
  simp only [nI_0, wLB, wL0] at key2
  rw [key2]
  simp only [r98_83, r98_84, r98_86, r98_107, r98_108, r98_111, n_layRound, h4, rb_sg_self, rb_sg_sg, List.length_cons, List.length_nil, Nat.reduceAdd, Nat.reduceLeDiff, Nat.reduceLT, Nat.zero_add, Option.toList_some, Option.toList_none, List.cons_append, List.nil_append, rb_bi_eq0, rb_bi_ne0, rb_okv0, rb_okv1, rb_okvb, ln0, ln1, ln2, ln3, ln4, ln5, ln6, ln7, ln8, ln9, ln10, if_true, if_false, ite_not, Decidable.not_not]
  unfold wNew wL0
  rw [hN, hK]
theorem wCp_1 (W : Nat → Nat → Int32) (p r : Nat) (hr : ¬ r = 2) : ∀ k, wCp W p k r = W r
  | 0 => rfl
  | k + 1 => by unfold wCp; rw [rb_u2_row hr]; exact wCp_1 W p r hr k
theorem wSh_1 (W : Nat → Nat → Int32) (r : Nat) (hr : ¬ r = 2) : ∀ k, wSh W k r = W r
  | 0 => rfl
  | k + 1 => by unfold wSh; rw [rb_u2_row hr]; exact wSh_1 W r hr k
theorem rb_229 {p k : Nat} : (229 : Int32) * nI p + nI k = nI (229 * p + k) := by
  show Int32.ofNat 229 * Int32.ofNat p + Int32.ofNat k = Int32.ofNat (229 * p + k)
  rw [← Int32.ofNat_mul, ← Int32.ofNat_add]
theorem n_copyW {p : Nat} {z' : Option Value} (hp : V 12 0 0 = nI p) (hp8 : p < 8) : rb_G none 102 50 [some (.ref 281), z'] [] (rb_W V) P ↔ P none (rb_W (rb_sg V 12 (rb_u2 (wCp (V 12) p 229) 0 0 (nI (p + 1))))) := by
  obtain ⟨N, hN⟩ : ∃ N : Nat, N = 229 := ⟨229, rfl⟩
  have h3 : (229 : Int32) ≤ nI N := nI_le (a := 229) (by omega) (by omega)
  simp only [r102_50, r102_51, rb_sg_self, rb_sg_sg, List.length_cons, List.length_nil, Nat.reduceAdd, Nat.reduceLeDiff, Nat.reduceLT, Nat.zero_add, Option.toList_some, Option.toList_none, List.cons_append, List.nil_append, rb_bi_eq0, rb_bi_ne0, rb_okv0, rb_okv1, rb_okvb, ln0, ln1, ln2, ln3, ln4, ln5, ln6, ln7, ln8, ln9, ln10, if_true, if_false, ite_not, Decidable.not_not]
  have key := rb_loop (Q := fun j => rb_G none 102 52 [some (.ref 281), some (.int (nI j))] [] (rb_W (rb_sg V 12 (wCp (V 12) p j))) P) N (fun j hj => by
    have h2 : ¬ (229 : Int32) ≤ nI j := nI_ge (b := 229) (by omega) (by omega)
    have e0 : wCp (V 12) p j 0 0 = nI p := by rw [wCp_1 _ _ _ (by decide), hp]
    have a1 : rb_inb (nI (229 * p + j)) 1832 = true := rb_ib (by omega) (by decide)
    have a2 : (nI (229 * p + j)).toNatClampNeg = 229 * p + j := nI_clamp (by omega)
    have a3 : rb_inb (nI j) 229 = true := rb_ib (by omega) (by decide)
    have a4 : (nI j).toNatClampNeg = j := nI_clamp (by omega)
    show rb_G none 102 52 _ _ _ _ ↔ _
    rw [r102_52]
    simp only [r102_53, r102_56, r102_59, r102_60, r102_63, r102_66, r102_67, r102_70, r102_71, r102_72, r102_73, r102_74, r102_77, r102_78, r102_79, r102_80, r102_83, e0, rb_229, a1, a2, a3, a4, h2, r17, r27, lm1, lm2, lm3, lm4, lm5, lm6, ib0, ib1, ib2, ib3, ib4, ib5, ib6, ib7, ib8, ib9, ib10, ib11, ib12, ib13, ib14, tn0, tn1, tn2, tn3, tn4, tn5, tn6, tn7, tn8, tn9, tn10, tn11, tn12, tn13, tn14, ibt0, ca9, in9, cl9, ca15, in15, cl15, ca23, in23, cl23, ca31, in31, cl31, ca39, in39, cl39, ca47, in47, cl47, ca55, in55, cl55, ca63, in63, cl63, ca199, in199, cl199, ca71, in71, cl71, ca135, in135, cl135, cm8, ine8, cle8, nI_add, rb_sg_self, rb_sg_sg, List.length_cons, List.length_nil, Nat.reduceAdd, Nat.reduceLeDiff, Nat.reduceLT, Nat.zero_add, Option.toList_some, Option.toList_none, List.cons_append, List.nil_append, rb_bi_eq0, rb_bi_ne0, rb_okv0, rb_okv1, rb_okvb, ln0, ln1, ln2, ln3, ln4, ln5, ln6, ln7, ln8, ln9, ln10, if_true, if_false, ite_not, Decidable.not_not, nI_1, wCp])
  simp only [nI_0, wCp, rb_sg_id] at key
  rw [key]
  have e0 : wCp (V 12) p N 0 0 = nI p := by rw [wCp_1 _ _ _ (by decide), hp]
  simp only [r102_52, r102_53, r102_56, r102_86, r102_87a, r102_87i, r102_88, r102_91, r102_92, r102_93, r102_96, h3, e0, rb_sg_self, rb_sg_sg, List.length_cons, List.length_nil, Nat.reduceAdd, Nat.reduceLeDiff, Nat.reduceLT, Nat.zero_add, Option.toList_some, Option.toList_none, List.cons_append, List.nil_append, rb_bi_eq0, rb_bi_ne0, rb_okv0, rb_okv1, rb_okvb, ln0, ln1, ln2, ln3, ln4, ln5, ln6, ln7, ln8, ln9, ln10, if_true, if_false, ite_not, Decidable.not_not, nI_1]
  rw [hN]
theorem n_remember (hn : V 12 0 0 = nI n) (hn8 : n ≤ 8) : rb_G none 102 0 [some (.ref 281), none] [] (rb_W V) P ↔ P none (rb_W (rb_sg V 12 (wRem (V 12) n))) := by
  have e8 : (nI n = 8) ↔ n = 8 := nI_eq (b := 8) (by omega) (by omega)
  by_cases h : n = 8
  · obtain ⟨N, hN⟩ : ∃ N : Nat, N = 1603 := ⟨1603, rfl⟩
    have h3 : (1603 : Int32) ≤ nI N := nI_le (a := 1603) (by omega) (by omega)
    have h8 : nI n = 8 := e8.mpr h
    simp only [r102_0, r102_1, r102_4, r102_6, r102_9, r102_10, hn, h8, rb_sg_self, rb_sg_sg, List.length_cons, List.length_nil, Nat.reduceAdd, Nat.reduceLeDiff, Nat.reduceLT, Nat.zero_add, Option.toList_some, Option.toList_none, List.cons_append, List.nil_append, rb_bi_eq0, rb_bi_ne0, rb_okv0, rb_okv1, rb_okvb, ln0, ln1, ln2, ln3, ln4, ln5, ln6, ln7, ln8, ln9, ln10, if_true, if_false, ite_not, Decidable.not_not]
    have key := rb_loop (Q := fun j => rb_G none 102 11 [some (.ref 281), some (.int (nI j))] [] (rb_W (rb_sg V 12 (wSh (V 12) j))) P) N (fun j hj => by
      have h2 : ¬ (1603 : Int32) ≤ nI j := nI_ge (b := 1603) (by omega) (by omega)
      have a0 : nI j + 229 = nI (j + 229) := (nI_add j 229)
      have a1 : rb_inb (nI (j + 229)) 1832 = true := rb_ib (by omega) (by decide)
      have a2 : (nI (j + 229)).toNatClampNeg = j + 229 := nI_clamp (by omega)
      have a3 : rb_inb (nI j) 1832 = true := rb_ib (by omega) (by decide)
      have a4 : (nI j).toNatClampNeg = j := nI_clamp (by omega)
      show rb_G none 102 11 _ _ _ _ ↔ _
      rw [r102_11]
      simp only [r102_12, r102_15, r102_18, r102_19, r102_22, r102_23, r102_24, r102_27, r102_28, r102_31, r102_32, r102_33, r102_34, r102_37, a0, a1, a2, a3, a4, h2, r17, r27, lm1, lm2, lm3, lm4, lm5, lm6, ib0, ib1, ib2, ib3, ib4, ib5, ib6, ib7, ib8, ib9, ib10, ib11, ib12, ib13, ib14, tn0, tn1, tn2, tn3, tn4, tn5, tn6, tn7, tn8, tn9, tn10, tn11, tn12, tn13, tn14, ibt0, ca9, in9, cl9, ca15, in15, cl15, ca23, in23, cl23, ca31, in31, cl31, ca39, in39, cl39, ca47, in47, cl47, ca55, in55, cl55, ca63, in63, cl63, ca199, in199, cl199, ca71, in71, cl71, ca135, in135, cl135, cm8, ine8, cle8, nI_add, rb_sg_self, rb_sg_sg, List.length_cons, List.length_nil, Nat.reduceAdd, Nat.reduceLeDiff, Nat.reduceLT, Nat.zero_add, Option.toList_some, Option.toList_none, List.cons_append, List.nil_append, rb_bi_eq0, rb_bi_ne0, rb_okv0, rb_okv1, rb_okvb, ln0, ln1, ln2, ln3, ln4, ln5, ln6, ln7, ln8, ln9, ln10, if_true, if_false, ite_not, Decidable.not_not, nI_1, wSh])
    simp only [nI_0, wSh, rb_sg_id] at key
    rw [key]
    have e0 : wSh (V 12) N 0 0 = 8 := by rw [wSh_1 _ _ (by decide), hn, h]; decide +kernel
    have e7 : (8 : Int32) - 1 = nI 7 := by decide +kernel
    simp only [r102_11, r102_12, r102_15, r102_40, r102_41a, r102_41i, r102_42, r102_45, r102_46, r102_47, h3, e0, e7, rb_sg_self, rb_sg_sg, List.length_cons, List.length_nil, Nat.reduceAdd, Nat.reduceLeDiff, Nat.reduceLT, Nat.zero_add, Option.toList_some, Option.toList_none, List.cons_append, List.nil_append, rb_bi_eq0, rb_bi_ne0, rb_okv0, rb_okv1, rb_okvb, ln0, ln1, ln2, ln3, ln4, ln5, ln6, ln7, ln8, ln9, ln10, if_true, if_false, ite_not, Decidable.not_not]
    rw [n_copyW (p := 7) (by rw [rb_sg_self, rb_u2_at]) (by decide)]
    simp only [rb_sg_self, rb_sg_sg, List.length_cons, List.length_nil, Nat.reduceAdd, Nat.reduceLeDiff, Nat.reduceLT, Nat.zero_add, Option.toList_some, Option.toList_none, List.cons_append, List.nil_append, rb_bi_eq0, rb_bi_ne0, rb_okv0, rb_okv1, rb_okvb, ln0, ln1, ln2, ln3, ln4, ln5, ln6, ln7, ln8, ln9, ln10, if_true, if_false, ite_not, Decidable.not_not, wRem, hN, h]
  · have hne : ¬ nI n = 8 := fun q => h (e8.mp q)
    simp only [r102_0, r102_1, r102_4, r102_6, hn, hne, rb_sg_self, rb_sg_sg, List.length_cons, List.length_nil, Nat.reduceAdd, Nat.reduceLeDiff, Nat.reduceLT, Nat.zero_add, Option.toList_some, Option.toList_none, List.cons_append, List.nil_append, rb_bi_eq0, rb_bi_ne0, rb_okv0, rb_okv1, rb_okvb, ln0, ln1, ln2, ln3, ln4, ln5, ln6, ln7, ln8, ln9, ln10, if_true, if_false, ite_not, Decidable.not_not]
    rw [n_copyW hn (by omega), wRem, if_neg h]
theorem n_put {p : Nat} (hn : V 12 0 0 = nI n) (hn8 : n ≤ 8) (hp : p < 229) : rb_G none 105 0 [some (.ref 281), some (.int (nI p)), some (.int y), none] [] (rb_W V) P ↔ P (some (.int (wRem (V 12) n 1 p))) (rb_W (rb_sg V 12 (rb_u2 (wRem (V 12) n) 1 p y))) := by
  have a1 : rb_inb (nI p) 229 = true := rb_ib hp (by decide)
  have a2 : (nI p).toNatClampNeg = p := nI_clamp (by omega)
  simp only [r105_0, r105_1, r105_4, r105_5, r105_8, r105_9, r105_10, r105_11, r105_12, r105_15, r105_16, r105_17, r105_18, r105_19, n_remember hn hn8, a1, a2, r17, lm1, lm2, lm3, lm4, lm5, lm6, ib0, ib1, ib2, ib3, ib4, ib5, ib6, ib7, ib8, ib9, ib10, ib11, ib12, ib13, ib14, tn0, tn1, tn2, tn3, tn4, tn5, tn6, tn7, tn8, tn9, tn10, tn11, tn12, tn13, tn14, ibt0, ca9, in9, cl9, ca15, in15, cl15, ca23, in23, cl23, ca31, in31, cl31, ca39, in39, cl39, ca47, in47, cl47, ca55, in55, cl55, ca63, in63, cl63, ca199, in199, cl199, ca71, in71, cl71, ca135, in135, cl135, cm8, ine8, cle8, nI_add, rb_sg_self, rb_sg_sg, List.length_cons, List.length_nil, Nat.reduceAdd, Nat.reduceLeDiff, Nat.reduceLT, Nat.zero_add, Option.toList_some, Option.toList_none, List.cons_append, List.nil_append, rb_bi_eq0, rb_bi_ne0, rb_okv0, rb_okv1, rb_okvb, ln0, ln1, ln2, ln3, ln4, ln5, ln6, ln7, ln8, ln9, ln10, if_true, if_false, ite_not, Decidable.not_not]
theorem n_layShares {s : Int32} (ho : o < 8) (hm : V 12 1 0 = nI m) (hm8 : m ≤ 8) (ht : V 12 1 1 = nI t) (ht1 : 1 ≤ t) (ht8 : t ≤ 8) : rb_G none 115 0 [some (.ref 281), some (.int (nI o)), some (.int s), none, none, none] [] (rb_W V) P ↔ P none (rb_W (rb_sg V 12 (wLayS (V 12) o s m t))) := by
  have h257 : ¬ (257 : Int32) = 0 := by decide
  simp only [r115_0, r115_1, r115_4, r115_5, r115_6, r115_7, r115_8, r47, lm1, lm2, lm3, lm4, lm5, lm6, ib0, ib1, ib2, ib3, ib4, ib5, ib6, ib7, ib8, ib9, ib10, ib11, ib12, ib13, ib14, tn0, tn1, tn2, tn3, tn4, tn5, tn6, tn7, tn8, tn9, tn10, tn11, tn12, tn13, tn14, ibt0, ca9, in9, cl9, ca15, in15, cl15, ca23, in23, cl23, ca31, in31, cl31, ca39, in39, cl39, ca47, in47, cl47, ca55, in55, cl55, ca63, in63, cl63, ca199, in199, cl199, ca71, in71, cl71, ca135, in135, cl135, cm8, ine8, cle8, nI_add, rb_sg_self, rb_sg_sg, List.length_cons, List.length_nil, Nat.reduceAdd, Nat.reduceLeDiff, Nat.reduceLT, Nat.zero_add, Option.toList_some, Option.toList_none, List.cons_append, List.nil_append, rb_bi_eq0, rb_bi_ne0, rb_okv0, rb_okv1, rb_okvb, ln0, ln1, ln2, ln3, ln4, ln5, ln6, ln7, ln8, ln9, ln10, if_true, if_false, ite_not, Decidable.not_not]
  have key := rb_loop (Q := fun j => rb_G none 115 9 [some (.ref 281), some (.int (nI o)), some (.int s), some (.int (nI (1 + j))), none, none] [] (rb_W (rb_sg V 12 (wTerms (V 12) s j))) P) (t - 1) (fun j hj => by
    have h2 : ¬ nI t ≤ nI (1 + j) := nI_ge (by omega) (by omega)
    have hj8 : j < 8 := by omega
    have e1 : wTerms (V 12) s j 1 1 = nI t := by rw [wTerms_1 _ _ _ (by decide), ht]
    have a1 : rb_inb (nI (1 + j)) 8 = true := rb_ib (by omega) (by decide)
    have a2 : (nI (1 + j)).toNatClampNeg = 1 + j := nI_clamp (by omega)
    have a3 : 1 + j = j + 1 := by omega
    show rb_G none 115 9 _ _ _ _ ↔ _
    rw [r115_9]
    simp only [r115_10, r115_11, r115_14, r115_15, r115_16, r115_19, r115_20, r115_23, r115_24, r115_25, r115_28, r115_31, r115_32, r115_35, n_draw, e1, a1, a2, h2, r17, r47, lm1, lm2, lm3, lm4, lm5, lm6, ib0, ib1, ib2, ib3, ib4, ib5, ib6, ib7, ib8, ib9, ib10, ib11, ib12, ib13, ib14, tn0, tn1, tn2, tn3, tn4, tn5, tn6, tn7, tn8, tn9, tn10, tn11, tn12, tn13, tn14, ibt0, ca9, in9, cl9, ca15, in15, cl15, ca23, in23, cl23, ca31, in31, cl31, ca39, in39, cl39, ca47, in47, cl47, ca55, in55, cl55, ca63, in63, cl63, ca199, in199, cl199, ca71, in71, cl71, ca135, in135, cl135, cm8, ine8, cle8, nI_add, rb_sg_self, rb_sg_sg, List.length_cons, List.length_nil, Nat.reduceAdd, Nat.reduceLeDiff, Nat.reduceLT, Nat.zero_add, Option.toList_some, Option.toList_none, List.cons_append, List.nil_append, rb_bi_eq0, rb_bi_ne0, rb_okv0, rb_okv1, rb_okvb, ln0, ln1, ln2, ln3, ln4, ln5, ln6, ln7, ln8, ln9, ln10, if_true, if_false, ite_not, Decidable.not_not, nI_1, wTerms]
    rw [show 1 + (j + 1) = 1 + j + 1 from rfl, a3])
  have e10 : (1 : Int32) = nI (1 + 0) := rfl
  rw [wTerms, ← e10] at key
  rw [key]
  have h4 : nI t ≤ nI (1 + (t - 1)) := nI_le (by omega) (by omega)
  have e1 : wTerms (V 12) s (t - 1) 1 1 = nI t := by rw [wTerms_1 _ _ _ (by decide), ht]
  simp only [r115_9, r115_10, r115_11, r115_14, r115_15, r115_16, r115_38, r115_39, e1, h4, r17, lm1, lm2, lm3, lm4, lm5, lm6, ib0, ib1, ib2, ib3, ib4, ib5, ib6, ib7, ib8, ib9, ib10, ib11, ib12, ib13, ib14, tn0, tn1, tn2, tn3, tn4, tn5, tn6, tn7, tn8, tn9, tn10, tn11, tn12, tn13, tn14, ibt0, ca9, in9, cl9, ca15, in15, cl15, ca23, in23, cl23, ca31, in31, cl31, ca39, in39, cl39, ca47, in47, cl47, ca55, in55, cl55, ca63, in63, cl63, ca199, in199, cl199, ca71, in71, cl71, ca135, in135, cl135, cm8, ine8, cle8, nI_add, rb_sg_self, rb_sg_sg, List.length_cons, List.length_nil, Nat.reduceAdd, Nat.reduceLeDiff, Nat.reduceLT, Nat.zero_add, Option.toList_some, Option.toList_none, List.cons_append, List.nil_append, rb_bi_eq0, rb_bi_ne0, rb_okv0, rb_okv1, rb_okvb, ln0, ln1, ln2, ln3, ln4, ln5, ln6, ln7, ln8, ln9, ln10, if_true, if_false, ite_not, Decidable.not_not]
  obtain ⟨X, hX⟩ : ∃ X, X = wTerms (V 12) s (t - 1) := ⟨_, rfl⟩
  have x0 : X 1 0 = nI m := by rw [hX, wTerms_1 _ _ _ (by decide), hm]
  have x1 : X 1 1 = nI t := by rw [hX, wTerms_1 _ _ _ (by decide), ht]
  have eL : wLayS (V 12) o s m t = wLay X o t m := by rw [hX]; rfl
  rw [eL, ← hX]
  have key2 := rb_loopR (α := Option Value × Option Value) (Q := fun j a => rb_G none 115 40 [some (.ref 281), some (.int (nI o)), some (.int s), some (.int (nI j)), a.1, a.2] [] (rb_W (rb_sg V 12 (wLay X o t j))) P) (R := P none (rb_W (rb_sg V 12 (wLay X o t m)))) m (fun a => by
    have h3 : nI m ≤ nI m := nI_le (Nat.le_refl m) (by omega)
    have e2 : wLay X o t m 1 0 = nI m := by rw [wLay_1 _ _ _ _ (by decide), x0]
    show rb_G none 115 40 _ _ _ _ ↔ _
    simp only [r115_40, r115_41, r115_42, r115_45, r115_46, r115_47, r115_120, h3, e2, r17, lm1, lm2, lm3, lm4, lm5, lm6, ib0, ib1, ib2, ib3, ib4, ib5, ib6, ib7, ib8, ib9, ib10, ib11, ib12, ib13, ib14, tn0, tn1, tn2, tn3, tn4, tn5, tn6, tn7, tn8, tn9, tn10, tn11, tn12, tn13, tn14, ibt0, ca9, in9, cl9, ca15, in15, cl15, ca23, in23, cl23, ca31, in31, cl31, ca39, in39, cl39, ca47, in47, cl47, ca55, in55, cl55, ca63, in63, cl63, ca199, in199, cl199, ca71, in71, cl71, ca135, in135, cl135, cm8, ine8, cle8, nI_add, rb_sg_self, rb_sg_sg, List.length_cons, List.length_nil, Nat.reduceAdd, Nat.reduceLeDiff, Nat.reduceLT, Nat.zero_add, Option.toList_some, Option.toList_none, List.cons_append, List.nil_append, rb_bi_eq0, rb_bi_ne0, rb_okv0, rb_okv1, rb_okvb, ln0, ln1, ln2, ln3, ln4, ln5, ln6, ln7, ln8, ln9, ln10, if_true, if_false, ite_not, Decidable.not_not]) (fun j hj ih a => by
    have h2 : ¬ nI m ≤ nI j := nI_ge hj (by omega)
    have hj8 : j < 8 := by omega
    have e2 : wLay X o t j 1 0 = nI m := by rw [wLay_1 _ _ _ _ (by decide), x0]
    have e3 : wLay X o t j 1 1 = nI t := by rw [wLay_1 _ _ _ _ (by decide), x1]
    show rb_G none 115 40 _ _ _ _ ↔ _
    rw [r115_40]
    simp only [r115_41, r115_42, r115_45, r115_46, r115_47, r115_50, r115_51, r115_53, r115_54, h2, e2, r17, lm1, lm2, lm3, lm4, lm5, lm6, ib0, ib1, ib2, ib3, ib4, ib5, ib6, ib7, ib8, ib9, ib10, ib11, ib12, ib13, ib14, tn0, tn1, tn2, tn3, tn4, tn5, tn6, tn7, tn8, tn9, tn10, tn11, tn12, tn13, tn14, ibt0, ca9, in9, cl9, ca15, in15, cl15, ca23, in23, cl23, ca31, in31, cl31, ca39, in39, cl39, ca47, in47, cl47, ca55, in55, cl55, ca63, in63, cl63, ca199, in199, cl199, ca71, in71, cl71, ca135, in135, cl135, cm8, ine8, cle8, nI_add, rb_sg_self, rb_sg_sg, List.length_cons, List.length_nil, Nat.reduceAdd, Nat.reduceLeDiff, Nat.reduceLT, Nat.zero_add, Option.toList_some, Option.toList_none, List.cons_append, List.nil_append, rb_bi_eq0, rb_bi_ne0, rb_okv0, rb_okv1, rb_okvb, ln0, ln1, ln2, ln3, ln4, ln5, ln6, ln7, ln8, ln9, ln10, if_true, if_false, ite_not, Decidable.not_not]
    have inner := rb_loop (Q := fun k => rb_G none 115 56 [some (.ref 281), some (.int (nI o)), some (.int s), some (.int (nI j)), some (.int (rb_sum (fun k => wLay X o t j 4 k * rb_pw (nI (j + 1)) k) k)), some (.int (nI k))] [] (rb_W (rb_sg V 12 (wLay X o t j))) P) t (fun k hk => by
      have h4 : ¬ nI t ≤ nI k := nI_ge hk (by omega)
      have hk8 : k < 8 := by omega
      have hp : ∀ {b : Int32} {P' : Option Value → rb_M → Prop}, rb_G none 117 0 [some (.int b), some (.int (nI k)), none, none] [] (rb_W (rb_sg V 12 (wLay X o t j))) P' ↔ P' (some (.int (rb_pw b k))) (rb_W (rb_sg V 12 (wLay X o t j))) := fun {b P'} => n_power (by omega)
      show rb_G none 115 56 _ _ _ _ ↔ _
      rw [r115_56]
      simp only [r115_58, r115_59, r115_62, r115_63, r115_64, r115_67, r115_69, r115_70, r115_73, r115_75, r115_76, r115_77, r115_78, r115_79, r115_81, r115_84, r115_85, r115_86, r115_88, r115_91, hp, hk8, h4, e3, r17, r47, lm1, lm2, lm3, lm4, lm5, lm6, ib0, ib1, ib2, ib3, ib4, ib5, ib6, ib7, ib8, ib9, ib10, ib11, ib12, ib13, ib14, tn0, tn1, tn2, tn3, tn4, tn5, tn6, tn7, tn8, tn9, tn10, tn11, tn12, tn13, tn14, ibt0, ca9, in9, cl9, ca15, in15, cl15, ca23, in23, cl23, ca31, in31, cl31, ca39, in39, cl39, ca47, in47, cl47, ca55, in55, cl55, ca63, in63, cl63, ca199, in199, cl199, ca71, in71, cl71, ca135, in135, cl135, cm8, ine8, cle8, nI_add, rb_sg_self, rb_sg_sg, List.length_cons, List.length_nil, Nat.reduceAdd, Nat.reduceLeDiff, Nat.reduceLT, Nat.zero_add, Option.toList_some, Option.toList_none, List.cons_append, List.nil_append, rb_bi_eq0, rb_bi_ne0, rb_okv0, rb_okv1, rb_okvb, ln0, ln1, ln2, ln3, ln4, ln5, ln6, ln7, ln8, ln9, ln10, if_true, if_false, ite_not, Decidable.not_not, nI_1, rb_sum])
    simp only [nI_0, rb_sum] at inner
    rw [inner]
    have h5 : nI t ≤ nI t := nI_le (Nat.le_refl t) (by omega)
    simp only [r115_56, r115_58, r115_59, r115_62, r115_63, r115_64, r115_94, r115_95, r115_98, r115_100, r115_102, r115_103, r115_104, r115_105, r115_106, r115_107, r115_109, r115_112, r115_113, r115_114, r115_117, h5, h257, e3, hj8, ho, r17, not_false_eq_true, lm1, lm2, lm3, lm4, lm5, lm6, ib0, ib1, ib2, ib3, ib4, ib5, ib6, ib7, ib8, ib9, ib10, ib11, ib12, ib13, ib14, tn0, tn1, tn2, tn3, tn4, tn5, tn6, tn7, tn8, tn9, tn10, tn11, tn12, tn13, tn14, ibt0, ca9, in9, cl9, ca15, in15, cl15, ca23, in23, cl23, ca31, in31, cl31, ca39, in39, cl39, ca47, in47, cl47, ca55, in55, cl55, ca63, in63, cl63, ca199, in199, cl199, ca71, in71, cl71, ca135, in135, cl135, cm8, ine8, cle8, nI_add, rb_sg_self, rb_sg_sg, List.length_cons, List.length_nil, Nat.reduceAdd, Nat.reduceLeDiff, Nat.reduceLT, Nat.zero_add, Option.toList_some, Option.toList_none, List.cons_append, List.nil_append, rb_bi_eq0, rb_bi_ne0, rb_okv0, rb_okv1, rb_okvb, ln0, ln1, ln2, ln3, ln4, ln5, ln6, ln7, ln8, ln9, ln10, if_true, if_false, ite_not, Decidable.not_not, nI_1]
    have := ih (some (.int (rb_sum (fun k => wLay X o t j 4 k * rb_pw (nI (j + 1)) k) t)), some (.int (nI t)))
    simp only [wLay, wPoly] at this
    exact this)
  exact key2 (none, none)
end RBM
