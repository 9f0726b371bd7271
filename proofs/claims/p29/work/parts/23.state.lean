/-! THE METHODS' ANSWERS, 4: what a state does -/
theorem rb_loopR {α : Type} {Q : Nat → α → Prop} {R : Prop} (n : Nat) (hn : ∀ a, Q n a ↔ R) (h : ∀ j, j < n → (∀ a, Q (j + 1) a ↔ R) → ∀ a, Q j a ↔ R) : ∀ a, Q 0 a ↔ R := by
  have : ∀ d j, j + d = n → ∀ a, Q j a ↔ R := by
    intro d
    induction d with
    | zero => intro j hj; cases (by omega : j = n); exact hn
    | succ d ih => exact fun j hj => h j (by omega) (ih (j + 1) (by omega))
  exact this n 0 (by omega)
def rb_sd (s : Int32) : Int32 := (rb_lrem (1103515245 * s.toInt64 + 12345) 2147483648).toInt32
def rb_dr (s : Int32) : Int32 := rb_rem (s / 65536) 257
def cDraw (c : Nat → Nat → Int32) : Nat → Nat → Int32 := rb_u2 c 11 7 (rb_sd (c 11 7))
def cDeal0 (c : Nat → Nat → Int32) (o : Nat) (s : Int32) : Nat → Nat → Nat → Int32
  | 0 => c
  | j + 1 => rb_u2 (cDeal0 c o s j) 9 (8 * o + j) s
def cDealI (c : Nat → Nat → Int32) (o : Nat) (q : Int32) (p : Nat) : Nat → Nat → Nat → Int32
  | 0 => c
  | j + 1 => rb_u2 (cDealI c o q p j) 9 (8 * o + j) (rb_rem (cDealI c o q p j 9 (8 * o + j) + q * rb_pw (nI (j + 1)) p) 257)
def cDealP (c : Nat → Nat → Int32) (o m : Nat) : Nat → Nat → Nat → Int32
  | 0 => c
  | p + 1 => cDealI (cDraw (cDealP c o m p)) o (rb_dr (rb_sd (cDealP c o m p 11 7))) (p + 1) m
def cDeal (c : Nat → Nat → Int32) (o : Nat) (s : Int32) (m t : Nat) : Nat → Nat → Int32 := cDealP (cDeal0 c o s m) o m (t - 1)
def cBind (c : Nat → Nat → Int32) (i : Nat) (s v : Int32) (m t : Nat) : Nat → Nat → Int32 := cDeal (rb_u2 (rb_u2 (rb_u2 c 6 i (rb_cm (nI i) s v)) 7 i s) 5 i 1) i s m t
noncomputable def cShowC (c : Nat → Nat → Int32) (i o : Nat) (x : Int32) (m : Nat) : Nat → Nat → Int32 := if rb_mk (nI i) x = rb_mk (nI i) (c 9 (8 * o + i)) then (if rb_bc (cGiv (rb_u2 c 10 (8 * o + i) x) o m) < c 11 1 then rb_u2 c 10 (8 * o + i) x else cLearn (rb_u2 c 10 (8 * o + i) x) o (cItp (rb_u2 c 10 (8 * o + i) x) o (cGiv (rb_u2 c 10 (8 * o + i) x) o m) m) 3) else cFine c i (c 0 4)
def cShowR (c : Nat → Nat → Int32) (i o : Nat) (x : Int32) (m : Nat) : Int32 := if rb_mk (nI i) x = rb_mk (nI i) (c 9 (8 * o + i)) then rb_bc (cGiv (rb_u2 c 10 (8 * o + i) x) o m) else 0
def cCan (c : Nat → Nat → Int32) (i o : Nat) : Prop := ¬ i = o ∧ c 3 i = 1 ∧ ¬ c 5 i = 0 ∧ c 5 o = 1 ∧ c 10 (8 * o + i) = -9
section RBM
variable {V : rb_V} {P : Option Value → rb_M → Prop} {g r j i o m t : Nat}
theorem m_findGivers (hg : g < 12) (ho : o < 8) (hm : V g 11 0 = nI m) (hm8 : m ≤ 8) : rb_G none 22 0 [some (.ref (rb_st g)), some (.int (nI o)), none, none] [] (rb_W V) P ↔ P (some (.int (cGiv (V g) o m))) (rb_W V) := by
  simp only [r22_0, r22_1, r22_2, r22_3]
  have key := rb_loop (Q := fun j => rb_G none 22 4 [some (.ref (rb_st g)), some (.int (nI o)), some (.int (cGiv (V g) o j)), some (.int (nI j))] [] (rb_W V) P) m (fun j hj => by
    have h2 : ¬ nI m ≤ nI j := nI_ge hj (by omega)
    have hj8 : j < 8 := by omega
    show rb_G none 22 4 _ _ _ _ ↔ _
    rw [r22_4]
    simp only [r22_0, r22_1, r22_2, r22_3, r22_5, r22_6, r22_9, r22_12, r22_13, r22_14, r22_15, r22_16, r22_19, r22_22, r22_23, r22_24, r22_25, r22_28, r22_29, r22_30, r22_31, r22_34, r22_37, r22_38, m_isShown, hg, ho, hj8, hm, h2, rb_sg_self, rb_sg_sg, List.length_cons, List.length_nil, Nat.reduceAdd, Nat.reduceLeDiff, Nat.reduceLT, Nat.zero_add, Option.toList_some, Option.toList_none, List.cons_append, List.nil_append, rb_bi_eq0, rb_bi_ne0, rb_okv0, rb_okv1, rb_okvb, ln0, ln1, ln2, ln3, ln4, ln5, ln6, ln7, ln8, ln9, ln10, if_true, if_false, ite_not, Decidable.not_not, nI_1]
    by_cases h : V g 10 (8 * o + j) = -9
    · simp only [if_pos h, cGiv, rb_or, if_neg (show ¬ ¬ V g 10 (8 * o + j) = -9 from fun q => q h)]
    · simp only [if_neg h, cGiv, rb_or, if_pos h, not_false_eq_true, if_true])
  simp only [nI_0, cGiv, rb_or] at key
  rw [key]
  have h3 : nI m ≤ nI m := nI_le (Nat.le_refl m) (by omega)
  simp only [r22_0, r22_1, r22_2, r22_3, r22_4, r22_5, r22_6, r22_9, r22_12, r22_13, r22_14, r22_15, r22_16, r22_19, r22_22, r22_23, r22_24, r22_25, r22_28, r22_29, r22_30, r22_31, r22_34, r22_37, r22_38, hg, hm, h3, if_true, cGiv]
theorem m_countShown (hg : g < 12) (ho : o < 8) (hm : V g 11 0 = nI m) (hm8 : m ≤ 8) : rb_G none 21 0 [some (.ref (rb_st g)), some (.int (nI o))] [] (rb_W V) P ↔ P (some (.int (rb_bc (cGiv (V g) o m)))) (rb_W V) := by
  simp only [r21_0, r21_1, r21_2, r21_5, r21_8, m_findGivers hg ho hm hm8, m_bitCount, hg, rb_sg_self, rb_sg_sg, List.length_cons, List.length_nil, Nat.reduceAdd, Nat.reduceLeDiff, Nat.reduceLT, Nat.zero_add, Option.toList_some, Option.toList_none, List.cons_append, List.nil_append, rb_bi_eq0, rb_bi_ne0, rb_okv0, rb_okv1, rb_okvb, ln0, ln1, ln2, ln3, ln4, ln5, ln6, ln7, ln8, ln9, ln10, if_true, if_false, ite_not, Decidable.not_not]
theorem m_interpolate {x : Int32} (hg : g < 12) (ho : o < 8) (hm : V g 11 0 = nI m) (hm8 : m ≤ 8) : rb_G none 43 0 [some (.ref (rb_st g)), some (.int (nI o)), some (.int x), none, none] [] (rb_W V) P ↔ P (some (.int (cItp (V g) o x m))) (rb_W V) := by
  have h257 : ¬ (257 : Int32) = 0 := by decide
  simp only [r43_0, r43_1, r43_2, r43_3]
  have key := rb_loop (Q := fun j => rb_G none 43 5 [some (.ref (rb_st g)), some (.int (nI o)), some (.int x), some (.int (rb_sum (fun i => if (x >>> (nI i &&& 31)) &&& 1 = 1 then rb_rem (V g 10 (8 * o + i) * rb_wg x i) 257 else 0) j)), some (.int (nI j))] [] (rb_W V) P) m (fun j hj => by
    have h2 : ¬ nI m ≤ nI j := nI_ge hj (by omega)
    have hj8 : j < 8 := by omega
    have h64 : 8 * o + j < 64 := by omega
    show rb_G none 43 5 _ _ _ _ ↔ _
    rw [r43_5]
    simp only [r43_0, r43_1, r43_2, r43_3, r43_7, r43_8, r43_11, r43_14, r43_15, r43_17, r43_20, r43_23, r43_24, r43_25, r43_28, r43_29, r43_31, r43_34, r43_37, r43_38, r43_40, r43_43, r43_44, r43_47, r43_48, r43_49, r43_50, r43_53, r43_56, r43_57, r43_60, r43_61, m_isAmong, m_cell, m_at, m_weigh, hg, ho, hj8, h64, hm, h2, h257, not_false_eq_true, rb_sg_self, rb_sg_sg, List.length_cons, List.length_nil, Nat.reduceAdd, Nat.reduceLeDiff, Nat.reduceLT, Nat.zero_add, Option.toList_some, Option.toList_none, List.cons_append, List.nil_append, rb_bi_eq0, rb_bi_ne0, rb_okv0, rb_okv1, rb_okvb, ln0, ln1, ln2, ln3, ln4, ln5, ln6, ln7, ln8, ln9, ln10, if_true, if_false, ite_not, Decidable.not_not, nI_1]
    by_cases h : (x >>> (nI j &&& 31)) &&& 1 = 1
    · simp only [if_pos h, rb_sum]
    · simp only [if_neg h, rb_sum, Int32.add_zero])
  simp only [nI_0, rb_sum] at key
  rw [key]
  have h3 : nI m ≤ nI m := nI_le (Nat.le_refl m) (by omega)
  simp only [r43_0, r43_1, r43_2, r43_3, r43_5, r43_7, r43_8, r43_11, r43_14, r43_15, r43_17, r43_20, r43_23, r43_24, r43_25, r43_28, r43_29, r43_31, r43_34, r43_37, r43_38, r43_40, r43_43, r43_44, r43_47, r43_48, r43_49, r43_50, r43_53, r43_56, r43_57, r43_60, r43_61, hg, hm, h3, h257, not_false_eq_true, if_true, cItp]
theorem m_show {x : Int32} (hg : g < 12) (ho : o < 8) (hi : i < 8) (hm : V g 11 0 = nI m) (hm8 : m ≤ 8) : rb_G none 39 0 [some (.ref (rb_st g)), some (.int (nI i)), some (.int (nI o)), some (.int x), none, none] [] (rb_W V) P ↔ P (some (.int (cShowR (V g) i o x m))) (rb_W (rb_sg V g (cShowC (V g) i o x m))) := by
  have h64 : 8 * o + i < 64 := by omega
  have hm1 : rb_u2 (V g) 10 (8 * o + i) x 11 0 = nI m := by rw [rb_u2_row (by decide)]; exact hm
  have hf : ∀ {P' : Option Value → rb_M → Prop}, rb_G none 22 0 [some (.ref (rb_st g)), some (.int (nI o)), none, none] [] (rb_W (rb_sg V g (rb_u2 (V g) 10 (8 * o + i) x))) P' ↔ P' (some (.int (cGiv (rb_u2 (V g) 10 (8 * o + i) x) o m))) (rb_W (rb_sg V g (rb_u2 (V g) 10 (8 * o + i) x))) := by
    intro P'
    have := m_findGivers (V := rb_sg V g (rb_u2 (V g) 10 (8 * o + i) x)) (P := P') (m := m) hg ho (by rw [rb_sg_self]; exact hm1) hm8
    rw [rb_sg_self] at this
    exact this
  have hp : ∀ {P' : Option Value → rb_M → Prop} {y : Int32}, rb_G none 43 0 [some (.ref (rb_st g)), some (.int (nI o)), some (.int y), none, none] [] (rb_W (rb_sg V g (rb_u2 (V g) 10 (8 * o + i) x))) P' ↔ P' (some (.int (cItp (rb_u2 (V g) 10 (8 * o + i) x) o y m))) (rb_W (rb_sg V g (rb_u2 (V g) 10 (8 * o + i) x))) := by
    intro P' y
    have := m_interpolate (V := rb_sg V g (rb_u2 (V g) 10 (8 * o + i) x)) (P := P') (m := m) (x := y) hg ho (by rw [rb_sg_self]; exact hm1) hm8
    rw [rb_sg_self] at this
    exact this
  have h8 : ∀ q, ¬ (q < 8 ∧ False) := fun _ h => h.2
  simp only [r39_0, r39_1, r39_2, r39_5, r39_6, r39_7, r39_8, r39_9, r39_12, r39_15, r39_18, r39_19, r39_20, r39_21, r39_24, r39_25, r39_28, r39_31, r39_32, r39_33, r39_34, r39_37, r39_38, r39_39, r39_42, r39_43, r39_46, r39_47, r39_48, r39_51, r39_53, r39_55, r39_58, r39_60, r39_62, r39_63, r39_66, r39_69, r39_70, r39_71, r39_72, r39_73, r39_75, r39_78, r39_79, r39_82, r39_84, show (4 : Int32) = nI 4 from rfl, m_mk, m_trueShare, m_at, m_fine, m_cell, m_put (a2 := none), hf, hp, m_bitCount, m_learn, hg, ho, hi, h64, rb_sg_self, rb_sg_sg, List.length_cons, List.length_nil, Nat.reduceAdd, Nat.reduceLeDiff, Nat.reduceLT, Nat.zero_add, Option.toList_some, Option.toList_none, List.cons_append, List.nil_append, rb_bi_eq0, rb_bi_ne0, rb_okv0, rb_okv1, rb_okvb, ln0, ln1, ln2, ln3, ln4, ln5, ln6, ln7, ln8, ln9, ln10, if_true, if_false, ite_not, Decidable.not_not, rb_u2_row, rb_u2_at, rb_u2_ne, ne_eq, Nat.reduceEqDiff, not_false_eq_true, reduceCtorEq]
  by_cases h1 : rb_mk (nI i) x = rb_mk (nI i) (V g 9 (8 * o + i))
  · by_cases h2 : rb_bc (cGiv (rb_u2 (V g) 10 (8 * o + i) x) o m) < V g 11 1
    · simp only [cShowR, cShowC, if_pos h1, if_pos h2]
    · simp only [cShowR, cShowC, if_pos h1, if_neg h2]
  · simp only [cShowR, cShowC, if_neg h1]
theorem m_canShow (hg : g < 12) (ho : o < 8) (hi : i < 8) : rb_G none 37 0 [some (.ref (rb_st g)), some (.int (nI i)), some (.int (nI o))] [] (rb_W V) P ↔ (if ¬ i = o ∧ V g 3 i = 1 ∧ ¬ V g 5 i = 0 ∧ V g 5 o = 1 ∧ V g 10 (8 * o + i) = -9 then P (some (.int 1)) (rb_W V) else P (some (.int 0)) (rb_W V)) := by
  have h4 : (nI i = nI o) ↔ i = o := rb_eqn (by omega) (by omega)
  simp only [r37_0, r37_1, r37_2, r37_5, r37_6, r37_7, r37_10, r37_13, r37_14, r37_15, r37_18, r37_21, r37_22, r37_23, r37_26, r37_29, r37_30, r37_31, r37_32, r37_35, r37_38, r37_39, r37_42, r37_43, m_isOn, m_isBound, m_isHidden, m_isShown, hg, ho, hi, h4, rb_sg_self, rb_sg_sg, List.length_cons, List.length_nil, Nat.reduceAdd, Nat.reduceLeDiff, Nat.reduceLT, Nat.zero_add, Option.toList_some, Option.toList_none, List.cons_append, List.nil_append, rb_bi_eq0, rb_bi_ne0, rb_okv0, rb_okv1, rb_okvb, ln0, ln1, ln2, ln3, ln4, ln5, ln6, ln7, ln8, ln9, ln10, if_true, if_false, ite_not, Decidable.not_not]
  by_cases h1 : i = o
  · simp only [if_pos h1, if_neg (show ¬ (¬ i = o ∧ V g 3 i = 1 ∧ ¬ V g 5 i = 0 ∧ V g 5 o = 1 ∧ V g 10 (8 * o + i) = -9) from fun q => q.1 h1)]
  · by_cases h2 : V g 3 i = 1
    · by_cases h3 : V g 5 i = 0
      · simp only [if_neg h1, if_pos h2, if_pos h3, if_neg (show ¬ (¬ i = o ∧ V g 3 i = 1 ∧ ¬ V g 5 i = 0 ∧ V g 5 o = 1 ∧ V g 10 (8 * o + i) = -9) from fun q => q.2.2.1 h3)]
      · by_cases h5 : V g 5 o = 1
        · by_cases h6 : V g 10 (8 * o + i) = -9
          · simp only [if_neg h1, if_pos h2, if_neg h3, if_pos h5, if_pos h6, if_pos (show ¬ i = o ∧ V g 3 i = 1 ∧ ¬ V g 5 i = 0 ∧ V g 5 o = 1 ∧ V g 10 (8 * o + i) = -9 from ⟨h1, h2, h3, h5, h6⟩)]
          · simp only [if_neg h1, if_pos h2, if_neg h3, if_pos h5, if_neg h6, if_neg (show ¬ (¬ i = o ∧ V g 3 i = 1 ∧ ¬ V g 5 i = 0 ∧ V g 5 o = 1 ∧ V g 10 (8 * o + i) = -9) from fun q => h6 q.2.2.2.2)]
        · simp only [if_neg h1, if_pos h2, if_neg h3, if_neg h5, if_neg (show ¬ (¬ i = o ∧ V g 3 i = 1 ∧ ¬ V g 5 i = 0 ∧ V g 5 o = 1 ∧ V g 10 (8 * o + i) = -9) from fun q => h5 q.2.2.2.1)]
    · simp only [if_neg h1, if_neg h2, if_neg (show ¬ (¬ i = o ∧ V g 3 i = 1 ∧ ¬ V g 5 i = 0 ∧ V g 5 o = 1 ∧ V g 10 (8 * o + i) = -9) from fun q => h2 q.2.1)]
theorem m_mayPublish (hg : g < 12) (ho : o < 8) (hi : i < 8) : rb_G none 75 0 [some (.ref (rb_st g)), some (.int (nI i)), some (.int (nI o))] [] (rb_W V) P ↔ (if V g 11 4 = 2 ∧ ¬ i = o ∧ V g 3 i = 1 ∧ ¬ V g 5 i = 0 ∧ V g 5 o = 1 ∧ V g 10 (8 * o + i) = -9 then P (some (.int 1)) (rb_W V) else P (some (.int 0)) (rb_W V)) := by
  have h10 : ¬ (1 : Int32) = 0 := by decide
  simp only [r75_0, r75_1, r75_4, r75_5, r75_8, r75_9, r75_10, r75_11, r75_14, r75_17, r75_18, r75_21, r75_22, m_canShow, hg, ho, hi, rb_sg_self, rb_sg_sg, List.length_cons, List.length_nil, Nat.reduceAdd, Nat.reduceLeDiff, Nat.reduceLT, Nat.zero_add, Option.toList_some, Option.toList_none, List.cons_append, List.nil_append, rb_bi_eq0, rb_bi_ne0, rb_okv0, rb_okv1, rb_okvb, ln0, ln1, ln2, ln3, ln4, ln5, ln6, ln7, ln8, ln9, ln10, if_true, if_false, ite_not, Decidable.not_not]
  by_cases h1 : V g 11 4 = 2
  · by_cases h2 : ¬ i = o ∧ V g 3 i = 1 ∧ ¬ V g 5 i = 0 ∧ V g 5 o = 1 ∧ V g 10 (8 * o + i) = -9
    · simp only [if_pos h1, if_pos h2, if_pos (And.intro h1 h2), if_neg h10]
    · simp only [if_pos h1, if_neg h2, if_neg (show ¬ (V g 11 4 = 2 ∧ ¬ i = o ∧ V g 3 i = 1 ∧ ¬ V g 5 i = 0 ∧ V g 5 o = 1 ∧ V g 10 (8 * o + i) = -9) from fun q => h2 q.2), if_true]
  · simp only [if_neg h1, if_neg (show ¬ (V g 11 4 = 2 ∧ ¬ i = o ∧ V g 3 i = 1 ∧ ¬ V g 5 i = 0 ∧ V g 5 o = 1 ∧ V g 10 (8 * o + i) = -9) from fun q => h1 q.1)]
theorem m_mayReveal (hg : g < 12) (hi : i < 8) : rb_G none 27 0 [some (.ref (rb_st g)), some (.int (nI i))] [] (rb_W V) P ↔ (if V g 11 4 = 1 ∧ V g 3 i = 1 ∧ V g 5 i = 1 then P (some (.int 1)) (rb_W V) else P (some (.int 0)) (rb_W V)) := by
  simp only [r27_0, r27_1, r27_4, r27_5, r27_8, r27_9, r27_10, r27_13, r27_16, r27_17, r27_18, r27_21, r27_24, r27_25, r27_28, r27_29, m_isOn, m_isHidden, hg, hi, rb_sg_self, rb_sg_sg, List.length_cons, List.length_nil, Nat.reduceAdd, Nat.reduceLeDiff, Nat.reduceLT, Nat.zero_add, Option.toList_some, Option.toList_none, List.cons_append, List.nil_append, rb_bi_eq0, rb_bi_ne0, rb_okv0, rb_okv1, rb_okvb, ln0, ln1, ln2, ln3, ln4, ln5, ln6, ln7, ln8, ln9, ln10, if_true, if_false, ite_not, Decidable.not_not]
  by_cases h1 : V g 11 4 = 1
  · by_cases h2 : V g 3 i = 1
    · by_cases h3 : V g 5 i = 1
      · simp only [if_pos h1, if_pos h2, if_pos h3, if_pos (show V g 11 4 = 1 ∧ V g 3 i = 1 ∧ V g 5 i = 1 from ⟨h1, h2, h3⟩)]
      · simp only [if_pos h1, if_pos h2, if_neg h3, if_neg (show ¬ (V g 11 4 = 1 ∧ V g 3 i = 1 ∧ V g 5 i = 1) from fun q => h3 q.2.2)]
    · simp only [if_pos h1, if_neg h2, if_neg (show ¬ (V g 11 4 = 1 ∧ V g 3 i = 1 ∧ V g 5 i = 1) from fun q => h2 q.2.1)]
  · simp only [if_neg h1, if_neg (show ¬ (V g 11 4 = 1 ∧ V g 3 i = 1 ∧ V g 5 i = 1) from fun q => h1 q.1)]
theorem m_open {s v : Int32} (hg : g < 12) (hi : i < 8) : rb_G none 72 0 [some (.ref (rb_st g)), some (.int (nI i)), some (.int s), some (.int v)] [] (rb_W V) P ↔ (if rb_cm (nI i) s v = V g 6 i then P (some (.int 1)) (rb_W (rb_sg V g (cLearn (V g) i s 2))) else P (some (.int 0)) (rb_W (rb_sg V g (cFine (V g) i (V g 0 4))))) := by
  simp only [r72_0, r72_1, r72_2, r72_3, r72_6, r72_7, r72_10, r72_11, r72_14, r72_17, r72_18, r72_19, r72_20, r72_23, r72_24, r72_27, r72_30, r72_31, r72_32, r72_33, r72_34, r72_35, r72_36, r72_39, r72_40, show (4 : Int32) = nI 4 from rfl, m_cm, m_at, m_fine, m_learn, hg, hi, rb_sg_self, rb_sg_sg, List.length_cons, List.length_nil, Nat.reduceAdd, Nat.reduceLeDiff, Nat.reduceLT, Nat.zero_add, Option.toList_some, Option.toList_none, List.cons_append, List.nil_append, rb_bi_eq0, rb_bi_ne0, rb_okv0, rb_okv1, rb_okvb, ln0, ln1, ln2, ln3, ln4, ln5, ln6, ln7, ln8, ln9, ln10, if_true, if_false, ite_not, Decidable.not_not]
theorem m_draw (hg : g < 12) : rb_G none 69 0 [some (.ref (rb_st g))] [] (rb_W V) P ↔ P (some (.int (rb_dr (rb_sd (V g 11 7))))) (rb_W (rb_sg V g (cDraw (V g)))) := by
  have h1 : ¬ (2147483648 : Int64) = 0 := by decide
  have h2 : ¬ (65536 : Int32) = 0 := by decide
  have h3 : ¬ (257 : Int32) = 0 := by decide
  simp only [r69_0, r69_1, r69_4, r69_5, r69_8, r69_9, r69_10, r69_13, r69_14, r69_17, r69_18, r69_19, r69_22, r69_23, r69_26, r69_28, r69_29, r69_32, r69_33, hg, h1, h2, h3, not_false_eq_true, rb_sg_self, rb_sg_sg, List.length_cons, List.length_nil, Nat.reduceAdd, Nat.reduceLeDiff, Nat.reduceLT, Nat.zero_add, Option.toList_some, Option.toList_none, List.cons_append, List.nil_append, rb_bi_eq0, rb_bi_ne0, rb_okv0, rb_okv1, rb_okvb, ln0, ln1, ln2, ln3, ln4, ln5, ln6, ln7, ln8, ln9, ln10, if_true, if_false, ite_not, Decidable.not_not, rb_u2_row, rb_u2_at, rb_u2_ne, ne_eq, Nat.reduceEqDiff, not_false_eq_true, reduceCtorEq, cDraw, rb_dr, rb_sd]
theorem cDeal0_11 (c : Nat → Nat → Int32) (o : Nat) (s : Int32) (k : Nat) : ∀ j, cDeal0 c o s j 11 k = c 11 k
  | 0 => rfl
  | j + 1 => by unfold cDeal0; rw [rb_u2_row (by decide)]; exact cDeal0_11 c o s k j
theorem cDealI_11 (c : Nat → Nat → Int32) (o : Nat) (q : Int32) (p k : Nat) : ∀ j, cDealI c o q p j 11 k = c 11 k
  | 0 => rfl
  | j + 1 => by unfold cDealI; rw [rb_u2_row (by decide)]; exact cDealI_11 c o q p k j
theorem cDealP_11 (c : Nat → Nat → Int32) (o m k : Nat) (hk : ¬ k = 7) : ∀ p, cDealP c o m p 11 k = c 11 k
  | 0 => rfl
  | p + 1 => by unfold cDealP; rw [cDealI_11]; unfold cDraw; rw [rb_u2_ne hk]; exact cDealP_11 c o m k hk p
theorem m_deal {s : Int32} (hg : g < 12) (ho : o < 8) (hm : V g 11 0 = nI m) (hm8 : m ≤ 8) (ht : V g 11 1 = nI t) (ht1 : 1 ≤ t) (ht8 : t ≤ 8) : rb_G none 68 0 [some (.ref (rb_st g)), some (.int (nI o)), some (.int s), none, none, none, none] [] (rb_W V) P ↔ P none (rb_W (rb_sg V g (cDeal (V g) o s m t))) := by
  have h257 : ¬ (257 : Int32) = 0 := by decide
  simp only [r68_0, r68_1]
  have key := rb_loop (Q := fun j => rb_G none 68 2 [some (.ref (rb_st g)), some (.int (nI o)), some (.int s), some (.int (nI j)), none, none, none] [] (rb_W (rb_sg V g (cDeal0 (V g) o s j))) P) m (fun j hj => by
    have h2 : ¬ nI m ≤ nI j := nI_ge hj (by omega)
    have hj8 : j < 8 := by omega
    have h64 : 8 * o + j < 64 := by omega
    have hm' : cDeal0 (V g) o s j 11 0 = nI m := by rw [cDeal0_11]; exact hm
    show rb_G none 68 2 _ _ _ _ ↔ _
    rw [r68_2]
    simp only [r68_3, r68_4, r68_7, r68_10, r68_11, r68_14, r68_15, r68_16, r68_19, r68_20, r68_23, r68_26, m_cell, m_put (a2 := none), hg, ho, hj8, h64, hm', h2, rb_sg_self, rb_sg_sg, List.length_cons, List.length_nil, Nat.reduceAdd, Nat.reduceLeDiff, Nat.reduceLT, Nat.zero_add, Option.toList_some, Option.toList_none, List.cons_append, List.nil_append, rb_bi_eq0, rb_bi_ne0, rb_okv0, rb_okv1, rb_okvb, ln0, ln1, ln2, ln3, ln4, ln5, ln6, ln7, ln8, ln9, ln10, if_true, if_false, ite_not, Decidable.not_not, nI_1, cDeal0])
  simp only [nI_0, cDeal0, rb_sg_id] at key
  rw [key]
  have h3 : nI m ≤ nI m := nI_le (Nat.le_refl m) (by omega)
  have hm0 : cDeal0 (V g) o s m 11 0 = nI m := by rw [cDeal0_11]; exact hm
  have ht0 : cDeal0 (V g) o s m 11 1 = nI t := by rw [cDeal0_11]; exact ht
  rw [r68_2]
  simp only [r68_3, r68_4, r68_7, r68_10, r68_11, r68_14, r68_15, r68_16, r68_19, r68_20, r68_23, r68_26, r68_29, r68_30, hg, hm0, h3, if_true, rb_sg_self, rb_sg_sg, List.length_cons, List.length_nil, Nat.reduceAdd, Nat.reduceLeDiff, Nat.reduceLT, Nat.zero_add, Option.toList_some, Option.toList_none, List.cons_append, List.nil_append, rb_bi_eq0, rb_bi_ne0, rb_okv0, rb_okv1, rb_okvb, ln0, ln1, ln2, ln3, ln4, ln5, ln6, ln7, ln8, ln9, ln10, if_true, if_false, ite_not, Decidable.not_not]
  have key2 := rb_loopR (α := Option Value × Option Value × Option Value) (Q := fun p a => rb_G none 68 31 [some (.ref (rb_st g)), some (.int (nI o)), some (.int s), some (.int (nI (p + 1))), a.1, a.2.1, a.2.2] [] (rb_W (rb_sg V g (cDealP (cDeal0 (V g) o s m) o m p))) P) (R := P none (rb_W (rb_sg V g (cDeal (V g) o s m t)))) (t - 1) (fun a => by
    have h4 : nI t ≤ nI (t - 1 + 1) := nI_le (by omega) (by omega)
    have ht' : cDealP (cDeal0 (V g) o s m) o m (t - 1) 11 1 = nI t := by rw [cDealP_11 _ _ _ _ (by decide)]; exact ht0
    show rb_G none 68 31 _ _ _ _ ↔ _
    rw [r68_31]
    simp only [r68_32, r68_33, r68_36, r68_109, hg, ht', h4, if_true, rb_sg_self, rb_sg_sg, List.length_cons, List.length_nil, Nat.reduceAdd, Nat.reduceLeDiff, Nat.reduceLT, Nat.zero_add, Option.toList_some, Option.toList_none, List.cons_append, List.nil_append, rb_bi_eq0, rb_bi_ne0, rb_okv0, rb_okv1, rb_okvb, ln0, ln1, ln2, ln3, ln4, ln5, ln6, ln7, ln8, ln9, ln10, if_true, if_false, ite_not, Decidable.not_not, cDeal]) (fun p hp ih a => by
    have h4 : ¬ nI t ≤ nI (p + 1) := nI_ge (by omega) (by omega)
    have hp64 : p + 1 < 64 := by omega
    have ht' : cDealP (cDeal0 (V g) o s m) o m p 11 1 = nI t := by rw [cDealP_11 _ _ _ _ (by decide)]; exact ht0
    have hm' : cDealP (cDeal0 (V g) o s m) o m p 11 0 = nI m := by rw [cDealP_11 _ _ _ _ (by decide)]; exact hm0
    show rb_G none 68 31 _ _ _ _ ↔ _
    rw [r68_31]
    simp only [r68_32, r68_33, r68_36, r68_39, r68_40, r68_43, r68_45, r68_46, m_draw, hg, ht', h4, rb_sg_self, rb_sg_sg, List.length_cons, List.length_nil, Nat.reduceAdd, Nat.reduceLeDiff, Nat.reduceLT, Nat.zero_add, Option.toList_some, Option.toList_none, List.cons_append, List.nil_append, rb_bi_eq0, rb_bi_ne0, rb_okv0, rb_okv1, rb_okvb, ln0, ln1, ln2, ln3, ln4, ln5, ln6, ln7, ln8, ln9, ln10, if_true, if_false, ite_not, Decidable.not_not]
    have inner := rb_loopR (α := Option Value) (Q := fun j a6 => rb_G none 68 48 [some (.ref (rb_st g)), some (.int (nI o)), some (.int s), some (.int (nI (p + 1))), some (.int (rb_dr (rb_sd (cDealP (cDeal0 (V g) o s m) o m p 11 7)))), some (.int (nI j)), a6] [] (rb_W (rb_sg V g (cDealI (cDraw (cDealP (cDeal0 (V g) o s m) o m p)) o (rb_dr (rb_sd (cDealP (cDeal0 (V g) o s m) o m p 11 7))) (p + 1) j))) P) (R := P none (rb_W (rb_sg V g (cDeal (V g) o s m t)))) m (fun a6 => by
      have h5 : cDealI (cDraw (cDealP (cDeal0 (V g) o s m) o m p)) o (rb_dr (rb_sd (cDealP (cDeal0 (V g) o s m) o m p 11 7))) (p + 1) m 11 0 = nI m := by
        rw [cDealI_11]; unfold cDraw; rw [rb_u2_ne (by decide)]; exact hm'
      show rb_G none 68 48 _ _ _ _ ↔ _
      rw [r68_48]
      simp only [r68_50, r68_51, r68_54, r68_103, r68_106, hg, h5, h3, if_true, rb_sg_self, rb_sg_sg, List.length_cons, List.length_nil, Nat.reduceAdd, Nat.reduceLeDiff, Nat.reduceLT, Nat.zero_add, Option.toList_some, Option.toList_none, List.cons_append, List.nil_append, rb_bi_eq0, rb_bi_ne0, rb_okv0, rb_okv1, rb_okvb, ln0, ln1, ln2, ln3, ln4, ln5, ln6, ln7, ln8, ln9, ln10, if_true, if_false, ite_not, Decidable.not_not, nI_1]
      exact ih (_, _, _)) (fun j hj ihj a6 => by
      have h5 : cDealI (cDraw (cDealP (cDeal0 (V g) o s m) o m p)) o (rb_dr (rb_sd (cDealP (cDeal0 (V g) o s m) o m p 11 7))) (p + 1) j 11 0 = nI m := by
        rw [cDealI_11]; unfold cDraw; rw [rb_u2_ne (by decide)]; exact hm'
      have h6 : ¬ nI m ≤ nI j := nI_ge hj (by omega)
      have hj8 : j < 8 := by omega
      have h64 : 8 * o + j < 64 := by omega
      show rb_G none 68 48 _ _ _ _ ↔ _
      rw [r68_48]
      simp only [r68_50, r68_51, r68_54, r68_57, r68_58, r68_59, r68_61, r68_64, r68_66, r68_68, r68_69, r68_70, r68_71, r68_74, r68_75, r68_76, r68_78, r68_79, r68_82, r68_83, r68_85, r68_88, r68_90, r68_93, r68_94, r68_97, r68_100, m_trueShare, m_raise, m_cell, m_put (a2 := none), hg, ho, hj8, h64, hp64, h5, h6, h257, not_false_eq_true, rb_sg_self, rb_sg_sg, List.length_cons, List.length_nil, Nat.reduceAdd, Nat.reduceLeDiff, Nat.reduceLT, Nat.zero_add, Option.toList_some, Option.toList_none, List.cons_append, List.nil_append, rb_bi_eq0, rb_bi_ne0, rb_okv0, rb_okv1, rb_okvb, ln0, ln1, ln2, ln3, ln4, ln5, ln6, ln7, ln8, ln9, ln10, if_true, if_false, ite_not, Decidable.not_not, nI_1]
      exact ihj _)
    have := inner a.2.2
    simp only [nI_0, cDealI] at this
    exact this)
  have := key2 (none, none, none)
  simp only [cDealP] at this
  exact this
end RBM
