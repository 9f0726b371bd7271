/-! THE METHODS' ANSWERS, 4: what a state does -/
theorem rb_loopR {α : Type} {Q : Nat → α → Prop} {R : Prop} (n : Nat) (hn : ∀ a, Q n a ↔ R) (h : ∀ j, j < n → (∀ a, Q (j + 1) a ↔ R) → ∀ a, Q j a ↔ R) : ∀ a, Q 0 a ↔ R := by
  have : ∀ d j, j + d = n → ∀ a, Q j a ↔ R := by
    intro d
    induction d with
    | zero => intro j hj; cases (by omega : j = n); exact hn
    | succ d ih => exact fun j hj => h j (by omega) (ih (j + 1) (by omega))
  exact this n 0 (by omega)
def rb_sd (s : Int32) : Int32 := (rb_lrem (1103515245 * s.toInt64 + 12345) 2147483648).toInt32
def rb_dr (s : Int32) : Int32 := rb_rem (s / 65536) 257
def cDraw (c : Nat → Nat → Int32) : Nat → Nat → Int32 := rb_u2 c 11 7 (rb_sd (c 11 7))
def cDeal0 (c : Nat → Nat → Int32) (o : Nat) (s : Int32) : Nat → Nat → Nat → Int32
  | 0 => c
  | j + 1 => rb_u2 (cDeal0 c o s j) 9 (8 * o + j) s
def cDealI (c : Nat → Nat → Int32) (o : Nat) (q : Int32) (p : Nat) : Nat → Nat → Nat → Int32
  | 0 => c
  | j + 1 => rb_u2 (cDealI c o q p j) 9 (8 * o + j) (rb_rem (cDealI c o q p j 9 (8 * o + j) + q * rb_pw (nI (j + 1)) p) 257)
def cDealP (c : Nat → Nat → Int32) (o m : Nat) : Nat → Nat → Nat → Int32
  | 0 => c
  | p + 1 => cDealI (cDraw (cDealP c o m p)) o (rb_dr (rb_sd (cDealP c o m p 11 7))) (p + 1) m
def cDeal (c : Nat → Nat → Int32) (o : Nat) (s : Int32) (m t : Nat) : Nat → Nat → Int32 := cDealP (cDeal0 c o s m) o m (t - 1)
def cBind (c : Nat → Nat → Int32) (i : Nat) (s v : Int32) (m t : Nat) : Nat → Nat → Int32 := cDeal (rb_u2 (rb_u2 (rb_u2 c 6 i (rb_cm (nI i) s v)) 7 i s) 5 i 1) i s m t
noncomputable def cShowC (c : Nat → Nat → Int32) (i o : Nat) (x : Int32) (m : Nat) : Nat → Nat → Int32 := if rb_mk (nI i) x = rb_mk (nI i) (c 9 (8 * o + i)) then (if rb_bc (cGiv (rb_u2 c 10 (8 * o + i) x) o m) < c 11 1 then rb_u2 c 10 (8 * o + i) x else cLearn (rb_u2 c 10 (8 * o + i) x) o (cItp (rb_u2 c 10 (8 * o + i) x) o (cGiv (rb_u2 c 10 (8 * o + i) x) o m) m) 3) else cFine c i (c 0 4)
def cShowR (c : Nat → Nat → Int32) (i o : Nat) (x : Int32) (m : Nat) : Int32 := if rb_mk (nI i) x = rb_mk (nI i) (c 9 (8 * o + i)) then rb_bc (cGiv (rb_u2 c 10 (8 * o + i) x) o m) else 0
def cCan (c : Nat → Nat → Int32) (i o : Nat) : Prop := ¬ i = o ∧ c 3 i = 1 ∧ ¬ c 5 i = 0 ∧ c 5 o = 1 ∧ c 10 (8 * o + i) = -9
section RBM
variable {V : rb_V} {P : Option Value → rb_M → Prop} {g r j i o m t : Nat}
theorem m_findGivers (hg : g < 12) (ho : o < 8) (hm : V g 11 0 = nI m) (hm8 : m ≤ 8) : rb_G none 52 0 [some (.ref (rb_st g)), some (.int (nI o)), none, none] [] (rb_W V) P ↔ P (some (.int (cGiv (V g) o m))) (rb_W V) := by
  simp only [r52_0, r52_1, r52_2, r52_3]
  have key := rb_loop (Q := fun j => rb_G none 52 4 [some (.ref (rb_st g)), some (.int (nI o)), some (.int (cGiv (V g) o j)), some (.int (nI j))] [] (rb_W V) P) m (fun j hj => by
    have h2 : ¬ nI m ≤ nI j := nI_ge hj (by omega)
    have hj8 : j < 8 := by omega
    show rb_G none 52 4 _ _ _ _ ↔ _
    rw [r52_4]
    simp only [r52_0, r52_1, r52_2, r52_3, r52_5, r52_6, r52_9, r52_12, r52_13, r52_14, r52_15, r52_16, r52_19, r52_22, r52_23, r52_24, r52_25, r52_28, r52_29, r52_30, r52_31, r52_34, r52_37, r52_38, m_isShown, hg, ho, hj8, hm, h2, rb_sg_self, rb_sg_sg, List.length_cons, List.length_nil, Nat.reduceAdd, Nat.reduceLeDiff, Nat.reduceLT, Nat.zero_add, Option.toList_some, Option.toList_none, List.cons_append, List.nil_append, rb_bi_eq0, rb_bi_ne0, rb_okv0, rb_okv1, rb_okvb, ln0, ln1, ln2, ln3, ln4, ln5, ln6, ln7, ln8, ln9, ln10, if_true, if_false, ite_not, Decidable.not_not, nI_1]
    by_cases h : V g 10 (8 * o + j) = -9
    · simp only [if_pos h, cGiv, rb_or, if_neg (show ¬ ¬ V g 10 (8 * o + j) = -9 from fun q => q h)]
    · simp only [if_neg h, cGiv, rb_or, if_pos h, not_false_eq_true, if_true])
  simp only [nI_0, cGiv, rb_or] at key
  rw [key]
  have h3 : nI m ≤ nI m := nI_le (Nat.le_refl m) (by omega)
  simp only [r52_0, r52_1, r52_2, r52_3, r52_4, r52_5, r52_6, r52_9, r52_12, r52_13, r52_14, r52_15, r52_16, r52_19, r52_22, r52_23, r52_24, r52_25, r52_28, r52_29, r52_30, r52_31, r52_34, r52_37, r52_38, hg, hm, h3, if_true, cGiv]
theorem m_countShown (hg : g < 12) (ho : o < 8) (hm : V g 11 0 = nI m) (hm8 : m ≤ 8) : rb_G none 78 0 [some (.ref (rb_st g)), some (.int (nI o))] [] (rb_W V) P ↔ P (some (.int (rb_bc (cGiv (V g) o m)))) (rb_W V) := by
  simp only [r78_0, r78_1, r78_2, r78_5, r78_8, m_findGivers hg ho hm hm8, m_bitCount, hg, rb_sg_self, rb_sg_sg, List.length_cons, List.length_nil, Nat.reduceAdd, Nat.reduceLeDiff, Nat.reduceLT, Nat.zero_add, Option.toList_some, Option.toList_none, List.cons_append, List.nil_append, rb_bi_eq0, rb_bi_ne0, rb_okv0, rb_okv1, rb_okvb, ln0, ln1, ln2, ln3, ln4, ln5, ln6, ln7, ln8, ln9, ln10, if_true, if_false, ite_not, Decidable.not_not]
theorem m_interpolate {x : Int32} (hg : g < 12) (ho : o < 8) (hm : V g 11 0 = nI m) (hm8 : m ≤ 8) : rb_G none 54 0 [some (.ref (rb_st g)), some (.int (nI o)), some (.int x), none, none] [] (rb_W V) P ↔ P (some (.int (cItp (V g) o x m))) (rb_W V) := by
  have h257 : ¬ (257 : Int32) = 0 := by decide
  simp only [r54_0, r54_1, r54_2, r54_3]
  have key := rb_loop (Q := fun j => rb_G none 54 5 [some (.ref (rb_st g)), some (.int (nI o)), some (.int x), some (.int (rb_sum (fun i => if (x >>> (nI i &&& 31)) &&& 1 = 1 then rb_rem (V g 10 (8 * o + i) * rb_wg x i) 257 else 0) j)), some (.int (nI j))] [] (rb_W V) P) m (fun j hj => by
    have h2 : ¬ nI m ≤ nI j := nI_ge hj (by omega)
    have hj8 : j < 8 := by omega
    have h64 : 8 * o + j < 64 := by omega
    show rb_G none 54 5 _ _ _ _ ↔ _
    rw [r54_5]
    simp only [r54_0, r54_1, r54_2, r54_3, r54_7, r54_8, r54_11, r54_14, r54_15, r54_17, r54_20, r54_23, r54_24, r54_25, r54_28, r54_29, r54_31, r54_34, r54_37, r54_38, r54_40, r54_43, r54_44, r54_47, r54_48, r54_49, r54_50, r54_53, r54_56, r54_57, r54_60, r54_61, m_isAmong, m_cell, m_at, m_weigh, hg, ho, hj8, h64, hm, h2, h257, not_false_eq_true, rb_sg_self, rb_sg_sg, List.length_cons, List.length_nil, Nat.reduceAdd, Nat.reduceLeDiff, Nat.reduceLT, Nat.zero_add, Option.toList_some, Option.toList_none, List.cons_append, List.nil_append, rb_bi_eq0, rb_bi_ne0, rb_okv0, rb_okv1, rb_okvb, ln0, ln1, ln2, ln3, ln4, ln5, ln6, ln7, ln8, ln9, ln10, if_true, if_false, ite_not, Decidable.not_not, nI_1]
    by_cases h : (x >>> (nI j &&& 31)) &&& 1 = 1
    · simp only [if_pos h, rb_sum]
    · simp only [if_neg h, rb_sum, Int32.add_zero])
  simp only [nI_0, rb_sum] at key
  rw [key]
  have h3 : nI m ≤ nI m := nI_le (Nat.le_refl m) (by omega)
  simp only [r54_0, r54_1, r54_2, r54_3, r54_5, r54_7, r54_8, r54_11, r54_14, r54_15, r54_17, r54_20, r54_23, r54_24, r54_25, r54_28, r54_29, r54_31, r54_34, r54_37, r54_38, r54_40, r54_43, r54_44, r54_47, r54_48, r54_49, r54_50, r54_53, r54_56, r54_57, r54_60, r54_61, hg, hm, h3, h257, not_false_eq_true, if_true, cItp]
theorem m_show {x : Int32} (hg : g < 12) (ho : o < 8) (hi : i < 8) (hm : V g 11 0 = nI m) (hm8 : m ≤ 8) : rb_G none 50 0 [some (.ref (rb_st g)), some (.int (nI i)), some (.int (nI o)), some (.int x), none, none] [] (rb_W V) P ↔ P (some (.int (cShowR (V g) i o x m))) (rb_W (rb_sg V g (cShowC (V g) i o x m))) := by
  have h64 : 8 * o + i < 64 := by omega
  have hm1 : rb_u2 (V g) 10 (8 * o + i) x 11 0 = nI m := by rw [rb_u2_row (by decide)]; exact hm
  have hf : ∀ {P' : Option Value → rb_M → Prop}, rb_G none 52 0 [some (.ref (rb_st g)), some (.int (nI o)), none, none] [] (rb_W (rb_sg V g (rb_u2 (V g) 10 (8 * o + i) x))) P' ↔ P' (some (.int (cGiv (rb_u2 (V g) 10 (8 * o + i) x) o m))) (rb_W (rb_sg V g (rb_u2 (V g) 10 (8 * o + i) x))) := by
    intro P'
    have := m_findGivers (V := rb_sg V g (rb_u2 (V g) 10 (8 * o + i) x)) (P := P') (m := m) hg ho (by rw [rb_sg_self]; exact hm1) hm8
    rw [rb_sg_self] at this
    exact this
  have hp : ∀ {P' : Option Value → rb_M → Prop} {y : Int32}, rb_G none 54 0 [some (.ref (rb_st g)), some (.int (nI o)), some (.int y), none, none] [] (rb_W (rb_sg V g (rb_u2 (V g) 10 (8 * o + i) x))) P' ↔ P' (some (.int (cItp (rb_u2 (V g) 10 (8 * o + i) x) o y m))) (rb_W (rb_sg V g (rb_u2 (V g) 10 (8 * o + i) x))) := by
    intro P' y
    have := m_interpolate (V := rb_sg V g (rb_u2 (V g) 10 (8 * o + i) x)) (P := P') (m := m) (x := y) hg ho (by rw [rb_sg_self]; exact hm1) hm8
    rw [rb_sg_self] at this
    exact this
  have h8 : ∀ q, ¬ (q < 8 ∧ False) := fun _ h => h.2
  simp only [r50_0, r50_1, r50_2, r50_5, r50_6, r50_7, r50_8, r50_9, r50_12, r50_15, r50_18, r50_19, r50_20, r50_21, r50_24, r50_25, r50_28, r50_31, r50_32, r50_33, r50_34, r50_37, r50_38, r50_39, r50_42, r50_43, r50_46, r50_47, r50_48, r50_51, r50_53, r50_55, r50_58, r50_60, r50_62, r50_63, r50_66, r50_69, r50_70, r50_71, r50_72, r50_73, r50_75, r50_78, r50_79, r50_82, r50_84, show (4 : Int32) = nI 4 from rfl, m_mk, m_trueShare, m_at, m_fine, m_cell, m_put (a2 := none), hf, hp, m_bitCount, m_learn, hg, ho, hi, h64, rb_sg_self, rb_sg_sg, List.length_cons, List.length_nil, Nat.reduceAdd, Nat.reduceLeDiff, Nat.reduceLT, Nat.zero_add, Option.toList_some, Option.toList_none, List.cons_append, List.nil_append, rb_bi_eq0, rb_bi_ne0, rb_okv0, rb_okv1, rb_okvb, ln0, ln1, ln2, ln3, ln4, ln5, ln6, ln7, ln8, ln9, ln10, if_true, if_false, ite_not, Decidable.not_not, rb_u2_row, rb_u2_at, rb_u2_ne, ne_eq, Nat.reduceEqDiff, not_false_eq_true, reduceCtorEq]
  by_cases h1 : rb_mk (nI i) x = rb_mk (nI i) (V g 9 (8 * o + i))
  · by_cases h2 : rb_bc (cGiv (rb_u2 (V g) 10 (8 * o + i) x) o m) < V g 11 1
    · simp only [cShowR, cShowC, if_pos h1, if_pos h2]
    · simp only [cShowR, cShowC, if_pos h1, if_neg h2]
  · simp only [cShowR, cShowC, if_neg h1]
theorem m_canShow (hg : g < 12) (ho : o < 8) (hi : i < 8) : rb_G none 48 0 [some (.ref (rb_st g)), some (.int (nI i)), some (.int (nI o))] [] (rb_W V) P ↔ (if ¬ i = o ∧ V g 3 i = 1 ∧ ¬ V g 5 i = 0 ∧ V g 5 o = 1 ∧ V g 10 (8 * o + i) = -9 then P (some (.int 1)) (rb_W V) else P (some (.int 0)) (rb_W V)) := by
  have h4 : (nI i = nI o) ↔ i = o := rb_eqn (by omega) (by omega)
  simp only [r48_0, r48_1, r48_2, r48_5, r48_6, r48_7, r48_10, r48_13, r48_14, r48_15, r48_18, r48_21, r48_22, r48_23, r48_26, r48_29, r48_30, r48_31, r48_32, r48_35, r48_38, r48_39, r48_42, r48_43, m_isOn, m_isBound, m_isHidden, m_isShown, hg, ho, hi, h4, rb_sg_self, rb_sg_sg, List.length_cons, List.length_nil, Nat.reduceAdd, Nat.reduceLeDiff, Nat.reduceLT, Nat.zero_add, Option.toList_some, Option.toList_none, List.cons_append, List.nil_append, rb_bi_eq0, rb_bi_ne0, rb_okv0, rb_okv1, rb_okvb, ln0, ln1, ln2, ln3, ln4, ln5, ln6, ln7, ln8, ln9, ln10, if_true, if_false, ite_not, Decidable.not_not]
  by_cases h1 : i = o
  · simp only [if_pos h1, if_neg (show ¬ (¬ i = o ∧ V g 3 i = 1 ∧ ¬ V g 5 i = 0 ∧ V g 5 o = 1 ∧ V g 10 (8 * o + i) = -9) from fun q => q.1 h1)]
  · by_cases h2 : V g 3 i = 1
    · by_cases h3 : V g 5 i = 0
      · simp only [if_neg h1, if_pos h2, if_pos h3, if_neg (show ¬ (¬ i = o ∧ V g 3 i = 1 ∧ ¬ V g 5 i = 0 ∧ V g 5 o = 1 ∧ V g 10 (8 * o + i) = -9) from fun q => q.2.2.1 h3)]
      · by_cases h5 : V g 5 o = 1
        · by_cases h6 : V g 10 (8 * o + i) = -9
          · simp only [if_neg h1, if_pos h2, if_neg h3, if_pos h5, if_pos h6, if_pos (show ¬ i = o ∧ V g 3 i = 1 ∧ ¬ V g 5 i = 0 ∧ V g 5 o = 1 ∧ V g 10 (8 * o + i) = -9 from ⟨h1, h2, h3, h5, h6⟩)]
          · simp only [if_neg h1, if_pos h2, if_neg h3, if_pos h5, if_neg h6, if_neg (show ¬ (¬ i = o ∧ V g 3 i = 1 ∧ ¬ V g 5 i = 0 ∧ V g 5 o = 1 ∧ V g 10 (8 * o + i) = -9) from fun q => h6 q.2.2.2.2)]
        · simp only [if_neg h1, if_pos h2, if_neg h3, if_neg h5, if_neg (show ¬ (¬ i = o ∧ V g 3 i = 1 ∧ ¬ V g 5 i = 0 ∧ V g 5 o = 1 ∧ V g 10 (8 * o + i) = -9) from fun q => h5 q.2.2.2.1)]
    · simp only [if_neg h1, if_neg h2, if_neg (show ¬ (¬ i = o ∧ V g 3 i = 1 ∧ ¬ V g 5 i = 0 ∧ V g 5 o = 1 ∧ V g 10 (8 * o + i) = -9) from fun q => h2 q.2.1)]
theorem m_mayPublish (hg : g < 12) (ho : o < 8) (hi : i < 8) : rb_G none 47 0 [some (.ref (rb_st g)), some (.int (nI i)), some (.int (nI o))] [] (rb_W V) P ↔ (if V g 11 4 = 2 ∧ ¬ i = o ∧ V g 3 i = 1 ∧ ¬ V g 5 i = 0 ∧ V g 5 o = 1 ∧ V g 10 (8 * o + i) = -9 then P (some (.int 1)) (rb_W V) else P (some (.int 0)) (rb_W V)) := by
  have h10 : ¬ (1 : Int32) = 0 := by decide
  simp only [r47_0, r47_1, r47_4, r47_5, r47_8, r47_9, r47_10, r47_11, r47_14, r47_17, r47_18, r47_21, r47_22, m_canShow, hg, ho, hi, rb_sg_self, rb_sg_sg, List.length_cons, List.length_nil, Nat.reduceAdd, Nat.reduceLeDiff, Nat.reduceLT, Nat.zero_add, Option.toList_some, Option.toList_none, List.cons_append, List.nil_append, rb_bi_eq0, rb_bi_ne0, rb_okv0, rb_okv1, rb_okvb, ln0, ln1, ln2, ln3, ln4, ln5, ln6, ln7, ln8, ln9, ln10, if_true, if_false, ite_not, Decidable.not_not]
  by_cases h1 : V g 11 4 = 2
  · by_cases h2 : ¬ i = o ∧ V g 3 i = 1 ∧ ¬ V g 5 i = 0 ∧ V g 5 o = 1 ∧ V g 10 (8 * o + i) = -9
    · simp only [if_pos h1, if_pos h2, if_pos (And.intro h1 h2), if_neg h10]
    · simp only [if_pos h1, if_neg h2, if_neg (show ¬ (V g 11 4 = 2 ∧ ¬ i = o ∧ V g 3 i = 1 ∧ ¬ V g 5 i = 0 ∧ V g 5 o = 1 ∧ V g 10 (8 * o + i) = -9) from fun q => h2 q.2), if_true]
  · simp only [if_neg h1, if_neg (show ¬ (V g 11 4 = 2 ∧ ¬ i = o ∧ V g 3 i = 1 ∧ ¬ V g 5 i = 0 ∧ V g 5 o = 1 ∧ V g 10 (8 * o + i) = -9) from fun q => h1 q.1)]
theorem m_mayReveal (hg : g < 12) (hi : i < 8) : rb_G none 40 0 [some (.ref (rb_st g)), some (.int (nI i))] [] (rb_W V) P ↔ (if V g 11 4 = 1 ∧ V g 3 i = 1 ∧ V g 5 i = 1 then P (some (.int 1)) (rb_W V) else P (some (.int 0)) (rb_W V)) := by
  simp only [r40_0, r40_1, r40_4, r40_5, r40_8, r40_9, r40_10, r40_13, r40_16, r40_17, r40_18, r40_21, r40_24, r40_25, r40_28, r40_29, m_isOn, m_isHidden, hg, hi, rb_sg_self, rb_sg_sg, List.length_cons, List.length_nil, Nat.reduceAdd, Nat.reduceLeDiff, Nat.reduceLT, Nat.zero_add, Option.toList_some, Option.toList_none, List.cons_append, List.nil_append, rb_bi_eq0, rb_bi_ne0, rb_okv0, rb_okv1, rb_okvb, ln0, ln1, ln2, ln3, ln4, ln5, ln6, ln7, ln8, ln9, ln10, if_true, if_false, ite_not, Decidable.not_not]
  by_cases h1 : V g 11 4 = 1
  · by_cases h2 : V g 3 i = 1
    · by_cases h3 : V g 5 i = 1
      · simp only [if_pos h1, if_pos h2, if_pos h3, if_pos (show V g 11 4 = 1 ∧ V g 3 i = 1 ∧ V g 5 i = 1 from ⟨h1, h2, h3⟩)]
      · simp only [if_pos h1, if_pos h2, if_neg h3, if_neg (show ¬ (V g 11 4 = 1 ∧ V g 3 i = 1 ∧ V g 5 i = 1) from fun q => h3 q.2.2)]
    · simp only [if_pos h1, if_neg h2, if_neg (show ¬ (V g 11 4 = 1 ∧ V g 3 i = 1 ∧ V g 5 i = 1) from fun q => h2 q.2.1)]
  · simp only [if_neg h1, if_neg (show ¬ (V g 11 4 = 1 ∧ V g 3 i = 1 ∧ V g 5 i = 1) from fun q => h1 q.1)]
theorem m_open {s v : Int32} (hg : g < 12) (hi : i < 8) : rb_G none 42 0 [some (.ref (rb_st g)), some (.int (nI i)), some (.int s), some (.int v)] [] (rb_W V) P ↔ (if rb_cm (nI i) s v = V g 6 i then P (some (.int 1)) (rb_W (rb_sg V g (cLearn (V g) i s 2))) else P (some (.int 0)) (rb_W (rb_sg V g (cFine (V g) i (V g 0 4))))) := by
  simp only [r42_0, r42_1, r42_2, r42_3, r42_6, r42_7, r42_10, r42_11, r42_14, r42_17, r42_18, r42_19, r42_20, r42_23, r42_24, r42_27, r42_30, r42_31, r42_32, r42_33, r42_34, r42_35, r42_36, r42_39, r42_40, show (4 : Int32) = nI 4 from rfl, m_cm, m_at, m_fine, m_learn, hg, hi, rb_sg_self, rb_sg_sg, List.length_cons, List.length_nil, Nat.reduceAdd, Nat.reduceLeDiff, Nat.reduceLT, Nat.zero_add, Option.toList_some, Option.toList_none, List.cons_append, List.nil_append, rb_bi_eq0, rb_bi_ne0, rb_okv0, rb_okv1, rb_okvb, ln0, ln1, ln2, ln3, ln4, ln5, ln6, ln7, ln8, ln9, ln10, if_true, if_false, ite_not, Decidable.not_not]
theorem m_draw (hg : g < 12) : rb_G none 36 0 [some (.ref (rb_st g))] [] (rb_W V) P ↔ P (some (.int (rb_dr (rb_sd (V g 11 7))))) (rb_W (rb_sg V g (cDraw (V g)))) := by
  have h1 : ¬ (2147483648 : Int64) = 0 := by decide
  have h2 : ¬ (65536 : Int32) = 0 := by decide
  have h3 : ¬ (257 : Int32) = 0 := by decide
  simp only [r36_0, r36_1, r36_4, r36_5, r36_8, r36_9, r36_10, r36_13, r36_14, r36_17, r36_18, r36_19, r36_22, r36_23, r36_26, r36_28, r36_29, r36_32, r36_33, hg, h1, h2, h3, not_false_eq_true, rb_sg_self, rb_sg_sg, List.length_cons, List.length_nil, Nat.reduceAdd, Nat.reduceLeDiff, Nat.reduceLT, Nat.zero_add, Option.toList_some, Option.toList_none, List.cons_append, List.nil_append, rb_bi_eq0, rb_bi_ne0, rb_okv0, rb_okv1, rb_okvb, ln0, ln1, ln2, ln3, ln4, ln5, ln6, ln7, ln8, ln9, ln10, if_true, if_false, ite_not, Decidable.not_not, rb_u2_row, rb_u2_at, rb_u2_ne, ne_eq, Nat.reduceEqDiff, not_false_eq_true, reduceCtorEq, cDraw, rb_dr, rb_sd]
theorem cDeal0_11 (c : Nat → Nat → Int32) (o : Nat) (s : Int32) (k : Nat) : ∀ j, cDeal0 c o s j 11 k = c 11 k
  | 0 => rfl
  | j + 1 => by unfold cDeal0; rw [rb_u2_row (by decide)]; exact cDeal0_11 c o s k j
theorem cDealI_11 (c : Nat → Nat → Int32) (o : Nat) (q : Int32) (p k : Nat) : ∀ j, cDealI c o q p j 11 k = c 11 k
  | 0 => rfl
  | j + 1 => by unfold cDealI; rw [rb_u2_row (by decide)]; exact cDealI_11 c o q p k j
theorem cDealP_11 (c : Nat → Nat → Int32) (o m k : Nat) (hk : ¬ k = 7) : ∀ p, cDealP c o m p 11 k = c 11 k
  | 0 => rfl
  | p + 1 => by unfold cDealP; rw [cDealI_11]; unfold cDraw; rw [rb_u2_ne hk]; exact cDealP_11 c o m k hk p
theorem m_deal {s : Int32} (hg : g < 12) (ho : o < 8) (hm : V g 11 0 = nI m) (hm8 : m ≤ 8) (ht : V g 11 1 = nI t) (ht1 : 1 ≤ t) (ht8 : t ≤ 8) : rb_G none 34 0 [some (.ref (rb_st g)), some (.int (nI o)), some (.int s), none, none, none, none] [] (rb_W V) P ↔ P none (rb_W (rb_sg V g (cDeal (V g) o s m t))) := by
  have h257 : ¬ (257 : Int32) = 0 := by decide
  simp only [r34_0, r34_1]
  have key := rb_loop (Q := fun j => rb_G none 34 2 [some (.ref (rb_st g)), some (.int (nI o)), some (.int s), some (.int (nI j)), none, none, none] [] (rb_W (rb_sg V g (cDeal0 (V g) o s j))) P) m (fun j hj => by
    have h2 : ¬ nI m ≤ nI j := nI_ge hj (by omega)
    have hj8 : j < 8 := by omega
    have h64 : 8 * o + j < 64 := by omega
    have hm' : cDeal0 (V g) o s j 11 0 = nI m := by rw [cDeal0_11]; exact hm
    show rb_G none 34 2 _ _ _ _ ↔ _
    rw [r34_2]
    simp only [r34_3, r34_4, r34_7, r34_10, r34_11, r34_14, r34_15, r34_16, r34_19, r34_20, r34_23, r34_26, m_cell, m_put (a2 := none), hg, ho, hj8, h64, hm', h2, rb_sg_self, rb_sg_sg, List.length_cons, List.length_nil, Nat.reduceAdd, Nat.reduceLeDiff, Nat.reduceLT, Nat.zero_add, Option.toList_some, Option.toList_none, List.cons_append, List.nil_append, rb_bi_eq0, rb_bi_ne0, rb_okv0, rb_okv1, rb_okvb, ln0, ln1, ln2, ln3, ln4, ln5, ln6, ln7, ln8, ln9, ln10, if_true, if_false, ite_not, Decidable.not_not, nI_1, cDeal0])
  simp only [nI_0, cDeal0, rb_sg_id] at key
  rw [key]
  have h3 : nI m ≤ nI m := nI_le (Nat.le_refl m) (by omega)
  have hm0 : cDeal0 (V g) o s m 11 0 = nI m := by rw [cDeal0_11]; exact hm
  have ht0 : cDeal0 (V g) o s m 11 1 = nI t := by rw [cDeal0_11]; exact ht
  rw [r34_2]
  simp only [r34_3, r34_4, r34_7, r34_10, r34_11, r34_14, r34_15, r34_16, r34_19, r34_20, r34_23, r34_26, r34_29, r34_30, hg, hm0, h3, if_true, rb_sg_self, rb_sg_sg, List.length_cons, List.length_nil, Nat.reduceAdd, Nat.reduceLeDiff, Nat.reduceLT, Nat.zero_add, Option.toList_some, Option.toList_none, List.cons_append, List.nil_append, rb_bi_eq0, rb_bi_ne0, rb_okv0, rb_okv1, rb_okvb, ln0, ln1, ln2, ln3, ln4, ln5, ln6, ln7, ln8, ln9, ln10, if_true, if_false, ite_not, Decidable.not_not]
  have key2 := rb_loopR (α := Option Value × Option Value × Option Value) (Q := fun p a => rb_G none 34 31 [some (.ref (rb_st g)), some (.int (nI o)), some (.int s), some (.int (nI (p + 1))), a.1, a.2.1, a.2.2] [] (rb_W (rb_sg V g (cDealP (cDeal0 (V g) o s m) o m p))) P) (R := P none (rb_W (rb_sg V g (cDeal (V g) o s m t)))) (t - 1) (fun a => by
    have h4 : nI t ≤ nI (t - 1 + 1) := nI_le (by omega) (by omega)
    have ht' : cDealP (cDeal0 (V g) o s m) o m (t - 1) 11 1 = nI t := by rw [cDealP_11 _ _ _ _ (by decide)]; exact ht0
    show rb_G none 34 31 _ _ _ _ ↔ _
    rw [r34_31]
    simp only [r34_32, r34_33, r34_36, r34_109, hg, ht', h4, if_true, rb_sg_self, rb_sg_sg, List.length_cons, List.length_nil, Nat.reduceAdd, Nat.reduceLeDiff, Nat.reduceLT, Nat.zero_add, Option.toList_some, Option.toList_none, List.cons_append, List.nil_append, rb_bi_eq0, rb_bi_ne0, rb_okv0, rb_okv1, rb_okvb, ln0, ln1, ln2, ln3, ln4, ln5, ln6, ln7, ln8, ln9, ln10, if_true, if_false, ite_not, Decidable.not_not, cDeal]) (fun p hp ih a => by
    have h4 : ¬ nI t ≤ nI (p + 1) := nI_ge (by omega) (by omega)
    have hp64 : p + 1 < 64 := by omega
    have ht' : cDealP (cDeal0 (V g) o s m) o m p 11 1 = nI t := by rw [cDealP_11 _ _ _ _ (by decide)]; exact ht0
    have hm' : cDealP (cDeal0 (V g) o s m) o m p 11 0 = nI m := by rw [cDealP_11 _ _ _ _ (by decide)]; exact hm0
    show rb_G none 34 31 _ _ _ _ ↔ _
    rw [r34_31]
    simp only [r34_32, r34_33, r34_36, r34_39, r34_40, r34_43, r34_45, r34_46, m_draw, hg, ht', h4, rb_sg_self, rb_sg_sg, List.length_cons, List.length_nil, Nat.reduceAdd, Nat.reduceLeDiff, Nat.reduceLT, Nat.zero_add, Option.toList_some, Option.toList_none, List.cons_append, List.nil_append, rb_bi_eq0, rb_bi_ne0, rb_okv0, rb_okv1, rb_okvb, ln0, ln1, ln2, ln3, ln4, ln5, ln6, ln7, ln8, ln9, ln10, if_true, if_false, ite_not, Decidable.not_not]
    have inner := rb_loopR (α := Option Value) (Q := fun j a6 => rb_G none 34 48 [some (.ref (rb_st g)), some (.int (nI o)), some (.int s), some (.int (nI (p + 1))), some (.int (rb_dr (rb_sd (cDealP (cDeal0 (V g) o s m) o m p 11 7)))), some (.int (nI j)), a6] [] (rb_W (rb_sg V g (cDealI (cDraw (cDealP (cDeal0 (V g) o s m) o m p)) o (rb_dr (rb_sd (cDealP (cDeal0 (V g) o s m) o m p 11 7))) (p + 1) j))) P) (R := P none (rb_W (rb_sg V g (cDeal (V g) o s m t)))) m (fun a6 => by
      have h5 : cDealI (cDraw (cDealP (cDeal0 (V g) o s m) o m p)) o (rb_dr (rb_sd (cDealP (cDeal0 (V g) o s m) o m p 11 7))) (p + 1) m 11 0 = nI m := by
        rw [cDealI_11]; unfold cDraw; rw [rb_u2_ne (by decide)]; exact hm'
      show rb_G none 34 48 _ _ _ _ ↔ _
      rw [r34_48]
      simp only [r34_50, r34_51, r34_54, r34_103, r34_106, hg, h5, h3, if_true, rb_sg_self, rb_sg_sg, List.length_cons, List.length_nil, Nat.reduceAdd, Nat.reduceLeDiff, Nat.reduceLT, Nat.zero_add, Option.toList_some, Option.toList_none, List.cons_append, List.nil_append, rb_bi_eq0, rb_bi_ne0, rb_okv0, rb_okv1, rb_okvb, ln0, ln1, ln2, ln3, ln4, ln5, ln6, ln7, ln8, ln9, ln10, if_true, if_false, ite_not, Decidable.not_not, nI_1]
      exact ih (_, _, _)) (fun j hj ihj a6 => by
      have h5 : cDealI (cDraw (cDealP (cDeal0 (V g) o s m) o m p)) o (rb_dr (rb_sd (cDealP (cDeal0 (V g) o s m) o m p 11 7))) (p + 1) j 11 0 = nI m := by
        rw [cDealI_11]; unfold cDraw; rw [rb_u2_ne (by decide)]; exact hm'
      have h6 : ¬ nI m ≤ nI j := nI_ge hj (by omega)
      have hj8 : j < 8 := by omega
      have h64 : 8 * o + j < 64 := by omega
      show rb_G none 34 48 _ _ _ _ ↔ _
      rw [r34_48]
      simp only [r34_50, r34_51, r34_54, r34_57, r34_58, r34_59, r34_61, r34_64, r34_66, r34_68, r34_69, r34_70, r34_71, r34_74, r34_75, r34_76, r34_78, r34_79, r34_82, r34_83, r34_85, r34_88, r34_90, r34_93, r34_94, r34_97, r34_100, m_trueShare, m_raise, m_cell, m_put (a2 := none), hg, ho, hj8, h64, hp64, h5, h6, h257, not_false_eq_true, rb_sg_self, rb_sg_sg, List.length_cons, List.length_nil, Nat.reduceAdd, Nat.reduceLeDiff, Nat.reduceLT, Nat.zero_add, Option.toList_some, Option.toList_none, List.cons_append, List.nil_append, rb_bi_eq0, rb_bi_ne0, rb_okv0, rb_okv1, rb_okvb, ln0, ln1, ln2, ln3, ln4, ln5, ln6, ln7, ln8, ln9, ln10, if_true, if_false, ite_not, Decidable.not_not, nI_1]
      exact ihj _)
    have := inner a.2.2
    simp only [nI_0, cDealI] at this
    exact this)
  have := key2 (none, none, none)
  simp only [cDealP] at this
  exact this
end RBM
