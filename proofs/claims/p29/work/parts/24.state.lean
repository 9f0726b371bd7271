/-! THE METHODS' ANSWERS, 5: rounds -/
noncomputable def cShowI (s : Int32) (o m : Nat) (c : Nat → Nat → Int32) : Nat → Nat → Nat → Int32
  | 0 => c
  | i + 1 => if ¬ nI i = s ∧ ¬ i = o ∧ cShowI s o m c i 3 i = 1 ∧ ¬ cShowI s o m c i 5 i = 0 ∧ cShowI s o m c i 5 o = 1 ∧ cShowI s o m c i 10 (8 * o + i) = -9 then cShowC (cShowI s o m c i) i o (cShowI s o m c i 9 (8 * o + i)) m else cShowI s o m c i
noncomputable def cShowA (s : Int32) (m : Nat) (c : Nat → Nat → Int32) : Nat → Nat → Nat → Int32
  | 0 => c
  | o + 1 => cShowI s o m (cShowA s m c o) m
def cUncov (s : Int32) (c : Nat → Nat → Int32) : Nat → Nat → Nat → Int32
  | 0 => c
  | i + 1 => if ¬ nI i = s ∧ cUncov s c i 3 i = 1 ∧ cUncov s c i 5 i = 1 then cLearn (cUncov s c i) i (cUncov s c i 7 i) 2 else cUncov s c i
def cFineS (c : Nat → Nat → Int32) : Nat → Nat → Nat → Int32
  | 0 => c
  | i + 1 => if cFineS c i 5 i = 1 then cFine (cFineS c i) i (cFineS c i 0 3) else cFineS c i
def cPayL (c : Nat → Nat → Int32) (q : Int32) : Nat → Nat → Nat → Int32
  | 0 => c
  | i + 1 => if cPayL c q i 5 i = 2 then rb_u2 (rb_u2 (cPayL c q i) 2 i (cPayL c q i 2 i + q)) 11 6 (cPayL c q i 11 6 - q) else cPayL c q i
def cPay (c : Nat → Nat → Int32) (m : Nat) : Nat → Nat → Int32 := if cCount c 2 m < 1 then c else cPayL c (c 11 6 / cCount c 2 m) m
def cClose (c : Nat → Nat → Int32) (m rd : Nat) : Nat → Nat → Int32 := rb_u2 (cPay (cEnter c 3) m) 1 rd (cOut (cPay (cEnter c 3) m) m)
def cEnd0 (c : Nat → Nat → Int32) (m : Nat) : Nat → Nat → Int32 := cEnter c (if 2 ≤ cBound c m then 1 else 3)
def cEnd1 (c : Nat → Nat → Int32) (m rd : Nat) : Nat → Nat → Int32 := if cCount (cFineS c m) 1 m ≤ 0 then cClose (cFineS c m) m rd else cEnter (cFineS c m) 2
def cStart (c : Nat → Nat → Int32) (rd : Nat) : Nat → Nat → Int32 := rb_u1 (rb_u1 (rb_u2 (cEnter c 0) 1 rd (-9)) 5 (rb_fl1 (c 5) 8 0)) 10 (rb_fl1 (c 10) 64 (-9))
def cTime (c : Nat → Nat → Int32) : Nat → Nat → Int32 := rb_u2 (rb_u2 c 11 2 (c 11 2 + 1)) 11 5 (c 11 5 + 1)
def cScal (c d : Nat → Nat → Int32) : Nat → Nat → Int32 := rb_u2 (rb_u2 (rb_u2 (rb_u2 (rb_u2 (rb_u2 (rb_u2 (rb_u2 c 11 0 (d 11 0)) 11 1 (d 11 1)) 11 2 (d 11 2)) 11 3 (d 11 3)) 11 4 (d 11 4)) 11 5 (d 11 5)) 11 6 (d 11 6)) 11 7 (d 11 7)
def cCopy (c d : Nat → Nat → Int32) : Nat → Nat → Int32 := rb_u1 (rb_u1 (rb_u1 (rb_u1 (rb_u1 (rb_u1 (rb_u1 (rb_u1 (rb_u1 (rb_u1 (rb_u1 (cScal c d) 0 (d 0)) 1 (d 1)) 2 (d 2)) 3 (d 3)) 4 (d 4)) 5 (d 5)) 6 (d 6)) 7 (d 7)) 8 (d 8)) 9 (d 9)) 10 (d 10)
def cRest (c : Nat → Nat → Int32) (m t : Int32) : Nat → Nat → Int32 := cStart (rb_u1 (rb_u1 (rb_u1 (rb_u2 (rb_u2 (rb_u2 (rb_u2 (rb_u2 c 11 0 m) 11 1 t) 11 2 0) 11 3 0) 11 6 0) 2 (rb_fl1 (c 2) 8 20)) 3 (rb_fl1 (c 3) 8 1)) 4 (rb_fl1 (c 4) 8 0)) 0
theorem rb_u1_row {c : Nat → Nat → Int32} {r r' : Nat} {f : Nat → Int32} (h : ¬ r' = r) : rb_u1 c r f r' = c r' := rb_u1_ne _ _ h
theorem cFine_11 (c : Nat → Nat → Int32) (i : Nat) (a : Int32) (k : Nat) (hk : ¬ k = 6) : cFine c i a 11 k = c 11 k := by
  unfold cFine; rw [rb_u2_row (by decide), rb_u2_ne hk, rb_u2_row (by decide)]
theorem cLearn_11 (c : Nat → Nat → Int32) (i : Nat) (x z : Int32) (k : Nat) : cLearn c i x z 11 k = c 11 k := by
  unfold cLearn; rw [rb_u2_row (by decide), rb_u2_row (by decide)]
theorem cShowC_11 (c : Nat → Nat → Int32) (i o : Nat) (x : Int32) (m k : Nat) (hk : ¬ k = 6) : cShowC c i o x m 11 k = c 11 k := by
  unfold cShowC
  split
  · split
    · rw [rb_u2_row (by decide)]
    · rw [cLearn_11, rb_u2_row (by decide)]
  · exact cFine_11 c i _ k hk
theorem cShowI_11 (s : Int32) (o m : Nat) (c : Nat → Nat → Int32) (k : Nat) (hk : ¬ k = 6) : ∀ i, cShowI s o m c i 11 k = c 11 k
  | 0 => rfl
  | i + 1 => by
    unfold cShowI
    split
    · rw [cShowC_11 _ _ _ _ _ _ hk]; exact cShowI_11 s o m c k hk i
    · exact cShowI_11 s o m c k hk i
theorem cShowA_11 (s : Int32) (m : Nat) (c : Nat → Nat → Int32) (k : Nat) (hk : ¬ k = 6) : ∀ o, cShowA s m c o 11 k = c 11 k
  | 0 => rfl
  | o + 1 => by unfold cShowA; rw [cShowI_11 _ _ _ _ _ hk]; exact cShowA_11 s m c k hk o
theorem cUncov_11 (s : Int32) (c : Nat → Nat → Int32) (k : Nat) : ∀ i, cUncov s c i 11 k = c 11 k
  | 0 => rfl
  | i + 1 => by
    unfold cUncov
    split
    · rw [cLearn_11]; exact cUncov_11 s c k i
    · exact cUncov_11 s c k i
theorem cFineS_11 (c : Nat → Nat → Int32) (k : Nat) (hk : ¬ k = 6) : ∀ i, cFineS c i 11 k = c 11 k
  | 0 => rfl
  | i + 1 => by
    unfold cFineS
    split
    · rw [cFine_11 _ _ _ _ hk]; exact cFineS_11 c k hk i
    · exact cFineS_11 c k hk i
theorem cPayL_11 (c : Nat → Nat → Int32) (q : Int32) (k : Nat) (hk : ¬ k = 6) : ∀ i, cPayL c q i 11 k = c 11 k
  | 0 => rfl
  | i + 1 => by
    unfold cPayL
    split
    · rw [rb_u2_ne hk, rb_u2_row (by decide)]; exact cPayL_11 c q k hk i
    · exact cPayL_11 c q k hk i
theorem cPay_11 (c : Nat → Nat → Int32) (m k : Nat) (hk : ¬ k = 6) : cPay c m 11 k = c 11 k := by
  unfold cPay
  split
  · rfl
  · exact cPayL_11 _ _ _ hk m
theorem cEnter_11 (c : Nat → Nat → Int32) (x : Int32) (k : Nat) (h4 : ¬ k = 4) (h5 : ¬ k = 5) : cEnter c x 11 k = c 11 k := by
  unfold cEnter; rw [rb_u2_ne h5, rb_u2_ne h4]
section RBM
variable {V : rb_V} {P : Option Value → rb_M → Prop} {g r j i o m t rd : Nat}
/-- a state's method over one state of the world made other -/
theorem rb_at_sg {Q : rb_V → (Option Value → rb_M → Prop) → Prop} {c : Nat → Nat → Int32} (h : ∀ V P, V g = c → Q V P) : Q (rb_sg V g c) P := h _ _ (rb_sg_self V g c)
theorem m_bind {s v : Int32} (hg : g < 12) (hi : i < 8) (hm : V g 11 0 = nI m) (hm8 : m ≤ 8) (ht : V g 11 1 = nI t) (ht1 : 1 ≤ t) (ht8 : t ≤ 8) : rb_G none 66 0 [some (.ref (rb_st g)), some (.int (nI i)), some (.int s), some (.int v)] [] (rb_W V) P ↔ P none (rb_W (rb_sg V g (cBind (V g) i s v m t))) := by
  have hd : ∀ {P' : Option Value → rb_M → Prop}, rb_G none 68 0 [some (.ref (rb_st g)), some (.int (nI i)), some (.int s), none, none, none, none] [] (rb_W (rb_sg V g (rb_u2 (rb_u2 (rb_u2 (V g) 6 i (rb_cm (nI i) s v)) 7 i s) 5 i 1))) P' ↔ P' none (rb_W (rb_sg V g (cBind (V g) i s v m t))) := by
    intro P'
    have := m_deal (V := rb_sg V g (rb_u2 (rb_u2 (rb_u2 (V g) 6 i (rb_cm (nI i) s v)) 7 i s) 5 i 1)) (P := P') (m := m) (t := t) (s := s) hg hi (by rw [rb_sg_self, rb_u2_row (by decide), rb_u2_row (by decide), rb_u2_row (by decide)]; exact hm) hm8 (by rw [rb_sg_self, rb_u2_row (by decide), rb_u2_row (by decide), rb_u2_row (by decide)]; exact ht) ht1 ht8
    rw [rb_sg_self, rb_sg_sg] at this
    exact this
  simp only [r66_0, r66_1, r66_4, r66_5, r66_6, r66_7, r66_8, r66_11, r66_14, r66_15, r66_18, r66_19, r66_20, r66_23, r66_24, r66_27, r66_28, r66_29, r66_32, r66_33, r66_34, r66_35, r66_38, m_cm, m_put (a2 := none), hd, hg, hi, rb_sg_self, rb_sg_sg, List.length_cons, List.length_nil, Nat.reduceAdd, Nat.reduceLeDiff, Nat.reduceLT, Nat.zero_add, Option.toList_some, Option.toList_none, List.cons_append, List.nil_append, rb_bi_eq0, rb_bi_ne0, rb_okv0, rb_okv1, rb_okvb, ln0, ln1, ln2, ln3, ln4, ln5, ln6, ln7, ln8, ln9, ln10, if_true, if_false, ite_not, Decidable.not_not]
theorem m_showAll {s : Int32} (hg : g < 12) (hm : V g 11 0 = nI m) (hm8 : m ≤ 8) : rb_G none 36 0 [some (.ref (rb_st g)), some (.int s), none, none] [] (rb_W V) P ↔ P none (rb_W (rb_sg V g (cShowA s m (V g) m))) := by
  simp only [r36_0, r36_1]
  have h3 : nI m ≤ nI m := nI_le (Nat.le_refl m) (by omega)
  have h10 : ¬ (1 : Int32) = 0 := by decide
  have key := rb_loopR (α := Option Value) (Q := fun o a3 => rb_G none 36 2 [some (.ref (rb_st g)), some (.int s), some (.int (nI o)), a3] [] (rb_W (rb_sg V g (cShowA s m (V g) o))) P) (R := P none (rb_W (rb_sg V g (cShowA s m (V g) m)))) m (fun a3 => by
    have hm' : cShowA s m (V g) m 11 0 = nI m := by rw [cShowA_11 _ _ _ _ (by decide)]; exact hm
    show rb_G none 36 2 _ _ _ _ ↔ _
    simp only [r36_2, r36_3, r36_4, r36_7, r36_59, hg, hm', h3, rb_sg_self, rb_sg_sg, List.length_cons, List.length_nil, Nat.reduceAdd, Nat.reduceLeDiff, Nat.reduceLT, Nat.zero_add, Option.toList_some, Option.toList_none, List.cons_append, List.nil_append, rb_bi_eq0, rb_bi_ne0, rb_okv0, rb_okv1, rb_okvb, ln0, ln1, ln2, ln3, ln4, ln5, ln6, ln7, ln8, ln9, ln10, if_true, if_false, ite_not, Decidable.not_not]) (fun o ho ih a3 => by
    have h4 : ¬ nI m ≤ nI o := nI_ge ho (by omega)
    have ho8 : o < 8 := by omega
    have hm' : cShowA s m (V g) o 11 0 = nI m := by rw [cShowA_11 _ _ _ _ (by decide)]; exact hm
    show rb_G none 36 2 _ _ _ _ ↔ _
    simp only [r36_2, r36_3, r36_4, r36_7, r36_10, r36_11, hg, hm', h4, rb_sg_self, rb_sg_sg, List.length_cons, List.length_nil, Nat.reduceAdd, Nat.reduceLeDiff, Nat.reduceLT, Nat.zero_add, Option.toList_some, Option.toList_none, List.cons_append, List.nil_append, rb_bi_eq0, rb_bi_ne0, rb_okv0, rb_okv1, rb_okvb, ln0, ln1, ln2, ln3, ln4, ln5, ln6, ln7, ln8, ln9, ln10, if_true, if_false, ite_not, Decidable.not_not]
    have inner := rb_loop (Q := fun i => rb_G none 36 12 [some (.ref (rb_st g)), some (.int s), some (.int (nI o)), some (.int (nI i))] [] (rb_W (rb_sg V g (cShowI s o m (cShowA s m (V g) o) i))) P) m (fun i hi => by
      have h5 : ¬ nI m ≤ nI i := nI_ge hi (by omega)
      have hi8 : i < 8 := by omega
      have hm2 : cShowI s o m (cShowA s m (V g) o) i 11 0 = nI m := by rw [cShowI_11 _ _ _ _ _ (by decide)]; exact hm'
      have hsh : ∀ {P' : Option Value → rb_M → Prop} {x : Int32}, rb_G none 39 0 [some (.ref (rb_st g)), some (.int (nI i)), some (.int (nI o)), some (.int x), none, none] [] (rb_W (rb_sg V g (cShowI s o m (cShowA s m (V g) o) i))) P' ↔ P' (some (.int (cShowR (cShowI s o m (cShowA s m (V g) o) i) i o x m))) (rb_W (rb_sg V g (cShowC (cShowI s o m (cShowA s m (V g) o) i) i o x m))) := by
        intro P' x
        have := m_show (V := rb_sg V g (cShowI s o m (cShowA s m (V g) o) i)) (P := P') (x := x) (m := m) hg ho8 hi8 (by rw [rb_sg_self]; exact hm2) hm8
        rw [rb_sg_self, rb_sg_sg] at this
        exact this
      show rb_G none 36 12 _ _ _ _ ↔ _
      rw [r36_12]
      simp only [r36_13, r36_14, r36_17, r36_20, r36_21, r36_22, r36_25, r36_26, r36_27, r36_28, r36_31, r36_34, r36_35, r36_36, r36_37, r36_38, r36_39, r36_40, r36_43, r36_46, r36_47, r36_50, m_canShow, m_trueShare, hsh, hg, ho8, hi8, hm2, h5, h10, rb_sg_self, rb_sg_sg, List.length_cons, List.length_nil, Nat.reduceAdd, Nat.reduceLeDiff, Nat.reduceLT, Nat.zero_add, Option.toList_some, Option.toList_none, List.cons_append, List.nil_append, rb_bi_eq0, rb_bi_ne0, rb_okv0, rb_okv1, rb_okvb, ln0, ln1, ln2, ln3, ln4, ln5, ln6, ln7, ln8, ln9, ln10, if_true, if_false, ite_not, Decidable.not_not, nI_1]
      by_cases h6 : nI i = s
      · simp only [if_pos h6, cShowI, if_neg (show ¬ (¬ nI i = s ∧ ¬ i = o ∧ cShowI s o m (cShowA s m (V g) o) i 3 i = 1 ∧ ¬ cShowI s o m (cShowA s m (V g) o) i 5 i = 0 ∧ cShowI s o m (cShowA s m (V g) o) i 5 o = 1 ∧ cShowI s o m (cShowA s m (V g) o) i 10 (8 * o + i) = -9) from fun q => q.1 h6)]
      · by_cases h7 : ¬ i = o ∧ cShowI s o m (cShowA s m (V g) o) i 3 i = 1 ∧ ¬ cShowI s o m (cShowA s m (V g) o) i 5 i = 0 ∧ cShowI s o m (cShowA s m (V g) o) i 5 o = 1 ∧ cShowI s o m (cShowA s m (V g) o) i 10 (8 * o + i) = -9
        · simp only [if_neg h6, if_pos h7, cShowI, if_pos (And.intro h6 h7)]
        · simp only [if_neg h6, if_neg h7, cShowI, if_neg (show ¬ (¬ nI i = s ∧ ¬ i = o ∧ cShowI s o m (cShowA s m (V g) o) i 3 i = 1 ∧ ¬ cShowI s o m (cShowA s m (V g) o) i 5 i = 0 ∧ cShowI s o m (cShowA s m (V g) o) i 5 o = 1 ∧ cShowI s o m (cShowA s m (V g) o) i 10 (8 * o + i) = -9) from fun q => h7 q.2)])
    simp only [nI_0, cShowI] at inner
    rw [inner]
    have hm3 : cShowI s o m (cShowA s m (V g) o) m 11 0 = nI m := by rw [cShowI_11 _ _ _ _ _ (by decide)]; exact hm'
    rw [r36_12]
    simp only [r36_13, r36_14, r36_17, r36_53, r36_56, hg, hm3, h3, rb_sg_self, rb_sg_sg, List.length_cons, List.length_nil, Nat.reduceAdd, Nat.reduceLeDiff, Nat.reduceLT, Nat.zero_add, Option.toList_some, Option.toList_none, List.cons_append, List.nil_append, rb_bi_eq0, rb_bi_ne0, rb_okv0, rb_okv1, rb_okvb, ln0, ln1, ln2, ln3, ln4, ln5, ln6, ln7, ln8, ln9, ln10, if_true, if_false, ite_not, Decidable.not_not, nI_1]
    exact ih _)
  have := key none
  simp only [nI_0, cShowA, rb_sg_id] at this
  exact this
theorem m_uncoverAllBut {s : Int32} (hg : g < 12) (hm : V g 11 0 = nI m) (hm8 : m ≤ 8) : rb_G none 33 0 [some (.ref (rb_st g)), some (.int s), none] [] (rb_W V) P ↔ P none (rb_W (rb_sg V g (cUncov s (V g) m))) := by
  simp only [r33_0, r33_1]
  have h3 : nI m ≤ nI m := nI_le (Nat.le_refl m) (by omega)
  have key := rb_loop (Q := fun i => rb_G none 33 2 [some (.ref (rb_st g)), some (.int s), some (.int (nI i))] [] (rb_W (rb_sg V g (cUncov s (V g) i))) P) m (fun i hi => by
    have h5 : ¬ nI m ≤ nI i := nI_ge hi (by omega)
    have hi8 : i < 8 := by omega
    have hm2 : cUncov s (V g) i 11 0 = nI m := by rw [cUncov_11]; exact hm
    show rb_G none 33 2 _ _ _ _ ↔ _
    rw [r33_2]
    simp only [r33_3, r33_4, r33_7, r33_10, r33_11, r33_12, r33_15, r33_16, r33_17, r33_20, r33_23, r33_24, r33_25, r33_28, r33_31, r33_32, r33_33, r33_36, r33_39, m_isOn, m_isHidden, m_uncover, hg, hi8, hm2, h5, rb_sg_self, rb_sg_sg, List.length_cons, List.length_nil, Nat.reduceAdd, Nat.reduceLeDiff, Nat.reduceLT, Nat.zero_add, Option.toList_some, Option.toList_none, List.cons_append, List.nil_append, rb_bi_eq0, rb_bi_ne0, rb_okv0, rb_okv1, rb_okvb, ln0, ln1, ln2, ln3, ln4, ln5, ln6, ln7, ln8, ln9, ln10, if_true, if_false, ite_not, Decidable.not_not, nI_1]
    by_cases h6 : nI i = s
    · simp only [if_pos h6, cUncov, if_neg (show ¬ (¬ nI i = s ∧ cUncov s (V g) i 3 i = 1 ∧ cUncov s (V g) i 5 i = 1) from fun q => q.1 h6)]
    · by_cases h7 : cUncov s (V g) i 3 i = 1
      · by_cases h8 : cUncov s (V g) i 5 i = 1
        · simp only [if_neg h6, if_pos h7, if_pos h8, cUncov, if_pos (show ¬ nI i = s ∧ cUncov s (V g) i 3 i = 1 ∧ cUncov s (V g) i 5 i = 1 from ⟨h6, h7, h8⟩)]
        · simp only [if_neg h6, if_pos h7, if_neg h8, cUncov, if_neg (show ¬ (¬ nI i = s ∧ cUncov s (V g) i 3 i = 1 ∧ cUncov s (V g) i 5 i = 1) from fun q => h8 q.2.2)]
      · simp only [if_neg h6, if_neg h7, cUncov, if_neg (show ¬ (¬ nI i = s ∧ cUncov s (V g) i 3 i = 1 ∧ cUncov s (V g) i 5 i = 1) from fun q => h7 q.2.1)])
  simp only [nI_0, cUncov, rb_sg_id] at key
  rw [key]
  have hm3 : cUncov s (V g) m 11 0 = nI m := by rw [cUncov_11]; exact hm
  simp only [r33_2, r33_3, r33_4, r33_7, r33_42, hg, hm3, h3, rb_sg_self, rb_sg_sg, List.length_cons, List.length_nil, Nat.reduceAdd, Nat.reduceLeDiff, Nat.reduceLT, Nat.zero_add, Option.toList_some, Option.toList_none, List.cons_append, List.nil_append, rb_bi_eq0, rb_bi_ne0, rb_okv0, rb_okv1, rb_okvb, ln0, ln1, ln2, ln3, ln4, ln5, ln6, ln7, ln8, ln9, ln10, if_true, if_false, ite_not, Decidable.not_not]
theorem m_fineSilent (hg : g < 12) (hm : V g 11 0 = nI m) (hm8 : m ≤ 8) : rb_G none 86 0 [some (.ref (rb_st g)), none] [] (rb_W V) P ↔ P none (rb_W (rb_sg V g (cFineS (V g) m))) := by
  simp only [r86_0, r86_1]
  have h3 : nI m ≤ nI m := nI_le (Nat.le_refl m) (by omega)
  have key := rb_loop (Q := fun i => rb_G none 86 2 [some (.ref (rb_st g)), some (.int (nI i))] [] (rb_W (rb_sg V g (cFineS (V g) i))) P) m (fun i hi => by
    have h5 : ¬ nI m ≤ nI i := nI_ge hi (by omega)
    have hi8 : i < 8 := by omega
    have hm2 : cFineS (V g) i 11 0 = nI m := by rw [cFineS_11 _ _ (by decide)]; exact hm
    show rb_G none 86 2 _ _ _ _ ↔ _
    rw [r86_2]
    simp only [r86_3, r86_4, r86_7, r86_10, r86_11, r86_12, r86_15, r86_18, r86_19, r86_20, r86_21, r86_24, r86_25, r86_28, r86_31, r86_34, show (3 : Int32) = nI 3 from rfl, m_isHidden, m_at, m_fine, hg, hi8, hm2, h5, rb_sg_self, rb_sg_sg, List.length_cons, List.length_nil, Nat.reduceAdd, Nat.reduceLeDiff, Nat.reduceLT, Nat.zero_add, Option.toList_some, Option.toList_none, List.cons_append, List.nil_append, rb_bi_eq0, rb_bi_ne0, rb_okv0, rb_okv1, rb_okvb, ln0, ln1, ln2, ln3, ln4, ln5, ln6, ln7, ln8, ln9, ln10, if_true, if_false, ite_not, Decidable.not_not, nI_1]
    by_cases h8 : cFineS (V g) i 5 i = 1
    · simp only [if_pos h8, cFineS]
    · simp only [if_neg h8, cFineS])
  simp only [nI_0, cFineS, rb_sg_id] at key
  rw [key]
  have hm3 : cFineS (V g) m 11 0 = nI m := by rw [cFineS_11 _ _ (by decide)]; exact hm
  simp only [r86_0, r86_1, r86_2, r86_3, r86_4, r86_7, r86_10, r86_11, r86_12, r86_15, r86_18, r86_19, r86_20, r86_21, r86_24, r86_25, r86_28, r86_31, r86_34, r86_37, hg, hm3, h3, rb_sg_self, rb_sg_sg, List.length_cons, List.length_nil, Nat.reduceAdd, Nat.reduceLeDiff, Nat.reduceLT, Nat.zero_add, Option.toList_some, Option.toList_none, List.cons_append, List.nil_append, rb_bi_eq0, rb_bi_ne0, rb_okv0, rb_okv1, rb_okvb, ln0, ln1, ln2, ln3, ln4, ln5, ln6, ln7, ln8, ln9, ln10, if_true, if_false, ite_not, Decidable.not_not]
theorem m_payOut (hg : g < 12) (hm : V g 11 0 = nI m) (hm8 : m ≤ 8) : rb_G none 88 0 [some (.ref (rb_st g)), none, none, none] [] (rb_W V) P ↔ P none (rb_W (rb_sg V g (cPay (V g) m))) := by
  have h3 : nI m ≤ nI m := nI_le (Nat.le_refl m) (by omega)
  by_cases h1 : cCount (V g) 2 m < 1
  · have h1' : ¬ (1 : Int32) ≤ cCount (V g) 2 m := Int32.not_le.mpr h1
    simp only [r88_0, r88_1, r88_2, r88_5, r88_6, r88_7, r88_8, r88_11, m_countStanding hg hm hm8, hg, h1', rb_sg_self, rb_sg_sg, List.length_cons, List.length_nil, Nat.reduceAdd, Nat.reduceLeDiff, Nat.reduceLT, Nat.zero_add, Option.toList_some, Option.toList_none, List.cons_append, List.nil_append, rb_bi_eq0, rb_bi_ne0, rb_okv0, rb_okv1, rb_okvb, ln0, ln1, ln2, ln3, ln4, ln5, ln6, ln7, ln8, ln9, ln10, if_true, if_false, ite_not, Decidable.not_not, cPay, if_pos h1, rb_sg_id]
  · have h1' : (1 : Int32) ≤ cCount (V g) 2 m := Int32.not_lt.mp h1
    have h0 : ¬ cCount (V g) 2 m = 0 := fun q => by rw [q] at h1'; exact absurd h1' (by decide)
    simp only [r88_0, r88_1, r88_2, r88_5, r88_6, r88_7, r88_8, r88_11, r88_12, r88_13, r88_16, r88_17, r88_18, r88_19, r88_20, m_countStanding hg hm hm8, hg, h1', h0, not_false_eq_true, rb_sg_self, rb_sg_sg, List.length_cons, List.length_nil, Nat.reduceAdd, Nat.reduceLeDiff, Nat.reduceLT, Nat.zero_add, Option.toList_some, Option.toList_none, List.cons_append, List.nil_append, rb_bi_eq0, rb_bi_ne0, rb_okv0, rb_okv1, rb_okvb, ln0, ln1, ln2, ln3, ln4, ln5, ln6, ln7, ln8, ln9, ln10, if_true, if_false, ite_not, Decidable.not_not]
    have key := rb_loop (Q := fun i => rb_G none 88 21 [some (.ref (rb_st g)), some (.int (cCount (V g) 2 m)), some (.int (V g 11 6 / cCount (V g) 2 m)), some (.int (nI i))] [] (rb_W (rb_sg V g (cPayL (V g) (V g 11 6 / cCount (V g) 2 m) i))) P) m (fun i hi => by
      have h5 : ¬ nI m ≤ nI i := nI_ge hi (by omega)
      have hi8 : i < 8 := by omega
      have hm2 : cPayL (V g) (V g 11 6 / cCount (V g) 2 m) i 11 0 = nI m := by rw [cPayL_11 _ _ _ (by decide)]; exact hm
      show rb_G none 88 21 _ _ _ _ ↔ _
      rw [r88_21]
      simp only [r88_22, r88_23, r88_26, r88_29, r88_30, r88_33, r88_34, r88_37, r88_38, r88_41, r88_42, r88_45, r88_46, r88_47, r88_50, r88_51a, r88_51i, r88_52, r88_55, r88_56, r88_57, r88_60, r88_63, m_at, m_add, hg, hi8, hm2, h5, rb_sg_self, rb_sg_sg, List.length_cons, List.length_nil, Nat.reduceAdd, Nat.reduceLeDiff, Nat.reduceLT, Nat.zero_add, Option.toList_some, Option.toList_none, List.cons_append, List.nil_append, rb_bi_eq0, rb_bi_ne0, rb_okv0, rb_okv1, rb_okvb, ln0, ln1, ln2, ln3, ln4, ln5, ln6, ln7, ln8, ln9, ln10, if_true, if_false, ite_not, Decidable.not_not, rb_u2_row, rb_u2_at, rb_u2_ne, ne_eq, Nat.reduceEqDiff, not_false_eq_true, reduceCtorEq, nI_1]
      by_cases h8 : cPayL (V g) (V g 11 6 / cCount (V g) 2 m) i 5 i = 2
      · simp only [if_pos h8, cPayL]
      · simp only [if_neg h8, cPayL])
    simp only [nI_0, cPayL, rb_sg_id] at key
    rw [key]
    have hm3 : cPayL (V g) (V g 11 6 / cCount (V g) 2 m) m 11 0 = nI m := by rw [cPayL_11 _ _ _ (by decide)]; exact hm
    simp only [r88_21, r88_22, r88_23, r88_26, r88_66, hg, hm3, h3, rb_sg_self, rb_sg_sg, List.length_cons, List.length_nil, Nat.reduceAdd, Nat.reduceLeDiff, Nat.reduceLT, Nat.zero_add, Option.toList_some, Option.toList_none, List.cons_append, List.nil_append, rb_bi_eq0, rb_bi_ne0, rb_okv0, rb_okv1, rb_okvb, ln0, ln1, ln2, ln3, ln4, ln5, ln6, ln7, ln8, ln9, ln10, if_true, if_false, ite_not, Decidable.not_not, cPay, if_neg h1]
theorem m_combineBound (hg : g < 12) (hm : V g 11 0 = nI m) (hm8 : m ≤ 8) : rb_G none 96 0 [some (.ref (rb_st g)), none, none] [] (rb_W V) P ↔ P (some (.int (cBoundX (V g) m))) (rb_W V) := by
  simp only [r96_0, r96_1, r96_2, r96_3]
  have h3 : nI m ≤ nI m := nI_le (Nat.le_refl m) (by omega)
  have key := rb_loop (Q := fun j => rb_G none 96 4 [some (.ref (rb_st g)), some (.int (cBoundX (V g) j)), some (.int (nI j))] [] (rb_W V) P) m (fun j hj => by
    have h2 : ¬ nI m ≤ nI j := nI_ge hj (by omega)
    have hj8 : j < 8 := by omega
    show rb_G none 96 4 _ _ _ _ ↔ _
    rw [r96_4]
    simp only [r96_0, r96_1, r96_2, r96_3, r96_5, r96_6, r96_9, r96_12, r96_13, r96_14, r96_15, r96_18, r96_21, r96_22, r96_25, r96_26, r96_29, r96_32, r96_33, r96_34, r96_35, r96_38, r96_41, r96_42, m_isBound, m_at, hg, hj8, hm, h2, rb_sg_self, rb_sg_sg, List.length_cons, List.length_nil, Nat.reduceAdd, Nat.reduceLeDiff, Nat.reduceLT, Nat.zero_add, Option.toList_some, Option.toList_none, List.cons_append, List.nil_append, rb_bi_eq0, rb_bi_ne0, rb_okv0, rb_okv1, rb_okvb, ln0, ln1, ln2, ln3, ln4, ln5, ln6, ln7, ln8, ln9, ln10, if_true, if_false, ite_not, Decidable.not_not, nI_1]
    by_cases h : V g 5 j = 0
    · simp only [if_pos h, cBoundX, rb_xor, if_neg (show ¬ ¬ V g 5 j = 0 from fun q => q h)]
    · simp only [if_neg h, cBoundX, rb_xor, if_pos h, not_false_eq_true, if_true])
  simp only [nI_0, cBoundX, rb_xor] at key
  rw [key]
  simp only [r96_0, r96_1, r96_2, r96_3, r96_4, r96_5, r96_6, r96_9, r96_12, r96_13, r96_14, r96_15, r96_18, r96_21, r96_22, r96_25, r96_26, r96_29, r96_32, r96_33, r96_34, r96_35, r96_38, r96_41, r96_42, hg, hm, h3, rb_sg_self, rb_sg_sg, List.length_cons, List.length_nil, Nat.reduceAdd, Nat.reduceLeDiff, Nat.reduceLT, Nat.zero_add, Option.toList_some, Option.toList_none, List.cons_append, List.nil_append, rb_bi_eq0, rb_bi_ne0, rb_okv0, rb_okv1, rb_okvb, ln0, ln1, ln2, ln3, ln4, ln5, ln6, ln7, ln8, ln9, ln10, if_true, if_false, ite_not, Decidable.not_not, cBoundX]
theorem m_combineKnown (hg : g < 12) (hm : V g 11 0 = nI m) (hm8 : m ≤ 8) : rb_G none 48 0 [some (.ref (rb_st g)), none, none, none, none] [] (rb_W V) P ↔ P (some (.int (cOut (V g) m))) (rb_W V) := by
  have h10 : ¬ (1 : Int32) = 0 := by decide
  have h3 : nI m ≤ nI m := nI_le (Nat.le_refl m) (by omega)
  have tail : ∀ (x y : Int32), rb_G none 48 49 [some (.ref (rb_st g)), some (.int x), some (.int y), none, none] [] (rb_W V) P ↔ P (some (.int (cKnowX (V g) m))) (rb_W V) := by
    intro x y
    simp only [r48_49, r48_50, r48_51, r48_52]
    have key := rb_loop (Q := fun j => rb_G none 48 54 [some (.ref (rb_st g)), some (.int x), some (.int y), some (.int (cKnowX (V g) j)), some (.int (nI j))] [] (rb_W V) P) m (fun j hj => by
      have h2 : ¬ nI m ≤ nI j := nI_ge hj (by omega)
      have hj8 : j < 8 := by omega
      show rb_G none 48 54 _ _ _ _ ↔ _
      rw [r48_54]
      simp only [r48_56, r48_57, r48_60, r48_63, r48_64, r48_65, r48_67, r48_70, r48_73, r48_74, r48_77, r48_79, r48_82, r48_85, r48_86, r48_87, r48_88, r48_91, m_isKnown, m_at, hg, hj8, hm, h2, rb_sg_self, rb_sg_sg, List.length_cons, List.length_nil, Nat.reduceAdd, Nat.reduceLeDiff, Nat.reduceLT, Nat.zero_add, Option.toList_some, Option.toList_none, List.cons_append, List.nil_append, rb_bi_eq0, rb_bi_ne0, rb_okv0, rb_okv1, rb_okvb, ln0, ln1, ln2, ln3, ln4, ln5, ln6, ln7, ln8, ln9, ln10, if_true, if_false, ite_not, Decidable.not_not, nI_1]
      by_cases h : V g 5 j = 2 ∨ V g 5 j = 3
      · simp only [if_pos h, cKnowX, rb_xor]
      · simp only [if_neg h, cKnowX, rb_xor])
    simp only [nI_0, cKnowX, rb_xor] at key
    rw [key]
    simp only [r48_54, r48_56, r48_57, r48_60, r48_94, r48_95, hg, hm, h3, rb_sg_self, rb_sg_sg, List.length_cons, List.length_nil, Nat.reduceAdd, Nat.reduceLeDiff, Nat.reduceLT, Nat.zero_add, Option.toList_some, Option.toList_none, List.cons_append, List.nil_append, rb_bi_eq0, rb_bi_ne0, rb_okv0, rb_okv1, rb_okvb, ln0, ln1, ln2, ln3, ln4, ln5, ln6, ln7, ln8, ln9, ln10, if_true, if_false, ite_not, Decidable.not_not, cKnowX]
  simp only [r48_0, r48_1, r48_2, r48_5, r48_6, r48_7, r48_10, r48_11, r48_12, r48_13, r48_16, r48_17, r48_20, r48_21, r48_24, r48_25, r48_28, r48_29, r48_30, r48_31, r48_34, r48_35, r48_38, r48_39, r48_40, r48_43, r48_46, r48_48, m_countStanding hg hm hm8, show (5 : Int32) = nI 5 from rfl, m_at, tail, hg, h10, rb_sg_self, rb_sg_sg, List.length_cons, List.length_nil, Nat.reduceAdd, Nat.reduceLeDiff, Nat.reduceLT, Nat.zero_add, Option.toList_some, Option.toList_none, List.cons_append, List.nil_append, rb_bi_eq0, rb_bi_ne0, rb_okv0, rb_okv1, rb_okvb, ln0, ln1, ln2, ln3, ln4, ln5, ln6, ln7, ln8, ln9, ln10, if_true, if_false, ite_not, Decidable.not_not]
  by_cases h1 : V g 0 5 = 1
  · by_cases h2 : cCount (V g) 2 m + cCount (V g) 3 m = 0
    · simp only [if_pos h1, if_pos h2, cOut, if_pos (show cCount (V g) 2 m + cCount (V g) 3 m = 0 ∨ (V g 0 5 = 1 ∧ ¬ cCount (V g) 1 m ≤ 0) from Or.inl h2)]
    · by_cases h4 : cCount (V g) 1 m ≤ 0
      · simp only [if_pos h1, if_neg h2, if_pos h4, cOut, if_neg (show ¬ (cCount (V g) 2 m + cCount (V g) 3 m = 0 ∨ (V g 0 5 = 1 ∧ ¬ cCount (V g) 1 m ≤ 0)) from fun q => q.elim h2 (fun q => q.2 h4))]
      · simp only [if_pos h1, if_neg h2, if_neg h4, cOut, if_pos (show cCount (V g) 2 m + cCount (V g) 3 m = 0 ∨ (V g 0 5 = 1 ∧ ¬ cCount (V g) 1 m ≤ 0) from Or.inr ⟨h1, h4⟩)]
  · by_cases h2 : cCount (V g) 2 m + cCount (V g) 3 m = 0
    · simp only [if_neg h1, if_pos h2, cOut, if_pos (show cCount (V g) 2 m + cCount (V g) 3 m = 0 ∨ (V g 0 5 = 1 ∧ ¬ cCount (V g) 1 m ≤ 0) from Or.inl h2)]
    · simp only [if_neg h1, if_neg h2, cOut, if_neg (show ¬ (cCount (V g) 2 m + cCount (V g) 3 m = 0 ∨ (V g 0 5 = 1 ∧ ¬ cCount (V g) 1 m ≤ 0)) from fun q => q.elim h2 (fun q => h1 q.1))]
end RBM
