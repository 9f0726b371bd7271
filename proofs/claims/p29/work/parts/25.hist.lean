/-! THE METHODS' ANSWERS, 6: the rest of a state, the history -/
theorem rb_rem_toInt (a b : Int32) : (rb_rem a b).toInt = a.toInt.tmod b.toInt := rem_toInt a b
theorem rb_rem_nI {a b : Nat} (ha : a < 2 ^ 31) (hb : b < 2 ^ 31) (h0 : 0 < b) : rb_rem (nI a) (nI b) = nI (a % b) := by
  apply Int32.toInt_inj.mp
  rw [rb_rem_toInt, nI_toInt ha, nI_toInt hb, nI_toInt (Nat.lt_of_le_of_lt (Nat.mod_le a b) ha), Int.ofNat_tmod]
def cEndP (c : Nat → Nat → Int32) (m rd : Nat) : Nat → Nat → Int32 := if c 11 4 = 0 then cEnd0 c m else if c 11 4 = 1 then cEnd1 c m rd else cClose c m rd
def cPass (c : Nat → Nat → Int32) (m rd ph : Nat) : Nat → Nat → Int32 := if ph = 3 then cTime c else if c 11 5 + 1 < c 0 ph then cTime c else cEndP (cTime c) m rd
theorem cTime_11 (c : Nat → Nat → Int32) (k : Nat) (h2 : ¬ k = 2) (h5 : ¬ k = 5) : cTime c 11 k = c 11 k := by
  unfold cTime; rw [rb_u2_ne h5, rb_u2_ne h2]
theorem cTime_row (c : Nat → Nat → Int32) (r : Nat) (h : ¬ r = 11) : cTime c r = c r := by
  unfold cTime; rw [rb_u2_row h, rb_u2_row h]
theorem rb_u1_at {c : Nat → Nat → Int32} {r : Nat} {f : Nat → Int32} : rb_u1 c r f r = f := rb_u1_self c r f
def hRec (V : rb_V) (f n : Nat) : rb_V := rb_sg (rb_sg V (2 + (f + n) % 8) (cCopy (V (2 + (f + n) % 8)) (V 0))) 13 (if n < 8 then rb_u2 (V 13) 0 1 (nI (n + 1)) else rb_u2 (V 13) 0 0 (nI ((f + 1) % 8)))
def hRes (V : rb_V) (f n : Nat) : rb_V := rb_sg (rb_sg V 13 (rb_u2 (V 13) 0 1 (nI n))) 0 (cCopy (V 0) (V (2 + (f + n) % 8)))
section RBM
variable {V : rb_V} {P : Option Value → rb_M → Prop} {g r j i o m t rd f n : Nat} {c : Nat → Nat → Int32}
theorem m_payOut_at (hg : g < 12) (hm : c 11 0 = nI m) (hm8 : m ≤ 8) : rb_G none 88 0 [some (.ref (rb_st g)), none, none, none] [] (rb_W (rb_sg V g c)) P ↔ P none (rb_W (rb_sg V g (cPay c m))) := by
  have := m_payOut (V := rb_sg V g c) (P := P) (m := m) hg (by rw [rb_sg_self]; exact hm) hm8
  rw [rb_sg_self, rb_sg_sg] at this; exact this
theorem m_combineKnown_at (hg : g < 12) (hm : c 11 0 = nI m) (hm8 : m ≤ 8) : rb_G none 48 0 [some (.ref (rb_st g)), none, none, none, none] [] (rb_W (rb_sg V g c)) P ↔ P (some (.int (cOut c m))) (rb_W (rb_sg V g c)) := by
  have := m_combineKnown (V := rb_sg V g c) (P := P) (m := m) hg (by rw [rb_sg_self]; exact hm) hm8
  rw [rb_sg_self] at this; exact this
theorem m_countStanding_at {x : Int32} (hg : g < 12) (hm : c 11 0 = nI m) (hm8 : m ≤ 8) : rb_G none 12 0 [some (.ref (rb_st g)), some (.int x), none, none] [] (rb_W (rb_sg V g c)) P ↔ P (some (.int (cCount c x m))) (rb_W (rb_sg V g c)) := by
  have := m_countStanding (V := rb_sg V g c) (P := P) (m := m) (x := x) hg (by rw [rb_sg_self]; exact hm) hm8
  rw [rb_sg_self] at this; exact this
theorem m_close (hg : g < 12) (hm : V g 11 0 = nI m) (hm8 : m ≤ 8) (hrd : V g 11 3 = nI rd) (hrd30 : rd < 30) : rb_G none 87 0 [some (.ref (rb_st g))] [] (rb_W V) P ↔ P none (rb_W (rb_sg V g (cClose (V g) m rd))) := by
  have hm1 : cEnter (V g) 3 11 0 = nI m := by rw [cEnter_11 _ _ _ (by decide) (by decide)]; exact hm
  have hm2 : cPay (cEnter (V g) 3) m 11 0 = nI m := by rw [cPay_11 _ _ _ (by decide)]; exact hm1
  have hr2 : cPay (cEnter (V g) 3) m 11 3 = nI rd := by rw [cPay_11 _ _ _ (by decide), cEnter_11 _ _ _ (by decide) (by decide)]; exact hrd
  simp only [r87_0, r87_1, r87_2, r87_5, r87_6, r87_9, r87_10, r87_13, r87_14, r87_17, r87_18, r87_21, r87_24, m_enter, m_payOut_at hg hm1 hm8, m_combineKnown_at hg hm2 hm8, m_put (a2 := none), hg, hr2, hrd30, rb_sg_self, rb_sg_sg, List.length_cons, List.length_nil, Nat.reduceAdd, Nat.reduceLeDiff, Nat.reduceLT, Nat.zero_add, Option.toList_some, Option.toList_none, List.cons_append, List.nil_append, rb_bi_eq0, rb_bi_ne0, rb_okv0, rb_okv1, rb_okvb, ln0, ln1, ln2, ln3, ln4, ln5, ln6, ln7, ln8, ln9, ln10, if_true, if_false, ite_not, Decidable.not_not, cClose]
theorem m_close_at (hg : g < 12) (hm : c 11 0 = nI m) (hm8 : m ≤ 8) (hrd : c 11 3 = nI rd) (hrd30 : rd < 30) : rb_G none 87 0 [some (.ref (rb_st g))] [] (rb_W (rb_sg V g c)) P ↔ P none (rb_W (rb_sg V g (cClose c m rd))) := by
  have := m_close (V := rb_sg V g c) (P := P) (m := m) (rd := rd) hg (by rw [rb_sg_self]; exact hm) hm8 (by rw [rb_sg_self]; exact hrd) hrd30
  rw [rb_sg_self, rb_sg_sg] at this; exact this
theorem m_endPhase (hg : g < 12) (hm : V g 11 0 = nI m) (hm8 : m ≤ 8) (hrd : V g 11 3 = nI rd) (hrd30 : rd < 30) (hph : V g 11 4 = 0 ∨ V g 11 4 = 1 ∨ V g 11 4 = 2) : rb_G none 85 0 [some (.ref (rb_st g))] [] (rb_W V) P ↔ P none (rb_W (rb_sg V g (cEndP (V g) m rd))) := by
  have hm1 : cFineS (V g) m 11 0 = nI m := by rw [cFineS_11 _ _ (by decide)]; exact hm
  have hr1 : cFineS (V g) m 11 3 = nI rd := by rw [cFineS_11 _ _ (by decide)]; exact hrd
  have h10 : ¬ (1 : Int32) = 0 := by decide
  have h20 : ¬ (2 : Int32) = 0 := by decide
  have h21 : ¬ (2 : Int32) = 1 := by decide
  rcases hph with hph | hph | hph
  · simp only [r85_0, r85_1, r85_4c0, r85_4c1, r85_4c2, r85_4c3, r85_32, r85_33, r85_34, r85_37, r85_38, r85_41, r85_42, r85_45, r85_46, r85_49, r85_52, r85_53, r85_56, r85_57, r85_58, r85_61, r85_64, r85_65, r85_66, r85_69, r85_72, r85_73, r85_76, r85_79, r85_80, r85_83, m_countBound hg hm hm8, m_enter, hph, hg, rb_sg_self, rb_sg_sg, List.length_cons, List.length_nil, Nat.reduceAdd, Nat.reduceLeDiff, Nat.reduceLT, Nat.zero_add, Option.toList_some, Option.toList_none, List.cons_append, List.nil_append, rb_bi_eq0, rb_bi_ne0, rb_okv0, rb_okv1, rb_okvb, ln0, ln1, ln2, ln3, ln4, ln5, ln6, ln7, ln8, ln9, ln10, if_true, if_false, ite_not, Decidable.not_not, cEndP, cEnd0]
    by_cases h : 2 ≤ cBound (V g) m
    · simp only [if_pos h]
    · simp only [if_neg h]
  · simp only [r85_0, r85_1, r85_4c0, r85_4c1, r85_4c2, r85_4c3, r85_32, r85_33, r85_34, r85_37, r85_38, r85_41, r85_42, r85_45, r85_46, r85_49, r85_52, r85_53, r85_56, r85_57, r85_58, r85_61, r85_64, r85_65, r85_66, r85_69, r85_72, r85_73, r85_76, r85_79, r85_80, r85_83, m_fineSilent hg hm hm8, m_countStanding_at hg hm1 hm8, m_close_at hg hm1 hm8 hr1 hrd30, m_enter, hph, hg, h10, rb_sg_self, rb_sg_sg, List.length_cons, List.length_nil, Nat.reduceAdd, Nat.reduceLeDiff, Nat.reduceLT, Nat.zero_add, Option.toList_some, Option.toList_none, List.cons_append, List.nil_append, rb_bi_eq0, rb_bi_ne0, rb_okv0, rb_okv1, rb_okvb, ln0, ln1, ln2, ln3, ln4, ln5, ln6, ln7, ln8, ln9, ln10, if_true, if_false, ite_not, Decidable.not_not, cEndP, cEnd1]
    by_cases h : cCount (cFineS (V g) m) 1 m ≤ 0
    · simp only [if_pos h]
    · simp only [if_neg h]
  · simp only [r85_0, r85_1, r85_4c0, r85_4c1, r85_4c2, r85_4c3, r85_32, r85_33, r85_34, r85_37, r85_38, r85_41, r85_42, r85_45, r85_46, r85_49, r85_52, r85_53, r85_56, r85_57, r85_58, r85_61, r85_64, r85_65, r85_66, r85_69, r85_72, r85_73, r85_76, r85_79, r85_80, r85_83, m_close hg hm hm8 hrd hrd30, hph, hg, h20, h21, rb_sg_self, rb_sg_sg, List.length_cons, List.length_nil, Nat.reduceAdd, Nat.reduceLeDiff, Nat.reduceLT, Nat.zero_add, Option.toList_some, Option.toList_none, List.cons_append, List.nil_append, rb_bi_eq0, rb_bi_ne0, rb_okv0, rb_okv1, rb_okvb, ln0, ln1, ln2, ln3, ln4, ln5, ln6, ln7, ln8, ln9, ln10, if_true, if_false, ite_not, Decidable.not_not, cEndP]
theorem m_endPhase_at (hg : g < 12) (hm : c 11 0 = nI m) (hm8 : m ≤ 8) (hrd : c 11 3 = nI rd) (hrd30 : rd < 30) (hph : c 11 4 = 0 ∨ c 11 4 = 1 ∨ c 11 4 = 2) : rb_G none 85 0 [some (.ref (rb_st g))] [] (rb_W (rb_sg V g c)) P ↔ P none (rb_W (rb_sg V g (cEndP c m rd))) := by
  have := m_endPhase (V := rb_sg V g c) (P := P) (m := m) (rd := rd) hg (by rw [rb_sg_self]; exact hm) hm8 (by rw [rb_sg_self]; exact hrd) hrd30 (by rw [rb_sg_self]; exact hph)
  rw [rb_sg_self, rb_sg_sg] at this; exact this
theorem m_passTime {ph : Nat} (hg : g < 12) (hm : V g 11 0 = nI m) (hm8 : m ≤ 8) (hrd : V g 11 3 = nI rd) (hrd30 : rd < 30) (hph : V g 11 4 = nI ph) (hph3 : ph ≤ 3) : rb_G none 84 0 [some (.ref (rb_st g))] [] (rb_W V) P ↔ P none (rb_W (rb_sg V g (cPass (V g) m rd ph))) := by
  have hm1 : cTime (V g) 11 0 = nI m := by rw [cTime_11 _ _ (by decide) (by decide)]; exact hm
  have hr1 : cTime (V g) 11 3 = nI rd := by rw [cTime_11 _ _ (by decide) (by decide)]; exact hrd
  have hp1 : cTime (V g) 11 4 = nI ph := by rw [cTime_11 _ _ (by decide) (by decide)]; exact hph
  have e : rb_u2 (rb_u2 (V g) 11 2 (V g 11 2 + 1)) 11 5 (V g 11 5 + 1) = cTime (V g) := rfl
  have h0 : cTime (V g) 0 = V g 0 := cTime_row _ _ (by decide)
  have h5 : cTime (V g) 11 5 = V g 11 5 + 1 := by unfold cTime; exact rb_u2_at
  by_cases h : ph = 3
  · subst h
    have h33 : nI 3 = 3 := rfl
    simp only [r84_0, r84_1a, r84_1i, r84_2, r84_5, r84_6, r84_7, r84_10, r84_11a, r84_11i, r84_12, r84_15, r84_16, r84_17, r84_20, r84_21, r84_24, r84_25, r84_28, r84_29, r84_32, r84_33, r84_36, r84_37, r84_40, r84_43, r84_46, r84_47, r84_50, hg, rb_sg_self, rb_sg_sg, List.length_cons, List.length_nil, Nat.reduceAdd, Nat.reduceLeDiff, Nat.reduceLT, Nat.zero_add, Option.toList_some, Option.toList_none, List.cons_append, List.nil_append, rb_bi_eq0, rb_bi_ne0, rb_okv0, rb_okv1, rb_okvb, ln0, ln1, ln2, ln3, ln4, ln5, ln6, ln7, ln8, ln9, ln10, if_true, if_false, ite_not, Decidable.not_not, rb_u2_row, rb_u2_at, rb_u2_ne, ne_eq, Nat.reduceEqDiff, not_false_eq_true, reduceCtorEq, e, hp1, h33, cPass]
  · have h6 : ¬ nI ph = 3 := fun q => h ((rb_eqn (a := ph) (b := 3) (by omega) (by omega)).mp q)
    have hph6 : ph < 6 := by omega
    have hph' : cTime (V g) 11 4 = 0 ∨ cTime (V g) 11 4 = 1 ∨ cTime (V g) 11 4 = 2 := by
      rw [hp1]
      rcases (by omega : ph = 0 ∨ ph = 1 ∨ ph = 2) with rfl | rfl | rfl
      · exact Or.inl rfl
      · exact Or.inr (Or.inl rfl)
      · exact Or.inr (Or.inr rfl)
    simp only [r84_0, r84_1a, r84_1i, r84_2, r84_5, r84_6, r84_7, r84_10, r84_11a, r84_11i, r84_12, r84_15, r84_16, r84_17, r84_20, r84_21, r84_24, r84_25, r84_28, r84_29, r84_32, r84_33, r84_36, r84_37, r84_40, r84_43, r84_46, r84_47, r84_50, m_at, m_endPhase_at hg hm1 hm8 hr1 hrd30 hph', hg, rb_sg_self, rb_sg_sg, List.length_cons, List.length_nil, Nat.reduceAdd, Nat.reduceLeDiff, Nat.reduceLT, Nat.zero_add, Option.toList_some, Option.toList_none, List.cons_append, List.nil_append, rb_bi_eq0, rb_bi_ne0, rb_okv0, rb_okv1, rb_okvb, ln0, ln1, ln2, ln3, ln4, ln5, ln6, ln7, ln8, ln9, ln10, if_true, if_false, ite_not, Decidable.not_not, rb_u2_row, rb_u2_at, rb_u2_ne, ne_eq, Nat.reduceEqDiff, not_false_eq_true, reduceCtorEq, e, hp1, h6, h5, h0, hph6, cPass, if_neg h]
    by_cases h7 : V g 11 5 + 1 < V g 0 ph
    · simp only [if_pos h7]
    · simp only [if_neg h7]
theorem m_startRound (hg : g < 12) (hrd : V g 11 3 = nI rd) (hrd30 : rd < 30) : rb_G none 8 0 [some (.ref (rb_st g))] [] (rb_W V) P ↔ P none (rb_W (rb_sg V g (cStart (V g) rd))) := by
  have hr1 : cEnter (V g) 0 11 3 = nI rd := by rw [cEnter_11 _ _ _ (by decide) (by decide)]; exact hrd
  have e5 : rb_u2 (cEnter (V g) 0) 1 rd (-9) 5 = V g 5 := by rw [rb_u2_row (by decide)]; unfold cEnter; rw [rb_u2_row (by decide), rb_u2_row (by decide)]
  have e10 : rb_u1 (rb_u2 (cEnter (V g) 0) 1 rd (-9)) 5 (rb_fl1 (V g 5) 8 0) 10 = V g 10 := by rw [rb_u1_row (by decide), rb_u2_row (by decide)]; unfold cEnter; rw [rb_u2_row (by decide), rb_u2_row (by decide)]
  simp only [r8_0, r8_1, r8_2, r8_5, r8_6, r8_9, r8_10, r8_13, r8_15, r8_18, r8_19, r8_22, r8_23, r8_26, r8_27, r8_30, r8_32, r8_35, m_enter, m_put (a2 := none), m_fill, hg, hr1, hrd30, rb_sg_self, rb_sg_sg, List.length_cons, List.length_nil, Nat.reduceAdd, Nat.reduceLeDiff, Nat.reduceLT, Nat.zero_add, Option.toList_some, Option.toList_none, List.cons_append, List.nil_append, rb_bi_eq0, rb_bi_ne0, rb_okv0, rb_okv1, rb_okvb, ln0, ln1, ln2, ln3, ln4, ln5, ln6, ln7, ln8, ln9, ln10, if_true, if_false, ite_not, Decidable.not_not, e5, e10, cStart]
theorem m_startRound_at (hg : g < 12) (hrd : c 11 3 = nI rd) (hrd30 : rd < 30) : rb_G none 8 0 [some (.ref (rb_st g))] [] (rb_W (rb_sg V g c)) P ↔ P none (rb_W (rb_sg V g (cStart c rd))) := by
  have := m_startRound (V := rb_sg V g c) (P := P) (rd := rd) hg (by rw [rb_sg_self]; exact hrd) hrd30
  rw [rb_sg_self, rb_sg_sg] at this; exact this
theorem m_restart {x y : Int32} (hg : g < 12) : rb_G none 6 0 [some (.ref (rb_st g)), some (.int x), some (.int y)] [] (rb_W V) P ↔ P none (rb_W (rb_sg V g (cRest (V g) x y))) := by
  have hs : ∀ {P' : Option Value → rb_M → Prop}, rb_G none 8 0 [some (.ref (rb_st g))] [] (rb_W (rb_sg V g (rb_u1 (rb_u1 (rb_u1 (rb_u2 (rb_u2 (rb_u2 (rb_u2 (rb_u2 (V g) 11 0 x) 11 1 y) 11 2 0) 11 3 0) 11 6 0) 2 (rb_fl1 (V g 2) 8 20)) 3 (rb_fl1 (V g 3) 8 1)) 4 (rb_fl1 (V g 4) 8 0)))) P' ↔ P' none (rb_W (rb_sg V g (cRest (V g) x y))) := by
    intro P'
    refine m_startRound_at (rd := 0) hg ?_ (by decide)
    rw [rb_u1_row (by decide), rb_u1_row (by decide), rb_u1_row (by decide), rb_u2_ne (by decide), rb_u2_at]
    rfl
  simp only [r6_0, r6_1, r6_2, r6_5, r6_6, r6_7, r6_10, r6_11, r6_12, r6_15, r6_16, r6_17, r6_20, r6_21, r6_22, r6_25, r6_26, r6_29, r6_31, r6_34, r6_35, r6_38, r6_39, r6_42, r6_43, r6_46, r6_47, r6_50, r6_51, r6_54, m_fill, hg, rb_sg_self, rb_sg_sg, List.length_cons, List.length_nil, Nat.reduceAdd, Nat.reduceLeDiff, Nat.reduceLT, Nat.zero_add, Option.toList_some, Option.toList_none, List.cons_append, List.nil_append, rb_bi_eq0, rb_bi_ne0, rb_okv0, rb_okv1, rb_okvb, ln0, ln1, ln2, ln3, ln4, ln5, ln6, ln7, ln8, ln9, ln10, if_true, if_false, ite_not, Decidable.not_not, rb_u1_row, rb_u2_row, ne_eq, Nat.reduceEqDiff, not_false_eq_true, reduceCtorEq, hs]
theorem m_copyFrom {g' : Nat} (hg : g < 12) (hg' : g' < 12) (hne : ¬ g' = g) : rb_G none 30 0 [some (.ref (rb_st g)), some (.ref (rb_st g'))] [] (rb_W V) P ↔ P none (rb_W (rb_sg V g (cCopy (V g) (V g')))) := by
  have hs : ∀ c, rb_sg V g c g' = V g' := fun c => rb_sg_ne V c hne
  simp only [r30_0, r30_1, r30_2, r30_5, r30_8, r30_9, r30_10, r30_13, r30_16, r30_17, r30_18, r30_21, r30_24, r30_25, r30_26, r30_29, r30_32, r30_33, r30_34, r30_37, r30_40, r30_41, r30_42, r30_45, r30_48, r30_49, r30_50, r30_53, r30_56, r30_57, r30_58, r30_61, r30_64, r30_65, r30_68, r30_69, r30_72, r30_75, r30_76, r30_79, r30_80, r30_83, r30_86, r30_87, r30_90, r30_91, r30_94, r30_97, r30_98, r30_101, r30_102, r30_105, r30_108, r30_109, r30_112, r30_113, r30_116, r30_119, r30_120, r30_123, r30_124, r30_127, r30_130, r30_131, r30_134, r30_135, r30_138, r30_141, r30_142, r30_145, r30_146, r30_149, r30_152, r30_153, r30_156, r30_157, r30_160, r30_163, r30_164, r30_167, r30_168, r30_171, r30_174, r30_175, r30_178, r30_179, r30_182, r30_185, m_copyRow, hg, hg', hs, rb_sg_self, rb_sg_sg, List.length_cons, List.length_nil, Nat.reduceAdd, Nat.reduceLeDiff, Nat.reduceLT, Nat.zero_add, Option.toList_some, Option.toList_none, List.cons_append, List.nil_append, rb_bi_eq0, rb_bi_ne0, rb_okv0, rb_okv1, rb_okvb, ln0, ln1, ln2, ln3, ln4, ln5, ln6, ln7, ln8, ln9, ln10, if_true, if_false, ite_not, Decidable.not_not, cCopy, cScal]
theorem m_placeAt (hf : V 13 0 0 = nI f) (hf8 : f < 8) (hn8 : n ≤ 8) : rb_G none 54 0 [some (.ref 47), some (.int (nI n)), none] [] (rb_W V) P ↔ P (some (.ref (rb_st (2 + (f + n) % 8)))) (rb_W V) := by
  have h8 : ¬ (8 : Int32) = 0 := by decide
  have hr : rb_rem (nI (f + n)) 8 = nI ((f + n) % 8) := rb_rem_nI (b := 8) (by omega) (by decide) (by decide)
  have hp : (f + n) % 8 < 8 := Nat.mod_lt _ (by decide)
  have h1 : ¬ nI ((f + n) % 8) < 0 := nI_pos (by omega)
  have h2 : ¬ (8 : Int32) ≤ nI ((f + n) % 8) := nI_ge (b := 8) hp (by decide)
  have h3 : rb_inb (nI ((f + n) % 8)) 8 = true := rb_in_nI hp (by decide)
  have h4 : (nI ((f + n) % 8)).toNatClampNeg = (f + n) % 8 := nI_clamp (by omega)
  simp only [r54_0, r54_1, r54_4, r54_5, r54_6, r54_8, r54_9, r54_10, r54_11, r54_14, r54_15, r54_16, r54_19, r54_20, r54_23, r54_24, r54_27, r54_28, r54_29, r54_32, r54_33n, r54_33r, hf, nI_add, h8, hr, h1, h2, h3, h4, not_false_eq_true, rb_sg_self, rb_sg_sg, List.length_cons, List.length_nil, Nat.reduceAdd, Nat.reduceLeDiff, Nat.reduceLT, Nat.zero_add, Option.toList_some, Option.toList_none, List.cons_append, List.nil_append, rb_bi_eq0, rb_bi_ne0, rb_okv0, rb_okv1, rb_okvb, ln0, ln1, ln2, ln3, ln4, ln5, ln6, ln7, ln8, ln9, ln10, if_true, if_false, ite_not, Decidable.not_not]
theorem m_record (hf : V 13 0 0 = nI f) (hf8 : f < 8) (hn : V 13 0 1 = nI n) (hn8 : n ≤ 8) : rb_G none 53 0 [some (.ref 47), some (.ref (rb_st 0)), none] [] (rb_W V) P ↔ P none (rb_W (hRec V f n)) := by
  have h8 : ¬ (8 : Int32) = 0 := by decide
  have hp : (f + n) % 8 < 8 := Nat.mod_lt _ (by decide)
  have hg2 : 2 + (f + n) % 8 < 12 := by omega
  have hne : ¬ 0 = 2 + (f + n) % 8 := by omega
  have hg3 : (f + n) % 8 < 10 := by omega
  have h13 : ∀ c, rb_sg V (2 + (f + n) % 8) c 13 = V 13 := fun c => rb_sg_ne V c (by omega)
  have hr : rb_rem (nI (f + 1)) 8 = nI ((f + 1) % 8) := rb_rem_nI (b := 8) (by omega) (by decide) (by decide)
  simp only [r53_0, r53_1, r53_2, r53_5, r53_8, r53_8n, r53_9, r53_9n, r53_10n, r53_10r, r53_13, r53_13n, r53_14, r53_15, r53_18, r53_19, r53_22, r53_24, r53_27, r53_28a, r53_28i, r53_29, r53_32, r53_33, r53_34, r53_37, r53_40, r53_41, r53_42, r53_45, r53_46, r53_47, r53_49, r53_50, r53_53, hn, m_placeAt hf hf8 hn8, m_copyFrom hg2 (show 0 < 12 by decide) hne, hg2, hg3, h13, hf, h8, nI_1, hr, not_false_eq_true, rb_sg_self, rb_sg_sg, List.length_cons, List.length_nil, Nat.reduceAdd, Nat.reduceLeDiff, Nat.reduceLT, Nat.zero_add, Option.toList_some, Option.toList_none, List.cons_append, List.nil_append, rb_bi_eq0, rb_bi_ne0, rb_okv0, rb_okv1, rb_okvb, ln0, ln1, ln2, ln3, ln4, ln5, ln6, ln7, ln8, ln9, ln10, if_true, if_false, ite_not, Decidable.not_not, hRec]
  by_cases h : n < 8
  · have h2 : ¬ (8 : Int32) ≤ nI n := nI_ge (b := 8) h (by decide)
    simp only [if_neg h2, if_pos h]
  · have h2 : (8 : Int32) ≤ nI n := nI_le (a := 8) (by omega) (by omega)
    simp only [if_pos h2, if_neg h]
theorem m_restore (hf : V 13 0 0 = nI f) (hf8 : f < 8) (hn : V 13 0 1 = nI (n + 1)) (hn8 : n + 1 ≤ 8) : rb_G none 82 0 [some (.ref 47), some (.ref (rb_st 0)), none] [] (rb_W V) P ↔ P none (rb_W (hRes V f n)) := by
  have hp : (f + n) % 8 < 8 := Nat.mod_lt _ (by decide)
  have hg2 : 2 + (f + n) % 8 < 12 := by omega
  have hne : ¬ 2 + (f + n) % 8 = 0 := by omega
  have h1 : (1 : Int32) ≤ nI (n + 1) := nI_le (a := 1) (by omega) (by omega)
  have hpl : ∀ {P' : Option Value → rb_M → Prop}, rb_G none 54 0 [some (.ref 47), some (.int (nI n)), none] [] (rb_W (rb_sg V 13 (rb_u2 (V 13) 0 1 (nI n)))) P' ↔ P' (some (.ref (rb_st (2 + (f + n) % 8)))) (rb_W (rb_sg V 13 (rb_u2 (V 13) 0 1 (nI n)))) := by
    intro P'
    exact m_placeAt (V := rb_sg V 13 (rb_u2 (V 13) 0 1 (nI n))) (by rw [rb_sg_self, rb_u2_ne (by decide)]; exact hf) hf8 (by omega)
  have hsub : nI (n + 1) - 1 = nI n := nI_pred n
  have h0 : rb_sg V 13 (rb_u2 (V 13) 0 1 (nI n)) 0 = V 0 := rb_sg_ne V _ (by decide)
  have h2 : rb_sg V 13 (rb_u2 (V 13) 0 1 (nI n)) (2 + (f + n) % 8) = V (2 + (f + n) % 8) := rb_sg_ne V _ (by omega)
  simp only [r82_0, r82_1, r82_4, r82_5, r82_8, r82_9, r82_10a, r82_10i, r82_11, r82_14, r82_15, r82_16, r82_19, r82_20, r82_21, r82_24, r82_27, r82_27n, r82_28, r82_28n, r82_29n, r82_29r, r82_32, r82_33, r82_33n, r82_34, r82_37, hn, h1, hsub, hpl, m_copyFrom (show 0 < 12 by decide) hg2 hne, h0, h2, rb_sg_self, rb_sg_sg, List.length_cons, List.length_nil, Nat.reduceAdd, Nat.reduceLeDiff, Nat.reduceLT, Nat.zero_add, Option.toList_some, Option.toList_none, List.cons_append, List.nil_append, rb_bi_eq0, rb_bi_ne0, rb_okv0, rb_okv1, rb_okvb, ln0, ln1, ln2, ln3, ln4, ln5, ln6, ln7, ln8, ln9, ln10, if_true, if_false, ite_not, Decidable.not_not, rb_u2_row, rb_u2_at, rb_u2_ne, ne_eq, Nat.reduceEqDiff, not_false_eq_true, reduceCtorEq, hRes]
end RBM
