/-! THE METHODS' ANSWERS, 6: the rest of a state, the history -/
theorem rb_rem_toInt (a b : Int32) : (rb_rem a b).toInt = a.toInt.tmod b.toInt := rem_toInt a b
theorem rb_rem_nI {a b : Nat} (ha : a < 2 ^ 31) (hb : b < 2 ^ 31) (h0 : 0 < b) : rb_rem (nI a) (nI b) = nI (a % b) := by
  apply Int32.toInt_inj.mp
  rw [rb_rem_toInt, nI_toInt ha, nI_toInt hb, nI_toInt (Nat.lt_of_le_of_lt (Nat.mod_le a b) ha), Int.ofNat_tmod]
def cEndP (c : Nat → Nat → Int32) (m rd : Nat) : Nat → Nat → Int32 := if c 11 4 = 0 then cEnd0 c m else if c 11 4 = 1 then cEnd1 c m rd else cClose c m rd
def cPass (c : Nat → Nat → Int32) (m rd ph : Nat) : Nat → Nat → Int32 := if ph = 3 then cTime c else if c 11 5 + 1 < c 0 ph then cTime c else cEndP (cTime c) m rd
theorem cTime_11 (c : Nat → Nat → Int32) (k : Nat) (h2 : ¬ k = 2) (h5 : ¬ k = 5) : cTime c 11 k = c 11 k := by
  unfold cTime; rw [rb_u2_ne h5, rb_u2_ne h2]
theorem cTime_row (c : Nat → Nat → Int32) (r : Nat) (h : ¬ r = 11) : cTime c r = c r := by
  unfold cTime; rw [rb_u2_row h, rb_u2_row h]
theorem rb_u1_at {c : Nat → Nat → Int32} {r : Nat} {f : Nat → Int32} : rb_u1 c r f r = f := rb_u1_self c r f
def hRec (V : rb_V) (f n : Nat) : rb_V := rb_sg (rb_sg V (2 + (f + n) % 8) (cCopy (V (2 + (f + n) % 8)) (V 0))) 13 (if n < 8 then rb_u2 (V 13) 0 1 (nI (n + 1)) else rb_u2 (V 13) 0 0 (nI ((f + 1) % 8)))
def hRes (V : rb_V) (f n : Nat) : rb_V := rb_sg (rb_sg V 13 (rb_u2 (V 13) 0 1 (nI n))) 0 (cCopy (V 0) (V (2 + (f + n) % 8)))
section RBM
variable {V : rb_V} {P : Option Value → rb_M → Prop} {g r j i o m t rd f n : Nat} {c : Nat → Nat → Int32}
theorem m_payOut_at (hg : g < 12) (hm : c 11 0 = nI m) (hm8 : m ≤ 8) : rb_G none 67 0 [some (.ref (rb_st g)), none, none, none] [] (rb_W (rb_sg V g c)) P ↔ P none (rb_W (rb_sg V g (cPay c m))) := by
  have := m_payOut (V := rb_sg V g c) (P := P) (m := m) hg (by rw [rb_sg_self]; exact hm) hm8
  rw [rb_sg_self, rb_sg_sg] at this; exact this
theorem m_combineKnown_at (hg : g < 12) (hm : c 11 0 = nI m) (hm8 : m ≤ 8) : rb_G none 68 0 [some (.ref (rb_st g)), none, none, none, none] [] (rb_W (rb_sg V g c)) P ↔ P (some (.int (cOut c m))) (rb_W (rb_sg V g c)) := by
  have := m_combineKnown (V := rb_sg V g c) (P := P) (m := m) hg (by rw [rb_sg_self]; exact hm) hm8
  rw [rb_sg_self] at this; exact this
theorem m_countStanding_at {x : Int32} (hg : g < 12) (hm : c 11 0 = nI m) (hm8 : m ≤ 8) : rb_G none 64 0 [some (.ref (rb_st g)), some (.int x), none, none] [] (rb_W (rb_sg V g c)) P ↔ P (some (.int (cCount c x m))) (rb_W (rb_sg V g c)) := by
  have := m_countStanding (V := rb_sg V g c) (P := P) (m := m) (x := x) hg (by rw [rb_sg_self]; exact hm) hm8
  rw [rb_sg_self] at this; exact this
theorem m_close (hg : g < 12) (hm : V g 11 0 = nI m) (hm8 : m ≤ 8) (hrd : V g 11 3 = nI rd) (hrd30 : rd < 30) : rb_G none 66 0 [some (.ref (rb_st g))] [] (rb_W V) P ↔ P none (rb_W (rb_sg V g (cClose (V g) m rd))) := by
  have hm1 : cEnter (V g) 3 11 0 = nI m := by rw [cEnter_11 _ _ _ (by decide) (by decide)]; exact hm
  have hm2 : cPay (cEnter (V g) 3) m 11 0 = nI m := by rw [cPay_11 _ _ _ (by decide)]; exact hm1
  have hr2 : cPay (cEnter (V g) 3) m 11 3 = nI rd := by rw [cPay_11 _ _ _ (by decide), cEnter_11 _ _ _ (by decide) (by decide)]; exact hrd
  simp only [r66_0, r66_1, r66_2, r66_5, r66_6, r66_9, r66_10, r66_13, r66_14, r66_17, r66_18, r66_21, r66_24, m_enter, m_payOut_at hg hm1 hm8, m_combineKnown_at hg hm2 hm8, m_put (a2 := none), hg, hr2, hrd30, rb_sg_self, rb_sg_sg, List.length_cons, List.length_nil, Nat.reduceAdd, Nat.reduceLeDiff, Nat.reduceLT, Nat.zero_add, Option.toList_some, Option.toList_none, List.cons_append, List.nil_append, rb_bi_eq0, rb_bi_ne0, rb_okv0, rb_okv1, rb_okvb, ln0, ln1, ln2, ln3, ln4, ln5, ln6, ln7, ln8, ln9, ln10, if_true, if_false, ite_not, Decidable.not_not, cClose]
theorem m_close_at (hg : g < 12) (hm : c 11 0 = nI m) (hm8 : m ≤ 8) (hrd : c 11 3 = nI rd) (hrd30 : rd < 30) : rb_G none 66 0 [some (.ref (rb_st g))] [] (rb_W (rb_sg V g c)) P ↔ P none (rb_W (rb_sg V g (cClose c m rd))) := by
  have := m_close (V := rb_sg V g c) (P := P) (m := m) (rd := rd) hg (by rw [rb_sg_self]; exact hm) hm8 (by rw [rb_sg_self]; exact hrd) hrd30
  rw [rb_sg_self, rb_sg_sg] at this; exact this
theorem m_endPhase (hg : g < 12) (hm : V g 11 0 = nI m) (hm8 : m ≤ 8) (hrd : V g 11 3 = nI rd) (hrd30 : rd < 30) (hph : V g 11 4 = 0 ∨ V g 11 4 = 1 ∨ V g 11 4 = 2) : rb_G none 62 0 [some (.ref (rb_st g))] [] (rb_W V) P ↔ P none (rb_W (rb_sg V g (cEndP (V g) m rd))) := by
  have hm1 : cFineS (V g) m 11 0 = nI m := by rw [cFineS_11 _ _ (by decide)]; exact hm
  have hr1 : cFineS (V g) m 11 3 = nI rd := by rw [cFineS_11 _ _ (by decide)]; exact hrd
  have h10 : ¬ (1 : Int32) = 0 := by decide
  have h20 : ¬ (2 : Int32) = 0 := by decide
  have h21 : ¬ (2 : Int32) = 1 := by decide
  rcases hph with hph | hph | hph
  · simp only [r62_0, r62_1, r62_4c0, r62_4c1, r62_4c2, r62_4c3, r62_32, r62_33, r62_34, r62_37, r62_38, r62_41, r62_42, r62_45, r62_46, r62_49, r62_52, r62_53, r62_56, r62_57, r62_58, r62_61, r62_64, r62_65, r62_66, r62_69, r62_72, r62_73, r62_76, r62_79, r62_80, r62_83, m_countBound hg hm hm8, m_enter, hph, hg, rb_sg_self, rb_sg_sg, List.length_cons, List.length_nil, Nat.reduceAdd, Nat.reduceLeDiff, Nat.reduceLT, Nat.zero_add, Option.toList_some, Option.toList_none, List.cons_append, List.nil_append, rb_bi_eq0, rb_bi_ne0, rb_okv0, rb_okv1, rb_okvb, ln0, ln1, ln2, ln3, ln4, ln5, ln6, ln7, ln8, ln9, ln10, if_true, if_false, ite_not, Decidable.not_not, cEndP, cEnd0]
    by_cases h : 2 ≤ cBound (V g) m
    · simp only [if_pos h]
    · simp only [if_neg h]
  · simp only [r62_0, r62_1, r62_4c0, r62_4c1, r62_4c2, r62_4c3, r62_32, r62_33, r62_34, r62_37, r62_38, r62_41, r62_42, r62_45, r62_46, r62_49, r62_52, r62_53, r62_56, r62_57, r62_58, r62_61, r62_64, r62_65, r62_66, r62_69, r62_72, r62_73, r62_76, r62_79, r62_80, r62_83, m_fineSilent hg hm hm8, m_countStanding_at hg hm1 hm8, m_close_at hg hm1 hm8 hr1 hrd30, m_enter, hph, hg, h10, rb_sg_self, rb_sg_sg, List.length_cons, List.length_nil, Nat.reduceAdd, Nat.reduceLeDiff, Nat.reduceLT, Nat.zero_add, Option.toList_some, Option.toList_none, List.cons_append, List.nil_append, rb_bi_eq0, rb_bi_ne0, rb_okv0, rb_okv1, rb_okvb, ln0, ln1, ln2, ln3, ln4, ln5, ln6, ln7, ln8, ln9, ln10, if_true, if_false, ite_not, Decidable.not_not, cEndP, cEnd1]
    by_cases h : cCount (cFineS (V g) m) 1 m ≤ 0
    · simp only [if_pos h]
    · simp only [if_neg h]
  · simp only [r62_0, r62_1, r62_4c0, r62_4c1, r62_4c2, r62_4c3, r62_32, r62_33, r62_34, r62_37, r62_38, r62_41, r62_42, r62_45, r62_46, r62_49, r62_52, r62_53, r62_56, r62_57, r62_58, r62_61, r62_64, r62_65, r62_66, r62_69, r62_72, r62_73, r62_76, r62_79, r62_80, r62_83, m_close hg hm hm8 hrd hrd30, hph, hg, h20, h21, rb_sg_self, rb_sg_sg, List.length_cons, List.length_nil, Nat.reduceAdd, Nat.reduceLeDiff, Nat.reduceLT, Nat.zero_add, Option.toList_some, Option.toList_none, List.cons_append, List.nil_append, rb_bi_eq0, rb_bi_ne0, rb_okv0, rb_okv1, rb_okvb, ln0, ln1, ln2, ln3, ln4, ln5, ln6, ln7, ln8, ln9, ln10, if_true, if_false, ite_not, Decidable.not_not, cEndP]
theorem m_endPhase_at (hg : g < 12) (hm : c 11 0 = nI m) (hm8 : m ≤ 8) (hrd : c 11 3 = nI rd) (hrd30 : rd < 30) (hph : c 11 4 = 0 ∨ c 11 4 = 1 ∨ c 11 4 = 2) : rb_G none 62 0 [some (.ref (rb_st g))] [] (rb_W (rb_sg V g c)) P ↔ P none (rb_W (rb_sg V g (cEndP c m rd))) := by
  have := m_endPhase (V := rb_sg V g c) (P := P) (m := m) (rd := rd) hg (by rw [rb_sg_self]; exact hm) hm8 (by rw [rb_sg_self]; exact hrd) hrd30 (by rw [rb_sg_self]; exact hph)
  rw [rb_sg_self, rb_sg_sg] at this; exact this
theorem m_passTime {ph : Nat} (hg : g < 12) (hm : V g 11 0 = nI m) (hm8 : m ≤ 8) (hrd : V g 11 3 = nI rd) (hrd30 : rd < 30) (hph : V g 11 4 = nI ph) (hph3 : ph ≤ 3) : rb_G none 61 0 [some (.ref (rb_st g))] [] (rb_W V) P ↔ P none (rb_W (rb_sg V g (cPass (V g) m rd ph))) := by
  have hm1 : cTime (V g) 11 0 = nI m := by rw [cTime_11 _ _ (by decide) (by decide)]; exact hm
  have hr1 : cTime (V g) 11 3 = nI rd := by rw [cTime_11 _ _ (by decide) (by decide)]; exact hrd
  have hp1 : cTime (V g) 11 4 = nI ph := by rw [cTime_11 _ _ (by decide) (by decide)]; exact hph
  have e : rb_u2 (rb_u2 (V g) 11 2 (V g 11 2 + 1)) 11 5 (V g 11 5 + 1) = cTime (V g) := rfl
  have h0 : cTime (V g) 0 = V g 0 := cTime_row _ _ (by decide)
  have h5 : cTime (V g) 11 5 = V g 11 5 + 1 := by unfold cTime; exact rb_u2_at
  by_cases h : ph = 3
  · subst h
    have h33 : nI 3 = 3 := rfl
    simp only [r61_0, r61_1a, r61_1i, r61_2, r61_5, r61_6, r61_7, r61_10, r61_11a, r61_11i, r61_12, r61_15, r61_16, r61_17, r61_20, r61_21, r61_24, r61_25, r61_28, r61_29, r61_32, r61_33, r61_36, r61_37, r61_40, r61_43, r61_46, r61_47, r61_50, hg, rb_sg_self, rb_sg_sg, List.length_cons, List.length_nil, Nat.reduceAdd, Nat.reduceLeDiff, Nat.reduceLT, Nat.zero_add, Option.toList_some, Option.toList_none, List.cons_append, List.nil_append, rb_bi_eq0, rb_bi_ne0, rb_okv0, rb_okv1, rb_okvb, ln0, ln1, ln2, ln3, ln4, ln5, ln6, ln7, ln8, ln9, ln10, if_true, if_false, ite_not, Decidable.not_not, rb_u2_row, rb_u2_at, rb_u2_ne, ne_eq, Nat.reduceEqDiff, not_false_eq_true, reduceCtorEq, e, hp1, h33, cPass]
  · have h6 : ¬ nI ph = 3 := fun q => h ((rb_eqn (a := ph) (b := 3) (by omega) (by omega)).mp q)
    have hph6 : ph < 6 := by omega
    have hph' : cTime (V g) 11 4 = 0 ∨ cTime (V g) 11 4 = 1 ∨ cTime (V g) 11 4 = 2 := by
      rw [hp1]
      rcases (by omega : ph = 0 ∨ ph = 1 ∨ ph = 2) with rfl | rfl | rfl
      · exact Or.inl rfl
      · exact Or.inr (Or.inl rfl)
      · exact Or.inr (Or.inr rfl)
    simp only [r61_0, r61_1a, r61_1i, r61_2, r61_5, r61_6, r61_7, r61_10, r61_11a, r61_11i, r61_12, r61_15, r61_16, r61_17, r61_20, r61_21, r61_24, r61_25, r61_28, r61_29, r61_32, r61_33, r61_36, r61_37, r61_40, r61_43, r61_46, r61_47, r61_50, m_at, m_endPhase_at hg hm1 hm8 hr1 hrd30 hph', hg, rb_sg_self, rb_sg_sg, List.length_cons, List.length_nil, Nat.reduceAdd, Nat.reduceLeDiff, Nat.reduceLT, Nat.zero_add, Option.toList_some, Option.toList_none, List.cons_append, List.nil_append, rb_bi_eq0, rb_bi_ne0, rb_okv0, rb_okv1, rb_okvb, ln0, ln1, ln2, ln3, ln4, ln5, ln6, ln7, ln8, ln9, ln10, if_true, if_false, ite_not, Decidable.not_not, rb_u2_row, rb_u2_at, rb_u2_ne, ne_eq, Nat.reduceEqDiff, not_false_eq_true, reduceCtorEq, e, hp1, h6, h5, h0, hph6, cPass, if_neg h]
    by_cases h7 : V g 11 5 + 1 < V g 0 ph
    · simp only [if_pos h7]
    · simp only [if_neg h7]
theorem m_startRound (hg : g < 12) (hrd : V g 11 3 = nI rd) (hrd30 : rd < 30) : rb_G none 8 0 [some (.ref (rb_st g))] [] (rb_W V) P ↔ P none (rb_W (rb_sg V g (cStart (V g) rd))) := by
  have hr1 : cEnter (V g) 0 11 3 = nI rd := by rw [cEnter_11 _ _ _ (by decide) (by decide)]; exact hrd
  have e5 : rb_u2 (cEnter (V g) 0) 1 rd (-9) 5 = V g 5 := by rw [rb_u2_row (by decide)]; unfold cEnter; rw [rb_u2_row (by decide), rb_u2_row (by decide)]
  have e10 : rb_u1 (rb_u2 (cEnter (V g) 0) 1 rd (-9)) 5 (rb_fl1 (V g 5) 8 0) 10 = V g 10 := by rw [rb_u1_row (by decide), rb_u2_row (by decide)]; unfold cEnter; rw [rb_u2_row (by decide), rb_u2_row (by decide)]
  simp only [r8_0, r8_1, r8_2, r8_5, r8_6, r8_9, r8_10, r8_13, r8_15, r8_18, r8_19, r8_22, r8_23, r8_26, r8_27, r8_30, r8_32, r8_35, m_enter, m_put (a2 := none), m_fill, hg, hr1, hrd30, rb_sg_self, rb_sg_sg, List.length_cons, List.length_nil, Nat.reduceAdd, Nat.reduceLeDiff, Nat.reduceLT, Nat.zero_add, Option.toList_some, Option.toList_none, List.cons_append, List.nil_append, rb_bi_eq0, rb_bi_ne0, rb_okv0, rb_okv1, rb_okvb, ln0, ln1, ln2, ln3, ln4, ln5, ln6, ln7, ln8, ln9, ln10, if_true, if_false, ite_not, Decidable.not_not, e5, e10, cStart]
theorem m_startRound_at (hg : g < 12) (hrd : c 11 3 = nI rd) (hrd30 : rd < 30) : rb_G none 8 0 [some (.ref (rb_st g))] [] (rb_W (rb_sg V g c)) P ↔ P none (rb_W (rb_sg V g (cStart c rd))) := by
  have := m_startRound (V := rb_sg V g c) (P := P) (rd := rd) hg (by rw [rb_sg_self]; exact hrd) hrd30
  rw [rb_sg_self, rb_sg_sg] at this; exact this
theorem m_restart {x y : Int32} (hg : g < 12) : rb_G none 6 0 [some (.ref (rb_st g)), some (.int x), some (.int y)] [] (rb_W V) P ↔ P none (rb_W (rb_sg V g (cRest (V g) x y))) := by
  have hs : ∀ {P' : Option Value → rb_M → Prop}, rb_G none 8 0 [some (.ref (rb_st g))] [] (rb_W (rb_sg V g (rb_u1 (rb_u1 (rb_u1 (rb_u2 (rb_u2 (rb_u2 (rb_u2 (rb_u2 (V g) 11 0 x) 11 1 y) 11 2 0) 11 3 0) 11 6 0) 2 (rb_fl1 (V g 2) 8 20)) 3 (rb_fl1 (V g 3) 8 1)) 4 (rb_fl1 (V g 4) 8 0)))) P' ↔ P' none (rb_W (rb_sg V g (cRest (V g) x y))) := by
    intro P'
    refine m_startRound_at (rd := 0) hg ?_ (by decide)
    rw [rb_u1_row (by decide), rb_u1_row (by decide), rb_u1_row (by decide), rb_u2_ne (by decide), rb_u2_at]
    rfl
  simp only [r6_0, r6_1, r6_2, r6_5, r6_6, r6_7, r6_10, r6_11, r6_12, r6_15, r6_16, r6_17, r6_20, r6_21, r6_22, r6_25, r6_26, r6_29, r6_31, r6_34, r6_35, r6_38, r6_39, r6_42, r6_43, r6_46, r6_47, r6_50, r6_51, r6_54, m_fill, hg, rb_sg_self, rb_sg_sg, List.length_cons, List.length_nil, Nat.reduceAdd, Nat.reduceLeDiff, Nat.reduceLT, Nat.zero_add, Option.toList_some, Option.toList_none, List.cons_append, List.nil_append, rb_bi_eq0, rb_bi_ne0, rb_okv0, rb_okv1, rb_okvb, ln0, ln1, ln2, ln3, ln4, ln5, ln6, ln7, ln8, ln9, ln10, if_true, if_false, ite_not, Decidable.not_not, rb_u1_row, rb_u2_row, ne_eq, Nat.reduceEqDiff, not_false_eq_true, reduceCtorEq, hs]
theorem m_copyFrom {g' : Nat} (hg : g < 12) (hg' : g' < 12) (hne : ¬ g' = g) : rb_G none 13 0 [some (.ref (rb_st g)), some (.ref (rb_st g'))] [] (rb_W V) P ↔ P none (rb_W (rb_sg V g (cCopy (V g) (V g')))) := by
  have hs : ∀ c, rb_sg V g c g' = V g' := fun c => rb_sg_ne V c hne
  simp only [r13_0, r13_1, r13_2, r13_5, r13_8, r13_9, r13_10, r13_13, r13_16, r13_17, r13_18, r13_21, r13_24, r13_25, r13_26, r13_29, r13_32, r13_33, r13_34, r13_37, r13_40, r13_41, r13_42, r13_45, r13_48, r13_49, r13_50, r13_53, r13_56, r13_57, r13_58, r13_61, r13_64, r13_65, r13_68, r13_69, r13_72, r13_75, r13_76, r13_79, r13_80, r13_83, r13_86, r13_87, r13_90, r13_91, r13_94, r13_97, r13_98, r13_101, r13_102, r13_105, r13_108, r13_109, r13_112, r13_113, r13_116, r13_119, r13_120, r13_123, r13_124, r13_127, r13_130, r13_131, r13_134, r13_135, r13_138, r13_141, r13_142, r13_145, r13_146, r13_149, r13_152, r13_153, r13_156, r13_157, r13_160, r13_163, r13_164, r13_167, r13_168, r13_171, r13_174, r13_175, r13_178, r13_179, r13_182, r13_185, m_copyRow, hg, hg', hs, rb_sg_self, rb_sg_sg, List.length_cons, List.length_nil, Nat.reduceAdd, Nat.reduceLeDiff, Nat.reduceLT, Nat.zero_add, Option.toList_some, Option.toList_none, List.cons_append, List.nil_append, rb_bi_eq0, rb_bi_ne0, rb_okv0, rb_okv1, rb_okvb, ln0, ln1, ln2, ln3, ln4, ln5, ln6, ln7, ln8, ln9, ln10, if_true, if_false, ite_not, Decidable.not_not, cCopy, cScal]
theorem m_placeAt (hf : V 13 0 0 = nI f) (hf8 : f < 8) (hn8 : n ≤ 8) : rb_G none 12 0 [some (.ref 47), some (.int (nI n)), none] [] (rb_W V) P ↔ P (some (.ref (rb_st (2 + (f + n) % 8)))) (rb_W V) := by
  have h8 : ¬ (8 : Int32) = 0 := by decide
  have hr : rb_rem (nI (f + n)) 8 = nI ((f + n) % 8) := rb_rem_nI (b := 8) (by omega) (by decide) (by decide)
  have hp : (f + n) % 8 < 8 := Nat.mod_lt _ (by decide)
  have h1 : ¬ nI ((f + n) % 8) < 0 := nI_pos (by omega)
  have h2 : ¬ (8 : Int32) ≤ nI ((f + n) % 8) := nI_ge (b := 8) hp (by decide)
  have h3 : rb_inb (nI ((f + n) % 8)) 8 = true := rb_in_nI hp (by decide)
  have h4 : (nI ((f + n) % 8)).toNatClampNeg = (f + n) % 8 := nI_clamp (by omega)
  simp only [r12_0, r12_1, r12_4, r12_5, r12_6, r12_8, r12_9, r12_10, r12_11, r12_14, r12_15, r12_16, r12_19, r12_20, r12_23, r12_24, r12_27, r12_28, r12_29, r12_32, r12_33n, r12_33r, hf, nI_add, h8, hr, h1, h2, h3, h4, not_false_eq_true, rb_sg_self, rb_sg_sg, List.length_cons, List.length_nil, Nat.reduceAdd, Nat.reduceLeDiff, Nat.reduceLT, Nat.zero_add, Option.toList_some, Option.toList_none, List.cons_append, List.nil_append, rb_bi_eq0, rb_bi_ne0, rb_okv0, rb_okv1, rb_okvb, ln0, ln1, ln2, ln3, ln4, ln5, ln6, ln7, ln8, ln9, ln10, if_true, if_false, ite_not, Decidable.not_not]
theorem m_record (hf : V 13 0 0 = nI f) (hf8 : f < 8) (hn : V 13 0 1 = nI n) (hn8 : n ≤ 8) : rb_G none 11 0 [some (.ref 47), some (.ref (rb_st 0)), none] [] (rb_W V) P ↔ P none (rb_W (hRec V f n)) := by
  have h8 : ¬ (8 : Int32) = 0 := by decide
  have hp : (f + n) % 8 < 8 := Nat.mod_lt _ (by decide)
  have hg2 : 2 + (f + n) % 8 < 12 := by omega
  have hne : ¬ 0 = 2 + (f + n) % 8 := by omega
  have hg3 : (f + n) % 8 < 10 := by omega
  have h13 : ∀ c, rb_sg V (2 + (f + n) % 8) c 13 = V 13 := fun c => rb_sg_ne V c (by omega)
  have hr : rb_rem (nI (f + 1)) 8 = nI ((f + 1) % 8) := rb_rem_nI (b := 8) (by omega) (by decide) (by decide)
  simp only [r11_0, r11_1, r11_2, r11_5, r11_8, r11_8n, r11_9, r11_9n, r11_10n, r11_10r, r11_13, r11_13n, r11_14, r11_15, r11_18, r11_19, r11_22, r11_24, r11_27, r11_28a, r11_28i, r11_29, r11_32, r11_33, r11_34, r11_37, r11_40, r11_41, r11_42, r11_45, r11_46, r11_47, r11_49, r11_50, r11_53, hn, m_placeAt hf hf8 hn8, m_copyFrom hg2 (show 0 < 12 by decide) hne, hg2, hg3, h13, hf, h8, nI_1, hr, not_false_eq_true, rb_sg_self, rb_sg_sg, List.length_cons, List.length_nil, Nat.reduceAdd, Nat.reduceLeDiff, Nat.reduceLT, Nat.zero_add, Option.toList_some, Option.toList_none, List.cons_append, List.nil_append, rb_bi_eq0, rb_bi_ne0, rb_okv0, rb_okv1, rb_okvb, ln0, ln1, ln2, ln3, ln4, ln5, ln6, ln7, ln8, ln9, ln10, if_true, if_false, ite_not, Decidable.not_not, hRec]
  by_cases h : n < 8
  · have h2 : ¬ (8 : Int32) ≤ nI n := nI_ge (b := 8) h (by decide)
    simp only [if_neg h2, if_pos h]
  · have h2 : (8 : Int32) ≤ nI n := nI_le (a := 8) (by omega) (by omega)
    simp only [if_pos h2, if_neg h]
theorem m_restore (hf : V 13 0 0 = nI f) (hf8 : f < 8) (hn : V 13 0 1 = nI (n + 1)) (hn8 : n + 1 ≤ 8) : rb_G none 72 0 [some (.ref 47), some (.ref (rb_st 0)), none] [] (rb_W V) P ↔ P none (rb_W (hRes V f n)) := by
  have hp : (f + n) % 8 < 8 := Nat.mod_lt _ (by decide)
  have hg2 : 2 + (f + n) % 8 < 12 := by omega
  have hne : ¬ 2 + (f + n) % 8 = 0 := by omega
  have h1 : (1 : Int32) ≤ nI (n + 1) := nI_le (a := 1) (by omega) (by omega)
  have hpl : ∀ {P' : Option Value → rb_M → Prop}, rb_G none 12 0 [some (.ref 47), some (.int (nI n)), none] [] (rb_W (rb_sg V 13 (rb_u2 (V 13) 0 1 (nI n)))) P' ↔ P' (some (.ref (rb_st (2 + (f + n) % 8)))) (rb_W (rb_sg V 13 (rb_u2 (V 13) 0 1 (nI n)))) := by
    intro P'
    exact m_placeAt (V := rb_sg V 13 (rb_u2 (V 13) 0 1 (nI n))) (by rw [rb_sg_self, rb_u2_ne (by decide)]; exact hf) hf8 (by omega)
  have hsub : nI (n + 1) - 1 = nI n := nI_pred n
  have h0 : rb_sg V 13 (rb_u2 (V 13) 0 1 (nI n)) 0 = V 0 := rb_sg_ne V _ (by decide)
  have h2 : rb_sg V 13 (rb_u2 (V 13) 0 1 (nI n)) (2 + (f + n) % 8) = V (2 + (f + n) % 8) := rb_sg_ne V _ (by omega)
  simp only [r72_0, r72_1, r72_4, r72_5, r72_8, r72_9, r72_10a, r72_10i, r72_11, r72_14, r72_15, r72_16, r72_19, r72_20, r72_21, r72_24, r72_27, r72_27n, r72_28, r72_28n, r72_29n, r72_29r, r72_32, r72_33, r72_33n, r72_34, r72_37, hn, h1, hsub, hpl, m_copyFrom (show 0 < 12 by decide) hg2 hne, h0, h2, rb_sg_self, rb_sg_sg, List.length_cons, List.length_nil, Nat.reduceAdd, Nat.reduceLeDiff, Nat.reduceLT, Nat.zero_add, Option.toList_some, Option.toList_none, List.cons_append, List.nil_append, rb_bi_eq0, rb_bi_ne0, rb_okv0, rb_okv1, rb_okvb, ln0, ln1, ln2, ln3, ln4, ln5, ln6, ln7, ln8, ln9, ln10, if_true, if_false, ite_not, Decidable.not_not, rb_u2_row, rb_u2_at, rb_u2_ne, ne_eq, Nat.reduceEqDiff, not_false_eq_true, reduceCtorEq, hRes]
end RBM
