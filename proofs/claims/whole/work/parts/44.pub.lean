/-! THE METHODS' ANSWERS, 10: openings and ticks -/
def cTicks (c : Nat → Nat → Int32) (m rd : Nat) : Nat → Nat → Nat → Int32
  | 0 => c
  | k + 1 => cPass (cTicks c m rd k) m rd (cTicks c m rd k 11 4).toNatClampNeg
theorem cFine_ok (c : Nat → Nat → Int32) (m rd ph : Nat) (k : Nat) (hk : k = 0 ∨ k = 3) : cPass c m rd ph 11 k = c 11 k := by
  have hk4 : ¬ k = 4 := by omega
  have hk5 : ¬ k = 5 := by omega
  have hk6 : ¬ k = 6 := by omega
  have hk2 : ¬ k = 2 := by omega
  have eC : ∀ d : Nat → Nat → Int32, cClose d m rd 11 k = d 11 k := fun d => by
    unfold cClose; rw [rb_u2_row (by decide), cPay_11 _ _ _ hk6, cEnter_11 _ _ _ hk4 hk5]
  unfold cPass
  by_cases h1 : ph = 3
  · rw [if_pos h1, cTime_11 _ _ hk2 hk5]
  · rw [if_neg h1]
    by_cases h2 : c 11 5 + 1 < c 0 ph
    · rw [if_pos h2, cTime_11 _ _ hk2 hk5]
    · rw [if_neg h2]
      unfold cEndP
      by_cases h3 : cTime c 11 4 = 0
      · rw [if_pos h3]; unfold cEnd0; rw [cEnter_11 _ _ _ hk4 hk5, cTime_11 _ _ hk2 hk5]
      · rw [if_neg h3]
        by_cases h4 : cTime c 11 4 = 1
        · rw [if_pos h4]; unfold cEnd1
          by_cases h5 : cCount (cFineS (cTime c) m) 1 m ≤ 0
          · rw [if_pos h5, eC, cFineS_11 _ _ hk6, cTime_11 _ _ hk2 hk5]
          · rw [if_neg h5, cEnter_11 _ _ _ hk4 hk5, cFineS_11 _ _ hk6, cTime_11 _ _ hk2 hk5]
        · rw [if_neg h4, eC, cTime_11 _ _ hk2 hk5]
theorem cEnter_4 (c : Nat → Nat → Int32) (x : Int32) : cEnter c x 11 4 = x := by
  unfold cEnter; rw [rb_u2_ne (by decide), rb_u2_at]
theorem cPass_4 (c : Nat → Nat → Int32) (m rd ph : Nat) (h : c 11 4 = nI ph) (h3 : ph ≤ 3) : ∃ p, p ≤ 3 ∧ cPass c m rd ph 11 4 = nI p := by
  have eC : ∀ d : Nat → Nat → Int32, cClose d m rd 11 4 = nI 3 := fun d => by
    unfold cClose; rw [rb_u2_row (by decide), cPay_11 _ _ _ (by decide), cEnter_4]; rfl
  have eT : cTime c 11 4 = nI ph := by rw [cTime_11 _ _ (by decide) (by decide), h]
  unfold cPass
  by_cases h1 : ph = 3
  · rw [if_pos h1]; exact ⟨ph, h3, eT⟩
  · rw [if_neg h1]
    by_cases h2 : c 11 5 + 1 < c 0 ph
    · rw [if_pos h2]; exact ⟨ph, h3, eT⟩
    · rw [if_neg h2]
      unfold cEndP
      by_cases h3 : cTime c 11 4 = 0
      · rw [if_pos h3]; unfold cEnd0; rw [cEnter_4]
        by_cases h5 : 2 ≤ cBound (cTime c) m
        · rw [if_pos h5]; exact ⟨1, by decide, rfl⟩
        · rw [if_neg h5]; exact ⟨3, by decide, rfl⟩
      · rw [if_neg h3]
        by_cases h4 : cTime c 11 4 = 1
        · rw [if_pos h4]; unfold cEnd1
          by_cases h5 : cCount (cFineS (cTime c) m) 1 m ≤ 0
          · rw [if_pos h5]; exact ⟨3, by decide, eC _⟩
          · rw [if_neg h5, cEnter_4]; exact ⟨2, by decide, rfl⟩
        · rw [if_neg h4]; exact ⟨3, by decide, eC _⟩
theorem cTicks_ok (c : Nat → Nat → Int32) (m rd ph : Nat) (h : c 11 4 = nI ph) (h3 : ph ≤ 3) : ∀ k, cTicks c m rd k 11 0 = c 11 0 ∧ cTicks c m rd k 11 3 = c 11 3 ∧ ∃ p, p ≤ 3 ∧ cTicks c m rd k 11 4 = nI p
  | 0 => ⟨rfl, rfl, ph, h3, h⟩
  | k + 1 => by
    obtain ⟨a, b, p, hp, e⟩ := cTicks_ok c m rd ph h h3 k
    have ec : (cTicks c m rd k 11 4).toNatClampNeg = p := by rw [e]; exact nI_clamp (by omega)
    unfold cTicks
    rw [ec, cFine_ok _ _ _ _ _ (Or.inl rfl), cFine_ok _ _ _ _ _ (Or.inr rfl)]
    exact ⟨a, b, cPass_4 _ m rd p e hp⟩
section RBM
variable {V : rb_V} {P : Option Value → rb_M → Prop} {i o m t rd ph f n : Nat} {x y z : Int32}
theorem m_passTime_at {g : Nat} {c : Nat → Nat → Int32} (hg : g < 12) (hm : c 11 0 = nI m) (hm8 : m ≤ 8) (hrd : c 11 3 = nI rd) (hrd30 : rd < 30) (hph : c 11 4 = nI ph) (hph3 : ph ≤ 3) : rb_G none 61 0 [some (.ref (rb_st g))] [] (rb_W (rb_sg V g c)) P ↔ P none (rb_W (rb_sg V g (cPass c m rd ph))) := by
  have := m_passTime (V := rb_sg V g c) (P := P) (m := m) (rd := rd) (ph := ph) hg (by rw [rb_sg_self]; exact hm) hm8 (by rw [rb_sg_self]; exact hrd) hrd30 (by rw [rb_sg_self]; exact hph) hph3
  rw [rb_sg_self, rb_sg_sg] at this; exact this
theorem q_tick_b (h : x < 1 ∨ 60 < x) : rb_G none 60 0 [some (.ref 0), some (.int x), none] [] (rb_W V) P ↔ P (some (.int (-1))) (rb_W V) := by
  simp only [r60_0, r60_1, r60_2, r60_5, r60_6, r60_8, r60_11, r60_12, rb_sg_self, rb_sg_sg, List.length_cons, List.length_nil, Nat.reduceAdd, Nat.reduceLeDiff, Nat.reduceLT, Nat.zero_add, Option.toList_some, Option.toList_none, List.cons_append, List.nil_append, rb_bi_eq0, rb_bi_ne0, rb_okv0, rb_okv1, rb_okvb, ln0, ln1, ln2, ln3, ln4, ln5, ln6, ln7, ln8, ln9, ln10, if_true, if_false, ite_not, Decidable.not_not]
  by_cases h1 : x < 1
  · simp only [if_pos h1]
  · have h2 : ¬ x ≤ 60 := Int32.not_le.mpr (h.resolve_left h1)
    simp only [if_neg h1, if_neg h2]
theorem q_tick_k {k : Nat} (H : hOK V m t rd ph f n) (hk : 1 ≤ k) (hk60 : k ≤ 60) : rb_G none 60 0 [some (.ref 0), some (.int (nI k)), none] [] (rb_W V) P ↔ P (some (.int (cTicks (V 0) m rd k 11 4))) (rb_W (rb_sg (hRec V f n) 0 (cTicks (V 0) m rd k))) := by
  obtain ⟨hm, hm2, hm8, ht, ht1, htm, hrd, hrd30, hph, hph3, hf, hf8, hn, hn8⟩ := H
  have h1 : ¬ nI k < 1 := fun q => absurd ((nI_ltI (b := 1) (by omega) (by decide)).mp q) (by omega)
  have h2 : nI k ≤ 60 := nI_le (b := 60) hk60 (by decide)
  simp only [r60_0, r60_1, r60_2, r60_5, r60_6, r60_8, r60_11, r60_12, r60_13, r60_14, r60_17, r60_18, r60_21, r60_24, r60_25, h1, h2, m_record hf hf8 hn hn8, rb_sg_self, rb_sg_sg, List.length_cons, List.length_nil, Nat.reduceAdd, Nat.reduceLeDiff, Nat.reduceLT, Nat.zero_add, Option.toList_some, Option.toList_none, List.cons_append, List.nil_append, rb_bi_eq0, rb_bi_ne0, rb_okv0, rb_okv1, rb_okvb, ln0, ln1, ln2, ln3, ln4, ln5, ln6, ln7, ln8, ln9, ln10, if_true, if_false, ite_not, Decidable.not_not]
  have key := rb_loop (Q := fun j => rb_G none 60 26 [some (.ref 0), some (.int (nI k)), some (.int (nI j))] [] (rb_W (rb_sg (hRec V f n) 0 (cTicks (V 0) m rd j))) P) k (fun j hj => by
    have h3 : ¬ nI k ≤ nI j := nI_ge hj (by omega)
    obtain ⟨a, b, p, hp, e⟩ := cTicks_ok (V 0) m rd ph hph hph3 j
    have ec : (cTicks (V 0) m rd j 11 4).toNatClampNeg = p := by rw [e]; exact nI_clamp (by omega)
    show rb_G none 60 26 _ _ _ _ ↔ _
    rw [r60_26]
    simp only [r60_27, r60_28, r60_31, r60_32, r60_35, r60_38, r60_41, m_passTime_at (show 0 < 12 by decide) (a.trans hm) hm8 (b.trans hrd) hrd30 e hp, h3, rb_sg_self, rb_sg_sg, List.length_cons, List.length_nil, Nat.reduceAdd, Nat.reduceLeDiff, Nat.reduceLT, Nat.zero_add, Option.toList_some, Option.toList_none, List.cons_append, List.nil_append, rb_bi_eq0, rb_bi_ne0, rb_okv0, rb_okv1, rb_okvb, ln0, ln1, ln2, ln3, ln4, ln5, ln6, ln7, ln8, ln9, ln10, if_true, if_false, ite_not, Decidable.not_not, nI_1, cTicks, ec])
  have e0 : rb_sg (hRec V f n) 0 (cTicks (V 0) m rd 0) = hRec V f n := by
    have := rb_sg_id (hRec V f n) 0
    rw [hRec_0] at this
    exact this
  rw [e0, nI_0] at key
  rw [key]
  have h4 : nI k ≤ nI k := nI_le (Nat.le_refl k) (by omega)
  simp only [r60_26, r60_27, r60_28, r60_44, r60_45, r60_48, r60_51, h4, rb_sg_self, rb_sg_sg, List.length_cons, List.length_nil, Nat.reduceAdd, Nat.reduceLeDiff, Nat.reduceLT, Nat.zero_add, Option.toList_some, Option.toList_none, List.cons_append, List.nil_append, rb_bi_eq0, rb_bi_ne0, rb_okv0, rb_okv1, rb_okvb, ln0, ln1, ln2, ln3, ln4, ln5, ln6, ln7, ln8, ln9, ln10, if_true, if_false, ite_not, Decidable.not_not]
theorem m_countSalts {s q : Nat} (hi : i < 8) (hs : s < 256) (hq : q < 10007) : rb_G none 83 0 [some (.int (nI i)), some (.int (nI s)), some (.int (nI q)), none, none, none, none] [] (rb_W V) P ↔ P (some (.int (nI (rn_sal i s q)))) (rb_W V) := by
  have hL := rn_L_lt hs
  have e1 : 17 + 7 * nI s = nI (rn_L s) := by
    show nI 17 + nI 7 * nI s = _
    rw [pk_mul, nI_add]; rfl
  have e2 : (1 : Int32) ≤ nI (rn_L s) := nI_le (a := 1) (by omega) (by omega)
  have e3 : rb_cm (nI i) (nI s) 0 = nI (rn_C i s % 10007) := by
    have := rn_cm hi hs (v := 0) (by decide)
    rw [Nat.mul_zero, Nat.add_zero] at this
    exact this
  have e4 : rb_fm (nI q - rb_cm (nI i) (nI s) 0) 10007 = nI (rn_rise i s q) := by
    rw [e3]; exact rn_fm_sub hq (Nat.mod_lt _ (by decide))
  have hM : ¬ (10007 : Int32) = 0 := by decide
  have hL0 : ¬ nI (rn_L s) = 0 := nI_ne0 (by omega) (by omega)
  have hr := rn_rise_lt i s q
  have e9 : nI (rn_L s) * 999 = nI (rn_L s * 999) := pk_mul (rn_L s) 999
  simp only [r83_0, r83_2, r83_4, r83_5, r83_6, r83_7, r83_8, r83_9, r83_10, r83_13, r83_14, r83_15, r83_16, r83_17, r83_18, r83_19, r83_22, r83_23, r83_26, r83_29, r83_31, r83_32, r83_34, r83_36, e1, e2, m_cm, m_floorMod hM, e4, rb_sg_self, rb_sg_sg, List.length_cons, List.length_nil, Nat.reduceAdd, Nat.reduceLeDiff, Nat.reduceLT, Nat.zero_add, Option.toList_some, Option.toList_none, List.cons_append, List.nil_append, rb_bi_eq0, rb_bi_ne0, rb_okv0, rb_okv1, rb_okvb, ln0, ln1, ln2, ln3, ln4, ln5, ln6, ln7, ln8, ln9, ln10, if_true, if_false, ite_not, Decidable.not_not]
  have hK : ∀ k, k ≤ rn_K i s q → rn_rise i s q + 10007 * k ≤ 999 * rn_L s + 10007 := fun k hk => by
    by_cases h0 : k = 0
    · omega
    · have := (rn_K_in (i := i) (s := s) (q := q) (k := k - 1)).mp (by omega)
      omega
  have key := rb_loop (Q := fun k => rb_G none 83 38 [some (.int (nI i)), some (.int (nI s)), some (.int (nI q)), some (.int (nI (rn_L s))), some (.int (nI (rn_rise i s q))), some (.int (nI (rn_ct (fun k => (rn_rise i s q + 10007 * k) % rn_L s = 0) k))), some (.int (nI (rn_rise i s q + 10007 * k)))] [] (rb_W V) P) (rn_K i s q) (fun k hk => by
    have h1 := rn_K_in.mp hk
    have h3 : ¬ nI (rn_L s * 999) < nI (rn_rise i s q + 10007 * k) := nI_nlt (by omega) (by omega)
    have h4 : rb_rem (nI (rn_rise i s q + 10007 * k)) (nI (rn_L s)) = nI ((rn_rise i s q + 10007 * k) % rn_L s) := rb_rem_nI (by omega) (by omega) (by omega)
    have h5 : nI (rn_rise i s q + 10007 * k) + 10007 = nI (rn_rise i s q + 10007 * (k + 1)) := by
      rw [show rn_rise i s q + 10007 * (k + 1) = rn_rise i s q + 10007 * k + 10007 by omega]
      exact nI_add _ 10007
    have h6 : (nI ((rn_rise i s q + 10007 * k) % rn_L s) = 0) ↔ (rn_rise i s q + 10007 * k) % rn_L s = 0 := by
      have hb : (rn_rise i s q + 10007 * k) % rn_L s < rn_L s := Nat.mod_lt _ (by omega)
      exact nI_eq (b := 0) (by omega) (by decide)
    show rb_G none 83 38 _ _ _ _ ↔ _
    rw [r83_38]
    simp only [r83_40, r83_41, r83_44, r83_45, r83_48, r83_50, r83_51, r83_52, r83_55, r83_58, r83_64, e9, h3, h4, h5, h6, hL0, not_false_eq_true, rb_sg_self, rb_sg_sg, List.length_cons, List.length_nil, Nat.reduceAdd, Nat.reduceLeDiff, Nat.reduceLT, Nat.zero_add, Option.toList_some, Option.toList_none, List.cons_append, List.nil_append, rb_bi_eq0, rb_bi_ne0, rb_okv0, rb_okv1, rb_okvb, ln0, ln1, ln2, ln3, ln4, ln5, ln6, ln7, ln8, ln9, ln10, if_true, if_false, ite_not, Decidable.not_not]
    by_cases h7 : (rn_rise i s q + 10007 * k) % rn_L s = 0
    · simp only [if_pos h7, rn_ct, nI_1, h7, if_true, not_true_eq_false, if_false]
    · simp only [if_neg h7, rn_ct, Nat.add_zero, h7, if_false, not_false_eq_true, if_true])
  simp only [rn_ct, nI_0, Nat.mul_zero, Nat.add_zero] at key
  rw [key]
  have h8 : nI (rn_L s * 999) < nI (rn_rise i s q + 10007 * rn_K i s q) := nI_lt (by
    have := mt (rn_K_in (i := i) (s := s) (q := q) (k := rn_K i s q)).mpr (Nat.lt_irrefl _)
    omega) (by have := hK _ (Nat.le_refl _); omega)
  simp only [r83_38, r83_40, r83_41, r83_44, r83_45, r83_67, r83_69, e9, h8, rb_sg_self, rb_sg_sg, List.length_cons, List.length_nil, Nat.reduceAdd, Nat.reduceLeDiff, Nat.reduceLT, Nat.zero_add, Option.toList_some, Option.toList_none, List.cons_append, List.nil_append, rb_bi_eq0, rb_bi_ne0, rb_okv0, rb_okv1, rb_okvb, ln0, ln1, ln2, ln3, ln4, ln5, ln6, ln7, ln8, ln9, ln10, if_true, if_false, ite_not, Decidable.not_not, rn_sal]
def cOpA (i q n : Nat) : Int32 := rb_sum (fun s => nI (rn_sal i s q)) n
theorem q_openings_b (h : ¬ ((0 ≤ x ∧ x < V 0 11 0) ∧ (y = -1 ∨ (0 ≤ y ∧ y < 256)))) : rb_G none 82 0 [some (.ref 0), some (.int x), some (.int y), none, none, none] [] (rb_W V) P ↔ P (some (.int (-1))) (rb_W V) := by
  simp only [r82_0, r82_1, r82_4, r82_5, r82_8, r82_11, r82_12, r82_13, r82_16, r82_17, r82_20, r82_23, r82_24, m_isMember, m_isSecret, rb_sg_self, rb_sg_sg, List.length_cons, List.length_nil, Nat.reduceAdd, Nat.reduceLeDiff, Nat.reduceLT, Nat.zero_add, Option.toList_some, Option.toList_none, List.cons_append, List.nil_append, rb_bi_eq0, rb_bi_ne0, rb_okv0, rb_okv1, rb_okvb, ln0, ln1, ln2, ln3, ln4, ln5, ln6, ln7, ln8, ln9, ln10, if_true, if_false, ite_not, Decidable.not_not]
  by_cases h1 : 0 ≤ x ∧ x < V 0 11 0
  · have h2 : ¬ y = -1 := fun q => h ⟨h1, Or.inl q⟩
    have h3 : ¬ (0 ≤ y ∧ y < 256) := fun q => h ⟨h1, Or.inr q⟩
    simp only [if_pos h1, if_neg h2, if_neg h3]
  · simp only [if_neg h1]
theorem q_openings_u (H : hOK V m t rd ph f n) (hi : i < m) (h2 : y = -1 ∨ (0 ≤ y ∧ y < 256)) (h5 : V 0 5 i = 0) : rb_G none 82 0 [some (.ref 0), some (.int (nI i)), some (.int y), none, none, none] [] (rb_W V) P ↔ P (some (.int (-9))) (rb_W V) := by
  obtain ⟨hm, hm2, hm8, ht, ht1, htm, hrd, hrd30, hph, hph3, hf, hf8, hn, hn8⟩ := H
  have h1 := rb_mem1 hi hm8
  have hi8 : i < 8 := by omega
  simp only [r82_0, r82_1, r82_4, r82_5, r82_8, r82_11, r82_12, r82_13, r82_16, r82_17, r82_20, r82_23, r82_24, r82_25, r82_26, r82_29, r82_30, r82_33, r82_36, r82_38, m_isMember, m_isSecret, m_isBound, hm, if_pos h1, hi8, h5, rb_sg_self, rb_sg_sg, List.length_cons, List.length_nil, Nat.reduceAdd, Nat.reduceLeDiff, Nat.reduceLT, Nat.zero_add, Option.toList_some, Option.toList_none, List.cons_append, List.nil_append, rb_bi_eq0, rb_bi_ne0, rb_okv0, rb_okv1, rb_okvb, ln0, ln1, ln2, ln3, ln4, ln5, ln6, ln7, ln8, ln9, ln10, if_true, if_false, ite_not, Decidable.not_not]
  by_cases h3 : y = -1
  · simp only [if_pos h3]
  · have h4 : 0 ≤ y ∧ y < 256 := h2.resolve_left h3
    simp only [if_neg h3, if_pos h4]
theorem q_openings_s {s q : Nat} (H : hOK V m t rd ph f n) (hi : i < m) (hs : s < 256) (h5 : ¬ V 0 5 i = 0) (hq : V 0 6 i = nI q) (hq1 : q < 10007) : rb_G none 82 0 [some (.ref 0), some (.int (nI i)), some (.int (nI s)), none, none, none] [] (rb_W V) P ↔ P (some (.int (nI (rn_sal i s q)))) (rb_W V) := by
  obtain ⟨hm, hm2, hm8, ht, ht1, htm, hrd, hrd30, hph, hph3, hf, hf8, hn, hn8⟩ := H
  have h1 := rb_mem1 hi hm8
  have hi8 : i < 8 := by omega
  have h3 : ¬ nI s = -1 := fun q => absurd (show nI s < 0 by rw [q]; decide) (nI_pos (by omega))
  have h4 : 0 ≤ nI s ∧ nI s < 256 := ⟨nI_pos' (by omega), nI_lt (b := 256) hs (by decide)⟩
  simp only [r82_0, r82_1, r82_4, r82_5, r82_8, r82_11, r82_12, r82_13, r82_16, r82_17, r82_20, r82_23, r82_24, r82_25, r82_26, r82_29, r82_30, r82_33, r82_36, r82_38, r82_39, r82_40, r82_43, r82_46, r82_47, r82_50, r82_51, r82_52, r82_53, r82_56, r82_57, r82_58, r82_59, r82_62, m_isMember, m_isSecret, m_isBound, m_at, m_countSalts hi8 hs hq1, hm, if_pos h1, if_neg h3, if_pos h4, hi8, h5, hq, rb_sg_self, rb_sg_sg, List.length_cons, List.length_nil, Nat.reduceAdd, Nat.reduceLeDiff, Nat.reduceLT, Nat.zero_add, Option.toList_some, Option.toList_none, List.cons_append, List.nil_append, rb_bi_eq0, rb_bi_ne0, rb_okv0, rb_okv1, rb_okvb, ln0, ln1, ln2, ln3, ln4, ln5, ln6, ln7, ln8, ln9, ln10, if_true, if_false, ite_not, Decidable.not_not]
theorem q_openings_a {q : Nat} (H : hOK V m t rd ph f n) (hi : i < m) (h5 : ¬ V 0 5 i = 0) (hq : V 0 6 i = nI q) (hq1 : q < 10007) : rb_G none 82 0 [some (.ref 0), some (.int (nI i)), some (.int (-1)), none, none, none] [] (rb_W V) P ↔ P (some (.int (cOpA i q 256))) (rb_W V) := by
  obtain ⟨hm, hm2, hm8, ht, ht1, htm, hrd, hrd30, hph, hph3, hf, hf8, hn, hn8⟩ := H
  have h1 := rb_mem1 hi hm8
  have hi8 : i < 8 := by omega
  obtain ⟨N, hN⟩ : ∃ N : Nat, N = 256 := ⟨256, rfl⟩
  simp only [r82_0, r82_1, r82_4, r82_5, r82_8, r82_11, r82_12, r82_13, r82_16, r82_17, r82_20, r82_23, r82_24, r82_25, r82_26, r82_29, r82_30, r82_33, r82_36, r82_38, r82_39, r82_40, r82_43, r82_46, r82_47, r82_50, r82_51, r82_52, r82_53, r82_63, r82_64, r82_66, r82_67, m_isMember, m_isBound, m_at, hm, if_pos h1, hi8, h5, hq, rb_sg_self, rb_sg_sg, List.length_cons, List.length_nil, Nat.reduceAdd, Nat.reduceLeDiff, Nat.reduceLT, Nat.zero_add, Option.toList_some, Option.toList_none, List.cons_append, List.nil_append, rb_bi_eq0, rb_bi_ne0, rb_okv0, rb_okv1, rb_okvb, ln0, ln1, ln2, ln3, ln4, ln5, ln6, ln7, ln8, ln9, ln10, if_true, if_false, ite_not, Decidable.not_not]
  have key := rb_loop (Q := fun s => rb_G none 82 69 [some (.ref 0), some (.int (nI i)), some (.int (-1)), some (.int (nI q)), some (.int (cOpA i q s)), some (.int (nI s))] [] (rb_W V) P) N (fun s hs => by
    have hs6 : s < 256 := by omega
    have h3 : ¬ (256 : Int32) ≤ nI s := nI_ge (b := 256) hs6 (by decide)
    show rb_G none 82 69 _ _ _ _ ↔ _
    rw [r82_69]
    simp only [r82_71, r82_74, r82_77, r82_79, r82_80, r82_82, r82_83, r82_86, r82_87, r82_89, r82_92, m_countSalts hi8 hs6 hq1, h3, rb_sg_self, rb_sg_sg, List.length_cons, List.length_nil, Nat.reduceAdd, Nat.reduceLeDiff, Nat.reduceLT, Nat.zero_add, Option.toList_some, Option.toList_none, List.cons_append, List.nil_append, rb_bi_eq0, rb_bi_ne0, rb_okv0, rb_okv1, rb_okvb, ln0, ln1, ln2, ln3, ln4, ln5, ln6, ln7, ln8, ln9, ln10, if_true, if_false, ite_not, Decidable.not_not, nI_1, cOpA, rb_sum])
  simp only [nI_0, cOpA, rb_sum] at key
  rw [key]
  have h4 : (256 : Int32) ≤ nI N := nI_le (a := 256) (by omega) (by omega)
  have e : cOpA i q 256 = cOpA i q N := by rw [hN]
  rw [e]
  simp only [r82_69, r82_71, r82_74, r82_95, r82_97, h4, rb_sg_self, rb_sg_sg, List.length_cons, List.length_nil, Nat.reduceAdd, Nat.reduceLeDiff, Nat.reduceLT, Nat.zero_add, Option.toList_some, Option.toList_none, List.cons_append, List.nil_append, rb_bi_eq0, rb_bi_ne0, rb_okv0, rb_okv1, rb_okvb, ln0, ln1, ln2, ln3, ln4, ln5, ln6, ln7, ln8, ln9, ln10, if_true, if_false, ite_not, Decidable.not_not, cOpA]
end RBM
