/-! THE METHODS' ANSWERS, 10: openings and ticks -/
def cTicks (c : Nat → Nat → Int32) (m rd : Nat) : Nat → Nat → Nat → Int32
  | 0 => c
  | k + 1 => cPass (cTicks c m rd k) m rd (cTicks c m rd k 11 4).toNatClampNeg
theorem cFine_ok (c : Nat → Nat → Int32) (m rd ph : Nat) (k : Nat) (hk : k = 0 ∨ k = 3) : cPass c m rd ph 11 k = c 11 k := by
  have hk4 : ¬ k = 4 := by omega
  have hk5 : ¬ k = 5 := by omega
  have hk6 : ¬ k = 6 := by omega
  have hk2 : ¬ k = 2 := by omega
  have eC : ∀ d : Nat → Nat → Int32, cClose d m rd 11 k = d 11 k := fun d => by
    unfold cClose; rw [rb_u2_row (by decide), cPay_11 _ _ _ hk6, cEnter_11 _ _ _ hk4 hk5]
  unfold cPass
  by_cases h1 : ph = 3
  · rw [if_pos h1, cTime_11 _ _ hk2 hk5]
  · rw [if_neg h1]
    by_cases h2 : c 11 5 + 1 < c 0 ph
    · rw [if_pos h2, cTime_11 _ _ hk2 hk5]
    · rw [if_neg h2]
      unfold cEndP
      by_cases h3 : cTime c 11 4 = 0
      · rw [if_pos h3]; unfold cEnd0; rw [cEnter_11 _ _ _ hk4 hk5, cTime_11 _ _ hk2 hk5]
      · rw [if_neg h3]
        by_cases h4 : cTime c 11 4 = 1
        · rw [if_pos h4]; unfold cEnd1
          by_cases h5 : cCount (cFineS (cTime c) m) 1 m ≤ 0
          · rw [if_pos h5, eC, cFineS_11 _ _ hk6, cTime_11 _ _ hk2 hk5]
          · rw [if_neg h5, cEnter_11 _ _ _ hk4 hk5, cFineS_11 _ _ hk6, cTime_11 _ _ hk2 hk5]
        · rw [if_neg h4, eC, cTime_11 _ _ hk2 hk5]
theorem cEnter_4 (c : Nat → Nat → Int32) (x : Int32) : cEnter c x 11 4 = x := by
  unfold cEnter; rw [rb_u2_ne (by decide), rb_u2_at]
theorem cPass_4 (c : Nat → Nat → Int32) (m rd ph : Nat) (h : c 11 4 = nI ph) (h3 : ph ≤ 3) : ∃ p, p ≤ 3 ∧ cPass c m rd ph 11 4 = nI p := by
  have eC : ∀ d : Nat → Nat → Int32, cClose d m rd 11 4 = nI 3 := fun d => by
    unfold cClose; rw [rb_u2_row (by decide), cPay_11 _ _ _ (by decide), cEnter_4]; rfl
  have eT : cTime c 11 4 = nI ph := by rw [cTime_11 _ _ (by decide) (by decide), h]
  unfold cPass
  by_cases h1 : ph = 3
  · rw [if_pos h1]; exact ⟨ph, h3, eT⟩
  · rw [if_neg h1]
    by_cases h2 : c 11 5 + 1 < c 0 ph
    · rw [if_pos h2]; exact ⟨ph, h3, eT⟩
    · rw [if_neg h2]
      unfold cEndP
      by_cases h3 : cTime c 11 4 = 0
      · rw [if_pos h3]; unfold cEnd0; rw [cEnter_4]
        by_cases h5 : 2 ≤ cBound (cTime c) m
        · rw [if_pos h5]; exact ⟨1, by decide, rfl⟩
        · rw [if_neg h5]; exact ⟨3, by decide, rfl⟩
      · rw [if_neg h3]
        by_cases h4 : cTime c 11 4 = 1
        · rw [if_pos h4]; unfold cEnd1
          by_cases h5 : cCount (cFineS (cTime c) m) 1 m ≤ 0
          · rw [if_pos h5]; exact ⟨3, by decide, eC _⟩
          · rw [if_neg h5, cEnter_4]; exact ⟨2, by decide, rfl⟩
        · rw [if_neg h4]; exact ⟨3, by decide, eC _⟩
theorem cTicks_ok (c : Nat → Nat → Int32) (m rd ph : Nat) (h : c 11 4 = nI ph) (h3 : ph ≤ 3) : ∀ k, cTicks c m rd k 11 0 = c 11 0 ∧ cTicks c m rd k 11 3 = c 11 3 ∧ ∃ p, p ≤ 3 ∧ cTicks c m rd k 11 4 = nI p
  | 0 => ⟨rfl, rfl, ph, h3, h⟩
  | k + 1 => by
    obtain ⟨a, b, p, hp, e⟩ := cTicks_ok c m rd ph h h3 k
    have ec : (cTicks c m rd k 11 4).toNatClampNeg = p := by rw [e]; exact nI_clamp (by omega)
    unfold cTicks
    rw [ec, cFine_ok _ _ _ _ _ (Or.inl rfl), cFine_ok _ _ _ _ _ (Or.inr rfl)]
    exact ⟨a, b, cPass_4 _ m rd p e hp⟩
section RBM
variable {V : rb_V} {P : Option Value → rb_M → Prop} {i o m t rd ph f n : Nat} {x y z : Int32}
theorem m_passTime_at {g : Nat} {c : Nat → Nat → Int32} (hg : g < 12) (hm : c 11 0 = nI m) (hm8 : m ≤ 8) (hrd : c 11 3 = nI rd) (hrd30 : rd < 30) (hph : c 11 4 = nI ph) (hph3 : ph ≤ 3) : rb_G none 84 0 [some (.ref (rb_st g))] [] (rb_W (rb_sg V g c)) P ↔ P none (rb_W (rb_sg V g (cPass c m rd ph))) := by
  have := m_passTime (V := rb_sg V g c) (P := P) (m := m) (rd := rd) (ph := ph) hg (by rw [rb_sg_self]; exact hm) hm8 (by rw [rb_sg_self]; exact hrd) hrd30 (by rw [rb_sg_self]; exact hph) hph3
  rw [rb_sg_self, rb_sg_sg] at this; exact this
theorem q_tick_b (h : x < 1 ∨ 60 < x) : rb_G none 83 0 [some (.ref 0), some (.int x), none] [] (rb_W V) P ↔ P (some (.int (-1))) (rb_W V) := by
  simp only [r83_0, r83_1, r83_2, r83_5, r83_6, r83_8, r83_11, r83_12, rb_sg_self, rb_sg_sg, List.length_cons, List.length_nil, Nat.reduceAdd, Nat.reduceLeDiff, Nat.reduceLT, Nat.zero_add, Option.toList_some, Option.toList_none, List.cons_append, List.nil_append, rb_bi_eq0, rb_bi_ne0, rb_okv0, rb_okv1, rb_okvb, ln0, ln1, ln2, ln3, ln4, ln5, ln6, ln7, ln8, ln9, ln10, if_true, if_false, ite_not, Decidable.not_not]
  by_cases h1 : x < 1
  · simp only [if_pos h1]
  · have h2 : ¬ x ≤ 60 := Int32.not_le.mpr (h.resolve_left h1)
    simp only [if_neg h1, if_neg h2]
theorem q_tick_k {k : Nat} (H : hOK V m t rd ph f n) (hk : 1 ≤ k) (hk60 : k ≤ 60) : rb_G none 83 0 [some (.ref 0), some (.int (nI k)), none] [] (rb_W V) P ↔ P (some (.int (cTicks (V 0) m rd k 11 4))) (rb_W (rb_sg (hRec V f n) 0 (cTicks (V 0) m rd k))) := by
  obtain ⟨hm, hm2, hm8, ht, ht1, htm, hrd, hrd30, hph, hph3, hf, hf8, hn, hn8⟩ := H
  have h1 : ¬ nI k < 1 := fun q => absurd ((nI_ltI (b := 1) (by omega) (by decide)).mp q) (by omega)
  have h2 : nI k ≤ 60 := nI_le (b := 60) hk60 (by decide)
  simp only [r83_0, r83_1, r83_2, r83_5, r83_6, r83_8, r83_11, r83_12, r83_13, r83_14, r83_17, r83_18, r83_21, r83_24, r83_25, h1, h2, m_record hf hf8 hn hn8, rb_sg_self, rb_sg_sg, List.length_cons, List.length_nil, Nat.reduceAdd, Nat.reduceLeDiff, Nat.reduceLT, Nat.zero_add, Option.toList_some, Option.toList_none, List.cons_append, List.nil_append, rb_bi_eq0, rb_bi_ne0, rb_okv0, rb_okv1, rb_okvb, ln0, ln1, ln2, ln3, ln4, ln5, ln6, ln7, ln8, ln9, ln10, if_true, if_false, ite_not, Decidable.not_not]
  have key := rb_loop (Q := fun j => rb_G none 83 26 [some (.ref 0), some (.int (nI k)), some (.int (nI j))] [] (rb_W (rb_sg (hRec V f n) 0 (cTicks (V 0) m rd j))) P) k (fun j hj => by
    have h3 : ¬ nI k ≤ nI j := nI_ge hj (by omega)
    obtain ⟨a, b, p, hp, e⟩ := cTicks_ok (V 0) m rd ph hph hph3 j
    have ec : (cTicks (V 0) m rd j 11 4).toNatClampNeg = p := by rw [e]; exact nI_clamp (by omega)
    show rb_G none 83 26 _ _ _ _ ↔ _
    rw [r83_26]
    simp only [r83_27, r83_28, r83_31, r83_32, r83_35, r83_38, r83_41, m_passTime_at (show 0 < 12 by decide) (a.trans hm) hm8 (b.trans hrd) hrd30 e hp, h3, rb_sg_self, rb_sg_sg, List.length_cons, List.length_nil, Nat.reduceAdd, Nat.reduceLeDiff, Nat.reduceLT, Nat.zero_add, Option.toList_some, Option.toList_none, List.cons_append, List.nil_append, rb_bi_eq0, rb_bi_ne0, rb_okv0, rb_okv1, rb_okvb, ln0, ln1, ln2, ln3, ln4, ln5, ln6, ln7, ln8, ln9, ln10, if_true, if_false, ite_not, Decidable.not_not, nI_1, cTicks, ec])
  have e0 : rb_sg (hRec V f n) 0 (cTicks (V 0) m rd 0) = hRec V f n := by
    have := rb_sg_id (hRec V f n) 0
    rw [hRec_0] at this
    exact this
  rw [e0, nI_0] at key
  rw [key]
  have h4 : nI k ≤ nI k := nI_le (Nat.le_refl k) (by omega)
  simp only [r83_26, r83_27, r83_28, r83_44, r83_45, r83_48, r83_51, h4, rb_sg_self, rb_sg_sg, List.length_cons, List.length_nil, Nat.reduceAdd, Nat.reduceLeDiff, Nat.reduceLT, Nat.zero_add, Option.toList_some, Option.toList_none, List.cons_append, List.nil_append, rb_bi_eq0, rb_bi_ne0, rb_okv0, rb_okv1, rb_okvb, ln0, ln1, ln2, ln3, ln4, ln5, ln6, ln7, ln8, ln9, ln10, if_true, if_false, ite_not, Decidable.not_not]
end RBM
