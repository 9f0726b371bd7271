/-! THE REFERENCE'S ANSWERS, 7: its face -/
def wPublT (W : Nat → Nat → Int32) (o i : Nat) (z : Int32) : Nat → Nat → Int32 := wTake (rb_u2 W 1 (135 + 8 * o + i) z) o 8
def wPubl (W : Nat → Nat → Int32) (o i : Nat) (z : Int32) (t : Nat) : Nat → Nat → Int32 := rb_u2 (wPublT W o i z) 1 (55 + o) (if wSk (wPublT W o i z) = nI t then wAtZ (wPublT W o i z 5) else -9)
def wTicks (W : Nat → Nat → Int32) (m : Nat) : Nat → Nat → Nat → Int32
  | 0 => W
  | k + 1 => wTick (wTicks W m k) m (wTicks W m k 1 4).toNatClampNeg
def wNext (W : Nat → Nat → Int32) (rd : Nat) : Nat → Nat → Int32 := wRound (rb_u2 (rb_u2 W 1 (199 + rd) (W 1 8)) 1 3 (nI (rd + 1)))
def wUnL (W : Nat → Nat → Int32) (p : Nat) : Nat → Nat → Nat → Int32
  | 0 => W
  | k + 1 => rb_u2 (wUnL W p k) 1 k (wUnL W p k 2 (229 * p + k))
def wUn (W : Nat → Nat → Int32) (p : Nat) : Nat → Nat → Int32 := wUnL (rb_u2 W 0 0 (nI p)) p 229
def wKp (W : Nat → Nat → Int32) (p : Nat) : Nat → Nat → Nat → Int32
  | 0 => W
  | k + 1 => rb_u2 (wKp W p k) 3 (229 * p + k) (wKp W p k 1 k)
def wKeep (W : Nat → Nat → Int32) (p : Nat) : Nat → Nat → Int32 := rb_u2 (wKp W p 229) 0 1 (wKp W p 229 0 1 ||| 1 <<< (nI p &&& 31))
def wBk (W : Nat → Nat → Int32) (p : Nat) : Nat → Nat → Nat → Int32
  | 0 => W
  | k + 1 => rb_u2 (wBk W p k) 1 k (wBk W p k 3 (229 * p + k))
def wHon (W : Nat → Nat → Int32) (m : Nat) : Int32 := rb_xor (fun i => if W 1 (31 + i) = -9 then 0 else W 1 (39 + i)) m
def wOpA (W : Nat → Nat → Int32) (i n : Nat) : Int32 := rb_sum (fun s => wOps W i (nI s) 1000) n
theorem wPayL_W (W : Nat → Nat → Int32) (q : Int32) (r : Nat) (hr : ¬ r = 1) : ∀ j, wPayL W q j r = W r
  | 0 => rfl
  | j + 1 => by unfold wPayL; rw [rb_u2_row hr]; exact wPayL_W W q r hr j
theorem wPay_W (W : Nat → Nat → Int32) (m : Nat) (r : Nat) (hr : ¬ r = 1) : wPay W m r = W r := by
  unfold wPay
  split
  · rfl
  · rw [rb_u2_row hr, wPayL_W _ _ _ hr]
theorem wShut_W (W : Nat → Nat → Int32) (m : Nat) (r : Nat) (hr : ¬ r = 1) : wShut W m r = W r := by
  unfold wShut
  rw [rb_u2_row hr, rb_u2_row hr, wPay_W _ _ _ hr]
theorem wShut_0 (W : Nat → Nat → Int32) (m : Nat) (hm8 : m ≤ 8) : wShut W m 1 0 = W 1 0 := by
  unfold wShut
  rw [rb_u2_ne (by decide), rb_u2_ne (by decide), wPay_ne _ _ hm8 _ (by decide)]
theorem wShut_4 (W : Nat → Nat → Int32) (m : Nat) : wShut W m 1 4 = 3 := by
  unfold wShut
  rw [rb_u2_ne (by decide), rb_u2_at]
theorem wEnd_0 (W : Nat → Nat → Int32) (m : Nat) (hm8 : m ≤ 8) : wEnd W m 1 0 = W 1 0 := by
  unfold wEnd
  split
  · rw [rb_u2_ne (by decide), rb_u2_ne (by decide)]
  · split
    · split
      · rw [wShut_0 _ _ hm8, wFineS_ne _ 0 (by decide) _ hm8, rb_u2_ne (by decide)]
      · rw [rb_u2_ne (by decide), wFineS_ne _ 0 (by decide) _ hm8, rb_u2_ne (by decide)]
    · rw [wShut_0 _ _ hm8, rb_u2_ne (by decide)]
theorem wEnd_4 (W : Nat → Nat → Int32) (m : Nat) : ∃ p, p ≤ 3 ∧ wEnd W m 1 4 = nI p := by
  unfold wEnd
  split
  · rw [rb_u2_at]
    split
    · exact ⟨1, by decide, by decide⟩
    · exact ⟨3, by decide, by decide⟩
  · split
    · split
      · rw [wShut_4]; exact ⟨3, by decide, by decide⟩
      · rw [rb_u2_at]; exact ⟨2, by decide, by decide⟩
    · rw [wShut_4]; exact ⟨3, by decide, by decide⟩
theorem wTime_ne (W : Nat → Nat → Int32) (k : Nat) (hk : ¬ k = 2 ∧ ¬ k = 5) : wTime W 1 k = W 1 k := by unfold wTime; rw [rb_u2_ne hk.2, rb_u2_ne hk.1]
theorem wTick_0 (W : Nat → Nat → Int32) (m ph : Nat) (hm8 : m ≤ 8) : wTick W m ph 1 0 = W 1 0 := by
  unfold wTick
  split
  · exact wTime_ne W 0 (by decide)
  · split
    · exact wTime_ne W 0 (by decide)
    · rw [wEnd_0 _ _ hm8, wTime_ne W 0 (by decide)]
theorem wTick_4 (W : Nat → Nat → Int32) (m ph : Nat) (h : W 1 4 = nI ph) (h3 : ph ≤ 3) : ∃ p, p ≤ 3 ∧ wTick W m ph 1 4 = nI p := by
  unfold wTick
  split
  · exact ⟨ph, h3, by rw [wTime_ne W 4 (by decide), h]⟩
  · split
    · exact ⟨ph, h3, by rw [wTime_ne W 4 (by decide), h]⟩
    · exact wEnd_4 _ _
theorem wTicks_04 (W : Nat → Nat → Int32) (m ph : Nat) (hm8 : m ≤ 8) (h : W 1 4 = nI ph) (h3 : ph ≤ 3) : ∀ k, wTicks W m k 1 0 = W 1 0 ∧ ∃ p, p ≤ 3 ∧ wTicks W m k 1 4 = nI p
  | 0 => ⟨rfl, ph, h3, h⟩
  | k + 1 => by
    obtain ⟨h0, p, hp, h4⟩ := wTicks_04 W m ph hm8 h h3 k
    unfold wTicks
    have e : (wTicks W m k 1 4).toNatClampNeg = p := by rw [h4]; exact nI_clamp (by omega)
    rw [e]
    exact ⟨by rw [wTick_0 _ _ _ hm8, h0], wTick_4 _ _ _ h4 hp⟩
section RBM
variable {V : rb_V} {P : Option Value → rb_M → Prop} {i j o m t n rd ph : Nat} {x y z s : Int32}
theorem p_publish_b (hm : V 12 1 0 = nI m) (hm2 : 2 ≤ m) (hm8 : m ≤ 8) (h : ¬ (((0 ≤ x ∧ x < nI m) ∧ (0 ≤ y ∧ y < nI m) ∧ ¬ x = y) ∧ ¬ z < 0 ∧ z < 257)) : rb_G none 120 0 [some (.ref 281), some (.int x), some (.int y), some (.int z), none] [] (rb_W V) P ↔ P (some (.int (-1))) (rb_W V) := by
  by_cases h1 : (0 ≤ x ∧ x < nI m) ∧ (0 ≤ y ∧ y < nI m) ∧ ¬ x = y
  · have h6 : (0 ≤ z ∧ z ≤ 256) ↔ (0 ≤ z ∧ z < 257) := rb_m1 (m := 257) (by decide) (by decide)
    have h3 : ¬ (0 ≤ z ∧ z ≤ 256) := fun q => h ⟨h1, Int32.not_lt.mpr q.1, (h6.mp q).2⟩
    simp only [r120_0, r120_1, r120_2, r120_3, r120_6, r120_9, r120_10, r120_11, r120_14, r120_17, r120_20, r120_21, n_areTwo' hm hm2 hm8, n_isIn, rb_sg_self, rb_sg_sg, List.length_cons, List.length_nil, Nat.reduceAdd, Nat.reduceLeDiff, Nat.reduceLT, Nat.zero_add, Option.toList_some, Option.toList_none, List.cons_append, List.nil_append, rb_bi_eq0, rb_bi_ne0, rb_okv0, rb_okv1, rb_okvb, ln0, ln1, ln2, ln3, ln4, ln5, ln6, ln7, ln8, ln9, ln10, if_true, if_false, ite_not, Decidable.not_not, if_pos h1, if_neg h3]
  · simp only [r120_0, r120_1, r120_2, r120_3, r120_6, r120_9, r120_10, r120_11, r120_14, r120_17, r120_20, r120_21, n_areTwo' hm hm2 hm8, n_isIn, rb_sg_self, rb_sg_sg, List.length_cons, List.length_nil, Nat.reduceAdd, Nat.reduceLeDiff, Nat.reduceLT, Nat.zero_add, Option.toList_some, Option.toList_none, List.cons_append, List.nil_append, rb_bi_eq0, rb_bi_ne0, rb_okv0, rb_okv1, rb_okvb, ln0, ln1, ln2, ln3, ln4, ln5, ln6, ln7, ln8, ln9, ln10, if_true, if_false, ite_not, Decidable.not_not, if_neg h1]
theorem p_publish_k (H : pOK V m t rd ph n) (hi : i < m) (ho : o < m) (hio : ¬ i = o) (h2 : ¬ z < 0) (h3 : z < 257) : rb_G none 120 0 [some (.ref 281), some (.int (nI i)), some (.int (nI o)), some (.int z), none] [] (rb_W V) P ↔ (if V 12 1 4 = 2 ∧ V 12 1 (23 + i) = 1 ∧ ¬ V 12 1 (31 + i) = -9 ∧ ¬ V 12 1 (31 + o) = -9 ∧ wKn (V 12) o = -9 ∧ V 12 1 (135 + 8 * o + i) = -9 then (if rb_mk (nI i) z = rb_mk (nI i) (V 12 1 (71 + 8 * o + i)) then P (some (.int (wSk (wPublT (wRem (V 12) n) o i z)))) (rb_W (rb_sg V 12 (wPubl (wRem (V 12) n) o i z t))) else P (some (.int 0)) (rb_W (rb_sg V 12 (wFine (wRem (V 12) n) i (V 12 1 13))))) else P (some (.int (-2))) (rb_W V)) := by
  obtain ⟨hm, hm2, hm8, ht, ht1, htm, hrd, hrd30, hph, hph3, hn, hn8⟩ := H
  have hi8 : i < 8 := by omega
  have ho8 : o < 8 := by omega
  have hA : (0 ≤ nI i ∧ nI i < nI m) ∧ (0 ≤ nI o ∧ nI o < nI m) ∧ ¬ nI i = nI o := ⟨rb_mem1 hi hm8, rb_mem1 ho hm8, fun q => hio ((rb_eqn (by omega) (by omega)).mp q)⟩
  have h6 : (0 ≤ z ∧ z ≤ 256) ↔ (0 ≤ z ∧ z < 257) := rb_m1 (m := 257) (by decide) (by decide)
  have hZ : 0 ≤ z ∧ z ≤ 256 := h6.mpr ⟨Int32.not_lt.mp h2, h3⟩
  by_cases hc : V 12 1 4 = 2 ∧ V 12 1 (23 + i) = 1 ∧ ¬ V 12 1 (31 + i) = -9 ∧ ¬ V 12 1 (31 + o) = -9 ∧ wKn (V 12) o = -9 ∧ V 12 1 (135 + 8 * o + i) = -9
  · rw [if_pos hc]
    have htk : ∀ {Q : Option Value → rb_M → Prop}, rb_G none 125 0 [some (.ref 281), some (.int (nI o)), none] [] (rb_W (rb_sg V 12 (rb_u2 (wRem (V 12) n) 1 (135 + 8 * o + i) z))) Q ↔ Q none (rb_W (rb_sg V 12 (wPublT (wRem (V 12) n) o i z))) := fun {Q} => by
      have := n_takePublished (V := rb_sg V 12 (rb_u2 (wRem (V 12) n) 1 (135 + 8 * o + i) z)) (P := Q) ho8
      rw [rb_sg_self, rb_sg_sg] at this
      exact this
    have e1 : wPublT (wRem (V 12) n) o i z 1 1 = nI t := by unfold wPublT; rw [wTake_1, rb_u2_ne (by omega), wRem_1, ht]
    by_cases hk : rb_mk (nI i) z = rb_mk (nI i) (V 12 1 (71 + 8 * o + i))
    · by_cases hs : wSk (wPublT (wRem (V 12) n) o i z) = nI t
      · simp only [r120_0, r120_1, r120_2, r120_3, r120_6, r120_9, r120_10, r120_11, r120_14, r120_17, r120_20, r120_21, r120_22, r120_23, r120_24, r120_25, r120_28, r120_31, r120_33, r120_34, r120_35, r120_38, r120_39, r120_40, r120_43, r120_44, r120_47, r120_49, r120_51, r120_52, r120_53, r120_54, r120_55, r120_56, r120_57, r120_58, r120_61, r120_64, r120_65, r120_66, r120_67, r120_70, r120_72, r120_73, r120_76, r120_77, r120_78, r120_79, r120_82, r120_85, r120_87, r120_88, r120_89, r120_90, r120_91, r120_92, r120_93, r120_94, r120_95, r120_96, r120_99, r120_100, r120_103, r120_105, r120_106, r120_109, r120_111, r120_112, r120_113, r120_115, r120_116, r120_119, r120_120, r120_121, r120_124, r120_125, r120_128, r120_131, r120_133, r120_134, r120_136, n_areTwo' hm hm2 hm8, n_isIn, n_mayPublish hi8 ho8, n_remember hn hn8, n_markOf, n_sharesKnown_at, n_atZero_at, htk, e1, wRem_1, hi8, ho8, r17, lm1, lm2, lm3, lm4, lm5, lm6, ib0, ib1, ib2, ib3, ib4, ib5, ib6, ib7, ib8, ib9, ib10, ib11, ib12, ib13, ib14, tn0, tn1, tn2, tn3, tn4, tn5, tn6, tn7, tn8, tn9, tn10, tn11, tn12, tn13, tn14, ibt0, ca9, in9, cl9, ca15, in15, cl15, ca23, in23, cl23, ca31, in31, cl31, ca39, in39, cl39, ca47, in47, cl47, ca55, in55, cl55, ca63, in63, cl63, ca199, in199, cl199, ca71, in71, cl71, ca135, in135, cl135, cm8, ine8, cle8, nI_add, rb_sg_self, rb_sg_sg, List.length_cons, List.length_nil, Nat.reduceAdd, Nat.reduceLeDiff, Nat.reduceLT, Nat.zero_add, Option.toList_some, Option.toList_none, List.cons_append, List.nil_append, rb_bi_eq0, rb_bi_ne0, rb_okv0, rb_okv1, rb_okvb, ln0, ln1, ln2, ln3, ln4, ln5, ln6, ln7, ln8, ln9, ln10, if_true, if_false, ite_not, Decidable.not_not, if_pos hA, if_pos hZ, if_pos hc, if_pos hk, hs, wPubl]
      · simp only [r120_0, r120_1, r120_2, r120_3, r120_6, r120_9, r120_10, r120_11, r120_14, r120_17, r120_20, r120_21, r120_22, r120_23, r120_24, r120_25, r120_28, r120_31, r120_33, r120_34, r120_35, r120_38, r120_39, r120_40, r120_43, r120_44, r120_47, r120_49, r120_51, r120_52, r120_53, r120_54, r120_55, r120_56, r120_57, r120_58, r120_61, r120_64, r120_65, r120_66, r120_67, r120_70, r120_72, r120_73, r120_76, r120_77, r120_78, r120_79, r120_82, r120_85, r120_87, r120_88, r120_89, r120_90, r120_91, r120_92, r120_93, r120_94, r120_95, r120_96, r120_99, r120_100, r120_103, r120_105, r120_106, r120_109, r120_111, r120_112, r120_113, r120_115, r120_116, r120_119, r120_120, r120_121, r120_124, r120_125, r120_128, r120_131, r120_133, r120_134, r120_136, n_areTwo' hm hm2 hm8, n_isIn, n_mayPublish hi8 ho8, n_remember hn hn8, n_markOf, n_sharesKnown_at, n_atZero_at, htk, e1, wRem_1, hi8, ho8, r17, lm1, lm2, lm3, lm4, lm5, lm6, ib0, ib1, ib2, ib3, ib4, ib5, ib6, ib7, ib8, ib9, ib10, ib11, ib12, ib13, ib14, tn0, tn1, tn2, tn3, tn4, tn5, tn6, tn7, tn8, tn9, tn10, tn11, tn12, tn13, tn14, ibt0, ca9, in9, cl9, ca15, in15, cl15, ca23, in23, cl23, ca31, in31, cl31, ca39, in39, cl39, ca47, in47, cl47, ca55, in55, cl55, ca63, in63, cl63, ca199, in199, cl199, ca71, in71, cl71, ca135, in135, cl135, cm8, ine8, cle8, nI_add, rb_sg_self, rb_sg_sg, List.length_cons, List.length_nil, Nat.reduceAdd, Nat.reduceLeDiff, Nat.reduceLT, Nat.zero_add, Option.toList_some, Option.toList_none, List.cons_append, List.nil_append, rb_bi_eq0, rb_bi_ne0, rb_okv0, rb_okv1, rb_okvb, ln0, ln1, ln2, ln3, ln4, ln5, ln6, ln7, ln8, ln9, ln10, if_true, if_false, ite_not, Decidable.not_not, if_pos hA, if_pos hZ, if_pos hc, if_pos hk, hs, wPubl]
    · simp only [r120_0, r120_1, r120_2, r120_3, r120_6, r120_9, r120_10, r120_11, r120_14, r120_17, r120_20, r120_21, r120_22, r120_23, r120_24, r120_25, r120_28, r120_31, r120_33, r120_34, r120_35, r120_38, r120_39, r120_40, r120_43, r120_44, r120_47, r120_49, r120_51, r120_52, r120_53, r120_54, r120_55, r120_56, r120_57, r120_58, r120_61, r120_64, r120_65, r120_66, r120_67, r120_70, r120_72, r120_73, r120_76, r120_77, n_areTwo' hm hm2 hm8, n_isIn, n_mayPublish hi8 ho8, n_remember hn hn8, n_markOf, n_fine, wRem_1, hi8, ho8, r17, lm1, lm2, lm3, lm4, lm5, lm6, ib0, ib1, ib2, ib3, ib4, ib5, ib6, ib7, ib8, ib9, ib10, ib11, ib12, ib13, ib14, tn0, tn1, tn2, tn3, tn4, tn5, tn6, tn7, tn8, tn9, tn10, tn11, tn12, tn13, tn14, ibt0, ca9, in9, cl9, ca15, in15, cl15, ca23, in23, cl23, ca31, in31, cl31, ca39, in39, cl39, ca47, in47, cl47, ca55, in55, cl55, ca63, in63, cl63, ca199, in199, cl199, ca71, in71, cl71, ca135, in135, cl135, cm8, ine8, cle8, nI_add, rb_sg_self, rb_sg_sg, List.length_cons, List.length_nil, Nat.reduceAdd, Nat.reduceLeDiff, Nat.reduceLT, Nat.zero_add, Option.toList_some, Option.toList_none, List.cons_append, List.nil_append, rb_bi_eq0, rb_bi_ne0, rb_okv0, rb_okv1, rb_okvb, ln0, ln1, ln2, ln3, ln4, ln5, ln6, ln7, ln8, ln9, ln10, if_true, if_false, ite_not, Decidable.not_not, if_pos hA, if_pos hZ, if_pos hc, if_neg hk]
  · rw [if_neg hc]
    simp only [r120_0, r120_1, r120_2, r120_3, r120_6, r120_9, r120_10, r120_11, r120_14, r120_17, r120_20, r120_21, r120_22, r120_23, r120_24, r120_25, r120_28, r120_31, r120_33, n_areTwo' hm hm2 hm8, n_isIn, n_mayPublish hi8 ho8, rb_sg_self, rb_sg_sg, List.length_cons, List.length_nil, Nat.reduceAdd, Nat.reduceLeDiff, Nat.reduceLT, Nat.zero_add, Option.toList_some, Option.toList_none, List.cons_append, List.nil_append, rb_bi_eq0, rb_bi_ne0, rb_okv0, rb_okv1, rb_okvb, ln0, ln1, ln2, ln3, ln4, ln5, ln6, ln7, ln8, ln9, ln10, if_true, if_false, ite_not, Decidable.not_not, if_pos hA, if_pos hZ, if_neg hc]
theorem p_give_b (hm : V 12 1 0 = nI m) (hm2 : 2 ≤ m) (hm8 : m ≤ 8) (h : ¬ ((0 ≤ x ∧ x < nI m) ∧ (0 ≤ y ∧ y < nI m) ∧ ¬ x = y)) : rb_G none 128 0 [some (.ref 281), some (.int x), some (.int y)] [] (rb_W V) P ↔ P (some (.int (-1))) (rb_W V) := by
  simp only [r128_0, r128_1, r128_2, r128_3, r128_6, r128_9, r128_10, n_areTwo' hm hm2 hm8, rb_sg_self, rb_sg_sg, List.length_cons, List.length_nil, Nat.reduceAdd, Nat.reduceLeDiff, Nat.reduceLT, Nat.zero_add, Option.toList_some, Option.toList_none, List.cons_append, List.nil_append, rb_bi_eq0, rb_bi_ne0, rb_okv0, rb_okv1, rb_okvb, ln0, ln1, ln2, ln3, ln4, ln5, ln6, ln7, ln8, ln9, ln10, if_true, if_false, ite_not, Decidable.not_not, if_neg h]
theorem p_give_k (H : pOK V m t rd ph n) (hi : i < m) (ho : o < m) (hio : ¬ i = o) (hz : V 12 1 4 = 2 ∧ V 12 1 (23 + i) = 1 ∧ ¬ V 12 1 (31 + i) = -9 ∧ ¬ V 12 1 (31 + o) = -9 ∧ wKn (V 12) o = -9 ∧ V 12 1 (135 + 8 * o + i) = -9 → ¬ V 12 1 (71 + 8 * o + i) < 0 ∧ V 12 1 (71 + 8 * o + i) < 257) : rb_G none 128 0 [some (.ref 281), some (.int (nI i)), some (.int (nI o))] [] (rb_W V) P ↔ (if V 12 1 4 = 2 ∧ V 12 1 (23 + i) = 1 ∧ ¬ V 12 1 (31 + i) = -9 ∧ ¬ V 12 1 (31 + o) = -9 ∧ wKn (V 12) o = -9 ∧ V 12 1 (135 + 8 * o + i) = -9 then P (some (.int (wSk (wPublT (wRem (V 12) n) o i (V 12 1 (71 + 8 * o + i)))))) (rb_W (rb_sg V 12 (wPubl (wRem (V 12) n) o i (V 12 1 (71 + 8 * o + i)) t))) else P (some (.int (-2))) (rb_W V)) := by
  have H0 := H
  obtain ⟨hm, hm2, hm8, ht, ht1, htm, hrd, hrd30, hph, hph3, hn, hn8⟩ := H
  have hi8 : i < 8 := by omega
  have ho8 : o < 8 := by omega
  have hA : (0 ≤ nI i ∧ nI i < nI m) ∧ (0 ≤ nI o ∧ nI o < nI m) ∧ ¬ nI i = nI o := ⟨rb_mem1 hi hm8, rb_mem1 ho hm8, fun q => hio ((rb_eqn (by omega) (by omega)).mp q)⟩
  by_cases hc : V 12 1 4 = 2 ∧ V 12 1 (23 + i) = 1 ∧ ¬ V 12 1 (31 + i) = -9 ∧ ¬ V 12 1 (31 + o) = -9 ∧ wKn (V 12) o = -9 ∧ V 12 1 (135 + 8 * o + i) = -9
  · obtain ⟨h2, h3⟩ := hz hc
    have hp : ∀ {Q : Option Value → rb_M → Prop}, rb_G none 120 0 [some (.ref 281), some (.int (nI i)), some (.int (nI o)), some (.int (V 12 1 (71 + 8 * o + i))), none] [] (rb_W V) Q ↔ Q (some (.int (wSk (wPublT (wRem (V 12) n) o i (V 12 1 (71 + 8 * o + i)))))) (rb_W (rb_sg V 12 (wPubl (wRem (V 12) n) o i (V 12 1 (71 + 8 * o + i)) t))) := fun {Q} => by
      rw [p_publish_k H0 hi ho hio h2 h3, if_pos hc, if_pos rfl]
    rw [if_pos hc]
    simp only [r128_0, r128_1, r128_2, r128_3, r128_6, r128_9, r128_10, r128_11, r128_12, r128_13, r128_14, r128_17, r128_20, r128_21, r128_22, r128_23, r128_24, r128_27, r128_29, r128_31, r128_32, r128_33, r128_34, r128_35, r128_36, r128_37, r128_40, r128_43, r128_45, n_areTwo' hm hm2 hm8, n_mayPublish hi8 ho8, hp, hi8, ho8, r17, lm1, lm2, lm3, lm4, lm5, lm6, ib0, ib1, ib2, ib3, ib4, ib5, ib6, ib7, ib8, ib9, ib10, ib11, ib12, ib13, ib14, tn0, tn1, tn2, tn3, tn4, tn5, tn6, tn7, tn8, tn9, tn10, tn11, tn12, tn13, tn14, ibt0, ca9, in9, cl9, ca15, in15, cl15, ca23, in23, cl23, ca31, in31, cl31, ca39, in39, cl39, ca47, in47, cl47, ca55, in55, cl55, ca63, in63, cl63, ca199, in199, cl199, ca71, in71, cl71, ca135, in135, cl135, cm8, ine8, cle8, nI_add, rb_sg_self, rb_sg_sg, List.length_cons, List.length_nil, Nat.reduceAdd, Nat.reduceLeDiff, Nat.reduceLT, Nat.zero_add, Option.toList_some, Option.toList_none, List.cons_append, List.nil_append, rb_bi_eq0, rb_bi_ne0, rb_okv0, rb_okv1, rb_okvb, ln0, ln1, ln2, ln3, ln4, ln5, ln6, ln7, ln8, ln9, ln10, if_true, if_false, ite_not, Decidable.not_not, if_pos hA, if_pos hc]
  · rw [if_neg hc]
    simp only [r128_0, r128_1, r128_2, r128_3, r128_6, r128_9, r128_10, r128_11, r128_12, r128_13, r128_14, r128_17, r128_20, r128_21, r128_22, r128_23, r128_24, r128_27, r128_29, r128_31, r128_32, r128_33, r128_34, r128_35, r128_36, r128_37, r128_40, r128_43, r128_45, n_areTwo' hm hm2 hm8, n_mayPublish hi8 ho8, rb_sg_self, rb_sg_sg, List.length_cons, List.length_nil, Nat.reduceAdd, Nat.reduceLeDiff, Nat.reduceLT, Nat.zero_add, Option.toList_some, Option.toList_none, List.cons_append, List.nil_append, rb_bi_eq0, rb_bi_ne0, rb_okv0, rb_okv1, rb_okvb, ln0, ln1, ln2, ln3, ln4, ln5, ln6, ln7, ln8, ln9, ln10, if_true, if_false, ite_not, Decidable.not_not, if_pos hA, if_neg hc]
theorem p_tick_b (h : x < 1 ∨ 60 < x) : rb_G none 129 0 [some (.ref 281), some (.int x), none] [] (rb_W V) P ↔ P (some (.int (-1))) (rb_W V) := by
  have h1 : ¬ (1 ≤ x ∧ x ≤ 60) := fun q => h.elim (fun a => Int32.not_lt.mpr q.1 a) (fun a => Int32.not_lt.mpr q.2 a)
  simp only [r129_0, r129_1, r129_2, r129_4, r129_7, r129_10, r129_11, n_isIn, rb_sg_self, rb_sg_sg, List.length_cons, List.length_nil, Nat.reduceAdd, Nat.reduceLeDiff, Nat.reduceLT, Nat.zero_add, Option.toList_some, Option.toList_none, List.cons_append, List.nil_append, rb_bi_eq0, rb_bi_ne0, rb_okv0, rb_okv1, rb_okvb, ln0, ln1, ln2, ln3, ln4, ln5, ln6, ln7, ln8, ln9, ln10, if_true, if_false, ite_not, Decidable.not_not, if_neg h1]
theorem p_tick_k {k : Nat} (H : pOK V m t rd ph n) (hk : 1 ≤ k) (hk60 : k ≤ 60) : rb_G none 129 0 [some (.ref 281), some (.int (nI k)), none] [] (rb_W V) P ↔ P (some (.int (wTicks (wRem (V 12) n) m k 1 4))) (rb_W (rb_sg V 12 (wTicks (wRem (V 12) n) m k))) := by
  obtain ⟨hm, hm2, hm8, ht, ht1, htm, hrd, hrd30, hph, hph3, hn, hn8⟩ := H
  have h1 : 1 ≤ nI k ∧ nI k ≤ 60 := ⟨nI_le (a := 1) hk (by omega), nI_le (b := 60) hk60 (by omega)⟩
  simp only [r129_0, r129_1, r129_2, r129_4, r129_7, r129_10, r129_11, r129_12, r129_13, r129_16, r129_17, n_isIn, n_remember hn hn8, rb_sg_self, rb_sg_sg, List.length_cons, List.length_nil, Nat.reduceAdd, Nat.reduceLeDiff, Nat.reduceLT, Nat.zero_add, Option.toList_some, Option.toList_none, List.cons_append, List.nil_append, rb_bi_eq0, rb_bi_ne0, rb_okv0, rb_okv1, rb_okvb, ln0, ln1, ln2, ln3, ln4, ln5, ln6, ln7, ln8, ln9, ln10, if_true, if_false, ite_not, Decidable.not_not, if_pos h1]
  have T := fun j => wTicks_04 (wRem (V 12) n) m ph hm8 (by rw [wRem_1, hph]) hph3 j
  have key := rb_loop (Q := fun j => rb_G none 129 18 [some (.ref 281), some (.int (nI k)), some (.int (nI j))] [] (rb_W (rb_sg V 12 (wTicks (wRem (V 12) n) m j))) P) k (fun j hj => by
    obtain ⟨t0, p, hp, t4⟩ := T j
    have h2 : ¬ nI k ≤ nI j := nI_ge hj (by omega)
    have ec : (wTicks (wRem (V 12) n) m j 1 4).toNatClampNeg = p := by rw [t4]; exact nI_clamp (by omega)
    have ht : ∀ {Q : Option Value → rb_M → Prop}, rb_G none 130 0 [some (.ref 281)] [] (rb_W (rb_sg V 12 (wTicks (wRem (V 12) n) m j))) Q ↔ Q none (rb_W (rb_sg V 12 (wTicks (wRem (V 12) n) m (j + 1)))) := fun {Q} => by
      have := n_tickOnce (V := rb_sg V 12 (wTicks (wRem (V 12) n) m j)) (P := Q) (by rw [rb_sg_self, t0, wRem_1]; exact hm) hm8 (by rw [rb_sg_self]; exact t4) hp
      rw [rb_sg_self, rb_sg_sg] at this
      rw [wTicks, ec]
      exact this
    show rb_G none 129 18 _ _ _ _ ↔ _
    rw [r129_18]
    simp only [r129_19, r129_20, r129_23, r129_24, r129_27, r129_30, ht, h2, rb_sg_self, rb_sg_sg, List.length_cons, List.length_nil, Nat.reduceAdd, Nat.reduceLeDiff, Nat.reduceLT, Nat.zero_add, Option.toList_some, Option.toList_none, List.cons_append, List.nil_append, rb_bi_eq0, rb_bi_ne0, rb_okv0, rb_okv1, rb_okvb, ln0, ln1, ln2, ln3, ln4, ln5, ln6, ln7, ln8, ln9, ln10, if_true, if_false, ite_not, Decidable.not_not, nI_1])
  rw [wTicks] at key
  simp only [nI_0] at key
  rw [key]
  have h3 : nI k ≤ nI k := nI_le (Nat.le_refl k) (by omega)
  simp only [r129_18, r129_19, r129_20, r129_33, r129_34, r129_37, r129_38, r129_39, h3, r17, lm1, lm2, lm3, lm4, lm5, lm6, ib0, ib1, ib2, ib3, ib4, ib5, ib6, ib7, ib8, ib9, ib10, ib11, ib12, ib13, ib14, tn0, tn1, tn2, tn3, tn4, tn5, tn6, tn7, tn8, tn9, tn10, tn11, tn12, tn13, tn14, ibt0, ca9, in9, cl9, ca15, in15, cl15, ca23, in23, cl23, ca31, in31, cl31, ca39, in39, cl39, ca47, in47, cl47, ca55, in55, cl55, ca63, in63, cl63, ca199, in199, cl199, ca71, in71, cl71, ca135, in135, cl135, cm8, ine8, cle8, nI_add, rb_sg_self, rb_sg_sg, List.length_cons, List.length_nil, Nat.reduceAdd, Nat.reduceLeDiff, Nat.reduceLT, Nat.zero_add, Option.toList_some, Option.toList_none, List.cons_append, List.nil_append, rb_bi_eq0, rb_bi_ne0, rb_okv0, rb_okv1, rb_okvb, ln0, ln1, ln2, ln3, ln4, ln5, ln6, ln7, ln8, ln9, ln10, if_true, if_false, ite_not, Decidable.not_not]
theorem p_next (H : pOK V m t rd ph n) : rb_G none 137 0 [some (.ref 281)] [] (rb_W V) P ↔ (if V 12 1 4 = 3 then (if rd + 1 < 30 then P (some (.int (nI (rd + 1)))) (rb_W (rb_sg V 12 (wNext (wRem (V 12) n) rd))) else P (some (.int (-3))) (rb_W V)) else P (some (.int (-2))) (rb_W V)) := by
  obtain ⟨hm, hm2, hm8, ht, ht1, htm, hrd, hrd30, hph, hph3, hn, hn8⟩ := H
  have e29 : (nI rd = 29) ↔ rd = 29 := rb_eqn (b := 29) (by omega) (by decide)
  by_cases h : V 12 1 4 = 3
  · by_cases h2 : rd + 1 < 30
    · have h2' : ¬ rd = 29 := by omega
      have e3 : rb_u2 (wRem (V 12) n) 1 (199 + rd) (V 12 1 8) 1 3 = nI rd := by rw [rb_u2_ne (by omega), wRem_1, hrd]
      have a3 : wNext (wRem (V 12) n) rd 1 3 = nI (rd + 1) := by
        unfold wNext wRound
        have eB : ∀ (X : Nat → Nat → Int32) k, k ≤ 64 → wRB X k 1 3 = X 1 3 := fun X k => by
          induction k with
          | zero => exact fun _ => rfl
          | succ k ih => intro hk; unfold wRB; rw [rb_u2_ne (by omega), rb_u2_ne (by omega)]; exact ih (by omega)
        have eA : ∀ (X : Nat → Nat → Int32) k, k ≤ 8 → wRA X k 1 3 = X 1 3 := fun X k => by
          induction k with
          | zero => exact fun _ => rfl
          | succ k ih => intro hk; unfold wRA; rw [rb_u2_ne (by omega), rb_u2_ne (by omega), rb_u2_ne (by omega), rb_u2_ne (by omega)]; exact ih (by omega)
        rw [eB _ _ (Nat.le_refl 64), eA _ _ (Nat.le_refl 8)]
        unfold wR0
        rw [rb_u2_ne (by decide), rb_u2_ne (by decide), rb_u2_ne (by decide), rb_u2_at]
      have eN : wRound (rb_u2 (rb_u2 (wRem (V 12) n) 1 (199 + rd) (V 12 1 8)) 1 3 (nI (rd + 1))) = wNext (wRem (V 12) n) rd := by unfold wNext; rw [wRem_1]
      simp only [r137_0, r137_1, r137_4, r137_5, r137_6, r137_7, r137_10, r137_12, r137_13, r137_14, r137_17, r137_18, r137_19, r137_21, r137_24, r137_26, r137_27, r137_28, r137_31, r137_32, r137_35, r137_38, r137_39, r137_42, r137_43, r137_44, r137_45, r137_46, r137_49, r137_51, r137_52, r137_53, r137_54, r137_57, r137_58, r137_59, r137_60, r137_61, r137_62, r137_63, r137_64, r137_67, r137_68, r137_71, r137_72, r137_73, n_remember hn hn8, n_layRound, wRem_1, hrd, hrd30, e29, h2', e3, eN, a3, r17, lm1, lm2, lm3, lm4, lm5, lm6, ib0, ib1, ib2, ib3, ib4, ib5, ib6, ib7, ib8, ib9, ib10, ib11, ib12, ib13, ib14, tn0, tn1, tn2, tn3, tn4, tn5, tn6, tn7, tn8, tn9, tn10, tn11, tn12, tn13, tn14, ibt0, ca9, in9, cl9, ca15, in15, cl15, ca23, in23, cl23, ca31, in31, cl31, ca39, in39, cl39, ca47, in47, cl47, ca55, in55, cl55, ca63, in63, cl63, ca199, in199, cl199, ca71, in71, cl71, ca135, in135, cl135, cm8, ine8, cle8, nI_add, rb_sg_self, rb_sg_sg, List.length_cons, List.length_nil, Nat.reduceAdd, Nat.reduceLeDiff, Nat.reduceLT, Nat.zero_add, Option.toList_some, Option.toList_none, List.cons_append, List.nil_append, rb_bi_eq0, rb_bi_ne0, rb_okv0, rb_okv1, rb_okvb, ln0, ln1, ln2, ln3, ln4, ln5, ln6, ln7, ln8, ln9, ln10, if_true, if_false, ite_not, Decidable.not_not, if_pos h, h, if_pos h2, nI_1]
    · have h2' : rd = 29 := by omega
      have h2'' : ¬ 29 + 1 < 30 := by decide
      simp only [r137_0, r137_1, r137_4, r137_5, r137_6, r137_7, r137_10, r137_12, r137_13, r137_14, r137_17, r137_18, r137_19, r137_21, r137_24, r137_26, hrd, e29, eq_true h2', r17, lm1, lm2, lm3, lm4, lm5, lm6, ib0, ib1, ib2, ib3, ib4, ib5, ib6, ib7, ib8, ib9, ib10, ib11, ib12, ib13, ib14, tn0, tn1, tn2, tn3, tn4, tn5, tn6, tn7, tn8, tn9, tn10, tn11, tn12, tn13, tn14, ibt0, ca9, in9, cl9, ca15, in15, cl15, ca23, in23, cl23, ca31, in31, cl31, ca39, in39, cl39, ca47, in47, cl47, ca55, in55, cl55, ca63, in63, cl63, ca199, in199, cl199, ca71, in71, cl71, ca135, in135, cl135, cm8, ine8, cle8, nI_add, rb_sg_self, rb_sg_sg, List.length_cons, List.length_nil, Nat.reduceAdd, Nat.reduceLeDiff, Nat.reduceLT, Nat.zero_add, Option.toList_some, Option.toList_none, List.cons_append, List.nil_append, rb_bi_eq0, rb_bi_ne0, rb_okv0, rb_okv1, rb_okvb, ln0, ln1, ln2, ln3, ln4, ln5, ln6, ln7, ln8, ln9, ln10, if_true, if_false, ite_not, Decidable.not_not, if_pos h, h, if_neg h2]
  · simp only [r137_0, r137_1, r137_4, r137_5, r137_6, r137_7, r137_10, r137_12, r17, lm1, lm2, lm3, lm4, lm5, lm6, ib0, ib1, ib2, ib3, ib4, ib5, ib6, ib7, ib8, ib9, ib10, ib11, ib12, ib13, ib14, tn0, tn1, tn2, tn3, tn4, tn5, tn6, tn7, tn8, tn9, tn10, tn11, tn12, tn13, tn14, ibt0, ca9, in9, cl9, ca15, in15, cl15, ca23, in23, cl23, ca31, in31, cl31, ca39, in39, cl39, ca47, in47, cl47, ca55, in55, cl55, ca63, in63, cl63, ca199, in199, cl199, ca71, in71, cl71, ca135, in135, cl135, cm8, ine8, cle8, nI_add, rb_sg_self, rb_sg_sg, List.length_cons, List.length_nil, Nat.reduceAdd, Nat.reduceLeDiff, Nat.reduceLT, Nat.zero_add, Option.toList_some, Option.toList_none, List.cons_append, List.nil_append, rb_bi_eq0, rb_bi_ne0, rb_okv0, rb_okv1, rb_okvb, ln0, ln1, ln2, ln3, ln4, ln5, ln6, ln7, ln8, ln9, ln10, if_true, if_false, ite_not, Decidable.not_not, if_neg h, h]
theorem p_undo_0 (H : pOK V m t rd ph 0) : rb_G none 138 0 [some (.ref 281), none] [] (rb_W V) P ↔ P (some (.int (-2))) (rb_W V) := by
  obtain ⟨hm, hm2, hm8, ht, ht1, htm, hrd, hrd30, hph, hph3, hn, hn8⟩ := H
  simp only [r138_0, r138_1, r138_4, r138_7, r138_9, hn, nI_0, rb_sg_self, rb_sg_sg, List.length_cons, List.length_nil, Nat.reduceAdd, Nat.reduceLeDiff, Nat.reduceLT, Nat.zero_add, Option.toList_some, Option.toList_none, List.cons_append, List.nil_append, rb_bi_eq0, rb_bi_ne0, rb_okv0, rb_okv1, rb_okvb, ln0, ln1, ln2, ln3, ln4, ln5, ln6, ln7, ln8, ln9, ln10, if_true, if_false, ite_not, Decidable.not_not]
theorem wUnL_W (W : Nat → Nat → Int32) (p r : Nat) (hr : ¬ r = 1) : ∀ k, wUnL W p k r = W r
  | 0 => rfl
  | k + 1 => by unfold wUnL; rw [rb_u2_row hr]; exact wUnL_W W p r hr k
theorem p_undo_s (H : pOK V m t rd ph (n + 1)) : rb_G none 138 0 [some (.ref 281), none] [] (rb_W V) P ↔ P (some (.int (nI n))) (rb_W (rb_sg V 12 (wUn (V 12) n))) := by
  obtain ⟨hm, hm2, hm8, ht, ht1, htm, hrd, hrd30, hph, hph3, hn, hn8⟩ := H
  obtain ⟨N, hN⟩ : ∃ N : Nat, N = 229 := ⟨229, rfl⟩
  have h3 : (229 : Int32) ≤ nI N := nI_le (a := 229) (by omega) (by omega)
  have h0 : ¬ nI (n + 1) = 0 := fun q => absurd ((rb_eqn (b := 0) (by omega) (by decide)).mp q) (by omega)
  have em : nI (n + 1) - 1 = nI n := by rw [← nI_1]; exact Int32.add_sub_cancel _ _
  obtain ⟨Y, hY⟩ : ∃ Y, Y = rb_u2 (V 12) 0 0 (nI n) := ⟨_, rfl⟩
  simp only [r138_0, r138_1, r138_4, r138_10, r138_11a, r138_11i, r138_12, r138_15, r138_16, r138_17, r138_20, r138_21, hn, h0, em, rb_sg_self, rb_sg_sg, List.length_cons, List.length_nil, Nat.reduceAdd, Nat.reduceLeDiff, Nat.reduceLT, Nat.zero_add, Option.toList_some, Option.toList_none, List.cons_append, List.nil_append, rb_bi_eq0, rb_bi_ne0, rb_okv0, rb_okv1, rb_okvb, ln0, ln1, ln2, ln3, ln4, ln5, ln6, ln7, ln8, ln9, ln10, if_true, if_false, ite_not, Decidable.not_not]
  rw [← hY]
  have y0 : ∀ k, wUnL Y n k 0 0 = nI n := fun k => by rw [wUnL_W _ _ _ (by decide), hY, rb_u2_at]
  have key := rb_loop (Q := fun j => rb_G none 138 22 [some (.ref 281), some (.int (nI j))] [] (rb_W (rb_sg V 12 (wUnL Y n j))) P) N (fun j hj => by
    have h2 : ¬ (229 : Int32) ≤ nI j := nI_ge (b := 229) (by omega) (by omega)
    have a1 : rb_inb (nI (229 * n + j)) 1832 = true := rb_ib (by omega) (by decide)
    have a2 : (nI (229 * n + j)).toNatClampNeg = 229 * n + j := nI_clamp (by omega)
    have a3 : rb_inb (nI j) 229 = true := rb_ib (by omega) (by decide)
    have a4 : (nI j).toNatClampNeg = j := nI_clamp (by omega)
    show rb_G none 138 22 _ _ _ _ ↔ _
    rw [r138_22]
    simp only [r138_23, r138_26, r138_29, r138_30, r138_33, r138_34, r138_35, r138_38, r138_41, r138_42, r138_45, r138_46, r138_47, r138_48, r138_49, r138_50, r138_53, y0, rb_229, a1, a2, a3, a4, h2, r17, r27, lm1, lm2, lm3, lm4, lm5, lm6, ib0, ib1, ib2, ib3, ib4, ib5, ib6, ib7, ib8, ib9, ib10, ib11, ib12, ib13, ib14, tn0, tn1, tn2, tn3, tn4, tn5, tn6, tn7, tn8, tn9, tn10, tn11, tn12, tn13, tn14, ibt0, ca9, in9, cl9, ca15, in15, cl15, ca23, in23, cl23, ca31, in31, cl31, ca39, in39, cl39, ca47, in47, cl47, ca55, in55, cl55, ca63, in63, cl63, ca199, in199, cl199, ca71, in71, cl71, ca135, in135, cl135, cm8, ine8, cle8, nI_add, rb_sg_self, rb_sg_sg, List.length_cons, List.length_nil, Nat.reduceAdd, Nat.reduceLeDiff, Nat.reduceLT, Nat.zero_add, Option.toList_some, Option.toList_none, List.cons_append, List.nil_append, rb_bi_eq0, rb_bi_ne0, rb_okv0, rb_okv1, rb_okvb, ln0, ln1, ln2, ln3, ln4, ln5, ln6, ln7, ln8, ln9, ln10, if_true, if_false, ite_not, Decidable.not_not, nI_1, wUnL])
  rw [wUnL] at key
  simp only [nI_0] at key
  rw [key]
  simp only [r138_22, r138_23, r138_26, r138_56, r138_57, r138_60, h3, y0, rb_sg_self, rb_sg_sg, List.length_cons, List.length_nil, Nat.reduceAdd, Nat.reduceLeDiff, Nat.reduceLT, Nat.zero_add, Option.toList_some, Option.toList_none, List.cons_append, List.nil_append, rb_bi_eq0, rb_bi_ne0, rb_okv0, rb_okv1, rb_okvb, ln0, ln1, ln2, ln3, ln4, ln5, ln6, ln7, ln8, ln9, ln10, if_true, if_false, ite_not, Decidable.not_not]
  rw [hN, hY, wUn]
theorem p_setting_b (h : ¬ (0 ≤ x ∧ x < 6)) : rb_G none 142 0 [some (.ref 281), some (.int x)] [] (rb_W V) P ↔ P (some (.int (-1))) (rb_W V) := by
  have h6 : (0 ≤ x ∧ x ≤ 5) ↔ (0 ≤ x ∧ x < 6) := rb_m1 (m := 6) (by decide) (by decide)
  have h' : ¬ (0 ≤ x ∧ x ≤ 5) := fun q => h (h6.mp q)
  simp only [r142_0, r142_1, r142_4, r142_7, r142_8, r142_11, r142_13, r142_14, r142_15, r142_16, r142_19, r142_20, n_isSetting, if_neg h', rb_sg_self, rb_sg_sg, List.length_cons, List.length_nil, Nat.reduceAdd, Nat.reduceLeDiff, Nat.reduceLT, Nat.zero_add, Option.toList_some, Option.toList_none, List.cons_append, List.nil_append, rb_bi_eq0, rb_bi_ne0, rb_okv0, rb_okv1, rb_okvb, ln0, ln1, ln2, ln3, ln4, ln5, ln6, ln7, ln8, ln9, ln10, if_true, if_false, ite_not, Decidable.not_not]
theorem p_setting_k (hi : i < 6) : rb_G none 142 0 [some (.ref 281), some (.int (nI i))] [] (rb_W V) P ↔ P (some (.int (V 12 1 (9 + i)))) (rb_W V) := by
  have h1 : 0 ≤ nI i ∧ nI i ≤ 5 := ⟨nI_pos' (by omega), nI_le (b := 5) (by omega) (by omega)⟩
  simp only [r142_0, r142_1, r142_4, r142_7, r142_8, r142_11, r142_13, r142_14, r142_15, r142_16, r142_19, r142_20, n_isSetting, if_pos h1, hi, r17, lm1, lm2, lm3, lm4, lm5, lm6, ib0, ib1, ib2, ib3, ib4, ib5, ib6, ib7, ib8, ib9, ib10, ib11, ib12, ib13, ib14, tn0, tn1, tn2, tn3, tn4, tn5, tn6, tn7, tn8, tn9, tn10, tn11, tn12, tn13, tn14, ibt0, ca9, in9, cl9, ca15, in15, cl15, ca23, in23, cl23, ca31, in31, cl31, ca39, in39, cl39, ca47, in47, cl47, ca55, in55, cl55, ca63, in63, cl63, ca199, in199, cl199, ca71, in71, cl71, ca135, in135, cl135, cm8, ine8, cle8, nI_add, rb_sg_self, rb_sg_sg, List.length_cons, List.length_nil, Nat.reduceAdd, Nat.reduceLeDiff, Nat.reduceLT, Nat.zero_add, Option.toList_some, Option.toList_none, List.cons_append, List.nil_append, rb_bi_eq0, rb_bi_ne0, rb_okv0, rb_okv1, rb_okvb, ln0, ln1, ln2, ln3, ln4, ln5, ln6, ln7, ln8, ln9, ln10, if_true, if_false, ite_not, Decidable.not_not]
end RBM
