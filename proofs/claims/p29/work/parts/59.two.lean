/-! BOTH OBJECTS: one behind the other -/
def rw_2 (V U : rb_V) : rb_M := rb_W V ++ ro_M 281 (rb_W U)
theorem ro_v_0 (v : Value) : ro_v 0 v = v := by cases v <;> rfl
theorem ro_o_0 (o : rb_O) : ro_o 0 o = o := by
  rcases o with ⟨ci, fs⟩ | xs | rs
  · show Sum.inl (ci, fs.map (ro_v 0)) = _
    rw [show ro_v 0 = id from funext ro_v_0, List.map_id]
  · rfl
  · show Sum.inr (Sum.inr (rs.map (fun r => r.map (fun a => a + 0)))) = _
    rw [show (fun r : Option Nat => r.map (fun a => a + 0)) = id from funext fun r => by cases r <;> rfl, List.map_id]
theorem ro_M_0 (M : rb_M) : ro_M 0 M = M := by
  unfold ro_M; rw [show ro_o 0 = id from funext ro_o_0, List.map_id]
theorem ro_L_0 (ls : rb_L) : ro_L 0 ls = ls := by
  unfold ro_L
  rw [show (fun r : Option Value => r.map (ro_v 0)) = id from funext fun r => by cases r with | none => rfl | some v => exact congrArg some (ro_v_0 v), List.map_id]
theorem ro_r_0 (r : Option Value) : r.map (ro_v 0) = r := by cases r with | none => rfl | some v => exact congrArg some (ro_v_0 v)
def rw_c (s : rb_Sh) : Bool := match s with
  | .inl x => x.2.all fun f => match f with
    | .inl a => decide (a < 281)
    | .inr _ => true
  | .inr (.inl _) => true
  | .inr (.inr l) => l.all fun a => decide (a < 281)
theorem rw_clo1 : rb_shapes.all rw_c = true := by decide +kernel
theorem rw_clo (V : rb_V) : ∀ i, (rb_W V).length ≤ i → (rb_W V).all (rb_no i) = true := by
  intro i hi
  rw [rb_W_len] at hi
  refine List.all_eq_true.mpr fun o ho => ?_
  obtain ⟨s, hs, rfl⟩ := List.mem_map.mp ho
  have h := List.all_eq_true.mp rw_clo1 s hs
  rcases s with ⟨ci, fs⟩ | ⟨g, r, k⟩ | l
  · show (fs.map (rb_bv V)).all (rb_nr i) = true
    rw [List.all_map]
    refine List.all_eq_true.mpr fun f hf => ?_
    have h2 := List.all_eq_true.mp (show fs.all _ = true from h) f hf
    rcases f with a | q
    · have h3 : a < 281 := of_decide_eq_true h2
      show (a != i) = true
      exact bne_iff_ne.mpr (by omega)
    · rfl
  · rfl
  · show (l.map some).all (fun r => rb_nr i (rb_rf r)) = true
    rw [List.all_map]
    refine List.all_eq_true.mpr fun a ha => ?_
    have h3 : a < 281 := of_decide_eq_true (List.all_eq_true.mp (show l.all _ = true from h) a ha)
    show (a != i) = true
    exact bne_iff_ne.mpr (by omega)
section RW
variable {sc : Option (List Int32)} {k : Nat} {ls : rb_L} {V V' U U' : rb_V} {r0 : Option Value}
theorem rw_o : ro_Big [] (rb_W V) (ro_M 281 (rb_W U)) = rw_2 V U := by
  unfold ro_Big rw_2
  rw [List.nil_append, List.length_nil, ro_M_0]
theorem rw_q : ro_Big (rb_W V) (rb_W U) [] = rw_2 V U := by
  unfold ro_Big rw_2
  rw [List.append_nil, rb_W_len]
/-- a call of the first -/
theorem o_of (h : ∀ P : Option Value → rb_M → Prop, rb_G none k 0 ls [] (rb_W V) P ↔ P r0 (rb_W V')) (P : Option Value → rb_M → Prop) : rb_G sc k 0 ls [] (rw_2 V U) P ↔ P r0 (rw_2 V' U) := by
  have := ro_G (sc := sc) (B := []) (C := ro_M 281 (rb_W U)) (fun i _ => rfl) h (Or.inr (by rw [rb_W_len, rb_W_len])) P
  rw [rw_o, rw_o, List.length_nil, ro_L_0, ro_r_0] at this
  exact this
/-- a call of the second -/
theorem q_of (h : ∀ P : Option Value → rb_M → Prop, rb_G none k 0 ls [] (rb_W U) P ↔ P r0 (rb_W U')) (P : Option Value → rb_M → Prop) : rb_G sc k 0 (ro_L 281 ls) [] (rw_2 V U) P ↔ P (r0.map (ro_v 281)) (rw_2 V U') := by
  have := ro_G (sc := sc) (B := rb_W V) (C := []) (rw_clo V) h (Or.inr (by rw [rb_W_len, rb_W_len])) P
  rw [rw_q, rw_q, rb_W_len] at this
  exact this
/-- what takes no object -/
theorem s_of {M : rb_M} (h : ∀ P : Option Value → rb_M → Prop, rb_G none k 0 ls [] M P ↔ P r0 M) (P : Option Value → rb_M → Prop) : rb_G sc k 0 ls [] M P ↔ P r0 M := by
  have := ro_G (sc := sc) (B := []) (C := []) (fun i _ => rfl) h (Or.inr rfl) P
  have e : ro_Big [] M [] = M := by
    unfold ro_Big
    rw [List.nil_append, List.append_nil, List.length_nil, ro_M_0]
  rw [e, List.length_nil, ro_L_0, ro_r_0] at this
  exact this
theorem rw_len : (rw_2 V U).length = 562 := by
  unfold rw_2 ro_M
  rw [List.length_append, List.length_map, rb_W_len, rb_W_len]
theorem rw_scr : (rw_2 V U)[rb_scr]? = none := by rw [List.getElem?_eq_none_iff, rw_len]; decide
theorem rw_b0 : rb_isB (rw_2 V U) 0 := by
  have h : (rw_2 V U)[0]? = some (.inl (4, [rb_bv V (.inl (rb_st 0)), rb_bv V (.inl (rb_st 1)), rb_bv V (.inl 47), rb_bv V (.inl 233), rb_bv V (.inl 257)])) := by
    unfold rw_2
    rw [List.getElem?_append_left (by rw [rb_W_len]; decide)]
    exact rb_W_at rb_sh_bc
  exact ⟨_, h⟩
theorem rw_b1 : rb_isB (rw_2 V U) 281 := by
  have h : (rw_2 V U)[281]? = some (.inl (4, [rb_bv U (.inl (rb_st 0)), rb_bv U (.inl (rb_st 1)), rb_bv U (.inl 47), rb_bv U (.inl 233), rb_bv U (.inl 257)].map (ro_v 281))) := by
    unfold rw_2
    rw [List.getElem?_append_right (by rw [rb_W_len]; decide), rb_W_len]
    show (ro_M 281 (rb_W U))[0]? = _
    unfold ro_M
    rw [List.getElem?_map, rb_W_at rb_sh_bc]; rfl
  exact ⟨_, h⟩
end RW
theorem rn_meanF (D : Int32) {m : Nat} (h2 : 2 ≤ m) (h8 : m ≤ 8) : FP.fdiv (FP.i2f D) (FP.i2f (nI m)) &&& 0x7fffffff ≤ 0x7f800000 ∧ FP.fcmp (FP.fdiv (FP.i2f D) (FP.i2f (nI m))) (FP.fdiv (FP.i2f D) (FP.i2f (nI m))) = some .eq := by
  have a1 : ¬ FP.Core.decode FP.Core.b32 (FP.i2f D).toNat = .nan := (rn_b32 (d := FP.Core.round FP.Core.b32 (FP.Core.ofInt D.toInt)) (by unfold FP.Core.ofInt FP.Core.round; exact rn_ratio rn_f32a rn_f32b)).2
  have a2 := rn_quot a1 (rn_fnz_m m h8 h2)
  have a3 := rn_b32 a2
  have a4 : FP.fdiv (FP.i2f D) (FP.i2f (nI m)) = UInt32.ofNat (FP.Core.encode FP.Core.b32 (FP.Core.quotient FP.Core.b32 (FP.Core.decode FP.Core.b32 (FP.i2f D).toNat) (FP.Core.decode FP.Core.b32 (FP.i2f (nI m)).toNat))) := rfl
  rw [← a4] at a3
  generalize FP.fdiv (FP.i2f D) (FP.i2f (nI m)) = x at a3
  exact ⟨a3.1, rn_ord a3.2⟩
section RP
variable {S B m t rd ph f n i : Nat} {V : rb_V} {P : Option Value → rb_M → Prop}
/-- what influence() says -/
theorem if_all (h : rj_R S B V m t rd ph f n) (hi : i < m) : ∃ (x : Int32) (e : Nat → Nat → Int32), (∀ P, rb_G none 26 0 [some (.ref 0), some (.int (nI i))] [] (rb_W V) P ↔ P (some (.int x)) (rb_W (rb_sg V 1 e))) ∧ (x = -2 ↔ ¬ (V 0 11 4 = 1 ∧ V 0 3 i = 1 ∧ V 0 5 i = 1)) := by
  by_cases q : V 0 11 4 = 1 ∧ V 0 3 i = 1 ∧ V 0 5 i = 1
  · refine ⟨_, _, fun P => by rw [q_influence_k (rj_hOK h rfl rfl) hi, if_pos q], ?_⟩
    refine ⟨fun z => ?_, fun z => absurd q z⟩
    split at z <;> exact absurd z (by decide)
  · exact ⟨-2, V 1, fun P => by rw [q_influence_k (rj_hOK h rfl rfl) hi, if_neg q, rb_sg_id], fun _ => q, fun _ => rfl⟩
theorem hv_t12 (h : rj_R S B V m t rd ph f n) (P : Option Value → rb_M → Prop) : rb_G none 10 0 [some (.ref 0), some (.int 12)] [] (rb_W V) P ↔ P (some (.int (nI S))) (rb_W V) := by
  rw [hv_told h (by decide) en12, show cTold (V 0) m rd n 12 = cDep (V 0) m + V 0 11 6 from rfl, rj_sum h.2.1.2.2.2.2]
end RP
