/-! what the tables say, by program -/
def rb_tt (ci : Nat) : u_T := match ci with
  | 0 => TX0
  | 1 => TX1
  | 2 => TX2
  | 3 => TX3
  | 4 => TX4
  | _ => TX5
def rb_nn (ci : Nat) : Nat := match ci with
  | 0 => 3
  | 1 => 2
  | 2 => 1
  | 3 => 19
  | 4 => 5
  | _ => 8
/-- the words of the mates' links and of arrays of states, which a contract carries itself -/
def rb_nest : List Jvm.Cond := lw_tbl.filter fun w => match w with
  | .methodLinkNest _ _ _ _ => true
  | _ => false
def rb_fc (e : (Nat × Nat) × (Nat × Nat)) : Jvm.Cond := .fieldLink (rb_cn e.1.1) e.1.2 (rb_tt e.2.1 e.2.2).1 (rb_tt e.2.1 e.2.2).2.1 (rb_tt e.2.1 e.2.2).2.2.1
theorem rb_fl_ok : rb_fl.all (fun e => rb_is (rb_fc e) && (decide (e.2.1 < 6) && decide (e.2.2 < rb_nn e.2.1))) = true := by decide +kernel
theorem rb_cl_ok : rb_cl.all (fun e => rb_is (.classLink (rb_cn e.1.1) e.1.2 (rb_cn e.2)) && (rb_is (.instantiable (rb_cn e.2) (rb_nn e.2)) && (rb_is (.initialized (rb_cn e.2)) && decide (e.2 < 6)))) = true := by decide +kernel
theorem rb_us_ok : (List.range 6).all (fun ci => (u_ws (rb_cn ci) (rb_tt ci) (rb_nn ci)).all rb_is) = true := by decide +kernel
theorem rb_vw : ∀ ci, ci < 6 → vwCl[ci]? = some (rb_cn ci, rb_tt ci, rb_nn ci) := fun ci h => match ci, h with
  | 0, _ => rfl
  | 1, _ => rfl
  | 2, _ => rfl
  | 3, _ => rfl
  | 4, _ => rfl
  | 5, _ => rfl
  | n + 6, h => absurd h (by omega)
theorem rb_ft : ∀ ci, ci < 6 → ∀ k, k < rb_nn ci → parseFieldDescriptor (rb_tt ci k).2.2.1 = some (rb_ty ci k) := fun ci h => match ci, h with
  | 0, _ => tyX0_ok
  | 1, _ => tyX1_ok
  | 2, _ => tyX2_ok
  | 3, _ => tyX3_ok
  | 4, _ => tyX4_ok
  | 5, _ => tyX5_ok
  | n + 6, h => absurd h (by omega)
theorem rb_fnm : ∀ ci, ci < 6 → ∀ a, a < rb_nn ci → ∀ b, b < rb_nn ci → a ≠ b → (rb_tt ci a).2.1 ≠ (rb_tt ci b).2.1 := fun ci h => match ci, h with
  | 0, _ => nmX0
  | 1, _ => nmX1
  | 2, _ => nmX2
  | 3, _ => nmX3
  | 4, _ => nmX4
  | 5, _ => nmX5
  | n + 6, h => absurd h (by omega)
theorem rb_fnal : ∀ ci, ci < 6 → ∀ k, (rb_tt ci k).2.2.2 = rb_fn ci k := fun ci h => match ci, h with
  | 0, _ => fun _ => rfl
  | 1, _ => fun _ => rfl
  | 2, _ => fun _ => rfl
  | 3, _ => fun _ => rfl
  | 4, _ => fun _ => rfl
  | 5, _ => fun _ => rfl
  | n + 6, h => absurd h (by omega)
theorem rb_fcl : ∀ ci, ci < 6 → ∀ k, k < rb_nn ci → (rb_tt ci k).1 = rb_cn ci := by decide +kernel
theorem rb_dfl : ∀ ci, ci < 6 → (rb_df ci).length = rb_nn ci := by decide +kernel
theorem rb_dfv : ∀ ci, ci < 6 → ∀ j, j < rb_nn ci → defaultValue (rb_ty ci j) = vp_V (rb_df ci) j := by decide +kernel
/-- a method's own words -/
def rb_ws0 (k : Nat) : List Jvm.Cond := .code (rb_y k) (rb_by k) (rb_ml k) (rb_rt k) :: rb_gw
def rb_mok (k : Nat) : Bool := rb_is (.code (rb_y k) (rb_by k) (rb_ml k) (rb_rt k)) && (rb_is (.initialized (rb_y k).cls) && (decide ((rb_y k).cls ≠ "java/lang/invoke/MethodHandle") && (decide ((rb_y k).cls ≠ "java/lang/invoke/VarHandle") && (plainFor (rb_y k) && (decide ((rb_y k).cls = rb_cn (rb_ow k)) && (decide (rb_ml k ≤ 16) && decide (rb_in k = true → (rb_y k).name = "<init>")))))))
def rb_ar (k : Nat) : Option Nat := (parseMethodDescriptor (rb_y k).desc).map (fun d => d.parameters.length)
/-- a link of a method: its words and its arguments -/
def rb_iok (e : (Nat × Nat) × (Nat × Nat)) : Bool := match e.2.2 with
  | 0 => decide (e.2.1 < 163) && (rb_is (.methodLink (rb_cn e.1.1) e.1.2 (rb_y e.2.1)) && (rb_is (.instanceMethod (rb_y e.2.1)) && (rb_is (.selects (rb_y e.2.1).cls (rb_y e.2.1) (rb_y e.2.1)) && (decide (1 ≤ rb_na e.2.1) && decide (rb_ar e.2.1 = some (rb_na e.2.1 - 1))))))
  | 1 => decide (e.2.1 < 163) && (rb_is (.methodLink (rb_cn e.1.1) e.1.2 (rb_y e.2.1)) && (rb_is (.static (rb_y e.2.1)) && decide (rb_ar e.2.1 = some (rb_na e.2.1))))
  | 2 => decide (e.2.1 < 163) && (rb_is (.methodLink (rb_cn e.1.1) e.1.2 (rb_y e.2.1)) && (rb_is (.instanceMethod (rb_y e.2.1)) && (decide ((rb_y e.2.1).name = "<init>") && (decide (rb_rt e.2.1 = none) && (decide (1 ≤ rb_na e.2.1) && decide (rb_ar e.2.1 = some (rb_na e.2.1 - 1)))))))
  | 3 => decide (e.2.1 < 163) && (decide (Jvm.Cond.methodLinkNest (rb_cn e.1.1) e.1.2 (rb_y e.2.1) RX4 ∈ rb_nest) && (rb_is (.static (rb_y e.2.1)) && decide (rb_ar e.2.1 = some (rb_na e.2.1))))
  | 4 => decide (e.2.1 < 163) && (decide (Jvm.Cond.methodLinkNest (rb_cn e.1.1) e.1.2 (rb_y e.2.1) RX4 ∈ rb_nest) && (rb_is (.instanceMethod (rb_y e.2.1)) && (decide ((rb_y e.2.1).name = "<init>") && (decide (rb_rt e.2.1 = none) && (decide (1 ≤ rb_na e.2.1) && decide (rb_ar e.2.1 = some (rb_na e.2.1 - 1)))))))
  | 5 => rb_is (.methodLink (rb_cn e.1.1) e.1.2 Lib.objectInit) && (rb_is (.instanceMethod Lib.objectInit) && rb_is (.code Lib.objectInit ⟨#[0xb1]⟩ 1 none))
  | _ => rb_is (.methodLink (rb_cn e.1.1) e.1.2 arraycopyName) && (rb_is (.native arraycopyName) && (rb_is (.static arraycopyName) && rb_is (.initialized "java/lang/System")))
theorem rb_arr_int : rb_is (.arrayClass .int) = true := by decide +kernel
theorem rb_arr_st : (Jvm.Cond.arrayOver (.object RX3)) ∈ lw_tbl := by decide +kernel
theorem rb_mok_0 : (List.range' 0 21).all rb_mok = true := by decide +kernel
theorem rb_mok_21 : (List.range' 21 21).all rb_mok = true := by decide +kernel
theorem rb_mok_42 : (List.range' 42 21).all rb_mok = true := by decide +kernel
theorem rb_mok_63 : (List.range' 63 21).all rb_mok = true := by decide +kernel
theorem rb_mok_84 : (List.range' 84 21).all rb_mok = true := by decide +kernel
theorem rb_mok_105 : (List.range' 105 21).all rb_mok = true := by decide +kernel
theorem rb_mok_126 : (List.range' 126 21).all rb_mok = true := by decide +kernel
theorem rb_mok_147 : (List.range' 147 16).all rb_mok = true := by decide +kernel
theorem rb_mok_all : ∀ k, k < 163 → rb_mok k = true := fun k h => by
  by_cases h0 : k < 21
  · exact List.all_eq_true.mp rb_mok_0 k (List.mem_range'_1.mpr ⟨by omega, by omega⟩)
  by_cases h21 : k < 42
  · exact List.all_eq_true.mp rb_mok_21 k (List.mem_range'_1.mpr ⟨by omega, by omega⟩)
  by_cases h42 : k < 63
  · exact List.all_eq_true.mp rb_mok_42 k (List.mem_range'_1.mpr ⟨by omega, by omega⟩)
  by_cases h63 : k < 84
  · exact List.all_eq_true.mp rb_mok_63 k (List.mem_range'_1.mpr ⟨by omega, by omega⟩)
  by_cases h84 : k < 105
  · exact List.all_eq_true.mp rb_mok_84 k (List.mem_range'_1.mpr ⟨by omega, by omega⟩)
  by_cases h105 : k < 126
  · exact List.all_eq_true.mp rb_mok_105 k (List.mem_range'_1.mpr ⟨by omega, by omega⟩)
  by_cases h126 : k < 147
  · exact List.all_eq_true.mp rb_mok_126 k (List.mem_range'_1.mpr ⟨by omega, by omega⟩)
  by_cases h147 : k < 163
  · exact List.all_eq_true.mp rb_mok_147 k (List.mem_range'_1.mpr ⟨by omega, by omega⟩)
  omega
theorem rb_il_0 : ((rb_il.drop 0).take 49).all rb_iok = true := by decide +kernel
theorem rb_il_1 : ((rb_il.drop 49).take 49).all rb_iok = true := by decide +kernel
theorem rb_il_2 : ((rb_il.drop 98).take 49).all rb_iok = true := by decide +kernel
theorem rb_il_3 : ((rb_il.drop 147).take 49).all rb_iok = true := by decide +kernel
theorem rb_il_len : rb_il.length = 194 := by decide +kernel
theorem rb_il_all : ∀ e ∈ rb_il, rb_iok e = true := fun e h => by
  obtain ⟨i, hi⟩ := List.getElem?_of_mem h
  have hl : i < 194 := by rw [← rb_il_len]; exact (List.getElem?_eq_some_iff.mp hi).1
  have key : ∀ a n, a ≤ i → i < a + n → e ∈ (rb_il.drop a).take n := fun a n h1 h2 => by
    refine List.mem_of_getElem? (i := i - a) ?_
    rw [List.getElem?_take_of_lt (by omega), List.getElem?_drop, show a + (i - a) = i by omega]
    exact hi
  by_cases h0 : i < 49
  · exact List.all_eq_true.mp rb_il_0 e (key 0 49 (by omega) (by omega))
  by_cases h1 : i < 98
  · exact List.all_eq_true.mp rb_il_1 e (key 49 49 (by omega) (by omega))
  by_cases h2 : i < 147
  · exact List.all_eq_true.mp rb_il_2 e (key 98 49 (by omega) (by omega))
  by_cases h3 : i < 196
  · exact List.all_eq_true.mp rb_il_3 e (key 147 49 (by omega) (by omega))
  omega
