/-! WHAT THE START KNOWS -/
theorem rs_inst : ∀ ci, ci < 6 → rb_is (.instantiable (rb_cn ci) (rb_nn ci)) = true := by decide +kernel
theorem rs_ao : Cond.arrayOver (.object RX3) ∈ lw_tbl := by decide +kernel
theorem rs_nest : ∀ w ∈ rb_nest, w.onTables = true := fun w h => by
  have h2 := (List.mem_filter.mp h).2
  cases w <;> first | rfl | cases h2
theorem rs_ow : rb_cn (rb_ow 163) = "RevealBeaconLaw" := by decide +kernel
theorem rs_by : rb_by 163 = code := rfl
theorem rs_hh : rb_h 163 ≤ 9 ∧ 35 * rb_h 163 ≤ 322 := by decide +kernel
theorem rs_in : rb_in 163 = false := by decide +kernel
def rs_sz (s : rb_Sh) : Nat := match s with
  | .inl x => x.2.length
  | .inr (.inl x) => x.2.2
  | .inr (.inr l) => l.length
theorem rs_sl (V : rb_V) : rb_sl (rb_W V) ≤ 7302250 := by
  have h : (rb_W V).map rb_sz = rb_shapes.map rs_sz := by
    unfold rb_W
    rw [List.map_map]
    refine List.map_congr_left fun s _ => ?_
    rcases s with ⟨ci, fs⟩ | ⟨g, r, n⟩ | l
    · exact List.length_map _
    · show ((List.range n).map (V g r)).length = n
      rw [List.length_map, List.length_range]
    · exact List.length_map _
  unfold rb_sl
  rw [h]
  exact Nat.le_of_ble_eq_true (by decide +kernel)
theorem rs_retI {i : Instr} {len : Nat} {st : List Value} (h : rb_ret 163 i len st = some (some (.int 1))) : i = .ireturn ∧ len = 1 ∧ st = [.int 1] := by
  have no : ∀ {q : Prop}, (none : Option (Option Value)) = some (some (.int 1)) → q := fun h => by cases h
  unfold rb_ret at h
  rw [rt_163] at h
  split at h
  · obtain ⟨h1, h⟩ := rb_ite_inv h
    cases st with
    | nil => exact no h
    | cons v u =>
      cases u with
      | nil =>
        cases v with
        | int x =>
          obtain ⟨h2, h⟩ := rb_ite_inv (show (if rb_okv .boolean (.int x) = true then some (some (Value.int x)) else none) = some (some (.int 1)) from h)
          cases h
          exact ⟨rfl, h1, rfl⟩
        | _ => exact no h
      | cons v2 u2 => cases v <;> exact no h
  · obtain ⟨h1, h⟩ := rb_ite_inv h
    cases st with
    | nil => exact no h
    | cons v u => cases u <;> exact no h
  · obtain ⟨h1, h⟩ := rb_ite_inv h
    cases st with
    | nil => exact no h
    | cons v u => cases v <;> cases u <;> exact no h
  · obtain ⟨h1, h⟩ := rb_ite_inv h
    cases st <;> exact no h
  · exact no h
