/-! WHAT THE START KNOWS -/
theorem rs_inst : ∀ ci, ci < 5 → rb_is (.instantiable (rb_cn ci) (rb_nn ci)) = true := by decide +kernel
theorem rs_ao : Cond.arrayOver (.object RX3) ∈ lw_tbl := by decide +kernel
theorem rs_nest : ∀ w ∈ rb_nest, w.onTables = true := fun w h => by
  have h2 := (List.mem_filter.mp h).2
  cases w <;> first | rfl | cases h2
theorem rs_ow : rb_cn (rb_ow 100) = "RevealBeaconLaw" := by decide +kernel
theorem rs_by : rb_by 100 = code := rfl
theorem rs_hh : rb_h 100 ≤ 10 ∧ 35 * rb_h 100 ≤ 352 := by decide +kernel
theorem rs_in : rb_in 100 = false := by decide +kernel
def rs_sz (s : rb_Sh) : Nat := match s with
  | .inl x => x.2.length
  | .inr (.inl x) => x.2.2
  | .inr (.inr l) => l.length
theorem rs_sl1 (V : rb_V) : rb_sl (rb_W V) ≤ 3000000 := by
  have h : (rb_W V).map rb_sz = rb_shapes.map rs_sz := by
    unfold rb_W
    rw [List.map_map]
    refine List.map_congr_left fun s _ => ?_
    rcases s with ⟨ci, fs⟩ | ⟨g, r, n⟩ | l
    · exact List.length_map _
    · show ((List.range n).map (V g r)).length = n
      rw [List.length_map, List.length_range]
    · exact List.length_map _
  unfold rb_sl
  rw [h]
  exact Nat.le_of_ble_eq_true (by decide +kernel)
theorem rs_szo (b : Nat) (o : rb_O) : rb_sz (ro_o b o) = rb_sz o := by
  rcases o with ⟨ci, fs⟩ | xs | rs
  · exact List.length_map _
  · rfl
  · exact List.length_map _
theorem rs_sl (V U : rb_V) : rb_sl (rw_2 V U) ≤ 7302250 := by
  have e : rb_sl (rw_2 V U) = rb_sl (rb_W V) + rb_sl (rb_W U) := by
    have e2 : ((rb_W U).map (ro_o 281)).map rb_sz = (rb_W U).map rb_sz := by
      rw [List.map_map]
      exact List.map_congr_left fun o _ => rs_szo 281 o
    unfold rb_sl rw_2 ro_M
    rw [List.map_append, List.sum_append, e2]
  have h1 := rs_sl1 V
  have h2 := rs_sl1 U
  omega
theorem rs_retI {i : Instr} {len : Nat} {st : List Value} (h : rb_ret 100 i len st = some (some (.int 1))) : i = .ireturn ∧ len = 1 ∧ st = [.int 1] := by
  have no : ∀ {q : Prop}, (none : Option (Option Value)) = some (some (.int 1)) → q := fun h => by cases h
  unfold rb_ret at h
  rw [rt_100] at h
  split at h
  · obtain ⟨h1, h⟩ := rb_ite_inv h
    cases st with
    | nil => exact no h
    | cons v u =>
      cases u with
      | nil =>
        cases v with
        | int x =>
          obtain ⟨h2, h⟩ := rb_ite_inv (show (if rb_okv .boolean (.int x) = true then some (some (Value.int x)) else none) = some (some (.int 1)) from h)
          cases h
          exact ⟨rfl, h1, rfl⟩
        | _ => exact no h
      | cons v2 u2 => cases v <;> exact no h
  · obtain ⟨h1, h⟩ := rb_ite_inv h
    cases st with
    | nil => exact no h
    | cons v u => cases u <;> exact no h
  · obtain ⟨h1, h⟩ := rb_ite_inv h
    cases st with
    | nil => exact no h
    | cons v u => cases v <;> cases u <;> exact no h
  · obtain ⟨h1, h⟩ := rb_ite_inv h
    cases st <;> exact no h
  · exact no h
