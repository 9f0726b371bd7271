/-! ONE OBJECT'S RUN WITHIN A LARGER MEMORY, 2: cells -/
def ro_Big (B : rb_M) (M C : rb_M) : rb_M := B ++ ro_M B.length M ++ C
section RO
variable {B C : rb_M}
theorem ro_Big_len (M : rb_M) : (ro_Big B M C).length = B.length + M.length + C.length := by
  unfold ro_Big ro_M; rw [List.length_append, List.length_append, List.length_map]
theorem ro_Big_at {M : rb_M} {a : Nat} {o : rb_O} (h : M[a]? = some o) : (ro_Big B M C)[a + B.length]? = some (ro_o B.length o) := by
  have hl : a < M.length := (List.getElem?_eq_some_iff.mp h).1
  unfold ro_Big ro_M
  rw [List.getElem?_append_left (by rw [List.length_append, List.length_map]; omega), List.getElem?_append_right (by omega), List.getElem?_map, show a + B.length - B.length = a by omega, h]
  rfl
theorem ro_Big_set {M : rb_M} {a : Nat} {o : rb_O} (h : a < M.length) : (ro_Big B M C).set (a + B.length) (ro_o B.length o) = ro_Big B (M.set a o) C := by
  unfold ro_Big ro_M
  rw [List.set_append_left _ _ (by rw [List.length_append, List.length_map]; omega), List.set_append_right _ _ (by omega), List.map_set, show a + B.length - B.length = a by omega]
theorem ro_Big_new {M : rb_M} {o : rb_O} : ro_Big B M [] ++ [ro_o B.length o] = ro_Big B (M ++ [o]) [] := by
  unfold ro_Big ro_M
  rw [List.append_nil, List.append_nil, List.map_append, List.append_assoc]; rfl
theorem ro_nr {b i : Nat} (v : Value) : rb_nr (b + i) (ro_v b v) = rb_nr i v := by
  cases v <;> try rfl
  rename_i a
  show (a + b != b + i) = (a != i)
  by_cases h : a = i
  · subst h; simp [Nat.add_comm]
  · have h2 : ¬ a + b = b + i := fun q => h (Nat.add_right_cancel (q.trans (Nat.add_comm b i)))
    exact (bne_iff_ne.mpr h2).trans (bne_iff_ne.mpr h).symm
theorem ro_no {b i : Nat} (o : rb_O) : rb_no (b + i) (ro_o b o) = rb_no i o := by
  rcases o with ⟨ci, fs⟩ | xs | rs
  · show (fs.map (ro_v b)).all (rb_nr (b + i)) = fs.all (rb_nr i)
    rw [List.all_map]
    exact congrArg fs.all (funext fun v => ro_nr v)
  · rfl
  · show (rs.map (fun r => r.map (fun a => a + b))).all (fun r => rb_nr (b + i) (rb_rf r)) = rs.all (fun r => rb_nr i (rb_rf r))
    rw [List.all_map]
    refine congrArg rs.all (funext fun r => ?_)
    show rb_nr (b + i) (rb_rf (r.map (fun a => a + b))) = _
    rw [ro_rf, ro_nr]
theorem ro_nl {b i : Nat} (r : Option Value) : rb_nl (b + i) (r.map (ro_v b)) = rb_nl i r := by
  cases r with
  | none => rfl
  | some v => exact ro_nr v
theorem ro_fresh {M : rb_M} {ls : rb_L} {st : List Value} (hB : ∀ i, B.length ≤ i → B.all (rb_no i) = true) (h : rb_fresh M.length ls st M = true) : rb_fresh (ro_Big B M []).length (ro_L B.length ls) (ro_S B.length st) (ro_Big B M []) = true := by
  rw [ro_Big_len, List.length_nil, Nat.add_zero]
  unfold rb_fresh at h ⊢
  simp only [Bool.and_eq_true] at h ⊢
  obtain ⟨h1, h2, h3⟩ := h
  refine ⟨?_, ?_, ?_⟩
  · unfold ro_L
    rw [List.all_map, ← h1]
    exact congrArg ls.all (funext fun r => ro_nl r)
  · unfold ro_S
    rw [List.all_map, ← h2]
    exact congrArg st.all (funext fun v => ro_nr v)
  · unfold ro_Big ro_M
    rw [List.append_nil, List.all_append, Bool.and_eq_true]
    refine ⟨hB _ (by omega), ?_⟩
    rw [List.all_map, ← h3]
    exact congrArg M.all (funext fun o => ro_no o)
theorem ro_df (b : Nat) {ci : Nat} (h : ci < 5) : (rb_df ci).map (ro_v b) = rb_df ci := by
  have : ∀ ci, ci < 5 → (rb_df ci).all (fun v => match v with | .ref _ => false | _ => true) = true := by decide +kernel
  refine (List.map_congr_left (g := id) fun v hv => ?_).trans (List.map_id _)
  have h2 := List.all_eq_true.mp (this ci h) v hv
  cases v <;> first | rfl | cases h2
set_option maxHeartbeats 1000000 in
theorem ro_mem {k len : Nat} {i : Instr} {sc : Option (List Int32)} {ls : rb_L} {st st' : List Value} {M M1 : rb_M} (hB : ∀ i, B.length ≤ i → B.all (rb_no i) = true) (h : rb_mem k i len none ls st M = some (st', M1)) (hc : (C = [] ∧ B.length + M1.length ≤ rb_scr) ∨ M1.length = M.length) : rb_mem k i len sc (ro_L B.length ls) (ro_S B.length st) (ro_Big B M C) = some (ro_S B.length st', ro_Big B M1 C) := by
  cases i <;> simp only [rb_mem] at h ⊢ <;> (try cases h) <;> (replace h := rb_ite_inv h) <;> (obtain ⟨h0, h⟩ := h) <;> rw [if_pos h0]
  case getfield ix =>
    split at h
    · rename_i a st0 ci sl hf
      split at h
      · rename_i cj fs ho
        obtain ⟨h1, h⟩ := rb_ite_inv h
        split at h
        · rename_i v hv
          cases h
          have e1 := ro_Big_at (B := B) (C := C) ho
          have e2 : (fs.map (ro_v B.length))[sl]? = some (ro_v B.length v) := by rw [List.getElem?_map, hv]; rfl
          simp only [ro_S, List.map_cons, ro_v, hf, e1, ro_o, if_pos h1, e2]
        · cases h
      · cases h
    · cases h
  case putfield ix =>
    split at h
    · rename_i v a st0 ci sl hf
      split at h
      · rename_i cj fs ho
        obtain ⟨h1, h⟩ := rb_ite_inv h
        cases h
        have e1 := ro_Big_at (B := B) (C := C) ho
        have h2 : cj = ci ∧ sl < (fs.map (ro_v B.length)).length ∧ rb_okv (rb_ty ci sl) (ro_v B.length v) = true ∧ (rb_fn ci sl = true → rb_in k = true ∧ rb_ow k = ci) := ⟨h1.1, by rw [List.length_map]; exact h1.2.1, by rw [ro_okv]; exact h1.2.2.1, h1.2.2.2⟩
        have e2 := ro_Big_set (B := B) (C := C) (M := M) (a := a) (o := .inl (cj, fs.set sl v)) (List.getElem?_eq_some_iff.mp ho).1
        have e3 : ro_o B.length (.inl (cj, fs.set sl v)) = .inl (cj, (fs.map (ro_v B.length)).set sl (ro_v B.length v)) := by
          show Sum.inl (cj, (fs.set sl v).map (ro_v B.length)) = _
          rw [List.map_set]
        rw [e3] at e2
        have e0 : ro_S B.length (v :: .ref a :: st') = ro_v B.length v :: .ref (a + B.length) :: ro_S B.length st' := rfl
        rw [e0]
        simp only [hf, e1, ro_o]
        rw [if_pos h2, e2]
      · cases h
    · cases h
  case iaload =>
    split at h
    · rename_i j a st0
      split at h
      · rename_i xs ho
        obtain ⟨h1, h⟩ := rb_ite_inv h
        cases h
        have e1 := ro_Big_at (B := B) (C := C) ho
        simp only [ro_S, List.map_cons, ro_v, e1, ro_o, if_pos h1]
      · cases h
      · obtain ⟨h1, h⟩ := rb_ite_inv h
        cases h
    · cases h
  case iastore =>
    split at h
    · rename_i x j a st0
      split at h
      · rename_i xs ho
        obtain ⟨h1, h⟩ := rb_ite_inv h
        cases h
        have e1 := ro_Big_at (B := B) (C := C) ho
        have e2 := ro_Big_set (B := B) (C := C) (M := M) (a := a) (o := .inr (.inl (xs.set j.toNatClampNeg x))) (List.getElem?_eq_some_iff.mp ho).1
        simp only [ro_o] at e2
        simp only [ro_S, List.map_cons, ro_v, e1, ro_o, if_pos h1, e2]
      · cases h
    · cases h
  case arraylength =>
    split at h
    · rename_i a st0
      split at h
      · rename_i xs ho
        cases h
        have e1 := ro_Big_at (B := B) (C := C) ho
        simp only [ro_S, List.map_cons, ro_v, e1, ro_o]
      · rename_i rs ho
        cases h
        have e1 := ro_Big_at (B := B) (C := C) ho
        simp only [ro_S, List.map_cons, ro_v, e1, ro_o, List.length_map]
      · cases h
      · obtain ⟨h1, h⟩ := rb_ite_inv h
        cases h
    · cases h
  case aaload =>
    split at h
    · rename_i j a st0
      split at h
      · rename_i rs ho
        obtain ⟨h1, h⟩ := rb_ite_inv h
        cases h
        have e1 := ro_Big_at (B := B) (C := C) ho
        have h2 : rb_inb j (rs.map (fun r => r.map (fun a => a + B.length))).length = true := by rw [List.length_map]; exact h1
        have e2 : (rs.map (fun r => r.map (fun a => a + B.length))).getD j.toNatClampNeg none = (rs.getD j.toNatClampNeg none).map (fun a => a + B.length) := by
          rw [List.getD_eq_getElem?_getD, List.getD_eq_getElem?_getD, List.getElem?_map]
          cases rs[j.toNatClampNeg]? <;> rfl
        simp only [ro_S, List.map_cons, ro_v, e1, ro_o, if_pos h2, e2, ro_rf]
      · cases h
    · cases h
  case aastore =>
    split at h
    · rename_i v j a st0
      split at h
      · rename_i rs ci vs ho hv
        obtain ⟨h1, h⟩ := rb_ite_inv h
        cases h
        have e1 := ro_Big_at (B := B) (C := C) ho
        have e3 := ro_Big_at (B := B) (C := C) hv
        have h2 : ci = 3 ∧ rb_inb j (rs.map (fun r => r.map (fun a => a + B.length))).length = true := by rw [List.length_map]; exact h1
        have e2 := ro_Big_set (B := B) (C := C) (M := M) (a := a) (o := .inr (.inr (rs.set j.toNatClampNeg (some v)))) (List.getElem?_eq_some_iff.mp ho).1
        have e4 : ro_o B.length (.inr (.inr (rs.set j.toNatClampNeg (some v)))) = .inr (.inr ((rs.map (fun r => r.map (fun a => a + B.length))).set j.toNatClampNeg (some (v + B.length)))) := by
          show Sum.inr (Sum.inr ((rs.set j.toNatClampNeg (some v)).map (fun r => r.map (fun a => a + B.length)))) = _
          rw [List.map_set]; rfl
        rw [e4] at e2
        simp only [ro_S, List.map_cons, ro_v, e1, e3, ro_o, if_pos h2, e2]
      · cases h
    · cases h
  case new ix =>
    split at h
    · rename_i ci hf
      obtain ⟨h1, h⟩ := rb_ite_inv h
      cases h
      have hl : (M ++ [(.inl (ci, rb_df ci) : rb_O)]).length = M.length + 1 := by simp
      rcases hc with ⟨rfl, hc⟩ | hc
      · rw [hl] at hc
        have hbl : (ro_Big B M []).length = B.length + M.length := by rw [ro_Big_len]; rfl
        have h2 : ci < 5 ∧ (ro_Big B M []).length < rb_scr ∧ rb_fresh (ro_Big B M []).length (ro_L B.length ls) (ro_S B.length st) (ro_Big B M []) = true := ⟨h1.1, by rw [hbl]; omega, ro_fresh hB h1.2.2⟩
        have e2 := ro_Big_new (B := B) (M := M) (o := .inl (ci, rb_df ci))
        have e3 : ro_o B.length (.inl (ci, rb_df ci)) = .inl (ci, rb_df ci) := by
          show Sum.inl (ci, (rb_df ci).map (ro_v B.length)) = _
          rw [ro_df _ h1.1]
        rw [e3] at e2
        rw [if_pos h2, e2, hbl]
        show some (Value.ref (B.length + M.length) :: ro_S B.length st, _) = some (Value.ref (M.length + B.length) :: ro_S B.length st, _)
        rw [Nat.add_comm]
      · rw [hl] at hc; omega
    · cases h
  case newarray ty =>
    split at h
    · rename_i n st0
      obtain ⟨h1, h⟩ := rb_ite_inv h
      cases h
      have hl : (M ++ [(.inr (.inl (List.replicate n.toNatClampNeg 0)) : rb_O)]).length = M.length + 1 := by simp
      rcases hc with ⟨rfl, hc⟩ | hc
      · rw [hl] at hc
        have hbl : (ro_Big B M []).length = B.length + M.length := by rw [ro_Big_len]; rfl
        have h2 : ¬ n < 0 ∧ n.toNatClampNeg ≤ 100000 ∧ (ro_Big B M []).length < rb_scr ∧ rb_fresh (ro_Big B M []).length (ro_L B.length ls) (ro_S B.length st0) (ro_Big B M []) = true := ⟨h1.1, h1.2.1, by rw [hbl]; omega, ro_fresh hB h1.2.2.2⟩
        have e2 := ro_Big_new (B := B) (M := M) (o := .inr (.inl (List.replicate n.toNatClampNeg 0)))
        have e3 : ro_o B.length (.inr (.inl (List.replicate n.toNatClampNeg 0))) = .inr (.inl (List.replicate n.toNatClampNeg 0)) := rfl
        rw [e3] at e2
        have e0 : ro_S B.length (.int n :: st0) = .int n :: ro_S B.length st0 := rfl
        rw [e0]
        dsimp only
        rw [if_pos h2, e2, hbl]
        show some (Value.ref (B.length + M.length) :: ro_S B.length st0, _) = some (Value.ref (M.length + B.length) :: ro_S B.length st0, _)
        rw [Nat.add_comm]
      · rw [hl] at hc; omega
    · cases h
  case anewarray ix =>
    split at h
    · rename_i n st0
      obtain ⟨h1, h⟩ := rb_ite_inv h
      cases h
      have hl : (M ++ [(.inr (.inr (List.replicate n.toNatClampNeg none)) : rb_O)]).length = M.length + 1 := by simp
      rcases hc with ⟨rfl, hc⟩ | hc
      · rw [hl] at hc
        have hbl : (ro_Big B M []).length = B.length + M.length := by rw [ro_Big_len]; rfl
        have h2 : ¬ n < 0 ∧ n.toNatClampNeg ≤ 100000 ∧ (ro_Big B M []).length < rb_scr ∧ rb_fresh (ro_Big B M []).length (ro_L B.length ls) (ro_S B.length st0) (ro_Big B M []) = true := ⟨h1.1, h1.2.1, by rw [hbl]; omega, ro_fresh hB h1.2.2.2⟩
        have e2 := ro_Big_new (B := B) (M := M) (o := .inr (.inr (List.replicate n.toNatClampNeg none)))
        have e3 : ro_o B.length (.inr (.inr (List.replicate n.toNatClampNeg none))) = .inr (.inr (List.replicate n.toNatClampNeg none)) := by
          show Sum.inr (Sum.inr ((List.replicate n.toNatClampNeg none).map (fun r : Option Nat => r.map (fun a => a + B.length)))) = _
          rw [List.map_replicate]; rfl
        rw [e3] at e2
        have e0 : ro_S B.length (.int n :: st0) = .int n :: ro_S B.length st0 := rfl
        rw [e0]
        dsimp only
        rw [if_pos h2, e2, hbl]
        show some (Value.ref (B.length + M.length) :: ro_S B.length st0, _) = some (Value.ref (M.length + B.length) :: ro_S B.length st0, _)
        rw [Nat.add_comm]
      · rw [hl] at hc; omega
    · cases h
  case invokespecial ix =>
    split at h
    · rename_i a st0
      obtain ⟨h1, h⟩ := rb_ite_inv h
      cases h
      have h2 : (ro_S B.length st').length ≤ 4 := by rw [ro_S_len]; exact h1
      have e0 : ro_S B.length (.ref a :: st') = .ref (a + B.length) :: ro_S B.length st' := rfl
      rw [e0]
      dsimp only
      rw [if_pos h2]
    · cases h
  case invokestatic ix =>
    split at h
    · rename_i n dp a sp c st0
      split at h
      · rename_i g f ho ho2
        obtain ⟨h1, h⟩ := rb_ite_inv h
        cases h
        have e1 := ro_Big_at (B := B) (C := C) ho
        have e2 := ro_Big_at (B := B) (C := C) ho2
        have e3 := ro_Big_set (B := B) (C := C) (M := M) (a := a) (o := .inr (.inl (f.take n.toNatClampNeg ++ g.drop n.toNatClampNeg))) (List.getElem?_eq_some_iff.mp ho).1
        have e4 : ro_o B.length (.inr (.inl (f.take n.toNatClampNeg ++ g.drop n.toNatClampNeg))) = .inr (.inl (f.take n.toNatClampNeg ++ g.drop n.toNatClampNeg)) := rfl
        rw [e4] at e3
        have h2 : sp = 0 ∧ dp = 0 ∧ ¬ n < 0 ∧ n.toNatClampNeg ≤ f.length ∧ n.toNatClampNeg ≤ g.length ∧ (ro_S B.length st').length ≤ 4 := by rw [ro_S_len]; exact h1
        have e0 : ro_S B.length (.int n :: .int dp :: .ref a :: .int sp :: .ref c :: st') = .int n :: .int dp :: .ref (a + B.length) :: .int sp :: .ref (c + B.length) :: ro_S B.length st' := rfl
        rw [e0]
        simp only [e1, e2, ro_o]
        rw [if_pos h2, e3]
      · cases h
    · cases h
end RO
