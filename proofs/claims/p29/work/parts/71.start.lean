/-! THE START, 2: the constructor in pieces -/
def rb_V9 : rb_V := fun g r j => if g < 12 then rb_V1 r j else 0
def rb_nsc (i : Instr) : Bool := match i with
  | .iaload => false
  | _ => true
theorem rz_mem_len {k len : Nat} {sc : Option (List Int32)} {ls : rb_L} {st : List Value} {M : rb_M} {x : List Value × rb_M} (h : rb_mem k .arraylength len none ls st M = some x) : rb_mem k .arraylength len sc ls st M = some x := by
  simp only [rb_mem] at h ⊢
  by_cases hl : len = 1
  · rw [if_pos hl] at h ⊢
    cases st with
    | nil => exact h
    | cons v st =>
      cases v <;> try exact h
      rename_i a
      dsimp only at h ⊢
      cases hM : M[a]? with
      | none =>
        rw [hM] at h
        dsimp only at h
        split at h <;> cases h
      | some o =>
        rw [hM] at h
        rcases o with o | o | o <;> exact h
  · rw [if_neg hl] at h; cases h
theorem rb_mem_sc {k : Nat} {i : Instr} {len : Nat} {sc : Option (List Int32)} {ls : rb_L} {st : List Value} {M : rb_M} {x : List Value × rb_M} (h : rb_nsc i = true) (hx : rb_mem k i len none ls st M = some x) : rb_mem k i len sc ls st M = some x := by
  cases i <;> first | (exact rz_mem_len hx) | (exact hx) | (cases h)
def rb_chunk : Nat → Nat → Nat → rb_L → List Value → rb_M → Option (Nat × rb_L × List Value × rb_M)
  | 0, _, pc, ls, st, M => some (pc, ls, st, M)
  | n + 1, k, pc, ls, st, M => match rb_dec k pc with
    | none => none
    | some (i, len) => match rb_ki k i with
      | 0 => (match rb_pure k pc i len ls st with
        | some (pc', ls', st') => rb_chunk n k pc' ls' st' M
        | none => none)
      | 1 => (match rb_mem k i len none ls st M with
        | some (st', M') => if rb_nsc i = true ∧ (M'.length = M.length ∨ rb_al k = true) then rb_chunk n k (pc + len) ls st' M' else none
        | none => none)
      | _ => none
theorem rb_chunk_ok {sc : Option (List Int32)} {k : Nat} {x : Option Value × rb_M} {f pc' : Nat} {ls' : rb_L} {st' : List Value} {M' : rb_M} (hf : rb_ex f sc k pc' ls' st' M' = some x) : ∀ (n pc : Nat) (ls : rb_L) (st : List Value) (M : rb_M), rb_chunk n k pc ls st M = some (pc', ls', st', M') → rb_ex (f + n) sc k pc ls st M = some x
  | 0, pc, ls, st, M, h => by
    unfold rb_chunk at h
    cases h
    exact hf
  | n + 1, pc, ls, st, M, h => by
    show rb_ex ((f + n) + 1) sc k pc ls st M = some x
    unfold rb_chunk at h
    unfold rb_ex
    cases hd : rb_dec k pc with
    | none => rw [hd] at h; cases h
    | some y =>
      obtain ⟨i, len⟩ := y
      rw [hd] at h
      dsimp only at h ⊢
      by_cases h0 : rb_ki k i = 0
      · rw [h0] at h ⊢
        try dsimp only at h
        try dsimp only
        cases hp : rb_pure k pc i len ls st with
        | none => rw [hp] at h; cases h
        | some y =>
          obtain ⟨a, b, c⟩ := y
          rw [hp] at h
          dsimp only at h ⊢
          exact rb_chunk_ok hf n _ _ _ _ h
      · by_cases h1 : rb_ki k i = 1
        · rw [h1] at h ⊢
          try dsimp only at h
          try dsimp only
          cases hp : rb_mem k i len none ls st M with
          | none => rw [hp] at h; cases h
          | some y =>
            obtain ⟨a, b⟩ := y
            rw [hp] at h
            dsimp only at h
            by_cases hl : rb_nsc i = true ∧ (b.length = M.length ∨ rb_al k = true)
            · rw [if_pos hl] at h
              rw [rb_mem_sc hl.1 hp]
              dsimp only
              rw [if_pos hl.2]
              exact rb_chunk_ok hf n _ _ _ _ h
            · rw [if_neg hl] at h; cases h
        · exfalso
          split at h
          · exact h0 (by assumption)
          · exact h1 (by assumption)
          · cases h
def rb_eqw (a b : Option Value) : Bool := match a, b with
  | some x, some y => rb_eqv x y
  | none, none => true
  | _, _ => false
theorem rb_eqw_eq {a b : Option Value} (h : rb_eqw a b = true) : a = b := by
  unfold rb_eqw at h
  split at h
  · rw [rb_eqv_eq h]
  · rfl
  · cases h
def rb_isC (r : Option (Nat × rb_L × List Value × rb_M)) (pc : Nat) (ls : rb_L) (st : List Value) (M : rb_M) : Bool := match r with
  | some (pc', ls', st', M') => pc' == pc && (rb_eqs rb_eqw ls' ls && (rb_eqs rb_eqv st' st && rb_eqs rb_eqo M' M))
  | none => false
theorem rb_isC_eq {r : Option (Nat × rb_L × List Value × rb_M)} {pc : Nat} {ls : rb_L} {st : List Value} {M : rb_M} (h : rb_isC r pc ls st M = true) : r = some (pc, ls, st, M) := by
  unfold rb_isC at h
  split at h
  · simp only [Bool.and_eq_true, beq_iff_eq] at h
    obtain ⟨h1, h2, h3, h4⟩ := h
    rw [h1, rb_eqs_eq (fun _ _ h => rb_eqw_eq h) h2, rb_eqs_eq (fun _ _ h => rb_eqv_eq h) h3, rb_eqs_eq (fun _ _ h => rb_eqo_eq h) h4]
  · cases h
/-- a call at this place is one of k' with as, the rest staying -/
def rb_isL (k pc : Nat) (ls : rb_L) (st : List Value) (M : rb_M) (n1 k' : Nat) (as rest : List Value) : Bool := match rb_dec k pc with
  | none => false
  | some (i, len) => (rb_ki k i == 2) && (match rb_call k i len st M with
    | some (q, bs, rs) => (q == k') && (rb_eqs rb_eqv bs as && (rb_eqs rb_eqv rs rest && (decide (as.length ≤ rb_ml k') && (as.all (fun v => v.category == 1) && rb_ck k k' ls rest M.length n1))))
    | none => false)
theorem rb_call_ok {sc : Option (List Int32)} {k k' pc f n1 : Nat} {ls : rb_L} {st as rest : List Value} {M M1 : rb_M} {r : Option Value} {x : Option Value × rb_M} (hc : rb_isL k pc ls st M n1 k' as rest = true) (hn : M1.length = n1) (h1 : rb_ex f sc k' 0 (rb_ent k' as) [] M = some (r, M1)) (h2 : rb_ex f sc k (pc + 3) ls (r.toList ++ rest) M1 = some x) : rb_ex (f + 1) sc k pc ls st M = some x := by
  unfold rb_isL at hc
  unfold rb_ex
  cases hd : rb_dec k pc with
  | none => rw [hd] at hc; cases hc
  | some y =>
    obtain ⟨i, len⟩ := y
    rw [hd] at hc
    dsimp only at hc ⊢
    rw [Bool.and_eq_true] at hc
    obtain ⟨hk, hc⟩ := hc
    rw [beq_iff_eq.mp hk]
    try dsimp only
    cases hcl : rb_call k i len st M with
    | none => rw [hcl] at hc; cases hc
    | some y =>
      obtain ⟨q, bs, rs⟩ := y
      rw [hcl] at hc
      dsimp only at hc ⊢
      simp only [Bool.and_eq_true] at hc
      obtain ⟨e1, e2, e3, e4, e5, e6⟩ := hc
      have e1 := beq_iff_eq.mp e1
      have e2 := rb_eqs_eq (fun _ _ h => rb_eqv_eq h) e2
      have e3 := rb_eqs_eq (fun _ _ h => rb_eqv_eq h) e3
      rw [e1, e2, e3, if_pos ⟨of_decide_eq_true e4, e5⟩, h1]
      dsimp only
      rw [hn, if_pos e6]
      exact h2
