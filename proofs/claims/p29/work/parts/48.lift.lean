/-! ONE OBJECT'S RUN WITHIN A LARGER MEMORY, 3: calls, the whole -/
section RX
variable {n k pc len : Nat} {sc : Option (List Int32)} {ls : rb_L} {st : List Value} {M : rb_M} {i : Instr}
theorem rx_pure {pc' : Nat} {ls' : rb_L} {st' : List Value} (hd : decode (rb_by k) pc = .ok (i, len)) (hk : rb_ki k i = 0) (hp : rb_pure k pc i len ls st = some (pc', ls', st')) : rb_ex (n + 1) sc k pc ls st M = rb_ex n sc k pc' ls' st' M := by
  conv => lhs; unfold rb_ex
  simp only [rb_dec_of hd, hk, hp]
theorem rx_mem {st' : List Value} {M1 : rb_M} (hd : decode (rb_by k) pc = .ok (i, len)) (hk : rb_ki k i = 1) (hm : rb_mem k i len sc ls st M = some (st', M1)) (hl : M1.length = M.length ∨ rb_al k = true) : rb_ex (n + 1) sc k pc ls st M = rb_ex n sc k (pc + len) ls st' M1 := by
  conv => lhs; unfold rb_ex
  simp only [rb_dec_of hd, hk, hm, if_pos hl]
theorem rx_call {k' : Nat} {as rest : List Value} {r1 : Option Value} {M1 : rb_M} (hd : decode (rb_by k) pc = .ok (i, len)) (hk : rb_ki k i = 2) (hc : rb_call k i len st M = some (k', as, rest)) (ha : as.length ≤ rb_ml k' ∧ as.all (fun v => v.category == 1) = true) (hx : rb_ex n sc k' 0 (rb_ent k' as) [] M = some (r1, M1)) (hck : rb_ck k k' ls rest M.length M1.length = true) : rb_ex (n + 1) sc k pc ls st M = rb_ex n sc k (pc + 3) ls (r1.toList ++ rest) M1 := by
  conv => lhs; unfold rb_ex
  simp only [rb_dec_of hd, hk, hc, if_pos ha, hx, if_pos hck]
theorem rx_ret {r : Option Value} (hd : decode (rb_by k) pc = .ok (i, len)) (hk : rb_ki k i = 3) (hr : rb_ret k i len st = some r) : rb_ex (n + 1) sc k pc ls st M = some (r, M) := by
  conv => lhs; unfold rb_ex
  simp only [rb_dec_of hd, hk, hr]
theorem rx_ki {r : Option Value} (hr : rb_ret k i len st = some r) : rb_ki k i = 3 := by
  cases i <;> first | rfl | (simp only [rb_ret] at hr; cases hr)
end RX
section RO
variable {b : Nat}
theorem ro_ret {k len : Nat} {i : Instr} {st : List Value} {r : Option Value} (h : rb_ret k i len st = some r) : rb_ret k i len (ro_S b st) = some (r.map (ro_v b)) := by
  cases i <;> simp only [rb_ret] at h ⊢ <;> (try cases h) <;> (replace h := rb_ite_inv h) <;> (obtain ⟨h0, h⟩ := h) <;> rw [if_pos h0]
  case ireturn =>
    split at h
    · rename_i v ty hty
      obtain ⟨h1, h⟩ := rb_ite_inv h
      cases h
      simp only [ro_S, List.map_cons, List.map_nil, ro_v, hty, if_pos h1]; rfl
    · cases h
  case areturn =>
    split at h
    · rename_i v D hty
      obtain ⟨h1, h⟩ := rb_ite_inv h
      cases h
      have h2 : rb_okv (.object D) (ro_v b v) = true := by rw [ro_okv]; exact h1
      simp only [ro_S, List.map_cons, List.map_nil, hty, if_pos h2]; rfl
    · cases h
  case freturn =>
    split at h
    · rename_i v hty
      cases h
      simp only [ro_S, List.map_cons, List.map_nil, ro_v, hty]; rfl
    · cases h
  case return_ =>
    split at h
    · rename_i hty
      cases h
      simp only [ro_S, List.map_nil, hty]; rfl
    · cases h
theorem ro_ent (k : Nat) (as : List Value) : rb_ent k (ro_S b as) = ro_L b (rb_ent k as) := by
  unfold rb_ent ro_L ro_S
  rw [List.map_append, List.map_replicate, List.length_map, List.map_map, List.map_map]; rfl
theorem ro_cats {as : List Value} : (ro_S b as).all (fun v => v.category == 1) = as.all (fun v => v.category == 1) := by
  unfold ro_S
  rw [List.all_map]
  exact congrArg as.all (funext fun v => by show ((ro_v b v).category == 1) = _; rw [ro_cat])
theorem ro_tk (st : List Value) (n : Nat) : ((ro_S b st).take n).reverse = ro_S b (st.take n).reverse := by
  unfold ro_S; rw [← List.map_take, List.map_reverse]
theorem ro_dr (st : List Value) (n : Nat) : (ro_S b st).drop n = ro_S b (st.drop n) := by
  unfold ro_S; rw [List.map_drop]
theorem ro_out {a c : Nat} (v : Value) : rb_out (b + a) (b + c) (ro_v b v) = rb_out a c v := by
  cases v <;> try rfl
  rename_i i
  show (decide (i + b < b + a) || decide (b + c ≤ i + b)) = (decide (i < a) || decide (c ≤ i))
  have e1 : (i + b < b + a) = (i < a) := propext ⟨fun q => Nat.lt_of_add_lt_add_right (Nat.lt_of_lt_of_eq q (Nat.add_comm b a)), fun q => Nat.lt_of_lt_of_eq (Nat.add_lt_add_right q b) (Nat.add_comm a b)⟩
  have e2 : (b + c ≤ i + b) = (c ≤ i) := propext ⟨fun q => Nat.le_of_add_le_add_right (Nat.le_trans (Nat.le_of_eq (Nat.add_comm c b)) q), fun q => Nat.le_trans (Nat.le_of_eq (Nat.add_comm b c)) (Nat.add_le_add_right q b)⟩
  simp only [e1, e2]
theorem ro_outl {a c : Nat} (r : Option Value) : rb_outl (b + a) (b + c) (r.map (ro_v b)) = rb_outl a c r := by
  cases r with
  | none => rfl
  | some v => exact ro_out v
theorem rb_out_e (a : Nat) (v : Value) : rb_out a a v = true := by
  cases v <;> try rfl
  rename_i i
  show (decide (i < a) || decide (a ≤ i)) = true
  by_cases h : i < a
  · simp [h]
  · have h2 : a ≤ i := Nat.le_of_not_lt h
    simp [h2]
theorem rb_outl_e (a : Nat) (r : Option Value) : rb_outl a a r = true := by
  cases r with
  | none => rfl
  | some v => exact rb_out_e a v
end RO
section RO
variable {B C : rb_M}
theorem ro_call {k k' len : Nat} {i : Instr} {st as rest : List Value} {M : rb_M} (h : rb_call k i len st M = some (k', as, rest)) : rb_call k i len (ro_S B.length st) (ro_Big B M C) = some (k', ro_S B.length as, ro_S B.length rest) := by
  cases i <;> simp only [rb_call] at h ⊢ <;> (try cases h) <;> (replace h := rb_ite_inv h) <;> (obtain ⟨h0, h⟩ := h) <;> rw [if_pos h0]
  case invokevirtual ix =>
    split at h
    · rename_i k2 kd hf
      obtain ⟨h1, h⟩ := rb_ite_inv h
      split at h
      · rename_i a as0 hz
        split at h
        · rename_i ci fs ho
          obtain ⟨h5, h⟩ := rb_ite_inv h
          cases h
          have e1 := ro_Big_at (B := B) (C := C) ho
          rw [if_pos (by rw [ro_dr, ro_S_len, ro_S_len]; exact h1), ro_tk, hz]
          show (match (ro_Big B M C)[a + B.length]? with
            | some (.inl (ci, _)) => if ci = rb_ow k' ∧ ci < 5 then some (k', Value.ref (a + B.length) :: ro_S B.length as0, (ro_S B.length st).drop (rb_na k')) else none
            | _ => none) = _
          rw [e1]
          show (if ci = rb_ow k' ∧ ci < 5 then some (k', Value.ref (a + B.length) :: ro_S B.length as0, (ro_S B.length st).drop (rb_na k')) else none) = _
          rw [if_pos h5, ro_dr]; rfl
        · cases h
      · cases h
    · cases h
  case invokestatic ix =>
    split at h
    · rename_i k2 kd hf
      obtain ⟨h1, h⟩ := rb_ite_inv h
      cases h
      rw [if_pos (by rw [ro_dr, ro_S_len, ro_S_len]; exact h1), ro_tk, ro_dr]
    · cases h
  case invokespecial ix =>
    split at h
    · rename_i k2 kd hf
      obtain ⟨h1, h⟩ := rb_ite_inv h
      split at h
      · rename_i a as0 hz
        cases h
        rw [if_pos (by rw [ro_dr, ro_S_len, ro_S_len]; exact h1), ro_tk, hz, ro_dr]; rfl
      · cases h
    · cases h
theorem ro_ck {k k' : Nat} {ls : rb_L} {rest : List Value} {M M1 : rb_M} (h : rb_ck k k' ls rest M.length M1.length = true) (hc : C = [] ∨ M1.length = M.length) : rb_ck k k' (ro_L B.length ls) (ro_S B.length rest) (ro_Big B M C).length (ro_Big B M1 C).length = true := by
  unfold rb_ck at h ⊢
  rw [ro_Big_len, ro_Big_len]
  cases hq : rb_al k' with
  | false => rfl
  | true =>
    rw [hq] at h
    simp only [Bool.not_true, Bool.false_or, Bool.and_eq_true] at h ⊢
    obtain ⟨h1, h2, h3⟩ := h
    refine ⟨h1, ?_, ?_⟩
    · rcases hc with rfl | hc
      · rw [List.length_nil, Nat.add_zero, Nat.add_zero]
        unfold ro_L
        rw [List.all_map, ← h2]
        exact congrArg ls.all (funext fun r => ro_outl r)
      · rw [hc]
        exact List.all_eq_true.mpr fun r _ => rb_outl_e _ r
    · rcases hc with rfl | hc
      · rw [List.length_nil, Nat.add_zero, Nat.add_zero]
        unfold ro_S
        rw [List.all_map, ← h3]
        exact congrArg rest.all (funext fun r => ro_out r)
      · rw [hc]
        exact List.all_eq_true.mpr fun r _ => rb_out_e _ r
/-- a run over an object's cells is a run over a memory that holds them -/
theorem ro_lift {sc : Option (List Int32)} (hB : ∀ i, B.length ≤ i → B.all (rb_no i) = true) : ∀ (n k pc : Nat) (ls : rb_L) (st : List Value) (M M' : rb_M) (r : Option Value), rb_ex n none k pc ls st M = some (r, M') → ((C = [] ∧ B.length + M'.length ≤ rb_scr) ∨ M'.length = M.length) → rb_ex n sc k pc (ro_L B.length ls) (ro_S B.length st) (ro_Big B M C) = some (r.map (ro_v B.length), ro_Big B M' C)
  | 0, _, _, _, _, _, _, _, h, _ => by cases h
  | n + 1, k, pc, ls, st, M, M', r, h, hc => by
    obtain ⟨i, len, hd, h⟩ := rb_ex_inv h
    rcases h with ⟨hk, pc', ls', st', hp, h⟩ | ⟨hk, st', M1, hm, ha, h⟩ | ⟨hk, k', as, rest, r1, M1, hcl, hl, hcat, hx, hck, h⟩ | ⟨hr, rfl⟩
    · rw [rx_pure hd hk (ro_pure (b := B.length) hp)]
      exact ro_lift hB n _ _ _ _ _ _ _ h hc
    · obtain ⟨m1, m2, m3, m4⟩ := rb_mono n _ _ _ _ _ _ _ _ h
      have m0 : M.length ≤ M1.length := by rcases rb_mem_len hm with ⟨e1, e2⟩ | ⟨e1, e2, e3⟩ <;> omega
      have hc1 : (C = [] ∧ B.length + M1.length ≤ rb_scr) ∨ M1.length = M.length := by
        rcases hc with ⟨h1, h2⟩ | h1
        · exact Or.inl ⟨h1, by omega⟩
        · exact Or.inr (by omega)
      have hc2 : (C = [] ∧ B.length + M'.length ≤ rb_scr) ∨ M'.length = M1.length := by
        rcases hc with h1 | h1
        · exact Or.inl h1
        · exact Or.inr (by omega)
      rw [rx_mem hd hk (ro_mem hB hm hc1) (by rcases ha with ha | ha; (· rw [ro_Big_len, ro_Big_len, ha]; exact Or.inl rfl); (· exact Or.inr ha))]
      exact ro_lift hB n _ _ _ _ _ _ _ h hc2
    · obtain ⟨m1, m2, m3, m4⟩ := rb_mono n _ _ _ _ _ _ _ _ h
      obtain ⟨g1, g2, g3, g4⟩ := rb_mono n _ _ _ _ _ _ _ _ hx
      have hc1 : (C = [] ∧ B.length + M1.length ≤ rb_scr) ∨ M1.length = M.length := by
        rcases hc with ⟨h1, h2⟩ | h1
        · exact Or.inl ⟨h1, by omega⟩
        · exact Or.inr (by omega)
      have hc2 : (C = [] ∧ B.length + M'.length ≤ rb_scr) ∨ M'.length = M1.length := by
        rcases hc with h1 | h1
        · exact Or.inl h1
        · exact Or.inr (by omega)
      have hx2 := ro_lift (sc := sc) hB n _ _ _ _ _ _ _ hx hc1
      rw [← ro_ent] at hx2
      have hcats : as.all (fun v => v.category == 1) = true := List.all_eq_true.mpr fun v hv => by simpa using hcat v hv
      rw [rx_call hd hk (ro_call hcl) ⟨by rw [ro_S_len]; exact hl, by rw [ro_cats]; exact hcats⟩ hx2 (ro_ck hck (by rcases hc1 with h1 | h1; (· exact Or.inl h1.1); (· exact Or.inr h1)))]
      have h2 := ro_lift (sc := sc) hB n _ _ _ _ _ _ _ h hc2
      have e : (r1.map (ro_v B.length)).toList ++ ro_S B.length rest = ro_S B.length (r1.toList ++ rest) := by
        unfold ro_S; rw [List.map_append]; cases r1 <;> rfl
      rw [e]
      exact h2
    · exact rx_ret hd (rx_ki hr) (ro_ret hr)
theorem rb_G_det {sc : Option (List Int32)} {k pc : Nat} {ls : rb_L} {st : List Value} {M M0 : rb_M} {r0 : Option Value} (h : rb_G sc k pc ls st M (fun r M1 => r = r0 ∧ M1 = M0)) (P : Option Value → rb_M → Prop) : rb_G sc k pc ls st M P ↔ P r0 M0 := by
  obtain ⟨n, r, M1, h1, rfl, rfl⟩ := h
  constructor
  · rintro ⟨n2, r2, M2, h2, hP⟩
    have a1 := rb_fuel h1 (Nat.le_max_left n n2)
    have a2 := rb_fuel h2 (Nat.le_max_right n n2)
    rw [a1] at a2
    cases a2
    exact hP
  · exact fun hP => ⟨n, _, _, h1, hP⟩
/-- what a call over an object's cells comes to, in a memory that holds them -/
theorem ro_G {sc : Option (List Int32)} {k pc : Nat} {ls : rb_L} {st : List Value} {M M0 : rb_M} {r0 : Option Value} (hB : ∀ i, B.length ≤ i → B.all (rb_no i) = true) (h : ∀ P : Option Value → rb_M → Prop, rb_G none k pc ls st M P ↔ P r0 M0) (hc : (C = [] ∧ B.length + M0.length ≤ rb_scr) ∨ M0.length = M.length) (P : Option Value → rb_M → Prop) : rb_G sc k pc (ro_L B.length ls) (ro_S B.length st) (ro_Big B M C) P ↔ P (r0.map (ro_v B.length)) (ro_Big B M0 C) := by
  obtain ⟨n, r, M1, h1, rfl, rfl⟩ := (h (fun r M1 => r = r0 ∧ M1 = M0)).mpr ⟨rfl, rfl⟩
  exact rb_G_det ⟨n, _, _, ro_lift hB n _ _ _ _ _ _ _ h1 hc, rfl, rfl⟩ P
end RO
