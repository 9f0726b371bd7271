/-! ONE OBJECT'S RUN WITHIN A LARGER MEMORY: cells ahead, cells behind -/
def ro_v (b : Nat) (v : Value) : Value := match v with
  | .ref a => .ref (a + b)
  | v => v
def ro_o (b : Nat) (o : rb_O) : rb_O := match o with
  | .inl x => .inl (x.1, x.2.map (ro_v b))
  | .inr (.inl xs) => .inr (.inl xs)
  | .inr (.inr rs) => .inr (.inr (rs.map (fun r => r.map (fun a => a + b))))
def ro_L (b : Nat) (ls : rb_L) : rb_L := ls.map (fun r => r.map (ro_v b))
def ro_S (b : Nat) (st : List Value) : List Value := st.map (ro_v b)
def ro_M (b : Nat) (M : rb_M) : rb_M := M.map (ro_o b)
section RO
variable {b : Nat}
theorem ro_L_at {ls : rb_L} {j : Nat} {r : Option Value} (h : ls[j]? = some r) : (ro_L b ls)[j]? = some (r.map (ro_v b)) := by unfold ro_L; rw [List.getElem?_map, h]; rfl
theorem ro_L_set (ls : rb_L) (j : Nat) (r : Option Value) : ro_L b (ls.set j r) = (ro_L b ls).set j (r.map (ro_v b)) := List.map_set
theorem ro_L_len (ls : rb_L) : (ro_L b ls).length = ls.length := List.length_map _
theorem ro_S_len (st : List Value) : (ro_S b st).length = st.length := List.length_map _
theorem ro_cat (v : Value) : (ro_v b v).category = v.category := by cases v <;> rfl
theorem ro_okv (ty : FieldType) (v : Value) : rb_okv ty (ro_v b v) = rb_okv ty v := by cases v <;> cases ty <;> rfl
theorem ro_rf (r : Option Nat) : rb_rf (r.map (fun a => a + b)) = ro_v b (rb_rf r) := by cases r <;> rfl
theorem ro_ldi {pc pc' i : Nat} {ls ls' : rb_L} {st st' : List Value} (h : rb_ldi pc ls i st = some (pc', ls', st')) : rb_ldi pc (ro_L b ls) i (ro_S b st) = some (pc', ro_L b ls', ro_S b st') := by
  obtain ⟨x, hi, rfl, rfl, rfl⟩ := rb_ldi_inv h
  unfold rb_ldi; rw [ro_L_at hi]; rfl
theorem ro_lda {pc pc' i : Nat} {ls ls' : rb_L} {st st' : List Value} (h : rb_lda pc ls i st = some (pc', ls', st')) : rb_lda pc (ro_L b ls) i (ro_S b st) = some (pc', ro_L b ls', ro_S b st') := by
  rcases rb_lda_inv h with ⟨x, hi, rfl, rfl, rfl⟩ | ⟨hi, rfl, rfl, rfl⟩
  · unfold rb_lda; rw [ro_L_at hi]; rfl
  · unfold rb_lda; rw [ro_L_at hi]; rfl
theorem ro_ldl {pc pc' i : Nat} {ls ls' : rb_L} {st st' : List Value} (h : rb_ldl pc ls i st = some (pc', ls', st')) : rb_ldl pc (ro_L b ls) i (ro_S b st) = some (pc', ro_L b ls', ro_S b st') := by
  obtain ⟨x, hi, rfl, rfl, rfl⟩ := rb_ldl_inv h
  unfold rb_ldl; rw [ro_L_at hi]; rfl
theorem ro_ldd {pc pc' i : Nat} {ls ls' : rb_L} {st st' : List Value} (h : rb_ldd pc ls i st = some (pc', ls', st')) : rb_ldd pc (ro_L b ls) i (ro_S b st) = some (pc', ro_L b ls', ro_S b st') := by
  obtain ⟨x, hi, rfl, rfl, rfl⟩ := rb_ldd_inv h
  unfold rb_ldd; rw [ro_L_at hi]; rfl
theorem ro_sti {k pc pc' i : Nat} {ls ls' : rb_L} {st st' : List Value} (h : rb_sti k pc ls i st = some (pc', ls', st')) : rb_sti k pc (ro_L b ls) i (ro_S b st) = some (pc', ro_L b ls', ro_S b st') := by
  obtain ⟨x, r, rfl, h1, h2, rfl, rfl, rfl⟩ := rb_sti_inv h
  show (if rb_sto k i = true ∧ i < (ro_L b ls).length then some (_, (ro_L b ls).set i (some (.int x)), _) else none) = _
  rw [if_pos ⟨h1, by rw [ro_L_len]; exact h2⟩, ro_L_set]; rfl
theorem ro_sta {k pc pc' i : Nat} {ls ls' : rb_L} {st st' : List Value} (h : rb_sta k pc ls i st = some (pc', ls', st')) : rb_sta k pc (ro_L b ls) i (ro_S b st) = some (pc', ro_L b ls', ro_S b st') := by
  rcases rb_sta_inv h with ⟨x, r, rfl, h1, h2, rfl, rfl, rfl⟩ | ⟨r, rfl, h1, h2, rfl, rfl, rfl⟩
  · show (if rb_sto k i = true ∧ i < (ro_L b ls).length then some (_, (ro_L b ls).set i (some (.ref (x + b))), _) else none) = _
    rw [if_pos ⟨h1, by rw [ro_L_len]; exact h2⟩, ro_L_set]; rfl
  · show (if rb_sto k i = true ∧ i < (ro_L b ls).length then some (_, (ro_L b ls).set i (some .null), _) else none) = _
    rw [if_pos ⟨h1, by rw [ro_L_len]; exact h2⟩, ro_L_set]; rfl
theorem ro_st2 {k pc pc' i : Nat} {ls ls' : rb_L} {st st' : List Value} (h : rb_st2 k pc ls i st = some (pc', ls', st')) : rb_st2 k pc (ro_L b ls) i (ro_S b st) = some (pc', ro_L b ls', ro_S b st') := by
  unfold rb_st2 at h
  split at h
  · rename_i x st0
    obtain ⟨h1, h⟩ := rb_ite_inv h
    have e : some (pc', ro_L b ls', ro_S b st') = some (pc, ro_L b ((ls.set i (some (.long x))).set (i + 1) none), ro_S b st0) := by cases h; rfl
    rw [e]
    show (if rb_sto k i = true ∧ rb_std k i = true ∧ i + 1 < (ro_L b ls).length then some (pc, ((ro_L b ls).set i (some (.long x))).set (i + 1) none, ro_S b st0) else none) = _
    rw [if_pos ⟨h1.1, h1.2.1, by rw [ro_L_len]; exact h1.2.2⟩, ro_L_set, ro_L_set]; rfl
  · rename_i x st0
    obtain ⟨h1, h⟩ := rb_ite_inv h
    have e : some (pc', ro_L b ls', ro_S b st') = some (pc, ro_L b ((ls.set i (some (.double x))).set (i + 1) none), ro_S b st0) := by cases h; rfl
    rw [e]
    show (if rb_sto k i = true ∧ rb_std k i = true ∧ i + 1 < (ro_L b ls).length then some (pc, ((ro_L b ls).set i (some (.double x))).set (i + 1) none, ro_S b st0) else none) = _
    rw [if_pos ⟨h1.1, h1.2.1, by rw [ro_L_len]; exact h1.2.2⟩, ro_L_set, ro_L_set]; rfl
  · cases h
theorem ro_b2 {pc pc' : Nat} {f : Int32 → Int32 → Int32} {ls ls' : rb_L} {st st' : List Value} (h : rb_b2 pc ls f st = some (pc', ls', st')) : rb_b2 pc (ro_L b ls) f (ro_S b st) = some (pc', ro_L b ls', ro_S b st') := by
  unfold rb_b2 at h
  split at h
  · cases h; rfl
  · cases h
theorem ro_bl {pc pc' : Nat} {f : Int64 → Int64 → Int64} {ls ls' : rb_L} {st st' : List Value} (h : rb_bl pc ls f st = some (pc', ls', st')) : rb_bl pc (ro_L b ls) f (ro_S b st) = some (pc', ro_L b ls', ro_S b st') := by
  unfold rb_bl at h
  split at h
  · cases h; rfl
  · cases h
theorem ro_br {pc pc' : Nat} {off : Int} {c : Bool} {ls ls' : rb_L} {st st' : List Value} (h : rb_br pc off ls st c = some (pc', ls', st')) : rb_br pc off (ro_L b ls) (ro_S b st) c = some (pc', ro_L b ls', ro_S b st') := by
  unfold rb_br at h ⊢
  cases hq : rb_tg pc off with
  | none => rw [hq] at h; cases h
  | some t => rw [hq] at h; cases h; rfl
theorem ro_pure {k pc pc' len : Nat} {i : Instr} {ls ls' : rb_L} {st st' : List Value} (h : rb_pure k pc i len ls st = some (pc', ls', st')) : rb_pure k pc i len (ro_L b ls) (ro_S b st) = some (pc', ro_L b ls', ro_S b st') := by
  cases i <;> simp only [rb_pure] at h ⊢ <;> (try cases h)
  case iconst n => obtain ⟨h0, h⟩ := rb_ite_inv h; rw [if_pos h0]; cases h; rfl
  case bipush n => obtain ⟨h0, h⟩ := rb_ite_inv h; rw [if_pos h0]; cases h; rfl
  case sipush n => obtain ⟨h0, h⟩ := rb_ite_inv h; rw [if_pos h0]; cases h; rfl
  case fconst n => obtain ⟨h0, h⟩ := rb_ite_inv h; rw [if_pos h0]; cases h; rfl
  case aconst_null => obtain ⟨h0, h⟩ := rb_ite_inv h; rw [if_pos h0]; cases h; rfl
  case ldc ix =>
    obtain ⟨h0, h⟩ := rb_ite_inv h; rw [if_pos h0]
    split at h
    · cases h; rfl
    · cases h
  case ldc_w ix =>
    obtain ⟨h0, h⟩ := rb_ite_inv h; rw [if_pos h0]
    split at h
    · cases h; rfl
    · cases h
  case ldc2_w ix =>
    obtain ⟨h0, h⟩ := rb_ite_inv h; rw [if_pos h0]
    split at h
    · cases h; rfl
    · cases h
  case iload_n j => obtain ⟨h0, h⟩ := rb_ite_inv h; rw [if_pos h0]; exact ro_ldi h
  case iload j => obtain ⟨h0, h⟩ := rb_ite_inv h; rw [if_pos h0]; exact ro_ldi h
  case aload_n j => obtain ⟨h0, h⟩ := rb_ite_inv h; rw [if_pos h0]; exact ro_lda h
  case aload j => obtain ⟨h0, h⟩ := rb_ite_inv h; rw [if_pos h0]; exact ro_lda h
  case lload_n j => obtain ⟨h0, h⟩ := rb_ite_inv h; rw [if_pos h0]; exact ro_ldl h
  case dload j => obtain ⟨h0, h⟩ := rb_ite_inv h; rw [if_pos h0]; exact ro_ldd h
  case istore_n j => obtain ⟨h0, h⟩ := rb_ite_inv h; rw [if_pos h0]; exact ro_sti h
  case istore j => obtain ⟨h0, h⟩ := rb_ite_inv h; rw [if_pos h0]; exact ro_sti h
  case astore_n j => obtain ⟨h0, h⟩ := rb_ite_inv h; rw [if_pos h0]; exact ro_sta h
  case astore j => obtain ⟨h0, h⟩ := rb_ite_inv h; rw [if_pos h0]; exact ro_sta h
  case lstore_n j =>
    obtain ⟨h0, h⟩ := rb_ite_inv h; rw [if_pos h0]
    split at h
    · exact ro_st2 (b := b) h
    · cases h
  case dstore j =>
    obtain ⟨h0, h⟩ := rb_ite_inv h; rw [if_pos h0]
    split at h
    · exact ro_st2 (b := b) h
    · cases h
  case iinc j n =>
    obtain ⟨h0, h⟩ := rb_ite_inv h; rw [if_pos h0]
    split at h
    · rename_i x hj
      obtain ⟨h1, h⟩ := rb_ite_inv h
      cases h
      rw [ro_L_at hj]
      show (if rb_sto k j = true then some (pc + len, (ro_L b ls).set j (some (.int (x + Int32.ofInt n))), _) else none) = _
      rw [if_pos h1, ro_L_set]; rfl
    · cases h
  case iadd => obtain ⟨h0, h⟩ := rb_ite_inv h; rw [if_pos h0]; exact ro_b2 h
  case isub => obtain ⟨h0, h⟩ := rb_ite_inv h; rw [if_pos h0]; exact ro_b2 h
  case imul => obtain ⟨h0, h⟩ := rb_ite_inv h; rw [if_pos h0]; exact ro_b2 h
  case iand => obtain ⟨h0, h⟩ := rb_ite_inv h; rw [if_pos h0]; exact ro_b2 h
  case ior => obtain ⟨h0, h⟩ := rb_ite_inv h; rw [if_pos h0]; exact ro_b2 h
  case ixor => obtain ⟨h0, h⟩ := rb_ite_inv h; rw [if_pos h0]; exact ro_b2 h
  case ishl => obtain ⟨h0, h⟩ := rb_ite_inv h; rw [if_pos h0]; exact ro_b2 h
  case ishr => obtain ⟨h0, h⟩ := rb_ite_inv h; rw [if_pos h0]; exact ro_b2 h
  case iushr => obtain ⟨h0, h⟩ := rb_ite_inv h; rw [if_pos h0]; exact ro_b2 h
  case idiv =>
    obtain ⟨h0, h⟩ := rb_ite_inv h; rw [if_pos h0]
    split at h
    · split at h
      · cases h
      · rename_i hy; cases h
        simp only [ro_S, List.map_cons, ro_v, if_neg hy]
    · cases h
  case irem =>
    obtain ⟨h0, h⟩ := rb_ite_inv h; rw [if_pos h0]
    split at h
    · split at h
      · cases h
      · rename_i hy; cases h
        simp only [ro_S, List.map_cons, ro_v, if_neg hy]
    · cases h
  case ineg =>
    obtain ⟨h0, h⟩ := rb_ite_inv h; rw [if_pos h0]
    split at h
    · cases h; rfl
    · cases h
  case ladd => obtain ⟨h0, h⟩ := rb_ite_inv h; rw [if_pos h0]; exact ro_bl h
  case lmul => obtain ⟨h0, h⟩ := rb_ite_inv h; rw [if_pos h0]; exact ro_bl h
  case lrem =>
    obtain ⟨h0, h⟩ := rb_ite_inv h; rw [if_pos h0]
    split at h
    · split at h
      · cases h
      · rename_i hy; cases h
        simp only [ro_S, List.map_cons, ro_v, if_neg hy]
    · cases h
  case i2l =>
    obtain ⟨h0, h⟩ := rb_ite_inv h; rw [if_pos h0]
    split at h
    · cases h; rfl
    · cases h
  case l2i =>
    obtain ⟨h0, h⟩ := rb_ite_inv h; rw [if_pos h0]
    split at h
    · cases h; rfl
    · cases h
  case i2f =>
    obtain ⟨h0, h⟩ := rb_ite_inv h; rw [if_pos h0]
    split at h
    · cases h; rfl
    · cases h
  case fdiv =>
    obtain ⟨h0, h⟩ := rb_ite_inv h; rw [if_pos h0]
    split at h
    · obtain ⟨h1, h⟩ := rb_ite_inv h
      cases h
      simp only [ro_S, List.map_cons, ro_v, if_pos h1]
    · cases h
  case f2d =>
    obtain ⟨h0, h⟩ := rb_ite_inv h; rw [if_pos h0]
    split at h
    · obtain ⟨h1, h⟩ := rb_ite_inv h
      cases h
      simp only [ro_S, List.map_cons, ro_v, if_pos h1]
    · cases h
  case fcmp op =>
    obtain ⟨h0, h⟩ := rb_ite_inv h; rw [if_pos h0]
    split at h
    · cases h; rfl
    · cases h
  case dcmp op =>
    obtain ⟨h0, h⟩ := rb_ite_inv h; rw [if_pos h0]
    split at h
    · cases h; rfl
    · cases h
  case dup =>
    obtain ⟨h0, h⟩ := rb_ite_inv h; rw [if_pos h0]
    split at h
    · obtain ⟨h1, h⟩ := rb_ite_inv h
      cases h
      simp only [ro_S, List.map_cons, ro_cat, if_pos h1]
    · cases h
  case pop =>
    obtain ⟨h0, h⟩ := rb_ite_inv h; rw [if_pos h0]
    split at h
    · obtain ⟨h1, h⟩ := rb_ite_inv h
      cases h
      simp only [ro_S, List.map_cons, ro_cat, if_pos h1]
    · cases h
  case dup2 =>
    obtain ⟨h0, h⟩ := rb_ite_inv h; rw [if_pos h0]
    split at h
    · obtain ⟨h1, h⟩ := rb_ite_inv h
      cases h
      simp only [ro_S, List.map_cons, ro_cat, if_pos h1]
    · cases h
  case goto off =>
    obtain ⟨h0, h⟩ := rb_ite_inv h; rw [if_pos h0]
    split at h
    · cases h; rfl
    · cases h
  case ifCond c off =>
    obtain ⟨h0, h⟩ := rb_ite_inv h; rw [if_pos h0]
    split at h
    · exact ro_br (b := b) h
    · cases h
  case if_icmp c off =>
    obtain ⟨h0, h⟩ := rb_ite_inv h; rw [if_pos h0]
    split at h
    · exact ro_br (b := b) h
    · cases h
  case ifnull off =>
    obtain ⟨h0, h⟩ := rb_ite_inv h; rw [if_pos h0]
    split at h
    · exact ro_br (b := b) h
    · exact ro_br (b := b) h
    · cases h
  case ifnonnull off =>
    obtain ⟨h0, h⟩ := rb_ite_inv h; rw [if_pos h0]
    split at h
    · exact ro_br (b := b) h
    · exact ro_br (b := b) h
    · cases h
  case tableswitch dflt lo hi offs =>
    split at h
    · rename_i x st0
      show (if x.toInt < lo ∨ hi < x.toInt then (match rb_tg pc dflt with
        | some t => some (t, ro_L b ls, ro_S b st0)
        | none => none)
      else (match offs[(x.toInt - lo).toNat]? with
        | some off => (match rb_tg pc off with
          | some t => some (t, ro_L b ls, ro_S b st0)
          | none => none)
        | none => none)) = _
      split at h
      · rename_i hx
        rw [if_pos hx]
        split at h
        · rename_i t ht; cases h; rw [ht]
        · cases h
      · rename_i hx
        rw [if_neg hx]
        split at h
        · rename_i of ho
          split at h
          · rename_i t ht; cases h; rw [ho]; dsimp only; rw [ht]
          · cases h
        · cases h
    · cases h
  case lookupswitch dflt ps =>
    split at h
    · rename_i x st0
      obtain ⟨h1, h⟩ := rb_ite_inv h
      show (if (ps.toList.zip (ps.toList.drop 1)).all (fun (a, next) => a.1 < next.1) = true then (match rb_tg pc (Op.lookupswitch.offset ps.toList dflt x.toInt) with
        | some t => some (t, ro_L b ls, ro_S b st0)
        | none => none) else none) = _
      rw [if_pos h1]
      split at h
      · rename_i t ht; cases h; rw [ht]
      · cases h
    · cases h
end RO
