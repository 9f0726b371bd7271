/-! RULES: what a point of the code comes to, said as equivalences -/
def rb_G (sc : Option (List Int32)) (k pc : Nat) (ls : rb_L) (st : List Value) (M : rb_M) (P : Option Value → rb_M → Prop) : Prop := ∃ (n : Nat) (r : Option Value) (M' : rb_M), rb_ex n sc k pc ls st M = some (r, M') ∧ P r M'
theorem rb_fuel1 : ∀ (n : Nat) (sc : Option (List Int32)) (k pc : Nat) (ls : rb_L) (st : List Value) (M : rb_M) (x : Option Value × rb_M), rb_ex n sc k pc ls st M = some x → rb_ex (n + 1) sc k pc ls st M = some x
  | 0, _, _, _, _, _, _, _, h => by cases h
  | n + 1, sc, k, pc, ls, st, M, x, h => by
    unfold rb_ex at h ⊢
    split at h
    · cases h
    · rename_i i len hdec
      split at h
      · split at h
        · exact rb_fuel1 n _ _ _ _ _ _ _ h
        · cases h
      · split at h
        · replace h := rb_ite_inv h; obtain ⟨h1, h⟩ := h
          simp only [if_pos h1]
          exact rb_fuel1 n _ _ _ _ _ _ _ h
        · cases h
      · split at h
        · replace h := rb_ite_inv h; obtain ⟨h1, h⟩ := h
          simp only [if_pos h1]
          split at h
          · rename_i r M1 hc
            replace h := rb_ite_inv h; obtain ⟨h2, h⟩ := h
            rw [rb_fuel1 n _ _ _ _ _ _ _ hc]
            simp only [if_pos h2]
            exact rb_fuel1 n _ _ _ _ _ _ _ h
          · cases h
        · cases h
      · exact h
theorem rb_fuel {n m : Nat} {sc : Option (List Int32)} {k pc : Nat} {ls : rb_L} {st : List Value} {M : rb_M} {x : Option Value × rb_M} (h : rb_ex n sc k pc ls st M = some x) (hm : n ≤ m) : rb_ex m sc k pc ls st M = some x := by
  induction m with
  | zero => cases (by omega : n = 0); exact h
  | succ m ih =>
    by_cases hq : n = m + 1
    · subst hq; exact h
    · exact rb_fuel1 _ _ _ _ _ _ _ _ (ih (by omega))
section RBG
variable {sc : Option (List Int32)} {k pc : Nat} {ls : rb_L} {st : List Value} {M : rb_M} {P : Option Value → rb_M → Prop} {i : Instr} {len : Nat}
theorem rb_dec_of (hd : decode (rb_by k) pc = .ok (i, len)) : rb_dec k pc = some (i, len) := by unfold rb_dec; rw [hd]
theorem rb_G_pure {pc' : Nat} {ls' : rb_L} {st' : List Value} (hd : decode (rb_by k) pc = .ok (i, len)) (hk : rb_ki k i = 0) (hp : rb_pure k pc i len ls st = some (pc', ls', st')) : rb_G sc k pc ls st M P ↔ rb_G sc k pc' ls' st' M P := by
  have e : ∀ n, rb_ex (n + 1) sc k pc ls st M = rb_ex n sc k pc' ls' st' M := by
    intro n
    conv => lhs; unfold rb_ex
    simp only [rb_dec_of hd, hk, hp]
  constructor
  · rintro ⟨n, r, M', h, hP⟩
    cases n with
    | zero => cases h
    | succ n => exact ⟨n, r, M', by rw [← e]; exact h, hP⟩
  · rintro ⟨n, r, M', h, hP⟩
    exact ⟨n + 1, r, M', by rw [e]; exact h, hP⟩
theorem rb_G_mem {st' : List Value} {M1 : rb_M} (hd : decode (rb_by k) pc = .ok (i, len)) (hk : rb_ki k i = 1) (hm : rb_mem k i len sc ls st M = some (st', M1)) (hl : M1.length = M.length ∨ rb_al k = true) : rb_G sc k pc ls st M P ↔ rb_G sc k (pc + len) ls st' M1 P := by
  have e : ∀ n, rb_ex (n + 1) sc k pc ls st M = rb_ex n sc k (pc + len) ls st' M1 := by
    intro n
    conv => lhs; unfold rb_ex
    simp only [rb_dec_of hd, hk, hm, if_pos hl]
  constructor
  · rintro ⟨n, r, M', h, hP⟩
    cases n with
    | zero => cases h
    | succ n => exact ⟨n, r, M', by rw [← e]; exact h, hP⟩
  · rintro ⟨n, r, M', h, hP⟩
    exact ⟨n + 1, r, M', by rw [e]; exact h, hP⟩
theorem rb_G_ret {r : Option Value} (hd : decode (rb_by k) pc = .ok (i, len)) (hk : rb_ki k i = 3) (hr : rb_ret k i len st = some r) : rb_G sc k pc ls st M P ↔ P r M := by
  have e : ∀ n, rb_ex (n + 1) sc k pc ls st M = some (r, M) := by
    intro n
    conv => lhs; unfold rb_ex
    simp only [rb_dec_of hd, hk, hr]
  constructor
  · rintro ⟨n, r1, M', h, hP⟩
    cases n with
    | zero => cases h
    | succ n => rw [e] at h; cases h; exact hP
  · intro h
    exact ⟨1, r, M, e 0, h⟩
theorem rb_G_call {k' : Nat} {as rest : List Value} (hd : decode (rb_by k) pc = .ok (i, len)) (hk : rb_ki k i = 2) (hc : rb_call k i len st M = some (k', as, rest)) (ha : as.length ≤ rb_ml k' ∧ as.all (fun v => v.category == 1) = true) (hal : rb_al k' = false) : rb_G sc k pc ls st M P ↔ rb_G sc k' 0 (rb_ent k' as) [] M (fun r1 M1 => rb_G sc k (pc + 3) ls (r1.toList ++ rest) M1 P) := by
  have hck : ∀ b, rb_ck k k' ls rest M.length b = true := by intro b; unfold rb_ck; rw [hal]; rfl
  have e : ∀ n, rb_ex (n + 1) sc k pc ls st M = (match rb_ex n sc k' 0 (rb_ent k' as) [] M with
      | some (r, M1) => rb_ex n sc k (pc + 3) ls (r.toList ++ rest) M1
      | none => none) := by
    intro n
    conv => lhs; unfold rb_ex
    simp only [rb_dec_of hd, hk, hc, if_pos ha]
    cases rb_ex n sc k' 0 (rb_ent k' as) [] M with
    | none => rfl
    | some x => simp only [if_pos (hck _)]
  constructor
  · rintro ⟨n, r, M', h, hP⟩
    cases n with
    | zero => cases h
    | succ n =>
      rw [e] at h
      split at h
      · rename_i r1 M1 h1
        exact ⟨n, r1, M1, h1, n, r, M', h, hP⟩
      · cases h
  · rintro ⟨n1, r1, M1, h1, n2, r, M', h2, hP⟩
    refine ⟨max n1 n2 + 1, r, M', ?_, hP⟩
    rw [e, rb_fuel h1 (Nat.le_max_left n1 n2)]
    exact rb_fuel h2 (Nat.le_max_right n1 n2)
theorem rb_G_mono {P' : Option Value → rb_M → Prop} (h : rb_G sc k pc ls st M P) (hP : ∀ r M', P r M' → P' r M') : rb_G sc k pc ls st M P' := by
  obtain ⟨n, r, M', h1, h2⟩ := h
  exact ⟨n, r, M', h1, hP r M' h2⟩
theorem rb_G_ite {c : Prop} [Decidable c] {a b : Nat} : rb_G sc k (if c then a else b) ls st M P ↔ if c then rb_G sc k a ls st M P else rb_G sc k b ls st M P := by split <;> exact Iff.rfl
theorem g_iconst {n : Int} {v : Int32} (hd : decode (rb_by k) pc = .ok (.iconst n, 1)) (hv : Int32.ofInt n = v) : rb_G sc k pc ls st M P ↔ rb_G sc k (pc + 1) ls (.int v :: st) M P := by subst hv; exact rb_G_pure hd rfl (by simp [rb_pure])
theorem g_bipush {n : Int} {v : Int32} (hd : decode (rb_by k) pc = .ok (.bipush n, 2)) (hv : (Int8.ofInt n).toInt32 = v) : rb_G sc k pc ls st M P ↔ rb_G sc k (pc + 2) ls (.int v :: st) M P := by subst hv; exact rb_G_pure hd rfl (by simp [rb_pure])
theorem g_sipush {n : Int} {v : Int32} (hd : decode (rb_by k) pc = .ok (.sipush n, 3)) (hv : (Int16.ofInt n).toInt32 = v) : rb_G sc k pc ls st M P ↔ rb_G sc k (pc + 3) ls (.int v :: st) M P := by subst hv; exact rb_G_pure hd rfl (by simp [rb_pure])
theorem g_null (hd : decode (rb_by k) pc = .ok (.aconst_null, 1)) : rb_G sc k pc ls st M P ↔ rb_G sc k (pc + 1) ls (.null :: st) M P := rb_G_pure hd rfl (by simp [rb_pure])
theorem g_fconst (hd : decode (rb_by k) pc = .ok (.fconst 0, 1)) : rb_G sc k pc ls st M P ↔ rb_G sc k (pc + 1) ls (.float 0 :: st) M P := rb_G_pure hd rfl (by simp [rb_pure])
theorem g_ldc {ix : Nat} {v : Int32} (hd : decode (rb_by k) pc = .ok (.ldc ix, 2)) (hf : rb_find rb_kl (rb_ow k) ix = some (.int v)) : rb_G sc k pc ls st M P ↔ rb_G sc k (pc + 2) ls (.int v :: st) M P := rb_G_pure hd rfl (by simp [rb_pure, hf])
theorem g_ldc_w {ix : Nat} {v : Int32} (hd : decode (rb_by k) pc = .ok (.ldc_w ix, 3)) (hf : rb_find rb_kl (rb_ow k) ix = some (.int v)) : rb_G sc k pc ls st M P ↔ rb_G sc k (pc + 3) ls (.int v :: st) M P := rb_G_pure hd rfl (by simp [rb_pure, hf])
theorem g_ldc2_w {ix : Nat} {v : Int64} (hd : decode (rb_by k) pc = .ok (.ldc2_w ix, 3)) (hf : rb_find rb_kl (rb_ow k) ix = some (.long v)) : rb_G sc k pc ls st M P ↔ rb_G sc k (pc + 3) ls (.long v :: st) M P := rb_G_pure hd rfl (by simp [rb_pure, hf])
theorem g_iload_n {j : Fin 4} {x : Int32} (hd : decode (rb_by k) pc = .ok (.iload_n j, 1)) (hl : ls[(j : Nat)]? = some (some (.int x))) : rb_G sc k pc ls st M P ↔ rb_G sc k (pc + 1) ls (.int x :: st) M P := rb_G_pure hd rfl (by simp [rb_pure, rb_ldi, hl])
theorem g_iload {j : Nat} {x : Int32} (hd : decode (rb_by k) pc = .ok (.iload j, 2)) (hl : ls[j]? = some (some (.int x))) : rb_G sc k pc ls st M P ↔ rb_G sc k (pc + 2) ls (.int x :: st) M P := rb_G_pure hd rfl (by simp [rb_pure, rb_ldi, hl])
theorem g_aload_n {j : Fin 4} {x : Nat} (hd : decode (rb_by k) pc = .ok (.aload_n j, 1)) (hl : ls[(j : Nat)]? = some (some (.ref x))) : rb_G sc k pc ls st M P ↔ rb_G sc k (pc + 1) ls (.ref x :: st) M P := rb_G_pure hd rfl (by simp [rb_pure, rb_lda, hl])
theorem g_aload_nN {j : Fin 4} (hd : decode (rb_by k) pc = .ok (.aload_n j, 1)) (hl : ls[(j : Nat)]? = some (some (.null))) : rb_G sc k pc ls st M P ↔ rb_G sc k (pc + 1) ls (.null :: st) M P := rb_G_pure hd rfl (by simp [rb_pure, rb_lda, hl])
theorem g_lload_n {j : Fin 4} {x : Int64} (hd : decode (rb_by k) pc = .ok (.lload_n j, 1)) (hl : ls[(j : Nat)]? = some (some (.long x))) : rb_G sc k pc ls st M P ↔ rb_G sc k (pc + 1) ls (.long x :: st) M P := rb_G_pure hd rfl (by simp [rb_pure, rb_ldl, hl])
theorem g_dload {j : Nat} {x : UInt64} (hd : decode (rb_by k) pc = .ok (.dload j, 2)) (hl : ls[j]? = some (some (.double x))) : rb_G sc k pc ls st M P ↔ rb_G sc k (pc + 2) ls (.double x :: st) M P := rb_G_pure hd rfl (by simp [rb_pure, rb_ldd, hl])
theorem g_istore_n {j : Fin 4} {x : Int32} {ls' : rb_L} (hd : decode (rb_by k) pc = .ok (.istore_n j, 1)) (hs : rb_sto k j = true) (hj : (j : Nat) < ls.length) (he : ls.set j (some (.int x)) = ls') : rb_G sc k pc ls (.int x :: st) M P ↔ rb_G sc k (pc + 1) ls' st M P := by subst he; exact rb_G_pure hd rfl (by simp [rb_pure, rb_sti, hs, hj])
theorem g_istore {j : Nat} {x : Int32} {ls' : rb_L} (hd : decode (rb_by k) pc = .ok (.istore j, 2)) (hs : rb_sto k j = true) (hj : j < ls.length) (he : ls.set j (some (.int x)) = ls') : rb_G sc k pc ls (.int x :: st) M P ↔ rb_G sc k (pc + 2) ls' st M P := by subst he; exact rb_G_pure hd rfl (by simp [rb_pure, rb_sti, hs, hj])
theorem g_astore_n {j : Fin 4} {x : Nat} {ls' : rb_L} (hd : decode (rb_by k) pc = .ok (.astore_n j, 1)) (hs : rb_sto k j = true) (hj : (j : Nat) < ls.length) (he : ls.set j (some (.ref x)) = ls') : rb_G sc k pc ls (.ref x :: st) M P ↔ rb_G sc k (pc + 1) ls' st M P := by subst he; exact rb_G_pure hd rfl (by simp [rb_pure, rb_sta, hs, hj])
theorem g_astore_nN {j : Fin 4} {ls' : rb_L} (hd : decode (rb_by k) pc = .ok (.astore_n j, 1)) (hs : rb_sto k j = true) (hj : (j : Nat) < ls.length) (he : ls.set j (some (.null)) = ls') : rb_G sc k pc ls (.null :: st) M P ↔ rb_G sc k (pc + 1) ls' st M P := by subst he; exact rb_G_pure hd rfl (by simp [rb_pure, rb_sta, hs, hj])
theorem g_lstore_n {j : Fin 4} {x : Int64} {ls' : rb_L} (hd : decode (rb_by k) pc = .ok (.lstore_n j, 1)) (hs : rb_sto k j = true) (hs2 : rb_std k j = true) (hj : (j : Nat) + 1 < ls.length) (he : (ls.set j (some (.long x))).set ((j : Nat) + 1) none = ls') : rb_G sc k pc ls (.long x :: st) M P ↔ rb_G sc k (pc + 1) ls' st M P := by subst he; exact rb_G_pure hd rfl (by simp [rb_pure, rb_st2, hs, hs2, hj])
theorem g_dstore {j : Nat} {x : UInt64} {ls' : rb_L} (hd : decode (rb_by k) pc = .ok (.dstore j, 2)) (hs : rb_sto k j = true) (hs2 : rb_std k j = true) (hj : j + 1 < ls.length) (he : (ls.set j (some (.double x))).set (j + 1) none = ls') : rb_G sc k pc ls (.double x :: st) M P ↔ rb_G sc k (pc + 2) ls' st M P := by subst he; exact rb_G_pure hd rfl (by simp [rb_pure, rb_st2, hs, hs2, hj])
theorem g_iinc {j : Nat} {n : Int} {x v : Int32} {ls' : rb_L} (hd : decode (rb_by k) pc = .ok (.iinc j n, 3)) (hs : rb_sto k j = true) (hl : ls[j]? = some (some (.int x))) (hv : Int32.ofInt n = v) (he : ls.set j (some (.int (x + v))) = ls') : rb_G sc k pc ls st M P ↔ rb_G sc k (pc + 3) ls' st M P := by subst he; subst hv; exact rb_G_pure hd rfl (by simp [rb_pure, hs, hl])
theorem g_iincW {j : Nat} {n : Int} {x v : Int32} {ls' : rb_L} (hd : decode (rb_by k) pc = .ok (.iinc j n, 6)) (hs : rb_sto k j = true) (hl : ls[j]? = some (some (.int x))) (hv : Int32.ofInt n = v) (he : ls.set j (some (.int (x + v))) = ls') : rb_G sc k pc ls st M P ↔ rb_G sc k (pc + 6) ls' st M P := by subst he; subst hv; exact rb_G_pure hd rfl (by simp [rb_pure, hs, hl])
theorem g_iadd {x y : Int32} (hd : decode (rb_by k) pc = .ok (.iadd, 1)) : rb_G sc k pc ls (.int y :: .int x :: st) M P ↔ rb_G sc k (pc + 1) ls (.int (x + y) :: st) M P := rb_G_pure hd rfl (by simp [rb_pure, rb_b2])
theorem g_isub {x y : Int32} (hd : decode (rb_by k) pc = .ok (.isub, 1)) : rb_G sc k pc ls (.int y :: .int x :: st) M P ↔ rb_G sc k (pc + 1) ls (.int (x - y) :: st) M P := rb_G_pure hd rfl (by simp [rb_pure, rb_b2])
theorem g_imul {x y : Int32} (hd : decode (rb_by k) pc = .ok (.imul, 1)) : rb_G sc k pc ls (.int y :: .int x :: st) M P ↔ rb_G sc k (pc + 1) ls (.int (x * y) :: st) M P := rb_G_pure hd rfl (by simp [rb_pure, rb_b2])
theorem g_iand {x y : Int32} (hd : decode (rb_by k) pc = .ok (.iand, 1)) : rb_G sc k pc ls (.int y :: .int x :: st) M P ↔ rb_G sc k (pc + 1) ls (.int (x &&& y) :: st) M P := rb_G_pure hd rfl (by simp [rb_pure, rb_b2])
theorem g_ior {x y : Int32} (hd : decode (rb_by k) pc = .ok (.ior, 1)) : rb_G sc k pc ls (.int y :: .int x :: st) M P ↔ rb_G sc k (pc + 1) ls (.int (x ||| y) :: st) M P := rb_G_pure hd rfl (by simp [rb_pure, rb_b2])
theorem g_ixor {x y : Int32} (hd : decode (rb_by k) pc = .ok (.ixor, 1)) : rb_G sc k pc ls (.int y :: .int x :: st) M P ↔ rb_G sc k (pc + 1) ls (.int (x ^^^ y) :: st) M P := rb_G_pure hd rfl (by simp [rb_pure, rb_b2])
theorem g_ishl {x y : Int32} (hd : decode (rb_by k) pc = .ok (.ishl, 1)) : rb_G sc k pc ls (.int y :: .int x :: st) M P ↔ rb_G sc k (pc + 1) ls (.int (x <<< (y &&& 31)) :: st) M P := rb_G_pure hd rfl (by simp [rb_pure, rb_b2])
theorem g_ishr {x y : Int32} (hd : decode (rb_by k) pc = .ok (.ishr, 1)) : rb_G sc k pc ls (.int y :: .int x :: st) M P ↔ rb_G sc k (pc + 1) ls (.int (x >>> (y &&& 31)) :: st) M P := rb_G_pure hd rfl (by simp [rb_pure, rb_b2])
theorem g_iushr {x y : Int32} (hd : decode (rb_by k) pc = .ok (.iushr, 1)) : rb_G sc k pc ls (.int y :: .int x :: st) M P ↔ rb_G sc k (pc + 1) ls (.int (rb_ush x y) :: st) M P := rb_G_pure hd rfl (by simp [rb_pure, rb_b2])
theorem g_idiv {x y : Int32} (hd : decode (rb_by k) pc = .ok (.idiv, 1)) (hy : ¬ y = 0) : rb_G sc k pc ls (.int y :: .int x :: st) M P ↔ rb_G sc k (pc + 1) ls (.int (x / y) :: st) M P := rb_G_pure hd rfl (by simp [rb_pure, hy])
theorem g_irem {x y : Int32} (hd : decode (rb_by k) pc = .ok (.irem, 1)) (hy : ¬ y = 0) : rb_G sc k pc ls (.int y :: .int x :: st) M P ↔ rb_G sc k (pc + 1) ls (.int (rb_rem x y) :: st) M P := rb_G_pure hd rfl (by simp [rb_pure, hy])
theorem g_ineg {x : Int32} (hd : decode (rb_by k) pc = .ok (.ineg, 1)) : rb_G sc k pc ls (.int x :: st) M P ↔ rb_G sc k (pc + 1) ls (.int (-x) :: st) M P := rb_G_pure hd rfl (by simp [rb_pure])
theorem g_ladd {x y : Int64} (hd : decode (rb_by k) pc = .ok (.ladd, 1)) : rb_G sc k pc ls (.long y :: .long x :: st) M P ↔ rb_G sc k (pc + 1) ls (.long (x + y) :: st) M P := rb_G_pure hd rfl (by simp [rb_pure, rb_bl])
theorem g_lmul {x y : Int64} (hd : decode (rb_by k) pc = .ok (.lmul, 1)) : rb_G sc k pc ls (.long y :: .long x :: st) M P ↔ rb_G sc k (pc + 1) ls (.long (x * y) :: st) M P := rb_G_pure hd rfl (by simp [rb_pure, rb_bl])
theorem g_lrem {x y : Int64} (hd : decode (rb_by k) pc = .ok (.lrem, 1)) (hy : ¬ y = 0) : rb_G sc k pc ls (.long y :: .long x :: st) M P ↔ rb_G sc k (pc + 1) ls (.long (rb_lrem x y) :: st) M P := rb_G_pure hd rfl (by simp [rb_pure, hy])
theorem g_i2l {x : Int32} (hd : decode (rb_by k) pc = .ok (.i2l, 1)) : rb_G sc k pc ls (.int x :: st) M P ↔ rb_G sc k (pc + 1) ls (.long x.toInt64 :: st) M P := rb_G_pure hd rfl (by simp [rb_pure])
theorem g_l2i {x : Int64} (hd : decode (rb_by k) pc = .ok (.l2i, 1)) : rb_G sc k pc ls (.long x :: st) M P ↔ rb_G sc k (pc + 1) ls (.int x.toInt32 :: st) M P := rb_G_pure hd rfl (by simp [rb_pure])
theorem g_i2f {x : Int32} (hd : decode (rb_by k) pc = .ok (.i2f, 1)) : rb_G sc k pc ls (.int x :: st) M P ↔ rb_G sc k (pc + 1) ls (.float (FP.i2f x) :: st) M P := rb_G_pure hd rfl (by simp [rb_pure])
theorem g_fdiv {x y : UInt32} (hd : decode (rb_by k) pc = .ok (.fdiv, 1)) (hy : FP.fdiv x y &&& 0x7fffffff ≤ 0x7f800000) : rb_G sc k pc ls (.float y :: .float x :: st) M P ↔ rb_G sc k (pc + 1) ls (.float (FP.fdiv x y) :: st) M P := rb_G_pure hd rfl (by simp only [rb_pure, if_true, if_pos hy])
theorem g_f2d {x : UInt32} (hd : decode (rb_by k) pc = .ok (.f2d, 1)) (hy : FP.f2d x &&& 0x7fffffffffffffff ≤ 0x7ff0000000000000) : rb_G sc k pc ls (.float x :: st) M P ↔ rb_G sc k (pc + 1) ls (.double (FP.f2d x) :: st) M P := rb_G_pure hd rfl (by simp only [rb_pure, if_true, if_pos hy])
theorem g_fcmp {x y : UInt32} {op : CmpOp} (hd : decode (rb_by k) pc = .ok (.fcmp op, 1)) : rb_G sc k pc ls (.float y :: .float x :: st) M P ↔ rb_G sc k (pc + 1) ls (.int (Op.cmpValue (FP.fcmp x y) op) :: st) M P := rb_G_pure hd rfl (by simp [rb_pure])
theorem g_dcmp {x y : UInt64} {op : CmpOp} (hd : decode (rb_by k) pc = .ok (.dcmp op, 1)) : rb_G sc k pc ls (.double y :: .double x :: st) M P ↔ rb_G sc k (pc + 1) ls (.int (Op.cmpValue (FP.dcmp x y) op) :: st) M P := rb_G_pure hd rfl (by simp [rb_pure])
theorem g_dup {v : Value} (hd : decode (rb_by k) pc = .ok (.dup, 1)) (hv : v.category = 1) : rb_G sc k pc ls (v :: st) M P ↔ rb_G sc k (pc + 1) ls (v :: v :: st) M P := rb_G_pure hd rfl (by simp [rb_pure, hv])
theorem g_pop {v : Value} (hd : decode (rb_by k) pc = .ok (.pop, 1)) (hv : v.category = 1) : rb_G sc k pc ls (v :: st) M P ↔ rb_G sc k (pc + 1) ls st M P := rb_G_pure hd rfl (by simp [rb_pure, hv])
theorem g_dup2 {v u : Value} (hd : decode (rb_by k) pc = .ok (.dup2, 1)) (hv : v.category = 1) (hu : u.category = 1) : rb_G sc k pc ls (v :: u :: st) M P ↔ rb_G sc k (pc + 1) ls (v :: u :: v :: u :: st) M P := rb_G_pure hd rfl (by simp [rb_pure, hv, hu])
theorem g_goto {off : Int} {t : Nat} (hd : decode (rb_by k) pc = .ok (.goto off, 3)) (ht : rb_tg pc off = some t) : rb_G sc k pc ls st M P ↔ rb_G sc k t ls st M P := rb_G_pure hd rfl (by simp [rb_pure, ht])
theorem g_if {c : ClassFile.Cond} {off : Int} {t : Nat} {x : Int32} (hd : decode (rb_by k) pc = .ok (.ifCond c off, 3)) (ht : rb_tg pc off = some t) : rb_G sc k pc ls (.int x :: st) M P ↔ if rb_c1 c x = true then rb_G sc k t ls st M P else rb_G sc k (pc + 3) ls st M P := by
  rw [← rb_G_ite]; exact rb_G_pure hd rfl (by simp [rb_pure, rb_br, ht])
theorem g_if2 {c : ClassFile.Cond} {off : Int} {t : Nat} {x y : Int32} (hd : decode (rb_by k) pc = .ok (.if_icmp c off, 3)) (ht : rb_tg pc off = some t) : rb_G sc k pc ls (.int y :: .int x :: st) M P ↔ if rb_c2 c x y = true then rb_G sc k t ls st M P else rb_G sc k (pc + 3) ls st M P := by
  rw [← rb_G_ite]; exact rb_G_pure hd rfl (by simp [rb_pure, rb_br, ht])
theorem g_ifz {c : ClassFile.Cond} {off : Int} {t : Nat} {x : Int32} {p : Prop} [Decidable p] (hd : decode (rb_by k) pc = .ok (.ifCond c off, 3)) (ht : rb_tg pc off = some t) (hp : rb_c1 c x = decide p) : rb_G sc k pc ls (.int x :: st) M P ↔ if p then rb_G sc k t ls st M P else rb_G sc k (pc + 3) ls st M P := by
  rw [g_if hd ht, hp]; simp only [decide_eq_true_eq]
theorem g_ifc {c : ClassFile.Cond} {off : Int} {t : Nat} {x y : Int32} {p : Prop} [Decidable p] (hd : decode (rb_by k) pc = .ok (.if_icmp c off, 3)) (ht : rb_tg pc off = some t) (hp : rb_c2 c x y = decide p) : rb_G sc k pc ls (.int y :: .int x :: st) M P ↔ if p then rb_G sc k t ls st M P else rb_G sc k (pc + 3) ls st M P := by
  rw [g_if2 hd ht, hp]; simp only [decide_eq_true_eq]
theorem g_ifnullN {off : Int} {t : Nat} (hd : decode (rb_by k) pc = .ok (.ifnull off, 3)) (ht : rb_tg pc off = some t) : rb_G sc k pc ls (.null :: st) M P ↔ rb_G sc k t ls st M P := rb_G_pure hd rfl (by simp [rb_pure, rb_br, ht])
theorem g_ifnullR {off : Int} {t a : Nat} (hd : decode (rb_by k) pc = .ok (.ifnull off, 3)) (ht : rb_tg pc off = some t) : rb_G sc k pc ls (.ref a :: st) M P ↔ rb_G sc k (pc + 3) ls st M P := rb_G_pure hd rfl (by simp [rb_pure, rb_br, ht])
theorem g_ifnonnullN {off : Int} {t : Nat} (hd : decode (rb_by k) pc = .ok (.ifnonnull off, 3)) (ht : rb_tg pc off = some t) : rb_G sc k pc ls (.null :: st) M P ↔ rb_G sc k (pc + 3) ls st M P := rb_G_pure hd rfl (by simp [rb_pure, rb_br, ht])
theorem g_ifnonnullR {off : Int} {t a : Nat} (hd : decode (rb_by k) pc = .ok (.ifnonnull off, 3)) (ht : rb_tg pc off = some t) : rb_G sc k pc ls (.ref a :: st) M P ↔ rb_G sc k t ls st M P := rb_G_pure hd rfl (by simp [rb_pure, rb_br, ht])
theorem g_tableOut {dflt lo hi : Int} {offs : Array Int} {len t : Nat} {x : Int32} (hd : decode (rb_by k) pc = .ok (.tableswitch dflt lo hi offs, len)) (hx : x.toInt < lo ∨ hi < x.toInt) (ht : rb_tg pc dflt = some t) : rb_G sc k pc ls (.int x :: st) M P ↔ rb_G sc k t ls st M P := rb_G_pure hd rfl (by simp only [rb_pure, if_pos hx, ht])
theorem g_tableIn {dflt lo hi off : Int} {offs : Array Int} {len t : Nat} {x : Int32} (hd : decode (rb_by k) pc = .ok (.tableswitch dflt lo hi offs, len)) (hx : ¬ (x.toInt < lo ∨ hi < x.toInt)) (ho : offs[(x.toInt - lo).toNat]? = some off) (ht : rb_tg pc off = some t) : rb_G sc k pc ls (.int x :: st) M P ↔ rb_G sc k t ls st M P := rb_G_pure hd rfl (by simp only [rb_pure, if_neg hx, ho, ht])
theorem g_lookup {dflt : Int} {ps : Array (Int × Int)} {len t : Nat} {x : Int32} (hd : decode (rb_by k) pc = .ok (.lookupswitch dflt ps, len)) (hx : (ps.toList.zip (ps.toList.drop 1)).all (fun (a, next) => a.1 < next.1) = true) (ht : rb_tg pc (Op.lookupswitch.offset ps.toList dflt x.toInt) = some t) : rb_G sc k pc ls (.int x :: st) M P ↔ rb_G sc k t ls st M P := rb_G_pure hd rfl (by simp only [rb_pure, if_pos hx, ht])
theorem g_iret {v : Int32} {ty : FieldType} (hd : decode (rb_by k) pc = .ok (.ireturn, 1)) (hr : rb_rt k = some ty) (hv : rb_okv ty (.int v) = true) : rb_G sc k pc ls [.int v] M P ↔ P (some (.int v)) M := rb_G_ret hd rfl (by simp only [rb_ret, if_true, hr, hv])
theorem g_aret {v : Value} {C : String} (hd : decode (rb_by k) pc = .ok (.areturn, 1)) (hr : rb_rt k = some (.object C)) (hv : rb_okv (.object C) v = true) : rb_G sc k pc ls [v] M P ↔ P (some v) M := rb_G_ret hd rfl (by simp only [rb_ret, if_true, hr, hv])
theorem g_fret {v : UInt32} (hd : decode (rb_by k) pc = .ok (.freturn, 1)) (hr : rb_rt k = some .float) : rb_G sc k pc ls [.float v] M P ↔ P (some (.float v)) M := rb_G_ret hd rfl (by simp only [rb_ret, if_true, hr])
theorem g_vret (hd : decode (rb_by k) pc = .ok (.return_, 1)) (hr : rb_rt k = none) : rb_G sc k pc ls [] M P ↔ P none M := rb_G_ret hd rfl (by simp only [rb_ret, if_true, hr])
end RBG
