/-! A SMALL INTERPRETER: the bytecode run over a list of cells; a reference is a place in the list -/
abbrev rb_O : Type := (Nat × List Value) ⊕ (List Int32 ⊕ List (Option Nat))
abbrev rb_M : Type := List rb_O
abbrev rb_L : Type := List (Option Value)
def rb_scr : Nat := 1000000
def rb_find {α : Type} : List ((Nat × Nat) × α) → Nat → Nat → Option α
  | [], _, _ => none
  | e :: r, a, b => if e.1.1 == a && e.1.2 == b then some e.2 else rb_find r a b
def rb_t0 : rb_T := (⟨"", "", ""⟩, ⟨#[]⟩, 0, none, 0, 0, 0, false, false)
def rb_m (k : Nat) : rb_T := rb_mt.getD k rb_t0
def rb_y (k : Nat) : MethodName := (rb_m k).1
def rb_by (k : Nat) : ByteArray := (rb_m k).2.1
def rb_ml (k : Nat) : Nat := (rb_m k).2.2.1
def rb_rt (k : Nat) : Option FieldType := (rb_m k).2.2.2.1
def rb_ow (k : Nat) : Nat := (rb_m k).2.2.2.2.1
def rb_na (k : Nat) : Nat := (rb_m k).2.2.2.2.2.1
def rb_h (k : Nat) : Nat := (rb_m k).2.2.2.2.2.2.1
def rb_al (k : Nat) : Bool := (rb_m k).2.2.2.2.2.2.2.1
def rb_in (k : Nat) : Bool := (rb_m k).2.2.2.2.2.2.2.2
/-- the types, the finals and the first values of a table's fields -/
def rb_ty (ci sl : Nat) : FieldType := match ci with
  | 0 => tyX0 sl
  | 1 => tyX1 sl
  | 2 => tyX2 sl
  | 3 => tyX3 sl
  | _ => tyX4 sl
def rb_fn (ci sl : Nat) : Bool := match ci with
  | 0 => (TX0 sl).2.2.2
  | 1 => (TX1 sl).2.2.2
  | 2 => (TX2 sl).2.2.2
  | 3 => (TX3 sl).2.2.2
  | _ => (TX4 sl).2.2.2
def rb_df (ci : Nat) : List Value := match ci with
  | 0 => (List.range 3).map fun k => defaultValue (tyX0 k)
  | 1 => (List.range 2).map fun k => defaultValue (tyX1 k)
  | 2 => (List.range 1).map fun k => defaultValue (tyX2 k)
  | 3 => (List.range 19).map fun k => defaultValue (tyX3 k)
  | _ => (List.range 5).map fun k => defaultValue (tyX4 k)
def rb_okv : FieldType → Value → Bool
  | .int, .int _ => true
  | .boolean, .int v => v == 0 || v == 1
  | .object _, .ref _ => true
  | .object _, .null => true
  | .array _, .ref _ => true
  | .array _, .null => true
  | .float, .float _ => true
  | _, _ => false
def rb_inb (j : Int32) (n : Nat) : Bool := !(decide (j < 0) || decide (n ≤ j.toNatClampNeg))
def rb_rf : Option Nat → Value
  | none => .null
  | some a => .ref a
/-- no value is the reference i -/
def rb_nr (i : Nat) (v : Value) : Bool := match v with
  | .ref a => a != i
  | _ => true
def rb_no (i : Nat) (o : rb_O) : Bool := match o with
  | .inl (_, fs) => fs.all (rb_nr i)
  | .inr (.inl _) => true
  | .inr (.inr rs) => rs.all (fun r => rb_nr i (rb_rf r))
def rb_nl (i : Nat) (r : Option Value) : Bool := match r with
  | some v => rb_nr i v
  | none => true
def rb_fresh (i : Nat) (ls : rb_L) (st : List Value) (M : rb_M) : Bool := ls.all (rb_nl i) && (st.all (rb_nr i) && M.all (rb_no i))
/-- no value is a reference from a up to b -/
def rb_out (a b : Nat) (v : Value) : Bool := match v with
  | .ref i => decide (i < a) || decide (b ≤ i)
  | _ => true
def rb_outl (a b : Nat) (r : Option Value) : Bool := match r with
  | some v => rb_out a b v
  | none => true
def rb_sz : rb_O → Nat
  | .inl (_, fs) => fs.length
  | .inr (.inl xs) => xs.length
  | .inr (.inr rs) => rs.length
def rb_sl (M : rb_M) : Nat := (M.map rb_sz).sum
/-- a slot that may be stored to: it isn't the second half of one of two words -/
def rb_sto (k i : Nat) : Bool := !(rb_dd.any fun e => e.1 == k && e.2 + 1 == i)
def rb_std (k i : Nat) : Bool := rb_dd.any fun e => e.1 == k && e.2 == i
def rb_tg (pc : Nat) (off : Int) : Option Nat := if 0 ≤ (pc : Int) + off then some ((pc : Int) + off).toNat else none
def rb_br (pc : Nat) (off : Int) (ls : rb_L) (st : List Value) (c : Bool) : Option (Nat × rb_L × List Value) := match rb_tg pc off with
  | some t => some (if c = true then t else pc + 3, ls, st)
  | none => none
def rb_c1 (c : ClassFile.Cond) (x : Int32) : Bool := match c with
  | .eq => decide (x = 0)
  | .ne => decide (¬ x = 0)
  | .lt => decide (x < 0)
  | .ge => decide (0 ≤ x)
  | .gt => decide (0 < x)
  | .le => decide (x ≤ 0)
def rb_c2 (c : ClassFile.Cond) (x y : Int32) : Bool := match c with
  | .eq => decide (x = y)
  | .ne => decide (¬ x = y)
  | .lt => decide (x < y)
  | .ge => decide (y ≤ x)
  | .gt => decide (y < x)
  | .le => decide (x ≤ y)
def rb_rem (x y : Int32) : Int32 := x - x / y * y
def rb_lrem (x y : Int64) : Int64 := x - x / y * y
def rb_ush (x y : Int32) : Int32 := (x.toUInt32 >>> (y.toUInt32 &&& Int32.toUInt32 31)).toInt32
def rb_b2 (pc : Nat) (ls : rb_L) (f : Int32 → Int32 → Int32) (st : List Value) : Option (Nat × rb_L × List Value) := match st with
  | .int y :: .int x :: st => some (pc + 1, ls, .int (f x y) :: st)
  | _ => none
def rb_bl (pc : Nat) (ls : rb_L) (f : Int64 → Int64 → Int64) (st : List Value) : Option (Nat × rb_L × List Value) := match st with
  | .long y :: .long x :: st => some (pc + 1, ls, .long (f x y) :: st)
  | _ => none
def rb_ldi (pc : Nat) (ls : rb_L) (i : Nat) (st : List Value) : Option (Nat × rb_L × List Value) := match ls[i]? with
  | some (some (.int x)) => some (pc, ls, .int x :: st)
  | _ => none
def rb_lda (pc : Nat) (ls : rb_L) (i : Nat) (st : List Value) : Option (Nat × rb_L × List Value) := match ls[i]? with
  | some (some (.ref x)) => some (pc, ls, .ref x :: st)
  | some (some .null) => some (pc, ls, .null :: st)
  | _ => none
def rb_ldl (pc : Nat) (ls : rb_L) (i : Nat) (st : List Value) : Option (Nat × rb_L × List Value) := match ls[i]? with
  | some (some (.long x)) => some (pc, ls, .long x :: st)
  | _ => none
def rb_ldd (pc : Nat) (ls : rb_L) (i : Nat) (st : List Value) : Option (Nat × rb_L × List Value) := match ls[i]? with
  | some (some (.double x)) => some (pc, ls, .double x :: st)
  | _ => none
def rb_sti (k pc : Nat) (ls : rb_L) (i : Nat) (st : List Value) : Option (Nat × rb_L × List Value) := match st with
  | .int x :: st => if rb_sto k i = true ∧ i < ls.length then some (pc, ls.set i (some (.int x)), st) else none
  | _ => none
def rb_sta (k pc : Nat) (ls : rb_L) (i : Nat) (st : List Value) : Option (Nat × rb_L × List Value) := match st with
  | .ref x :: st => if rb_sto k i = true ∧ i < ls.length then some (pc, ls.set i (some (.ref x)), st) else none
  | .null :: st => if rb_sto k i = true ∧ i < ls.length then some (pc, ls.set i (some .null), st) else none
  | _ => none
def rb_st2 (k pc : Nat) (ls : rb_L) (i : Nat) (st : List Value) : Option (Nat × rb_L × List Value) := match st with
  | .long x :: st => if rb_sto k i = true ∧ rb_std k i = true ∧ i + 1 < ls.length then some (pc, (ls.set i (some (.long x))).set (i + 1) none, st) else none
  | .double x :: st => if rb_sto k i = true ∧ rb_std k i = true ∧ i + 1 < ls.length then some (pc, (ls.set i (some (.double x))).set (i + 1) none, st) else none
  | _ => none
def rb_pure (k pc : Nat) (i : Instr) (len : Nat) (ls : rb_L) (st : List Value) : Option (Nat × rb_L × List Value) := match i with
  | .iconst n => if len = 1 then some (pc + 1, ls, .int (Int32.ofInt n) :: st) else none
  | .bipush n => if len = 2 then some (pc + 2, ls, .int (Int8.ofInt n).toInt32 :: st) else none
  | .sipush n => if len = 3 then some (pc + 3, ls, .int (Int16.ofInt n).toInt32 :: st) else none
  | .fconst n => if len = 1 ∧ n = 0 then some (pc + 1, ls, .float 0 :: st) else none
  | .aconst_null => if len = 1 then some (pc + 1, ls, .null :: st) else none
  | .ldc ix => if len = 2 then (match rb_find rb_kl (rb_ow k) ix with
    | some (.int v) => some (pc + 2, ls, .int v :: st)
    | _ => none) else none
  | .ldc_w ix => if len = 3 then (match rb_find rb_kl (rb_ow k) ix with
    | some (.int v) => some (pc + 3, ls, .int v :: st)
    | _ => none) else none
  | .ldc2_w ix => if len = 3 then (match rb_find rb_kl (rb_ow k) ix with
    | some (.long v) => some (pc + 3, ls, .long v :: st)
    | _ => none) else none
  | .iload_n j => if len = 1 then rb_ldi (pc + 1) ls j st else none
  | .iload j => if len = 2 then rb_ldi (pc + 2) ls j st else none
  | .aload_n j => if len = 1 then rb_lda (pc + 1) ls j st else none
  | .aload j => if len = 2 then rb_lda (pc + 2) ls j st else none
  | .lload_n j => if len = 1 then rb_ldl (pc + 1) ls j st else none
  | .dload j => if len = 2 then rb_ldd (pc + 2) ls j st else none
  | .istore_n j => if len = 1 then rb_sti k (pc + 1) ls j st else none
  | .istore j => if len = 2 then rb_sti k (pc + 2) ls j st else none
  | .astore_n j => if len = 1 then rb_sta k (pc + 1) ls j st else none
  | .astore j => if len = 2 then rb_sta k (pc + 2) ls j st else none
  | .lstore_n j => if len = 1 then (match st with
    | .long _ :: _ => rb_st2 k (pc + 1) ls j st
    | _ => none) else none
  | .dstore j => if len = 2 then (match st with
    | .double _ :: _ => rb_st2 k (pc + 2) ls j st
    | _ => none) else none
  | .iinc j n => if len = 3 ∨ len = 6 then (match ls[j]? with
    | some (some (.int x)) => if rb_sto k j = true then some (pc + len, ls.set j (some (.int (x + Int32.ofInt n))), st) else none
    | _ => none) else none
  | .iadd => if len = 1 then rb_b2 pc ls (fun x y => x + y) st else none
  | .isub => if len = 1 then rb_b2 pc ls (fun x y => x - y) st else none
  | .imul => if len = 1 then rb_b2 pc ls (fun x y => x * y) st else none
  | .iand => if len = 1 then rb_b2 pc ls (fun x y => x &&& y) st else none
  | .ior => if len = 1 then rb_b2 pc ls (fun x y => x ||| y) st else none
  | .ixor => if len = 1 then rb_b2 pc ls (fun x y => x ^^^ y) st else none
  | .ishl => if len = 1 then rb_b2 pc ls (fun x y => x <<< (y &&& 31)) st else none
  | .ishr => if len = 1 then rb_b2 pc ls (fun x y => x >>> (y &&& 31)) st else none
  | .iushr => if len = 1 then rb_b2 pc ls rb_ush st else none
  | .idiv => if len = 1 then (match st with
    | .int y :: .int x :: st => if y = 0 then none else some (pc + 1, ls, .int (x / y) :: st)
    | _ => none) else none
  | .irem => if len = 1 then (match st with
    | .int y :: .int x :: st => if y = 0 then none else some (pc + 1, ls, .int (rb_rem x y) :: st)
    | _ => none) else none
  | .ineg => if len = 1 then (match st with
    | .int x :: st => some (pc + 1, ls, .int (-x) :: st)
    | _ => none) else none
  | .ladd => if len = 1 then rb_bl pc ls (fun x y => x + y) st else none
  | .lmul => if len = 1 then rb_bl pc ls (fun x y => x * y) st else none
  | .lrem => if len = 1 then (match st with
    | .long y :: .long x :: st => if y = 0 then none else some (pc + 1, ls, .long (rb_lrem x y) :: st)
    | _ => none) else none
  | .i2l => if len = 1 then (match st with
    | .int x :: st => some (pc + 1, ls, .long x.toInt64 :: st)
    | _ => none) else none
  | .l2i => if len = 1 then (match st with
    | .long x :: st => some (pc + 1, ls, .int x.toInt32 :: st)
    | _ => none) else none
  | .i2f => if len = 1 then (match st with
    | .int x :: st => some (pc + 1, ls, .float (FP.i2f x) :: st)
    | _ => none) else none
  | .fdiv => if len = 1 then (match st with
    | .float y :: .float x :: st => if FP.fdiv x y &&& 0x7fffffff ≤ 0x7f800000 then some (pc + 1, ls, .float (FP.fdiv x y) :: st) else none
    | _ => none) else none
  | .f2d => if len = 1 then (match st with
    | .float x :: st => if FP.f2d x &&& 0x7fffffffffffffff ≤ 0x7ff0000000000000 then some (pc + 1, ls, .double (FP.f2d x) :: st) else none
    | _ => none) else none
  | .fcmp op => if len = 1 then (match st with
    | .float y :: .float x :: st => some (pc + 1, ls, .int (Op.cmpValue (FP.fcmp x y) op) :: st)
    | _ => none) else none
  | .dcmp op => if len = 1 then (match st with
    | .double y :: .double x :: st => some (pc + 1, ls, .int (Op.cmpValue (FP.dcmp x y) op) :: st)
    | _ => none) else none
  | .dup => if len = 1 then (match st with
    | v :: st => if v.category = 1 then some (pc + 1, ls, v :: v :: st) else none
    | _ => none) else none
  | .pop => if len = 1 then (match st with
    | v :: st => if v.category = 1 then some (pc + 1, ls, st) else none
    | _ => none) else none
  | .dup2 => if len = 1 then (match st with
    | v :: u :: st => if v.category = 1 ∧ u.category = 1 then some (pc + 1, ls, v :: u :: v :: u :: st) else none
    | _ => none) else none
  | .goto off => if len = 3 then (match rb_tg pc off with
    | some t => some (t, ls, st)
    | none => none) else none
  | .ifCond c off => if len = 3 then (match st with
    | .int x :: st => rb_br pc off ls st (rb_c1 c x)
    | _ => none) else none
  | .if_icmp c off => if len = 3 then (match st with
    | .int y :: .int x :: st => rb_br pc off ls st (rb_c2 c x y)
    | _ => none) else none
  | .ifnull off => if len = 3 then (match st with
    | .null :: st => rb_br pc off ls st true
    | .ref _ :: st => rb_br pc off ls st false
    | _ => none) else none
  | .ifnonnull off => if len = 3 then (match st with
    | .null :: st => rb_br pc off ls st false
    | .ref _ :: st => rb_br pc off ls st true
    | _ => none) else none
  | .tableswitch dflt lo hi offs => match st with
    | .int x :: st => if x.toInt < lo ∨ hi < x.toInt then (match rb_tg pc dflt with
        | some t => some (t, ls, st)
        | none => none)
      else (match offs[(x.toInt - lo).toNat]? with
        | some off => (match rb_tg pc off with
          | some t => some (t, ls, st)
          | none => none)
        | none => none)
    | _ => none
  | .lookupswitch dflt ps => match st with
    | .int x :: st => if (ps.toList.zip (ps.toList.drop 1)).all (fun (a, next) => a.1 < next.1) = true then (match rb_tg pc (Op.lookupswitch.offset ps.toList dflt x.toInt) with
        | some t => some (t, ls, st)
        | none => none) else none
    | _ => none
  | _ => none
def rb_mem (k : Nat) (i : Instr) (len : Nat) (sc : Option (List Int32)) (ls : rb_L) (st : List Value) (M : rb_M) : Option (List Value × rb_M) := match i with
  | .getfield ix => if len = 3 then (match st, rb_find rb_fl (rb_ow k) ix with
    | .ref a :: st, some (ci, sl) => (match M[a]? with
      | some (.inl (cj, fs)) => if cj = ci then (match fs[sl]? with
        | some v => some (v :: st, M)
        | none => none) else none
      | _ => none)
    | _, _ => none) else none
  | .putfield ix => if len = 3 then (match st, rb_find rb_fl (rb_ow k) ix with
    | v :: .ref a :: st, some (ci, sl) => (match M[a]? with
      | some (.inl (cj, fs)) => if cj = ci ∧ sl < fs.length ∧ rb_okv (rb_ty ci sl) v = true ∧ (rb_fn ci sl = true → rb_in k = true ∧ rb_ow k = ci) then some (st, M.set a (.inl (cj, fs.set sl v))) else none
      | _ => none)
    | _, _ => none) else none
  | .iaload => if len = 1 then (match st with
    | .int j :: .ref a :: st => (match M[a]? with
      | some (.inr (.inl xs)) => if rb_inb j xs.length = true then some (.int (xs.getD j.toNatClampNeg 0) :: st, M) else none
      | some _ => none
      | none => if a = rb_scr then (match sc with
        | some xs => if rb_inb j xs.length = true then some (.int (xs.getD j.toNatClampNeg 0) :: st, M) else none
        | none => none) else none)
    | _ => none) else none
  | .iastore => if len = 1 then (match st with
    | .int x :: .int j :: .ref a :: st => (match M[a]? with
      | some (.inr (.inl xs)) => if rb_inb j xs.length = true then some (st, M.set a (.inr (.inl (xs.set j.toNatClampNeg x)))) else none
      | _ => none)
    | _ => none) else none
  | .arraylength => if len = 1 then (match st with
    | .ref a :: st => (match M[a]? with
      | some (.inr (.inl xs)) => some (.int (Int32.ofNat xs.length) :: st, M)
      | some (.inr (.inr rs)) => some (.int (Int32.ofNat rs.length) :: st, M)
      | some _ => none
      | none => if a = rb_scr then (match sc with
        | some xs => some (.int (Int32.ofNat xs.length) :: st, M)
        | none => none) else none)
    | _ => none) else none
  | .aaload => if len = 1 then (match st with
    | .int j :: .ref a :: st => (match M[a]? with
      | some (.inr (.inr rs)) => if rb_inb j rs.length = true then some (rb_rf (rs.getD j.toNatClampNeg none) :: st, M) else none
      | _ => none)
    | _ => none) else none
  | .aastore => if len = 1 then (match st with
    | .ref v :: .int j :: .ref a :: st => (match M[a]?, M[v]? with
      | some (.inr (.inr rs)), some (.inl (ci, _)) => if ci = 3 ∧ rb_inb j rs.length = true then some (st, M.set a (.inr (.inr (rs.set j.toNatClampNeg (some v))))) else none
      | _, _ => none)
    | _ => none) else none
  | .new ix => if len = 3 then (match rb_find rb_cl (rb_ow k) ix with
    | some ci => if ci < 5 ∧ M.length < rb_scr ∧ rb_fresh M.length ls st M = true then some (.ref M.length :: st, M ++ [.inl (ci, rb_df ci)]) else none
    | none => none) else none
  | .newarray ty => if len = 2 ∧ ty = .int then (match st with
    | .int n :: st => if ¬ n < 0 ∧ n.toNatClampNeg ≤ 100000 ∧ M.length < rb_scr ∧ rb_fresh M.length ls st M = true then some (.ref M.length :: st, M ++ [.inr (.inl (List.replicate n.toNatClampNeg 0))]) else none
    | _ => none) else none
  | .anewarray ix => if len = 3 ∧ rb_find rb_cl (rb_ow k) ix = some 3 then (match st with
    | .int n :: st => if ¬ n < 0 ∧ n.toNatClampNeg ≤ 100000 ∧ M.length < rb_scr ∧ rb_fresh M.length ls st M = true then some (.ref M.length :: st, M ++ [.inr (.inr (List.replicate n.toNatClampNeg none))]) else none
    | _ => none) else none
  | .invokespecial ix => if len = 3 ∧ rb_find rb_il (rb_ow k) ix = some (0, 5) ∧ 1 ≤ rb_h k then (match st with
    | .ref _ :: st => if st.length ≤ 4 then some (st, M) else none
    | _ => none) else none
  | .invokestatic ix => if len = 3 ∧ rb_find rb_il (rb_ow k) ix = some (0, 6) ∧ 1 ≤ rb_h k then (match st with
    | .int n :: .int dp :: .ref a :: .int sp :: .ref b :: st => (match M[a]?, M[b]? with
      | some (.inr (.inl g)), some (.inr (.inl f)) => if sp = 0 ∧ dp = 0 ∧ ¬ n < 0 ∧ n.toNatClampNeg ≤ f.length ∧ n.toNatClampNeg ≤ g.length ∧ st.length ≤ 4 then some (st, M.set a (.inr (.inl (f.take n.toNatClampNeg ++ g.drop n.toNatClampNeg)))) else none
      | _, _ => none)
    | _ => none) else none
  | _ => none
/-- what is called: the method, its arguments in order, what stays on the stack -/
def rb_call (k : Nat) (i : Instr) (len : Nat) (st : List Value) (M : rb_M) : Option (Nat × List Value × List Value) := match i with
  | .invokevirtual ix => if len = 3 then (match rb_find rb_il (rb_ow k) ix with
    | some (k', kd) => if kd = 0 ∧ rb_h k' < rb_h k ∧ (st.drop (rb_na k')).length ≤ 4 ∧ rb_na k' ≤ st.length then (match (st.take (rb_na k')).reverse with
      | .ref a :: as => (match M[a]? with
        | some (.inl (ci, _)) => if ci = rb_ow k' ∧ ci < 5 then some (k', .ref a :: as, st.drop (rb_na k')) else none
        | _ => none)
      | _ => none) else none
    | none => none) else none
  | .invokestatic ix => if len = 3 then (match rb_find rb_il (rb_ow k) ix with
    | some (k', kd) => if (kd = 1 ∨ kd = 3) ∧ rb_h k' < rb_h k ∧ (st.drop (rb_na k')).length ≤ 4 ∧ rb_na k' ≤ st.length then some (k', (st.take (rb_na k')).reverse, st.drop (rb_na k')) else none
    | none => none) else none
  | .invokespecial ix => if len = 3 then (match rb_find rb_il (rb_ow k) ix with
    | some (k', kd) => if (kd = 2 ∨ kd = 4) ∧ rb_h k' < rb_h k ∧ (st.drop (rb_na k')).length ≤ 4 ∧ rb_na k' ≤ st.length then (match (st.take (rb_na k')).reverse with
      | .ref a :: as => some (k', .ref a :: as, st.drop (rb_na k'))
      | _ => none) else none
    | none => none) else none
  | _ => none
def rb_ret (k : Nat) (i : Instr) (len : Nat) (st : List Value) : Option (Option Value) := match i with
  | .ireturn => if len = 1 then (match st, rb_rt k with
    | [.int v], some ty => if rb_okv ty (.int v) = true then some (some (.int v)) else none
    | _, _ => none) else none
  | .areturn => if len = 1 then (match st, rb_rt k with
    | [v], some (.object C) => if rb_okv (.object C) v = true then some (some v) else none
    | _, _ => none) else none
  | .freturn => if len = 1 then (match st, rb_rt k with
    | [.float v], some .float => some (some (.float v))
    | _, _ => none) else none
  | .return_ => if len = 1 then (match st, rb_rt k with
    | [], none => some none
    | _, _ => none) else none
  | _ => none
/-- which of the four: 0 without cells, 1 with cells, 2 a call, 3 the end -/
def rb_ki (k : Nat) (i : Instr) : Nat := match i with
  | .getfield _ => 1
  | .putfield _ => 1
  | .iaload => 1
  | .iastore => 1
  | .arraylength => 1
  | .aaload => 1
  | .aastore => 1
  | .new _ => 1
  | .newarray _ => 1
  | .anewarray _ => 1
  | .invokevirtual _ => 2
  | .invokespecial ix => if rb_find rb_il (rb_ow k) ix = some (0, 5) then 1 else 2
  | .invokestatic ix => if rb_find rb_il (rb_ow k) ix = some (0, 6) then 1 else 2
  | .ireturn => 3
  | .areturn => 3
  | .freturn => 3
  | .return_ => 3
  | _ => 0
def rb_dec (k pc : Nat) : Option (Instr × Nat) := match decode (rb_by k) pc with
  | .ok x => some x
  | .error _ => none
def rb_ent (k : Nat) (as : List Value) : rb_L := as.map some ++ List.replicate (rb_ml k - as.length) none
def rb_ck (k k' : Nat) (ls : rb_L) (rest : List Value) (a b : Nat) : Bool := !(rb_al k') || (rb_al k && (ls.all (rb_outl a b) && rest.all (rb_out a b)))
def rb_ex : Nat → Option (List Int32) → Nat → Nat → rb_L → List Value → rb_M → Option (Option Value × rb_M)
  | 0, _, _, _, _, _, _ => none
  | n + 1, sc, k, pc, ls, st, M => match rb_dec k pc with
    | none => none
    | some (i, len) => match rb_ki k i with
      | 0 => (match rb_pure k pc i len ls st with
        | some (pc', ls', st') => rb_ex n sc k pc' ls' st' M
        | none => none)
      | 1 => (match rb_mem k i len sc ls st M with
        | some (st', M') => if M'.length = M.length ∨ rb_al k = true then rb_ex n sc k (pc + len) ls st' M' else none
        | none => none)
      | 2 => (match rb_call k i len st M with
        | some (k', as, rest) => if as.length ≤ rb_ml k' ∧ as.all (fun v => v.category == 1) = true then (match rb_ex n sc k' 0 (rb_ent k' as) [] M with
          | some (r, M1) => if rb_ck k k' ls rest M.length M1.length = true then rb_ex n sc k (pc + 3) ls (r.toList ++ rest) M1 else none
          | none => none) else none
        | none => none)
      | _ => (match rb_ret k i len st with
        | some r => some (r, M)
        | none => none)
