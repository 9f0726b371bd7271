/-! THE START: the constructor, run -/
def rb_eqv (a b : Value) : Bool := match a, b with
  | .int x, .int y => decide (x = y)
  | .ref x, .ref y => x == y
  | .null, .null => true
  | _, _ => false
theorem rb_eqv_eq {a b : Value} (h : rb_eqv a b = true) : a = b := by
  unfold rb_eqv at h
  split at h
  · rw [of_decide_eq_true h]
  · rw [beq_iff_eq.mp h]
  · rfl
  · cases h
def rb_eqs {α : Type} (f : α → α → Bool) : List α → List α → Bool
  | [], [] => true
  | a :: x, b :: y => f a b && rb_eqs f x y
  | _, _ => false
theorem rb_eqs_eq {α : Type} {f : α → α → Bool} (hf : ∀ a b, f a b = true → a = b) : ∀ {x y : List α}, rb_eqs f x y = true → x = y
  | [], [], _ => rfl
  | a :: x, b :: y, h => by
    unfold rb_eqs at h
    rw [Bool.and_eq_true] at h
    rw [hf _ _ h.1, rb_eqs_eq hf h.2]
  | [], _ :: _, h => by cases h
  | _ :: _, [], h => by cases h
def rb_eqo (a b : rb_O) : Bool := match a, b with
  | .inl x, .inl y => x.1 == y.1 && rb_eqs rb_eqv x.2 y.2
  | .inr (.inl x), .inr (.inl y) => rb_eqs (fun u v => decide (u = v)) x y
  | .inr (.inr x), .inr (.inr y) => rb_eqs (fun u v => rb_eqv (rb_rf u) (rb_rf v)) x y
  | _, _ => false
theorem rb_rf_eq {u v : Option Nat} (h : rb_rf u = rb_rf v) : u = v := by
  rcases u with _ | u <;> rcases v with _ | v
  · rfl
  · cases h
  · cases h
  · cases h; rfl
theorem rb_eqo_eq {a b : rb_O} (h : rb_eqo a b = true) : a = b := by
  rcases a with ⟨c, x⟩ | x | x <;> rcases b with ⟨c', y⟩ | y | y <;> try cases h
  · simp only [rb_eqo, Bool.and_eq_true, beq_iff_eq] at h
    obtain ⟨rfl, h⟩ := h
    rw [rb_eqs_eq (fun _ _ h => rb_eqv_eq h) h]
  · rw [rb_eqs_eq (fun _ _ h => of_decide_eq_true h) (show rb_eqs (fun u v => decide (u = v)) x y = true from h)]
  · rw [rb_eqs_eq (fun _ _ h => rb_rf_eq (rb_eqv_eq h)) (show rb_eqs (fun u v => rb_eqv (rb_rf u) (rb_rf v)) x y = true from h)]
def rb_isM (r : Option (Option Value × rb_M)) (M : rb_M) : Bool := match r with
  | some (none, M') => rb_eqs rb_eqo M' M
  | _ => false
theorem rb_isM_eq {r : Option (Option Value × rb_M)} {M : rb_M} (h : rb_isM r M = true) : r = some (none, M) := by
  unfold rb_isM at h
  split at h
  · rw [rb_eqs_eq (fun _ _ h => rb_eqo_eq h) h]
  · cases h
def rb_V1 (r j : Nat) : Int32 := match r with
  | 0 => (match j with
    | 3 => 5
    | 4 => 3
    | 5 => 0
    | _ => 4)
  | 11 => if j = 7 then 1 else 0
  | _ => 0
/-! the same interpreter, but what it works on is worked out at once -/
def rz_fn {α : Type} (x : Nat) (k : Nat → α) : α := match x with
  | 0 => k 0
  | n + 1 => k (n + 1)
theorem rz_fn_eq {α : Type} (x : Nat) (k : Nat → α) : rz_fn x k = k x := by cases x <;> rfl
def rz_fi {α : Type} (x : Int32) (k : Int32 → α) : α := rz_fn x.toUInt32.toNat (fun n => k (Int32.ofNat n))
theorem rb_ofU (x : Int32) : Int32.ofNat x.toUInt32.toNat = x := by
  apply Int32.toBitVec_inj.mp
  rw [Int32.toBitVec_ofNat']
  exact BitVec.ofNat_toNat 32 x.toBitVec |>.trans (by simp)
theorem rz_fi_eq {α : Type} (x : Int32) (k : Int32 → α) : rz_fi x k = k x := by unfold rz_fi; rw [rz_fn_eq, rb_ofU]
def rz_fv {α : Type} (v : Value) (k : Value → α) : α := match v with
  | .int x => rz_fi x (fun x => k (.int x))
  | .ref a => rz_fn a (fun a => k (.ref a))
  | v => k v
theorem rz_fv_eq {α : Type} (v : Value) (k : Value → α) : rz_fv v k = k v := by
  unfold rz_fv
  split
  · exact rz_fi_eq _ _
  · exact rz_fn_eq _ _
  · rfl
def rz_fs {α : Type} : List Value → (List Value → α) → α
  | [], k => k []
  | v :: t, k => rz_fv v (fun v => rz_fs t (fun t => k (v :: t)))
theorem rz_fs_eq {α : Type} : ∀ (x : List Value) (k : List Value → α), rz_fs x k = k x
  | [], _ => rfl
  | v :: t, k => by unfold rz_fs; rw [rz_fv_eq, rz_fs_eq t]
def rz_flo {α : Type} : rb_L → (rb_L → α) → α
  | [], k => k []
  | none :: t, k => rz_flo t (fun t => k (none :: t))
  | some v :: t, k => rz_fv v (fun v => rz_flo t (fun t => k (some v :: t)))
theorem rz_flo_eq {α : Type} : ∀ (x : rb_L) (k : rb_L → α), rz_flo x k = k x
  | [], _ => rfl
  | none :: t, k => by unfold rz_flo; rw [rz_flo_eq t]
  | some v :: t, k => by unfold rz_flo; rw [rz_fv_eq, rz_flo_eq t]
def rz_fx {α : Type} : List Int32 → (List Int32 → α) → α
  | [], k => k []
  | v :: t, k => rz_fx t (fun t => k (v :: t))
theorem rz_fx_eq {α : Type} : ∀ (x : List Int32) (k : List Int32 → α), rz_fx x k = k x
  | [], _ => rfl
  | v :: t, k => by unfold rz_fx; rw [rz_fx_eq t]
def rz_fo {α : Type} (o : rb_O) (k : rb_O → α) : α := match o with
  | .inl (c, fs) => rz_fs fs (fun fs => k (.inl (c, fs)))
  | .inr (.inl xs) => rz_fx xs (fun xs => k (.inr (.inl xs)))
  | o => k o
theorem rz_fo_eq {α : Type} (o : rb_O) (k : rb_O → α) : rz_fo o k = k o := by
  unfold rz_fo
  split
  · exact rz_fs_eq _ _
  · exact rz_fx_eq _ _
  · rfl
def rz_fm {α : Type} : Nat → rb_M → (rb_M → α) → α
  | _, [], k => k []
  | 0, a :: t, k => rz_fo a (fun a => rz_fm 5000 t (fun t => k (a :: t)))
  | d + 1, a :: t, k => rz_fm d t (fun t => k (a :: t))
theorem rz_fm_eq {α : Type} : ∀ (M : rb_M) (d : Nat) (k : rb_M → α), rz_fm d M k = k M
  | [], d, k => by cases d <;> rfl
  | a :: t, 0, k => by unfold rz_fm; rw [rz_fo_eq, rz_fm_eq t]
  | a :: t, d + 1, k => by unfold rz_fm; rw [rz_fm_eq t]
def rz_di (i : Instr) (st : List Value) (M : rb_M) : Nat := match i with
  | .iastore => (match st with
    | _ :: _ :: .ref a :: _ => a
    | _ => 5000)
  | .putfield _ => (match st with
    | _ :: .ref a :: _ => a
    | _ => 5000)
  | .new _ => M.length
  | .newarray _ => M.length
  | _ => 5000
def rz_ch (i : Instr) : Bool := match i with
  | .iastore => true
  | .putfield _ => true
  | .new _ => true
  | .newarray _ => true
  | .anewarray _ => true
  | .aastore => true
  | _ => false
def rz_fc {α : Type} (i : Instr) (st : List Value) (M M' : rb_M) (k : rb_M → α) : α := if rz_ch i = true then rz_fm (rz_di i st M) M' k else k M'
theorem rz_fc_eq {α : Type} (i : Instr) (st : List Value) (M M' : rb_M) (k : rb_M → α) : rz_fc i st M M' k = k M' := by
  unfold rz_fc
  split
  · exact rz_fm_eq _ _ _
  · rfl
def rb_ex2 : Nat → Option (List Int32) → Nat → Nat → rb_L → List Value → rb_M → Option (Option Value × rb_M)
  | 0, _, _, _, _, _, _ => none
  | n + 1, sc, k, pc, ls, st, M => rz_fn pc fun pc => rz_flo ls fun ls => rz_fs st fun st => match rb_dec k pc with
    | none => none
    | some (i, len) => match rb_ki k i with
      | 0 => (match rb_pure k pc i len ls st with
        | some (pc', ls', st') => rb_ex2 n sc k pc' ls' st' M
        | none => none)
      | 1 => (match rb_mem k i len sc ls st M with
        | some (st', M') => rz_fc i st M M' fun M' => if M'.length = M.length ∨ rb_al k = true then rb_ex2 n sc k (pc + len) ls st' M' else none
        | none => none)
      | 2 => (match rb_call k i len st M with
        | some (k', as, rest) => if as.length ≤ rb_ml k' ∧ as.all (fun v => v.category == 1) = true then (match rb_ex2 n sc k' 0 (rb_ent k' as) [] M with
          | some (r, M1) => if rb_ck k k' ls rest M.length M1.length = true then rb_ex2 n sc k (pc + 3) ls (r.toList ++ rest) M1 else none
          | none => none) else none
        | none => none)
      | _ => (match rb_ret k i len st with
        | some r => some (r, M)
        | none => none)
theorem rb_ex2_eq : ∀ (n : Nat) (sc : Option (List Int32)) (k pc : Nat) (ls : rb_L) (st : List Value) (M : rb_M), rb_ex2 n sc k pc ls st M = rb_ex n sc k pc ls st M
  | 0, _, _, _, _, _, _ => rfl
  | n + 1, sc, k, pc, ls, st, M => by
    unfold rb_ex2 rb_ex
    simp only [rz_fn_eq, rz_flo_eq, rz_fs_eq, rz_fc_eq, rb_ex2_eq n]
    rfl
