/-! NUMBERS, 4: a mean is a number -/
def rn_okd (f : FP.Core.Fmt) (d : FP.Core.Datum) : Prop := match d with
  | .nan => False
  | .inf _ => True
  | .fin _ c q => c < 2 ^ f.p ∧ q ≤ f.qmax
theorem rn_bound {f : FP.Core.Fmt} {s : Bool} {c : Nat} {q : Int} (hc : c < 2 ^ f.p) : rn_okd f (FP.Core.bound f s c q) := by
  unfold FP.Core.bound
  by_cases h : q ≤ f.qmax
  · rw [if_pos h]; exact ⟨hc, h⟩
  · rw [if_neg h]; exact True.intro
theorem rn_settle {f : FP.Core.Fmt} (hf : f.tails < 2 ^ f.p) {s : Bool} {c : Nat} {q : Int} : rn_okd f (FP.Core.settle f s c q) := by
  unfold FP.Core.settle
  by_cases h : c < 2 ^ f.p
  · rw [if_pos h]; exact rn_bound h
  · rw [if_neg h]; exact rn_bound hf
theorem rn_ratio {f : FP.Core.Fmt} (hf : f.tails < 2 ^ f.p) (hq : f.qmin ≤ f.qmax) {s : Bool} {n d : Nat} {e : Int} : rn_okd f (FP.Core.roundRatio f s n d e) := by
  unfold FP.Core.roundRatio
  by_cases h : n = 0
  · rw [if_pos h]; exact ⟨Nat.two_pow_pos _, hq⟩
  · rw [if_neg h]; exact rn_settle hf
theorem rn_f32a : FP.Core.b32.tails < 2 ^ FP.Core.b32.p := by decide +kernel
theorem rn_f32b : FP.Core.b32.qmin ≤ FP.Core.b32.qmax := by decide +kernel
theorem rn_f64a : FP.Core.b64.tails < 2 ^ FP.Core.b64.p := by decide +kernel
theorem rn_f64b : FP.Core.b64.qmin ≤ FP.Core.b64.qmax := by decide +kernel
/-- the three fields of what a number is written as -/
theorem rn_fields {f : FP.Core.Fmt} {d : FP.Core.Datum} (hp : 2 ^ f.p = 2 * f.tails) (hq : f.qmax - f.qmin + 3 ≤ (f.exps : Int)) (he : 3 ≤ f.exps) (ht : 0 < f.tails) (h : rn_okd f d) : ∃ (s : Bool) (E T : Nat), FP.Core.encode f d = FP.Core.assemble f s E T ∧ E < f.exps ∧ T < f.tails ∧ (E = f.exps - 1 → T = 0) := by
  cases d with
  | nan => exact absurd h id
  | inf s => exact ⟨s, f.exps - 1, 0, rfl, by omega, ht, fun _ => rfl⟩
  | fin s c q =>
    obtain ⟨h1, h2⟩ := h
    show ∃ (s' : Bool) (E T : Nat), (if c < f.tails then FP.Core.assemble f s 0 c else FP.Core.assemble f s ((q - f.qmin).toNat + 1) (c - f.tails)) = FP.Core.assemble f s' E T ∧ _
    by_cases h3 : c < f.tails
    · rw [if_pos h3]
      exact ⟨s, 0, c, rfl, by omega, h3, fun q => by omega⟩
    · rw [if_neg h3]
      exact ⟨s, _, _, rfl, by omega, by omega, fun q => by omega⟩
theorem rn_dec {f : FP.Core.Fmt} {s : Bool} {E T : Nat} (hE : E < f.exps) (hT : T < f.tails) (h : E = f.exps - 1 → T = 0) : ¬ FP.Core.decode f (FP.Core.assemble f s E T) = .nan := by
  have e0 : (FP.Core.assemble f s E T) / f.tails = s.toNat * f.exps + E := by
    unfold FP.Core.assemble
    rw [Nat.mul_comm, Nat.mul_add_div (by omega), Nat.div_eq_of_lt hT, Nat.add_zero]
  have e1 : FP.Core.fieldE f (FP.Core.assemble f s E T) = E := by
    unfold FP.Core.fieldE
    rw [e0, Nat.mul_comm, Nat.mul_add_mod, Nat.mod_eq_of_lt hE]
  have e2 : FP.Core.fieldT f (FP.Core.assemble f s E T) = T := by
    unfold FP.Core.fieldT FP.Core.assemble
    rw [Nat.mul_comm, Nat.mul_add_mod, Nat.mod_eq_of_lt hT]
  unfold FP.Core.decode
  rw [e1, e2]
  by_cases h1 : E = f.exps - 1
  · rw [if_pos h1, if_pos (h h1)]; exact fun q => by cases q
  · rw [if_neg h1]
    by_cases h2 : E = 0
    · rw [if_pos h2]; exact fun q => by cases q
    · rw [if_neg h2]; exact fun q => by cases q
theorem rn_b32 {d : FP.Core.Datum} (h : rn_okd FP.Core.b32 d) : UInt32.ofNat (FP.Core.encode FP.Core.b32 d) &&& 0x7fffffff ≤ 0x7f800000 ∧ ¬ FP.Core.decode FP.Core.b32 (UInt32.ofNat (FP.Core.encode FP.Core.b32 d)).toNat = .nan := by
  obtain ⟨s, E, T, e, hE, hT, h1⟩ := rn_fields (f := FP.Core.b32) (by decide +kernel) (by decide +kernel) (by decide +kernel) (by decide +kernel) h
  have x1 : FP.Core.b32.exps = 256 := by decide +kernel
  have x2 : FP.Core.b32.tails = 8388608 := by decide +kernel
  have hs : s.toNat ≤ 1 := by cases s <;> decide
  have hn : FP.Core.assemble FP.Core.b32 s E T = (s.toNat * 256 + E) * 8388608 + T := by unfold FP.Core.assemble; rw [x1, x2]
  rw [x1] at hE h1
  rw [x2] at hT
  have hlt : FP.Core.encode FP.Core.b32 d < 2 ^ 32 := by rw [e, hn]; omega
  have ht : (UInt32.ofNat (FP.Core.encode FP.Core.b32 d)).toNat = FP.Core.encode FP.Core.b32 d := UInt32.toNat_ofNat_of_lt' hlt
  refine ⟨?_, ?_⟩
  · rw [UInt32.le_iff_toNat_le, UInt32.toNat_and, ht]
    show FP.Core.encode FP.Core.b32 d &&& (2 ^ 31 - 1) ≤ 2139095040
    rw [Nat.and_two_pow_sub_one_eq_mod, e, hn]
    by_cases h2 : E = 255
    · have := h1 (by omega); omega
    · omega
  · rw [ht, e]
    exact rn_dec (by rw [x1]; exact hE) (by rw [x2]; exact hT) (by rw [x1]; exact h1)
theorem rn_b64 {d : FP.Core.Datum} (h : rn_okd FP.Core.b64 d) : UInt64.ofNat (FP.Core.encode FP.Core.b64 d) &&& 0x7fffffffffffffff ≤ 0x7ff0000000000000 ∧ ¬ FP.Core.decode FP.Core.b64 (UInt64.ofNat (FP.Core.encode FP.Core.b64 d)).toNat = .nan := by
  obtain ⟨s, E, T, e, hE, hT, h1⟩ := rn_fields (f := FP.Core.b64) (by decide +kernel) (by decide +kernel) (by decide +kernel) (by decide +kernel) h
  have x1 : FP.Core.b64.exps = 2048 := by decide +kernel
  have x2 : FP.Core.b64.tails = 4503599627370496 := by decide +kernel
  have hs : s.toNat ≤ 1 := by cases s <;> decide
  have hn : FP.Core.assemble FP.Core.b64 s E T = (s.toNat * 2048 + E) * 4503599627370496 + T := by unfold FP.Core.assemble; rw [x1, x2]
  rw [x1] at hE h1
  rw [x2] at hT
  have hlt : FP.Core.encode FP.Core.b64 d < 2 ^ 64 := by rw [e, hn]; omega
  have ht : (UInt64.ofNat (FP.Core.encode FP.Core.b64 d)).toNat = FP.Core.encode FP.Core.b64 d := UInt64.toNat_ofNat_of_lt' hlt
  refine ⟨?_, ?_⟩
  · rw [UInt64.le_iff_toNat_le, UInt64.toNat_and, ht]
    show FP.Core.encode FP.Core.b64 d &&& (2 ^ 63 - 1) ≤ 9218868437227405312
    rw [Nat.and_two_pow_sub_one_eq_mod, e, hn]
    by_cases h2 : E = 2047
    · have := h1 (by omega); omega
    · omega
  · rw [ht, e]
    exact rn_dec (by rw [x1]; exact hE) (by rw [x2]; exact hT) (by rw [x1]; exact h1)
def rn_fnz (d : FP.Core.Datum) : Bool := match d with
  | .fin _ c _ => c != 0
  | _ => false
theorem rn_fnz_m : ∀ m, m ≤ 8 → 2 ≤ m → rn_fnz (FP.Core.decode FP.Core.b32 (FP.i2f (nI m)).toNat) = true := by decide +kernel
theorem rn_quot {a b : FP.Core.Datum} (ha : ¬ a = .nan) (hb : rn_fnz b = true) : rn_okd FP.Core.b32 (FP.Core.quotient FP.Core.b32 a b) := by
  cases b with
  | nan => cases hb
  | inf s => cases hb
  | fin t d r =>
    have hd : ¬ d = 0 := fun q => by subst q; cases hb
    cases a with
    | nan => exact absurd rfl ha
    | inf s => exact True.intro
    | fin s c q =>
      show rn_okd FP.Core.b32 (if d = 0 then _ else _)
      rw [if_neg hd]
      exact rn_ratio rn_f32a rn_f32b
theorem rn_ord {d : FP.Core.Datum} (h : ¬ d = .nan) : FP.Core.order d d = some .eq := by
  cases d with
  | nan => exact absurd rfl h
  | inf s => cases s <;> rfl
  | fin s c q =>
    show some (compare _ _) = some .eq
    congr 1
    exact Std.ReflCmp.compare_self
theorem rn_mean (D : Int32) {m : Nat} (h2 : 2 ≤ m) (h8 : m ≤ 8) : FP.fdiv (FP.i2f D) (FP.i2f (nI m)) &&& 0x7fffffff ≤ 0x7f800000 ∧ FP.f2d (FP.fdiv (FP.i2f D) (FP.i2f (nI m))) &&& 0x7fffffffffffffff ≤ 0x7ff0000000000000 ∧ FP.dcmp (FP.f2d (FP.fdiv (FP.i2f D) (FP.i2f (nI m)))) (FP.f2d (FP.fdiv (FP.i2f D) (FP.i2f (nI m)))) = some .eq := by
  have a1 : ¬ FP.Core.decode FP.Core.b32 (FP.i2f D).toNat = .nan := (rn_b32 (d := FP.Core.round FP.Core.b32 (FP.Core.ofInt D.toInt)) (by unfold FP.Core.ofInt FP.Core.round; exact rn_ratio rn_f32a rn_f32b)).2
  have a2 := rn_quot a1 (rn_fnz_m m h8 h2)
  have a3 := rn_b32 a2
  have a4 : FP.fdiv (FP.i2f D) (FP.i2f (nI m)) = UInt32.ofNat (FP.Core.encode FP.Core.b32 (FP.Core.quotient FP.Core.b32 (FP.Core.decode FP.Core.b32 (FP.i2f D).toNat) (FP.Core.decode FP.Core.b32 (FP.i2f (nI m)).toNat))) := rfl
  rw [← a4] at a3
  generalize FP.fdiv (FP.i2f D) (FP.i2f (nI m)) = x at a3
  have b1 : FP.f2d x = FP.Core.f2d x := by
    unfold FP.f2d
    have : FP.Core.fIsNaN x = false := decide_eq_false a3.2
    rw [this]; rfl
  have b2 : rn_okd FP.Core.b64 (FP.Core.round FP.Core.b64 (FP.Core.decode FP.Core.b32 x.toNat)) := by
    cases h : FP.Core.decode FP.Core.b32 x.toNat with
    | nan => exact absurd h a3.2
    | inf s => exact True.intro
    | fin s c q => exact rn_ratio rn_f64a rn_f64b
  have b3 := rn_b64 b2
  have b4 : FP.f2d x = UInt64.ofNat (FP.Core.encode FP.Core.b64 (FP.Core.round FP.Core.b64 (FP.Core.decode FP.Core.b32 x.toNat))) := b1
  rw [← b4] at b3
  exact ⟨a3.1, b3.1, rn_ord b3.2⟩
