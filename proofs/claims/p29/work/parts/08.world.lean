/-! THE WORLD of one object: its shape is fixed, its whole numbers are V (which: group, row, place). Groups 0 to 11 are the states (now, trial, eight of the history, two images), 13 the history's and the images' own numbers; in a state row 11 are its own fields. -/
abbrev rb_V : Type := Nat → Nat → Nat → Int32
def rb_st (g : Nat) : Nat := if g = 0 then 1 else if g = 1 then 24 else if g < 10 then 49 + 23 * (g - 2) else if g = 10 then 234 else 258
def rb_rw (g r : Nat) : Nat := rb_st g + 1 + 2 * r
def rb_aa (g r : Nat) : Nat := rb_st g + 2 + 2 * r
def rb_ln (g r : Nat) : Nat := if g < 12 then (match r with
  | 0 => 6
  | 1 => 30
  | 9 => 64
  | 10 => 64
  | _ => 8) else 0
abbrev rb_F : Type := Nat ⊕ (Nat × Nat × Nat)
abbrev rb_Sh : Type := (Nat × List rb_F) ⊕ ((Nat × Nat × Nat) ⊕ List Nat)
def rb_shS (g : Nat) : List rb_F := [.inr (g, 11, 0), .inr (g, 11, 1), .inr (g, 11, 2), .inr (g, 11, 3), .inr (g, 11, 4), .inr (g, 11, 5), .inr (g, 11, 6), .inr (g, 11, 7), .inl (rb_rw g 0), .inl (rb_rw g 1), .inl (rb_rw g 2), .inl (rb_rw g 3), .inl (rb_rw g 4), .inl (rb_rw g 5), .inl (rb_rw g 6), .inl (rb_rw g 7), .inl (rb_rw g 8), .inl (rb_rw g 9), .inl (rb_rw g 10)]
def rb_cellsS (g : Nat) : List rb_Sh := .inl (3, rb_shS g) :: (List.range 11).flatMap fun r => [.inl (2, [.inl (rb_aa g r)]), .inr (.inl (g, r, rb_ln g r))]
def rb_shapes : List rb_Sh := [.inl (4, [.inl 1, .inl 24, .inl 47, .inl 233, .inl 257])] ++ rb_cellsS 0 ++ rb_cellsS 1 ++ [.inl (0, [.inl 48, .inr (13, 0, 0), .inr (13, 0, 1)]), .inr (.inr ((List.range 8).map fun i => rb_st (2 + i)))] ++ ((List.range 8).flatMap fun i => rb_cellsS (2 + i)) ++ [.inl (1, [.inl 234, .inr (13, 1, 0)])] ++ rb_cellsS 10 ++ [.inl (1, [.inl 258, .inr (13, 2, 0)])] ++ rb_cellsS 11
def rb_bv (V : rb_V) (f : rb_F) : Value := match f with
  | .inl i => .ref i
  | .inr (g, r, j) => .int (V g r j)
def rb_bd (V : rb_V) (s : rb_Sh) : rb_O := match s with
  | .inl (ci, fs) => .inl (ci, fs.map (rb_bv V))
  | .inr (.inl (g, r, n)) => .inr (.inl ((List.range n).map (V g r)))
  | .inr (.inr l) => .inr (.inr (l.map some))
def rb_W (V : rb_V) : rb_M := rb_shapes.map (rb_bd V)
theorem rb_shapes_len : rb_shapes.length = 281 := by decide +kernel
theorem rb_W_len (V : rb_V) : (rb_W V).length = 281 := by unfold rb_W; rw [List.length_map]; exact rb_shapes_len
def rb_eqF (a b : rb_F) : Bool := match a, b with
  | .inl i, .inl j => i == j
  | .inr x, .inr y => x.1 == y.1 && (x.2.1 == y.2.1 && x.2.2 == y.2.2)
  | _, _ => false
theorem rb_eqF_eq {a b : rb_F} (h : rb_eqF a b = true) : a = b := by
  rcases a with i | ⟨x, y, z⟩ <;> rcases b with j | ⟨x', y', z'⟩
  · exact congrArg Sum.inl (beq_iff_eq.mp h)
  · cases h
  · cases h
  · simp only [rb_eqF, Bool.and_eq_true, beq_iff_eq] at h
    obtain ⟨rfl, rfl, rfl⟩ := h
    rfl
def rb_eqL : List rb_F → List rb_F → Bool
  | [], [] => true
  | a :: x, b :: y => rb_eqF a b && rb_eqL x y
  | _, _ => false
theorem rb_eqL_eq : ∀ {x y : List rb_F}, rb_eqL x y = true → x = y
  | [], [], _ => rfl
  | a :: x, b :: y, h => by
    unfold rb_eqL at h
    rw [Bool.and_eq_true] at h
    rw [rb_eqF_eq h.1, rb_eqL_eq h.2]
  | [], _ :: _, h => by cases h
  | _ :: _, [], h => by cases h
def rb_eqS (a b : rb_Sh) : Bool := match a, b with
  | .inl x, .inl y => x.1 == y.1 && rb_eqL x.2 y.2
  | .inr (.inl x), .inr (.inl y) => x.1 == y.1 && (x.2.1 == y.2.1 && x.2.2 == y.2.2)
  | .inr (.inr x), .inr (.inr y) => x == y
  | _, _ => false
theorem rb_eqS_eq {a b : rb_Sh} (h : rb_eqS a b = true) : a = b := by
  rcases a with ⟨c, x⟩ | ⟨x, y, z⟩ | x <;> rcases b with ⟨c', x'⟩ | ⟨x', y', z'⟩ | x' <;> try cases h
  · simp only [rb_eqS, Bool.and_eq_true, beq_iff_eq] at h
    obtain ⟨rfl, h⟩ := h
    rw [rb_eqL_eq h]
  · simp only [rb_eqS, Bool.and_eq_true, beq_iff_eq] at h
    obtain ⟨rfl, rfl, rfl⟩ := h
    rfl
  · have : x = x' := beq_iff_eq.mp h
    rw [this]
def rb_atS (i : Nat) (s : rb_Sh) : Bool := match rb_shapes[i]? with
  | some t => rb_eqS t s
  | none => false
theorem rb_atS_eq {i : Nat} {s : rb_Sh} (h : rb_atS i s = true) : rb_shapes[i]? = some s := by
  unfold rb_atS at h
  split at h
  · rename_i t ht; rw [ht, rb_eqS_eq h]
  · cases h
theorem rb_sh_st1 : ∀ g, g < 12 → rb_atS (rb_st g) (.inl (3, rb_shS g)) = true := by decide +kernel
theorem rb_sh_rw1 : ∀ g, g < 12 → ∀ r, r < 11 → rb_atS (rb_rw g r) (.inl (2, [.inl (rb_aa g r)])) = true := by decide +kernel
theorem rb_sh_ar2 : ∀ g, g < 12 → ∀ r, r < 11 → rb_atS (rb_aa g r) (.inr (.inl (g, r, rb_ln g r))) = true := by decide +kernel
theorem rb_sh_st0 (g : Nat) (h : g < 12) : rb_shapes[rb_st g]? = some (.inl (3, rb_shS g)) := rb_atS_eq (rb_sh_st1 g h)
theorem rb_sh_rw0 (g : Nat) (h : g < 12) (r : Nat) (hr : r < 11) : rb_shapes[rb_rw g r]? = some (.inl (2, [.inl (rb_aa g r)])) := rb_atS_eq (rb_sh_rw1 g h r hr)
theorem rb_sh_ar0 (g : Nat) (h : g < 12) (r : Nat) (hr : r < 11) : rb_shapes[rb_aa g r]? = some (.inr (.inl (g, r, rb_ln g r))) := rb_atS_eq (rb_sh_ar2 g h r hr)
theorem rb_sh_bc : rb_shapes[0]? = some (.inl (4, [.inl (rb_st 0), .inl (rb_st 1), .inl 47, .inl 233, .inl 257])) := rb_atS_eq (by decide +kernel)
theorem rb_sh_hi : rb_shapes[47]? = some (.inl (0, [.inl 48, .inr (13, 0, 0), .inr (13, 0, 1)])) := rb_atS_eq (by decide +kernel)
theorem rb_sh_ha : rb_shapes[48]? = some (.inr (.inr ((List.range 8).map fun i => rb_st (2 + i)))) := rb_atS_eq (by decide +kernel)
theorem rb_sh_i0 : rb_shapes[233]? = some (.inl (1, [.inl (rb_st 10), .inr (13, 1, 0)])) := rb_atS_eq (by decide +kernel)
theorem rb_sh_i1 : rb_shapes[257]? = some (.inl (1, [.inl (rb_st 11), .inr (13, 2, 0)])) := rb_atS_eq (by decide +kernel)
theorem rb_W_at {V : rb_V} {i : Nat} {s : rb_Sh} (h : rb_shapes[i]? = some s) : (rb_W V)[i]? = some (rb_bd V s) := by unfold rb_W; rw [List.getElem?_map, h]; rfl
/-- one state's numbers, or one row's, made other -/
def rb_sg (V : rb_V) (g : Nat) (c : Nat → Nat → Int32) : rb_V := fun g' => if g' = g then c else V g'
def rb_u1 (c : Nat → Nat → Int32) (r : Nat) (f : Nat → Int32) : Nat → Nat → Int32 := fun r' => if r' = r then f else c r'
def rb_u2 (c : Nat → Nat → Int32) (r j : Nat) (v : Int32) : Nat → Nat → Int32 := rb_u1 c r (upd (c r) j v)
theorem rb_sg_self (V : rb_V) (g : Nat) (c : Nat → Nat → Int32) : rb_sg V g c g = c := if_pos rfl
theorem rb_sg_ne (V : rb_V) {g g' : Nat} (c : Nat → Nat → Int32) (h : g' ≠ g) : rb_sg V g c g' = V g' := if_neg h
theorem rb_sg_sg (V : rb_V) (g : Nat) (c c' : Nat → Nat → Int32) : rb_sg (rb_sg V g c) g c' = rb_sg V g c' := by
  funext g'
  unfold rb_sg
  by_cases h : g' = g
  · rw [if_pos h, if_pos h]
  · rw [if_neg h, if_neg h, if_neg h]
theorem rb_sg_id (V : rb_V) (g : Nat) : rb_sg V g (V g) = V := by
  funext g'
  unfold rb_sg
  by_cases h : g' = g
  · rw [if_pos h, h]
  · rw [if_neg h]
theorem rb_sg_comm (V : rb_V) {g g' : Nat} (c c' : Nat → Nat → Int32) (h : g ≠ g') : rb_sg (rb_sg V g c) g' c' = rb_sg (rb_sg V g' c') g c := by
  funext x
  unfold rb_sg
  by_cases h1 : x = g'
  · by_cases h2 : x = g
    · exact absurd (h2.symm.trans h1) h
    · rw [if_pos h1, if_neg h2, if_pos h1]
  · by_cases h2 : x = g
    · rw [if_neg h1, if_pos h2, if_pos h2]
    · rw [if_neg h1, if_neg h2, if_neg h2, if_neg h1]
theorem rb_u1_self (c : Nat → Nat → Int32) (r : Nat) (f : Nat → Int32) : rb_u1 c r f r = f := if_pos rfl
theorem rb_u1_ne (c : Nat → Nat → Int32) {r r' : Nat} (f : Nat → Int32) (h : r' ≠ r) : rb_u1 c r f r' = c r' := if_neg h
theorem rb_u1_u1 (c : Nat → Nat → Int32) (r : Nat) (f f' : Nat → Int32) : rb_u1 (rb_u1 c r f) r f' = rb_u1 c r f' := by
  funext r'
  unfold rb_u1
  by_cases h : r' = r
  · rw [if_pos h, if_pos h]
  · rw [if_neg h, if_neg h, if_neg h]
def rb_men (s : rb_Sh) : List (Nat × Nat) := match s with
  | .inl (_, fs) => fs.flatMap fun f => match f with
    | .inl _ => []
    | .inr (g, r, _) => [(g, r)]
  | .inr (.inl (g, r, _)) => [(g, r)]
  | .inr (.inr _) => []
def rb_own (g r : Nat) : Nat := if g < 12 then (if r = 11 then rb_st g else rb_aa g r) else (match r with
  | 0 => 47
  | 1 => 233
  | _ => 257)
theorem rb_own_ok : (List.range 281).all (fun i => match rb_shapes[i]? with
  | some s => (rb_men s).all fun q => rb_own q.1 q.2 == i
  | none => true) = true := by decide +kernel
theorem rb_own_at {i : Nat} {s : rb_Sh} {q : Nat × Nat} (h : rb_shapes[i]? = some s) (hq : q ∈ rb_men s) : rb_own q.1 q.2 = i := by
  have hi : i < 281 := by rw [← rb_shapes_len]; exact (List.getElem?_eq_some_iff.mp h).1
  have h1 := List.all_eq_true.mp rb_own_ok i (List.mem_range.mpr hi)
  rw [h] at h1
  exact beq_iff_eq.mp (List.all_eq_true.mp h1 q hq)
theorem rb_bd_congr {V V' : rb_V} {s : rb_Sh} (h : ∀ q ∈ rb_men s, V' q.1 q.2 = V q.1 q.2) : rb_bd V' s = rb_bd V s := by
  rcases s with ⟨ci, fs⟩ | ⟨g, r, n⟩ | l
  · show Sum.inl (ci, fs.map (rb_bv V')) = Sum.inl (ci, fs.map (rb_bv V))
    congr 2
    refine List.map_congr_left fun f hf => ?_
    rcases f with i | ⟨g, r, j⟩
    · rfl
    · have := h (g, r) (List.mem_flatMap.mpr ⟨_, hf, List.mem_singleton.mpr rfl⟩)
      show Value.int (V' g r j) = .int (V g r j)
      rw [this]
  · have := h (g, r) (List.mem_singleton.mpr rfl)
    show Sum.inr (Sum.inl ((List.range n).map (V' g r))) = _
    rw [this]; rfl
  · rfl
theorem rb_W_set {V : rb_V} {i g r : Nat} {f : Nat → Int32} {s : rb_Sh} {o : rb_O} (h : rb_shapes[i]? = some s) (ho : rb_own g r = i) (hb : rb_bd (rb_sg V g (rb_u1 (V g) r f)) s = o) : (rb_W V).set i o = rb_W (rb_sg V g (rb_u1 (V g) r f)) := by
  subst hb
  apply List.ext_getElem?
  intro j
  by_cases hj : i = j
  · subst hj
    rw [List.getElem?_set_self', rb_W_at h, rb_W_at h]
    rfl
  · rw [List.getElem?_set_ne hj]
    unfold rb_W
    rw [List.getElem?_map, List.getElem?_map]
    cases hs : rb_shapes[j]? with
    | none => rfl
    | some s' =>
      show some (rb_bd V s') = some (rb_bd _ s')
      refine congrArg some (rb_bd_congr (fun q hq => ?_)).symm
      have h1 := rb_own_at hs hq
      show (if q.1 = g then rb_u1 (V g) r f else V q.1) q.2 = V q.1 q.2
      by_cases h2 : q.1 = g
      · rw [if_pos h2]
        show (if q.2 = r then f else V g q.2) = V q.1 q.2
        by_cases h3 : q.2 = r
        · exact absurd (by rw [← ho, ← h1, h2, h3]) hj
        · rw [if_neg h3, h2]
      · rw [if_neg h2]
section RBW
variable {sc : Option (List Int32)} {k pc : Nat} {ls : rb_L} {st : List Value} {V : rb_V} {P : Option Value → rb_M → Prop}
theorem g_getf {ix ci sl i : Nat} {fs : List rb_F} {f : rb_F} (hd : decode (rb_by k) pc = .ok (.getfield ix, 3)) (hf : rb_find rb_fl (rb_ow k) ix = some (ci, sl)) (hi : rb_shapes[i]? = some (.inl (ci, fs))) (hs : fs[sl]? = some f) : rb_G sc k pc ls (.ref i :: st) (rb_W V) P ↔ rb_G sc k (pc + 3) ls (rb_bv V f :: st) (rb_W V) P := by
  have h1 : (rb_W V)[i]? = some (.inl (ci, fs.map (rb_bv V))) := rb_W_at hi
  have h2 : (fs.map (rb_bv V))[sl]? = some (rb_bv V f) := by rw [List.getElem?_map, hs]; rfl
  exact rb_G_mem hd rfl (by simp only [rb_mem, hf, h1, h2, if_true]) (Or.inl rfl)
theorem g_putf {ix ci sl i g r j : Nat} {fs : List rb_F} {v : Int32} (hd : decode (rb_by k) pc = .ok (.putfield ix, 3)) (hf : rb_find rb_fl (rb_ow k) ix = some (ci, sl)) (hi : rb_shapes[i]? = some (.inl (ci, fs))) (hs : fs[sl]? = some (.inr (g, r, j))) (hu : ∀ q, fs[q]? = some (.inr (g, r, j)) → q = sl) (ho : rb_own g r = i) (hok : rb_okv (rb_ty ci sl) (.int v) = true) (hfn : rb_fn ci sl = false) : rb_G sc k pc ls (.int v :: .ref i :: st) (rb_W V) P ↔ rb_G sc k (pc + 3) ls st (rb_W (rb_sg V g (rb_u2 (V g) r j v))) P := by
  have h1 : (rb_W V)[i]? = some (.inl (ci, fs.map (rb_bv V))) := rb_W_at hi
  have hl : sl < (fs.map (rb_bv V)).length := by rw [List.length_map]; exact (List.getElem?_eq_some_iff.mp hs).1
  have h3 : (rb_W V).set i (.inl (ci, (fs.map (rb_bv V)).set sl (.int v))) = rb_W (rb_sg V g (rb_u2 (V g) r j v)) := by
    refine rb_W_set hi ho ?_
    show Sum.inl (ci, fs.map (rb_bv _)) = _
    congr 2
    apply List.ext_getElem?
    intro q
    by_cases hq : sl = q
    · subst hq
      rw [List.getElem?_set_self hl, List.getElem?_map, hs]
      show some (Value.int (rb_sg V g (rb_u1 (V g) r (upd (V g r) j v)) g r j)) = _
      rw [rb_sg_self, rb_u1_self]
      unfold upd
      rw [if_pos rfl]
    · rw [List.getElem?_set_ne hq, List.getElem?_map, List.getElem?_map]
      cases hfq : fs[q]? with
      | none => rfl
      | some f =>
        rcases f with a | ⟨g1, r1, j1⟩
        · rfl
        · show some (Value.int (rb_sg V g (rb_u1 (V g) r (upd (V g r) j v)) g1 r1 j1)) = some (Value.int (V g1 r1 j1))
          have hne : ¬ (g1 = g ∧ r1 = r ∧ j1 = j) := by
            rintro ⟨rfl, rfl, rfl⟩
            exact hq (hu q hfq).symm
          by_cases e1 : g1 = g
          · subst e1
            rw [rb_sg_self]
            by_cases e2 : r1 = r
            · subst e2
              rw [rb_u1_self]
              unfold upd
              rw [if_neg (fun e3 => hne ⟨rfl, rfl, e3⟩)]
            · rw [rb_u1_ne _ _ e2]
          · rw [rb_sg_ne _ _ e1]
  exact rb_G_mem hd rfl (by simp only [rb_mem, hf, h1, if_true, h3, hl, hok, hfn, true_and, Bool.false_eq_true, false_implies]) (Or.inl (by rw [rb_W_len, rb_W_len]))
theorem rb_rowD {n j : Nat} {f : Nat → Int32} (h : j < n) : ((List.range n).map f).getD j 0 = f j := by
  rw [List.getD_eq_getElem?_getD, List.getElem?_map, List.getElem?_range h]
  rfl
theorem g_iald {i g r n : Nat} {j : Int32} (hd : decode (rb_by k) pc = .ok (.iaload, 1)) (hi : rb_shapes[i]? = some (.inr (.inl (g, r, n)))) (hj : rb_inb j n = true) : rb_G sc k pc ls (.int j :: .ref i :: st) (rb_W V) P ↔ rb_G sc k (pc + 1) ls (.int (V g r j.toNatClampNeg) :: st) (rb_W V) P := by
  have h1 : (rb_W V)[i]? = some (.inr (.inl ((List.range n).map (V g r)))) := rb_W_at hi
  have h2 : ((List.range n).map (V g r)).length = n := by rw [List.length_map, List.length_range]
  exact rb_G_mem hd rfl (by simp only [rb_mem, h1, if_true, h2, hj, rb_rowD (rb_inb_lt hj)]) (Or.inl rfl)
theorem g_iast {i g r n : Nat} {j x : Int32} (hd : decode (rb_by k) pc = .ok (.iastore, 1)) (hi : rb_shapes[i]? = some (.inr (.inl (g, r, n)))) (ho : rb_own g r = i) (hj : rb_inb j n = true) : rb_G sc k pc ls (.int x :: .int j :: .ref i :: st) (rb_W V) P ↔ rb_G sc k (pc + 1) ls st (rb_W (rb_sg V g (rb_u2 (V g) r j.toNatClampNeg x))) P := by
  have h1 : (rb_W V)[i]? = some (.inr (.inl ((List.range n).map (V g r)))) := rb_W_at hi
  have h2 : ((List.range n).map (V g r)).length = n := by rw [List.length_map, List.length_range]
  have h3 : (rb_W V).set i (.inr (.inl (((List.range n).map (V g r)).set j.toNatClampNeg x))) = rb_W (rb_sg V g (rb_u2 (V g) r j.toNatClampNeg x)) := by
    refine rb_W_set hi ho ?_
    show Sum.inr (Sum.inl ((List.range n).map (rb_sg V g (rb_u1 (V g) r (upd (V g r) j.toNatClampNeg x)) g r))) = _
    rw [rb_sg_self, rb_u1_self]
    congr 2
    apply List.ext_getElem?
    intro q
    by_cases hq : j.toNatClampNeg = q
    · subst hq
      rw [List.getElem?_set_self (by rw [h2]; exact rb_inb_lt hj), List.getElem?_map, List.getElem?_range (rb_inb_lt hj)]
      show some (upd _ _ x _) = _
      unfold upd
      rw [if_pos rfl]
    · rw [List.getElem?_set_ne hq, List.getElem?_map, List.getElem?_map]
      cases hr : (List.range n)[q]? with
      | none => rfl
      | some z =>
        have hz : z = q := by
          have := List.getElem?_eq_some_iff.mp hr
          obtain ⟨h4, h5⟩ := this
          rw [List.getElem_range] at h5
          exact h5.symm
        subst hz
        show some (upd _ _ x z) = _
        unfold upd
        rw [if_neg (fun e => hq e.symm)]
        rfl
  exact rb_G_mem hd rfl (by simp only [rb_mem, h1, if_true, h2, hj, h3]) (Or.inl (by rw [rb_W_len, rb_W_len]))
theorem g_alen {i g r n : Nat} {v : Int32} (hd : decode (rb_by k) pc = .ok (.arraylength, 1)) (hi : rb_shapes[i]? = some (.inr (.inl (g, r, n)))) (hv : Int32.ofNat n = v) : rb_G sc k pc ls (.ref i :: st) (rb_W V) P ↔ rb_G sc k (pc + 1) ls (.int v :: st) (rb_W V) P := by
  have h1 : (rb_W V)[i]? = some (.inr (.inl ((List.range n).map (V g r)))) := rb_W_at hi
  have h2 : ((List.range n).map (V g r)).length = n := by rw [List.length_map, List.length_range]
  exact rb_G_mem hd rfl (by simp only [rb_mem, h1, if_true, h2, hv]) (Or.inl rfl)
theorem g_alenH (hd : decode (rb_by k) pc = .ok (.arraylength, 1)) : rb_G sc k pc ls (.ref 48 :: st) (rb_W V) P ↔ rb_G sc k (pc + 1) ls (.int 8 :: st) (rb_W V) P := by
  have h1 : (rb_W V)[48]? = some (.inr (.inr (((List.range 8).map fun i => rb_st (2 + i)).map some))) := rb_W_at rb_sh_ha
  exact rb_G_mem hd rfl (by simp only [rb_mem, h1, if_true]; rfl) (Or.inl rfl)
theorem g_aald {j : Int32} (hd : decode (rb_by k) pc = .ok (.aaload, 1)) (hj : rb_inb j 8 = true) : rb_G sc k pc ls (.int j :: .ref 48 :: st) (rb_W V) P ↔ rb_G sc k (pc + 1) ls (.ref (rb_st (2 + j.toNatClampNeg)) :: st) (rb_W V) P := by
  have h1 : (rb_W V)[48]? = some (.inr (.inr (((List.range 8).map fun i => rb_st (2 + i)).map some))) := rb_W_at rb_sh_ha
  have h2 : (((List.range 8).map fun i => rb_st (2 + i)).map some).length = 8 := by rw [List.length_map, List.length_map, List.length_range]
  have h3 : (((List.range 8).map fun i => rb_st (2 + i)).map some).getD j.toNatClampNeg none = some (rb_st (2 + j.toNatClampNeg)) := by
    rw [List.getD_eq_getElem?_getD, List.getElem?_map, List.getElem?_map, List.getElem?_range (rb_inb_lt hj)]
    rfl
  exact rb_G_mem hd rfl (by simp only [rb_mem, h1, if_true, h2, hj, h3, rb_rf]) (Or.inl rfl)
theorem g_copy {ix i i' g r g' r' n : Nat} {m : Int32} (hd : decode (rb_by k) pc = .ok (.invokestatic ix, 3)) (hf : rb_find rb_il (rb_ow k) ix = some (0, 6)) (hh : 1 ≤ rb_h k) (hi : rb_shapes[i]? = some (.inr (.inl (g, r, n)))) (hi' : rb_shapes[i']? = some (.inr (.inl (g', r', n)))) (ho : rb_own g r = i) (hm : m = Int32.ofNat n) (hn : n < 2000) (hst : st.length ≤ 4) : rb_G sc k pc ls (.int m :: .int 0 :: .ref i :: .int 0 :: .ref i' :: st) (rb_W V) P ↔ rb_G sc k (pc + 3) ls st (rb_W (rb_sg V g (rb_u1 (V g) r (V g' r')))) P := by
  subst hm
  have h1 : (rb_W V)[i]? = some (.inr (.inl ((List.range n).map (V g r)))) := rb_W_at hi
  have h1' : (rb_W V)[i']? = some (.inr (.inl ((List.range n).map (V g' r')))) := rb_W_at hi'
  have h2 : ((List.range n).map (V g r)).length = n := by rw [List.length_map, List.length_range]
  have h2' : ((List.range n).map (V g' r')).length = n := by rw [List.length_map, List.length_range]
  have e1 : (Int32.ofNat n).toNatClampNeg = n := by
    exact nI_clamp (n := n) (by omega)
  have e2 : ¬ Int32.ofNat n < 0 := by
    exact nI_pos (n := n) (by omega)
  have h3 : (rb_W V).set i (.inr (.inl (((List.range n).map (V g' r')).take n ++ ((List.range n).map (V g r)).drop n))) = rb_W (rb_sg V g (rb_u1 (V g) r (V g' r'))) := by
    refine rb_W_set hi ho ?_
    show Sum.inr (Sum.inl ((List.range n).map (rb_sg V g (rb_u1 (V g) r (V g' r')) g r))) = _
    rw [rb_sg_self, rb_u1_self, List.take_of_length_le (by rw [h2']; exact Nat.le_refl _), List.drop_of_length_le (by rw [h2]; exact Nat.le_refl _), List.append_nil]
  exact rb_G_mem hd (by simp only [rb_ki, hf, if_true]) (by simp only [rb_mem, hf, hh, h1, h1', if_true, h2, h2', e1, e2, h3, hst, and_self, not_false_eq_true, Nat.le_refl]) (Or.inl (by rw [rb_W_len, rb_W_len]))
/-- a place where an object of the class stands -/
def rb_isB (M : rb_M) (a : Nat) : Prop := ∃ fs, M[a]? = some (.inl (4, fs))
theorem rb_W_scr : (rb_W V)[rb_scr]? = none := by rw [List.getElem?_eq_none_iff, rb_W_len]; decide
theorem g_sald {xs : List Int32} {j : Int32} (hd : decode (rb_by k) pc = .ok (.iaload, 1)) (hj : rb_inb j xs.length = true) : rb_G (some xs) k pc ls (.int j :: .ref rb_scr :: st) (rb_W V) P ↔ rb_G (some xs) k (pc + 1) ls (.int (xs.getD j.toNatClampNeg 0) :: st) (rb_W V) P :=
  rb_G_mem hd rfl (by simp only [rb_mem, rb_W_scr, if_true, hj]) (Or.inl rfl)
theorem g_slen {xs : List Int32} (hd : decode (rb_by k) pc = .ok (.arraylength, 1)) : rb_G (some xs) k pc ls (.ref rb_scr :: st) (rb_W V) P ↔ rb_G (some xs) k (pc + 1) ls (.int (Int32.ofNat xs.length) :: st) (rb_W V) P :=
  rb_G_mem hd rfl (by simp only [rb_mem, rb_W_scr, if_true]) (Or.inl rfl)
theorem g_saldM {xs : List Int32} {j : Int32} {M : rb_M} (hd : decode (rb_by k) pc = .ok (.iaload, 1)) (hM : M[rb_scr]? = none) (hj : rb_inb j xs.length = true) : rb_G (some xs) k pc ls (.int j :: .ref rb_scr :: st) M P ↔ rb_G (some xs) k (pc + 1) ls (.int (xs.getD j.toNatClampNeg 0) :: st) M P :=
  rb_G_mem hd rfl (by simp only [rb_mem, hM, if_true, hj]) (Or.inl rfl)
theorem g_slenM {xs : List Int32} {M : rb_M} (hd : decode (rb_by k) pc = .ok (.arraylength, 1)) (hM : M[rb_scr]? = none) : rb_G (some xs) k pc ls (.ref rb_scr :: st) M P ↔ rb_G (some xs) k (pc + 1) ls (.int (Int32.ofNat xs.length) :: st) M P :=
  rb_G_mem hd rfl (by simp only [rb_mem, hM, if_true]) (Or.inl rfl)
theorem g_callS {ix k' kd : Nat} {as rest st0 : List Value} {M : rb_M} (hd : decode (rb_by k) pc = .ok (.invokestatic ix, 3)) (hf : rb_find rb_il (rb_ow k) ix = some (k', kd)) (hkd : kd = 1 ∨ kd = 3) (hh : rb_h k' < rb_h k) (hn : as.length = rb_na k') (ha : as.length ≤ rb_ml k' ∧ as.all (fun v => v.category == 1) = true) (hal : rb_al k' = false) (hs : st0 = as.reverse ++ rest) (hr : rest.length ≤ 4) {lk : rb_L} (he : rb_ent k' as = lk) : rb_G sc k pc ls st0 M P ↔ rb_G sc k' 0 lk [] M (fun r1 M1 => rb_G sc k (pc + 3) ls (r1.toList ++ rest) M1 P) := by
  subst he
  have hlr : as.reverse.length = rb_na k' := by rw [List.length_reverse, hn]
  refine rb_G_call hd (by
    have : ¬ (k', kd) = (0, 6) := fun q => by cases q; omega
    simp only [rb_ki, hf, Option.some.injEq, if_neg this]) ?_ ha hal
  rw [hs]
  simp only [rb_call, hf, if_true, ← hlr, List.drop_left, List.take_left, List.reverse_reverse]
  rw [if_pos ⟨hkd, hh, hr, by rw [List.length_append]; omega⟩]
theorem g_callV {ix k' a ci : Nat} {fs as0 rest st0 : List Value} {M : rb_M} (hd : decode (rb_by k) pc = .ok (.invokevirtual ix, 3)) (hf : rb_find rb_il (rb_ow k) ix = some (k', 0)) (hh : rb_h k' < rb_h k) (hM : M[a]? = some (.inl (ci, fs))) (hci : ci = rb_ow k' ∧ ci < 5) (hn : as0.length + 1 = rb_na k') (ha : as0.length + 1 ≤ rb_ml k' ∧ as0.all (fun v => v.category == 1) = true) (hal : rb_al k' = false) (hs : st0 = as0.reverse ++ .ref a :: rest) (hr : rest.length ≤ 4) {lk : rb_L} (he : rb_ent k' (.ref a :: as0) = lk) : rb_G sc k pc ls st0 M P ↔ rb_G sc k' 0 lk [] M (fun r1 M1 => rb_G sc k (pc + 3) ls (r1.toList ++ rest) M1 P) := by
  subst he
  have hs' : st0 = (Value.ref a :: as0).reverse ++ rest := by rw [hs, List.reverse_cons, List.append_assoc]; rfl
  have hlr : (Value.ref a :: as0).reverse.length = rb_na k' := by rw [List.length_reverse, ← hn]; rfl
  refine rb_G_call hd rfl ?_ ⟨ha.1, by rw [List.all_cons, ha.2]; rfl⟩ hal
  rw [hs']
  simp only [rb_call, hf, if_true, ← hlr, List.drop_left, List.take_left, List.reverse_reverse, hM]
  rw [if_pos ⟨trivial, hh, hr, by rw [List.length_append]; omega⟩, if_pos hci]
theorem g_callVB {ix k' a : Nat} {as0 rest st0 : List Value} {M : rb_M} (hd : decode (rb_by k) pc = .ok (.invokevirtual ix, 3)) (hf : rb_find rb_il (rb_ow k) ix = some (k', 0)) (hh : rb_h k' < rb_h k) (hM : rb_isB M a) (hci : 4 = rb_ow k' ∧ 4 < 5) (hn : as0.length + 1 = rb_na k') (ha : as0.length + 1 ≤ rb_ml k' ∧ as0.all (fun v => v.category == 1) = true) (hal : rb_al k' = false) (hs : st0 = as0.reverse ++ .ref a :: rest) (hr : rest.length ≤ 4) {lk : rb_L} (he : rb_ent k' (.ref a :: as0) = lk) : rb_G sc k pc ls st0 M P ↔ rb_G sc k' 0 lk [] M (fun r1 M1 => rb_G sc k (pc + 3) ls (r1.toList ++ rest) M1 P) := by
  obtain ⟨fs, hM⟩ := hM
  exact g_callV hd hf hh hM hci hn ha hal hs hr he
end RBW
