/-! THE INTERPRETER AGAINST THE MACHINE, 2: cells -/
def rb_en (ad : Nat → Nat) (cA : ClassId) (o : rb_O) : va_E := match o with
  | .inl (ci, fs) => .inr (ci, fs.map (rb_tr ad))
  | .inr (.inl xs) => .inl (cA, xs.length, .inl (fun j => xs.getD j 0))
  | .inr (.inr rs) => .inl (cA, rs.length, .inr (.inr (.inr (.inr (fun j => (rs.getD j none).map ad)))))
def rb_ws (ad : Nat → Nat) (cA : Nat → ClassId) (M : rb_M) : va_W := M.mapIdx fun i o => (ad i, rb_en ad (cA i) o)
def rb_ot (o : rb_O) : Option FieldType := match o with
  | .inl _ => none
  | .inr (.inl _) => some .int
  | .inr (.inr _) => some (.object RX3)
def rb_KA (D : va_G) (cA : Nat → ClassId) (M : rb_M) (s : State) : Prop := ∀ (i : Nat) (o : rb_O) (ty : FieldType), M[i]? = some o → rb_ot o = some ty → va_K D vwCl [(cA i, ty)] s
def rb_Wd (D : va_G) (ad : Nat → Nat) (cA : Nat → ClassId) (M : rb_M) (A : Nat → Prop) (s : State) (H : Heap) : Prop := va_P D vwCl (rb_ws ad cA M) H ∧ va_D A (rb_ws ad cA M) ∧ rb_KA D cA M s
theorem rb_ws_at {ad : Nat → Nat} {cA : Nat → ClassId} {M : rb_M} {i : Nat} {o : rb_O} (h : M[i]? = some o) : (rb_ws ad cA M)[i]? = some (ad i, rb_en ad (cA i) o) := by
  unfold rb_ws
  rw [List.getElem?_mapIdx, h]
  rfl
theorem rb_ws_set {ad : Nat → Nat} {cA : Nat → ClassId} {M : rb_M} {i : Nat} {o : rb_O} : (rb_ws ad cA M).set i (ad i, rb_en ad (cA i) o) = rb_ws ad cA (M.set i o) := by
  unfold rb_ws
  apply List.ext_getElem?
  intro j
  rw [List.getElem?_mapIdx]
  by_cases h : i = j
  · subst h
    rw [List.getElem?_set_self', List.getElem?_set_self', List.getElem?_mapIdx]
    cases M[i]? <;> rfl
  · rw [List.getElem?_set_ne h, List.getElem?_set_ne h, List.getElem?_mapIdx]
theorem rb_KA_set {D : va_G} {cA : Nat → ClassId} {M : rb_M} {s : State} {i : Nat} {o o' : rb_O} (h : rb_KA D cA M s) (ho : M[i]? = some o) (he : rb_ot o' = rb_ot o) : rb_KA D cA (M.set i o') s := by
  intro j q ty hj hty
  by_cases hij : i = j
  · subst hij
    rw [List.getElem?_set_self', ho] at hj
    have hq : o' = q := Option.some.inj hj
    subst hq
    exact h i o ty ho (he ▸ hty)
  · rw [List.getElem?_set_ne hij] at hj
    exact h j q ty hj hty
def rb_up {α : Type} (f : Nat → α) (i : Nat) (q : α) : Nat → α := fun j => if j = i then q else f j
theorem rb_up_self {α : Type} (f : Nat → α) (i : Nat) (q : α) : rb_up f i q i = q := if_pos rfl
theorem rb_up_ne {α : Type} (f : Nat → α) {i j : Nat} (q : α) (h : j ≠ i) : rb_up f i q j = f j := if_neg h
theorem rb_tr_up {ad : Nat → Nat} {i q : Nat} {v : Value} (h : rb_nr i v = true) : rb_tr (rb_up ad i q) v = rb_tr ad v := by
  cases v <;> try rfl
  rename_i a
  show Value.ref (rb_up ad i q a) = .ref (ad a)
  rw [rb_up_ne]
  simpa [rb_nr] using h
theorem rb_en_up {ad : Nat → Nat} {i q : Nat} {c : ClassId} {o : rb_O} (h : rb_no i o = true) : rb_en (rb_up ad i q) c o = rb_en ad c o := by
  rcases o with ⟨ci, fs⟩ | xs | rs
  · have : fs.map (rb_tr (rb_up ad i q)) = fs.map (rb_tr ad) := List.map_congr_left fun v hv => rb_tr_up (List.all_eq_true.mp h v hv)
    show Sum.inr (ci, fs.map (rb_tr (rb_up ad i q))) = _
    rw [this]; rfl
  · rfl
  · have : (fun j => (rs.getD j none).map (rb_up ad i q)) = fun j => (rs.getD j none).map ad := by
      funext j
      rw [List.getD_eq_getElem?_getD]
      cases hj : rs[j]? with
      | none => rfl
      | some r =>
        cases r with
        | none => rfl
        | some a =>
          have h1 : rb_nr i (rb_rf (some a)) = true := List.all_eq_true.mp h (some a) (List.mem_of_getElem? hj)
          show some (rb_up ad i q a) = some (ad a)
          rw [rb_up_ne]
          simpa [rb_nr, rb_rf] using h1
    show Sum.inl (c, rs.length, Sum.inr (Sum.inr (Sum.inr (Sum.inr (fun j => (rs.getD j none).map (rb_up ad i q)))))) = _
    rw [this]; rfl
theorem rb_ws_new {ad : Nat → Nat} {cA : Nat → ClassId} {M : rb_M} {q : Nat} {c : ClassId} {o : rb_O} (h : M.all (rb_no M.length) = true) : rb_ws (rb_up ad M.length q) (rb_up cA M.length c) (M ++ [o]) = rb_ws ad cA M ++ [(q, rb_en (rb_up ad M.length q) c o)] := by
  unfold rb_ws
  rw [List.mapIdx_append]
  congr 1
  · apply List.ext_getElem?
    intro j
    rw [List.getElem?_mapIdx, List.getElem?_mapIdx]
    cases hj : M[j]? with
    | none => rfl
    | some x =>
      have hl : j < M.length := (List.getElem?_eq_some_iff.mp hj).1
      show some (rb_up ad M.length q j, rb_en (rb_up ad M.length q) (rb_up cA M.length c j) x) = some (ad j, rb_en ad (cA j) x)
      rw [rb_up_ne _ _ (by omega), rb_up_ne _ _ (by omega), rb_en_up (List.all_eq_true.mp h x (List.mem_of_getElem? hj))]
  · show [(rb_up ad M.length q (0 + M.length), rb_en (rb_up ad M.length q) (rb_up cA M.length c (0 + M.length)) o)] = _
    rw [Nat.zero_add, rb_up_self, rb_up_self]
theorem rb_KA_new {D : va_G} {cA : Nat → ClassId} {M : rb_M} {s : State} {c : ClassId} {o : rb_O} (h : rb_KA D cA M s) (ho : ∀ ty, rb_ot o = some ty → va_K D vwCl [(c, ty)] s) : rb_KA D (rb_up cA M.length c) (M ++ [o]) s := by
  intro j q ty hj hty
  by_cases hl : j < M.length
  · rw [List.getElem?_append_left hl] at hj
    rw [rb_up_ne _ _ (by omega)]
    exact h j q ty hj hty
  · rw [List.getElem?_append_right (by omega)] at hj
    have h0 : j - M.length = 0 := by
      cases hz : j - M.length with
      | zero => rfl
      | succ n => rw [hz] at hj; cases hj
    rw [h0] at hj
    have hq : o = q := Option.some.inj hj
    subst hq
    have : j = M.length := by omega
    subst this
    rw [rb_up_self]
    exact ho ty hty
theorem rb_lok_up {k nL i q : Nat} {ad : Nat → Nat} {ls : rb_L} {arr : Array Slot} (h : rb_lok k ad ls arr nL) (hf : ls.all (rb_nl i) = true) : rb_lok k (rb_up ad i q) ls arr nL := by
  refine ⟨h.1, h.2.1, h.2.2.1, fun j v hj => ?_, h.2.2.2.2⟩
  rw [rb_tr_up]
  · exact h.2.2.2.1 j v hj
  · exact List.all_eq_true.mp hf _ (List.mem_of_getElem? hj)
theorem rb_map_up {i q : Nat} {ad : Nat → Nat} {st : List Value} (hf : st.all (rb_nr i) = true) : st.map (rb_tr (rb_up ad i q)) = st.map (rb_tr ad) := List.map_congr_left fun v hv => rb_tr_up (List.all_eq_true.mp hf v hv)
theorem rb_okv_ok {ad : Nat → Nat} {ty : FieldType} {v : Value} (h : rb_okv ty v = true) : narrow ty (rb_tr ad v) = rb_tr ad v ∧ fits ty (rb_tr ad v) = true := by
  cases ty <;> cases v <;> first | (simp [rb_okv] at h; done) | skip
  case boolean.int v =>
    have hv : v = 0 ∨ v = 1 := by simpa [rb_okv] using h
    rcases hv with rfl | rfl
    · exact ⟨rfl, rfl⟩
    · exact ⟨rfl, rfl⟩
  all_goals exact ⟨rfl, rfl⟩
theorem rb_inb_in {j : Int32} {n : Nat} (h : rb_inb j n = true) : vp_in j n := by
  unfold rb_inb at h
  unfold vp_in
  intro hc
  rcases hc with hc | hc
  · simp [hc] at h
  · simp [hc] at h
theorem rb_inb_lt {j : Int32} {n : Nat} (h : rb_inb j n = true) : j.toNatClampNeg < n := by
  have := rb_inb_in h
  unfold vp_in at this
  omega
def rb_agr (ad ad' : Nat → Nat) (a b : Nat) : Prop := ∀ i, (i < a ∨ b ≤ i) → ad' i = ad i
theorem rb_sl_set {M : rb_M} {i : Nat} {o o' : rb_O} (ho : M[i]? = some o) (hs : rb_sz o' = rb_sz o) : rb_sl (M.set i o') = rb_sl M := by
  unfold rb_sl
  congr 1
  apply List.ext_getElem?
  intro j
  rw [List.getElem?_map, List.getElem?_map]
  by_cases h : i = j
  · subst h
    rw [List.getElem?_set_self', ho]
    show some (rb_sz o') = some (rb_sz o)
    rw [hs]
  · rw [List.getElem?_set_ne h]
theorem rb_sl_app (M : rb_M) (o : rb_O) : rb_sl (M ++ [o]) = rb_sl M + rb_sz o := by
  unfold rb_sl
  rw [List.map_append, List.sum_append]
  simp
theorem rb_cat_sum : ∀ (st : List Value), (st.map fun v => v.category).sum ≤ 2 * st.length
  | [] => Nat.zero_le _
  | v :: st => by
    have h1 := rb_cat_sum st
    have h2 : v.category ≤ 2 := by cases v <;> simp [Value.category]
    simp only [List.map_cons, List.sum_cons, List.length_cons]
    omega
theorem rb_cls_at {ci : Nat} (h : ci < 5) : (∀ w ∈ u_ws (rb_cn ci) (rb_tt ci) (rb_nn ci), w ∈ rb_gw) := by
  have h1 := List.all_eq_true.mp rb_us_ok ci (List.mem_range.mpr h)
  exact fun w hw => rb_is_in (List.all_eq_true.mp h1 w hw)
/-- the script: cells that nobody writes -/
def rb_Xs (sc : Option (List Int32)) (ad : Nat → Nat) (A : Nat → Prop) (s : State) (H0 : Heap) : Prop := ∀ xs, sc = some xs → va_X (ad rb_scr) xs.length (fun j => xs.getD j 0) s H0 ∧ ad rb_scr < H0.size ∧ ¬ A (ad rb_scr)
section RBC
variable {p : Program} {l : Launch} {e : Env} {R : Room} {s : State} {m : MethodId} {args : Array Value} {below : List Frame} {meth : Method} {c : Code} {H : Heap} {locs : List Loc} {cells slots : Nat} {Q : State → Prop}
/-- what a frame stands on -/
def rb_cx (p : Program) (R : Room) (s : State) (m : MethodId) (args : Array Value) (meth : Method) (c : Code) (D : va_G) (k : Nat) : Prop :=
  p.tables.exec = Jvm.exec ∧ c.code = rb_by k ∧ c.maxLocals = rb_ml k ∧ s.vm.findClass (rb_cn (rb_ow k)) = some m.cls ∧ (∀ w ∈ rb_gw, w.before args s = true) ∧ (rb_in k = true → meth.name = "<init>") ∧ rb_h k ≤ R.frames ∧ 35 * rb_h k ≤ R.locals ∧ va_K D vwCl [] s ∧ (∀ w ∈ rb_nest, va_Nw w s) ∧ va_AO RX3 s
theorem rb_cells0 {H1 : Heap} {locs1 : List Loc} {g : JFrame} (h : W p l e R s m args below meth c H1 locs1 (cells + 0) (slots + 0) Q g) : W p l e R s m args below meth c H1 locs1 cells slots Q g := h
set_option maxHeartbeats 4000000 in
theorem rb_mem_ok {k pc len : Nat} {D : va_G} {ad : Nat → Nat} {cA : Nat → ClassId} {i : Instr} {ls : rb_L} {st st' : List Value} {M M' : rb_M} {arr : Array Slot} {A : Nat → Prop} {H0 : Heap} {sc : Option (List Int32)} (C : rb_cx p R s m args meth c D k) (hd : decode (rb_by k) pc = .ok (i, len)) (hl : rb_lok k ad ls arr (rb_ml k)) (hW : rb_Wd D ad cA M A s H) (hS : va_S A H0 H locs) (hA : ∀ q, H0.size ≤ q → A q) (hX : rb_Xs sc ad A s H0)
    (h : rb_mem k i len sc ls st M = some (st', M'))
    (hroom : ∀ dc ds, M'.length = M.length + dc → rb_sl M' = rb_sl M + ds → cells + dc ≤ R.cells ∧ slots + ds ≤ R.slots)
    (kk : ∀ (ad' : Nat → Nat) (cA' : Nat → ClassId) (H' : Heap) (locs' : List Loc) (dc ds : Nat), M'.length = M.length + dc → rb_sl M' = rb_sl M + ds → M.length ≤ M'.length → (M'.length ≤ rb_scr ∨ M'.length = M.length) → rb_agr ad ad' M.length M'.length → rb_lok k ad' ls arr (rb_ml k) → rb_Wd D ad' cA' M' A s H' → va_S A H0 H' locs' → W p l e R s m args below meth c H' locs' (cells + dc) (slots + ds) Q (F0 m (pc + len) arr (st'.map (rb_tr ad')))) :
    W p l e R s m args below meth c H locs cells slots Q (F0 m pc arr (st.map (rb_tr ad))) := by
  obtain ⟨hx, hb, hml, hown, hts, hin, hfr, hlo, hK, hNw, hAO⟩ := C
  obtain ⟨hP, hD, hKA⟩ := hW
  have kR : ∀ {v : List Value}, M' = M → st' = v → W p l e R s m args below meth c H locs cells slots Q (F0 m (pc + len) arr (v.map (rb_tr ad))) := by
    intro v e1 e2
    subst e1; subst e2
    exact rb_cells0 (kk ad cA H locs 0 0 rfl rfl (Nat.le_refl _) (Or.inr rfl) (fun _ _ => rfl) hl ⟨hP, hD, hKA⟩ hS)
  have kS : ∀ {a : Nat} {o o' : rb_O} {v : List Value} (H1 : Heap) (locs1 : List Loc), M[a]? = some o → rb_ot o' = rb_ot o → rb_sz o' = rb_sz o → M' = M.set a o' → st' = v → va_P D vwCl ((rb_ws ad cA M).set a (ad a, rb_en ad (cA a) o')) H1 → va_D A ((rb_ws ad cA M).set a (ad a, rb_en ad (cA a) o')) → va_S A H0 H1 locs1 → W p l e R s m args below meth c H1 locs1 cells slots Q (F0 m (pc + len) arr (v.map (rb_tr ad))) := by
    intro a o o' v H1 locs1 ho ht hz e1 e2 hP1 hD1 hS1
    subst e1; subst e2
    rw [rb_ws_set] at hP1 hD1
    have hlen : (M.set a o').length = M.length := List.length_set
    exact rb_cells0 (kk ad cA H1 locs1 0 0 hlen (rb_sl_set ho hz) (by rw [hlen]; exact Nat.le_refl _) (Or.inr hlen) (fun _ _ => rfl) hl ⟨hP1, hD1, rb_KA_set hKA ho ht⟩ hS1)
  have kN : ∀ {o : rb_O} {cA1 : ClassId} {q : Nat} {v : List Value} {e0 : va_E} (H1 : Heap), M' = M ++ [o] → st' = .ref M.length :: v → M.length < rb_scr → rb_fresh M.length ls v M = true → rb_en (rb_up ad M.length q) cA1 o = e0 → (∀ ty, rb_ot o = some ty → va_K D vwCl [(cA1, ty)] s) → va_P D vwCl (rb_ws ad cA M ++ [(q, e0)]) H1 → va_D A (rb_ws ad cA M ++ [(q, e0)]) → va_S A H0 H1 locs → W p l e R s m args below meth c H1 locs (cells + 1) (slots + rb_sz o) Q (F0 m (pc + len) arr (.ref q :: v.map (rb_tr ad))) := by
    intro o cA1 q v e0 H1 e1 e2 hlt hf he hk hP1 hD1 hS1
    subst e1; subst e2; subst he
    unfold rb_fresh at hf
    rw [Bool.and_eq_true, Bool.and_eq_true] at hf
    rw [← rb_ws_new hf.2.2] at hP1 hD1
    have hlen : (M ++ [o]).length = M.length + 1 := by simp
    have := kk (rb_up ad M.length q) (rb_up cA M.length cA1) H1 locs 1 (rb_sz o) hlen (rb_sl_app M o) (by rw [hlen]; omega) (Or.inl (by rw [hlen]; omega)) (fun j hj => rb_up_ne _ _ (by rw [hlen] at hj; omega)) (rb_lok_up hl hf.1) ⟨hP1, hD1, rb_KA_new hKA hk⟩ hS1
    rw [List.map_cons, rb_map_up hf.2.1] at this
    have e3 : rb_tr (rb_up ad M.length q) (.ref M.length) = .ref q := by show Value.ref (rb_up ad M.length q M.length) = _; rw [rb_up_self]
    rw [e3] at this
    exact this
  have rN : ∀ {o : rb_O}, M' = M ++ [o] → cells + 1 ≤ R.cells ∧ slots + rb_sz o ≤ R.slots := by
    intro o e1
    exact hroom 1 (rb_sz o) (by rw [e1]; simp) (by rw [e1]; exact rb_sl_app M o)
  cases i <;> simp only [rb_mem] at h <;> (try cases h)
  case getfield ix =>
    replace h := rb_ite_inv h; obtain ⟨rfl, h⟩ := h
    split at h
    · rename_i a st0 ci sl hf
      have hfo := List.all_eq_true.mp rb_fl_ok _ (rb_find_mem hf)
      simp only [Bool.and_eq_true, decide_eq_true_eq] at hfo
      split at h
      · rename_i cj fs ho
        replace h := rb_ite_inv h; obtain ⟨rfl, h⟩ := h
        split at h
        · rename_i v hv
          cases h
          refine va_get (D := D) (cl := vwCl) (tys := []) (ci := cj) (v := rb_tr ad v) (C := rb_cn cj) (T := rb_tt cj) (N := rb_nn cj) hx hb hts (rb_cls_at hfo.2.1) hown hK hP a (rb_ws_at ho) (rb_vw cj hfo.2.1) sl hfo.2.2 (hts _ (rb_is_in hfo.1)) (fun _ h9 => h9) (by show (fs.map (rb_tr ad))[sl]? = _; rw [List.getElem?_map, hv]; rfl) hd (kR rfl rfl)
        · cases h
      · cases h
    · cases h
  case putfield ix =>
    replace h := rb_ite_inv h; obtain ⟨rfl, h⟩ := h
    split at h
    · rename_i v a st0 ci sl hf
      have hfo := List.all_eq_true.mp rb_fl_ok _ (rb_find_mem hf)
      simp only [Bool.and_eq_true, decide_eq_true_eq] at hfo
      split at h
      · rename_i cj fs ho
        replace h := rb_ite_inv h; obtain ⟨⟨rfl, hsl, hok, hfi⟩, h⟩ := h
        cases h
        have hnf := rb_okv_ok (ad := ad) hok
        have hty := rb_ft cj hfo.2.1 sl hfo.2.2
        by_cases hfn : rb_fn cj sl = true
        · obtain ⟨h1, h2⟩ := hfi hfn
          refine va_putF (D := D) (cl := vwCl) (tys := []) (ci := cj) (v := rb_tr ad v) (ty := rb_ty cj sl) (C := rb_cn cj) (T := rb_tt cj) (N := rb_nn cj) hx hb hts (rb_cls_at hfo.2.1) (rb_ty cj) (rb_ft cj hfo.2.1) (rb_fnm cj hfo.2.1) hown hK hP hD hS a (rb_ws_at ho) (rb_vw cj hfo.2.1) sl hfo.2.2 (hts _ (rb_is_in hfo.1)) (fun _ h9 => h9) (by rw [rb_fnal cj hfo.2.1]; exact hfn) (hin h1) (by rw [rb_fcl cj hfo.2.1 sl hfo.2.2, h2]) hty hnf.1 hnf.2 (by rw [List.length_map]; exact hsl) hd (fun H1 locs1 hP1 hD1 hS1 => ?_)
          rw [← List.map_set] at hP1 hD1
          exact kS (o := .inl (cj, fs)) (o' := .inl (cj, fs.set sl v)) H1 locs1 ho rfl (by show (fs.set sl v).length = fs.length; exact List.length_set) rfl rfl hP1 hD1 hS1
        · refine va_put (D := D) (cl := vwCl) (tys := []) (ci := cj) (v := rb_tr ad v) (ty := rb_ty cj sl) (C := rb_cn cj) (T := rb_tt cj) (N := rb_nn cj) hx hb hts (rb_cls_at hfo.2.1) (rb_ty cj) (rb_ft cj hfo.2.1) (rb_fnm cj hfo.2.1) hown hK hP hD hS a (rb_ws_at ho) (rb_vw cj hfo.2.1) sl hfo.2.2 (hts _ (rb_is_in hfo.1)) (fun _ h9 => h9) (by rw [rb_fnal cj hfo.2.1]; exact Bool.eq_false_iff.mpr hfn) hty hnf.1 hnf.2 (by rw [List.length_map]; exact hsl) hd (fun H1 locs1 hP1 hD1 hS1 => ?_)
          rw [← List.map_set] at hP1 hD1
          exact kS (o := .inl (cj, fs)) (o' := .inl (cj, fs.set sl v)) H1 locs1 ho rfl (by show (fs.set sl v).length = fs.length; exact List.length_set) rfl rfl hP1 hD1 hS1
      · cases h
    · cases h
  case iaload =>
    replace h := rb_ite_inv h; obtain ⟨rfl, h⟩ := h
    split at h
    · rename_i j a st0
      split at h
      · rename_i xs ho
        replace h := rb_ite_inv h; obtain ⟨hi, h⟩ := h
        cases h
        exact va_iald (D := D) (cl := vwCl) (tys := [(cA a, .int)]) hx hb (hKA a _ .int ho rfl) hP a 0 (rb_ws_at ho) rfl (rb_inb_in hi) hd (kR rfl rfl)
      · cases h
      · replace h := rb_ite_inv h; obtain ⟨rfl, h⟩ := h
        split at h
        · rename_i xs
          replace h := rb_ite_inv h; obtain ⟨hi, h⟩ := h
          cases h
          obtain ⟨x1, x2, x3⟩ := hX xs rfl
          exact va_sld hx hb x1 x2 x3 hS (rb_inb_in hi) hd (kR rfl rfl)
        · cases h
    · cases h
  case iastore =>
    replace h := rb_ite_inv h; obtain ⟨rfl, h⟩ := h
    split at h
    · rename_i x j a st0
      split at h
      · rename_i xs ho
        replace h := rb_ite_inv h; obtain ⟨hi, h⟩ := h
        cases h
        refine va_iast (D := D) (cl := vwCl) (tys := [(cA a, .int)]) hx hb (hKA a _ .int ho rfl) hP hD hS a 0 (rb_ws_at ho) rfl (rb_inb_in hi) hd (fun H1 locs1 hP1 hD1 hS1 => ?_)
        have e1 : (Sum.inl (cA a, xs.length, Sum.inl (upd (fun j => xs.getD j 0) j.toNatClampNeg x)) : va_E) = rb_en ad (cA a) (.inr (.inl (xs.set j.toNatClampNeg x))) := by
          show _ = (Sum.inl (cA a, (xs.set j.toNatClampNeg x).length, Sum.inl (fun i => (xs.set j.toNatClampNeg x).getD i 0)) : va_E)
          rw [List.length_set]
          congr 4
          funext i
          show (if i = j.toNatClampNeg then x else xs.getD i 0) = (xs.set j.toNatClampNeg x).getD i 0
          rw [List.getD_eq_getElem?_getD, List.getD_eq_getElem?_getD]
          by_cases hij : i = j.toNatClampNeg
          · subst hij
            rw [if_pos rfl, List.getElem?_set_self (rb_inb_lt hi)]; rfl
          · rw [if_neg hij, List.getElem?_set_ne (fun q => hij q.symm)]
        rw [e1] at hP1 hD1
        exact kS (o := .inr (.inl xs)) (o' := .inr (.inl (xs.set j.toNatClampNeg x))) H1 locs1 ho rfl (by show (xs.set _ x).length = xs.length; exact List.length_set) rfl rfl hP1 hD1 hS1
      · cases h
    · cases h
  case arraylength =>
    replace h := rb_ite_inv h; obtain ⟨rfl, h⟩ := h
    split at h
    · rename_i a st0
      split at h
      · rename_i xs ho
        cases h
        exact va_alen (D := D) (cl := vwCl) (tys := [(cA a, .int)]) hx hb (hKA a _ .int ho rfl) hP a 0 (rb_ws_at ho) rfl rfl hd (kR rfl rfl)
      · rename_i rs ho
        cases h
        exact va_alen (D := D) (cl := vwCl) (tys := [(cA a, .object RX3)]) hx hb (hKA a _ (.object RX3) ho rfl) hP a 0 (rb_ws_at ho) rfl rfl hd (kR rfl rfl)
      · cases h
      · replace h := rb_ite_inv h; obtain ⟨rfl, h⟩ := h
        split at h
        · rename_i xs
          cases h
          obtain ⟨x1, x2, x3⟩ := hX xs rfl
          exact va_slen hx hb x1 x2 x3 hS hd (kR rfl rfl)
        · cases h
    · cases h
  case aaload =>
    replace h := rb_ite_inv h; obtain ⟨rfl, h⟩ := h
    split at h
    · rename_i j a st0
      split at h
      · rename_i rs ho
        replace h := rb_ite_inv h; obtain ⟨hi, h⟩ := h
        cases h
        refine va_aldq (D := D) (cl := vwCl) (tys := [(cA a, .object RX3)]) hx hb (hKA a _ (.object RX3) ho rfl) hP a 0 (rb_ws_at ho) rfl (rb_inb_in hi) hd ?_
        have e1 : va_rf ((rs.getD j.toNatClampNeg none).map ad) = rb_tr ad (rb_rf (rs.getD j.toNatClampNeg none)) := by cases rs.getD j.toNatClampNeg none <;> rfl
        rw [e1]
        exact kR rfl rfl
      · cases h
    · cases h
  case aastore =>
    replace h := rb_ite_inv h; obtain ⟨rfl, h⟩ := h
    split at h
    · rename_i v j a st0
      split at h
      · rename_i rs ci vs ho hv
        replace h := rb_ite_inv h; obtain ⟨⟨rfl, hi⟩, h⟩ := h
        cases h
        refine va_astq (D := D) (cl := vwCl) (tys := [(cA a, .object RX3)]) (r := (RX3, TX3, 19)) hx hb (hKA a _ (.object RX3) ho rfl) hP hD hS a 0 v 3 (rb_ws_at ho) rfl (rb_ws_at hv) rfl (rb_inb_in hi) hd (fun H1 locs1 hP1 hD1 hS1 => ?_)
        have e1 : (Sum.inl (cA a, rs.length, Sum.inr (Sum.inr (Sum.inr (Sum.inr (va_up (fun j => (rs.getD j none).map ad) j.toNatClampNeg (some (ad v))))))) : va_E) = rb_en ad (cA a) (.inr (.inr (rs.set j.toNatClampNeg (some v)))) := by
          show _ = (Sum.inl (cA a, (rs.set j.toNatClampNeg (some v)).length, Sum.inr (Sum.inr (Sum.inr (Sum.inr (fun i => ((rs.set j.toNatClampNeg (some v)).getD i none).map ad))))) : va_E)
          rw [List.length_set]
          congr 7
          funext i
          show (if i = j.toNatClampNeg then some (ad v) else (rs.getD i none).map ad) = ((rs.set j.toNatClampNeg (some v)).getD i none).map ad
          rw [List.getD_eq_getElem?_getD, List.getD_eq_getElem?_getD]
          by_cases hij : i = j.toNatClampNeg
          · subst hij
            rw [if_pos rfl, List.getElem?_set_self (rb_inb_lt hi)]; rfl
          · rw [if_neg hij, List.getElem?_set_ne (fun q => hij q.symm)]
        rw [e1] at hP1 hD1
        exact kS (o := .inr (.inr rs)) (o' := .inr (.inr (rs.set j.toNatClampNeg (some v)))) H1 locs1 ho rfl (by show (rs.set _ (some v)).length = rs.length; exact List.length_set) rfl rfl hP1 hD1 hS1
      · cases h
    · cases h
  case new ix =>
    replace h := rb_ite_inv h; obtain ⟨rfl, h⟩ := h
    split at h
    · rename_i ci hf
      replace h := rb_ite_inv h; obtain ⟨⟨hci, hlt, hfr2⟩, h⟩ := h
      cases h
      have hfo := List.all_eq_true.mp rb_cl_ok _ (rb_find_mem hf)
      simp only [Bool.and_eq_true, decide_eq_true_eq] at hfo
      have hr := rN rfl
      have hz : rb_sz (.inl (ci, rb_df ci)) = rb_nn ci := rb_dfl ci hci
      rw [hz] at hr
      refine va_new (D := D) (cl := vwCl) (tys := []) (ci := ci) (C := rb_cn ci) (T := rb_tt ci) (N := rb_nn ci) (fs := rb_df ci) hx hb hts (rb_cls_at hci) (rb_ty ci) (rb_ft ci hci) hown (hts _ (rb_is_in hfo.1)) (hts _ (rb_is_in hfo.2.1)) (hts _ (rb_is_in hfo.2.2.1)) hK hP hD hS hA (rb_vw ci hci) (rb_dfv ci hci) hr.1 hr.2 hd (fun q H1 hP1 hD1 hS1 => ?_)
      have := kN (o := .inl (ci, rb_df ci)) (cA1 := 0) (q := q) H1 rfl rfl hlt hfr2 ?_ (fun ty hty => by cases hty) hP1 hD1 hS1
      · rw [hz] at this; exact this
      · have hm : ∀ v ∈ rb_df ci, ∀ f : Nat → Nat, rb_tr f v = v := by
          have : ∀ ci, ci < 5 → (rb_df ci).all (fun v => match v with | .ref _ => false | _ => true) = true := by decide +kernel
          intro v hv f
          have h2 := List.all_eq_true.mp (this ci hci) v hv
          cases v <;> first | rfl | cases h2
        show (Sum.inr (ci, (rb_df ci).map (rb_tr (rb_up ad M.length q))) : va_E) = Sum.inr (ci, rb_df ci)
        rw [List.map_congr_left (g := id) (fun v hv => hm v hv _), List.map_id]
    · cases h
  case newarray ty =>
    replace h := rb_ite_inv h; obtain ⟨⟨rfl, rfl⟩, h⟩ := h
    split at h
    · rename_i n st0
      replace h := rb_ite_inv h; obtain ⟨⟨hn, hN, hlt, hfr2⟩, h⟩ := h
      cases h
      have hr := rN rfl
      have hz : rb_sz (.inr (.inl (List.replicate n.toNatClampNeg 0))) = n.toNatClampNeg := List.length_replicate
      rw [hz] at hr
      refine va_newa (D := D) (cl := vwCl) (tys := []) (atype := .int) (a0 := (n.toNatClampNeg, .inl (fun _ => 0))) hx hb (hts _ (rb_is_in rb_arr_int)) (ty := .int) rfl hK hP hD hS hA (fun _ => rfl) hn rfl (by show n.toNatClampNeg * 4 ≤ _; omega) hr.1 hr.2 hd (fun q cA1 H1 hK1 hP1 hD1 hS1 => ?_)
      have := kN (o := .inr (.inl (List.replicate n.toNatClampNeg 0))) (cA1 := cA1) (q := q) H1 rfl rfl hlt hfr2 ?_ (fun ty hty => by cases hty; exact hK1) hP1 hD1 hS1
      · rw [hz] at this; exact this
      · show (Sum.inl (cA1, (List.replicate n.toNatClampNeg (0 : Int32)).length, Sum.inl (fun j => (List.replicate n.toNatClampNeg (0 : Int32)).getD j 0)) : va_E) = _
        rw [List.length_replicate]
        congr 4
        funext j
        rw [List.getD_eq_getElem?_getD, List.getElem?_replicate]
        split <;> rfl
    · cases h
  case anewarray ix =>
    replace h := rb_ite_inv h; obtain ⟨⟨rfl, hf⟩, h⟩ := h
    split at h
    · rename_i n st0
      replace h := rb_ite_inv h; obtain ⟨⟨hn, hN, hlt, hfr2⟩, h⟩ := h
      cases h
      have hfo := List.all_eq_true.mp rb_cl_ok _ (rb_find_mem hf)
      simp only [Bool.and_eq_true, decide_eq_true_eq] at hfo
      have hr := rN rfl
      have hz : rb_sz (.inr (.inr (List.replicate n.toNatClampNeg none))) = n.toNatClampNeg := List.length_replicate
      rw [hz] at hr
      refine va_newq (D := D) (cl := vwCl) (tys := []) (C := RX3) hx hb hown (hts _ (rb_is_in hfo.1)) hAO hK hP hD hS hA hn rfl (by omega) hr.1 hr.2 hd (fun q cA1 H1 hK1 hP1 hD1 hS1 => ?_)
      have := kN (o := .inr (.inr (List.replicate n.toNatClampNeg none))) (cA1 := cA1) (q := q) H1 rfl rfl hlt hfr2 ?_ (fun ty hty => by cases hty; exact hK1) hP1 hD1 hS1
      · rw [hz] at this; exact this
      · show (Sum.inl (cA1, (List.replicate n.toNatClampNeg (none : Option Nat)).length, Sum.inr (Sum.inr (Sum.inr (Sum.inr (fun j => ((List.replicate n.toNatClampNeg (none : Option Nat)).getD j none).map (rb_up ad M.length q)))))) : va_E) = _
        rw [List.length_replicate]
        congr 7
        funext j
        rw [List.getD_eq_getElem?_getD, List.getElem?_replicate]
        split <;> rfl
    · cases h
  case invokespecial ix =>
    replace h := rb_ite_inv h; obtain ⟨⟨rfl, hf, hh⟩, h⟩ := h
    split at h
    · rename_i a st0
      replace h := rb_ite_inv h; obtain ⟨hst, h⟩ := h
      cases h
      have hio := rb_il_all _ (rb_find_mem hf)
      simp only [rb_iok, Bool.and_eq_true] at hio
      have hsum := rb_cat_sum (st'.map (rb_tr ad))
      rw [List.length_map] at hsum
      exact W.objInit hx hb hown (hts _ (rb_is_in hio.1)) (hts _ (rb_is_in hio.2.1)) (hts _ (rb_is_in hio.2.2)) (g := F0 m pc arr _) rfl (by rw [hml]; exact hl.2.1) rfl hd (by omega) (by show 2 * 0 + _ + 12 ≤ _; omega) (kR rfl rfl)
    · cases h
  case invokestatic ix =>
    replace h := rb_ite_inv h; obtain ⟨⟨rfl, hf, hh⟩, h⟩ := h
    split at h
    · rename_i n dp a sp b st0
      split at h
      · rename_i g f ho ho2
        replace h := rb_ite_inv h; obtain ⟨⟨rfl, rfl, hn, h4, h5, hst⟩, h⟩ := h
        cases h
        have hio := rb_il_all _ (rb_find_mem hf)
        simp only [rb_iok, Bool.and_eq_true] at hio
        have hsum := rb_cat_sum (st'.map (rb_tr ad))
        rw [List.length_map] at hsum
        have hKb := hKA b _ .int ho2 rfl
        have hKa := hKA a _ .int ho rfl
        have e9 : nativeFrameWords "java/lang/System" "arraycopy" 5 = 7 := by decide +kernel
        have hl35 : ((st'.map (rb_tr ad)).map fun v => v.category).sum + (nativeFrameWords "java/lang/System" "arraycopy" 5 + 11) ≤ R.locals := by rw [e9]; omega
        refine va_copyi (sp := 0) (dp := 0) (n := n) (D := D) (cl := vwCl) (tys := [(cA b, .int), (cA a, .int)]) hx hb (by rw [hml]; exact hl.2.1.symm) hown (hts _ (rb_is_in hio.1)) (hts _ (rb_is_in hio.2.1)) (hts _ (rb_is_in hio.2.2.1)) (hts _ (rb_is_in hio.2.2.2)) (hKb.app hKa) hP hD hS b a 0 1 (rb_ws_at ho2) (rb_ws_at ho) rfl rfl rfl (by decide) (by decide) hn (by show 0 + n.toNatClampNeg ≤ f.length; omega) (by show 0 + n.toNatClampNeg ≤ g.length; omega) (fun _ _ => rfl) (show 1 ≤ R.frames by omega) hl35 hd (fun H1 locs1 hP1 hD1 hS1 => ?_)
        have e1 : (Sum.inl (cA a, g.length, Sum.inl (va_cpy (fun j => f.getD j 0) (fun j => g.getD j 0) (Int32.toNatClampNeg 0) (Int32.toNatClampNeg 0) n.toNatClampNeg)) : va_E) = rb_en ad (cA a) (.inr (.inl (f.take n.toNatClampNeg ++ g.drop n.toNatClampNeg))) := by
          show _ = (Sum.inl (cA a, (f.take n.toNatClampNeg ++ g.drop n.toNatClampNeg).length, Sum.inl (fun i => (f.take n.toNatClampNeg ++ g.drop n.toNatClampNeg).getD i 0)) : va_E)
          have e0 : (f.take n.toNatClampNeg ++ g.drop n.toNatClampNeg).length = g.length := by
            rw [List.length_append, List.length_take, List.length_drop]; omega
          rw [e0]
          congr 4
          funext i
          show (if 0 ≤ i ∧ i < 0 + n.toNatClampNeg then f.getD (0 + (i - 0)) 0 else g.getD i 0) = (f.take n.toNatClampNeg ++ g.drop n.toNatClampNeg).getD i 0
          rw [List.getD_eq_getElem?_getD, List.getD_eq_getElem?_getD, List.getD_eq_getElem?_getD]
          by_cases hi : i < n.toNatClampNeg
          · rw [if_pos ⟨Nat.zero_le _, by omega⟩, List.getElem?_append_left (by rw [List.length_take]; omega), List.getElem?_take_of_lt hi, Nat.zero_add, Nat.sub_zero]
          · rw [if_neg (by omega), List.getElem?_append_right (by rw [List.length_take]; omega), List.length_take, List.getElem?_drop]
            congr 2
            omega
        rw [e1] at hP1 hD1
        exact kS (o := .inr (.inl g)) (o' := .inr (.inl (f.take n.toNatClampNeg ++ g.drop n.toNatClampNeg))) H1 locs1 ho rfl (by show (f.take n.toNatClampNeg ++ g.drop n.toNatClampNeg).length = g.length; rw [List.length_append, List.length_take, List.length_drop]; omega) rfl rfl hP1 hD1 hS1
      · cases h
    · cases h
end RBC
