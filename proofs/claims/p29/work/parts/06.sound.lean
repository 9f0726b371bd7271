/-! THE INTERPRETER AGAINST THE MACHINE, 3: calls, ends, the whole -/
def rb_Pc (D : va_G) (sc : Option (List Int32)) (ad : Nat → Nat) (cA : Nat → ClassId) (M : rb_M) (avs : List Value) (sz : Nat) : Array Value → State → Prop := va_Pc (avs.map (rb_tr ad)) fun U => U.heap.size = sz ∧ va_K D vwCl [] U ∧ (∀ w ∈ rb_nest, va_Nw w U) ∧ va_AO RX3 U ∧ rb_Wd D ad cA M (fun _ => True) U U.heap ∧ rb_Xs sc ad (va_A (rb_ws ad cA M) sz) U U.heap
def rb_Qc (D : va_G) (ad : Nat → Nat) (M : rb_M) (A : Nat → Prop) (r : Option Value) (M' : rb_M) : Array Value → State → Outcome → State → Prop := fun _ st oc t => (∃ (ad' : Nat → Nat) (cA' : Nat → ClassId), oc = .returned (r.map (rb_tr ad')) ∧ rb_agr ad ad' M.length M'.length ∧ rb_Wd D ad' cA' M' A t t.heap) ∧ va_F A st t
theorem rb_KA_moved {D : va_G} {cA : Nat → ClassId} {M : rb_M} {u U : State} (hvm : u.vm.Alike U.vm) (h : rb_KA D cA M u) : rb_KA D cA M U := fun i o ty hi ht => va_K.moved hvm (h i o ty hi ht)
theorem rb_Xs_moved {sc : Option (List Int32)} {ad : Nat → Nat} {A : Nat → Prop} {u U : State} {H : Heap} (hvm : u.vm.Alike U.vm) (h : rb_Xs sc ad A u H) : rb_Xs sc ad A U H := fun xs hxs => ⟨va_X.moved hvm (h xs hxs).1, (h xs hxs).2.1, (h xs hxs).2.2⟩
theorem rb_Pc_blind {D : va_G} {sc : Option (List Int32)} {ad : Nat → Nat} {cA : Nat → ClassId} {M : rb_M} {avs : List Value} {sz : Nat} : FrameBlind (rb_Pc D sc ad cA M avs sz) := by
  intro a U g mk h
  obtain ⟨h1, h2, h3, h4, h5, h6, h7⟩ := h
  have hvm : U.vm.Alike (U.calling g mk a).vm := Vm.Alike.refl U.vm
  refine ⟨h1, h2, va_K.moved hvm h3, fun w hw => ?_, va_AO.moved hvm h5, ⟨h6.1, h6.2.1, rb_KA_moved hvm h6.2.2⟩, rb_Xs_moved hvm h7⟩
  have hw2 := (List.mem_filter.mp hw).2
  cases w <;> first | (cases hw2; done) | skip
  exact va_Nw.same rfl rfl (h4 _ hw)
theorem rb_nest_warm {s U : State} (hW : s.WarmedH U.vm) (h : ∀ w ∈ rb_nest, va_Nw w s) : ∀ w ∈ rb_nest, va_Nw w U := by
  intro w hw
  have hw2 := (List.mem_filter.mp hw).2
  cases w <;> first | (cases hw2; done) | skip
  exact va_Nw.warmM hW (h _ hw)
theorem rb_gw_good {k : Nat} (h : rb_is (.code (rb_y k) (rb_by k) (rb_ml k) (rb_rt k)) = true) : GoodIn rb_gw (rb_ws0 k) := by
  intro w hw
  rcases List.mem_cons.mp hw with rfl | hw
  · have h2 := rb_is_in h
    exact ⟨h2, good_of_word (List.mem_filter.mp h2).2⟩
  · exact ⟨hw, good_of_word (List.mem_filter.mp hw).2⟩
/-- a method's contract out of its body's walk, by its own name -/
theorem rb_ofWF {l : Launch} {y : MethodName} {ws ws' : List Jvm.Cond} {rm : Room} {Pc : Array Value → State → Prop} {Qc : Array Value → State → Outcome → State → Prop} {mc ms : Nat} {free : Addr → Prop} {cc : ByteArray} {maxL : Nat} {ret : Option FieldType}
    (hy : plainFor y = true) (hw : ws = Jvm.Cond.code y cc maxL ret :: ws')
    (body : ∀ p e s m args below meth c s₁, BodyLoose p l y (headSpec ws rm) cc maxL ret e s m args below meth c s₁ → c.maxLocals = maxL → Pc args s →
      W p l e (headSpec ws rm).room s m args below meth c s.heap [] 0 0 (MQ below Qc args s mc ms free) (entryFrame m args maxL)) : Met l y ws rm Pc Qc mc ms free := by
  refine MetFree.of_bodySF (code := cc) (maxLocals := maxL) (ret := ret) hy ?_ ?_
  · intro args s m h hn
    obtain ⟨meth, c, h1, h2, h3, h4, h5, h6, -, -⟩ := Cond.code_spec hn (atoms_spec (ws := ws) h _ (by rw [hw]; exact List.mem_cons_self))
    exact ⟨meth, c, h1, h2, h3, h4, h5, h6⟩
  · intro p e s m args below meth c s₁ B hml hP _
    have hh0 : s₁.heap = s.heap := by rw [B.state]; rfl
    obtain ⟨t, a1, o, b1, b2, b3⟩ := body p e s m args below meth c s₁ B hml hP s₁ hh0 (Stand.of_body B)
    exact ⟨t, o, a1, b1, b2, ⟨b3.1, b3.2⟩⟩
theorem rb_args_mem : ∀ (vs : List Value) (j i : Nat) (v : Value), (∀ u ∈ vs, u.category = 1) → vs[i]? = some v → (j + i, v) ∈ lv_args j vs
  | [], _, _, _, _, h => by cases h
  | u :: vs, j, 0, v, hc, h => by
    have hu : u = v := Option.some.inj h
    subst hu
    rw [Nat.add_zero]
    exact List.mem_cons_self
  | u :: vs, j, i + 1, v, hc, h => by
    have h1 : ¬ u.category = 2 := by rw [hc u List.mem_cons_self]; decide
    have := rb_args_mem vs (j + 1) i v (fun w hw => hc w (List.mem_cons_of_mem _ hw)) h
    show (j + (i + 1), v) ∈ (j, u) :: lv_args (if u.category = 2 then j + 2 else j + 1) vs
    rw [if_neg h1, show j + (i + 1) = j + 1 + i by omega]
    exact List.mem_cons_of_mem _ this
theorem rb_sl_len : ∀ (vs : List Value), (∀ u ∈ vs, u.category = 1) → (lg_sl vs).length = vs.length
  | [], _ => rfl
  | u :: vs, hc => by
    have h1 : ¬ u.category = 2 := by rw [hc u List.mem_cons_self]; decide
    have := rb_sl_len vs (fun w hw => hc w (List.mem_cons_of_mem _ hw))
    show ((if u.category = 2 then [Slot.val u, Slot.second] else [Slot.val u]) ++ lg_sl vs).length = vs.length + 1
    rw [if_neg h1, List.length_append, this]
    show 1 + vs.length = _
    omega
theorem rb_lok_ent {k : Nat} {ad : Nat → Nat} {avs : List Value} (hc : ∀ u ∈ avs, u.category = 1) (hl : avs.length ≤ rb_ml k) : rb_lok k ad (rb_ent k avs) ((lg_sl (avs.map (rb_tr ad)) ++ List.replicate (rb_ml k - (lg_sl (avs.map (rb_tr ad))).length) Slot.unset).toArray) (rb_ml k) := by
  have hc' : ∀ u ∈ avs.map (rb_tr ad), u.category = 1 := by
    intro u hu
    obtain ⟨v, hv, rfl⟩ := List.mem_map.mp hu
    rw [rb_tr_cat]; exact hc v hv
  have hlen : (lg_sl (avs.map (rb_tr ad))).length = avs.length := by rw [rb_sl_len _ hc', List.length_map]
  have hv := lv_entry (avs.map (rb_tr ad)) (n := rb_ml k) (by rw [hlen]; exact hl)
  have key : ∀ (i : Nat) (v : Value), (rb_ent k avs)[i]? = some (some v) → avs[i]? = some v := by
    intro i v hi
    unfold rb_ent at hi
    by_cases h : i < avs.length
    · rw [List.getElem?_append_left (by rw [List.length_map]; exact h), List.getElem?_map] at hi
      cases hq : avs[i]? with
      | none => rw [hq] at hi; cases hi
      | some w => rw [hq] at hi; cases hi; rfl
    · rw [List.getElem?_append_right (by rw [List.length_map]; omega), List.getElem?_replicate] at hi
      split at hi
      · cases hi
      · cases hi
  refine ⟨?_, hv.1, hv.2.1, fun i v hi => ?_, fun i v hi h2 => ?_⟩
  · unfold rb_ent
    rw [List.length_append, List.length_map, List.length_replicate]; omega
  · have h1 := key i v hi
    have h2 := rb_args_mem (avs.map (rb_tr ad)) 0 i (rb_tr ad v) hc' (by rw [List.getElem?_map, h1]; rfl)
    rw [Nat.zero_add] at h2
    exact hv.2.2 (i, rb_tr ad v) h2
  · have h1 := key i v hi
    rw [hc v (List.mem_of_getElem? h1)] at h2; cases h2
theorem rb_agr_trans {ad ad1 ad2 : Nat → Nat} {a b c : Nat} (h1 : rb_agr ad ad1 a b) (h2 : rb_agr ad1 ad2 b c) (hab : a ≤ b) (hbc : b ≤ c) : rb_agr ad ad2 a c := by
  intro i hi
  rcases hi with hi | hi
  · rw [h2 i (Or.inl (by omega)), h1 i (Or.inl hi)]
  · rw [h2 i (Or.inr hi), h1 i (Or.inr (by omega))]
theorem rb_tr_out {ad ad1 : Nat → Nat} {a b : Nat} {v : Value} (h : rb_agr ad ad1 a b) (ho : rb_out a b v = true) : rb_tr ad1 v = rb_tr ad v := by
  cases v <;> try rfl
  rename_i i
  show Value.ref (ad1 i) = .ref (ad i)
  rw [h i (by simpa [rb_out] using ho)]
theorem rb_lok_out {k nL a b : Nat} {ad ad1 : Nat → Nat} {ls : rb_L} {arr : Array Slot} (hl : rb_lok k ad ls arr nL) (h : rb_agr ad ad1 a b) (ho : ls.all (rb_outl a b) = true) : rb_lok k ad1 ls arr nL := by
  refine ⟨hl.1, hl.2.1, hl.2.2.1, fun i v hi => ?_, hl.2.2.2.2⟩
  have h1 : rb_outl a b (some v) = true := List.all_eq_true.mp ho _ (List.mem_of_getElem? hi)
  rw [rb_tr_out h h1]
  exact hl.2.2.2.1 i v hi
theorem rb_map_out {a b : Nat} {ad ad1 : Nat → Nat} {st : List Value} (h : rb_agr ad ad1 a b) (ho : st.all (rb_out a b) = true) : st.map (rb_tr ad1) = st.map (rb_tr ad) := List.map_congr_left fun v hv => rb_tr_out h (List.all_eq_true.mp ho v hv)
theorem rb_agr_all {ad ad1 : Nat → Nat} {a : Nat} (h : rb_agr ad ad1 a a) : ad1 = ad := by
  funext i
  exact h i (by omega)
/-- cells only come -/
theorem rb_mem_len {k len : Nat} {i : Instr} {sc : Option (List Int32)} {ls : rb_L} {st st' : List Value} {M M' : rb_M} (h : rb_mem k i len sc ls st M = some (st', M')) : (M'.length = M.length ∧ rb_sl M' = rb_sl M) ∨ (M'.length = M.length + 1 ∧ rb_sl M ≤ rb_sl M' ∧ M'.length ≤ rb_scr) := by
  have same : ∀ {a b : List Value} {N : rb_M}, some (a, N) = some (b, M') → N = M → (M'.length = M.length ∧ rb_sl M' = rb_sl M) ∨ (M'.length = M.length + 1 ∧ rb_sl M ≤ rb_sl M' ∧ M'.length ≤ rb_scr) := by
    intro a b N h1 h2; cases h1; subst h2; exact Or.inl ⟨rfl, rfl⟩
  have put : ∀ {a b : List Value} {q : Nat} {o o' : rb_O}, some (a, M.set q o') = some (b, M') → M[q]? = some o → rb_sz o' = rb_sz o → (M'.length = M.length ∧ rb_sl M' = rb_sl M) ∨ (M'.length = M.length + 1 ∧ rb_sl M ≤ rb_sl M' ∧ M'.length ≤ rb_scr) := by
    intro a b q o o' h1 h2 h3; cases h1; exact Or.inl ⟨List.length_set, rb_sl_set h2 h3⟩
  have new : ∀ {a b : List Value} {o : rb_O}, some (a, M ++ [o]) = some (b, M') → M.length < rb_scr → (M'.length = M.length ∧ rb_sl M' = rb_sl M) ∨ (M'.length = M.length + 1 ∧ rb_sl M ≤ rb_sl M' ∧ M'.length ≤ rb_scr) := by
    intro a b o h1 h2; cases h1; exact Or.inr ⟨by simp, by rw [rb_sl_app]; omega, by simp; omega⟩
  cases i <;> simp only [rb_mem] at h <;> (try cases h) <;> (replace h := rb_ite_inv h) <;> (obtain ⟨h0, h⟩ := h)
  case getfield ix =>
    split at h
    · split at h
      · replace h := rb_ite_inv h; obtain ⟨h1, h⟩ := h
        split at h
        · exact same h rfl
        · cases h
      · cases h
    · cases h
  case putfield ix =>
    split at h
    · split at h
      · rename_i ho
        replace h := rb_ite_inv h; obtain ⟨h1, h⟩ := h
        exact put h ho (by show (List.set _ _ _).length = _; exact List.length_set)
      · cases h
    · cases h
  case iaload =>
    split at h
    · split at h
      · replace h := rb_ite_inv h; obtain ⟨h1, h⟩ := h
        exact same h rfl
      · cases h
      · replace h := rb_ite_inv h; obtain ⟨h1, h⟩ := h
        split at h
        · replace h := rb_ite_inv h; obtain ⟨h2, h⟩ := h
          exact same h rfl
        · cases h
    · cases h
  case iastore =>
    split at h
    · split at h
      · rename_i ho
        replace h := rb_ite_inv h; obtain ⟨h1, h⟩ := h
        exact put h ho (by show (List.set _ _ _).length = _; exact List.length_set)
      · cases h
    · cases h
  case arraylength =>
    split at h
    · split at h
      · exact same h rfl
      · exact same h rfl
      · cases h
      · replace h := rb_ite_inv h; obtain ⟨h1, h⟩ := h
        split at h
        · exact same h rfl
        · cases h
    · cases h
  case aaload =>
    split at h
    · split at h
      · replace h := rb_ite_inv h; obtain ⟨h1, h⟩ := h
        exact same h rfl
      · cases h
    · cases h
  case aastore =>
    split at h
    · split at h
      · rename_i ho hv
        replace h := rb_ite_inv h; obtain ⟨h1, h⟩ := h
        exact put h ho (by show (List.set _ _ _).length = _; exact List.length_set)
      · cases h
    · cases h
  case new ix =>
    split at h
    · replace h := rb_ite_inv h; obtain ⟨h1, h⟩ := h
      exact new h h1.2.1
    · cases h
  case newarray ty =>
    split at h
    · replace h := rb_ite_inv h; obtain ⟨h1, h⟩ := h
      exact new h h1.2.2.1
    · cases h
  case anewarray ix =>
    split at h
    · replace h := rb_ite_inv h; obtain ⟨h1, h⟩ := h
      exact new h h1.2.2.1
    · cases h
  case invokespecial ix =>
    split at h
    · replace h := rb_ite_inv h; obtain ⟨h1, h⟩ := h
      exact same h rfl
    · cases h
  case invokestatic ix =>
    split at h
    · split at h
      · rename_i ho ho2
        replace h := rb_ite_inv h; obtain ⟨h1, h⟩ := h
        exact put h ho (by show (_ ++ _ : List Int32).length = List.length _; rw [List.length_append, List.length_take, List.length_drop]; omega)
      · cases h
    · cases h
/-- one step: what the next state is, or what is called -/
theorem rb_ex_inv {n k pc : Nat} {sc : Option (List Int32)} {ls : rb_L} {st : List Value} {M M' : rb_M} {r : Option Value} (h : rb_ex (n + 1) sc k pc ls st M = some (r, M')) : ∃ i len, decode (rb_by k) pc = .ok (i, len) ∧
    ((rb_ki k i = 0 ∧ ∃ pc' ls' st', rb_pure k pc i len ls st = some (pc', ls', st') ∧ rb_ex n sc k pc' ls' st' M = some (r, M')) ∨
     (rb_ki k i = 1 ∧ ∃ st' M1, rb_mem k i len sc ls st M = some (st', M1) ∧ (M1.length = M.length ∨ rb_al k = true) ∧ rb_ex n sc k (pc + len) ls st' M1 = some (r, M')) ∨
     (rb_ki k i = 2 ∧ ∃ k' as rest r1 M1, rb_call k i len st M = some (k', as, rest) ∧ as.length ≤ rb_ml k' ∧ (∀ u ∈ as, u.category = 1) ∧ rb_ex n sc k' 0 (rb_ent k' as) [] M = some (r1, M1) ∧ rb_ck k k' ls rest M.length M1.length = true ∧ rb_ex n sc k (pc + 3) ls (r1.toList ++ rest) M1 = some (r, M')) ∨
     (rb_ret k i len st = some r ∧ M' = M)) := by
  unfold rb_ex at h
  split at h
  · cases h
  · rename_i i len hdec
    have hd : decode (rb_by k) pc = .ok (i, len) := by
      unfold rb_dec at hdec
      split at hdec
      · rename_i x hx; cases hdec; exact hx
      · cases hdec
    refine ⟨i, len, hd, ?_⟩
    split at h
    · rename_i hk
      split at h
      · rename_i pc' ls' st' hp
        exact Or.inl ⟨hk, pc', ls', st', hp, h⟩
      · cases h
    · rename_i hk
      split at h
      · rename_i st' M1 hp
        replace h := rb_ite_inv h; obtain ⟨h1, h⟩ := h
        exact Or.inr (Or.inl ⟨hk, st', M1, hp, h1, h⟩)
      · cases h
    · rename_i hk
      split at h
      · rename_i k' as rest hp
        replace h := rb_ite_inv h; obtain ⟨h1, h⟩ := h
        split at h
        · rename_i r1 M1 hc
          replace h := rb_ite_inv h; obtain ⟨h2, h⟩ := h
          exact Or.inr (Or.inr (Or.inl ⟨hk, k', as, rest, r1, M1, hp, h1.1, fun u hu => by simpa using List.all_eq_true.mp h1.2 u hu, hc, h2, h⟩))
        · cases h
      · cases h
    · split at h
      · rename_i r1 hp
        cases h
        exact Or.inr (Or.inr (Or.inr ⟨hp, rfl⟩))
      · cases h
theorem rb_mono : ∀ (n : Nat) (sc : Option (List Int32)) (k pc : Nat) (ls : rb_L) (st : List Value) (M M' : rb_M) (r : Option Value), rb_ex n sc k pc ls st M = some (r, M') → M.length ≤ M'.length ∧ rb_sl M ≤ rb_sl M' ∧ (rb_al k = false → M'.length = M.length) ∧ (M'.length ≤ rb_scr ∨ M'.length = M.length)
  | 0, _, _, _, _, _, _, _, _, h => by cases h
  | n + 1, sc, k, pc, ls, st, M, M', r, h => by
    obtain ⟨i, len, -, h⟩ := rb_ex_inv h
    rcases h with ⟨-, pc', ls', st', -, h⟩ | ⟨-, st', M1, hm, ha, h⟩ | ⟨-, k', as, rest, r1, M1, -, -, -, hc, hck, h⟩ | ⟨-, rfl⟩
    · exact rb_mono n _ _ _ _ _ _ _ _ h
    · obtain ⟨h1, h2, h3, h4⟩ := rb_mono n _ _ _ _ _ _ _ _ h
      rcases rb_mem_len hm with ⟨e1, e2⟩ | ⟨e1, e2, e3⟩
      · exact ⟨by omega, by omega, fun q => by rw [h3 q, e1], by omega⟩
      · refine ⟨by omega, by omega, fun q => ?_, by omega⟩
        rcases ha with ha | ha
        · omega
        · rw [q] at ha; cases ha
    · obtain ⟨h1, h2, h3, h4⟩ := rb_mono n _ _ _ _ _ _ _ _ h
      obtain ⟨g1, g2, g3, g4⟩ := rb_mono n _ _ _ _ _ _ _ _ hc
      refine ⟨by omega, by omega, fun q => ?_, by omega⟩
      unfold rb_ck at hck
      rw [q] at hck
      have : rb_al k' = false := by
        cases hq : rb_al k' with
        | false => rfl
        | true => rw [hq] at hck; simp at hck
      rw [h3 q, g3 this]
    · exact ⟨Nat.le_refl _, Nat.le_refl _, fun _ => rfl, Or.inr rfl⟩
theorem rb_ck_use {k k' : Nat} {ls : rb_L} {rest : List Value} {a b : Nat} {ad ad1 : Nat → Nat} {arr : Array Slot} {nL : Nat} (h : rb_ck k k' ls rest a b = true) (hab : rb_al k' = false → b = a) (hg : rb_agr ad ad1 a b) (hl : rb_lok k ad ls arr nL) : rb_lok k ad1 ls arr nL ∧ rest.map (rb_tr ad1) = rest.map (rb_tr ad) := by
  cases hq : rb_al k' with
  | false =>
    have := hab hq
    subst this
    have := rb_agr_all hg
    subst this
    exact ⟨hl, rfl⟩
  | true =>
    unfold rb_ck at h
    rw [hq] at h
    simp only [Bool.not_true, Bool.false_or, Bool.and_eq_true] at h
    exact ⟨rb_lok_out hl hg h.2.1, rb_map_out hg h.2.2⟩
section RBS
variable {p : Program} {l : Launch} {e : Env} {R : Room} {s : State} {m : MethodId} {args : Array Value} {below : List Frame} {meth : Method} {c : Code} {H : Heap} {locs : List Loc} {cells slots : Nat} {Q : State → Prop}
theorem rb_ret_ok {k pc len : Nat} {ad : Nat → Nat} {i : Instr} {st : List Value} {r : Option Value} {arr : Array Slot} {Qc : Array Value → State → Outcome → State → Prop} {free : Addr → Prop} (hx : p.tables.exec = Jvm.exec) (hb : c.code = rb_by k) (hr : meth.sig.returnType = rb_rt k) (hlocks : meth.locks = false) (hd : decode (rb_by k) pc = .ok (i, len)) (h : rb_ret k i len st = some r)
    (hq : ∀ t : State, t.heap = H → s.WarmedH t.vm → Qc args s (.returned (r.map (rb_tr ad))) t) (hf : ∀ q ∈ locs, free q.base) : W p l e R s m args below meth c H locs cells slots (MQ below Qc args s cells slots free) (F0 m pc arr (st.map (rb_tr ad))) := by
  cases i <;> simp only [rb_ret] at h <;> (try cases h) <;> (replace h := rb_ite_inv h) <;> (obtain ⟨rfl, h⟩ := h)
  case ireturn =>
    split at h
    · rename_i v ty hty
      replace h := rb_ite_inv h; obtain ⟨h1, h⟩ := h
      cases h
      exact W.zret hx hb (hr.trans hty) (rb_okv_ok (ad := ad) h1).1 hq hf hd hlocks
    · cases h
  case areturn =>
    split at h
    · rename_i v C hty
      replace h := rb_ite_inv h; obtain ⟨h1, h⟩ := h
      cases h
      refine W.aret hx hb (hr.trans hty) (Or.inl ⟨_, rfl⟩) ?_ hq hf hd hlocks
      cases v <;> first | (cases h1; done) | skip
      · exact Or.inl rfl
      · exact Or.inr ⟨_, rfl⟩
    · cases h
  case freturn =>
    split at h
    · rename_i v hty
      cases h
      exact W.fret hx hb (hr.trans hty) hq hf hd hlocks
    · cases h
  case return_ =>
    split at h
    · rename_i hty
      cases h
      exact W.vret hx hb (hr.trans hty) hq hf hd hlocks
    · cases h
/-- behind a call: the callee's world is the caller's -/
theorem rb_back {D : va_G} {ad : Nat → Nat} {cA : Nat → ClassId} {M M1 : rb_M} {r : Option Value} {A : Nat → Prop} {H0 : Heap} {pc mc ms : Nat} {arr : Array Slot} {st0 rest : List Value} {aa : Array Value} {free : Addr → Prop} (hr : va_Run p l e R s m args below meth c H locs cells slots mc ms (F0 m pc arr st0) rest (rb_Qc D ad M (va_A (rb_ws ad cA M) H.size) r M1 aa) free) (hS : va_S A H0 H locs) (hA : ∀ q, va_A (rb_ws ad cA M) H.size q → A q) (hf : ∀ q, free q → A q)
    (kk : ∀ (ad1 : Nat → Nat) (cA1 : Nat → ClassId) (H1 : Heap) (locs1 : List Loc), rb_agr ad ad1 M.length M1.length → rb_Wd D ad1 cA1 M1 A s H1 → va_S A H0 H1 locs1 → W p l e R s m args below meth c H1 locs1 (cells + mc) (slots + ms) Q (F0 m (pc + 3) arr ((r.map (rb_tr ad1)).toList ++ rest))) : W p l e R s m args below meth c H locs cells slots Q (F0 m pc arr st0) := by
  intro T hT X
  obtain ⟨v, st₀, t, T', L, h0, X', hL, e1, e2, ⟨⟨ad1, cA1, hv, hg, hW⟩, hz, hk⟩, st⟩ := hr T hT X
  cases hv
  rw [h0] at hz hk
  have hvm : s.vm.Alike t.vm := by rw [← e2]; exact X'.warmed.alike
  obtain ⟨t2, a1, b1⟩ := kk ad1 cA1 T'.heap (locs ++ L) hg ⟨by rw [e1]; exact hW.1, hW.2.1.weaken (fun _ q _ h => hA q.1 h), rb_KA_moved hvm.symm hW.2.2⟩
    ⟨Nat.le_trans hS.1 (by rw [e1]; exact hz), fun q h1 h2 => by rw [e1, hk q (Nat.lt_of_lt_of_le h1 hS.1) (fun z => h2 (hA q z))]; exact hS.2.1 q h1 h2, fun q hq => by
      rcases List.mem_append.mp hq with h | h
      · exact hS.2.2 q h
      · exact hf _ (hL q h)⟩ T' rfl X'
  exact ⟨t2, st t2 a1, b1⟩
end RBS
def rb_rm (k : Nat) (M M' : rb_M) : Room := { frames := rb_h k, cells := M'.length - M.length, slots := rb_sl M' - rb_sl M, locals := 35 * rb_h k }
def rb_MetOK (l : Launch) (D : va_G) (n : Nat) : Prop := ∀ (sc : Option (List Int32)) (k : Nat) (avs : List Value) (M M' : rb_M) (r : Option Value), k < 100 → (∀ u ∈ avs, u.category = 1) → avs.length ≤ rb_ml k → rb_ex n sc k 0 (rb_ent k avs) [] M = some (r, M') → ∀ (ad : Nat → Nat) (cA : Nat → ClassId) (sz : Nat), Met l (rb_y k) (rb_ws0 k) (rb_rm k M M') (rb_Pc D sc ad cA M avs sz) (rb_Qc D ad M (va_A (rb_ws ad cA M) sz) r M') (M'.length - M.length) (rb_sl M' - rb_sl M) (va_A (rb_ws ad cA M) sz)
def rb_WOK (l : Launch) (D : va_G) (n : Nat) : Prop := ∀ (sc : Option (List Int32)) (k pc : Nat) (ls : rb_L) (st : List Value) (M M' : rb_M) (r : Option Value), rb_ex n sc k pc ls st M = some (r, M') → ∀ (p : Program) (e : Env) (R : Room) (s : State) (m : MethodId) (args : Array Value) (below : List Frame) (meth : Method) (c : Code) (H : Heap) (locs : List Loc) (Q : State → Prop) (ad : Nat → Nat) (cA : Nat → ClassId) (arr : Array Slot) (A : Nat → Prop) (H0 : Heap) (c0 s0 : Nat), rb_cx p R s m args meth c D k → rb_lok k ad ls arr (rb_ml k) → rb_Wd D ad cA M A s H → va_S A H0 H locs → (∀ q, H0.size ≤ q → A q) → rb_Xs sc ad A s H0 → c0 ≤ M.length → s0 ≤ rb_sl M → M'.length - c0 ≤ R.cells → rb_sl M' - s0 ≤ R.slots →
  (∀ (pc' : Nat) (i : Instr) (len : Nat) (st' : List Value) (ad' : Nat → Nat) (cA' : Nat → ClassId) (H' : Heap) (locs' : List Loc) (arr' : Array Slot), decode (rb_by k) pc' = .ok (i, len) → rb_ret k i len st' = some r → rb_agr ad ad' M.length M'.length → rb_Wd D ad' cA' M' A s H' → va_S A H0 H' locs' → W p l e R s m args below meth c H' locs' (M'.length - c0) (rb_sl M' - s0) Q (F0 m pc' arr' (st'.map (rb_tr ad')))) →
  W p l e R s m args below meth c H locs (M.length - c0) (rb_sl M - s0) Q (F0 m pc arr (st.map (rb_tr ad)))
theorem rb_met_of_w {l : Launch} {D : va_G} {n : Nat} (hW : rb_WOK l D n) : rb_MetOK l D n := by
  intro sc k avs M M' r hk hc hl hex ad cA sz
  have hmok := rb_mok_all k hk
  simp only [rb_mok, Bool.and_eq_true, decide_eq_true_eq] at hmok
  obtain ⟨h1, h2, h3, h4, h5, h6, h7, h8⟩ := hmok
  obtain ⟨m1, m2, m3, m4⟩ := rb_mono n _ _ _ _ _ _ _ _ hex
  refine rb_ofWF (cc := rb_by k) (maxL := rb_ml k) (ret := rb_rt k) h5 rfl ?_
  intro p e s m args below meth c s₁ B hml hv
  obtain ⟨rfl, hsz, hK, hNw, hAO, hWd, hXs⟩ := hv
  have hts0 := atoms_spec (ws := rb_ws0 k) B.pre
  have hts : ∀ w ∈ rb_gw, w.before _ s = true := fun w hw => hts0 w (List.mem_cons_of_mem _ hw)
  have hown : s.vm.findClass (rb_cn (rb_ow k)) = some m.cls := by rw [← h6]; exact findClass_of_methodNamed B.named
  have hin : rb_in k = true → meth.name = "<init>" := fun q => by
    have h9 := h8 q
    rw [(name_of_methodNamed B.named B.method).1]; exact h9
  have hcx : rb_cx p (rb_rm k M M') s m _ meth c D k := ⟨B.exec, B.bytes, hml, hown, hts, hin, Nat.le_refl _, Nat.le_refl _, hK, hNw, hAO⟩
  rw [lg_entry_eq]
  subst hsz
  have hD := hWd.2.1.self (sz := s.heap.size)
  have := hW sc k 0 (rb_ent k avs) [] M M' r hex p e (rb_rm k M M') s m _ below meth c s.heap [] (MQ below (rb_Qc D ad M (va_A (rb_ws ad cA M) s.heap.size) r M') (avs.map (rb_tr ad)).toArray s (M'.length - M.length) (rb_sl M' - rb_sl M) (va_A (rb_ws ad cA M) s.heap.size)) ad cA _ (va_A (rb_ws ad cA M) s.heap.size) s.heap M.length (rb_sl M) hcx (rb_lok_ent hc hl) ⟨hWd.1, hD, hWd.2.2⟩ va_S.rf (fun q h => Or.inr h) hXs (Nat.le_refl _) (Nat.le_refl _) (Nat.le_refl _) (Nat.le_refl _) ?_
  · rw [Nat.sub_self, Nat.sub_self] at this
    exact this
  · intro pc' i len st' ad' cA' H' locs' arr' hd hr hg hWd' hS'
    exact rb_ret_ok B.exec B.bytes B.returns B.notSynchronized hd hr (fun t ht hW2 => ⟨⟨ad', cA', rfl, hg, by rw [ht]; exact hWd'.1, hWd'.2.1, rb_KA_moved hW2.alike hWd'.2.2⟩, hS'.F ht⟩) hS'.2.2
theorem rb_call_inv {k k' len : Nat} {i : Instr} {st as rest : List Value} {M : rb_M} (h : rb_call k i len st M = some (k', as, rest)) : len = 3 ∧ rb_h k' < rb_h k ∧ rest.length ≤ 4 ∧ st = as.reverse ++ rest ∧ as.length = rb_na k' ∧
    ((∃ ix a as0 ci fs, i = .invokevirtual ix ∧ rb_find rb_il (rb_ow k) ix = some (k', 0) ∧ as = .ref a :: as0 ∧ M[a]? = some (.inl (ci, fs)) ∧ ci = rb_ow k' ∧ ci < 5) ∨
     (∃ ix kd, i = .invokestatic ix ∧ rb_find rb_il (rb_ow k) ix = some (k', kd) ∧ (kd = 1 ∨ kd = 3)) ∨
     (∃ ix kd a as0, i = .invokespecial ix ∧ rb_find rb_il (rb_ow k) ix = some (k', kd) ∧ (kd = 2 ∨ kd = 4) ∧ as = .ref a :: as0)) := by
  have hst : ∀ {n : Nat} {z : List Value}, (st.take n).reverse = z → st = z.reverse ++ st.drop n := by
    intro n z hz; rw [← hz, List.reverse_reverse, List.take_append_drop]
  have hln : ∀ {n : Nat} {z : List Value}, n ≤ st.length → (st.take n).reverse = z → z.length = n := by
    intro n z h1 hz; rw [← hz, List.length_reverse, List.length_take]; omega
  cases i <;> simp only [rb_call] at h <;> (try cases h) <;> (replace h := rb_ite_inv h) <;> (obtain ⟨h0, h⟩ := h)
  case invokevirtual ix =>
    split at h
    · rename_i k2 kd hf
      replace h := rb_ite_inv h; obtain ⟨⟨rfl, h2, h3, h4⟩, h⟩ := h
      split at h
      · rename_i a as0 hz
        split at h
        · rename_i ci fs ho
          replace h := rb_ite_inv h; obtain ⟨h5, h⟩ := h
          cases h
          exact ⟨h0, h2, h3, hst hz, hln h4 hz, Or.inl ⟨ix, a, as0, ci, fs, rfl, hf, rfl, ho, h5.1, h5.2⟩⟩
        · cases h
      · cases h
    · cases h
  case invokestatic ix =>
    split at h
    · rename_i k2 kd hf
      replace h := rb_ite_inv h; obtain ⟨⟨h1, h2, h3, h4⟩, h⟩ := h
      cases h
      exact ⟨h0, h2, h3, hst rfl, hln h4 rfl, Or.inr (Or.inl ⟨ix, kd, rfl, hf, h1⟩)⟩
    · cases h
  case invokespecial ix =>
    split at h
    · rename_i k2 kd hf
      replace h := rb_ite_inv h; obtain ⟨⟨h1, h2, h3, h4⟩, h⟩ := h
      split at h
      · rename_i a as0 hz
        cases h
        exact ⟨h0, h2, h3, hst hz, hln h4 hz, Or.inr (Or.inr ⟨ix, kd, a, as0, rfl, hf, h1, rfl⟩)⟩
      · cases h
    · cases h
theorem rb_Xs_agr {sc : Option (List Int32)} {ad ad' : Nat → Nat} {A : Nat → Prop} {s : State} {H0 : Heap} {a b : Nat} (hX : rb_Xs sc ad A s H0) (hg : rb_agr ad ad' a b) (hb : b ≤ rb_scr ∨ b = a) : rb_Xs sc ad' A s H0 := by
  have h1 : ad' rb_scr = ad rb_scr := hg rb_scr (by omega)
  intro xs hxs
  rw [h1]
  exact hX xs hxs
set_option maxHeartbeats 4000000 in
theorem rb_w_step {l : Launch} {D : va_G} {n : Nat} (hW : rb_WOK l D n) : rb_WOK l D (n + 1) := by
  have hM := rb_met_of_w hW
  intro sc k pc ls st M M' r hex p e R s m args below meth c H locs Q ad cA arr A H0 c0 s0 C hl hWd hS hA hX hc0 hs0 hrc hrs hend
  obtain ⟨i, len, hd, h⟩ := rb_ex_inv hex
  have C' := C
  obtain ⟨hx, hb, hml, hown, hts, hin, hfr, hlo, hK, hNw, hAO⟩ := C'
  rcases h with ⟨-, pc', ls', st', hp, h⟩ | ⟨-, st', M1, hm, ha, h⟩ | ⟨-, k', as, rest, r1, M1, hcall, hal, hac, hcx, hck, h⟩ | ⟨hr, rfl⟩
  · exact rb_pure_ok hx hb hown hts hd hl hp (fun arr' hl' => hW sc k pc' ls' st' M M' r h p e R s m args below meth c H locs Q ad cA arr' A H0 c0 s0 C hl' hWd hS hA hX hc0 hs0 hrc hrs hend)
  · obtain ⟨m1, m2, m3, m4⟩ := rb_mono n _ _ _ _ _ _ _ _ h
    refine rb_mem_ok C hd hl hWd hS hA hX hm (fun dc ds e1 e2 => ⟨by omega, by omega⟩) (fun ad' cA' H' locs' dc ds e1 e2 e3 e4 hg hl' hWd' hS' => ?_)
    have := hW sc k (pc + len) ls st' M1 M' r h p e R s m args below meth c H' locs' Q ad' cA' arr A H0 c0 s0 C hl' hWd' hS' hA (rb_Xs_agr hX hg e4) (by omega) (by omega) hrc hrs (fun pc2 i2 len2 st2 ad2 cA2 H2 locs2 arr2 q1 q2 q3 q4 q5 => hend pc2 i2 len2 st2 ad2 cA2 H2 locs2 arr2 q1 q2 (rb_agr_trans hg q3 e3 m1) q4 q5)
    rw [show M1.length - c0 = M.length - c0 + dc by omega, show rb_sl M1 - s0 = rb_sl M - s0 + ds by omega] at this
    exact this
  · obtain ⟨m1, m2, m3, m4⟩ := rb_mono n _ _ _ _ _ _ _ _ h
    obtain ⟨g1, g2, g3, g4⟩ := rb_mono n _ _ _ _ _ _ _ _ hcx
    obtain ⟨rfl, hht, hrl, hst, hln, hkind⟩ := rb_call_inv hcall
    have hXc : rb_Xs sc ad (va_A (rb_ws ad cA M) H.size) s H := fun xs hxs => by
      obtain ⟨x1, x2, x3⟩ := hX xs hxs
      refine ⟨va_X.kept x1 (hS.2.1 _ x2 x3), Nat.lt_of_lt_of_le x2 hS.1, fun hq => x3 ?_⟩
      rcases hq with ⟨j, e0, hq⟩ | hq
      · exact hWd.2.1.2 j _ hq
      · exact hA _ (Nat.le_trans hS.1 hq)
    have hPre : ∀ U : State, U.heap = H → s.WarmedH U.vm → rb_Pc D sc ad cA M as H.size (as.map (rb_tr ad)).toArray U := fun U hU hWm => ⟨rfl, by rw [hU], va_K.moved hWm.alike hK, rb_nest_warm hWm hNw, va_AO.moved hWm.alike hAO, ⟨by rw [hU]; exact hWd.1, hWd.2.1.weaken (fun _ _ _ _ => trivial), rb_KA_moved hWm.alike hWd.2.2⟩, by rw [hU]; exact rb_Xs_moved hWm.alike hXc⟩
    have hfix : CallFix p m c (rb_by k) (rb_ml k) s args rb_gw (rb_cn (rb_ow k)) := ⟨hx, hb, hml, hown, hts⟩
    have hsum : 2 * (F0 m pc arr (st.map (rb_tr ad))).monitorRoom + ((rest.map (rb_tr ad)).map fun v => v.category).sum ≤ 8 := by
      have := rb_cat_sum (rest.map (rb_tr ad))
      rw [List.length_map] at this
      exact lv_room (by omega)
    have hroom : (M.length - c0) + (M1.length - M.length) ≤ R.cells ∧ (rb_sl M - s0) + (rb_sl M1 - rb_sl M) ≤ R.slots := ⟨by omega, by omega⟩
    have hR : rb_h k' + 1 ≤ R.frames := by omega
    have hA1 : ∀ q, va_A (rb_ws ad cA M) H.size q → A q := by
      intro q hq
      rcases hq with ⟨j, e0, hq⟩ | hq
      · exact hWd.2.1.2 j _ hq
      · exact hA q (Nat.le_trans hS.1 hq)
    have fin : k' < 100 → (∀ hMet : Met l (rb_y k') (rb_ws0 k') (rb_rm k' M M1) (rb_Pc D sc ad cA M as H.size) (rb_Qc D ad M (va_A (rb_ws ad cA M) H.size) r1 M1) (M1.length - M.length) (rb_sl M1 - rb_sl M) (va_A (rb_ws ad cA M) H.size), va_Run p l e R s m args below meth c H locs (M.length - c0) (rb_sl M - s0) (M1.length - M.length) (rb_sl M1 - rb_sl M) (F0 m pc arr (st.map (rb_tr ad))) (rest.map (rb_tr ad)) (rb_Qc D ad M (va_A (rb_ws ad cA M) H.size) r1 M1 (as.map (rb_tr ad)).toArray) (va_A (rb_ws ad cA M) H.size)) → W p l e R s m args below meth c H locs (M.length - c0) (rb_sl M - s0) Q (F0 m pc arr (st.map (rb_tr ad))) := by
      intro hk' hrun
      refine rb_back (hrun (hM sc k' as M M1 r1 hk' hac hal hcx ad cA H.size)) hS hA1 hA1 (fun ad1 cA1 H1 locs1 hg hWd1 hS1 => ?_)
      obtain ⟨hl1, hr1⟩ := rb_ck_use hck g3 hg hl
      have := hW sc k (pc + 3) ls (r1.toList ++ rest) M1 M' r h p e R s m args below meth c H1 locs1 Q ad1 cA1 arr A H0 c0 s0 C hl1 hWd1 hS1 hA (rb_Xs_agr hX hg g4) (by omega) (by omega) hrc hrs (fun pc2 i2 len2 st2 ad2 cA2 H2 locs2 arr2 q1 q2 q3 q4 q5 => hend pc2 i2 len2 st2 ad2 cA2 H2 locs2 arr2 q1 q2 (rb_agr_trans hg q3 g1 m1) q4 q5)
      rw [show M1.length - c0 = M.length - c0 + (M1.length - M.length) by omega, show rb_sl M1 - s0 = rb_sl M - s0 + (rb_sl M1 - rb_sl M) by omega, List.map_append, hr1] at this
      cases r1 <;> exact this
    have hcb : k' < 100 → ∀ ix, (Jvm.Cond.methodLink (rb_cn (rb_ow k)) ix (rb_y k')).before args s = true → ∀ n0, rb_ar k' = some n0 → CallB R s args (rb_cn (rb_ow k)) ix (rb_y k') (rb_by k') (rb_ml k') (rb_rt k') (rb_ws0 k') (rb_rm k' M M1) (M1.length - M.length) (rb_sl M1 - rb_sl M) n0 := by
      intro hk' ix hlink n0 hn0
      have hmok := rb_mok_all k' hk'
      simp only [rb_mok, Bool.and_eq_true, decide_eq_true_eq] at hmok
      obtain ⟨h1, h2, h3, h4, h5, h6, h7, h8⟩ := hmok
      exact callB_of n0 hts (rb_gw_good h1) rfl rfl rfl (hts _ (rb_is_in h2)) hlink ⟨h3, h4, hn0⟩ ⟨hR, by show 8 + (rb_ml k' + 11) + 35 * rb_h k' ≤ R.locals; omega⟩
    have hcn : k' < 100 → ∀ ix, va_Nw (.methodLinkNest (rb_cn (rb_ow k)) ix (rb_y k') RX4) s → ∀ n0, rb_ar k' = some n0 → va_CN R s args (rb_cn (rb_ow k)) ix (rb_y k') RX4 (rb_by k') (rb_ml k') (rb_rt k') (rb_ws0 k') (rb_rm k' M M1) (M1.length - M.length) (rb_sl M1 - rb_sl M) n0 := by
      intro hk' ix hlink n0 hn0
      have hmok := rb_mok_all k' hk'
      simp only [rb_mok, Bool.and_eq_true, decide_eq_true_eq] at hmok
      obtain ⟨h1, h2, h3, h4, h5, h6, h7, h8⟩ := hmok
      exact va_cnB n0 hts (rb_gw_good h1) rfl rfl rfl hlink (hts _ (rb_is_in h2)) ⟨h3, h4, hn0⟩ ⟨hR, by show 8 + (rb_ml k' + 11) + 35 * rb_h k' ≤ R.locals; omega⟩
    rcases hkind with ⟨ix, a, as0, ci, fs, rfl, hf, rfl, ho, rfl, hci⟩ | ⟨ix, kd, rfl, hf, hkd⟩ | ⟨ix, kd, a, as0, rfl, hf, hkd, rfl⟩
    · have hio := rb_il_all _ (rb_find_mem hf)
      simp only [rb_iok, Bool.and_eq_true, decide_eq_true_eq] at hio
      obtain ⟨i1, i2, i3, i4, i5, i6⟩ := hio
      have hmok := rb_mok_all k' i1
      simp only [rb_mok, Bool.and_eq_true, decide_eq_true_eq] at hmok
      have hcls := hmok.2.2.2.2.2.1
      refine fin i1 (fun hMet => ?_)
      have hrec := va_recv hK hWd.1 (rb_vw _ hci) (rb_ws_at ho)
      rw [← hcls] at hrec
      exact va_runV (As := as0.map (rb_tr ad)) (rest := rest.map (rb_tr ad)) (b := ad a) (C := (rb_y k').cls) hfix hMet ⟨hcb i1 ix (hts _ (rb_is_in i2)) (rb_na k' - 1) i6, hts _ (rb_is_in i3), hts _ (rb_is_in i4)⟩ ⟨rb_Pc_blind, hrec, hPre⟩ rfl (by rw [List.length_map]; simp at hln; omega) hl.2.1 (by rw [hst]; simp [rb_tr]) hsum hd hroom
    · have hio := rb_il_all _ (rb_find_mem hf)
      rcases hkd with rfl | rfl
      · simp only [rb_iok, Bool.and_eq_true, decide_eq_true_eq] at hio
        obtain ⟨i1, i2, i3, i4⟩ := hio
        refine fin i1 (fun hMet => ?_)
        exact va_runS (As := as.map (rb_tr ad)) (rest := rest.map (rb_tr ad)) hfix hMet ⟨hcb i1 ix (hts _ (rb_is_in i2)) (rb_na k') i4, hts _ (rb_is_in i3)⟩ ⟨rb_Pc_blind, hPre⟩ rfl (by rw [List.length_map]; exact hln) hl.2.1 (by rw [hst]; simp) hsum hd hroom
      · simp only [rb_iok, Bool.and_eq_true, decide_eq_true_eq] at hio
        obtain ⟨i1, i2, i3, i4⟩ := hio
        refine fin i1 (fun hMet => ?_)
        exact va_runSN (As := as.map (rb_tr ad)) (rest := rest.map (rb_tr ad)) hfix hMet ⟨hcn i1 ix (hNw _ i2) (rb_na k') i4, hts _ (rb_is_in i3), trivial⟩ ⟨rb_Pc_blind, hPre⟩ rfl (by rw [List.length_map]; exact hln) hl.2.1 (by rw [hst]; simp) hsum hd hroom
    · have hio := rb_il_all _ (rb_find_mem hf)
      rcases hkd with rfl | rfl
      · simp only [rb_iok, Bool.and_eq_true, decide_eq_true_eq] at hio
        obtain ⟨i1, i2, i3, i4, i5, i6, i7⟩ := hio
        refine fin i1 (fun hMet => ?_)
        have hcb1 := hcb i1 ix (hts _ (rb_is_in i2)) (rb_na k' - 1) i7
        rw [i5] at hcb1
        exact va_runI (As := as0.map (rb_tr ad)) (rest := rest.map (rb_tr ad)) (b := ad a) hfix hMet ⟨hcb1, i4, hts _ (rb_is_in i3)⟩ ⟨rb_Pc_blind, hPre⟩ rfl (by rw [List.length_map]; simp at hln; omega) hl.2.1 (by rw [hst]; simp [rb_tr]) hsum hd hroom
      · simp only [rb_iok, Bool.and_eq_true, decide_eq_true_eq] at hio
        obtain ⟨i1, i2, i3, i4, i5, i6, i7⟩ := hio
        refine fin i1 (fun hMet => ?_)
        have hcb1 := hcn i1 ix (hNw _ i2) (rb_na k' - 1) i7
        rw [i5] at hcb1
        exact va_runIN (As := as0.map (rb_tr ad)) (rest := rest.map (rb_tr ad)) (b := ad a) hfix hMet ⟨hcb1, i4, hts _ (rb_is_in i3)⟩ ⟨rb_Pc_blind, hPre⟩ rfl (by rw [List.length_map]; simp at hln; omega) hl.2.1 (by rw [hst]; simp [rb_tr]) hsum hd hroom
  · exact hend pc i len st ad cA H locs arr hd hr (fun _ _ => rfl) hWd hS
theorem rb_w_all (l : Launch) (D : va_G) : ∀ n, rb_WOK l D n
  | 0 => fun _ _ _ _ _ _ _ _ h => by cases h
  | n + 1 => rb_w_step (rb_w_all l D n)
