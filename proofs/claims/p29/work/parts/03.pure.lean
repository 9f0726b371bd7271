/-! THE INTERPRETER AGAINST THE MACHINE, 1: what needs no cells -/
def rb_tr (ad : Nat → Nat) (v : Value) : Value := match v with
  | .ref i => .ref (ad i)
  | .int x => .int x
  | .long x => .long x
  | .float x => .float x
  | .double x => .double x
  | .null => .null
  | .retAddr x => .retAddr x
theorem rb_tr_cat (ad : Nat → Nat) (v : Value) : (rb_tr ad v).category = v.category := by cases v <;> rfl
theorem rb_ite_inv {α : Type} {c : Prop} [Decidable c] {a : Option α} {b : α} (h : (if c then a else none) = some b) : c ∧ a = some b := by
  by_cases hc : c
  · rw [if_pos hc] at h; exact ⟨hc, h⟩
  · rw [if_neg hc] at h; cases h
theorem rb_ite_inv' {α : Type} {c : Prop} [Decidable c] {a : Option α} {b : α} (h : (if c then none else a) = some b) : ¬ c ∧ a = some b := by
  by_cases hc : c
  · rw [if_pos hc] at h; cases h
  · rw [if_neg hc] at h; exact ⟨hc, h⟩
theorem rb_b2_inv {pc pc' : Nat} {ls ls' : rb_L} {f : Int32 → Int32 → Int32} {st st' : List Value} (h : rb_b2 pc ls f st = some (pc', ls', st')) : ∃ x y r, st = .int y :: .int x :: r ∧ pc' = pc + 1 ∧ ls' = ls ∧ st' = .int (f x y) :: r := by
  unfold rb_b2 at h
  split at h
  · cases h; exact ⟨_, _, _, rfl, rfl, rfl, rfl⟩
  · cases h
theorem rb_bl_inv {pc pc' : Nat} {ls ls' : rb_L} {f : Int64 → Int64 → Int64} {st st' : List Value} (h : rb_bl pc ls f st = some (pc', ls', st')) : ∃ x y r, st = .long y :: .long x :: r ∧ pc' = pc + 1 ∧ ls' = ls ∧ st' = .long (f x y) :: r := by
  unfold rb_bl at h
  split at h
  · cases h; exact ⟨_, _, _, rfl, rfl, rfl, rfl⟩
  · cases h
theorem rb_ldi_inv {pc pc' i : Nat} {ls ls' : rb_L} {st st' : List Value} (h : rb_ldi pc ls i st = some (pc', ls', st')) : ∃ x, ls[i]? = some (some (.int x)) ∧ pc' = pc ∧ ls' = ls ∧ st' = .int x :: st := by
  unfold rb_ldi at h
  split at h
  · rename_i x hx; cases h; exact ⟨x, hx, rfl, rfl, rfl⟩
  · cases h
theorem rb_lda_inv {pc pc' i : Nat} {ls ls' : rb_L} {st st' : List Value} (h : rb_lda pc ls i st = some (pc', ls', st')) : (∃ x, ls[i]? = some (some (.ref x)) ∧ pc' = pc ∧ ls' = ls ∧ st' = .ref x :: st) ∨ (ls[i]? = some (some .null) ∧ pc' = pc ∧ ls' = ls ∧ st' = .null :: st) := by
  unfold rb_lda at h
  split at h
  · rename_i x hx; cases h; exact Or.inl ⟨x, hx, rfl, rfl, rfl⟩
  · rename_i hx; cases h; exact Or.inr ⟨hx, rfl, rfl, rfl⟩
  · cases h
theorem rb_ldl_inv {pc pc' i : Nat} {ls ls' : rb_L} {st st' : List Value} (h : rb_ldl pc ls i st = some (pc', ls', st')) : ∃ x, ls[i]? = some (some (.long x)) ∧ pc' = pc ∧ ls' = ls ∧ st' = .long x :: st := by
  unfold rb_ldl at h
  split at h
  · rename_i x hx; cases h; exact ⟨x, hx, rfl, rfl, rfl⟩
  · cases h
theorem rb_ldd_inv {pc pc' i : Nat} {ls ls' : rb_L} {st st' : List Value} (h : rb_ldd pc ls i st = some (pc', ls', st')) : ∃ x, ls[i]? = some (some (.double x)) ∧ pc' = pc ∧ ls' = ls ∧ st' = .double x :: st := by
  unfold rb_ldd at h
  split at h
  · rename_i x hx; cases h; exact ⟨x, hx, rfl, rfl, rfl⟩
  · cases h
theorem rb_sti_inv {k pc pc' i : Nat} {ls ls' : rb_L} {st st' : List Value} (h : rb_sti k pc ls i st = some (pc', ls', st')) : ∃ x r, st = .int x :: r ∧ rb_sto k i = true ∧ i < ls.length ∧ pc' = pc ∧ ls' = ls.set i (some (.int x)) ∧ st' = r := by
  unfold rb_sti at h
  split at h
  · obtain ⟨hc, h⟩ := rb_ite_inv h
    cases h; exact ⟨_, _, rfl, hc.1, hc.2, rfl, rfl, rfl⟩
  · cases h
theorem rb_sta_inv {k pc pc' i : Nat} {ls ls' : rb_L} {st st' : List Value} (h : rb_sta k pc ls i st = some (pc', ls', st')) : (∃ x r, st = .ref x :: r ∧ rb_sto k i = true ∧ i < ls.length ∧ pc' = pc ∧ ls' = ls.set i (some (.ref x)) ∧ st' = r) ∨ (∃ r, st = .null :: r ∧ rb_sto k i = true ∧ i < ls.length ∧ pc' = pc ∧ ls' = ls.set i (some .null) ∧ st' = r) := by
  unfold rb_sta at h
  split at h
  · replace h := rb_ite_inv h; obtain ⟨hc, h⟩ := h
    cases h; exact Or.inl ⟨_, _, rfl, hc.1, hc.2, rfl, rfl, rfl⟩
  · replace h := rb_ite_inv h; obtain ⟨hc, h⟩ := h
    cases h; exact Or.inr ⟨_, rfl, hc.1, hc.2, rfl, rfl, rfl⟩
  · cases h
theorem rb_tg_inv {pc t : Nat} {off : Int} (h : rb_tg pc off = some t) : (pc : Int) + off = (t : Int) := by
  unfold rb_tg at h
  obtain ⟨hc, h⟩ := rb_ite_inv h
  cases h
  exact (Int.toNat_of_nonneg hc).symm
theorem rb_br_inv {pc pc' : Nat} {off : Int} {ls ls' : rb_L} {st st' : List Value} {b : Bool} (h : rb_br pc off ls st b = some (pc', ls', st')) : ∃ t : Nat, (pc : Int) + off = (t : Int) ∧ pc' = (if b = true then t else pc + 3) ∧ ls' = ls ∧ st' = st := by
  unfold rb_br at h
  split at h
  · rename_i t ht; cases h; exact ⟨t, rb_tg_inv ht, rfl, rfl, rfl⟩
  · cases h
/-- the machine's slots hold what the interpreter's do -/
def rb_lok (k : Nat) (ad : Nat → Nat) (ls : rb_L) (arr : Array Slot) (nL : Nat) : Prop := ls.length = nL ∧ arr.size = nL ∧ lv_wf arr ∧ (∀ (i : Nat) (v : Value), ls[i]? = some (some v) → arr[i]? = some (.val (rb_tr ad v))) ∧ ∀ (i : Nat) (v : Value), ls[i]? = some (some v) → v.category = 2 → rb_std k i = true
def rb_lv (ad : Nat → Nat) (ls : rb_L) : List (Nat × Value) := (List.range ls.length).filterMap fun i => match ls[i]? with
  | some (some v) => some (i, rb_tr ad v)
  | _ => none
theorem rb_lv_mem {ad : Nat → Nat} {ls : rb_L} {q : Nat × Value} : q ∈ rb_lv ad ls ↔ ∃ v, ls[q.1]? = some (some v) ∧ q.2 = rb_tr ad v := by
  unfold rb_lv
  rw [List.mem_filterMap]
  constructor
  · rintro ⟨i, -, h⟩
    split at h
    · rename_i v hv; cases h; exact ⟨v, hv, rfl⟩
    · cases h
  · rintro ⟨v, hv, h2⟩
    refine ⟨q.1, List.mem_range.mpr (List.getElem?_eq_some_iff.mp hv).1, ?_⟩
    rw [hv]
    show some (q.1, rb_tr ad v) = some q
    rw [← h2]
theorem rb_lok_has {k nL : Nat} {ad : Nat → Nat} {ls : rb_L} {arr : Array Slot} (h : rb_lok k ad ls arr nL) : lv_has arr nL (rb_lv ad ls) := by
  refine ⟨h.2.1, h.2.2.1, fun q hq => ?_⟩
  obtain ⟨v, h1, h2⟩ := rb_lv_mem.mp hq
  rw [h2]
  exact h.2.2.2.1 _ _ h1
theorem rb_sto_std {k i j : Nat} (h : rb_sto k i = true) (hj : j + 1 = i) : rb_std k j = false := by
  unfold rb_sto at h
  unfold rb_std
  cases hb : rb_dd.any fun e => e.1 == k && e.2 == j with
  | false => rfl
  | true =>
    obtain ⟨e, he, h2⟩ := List.any_eq_true.mp hb
    have : (rb_dd.any fun e => e.1 == k && e.2 + 1 == i) = true := List.any_eq_true.mpr ⟨e, he, by
      simp only [Bool.and_eq_true, beq_iff_eq] at h2 ⊢
      exact ⟨h2.1, by omega⟩⟩
    rw [this] at h; cases h
theorem rb_lok_set {k nL i : Nat} {ad : Nat → Nat} {ls : rb_L} {arr arr' : Array Slot} {x : Value} (h : rb_lok k ad ls arr nL) (hs : rb_sto k i = true) (hx : x.category = 1) (h' : lv_has arr' nL ((i, rb_tr ad x) :: (rb_lv ad ls).filter (fun q => !(q.1 == i) && !(q.1 + 1 == i && q.2.category == 2)))) : rb_lok k ad (ls.set i (some x)) arr' nL := by
  refine ⟨by rw [List.length_set]; exact h.1, h'.1, h'.2.1, fun j v hj => ?_, fun j v hj hc => ?_⟩
  · by_cases hij : i = j
    · subst hij
      rw [List.getElem?_set_self' ] at hj
      have hx2 : x = v := by
        cases hq : ls[i]? with
        | none => rw [hq] at hj; cases hj
        | some o => rw [hq] at hj; exact Option.some.inj (Option.some.inj hj)
      rw [← hx2]
      exact h'.2.2 (i, rb_tr ad x) List.mem_cons_self
    · rw [List.getElem?_set_ne hij] at hj
      refine h'.2.2 (j, rb_tr ad v) (List.mem_cons_of_mem _ (List.mem_filter.mpr ⟨rb_lv_mem.mpr ⟨v, hj, rfl⟩, ?_⟩))
      have h1 : (j == i) = false := by rw [beq_eq_false_iff_ne]; exact fun q => hij q.symm
      have h2 : (j + 1 == i && (rb_tr ad v).category == 2) = false := by
        cases hb : (j + 1 == i && (rb_tr ad v).category == 2) with
        | false => rfl
        | true =>
          simp only [Bool.and_eq_true, beq_iff_eq] at hb
          rw [rb_tr_cat] at hb
          have := h.2.2.2.2 j v hj hb.2
          rw [rb_sto_std hs hb.1] at this; cases this
      show (!(j == i) && !(j + 1 == i && (rb_tr ad v).category == 2)) = true
      rw [h1, h2]; rfl
  · by_cases hij : i = j
    · subst hij
      rw [List.getElem?_set_self'] at hj
      cases hq : ls[i]? with
      | none => rw [hq] at hj; cases hj
      | some o =>
        rw [hq] at hj
        have hx2 : x = v := Option.some.inj (Option.some.inj hj)
        rw [← hx2, hx] at hc; cases hc
    · rw [List.getElem?_set_ne hij] at hj
      exact h.2.2.2.2 j v hj hc
theorem rb_lok_set2 {k nL i : Nat} {ad : Nat → Nat} {ls : rb_L} {arr arr' : Array Slot} {x : Value} (h : rb_lok k ad ls arr nL) (hs : rb_sto k i = true) (hd : rb_std k i = true) (h' : lv_has arr' nL ((i, rb_tr ad x) :: (rb_lv ad ls).filter (fun q => !(q.1 == i) && (!(q.1 == i + 1) && !(q.1 + 1 == i && q.2.category == 2))))) : rb_lok k ad ((ls.set i (some x)).set (i + 1) none) arr' nL := by
  have key : ∀ (j : Nat) (v : Value), ((ls.set i (some x)).set (i + 1) none)[j]? = some (some v) → (j = i ∧ v = x) ∨ (j ≠ i ∧ j ≠ i + 1 ∧ ls[j]? = some (some v)) := by
    intro j v hj
    by_cases h1 : i + 1 = j
    · subst h1
      rw [List.getElem?_set_self'] at hj
      cases hq : (ls.set i (some x))[i + 1]? with
      | none => rw [hq] at hj; cases hj
      | some o => rw [hq] at hj; cases hj
    · rw [List.getElem?_set_ne h1] at hj
      by_cases h2 : i = j
      · subst h2
        rw [List.getElem?_set_self'] at hj
        cases hq : ls[i]? with
        | none => rw [hq] at hj; cases hj
        | some o => rw [hq] at hj; exact Or.inl ⟨rfl, (Option.some.inj (Option.some.inj hj)).symm⟩
      · rw [List.getElem?_set_ne h2] at hj
        exact Or.inr ⟨fun q => h2 q.symm, fun q => h1 q.symm, hj⟩
  refine ⟨by rw [List.length_set, List.length_set]; exact h.1, h'.1, h'.2.1, fun j v hj => ?_, fun j v hj hc => ?_⟩
  · rcases key j v hj with ⟨rfl, rfl⟩ | ⟨n1, n2, hj⟩
    · exact h'.2.2 (j, rb_tr ad v) List.mem_cons_self
    · refine h'.2.2 (j, rb_tr ad v) (List.mem_cons_of_mem _ (List.mem_filter.mpr ⟨rb_lv_mem.mpr ⟨v, hj, rfl⟩, ?_⟩))
      have h1 : (j == i) = false := beq_eq_false_iff_ne.mpr n1
      have h3 : (j == i + 1) = false := beq_eq_false_iff_ne.mpr n2
      have h2 : (j + 1 == i && (rb_tr ad v).category == 2) = false := by
        cases hb : (j + 1 == i && (rb_tr ad v).category == 2) with
        | false => rfl
        | true =>
          simp only [Bool.and_eq_true, beq_iff_eq] at hb
          rw [rb_tr_cat] at hb
          have := h.2.2.2.2 j v hj hb.2
          rw [rb_sto_std hs hb.1] at this; cases this
      show (!(j == i) && (!(j == i + 1) && !(j + 1 == i && (rb_tr ad v).category == 2))) = true
      rw [h1, h2, h3]; rfl
  · rcases key j v hj with ⟨rfl, rfl⟩ | ⟨n1, n2, hj⟩
    · exact hd
    · exact h.2.2.2.2 j v hj hc
/-- the constants' words -/
def rb_kc (e : (Nat × Nat) × Value) : Jvm.Cond := match e.2 with
  | .int v => .constant (rb_cn e.1.1) e.1.2 v
  | .long v => .constantLong (rb_cn e.1.1) e.1.2 v
  | _ => .constant "" 0 0
/-- the tables' words that stay true wherever a call goes -/
def rb_gw : List Jvm.Cond := lw_tbl.filter goodWord
def rb_is (w : Jvm.Cond) : Bool := decide (w ∈ lw_tbl) && goodWord w
theorem rb_is_in {w : Jvm.Cond} (h : rb_is w = true) : w ∈ rb_gw := by
  unfold rb_is at h
  rw [Bool.and_eq_true] at h
  exact List.mem_filter.mpr ⟨of_decide_eq_true h.1, h.2⟩
theorem rb_kl_ok : ∀ e ∈ rb_kl, rb_is (rb_kc e) = true := by decide +kernel
theorem rb_find_mem {α : Type} {l : List ((Nat × Nat) × α)} {a b : Nat} {x : α} (h : rb_find l a b = some x) : ((a, b), x) ∈ l := by
  induction l with
  | nil => cases h
  | cons e r ih =>
    unfold rb_find at h
    by_cases hc : (e.1.1 == a && e.1.2 == b) = true
    · rw [if_pos hc] at h
      simp only [Bool.and_eq_true, beq_iff_eq] at hc
      obtain ⟨⟨e1, e2⟩, e3⟩ := e
      cases h
      obtain ⟨rfl, rfl⟩ := hc
      exact List.mem_cons_self
    · rw [if_neg hc] at h
      exact List.mem_cons_of_mem _ (ih h)
section RBP
variable {p : Program} {l : Launch} {e : Env} {R : Room} {s : State} {m : MethodId} {args : Array Value} {below : List Frame} {meth : Method} {c : Code} {H : Heap} {locs : List Loc} {cells slots : Nat} {Q : State → Prop}
theorem rb_jump {b : Bool} {P : Prop} [Decidable P] {t pc pc' : Nat} {arr : Array Slot} {st : List Value} (hb : b = decide P) (hp : pc' = (if b = true then t else pc + 3)) (kk : W p l e R s m args below meth c H locs cells slots Q (F0 m pc' arr st)) : (P → W p l e R s m args below meth c H locs cells slots Q (F0 m t arr st)) ∧ (¬ P → W p l e R s m args below meth c H locs cells slots Q (F0 m (pc + 3) arr st)) := by
  subst hb
  refine ⟨fun h => ?_, fun h => ?_⟩
  · rw [hp, if_pos (decide_eq_true h)] at kk; exact kk
  · rw [hp, if_neg (by rw [decide_eq_true_eq]; exact h)] at kk; exact kk
set_option maxHeartbeats 4000000 in
theorem rb_pure_ok {k nL pc pc' len : Nat} {ad : Nat → Nat} {i : Instr} {ls ls' : rb_L} {st st' : List Value} {arr : Array Slot} (hx : p.tables.exec = Jvm.exec) (hb : c.code = rb_by k) (hown : s.vm.findClass (rb_cn (rb_ow k)) = some m.cls) (hts : ∀ w ∈ rb_gw, w.before args s = true) (hd : decode (rb_by k) pc = .ok (i, len)) (hl : rb_lok k ad ls arr nL) (h : rb_pure k pc i len ls st = some (pc', ls', st')) (kk : ∀ arr' : Array Slot, rb_lok k ad ls' arr' nL → W p l e R s m args below meth c H locs cells slots Q (F0 m pc' arr' (st'.map (rb_tr ad)))) : W p l e R s m args below meth c H locs cells slots Q (F0 m pc arr (st.map (rb_tr ad))) := by
  cases i <;> simp only [rb_pure] at h <;> (try cases h)
  case iconst n => replace h := rb_ite_inv h; obtain ⟨rfl, h⟩ := h; cases h; exact lv_iconst hx hb hd rfl (kk arr hl)
  case bipush n => replace h := rb_ite_inv h; obtain ⟨rfl, h⟩ := h; cases h; exact lv_bipush hx hb hd rfl (kk arr hl)
  case sipush n => replace h := rb_ite_inv h; obtain ⟨rfl, h⟩ := h; cases h; exact lv_sipush hx hb hd rfl (kk arr hl)
  case fconst n => replace h := rb_ite_inv h; obtain ⟨⟨rfl, rfl⟩, h⟩ := h; cases h; exact lv_fconst0 hx hb hd (kk arr hl)
  case aconst_null => replace h := rb_ite_inv h; obtain ⟨rfl, h⟩ := h; cases h; exact lv_null hx hb hd (kk arr hl)
  case ldc ix =>
    replace h := rb_ite_inv h; obtain ⟨rfl, h⟩ := h
    split at h
    · rename_i v hf; cases h; exact lv_ldc hx hb hown (hts _ (rb_is_in (rb_kl_ok _ (rb_find_mem hf)))) hd (kk arr hl)
    · cases h
  case ldc_w ix =>
    replace h := rb_ite_inv h; obtain ⟨rfl, h⟩ := h
    split at h
    · rename_i v hf; cases h; exact lv_ldcw hx hb hown (hts _ (rb_is_in (rb_kl_ok _ (rb_find_mem hf)))) hd (kk arr hl)
    · cases h
  case ldc2_w ix =>
    replace h := rb_ite_inv h; obtain ⟨rfl, h⟩ := h
    split at h
    · rename_i v hf; cases h; exact lv_ldc2 hx hb hown (hts _ (rb_is_in (rb_kl_ok _ (rb_find_mem hf)))) hd (kk arr hl)
    · cases h
  case iload_n j => replace h := rb_ite_inv h; obtain ⟨rfl, h⟩ := h; replace h := rb_ldi_inv h; obtain ⟨x, hi, rfl, rfl, rfl⟩ := h; exact lv_iload_n hx hb hd rfl (hl.2.2.2.1 _ _ hi) (kk arr hl)
  case iload j => replace h := rb_ite_inv h; obtain ⟨rfl, h⟩ := h; replace h := rb_ldi_inv h; obtain ⟨x, hi, rfl, rfl, rfl⟩ := h; exact lv_iload hx hb hd (hl.2.2.2.1 _ _ hi) (kk arr hl)
  case aload_n j =>
    replace h := rb_ite_inv h; obtain ⟨rfl, h⟩ := h
    rcases rb_lda_inv h with ⟨x, hi, rfl, rfl, rfl⟩ | ⟨hi, rfl, rfl, rfl⟩
    · exact lv_aload_n hx hb hd rfl (hl.2.2.2.1 _ _ hi) (kk arr hl)
    · exact lv_aload_nN hx hb hd rfl (hl.2.2.2.1 _ _ hi) (kk arr hl)
  case aload j =>
    replace h := rb_ite_inv h; obtain ⟨rfl, h⟩ := h
    rcases rb_lda_inv h with ⟨x, hi, rfl, rfl, rfl⟩ | ⟨hi, rfl, rfl, rfl⟩
    · exact lv_aload hx hb hd (hl.2.2.2.1 _ _ hi) (kk arr hl)
    · exact lv_aloadN hx hb hd (hl.2.2.2.1 _ _ hi) (kk arr hl)
  case lload_n j => replace h := rb_ite_inv h; obtain ⟨rfl, h⟩ := h; replace h := rb_ldl_inv h; obtain ⟨x, hi, rfl, rfl, rfl⟩ := h; exact lv_lload_n hx hb hd rfl (hl.2.2.2.1 _ _ hi) (kk arr hl)
  case dload j => replace h := rb_ite_inv h; obtain ⟨rfl, h⟩ := h; replace h := rb_ldd_inv h; obtain ⟨x, hi, rfl, rfl, rfl⟩ := h; exact lv_dload hx hb hd (hl.2.2.2.1 _ _ hi) (kk arr hl)
  case istore_n j => replace h := rb_ite_inv h; obtain ⟨rfl, h⟩ := h; replace h := rb_sti_inv h; obtain ⟨x, r, rfl, h1, h2, rfl, rfl, rfl⟩ := h; exact lv_istore_n hx hb hd rfl (rb_lok_has hl) (by rw [← hl.1]; exact h2) rfl (fun arr' h' => kk arr' (rb_lok_set hl h1 rfl h'))
  case istore j => replace h := rb_ite_inv h; obtain ⟨rfl, h⟩ := h; replace h := rb_sti_inv h; obtain ⟨x, r, rfl, h1, h2, rfl, rfl, rfl⟩ := h; exact lv_istore hx hb hd (rb_lok_has hl) (by rw [← hl.1]; exact h2) rfl (fun arr' h' => kk arr' (rb_lok_set hl h1 rfl h'))
  case astore_n j =>
    replace h := rb_ite_inv h; obtain ⟨rfl, h⟩ := h
    rcases rb_sta_inv h with ⟨x, r, rfl, h1, h2, rfl, rfl, rfl⟩ | ⟨r, rfl, h1, h2, rfl, rfl, rfl⟩
    · exact lv_astore_n hx hb hd rfl (rb_lok_has hl) (by rw [← hl.1]; exact h2) rfl (fun arr' h' => kk arr' (rb_lok_set hl h1 rfl h'))
    · exact lv_astore_nN hx hb hd rfl (rb_lok_has hl) (by rw [← hl.1]; exact h2) rfl (fun arr' h' => kk arr' (rb_lok_set (x := .null) hl h1 rfl h'))
  case astore j =>
    replace h := rb_ite_inv h; obtain ⟨rfl, h⟩ := h
    rcases rb_sta_inv h with ⟨x, r, rfl, h1, h2, rfl, rfl, rfl⟩ | ⟨r, rfl, h1, h2, rfl, rfl, rfl⟩
    · exact lv_astore hx hb hd (rb_lok_has hl) (by rw [← hl.1]; exact h2) rfl (fun arr' h' => kk arr' (rb_lok_set hl h1 rfl h'))
    · exact lv_astoreN hx hb hd (rb_lok_has hl) (by rw [← hl.1]; exact h2) rfl (fun arr' h' => kk arr' (rb_lok_set (x := .null) hl h1 rfl h'))
  case lstore_n j =>
    replace h := rb_ite_inv h; obtain ⟨rfl, h⟩ := h
    split at h
    · simp only [rb_st2] at h
      replace h := rb_ite_inv h; obtain ⟨h1, h⟩ := h
      cases h
      exact lv_lstore_n hx hb hd rfl (rb_lok_has hl) (by rw [← hl.1]; exact h1.2.2) rfl (fun arr' h' => kk arr' (rb_lok_set2 hl h1.1 h1.2.1 h'))
    · cases h
  case dstore j =>
    replace h := rb_ite_inv h; obtain ⟨rfl, h⟩ := h
    split at h
    · simp only [rb_st2] at h
      replace h := rb_ite_inv h; obtain ⟨h1, h⟩ := h
      cases h
      exact lv_dstore hx hb hd (rb_lok_has hl) (by rw [← hl.1]; exact h1.2.2) rfl (fun arr' h' => kk arr' (rb_lok_set2 hl h1.1 h1.2.1 h'))
    · cases h
  case iinc j n =>
    replace h := rb_ite_inv h; obtain ⟨hlen, h⟩ := h
    split at h
    · rename_i x hj
      replace h := rb_ite_inv h; obtain ⟨h1, h⟩ := h
      cases h
      obtain ⟨q, hq⟩ := List.getElem?_of_mem (rb_lv_mem (ad := ad) (q := (j, Value.int x)).mpr ⟨.int x, hj, rfl⟩)
      rcases hlen with rfl | rfl
      · exact lv_iinc hx hb hd (rb_lok_has hl) hq rfl (by rw [← hl.1]; exact (List.getElem?_eq_some_iff.mp hj).1) rfl (fun arr' h' => kk arr' (rb_lok_set (x := .int (x + Int32.ofInt n)) hl h1 rfl h'))
      · exact lv_iincW hx hb hd (rb_lok_has hl) hq rfl (by rw [← hl.1]; exact (List.getElem?_eq_some_iff.mp hj).1) rfl (fun arr' h' => kk arr' (rb_lok_set (x := .int (x + Int32.ofInt n)) hl h1 rfl h'))
    · cases h
  case iadd => replace h := rb_ite_inv h; obtain ⟨rfl, h⟩ := h; replace h := rb_b2_inv h; obtain ⟨x, y, r, rfl, rfl, rfl, rfl⟩ := h; exact lv_iadd hx hb hd (kk arr hl)
  case isub => replace h := rb_ite_inv h; obtain ⟨rfl, h⟩ := h; replace h := rb_b2_inv h; obtain ⟨x, y, r, rfl, rfl, rfl, rfl⟩ := h; exact lv_isub hx hb hd (kk arr hl)
  case imul => replace h := rb_ite_inv h; obtain ⟨rfl, h⟩ := h; replace h := rb_b2_inv h; obtain ⟨x, y, r, rfl, rfl, rfl, rfl⟩ := h; exact lv_imul hx hb hd (kk arr hl)
  case iand => replace h := rb_ite_inv h; obtain ⟨rfl, h⟩ := h; replace h := rb_b2_inv h; obtain ⟨x, y, r, rfl, rfl, rfl, rfl⟩ := h; exact lv_iand hx hb hd (kk arr hl)
  case ior => replace h := rb_ite_inv h; obtain ⟨rfl, h⟩ := h; replace h := rb_b2_inv h; obtain ⟨x, y, r, rfl, rfl, rfl, rfl⟩ := h; exact lv_ior hx hb hd (kk arr hl)
  case ixor => replace h := rb_ite_inv h; obtain ⟨rfl, h⟩ := h; replace h := rb_b2_inv h; obtain ⟨x, y, r, rfl, rfl, rfl, rfl⟩ := h; exact lv_ixor hx hb hd (kk arr hl)
  case ishl => replace h := rb_ite_inv h; obtain ⟨rfl, h⟩ := h; replace h := rb_b2_inv h; obtain ⟨x, y, r, rfl, rfl, rfl, rfl⟩ := h; exact lv_ishl hx hb hd (kk arr hl)
  case ishr => replace h := rb_ite_inv h; obtain ⟨rfl, h⟩ := h; replace h := rb_b2_inv h; obtain ⟨x, y, r, rfl, rfl, rfl, rfl⟩ := h; exact lv_ishr hx hb hd (kk arr hl)
  case iushr => replace h := rb_ite_inv h; obtain ⟨rfl, h⟩ := h; replace h := rb_b2_inv h; obtain ⟨x, y, r, rfl, rfl, rfl, rfl⟩ := h; exact lv_iushr hx hb hd rfl (kk arr hl)
  case idiv =>
    replace h := rb_ite_inv h; obtain ⟨rfl, h⟩ := h
    split at h
    · replace h := rb_ite_inv' h; obtain ⟨h1, h⟩ := h
      cases h
      exact lv_idiv hx hb hd h1 (kk arr hl)
    · cases h
  case irem =>
    replace h := rb_ite_inv h; obtain ⟨rfl, h⟩ := h
    split at h
    · replace h := rb_ite_inv' h; obtain ⟨h1, h⟩ := h
      cases h
      exact lv_irem hx hb hd h1 (kk arr hl)
    · cases h
  case ineg => replace h := rb_ite_inv h; obtain ⟨rfl, h⟩ := h; split at h; (· cases h; exact lv_ineg hx hb hd (kk arr hl)); (· cases h)
  case ladd => replace h := rb_ite_inv h; obtain ⟨rfl, h⟩ := h; replace h := rb_bl_inv h; obtain ⟨x, y, r, rfl, rfl, rfl, rfl⟩ := h; exact lv_ladd hx hb hd (kk arr hl)
  case lmul => replace h := rb_ite_inv h; obtain ⟨rfl, h⟩ := h; replace h := rb_bl_inv h; obtain ⟨x, y, r, rfl, rfl, rfl, rfl⟩ := h; exact lv_lmul hx hb hd (kk arr hl)
  case lrem =>
    replace h := rb_ite_inv h; obtain ⟨rfl, h⟩ := h
    split at h
    · replace h := rb_ite_inv' h; obtain ⟨h1, h⟩ := h
      cases h
      exact lv_lrem hx hb hd h1 (kk arr hl)
    · cases h
  case i2l => replace h := rb_ite_inv h; obtain ⟨rfl, h⟩ := h; split at h; (· cases h; exact lv_i2l hx hb hd rfl (kk arr hl)); (· cases h)
  case l2i => replace h := rb_ite_inv h; obtain ⟨rfl, h⟩ := h; split at h; (· cases h; exact lv_l2i hx hb hd rfl (kk arr hl)); (· cases h)
  case i2f => replace h := rb_ite_inv h; obtain ⟨rfl, h⟩ := h; split at h; (· cases h; exact lv_i2f hx hb hd (kk arr hl)); (· cases h)
  case fdiv =>
    replace h := rb_ite_inv h; obtain ⟨rfl, h⟩ := h
    split at h
    · replace h := rb_ite_inv h; obtain ⟨h1, h⟩ := h
      cases h
      exact lv_fdiv hx hb hd h1 (kk arr hl)
    · cases h
  case f2d =>
    replace h := rb_ite_inv h; obtain ⟨rfl, h⟩ := h
    split at h
    · replace h := rb_ite_inv h; obtain ⟨h1, h⟩ := h
      cases h
      exact lv_f2d hx hb hd h1 (kk arr hl)
    · cases h
  case fcmp op => replace h := rb_ite_inv h; obtain ⟨rfl, h⟩ := h; split at h; (· cases h; exact lv_fcmp hx hb hd (kk arr hl)); (· cases h)
  case dcmp op => replace h := rb_ite_inv h; obtain ⟨rfl, h⟩ := h; split at h; (· cases h; exact lv_dcmp hx hb hd (kk arr hl)); (· cases h)
  case dup =>
    replace h := rb_ite_inv h; obtain ⟨rfl, h⟩ := h
    split at h
    · replace h := rb_ite_inv h; obtain ⟨h1, h⟩ := h
      cases h
      exact lv_dup hx hb hd (by rw [rb_tr_cat]; exact h1) (kk arr hl)
    · cases h
  case pop =>
    replace h := rb_ite_inv h; obtain ⟨rfl, h⟩ := h
    split at h
    · replace h := rb_ite_inv h; obtain ⟨h1, h⟩ := h
      cases h
      exact lv_pop hx hb hd (by rw [rb_tr_cat]; exact h1) (kk arr hl)
    · cases h
  case dup2 =>
    replace h := rb_ite_inv h; obtain ⟨rfl, h⟩ := h
    split at h
    · replace h := rb_ite_inv h; obtain ⟨h1, h⟩ := h
      cases h
      exact lv_dup2_11 hx hb hd (by rw [rb_tr_cat]; exact h1.1) (by rw [rb_tr_cat]; exact h1.2) (kk arr hl)
    · cases h
  case goto off =>
    replace h := rb_ite_inv h; obtain ⟨rfl, h⟩ := h
    split at h
    · rename_i t ht; cases h; exact lv_goto hx hb hd (rb_tg_inv ht) (kk arr hl)
    · cases h
  case ifCond cd off =>
    replace h := rb_ite_inv h; obtain ⟨rfl, h⟩ := h
    split at h
    · replace h := rb_br_inv h; obtain ⟨t, h1, h2, rfl, rfl⟩ := h
      cases cd
      · exact lv_if_eq hx hb hd h1 (rb_jump rfl h2 (kk arr hl)).1 (rb_jump rfl h2 (kk arr hl)).2
      · exact lv_if_ne hx hb hd h1 (rb_jump rfl h2 (kk arr hl)).1 (fun h => (rb_jump rfl h2 (kk arr hl)).2 (fun q => q h))
      · exact lv_if_lt hx hb hd h1 (rb_jump rfl h2 (kk arr hl)).1 (rb_jump rfl h2 (kk arr hl)).2
      · exact lv_if_ge hx hb hd h1 (rb_jump rfl h2 (kk arr hl)).1 (rb_jump rfl h2 (kk arr hl)).2
      · exact lv_if_gt hx hb hd h1 (rb_jump rfl h2 (kk arr hl)).1 (rb_jump rfl h2 (kk arr hl)).2
      · exact lv_if_le hx hb hd h1 (rb_jump rfl h2 (kk arr hl)).1 (rb_jump rfl h2 (kk arr hl)).2
    · cases h
  case if_icmp cd off =>
    replace h := rb_ite_inv h; obtain ⟨rfl, h⟩ := h
    split at h
    · replace h := rb_br_inv h; obtain ⟨t, h1, h2, rfl, rfl⟩ := h
      cases cd
      · exact lv_icmp_eq hx hb hd h1 (rb_jump rfl h2 (kk arr hl)).1 (rb_jump rfl h2 (kk arr hl)).2
      · exact lv_icmp_ne hx hb hd h1 (rb_jump rfl h2 (kk arr hl)).1 (fun h => (rb_jump rfl h2 (kk arr hl)).2 (fun q => q h))
      · exact lv_icmp_lt hx hb hd h1 (rb_jump rfl h2 (kk arr hl)).1 (rb_jump rfl h2 (kk arr hl)).2
      · exact lv_icmp_ge hx hb hd h1 (rb_jump rfl h2 (kk arr hl)).1 (rb_jump rfl h2 (kk arr hl)).2
      · exact lv_icmp_gt hx hb hd h1 (rb_jump rfl h2 (kk arr hl)).1 (rb_jump rfl h2 (kk arr hl)).2
      · exact lv_icmp_le hx hb hd h1 (rb_jump rfl h2 (kk arr hl)).1 (rb_jump rfl h2 (kk arr hl)).2
    · cases h
  case ifnull off =>
    replace h := rb_ite_inv h; obtain ⟨rfl, h⟩ := h
    split at h
    · replace h := rb_br_inv h; obtain ⟨t, h1, rfl, rfl, rfl⟩ := h
      exact lv_ifnullN hx hb hd h1 (kk arr hl)
    · replace h := rb_br_inv h; obtain ⟨t, h1, rfl, rfl, rfl⟩ := h
      exact lv_ifnull hx hb hd (kk arr hl)
    · cases h
  case ifnonnull off =>
    replace h := rb_ite_inv h; obtain ⟨rfl, h⟩ := h
    split at h
    · replace h := rb_br_inv h; obtain ⟨t, h1, rfl, rfl, rfl⟩ := h
      exact lv_ifnonnullN hx hb hd (kk arr hl)
    · replace h := rb_br_inv h; obtain ⟨t, h1, rfl, rfl, rfl⟩ := h
      exact lv_ifnonnull hx hb hd h1 (kk arr hl)
    · cases h
  case tableswitch dflt lo hi offs =>
    split at h
    · split at h
      · rename_i hc
        split at h
        · rename_i t ht; cases h; exact lv_tableOut hx hb hd hc (rb_tg_inv ht) (kk arr hl)
        · cases h
      · rename_i hc
        split at h
        · rename_i off ho
          split at h
          · rename_i t ht; cases h; exact lv_tableIn hx hb hd (fun q => hc (Or.inl q)) (fun q => hc (Or.inr q)) ho (rb_tg_inv ht) (kk arr hl)
          · cases h
        · cases h
    · cases h
  case lookupswitch dflt ps =>
    split at h
    · replace h := rb_ite_inv h; obtain ⟨hc, h⟩ := h
      split at h
      · rename_i t ht; cases h; exact lv_lookup hx hb hd hc rfl (rb_tg_inv ht) (kk arr hl)
      · cases h
    · cases h
end RBP
