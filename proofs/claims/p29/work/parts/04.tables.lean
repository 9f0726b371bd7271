/-! what the tables say, by program -/
def rb_tt (ci : Nat) : u_T := match ci with
  | 0 => TX0
  | 1 => TX1
  | 2 => TX2
  | 3 => TX3
  | _ => TX4
def rb_nn (ci : Nat) : Nat := match ci with
  | 0 => 3
  | 1 => 2
  | 2 => 1
  | 3 => 19
  | _ => 5
/-- the words of the mates' links and of arrays of states, which a contract carries itself -/
def rb_nest : List Jvm.Cond := lw_tbl.filter fun w => match w with
  | .methodLinkNest _ _ _ _ => true
  | _ => false
def rb_fc (e : (Nat × Nat) × (Nat × Nat)) : Jvm.Cond := .fieldLink (rb_cn e.1.1) e.1.2 (rb_tt e.2.1 e.2.2).1 (rb_tt e.2.1 e.2.2).2.1 (rb_tt e.2.1 e.2.2).2.2.1
theorem rb_fl_ok : rb_fl.all (fun e => rb_is (rb_fc e) && (decide (e.2.1 < 5) && decide (e.2.2 < rb_nn e.2.1))) = true := by decide +kernel
theorem rb_cl_ok : rb_cl.all (fun e => rb_is (.classLink (rb_cn e.1.1) e.1.2 (rb_cn e.2)) && (rb_is (.instantiable (rb_cn e.2) (rb_nn e.2)) && (rb_is (.initialized (rb_cn e.2)) && decide (e.2 < 5)))) = true := by decide +kernel
theorem rb_us_ok : (List.range 5).all (fun ci => (u_ws (rb_cn ci) (rb_tt ci) (rb_nn ci)).all rb_is) = true := by decide +kernel
theorem rb_vw : ∀ ci, ci < 5 → vwCl[ci]? = some (rb_cn ci, rb_tt ci, rb_nn ci) := fun ci h => match ci, h with
  | 0, _ => rfl
  | 1, _ => rfl
  | 2, _ => rfl
  | 3, _ => rfl
  | 4, _ => rfl
  | n + 5, h => absurd h (by omega)
theorem rb_ft : ∀ ci, ci < 5 → ∀ k, k < rb_nn ci → parseFieldDescriptor (rb_tt ci k).2.2.1 = some (rb_ty ci k) := fun ci h => match ci, h with
  | 0, _ => tyX0_ok
  | 1, _ => tyX1_ok
  | 2, _ => tyX2_ok
  | 3, _ => tyX3_ok
  | 4, _ => tyX4_ok
  | n + 5, h => absurd h (by omega)
theorem rb_fnm : ∀ ci, ci < 5 → ∀ a, a < rb_nn ci → ∀ b, b < rb_nn ci → a ≠ b → (rb_tt ci a).2.1 ≠ (rb_tt ci b).2.1 := fun ci h => match ci, h with
  | 0, _ => nmX0
  | 1, _ => nmX1
  | 2, _ => nmX2
  | 3, _ => nmX3
  | 4, _ => nmX4
  | n + 5, h => absurd h (by omega)
theorem rb_fnal : ∀ ci, ci < 5 → ∀ k, (rb_tt ci k).2.2.2 = rb_fn ci k := fun ci h => match ci, h with
  | 0, _ => fun _ => rfl
  | 1, _ => fun _ => rfl
  | 2, _ => fun _ => rfl
  | 3, _ => fun _ => rfl
  | 4, _ => fun _ => rfl
  | n + 5, h => absurd h (by omega)
theorem rb_fcl : ∀ ci, ci < 5 → ∀ k, k < rb_nn ci → (rb_tt ci k).1 = rb_cn ci := by decide +kernel
theorem rb_dfl : ∀ ci, ci < 5 → (rb_df ci).length = rb_nn ci := by decide +kernel
theorem rb_dfv : ∀ ci, ci < 5 → ∀ j, j < rb_nn ci → defaultValue (rb_ty ci j) = vp_V (rb_df ci) j := by decide +kernel
/-- a method's own words -/
def rb_ws0 (k : Nat) : List Jvm.Cond := .code (rb_y k) (rb_by k) (rb_ml k) (rb_rt k) :: rb_gw
def rb_mok (k : Nat) : Bool := rb_is (.code (rb_y k) (rb_by k) (rb_ml k) (rb_rt k)) && (rb_is (.initialized (rb_y k).cls) && (decide ((rb_y k).cls ≠ "java/lang/invoke/MethodHandle") && (decide ((rb_y k).cls ≠ "java/lang/invoke/VarHandle") && (plainFor (rb_y k) && (decide ((rb_y k).cls = rb_cn (rb_ow k)) && (decide (rb_ml k ≤ 16) && decide (rb_in k = true → (rb_y k).name = "<init>")))))))
def rb_ar (k : Nat) : Option Nat := (parseMethodDescriptor (rb_y k).desc).map (fun d => d.parameters.length)
/-- a link of a method: its words and its arguments -/
def rb_iok (e : (Nat × Nat) × (Nat × Nat)) : Bool := match e.2.2 with
  | 0 => decide (e.2.1 < 100) && (rb_is (.methodLink (rb_cn e.1.1) e.1.2 (rb_y e.2.1)) && (rb_is (.instanceMethod (rb_y e.2.1)) && (rb_is (.selects (rb_y e.2.1).cls (rb_y e.2.1) (rb_y e.2.1)) && (decide (1 ≤ rb_na e.2.1) && decide (rb_ar e.2.1 = some (rb_na e.2.1 - 1))))))
  | 1 => decide (e.2.1 < 100) && (rb_is (.methodLink (rb_cn e.1.1) e.1.2 (rb_y e.2.1)) && (rb_is (.static (rb_y e.2.1)) && decide (rb_ar e.2.1 = some (rb_na e.2.1))))
  | 2 => decide (e.2.1 < 100) && (rb_is (.methodLink (rb_cn e.1.1) e.1.2 (rb_y e.2.1)) && (rb_is (.instanceMethod (rb_y e.2.1)) && (decide ((rb_y e.2.1).name = "<init>") && (decide (rb_rt e.2.1 = none) && (decide (1 ≤ rb_na e.2.1) && decide (rb_ar e.2.1 = some (rb_na e.2.1 - 1)))))))
  | 3 => decide (e.2.1 < 100) && (decide (Jvm.Cond.methodLinkNest (rb_cn e.1.1) e.1.2 (rb_y e.2.1) RX4 ∈ rb_nest) && (rb_is (.static (rb_y e.2.1)) && decide (rb_ar e.2.1 = some (rb_na e.2.1))))
  | 4 => decide (e.2.1 < 100) && (decide (Jvm.Cond.methodLinkNest (rb_cn e.1.1) e.1.2 (rb_y e.2.1) RX4 ∈ rb_nest) && (rb_is (.instanceMethod (rb_y e.2.1)) && (decide ((rb_y e.2.1).name = "<init>") && (decide (rb_rt e.2.1 = none) && (decide (1 ≤ rb_na e.2.1) && decide (rb_ar e.2.1 = some (rb_na e.2.1 - 1)))))))
  | 5 => rb_is (.methodLink (rb_cn e.1.1) e.1.2 Lib.objectInit) && (rb_is (.instanceMethod Lib.objectInit) && rb_is (.code Lib.objectInit ⟨#[0xb1]⟩ 1 none))
  | _ => rb_is (.methodLink (rb_cn e.1.1) e.1.2 arraycopyName) && (rb_is (.native arraycopyName) && (rb_is (.static arraycopyName) && rb_is (.initialized "java/lang/System")))
theorem rb_arr_int : rb_is (.arrayClass .int) = true := by decide +kernel
theorem rb_arr_st : (Jvm.Cond.arrayOver (.object RX3)) ∈ lw_tbl := by decide +kernel
/-- a word by its place -/
def rb_at (i : Nat) (w : Jvm.Cond) : Bool := decide (lw_tbl[i]? = some w) && goodWord w
theorem rb_at_is {i : Nat} {w : Jvm.Cond} (h : rb_at i w = true) : rb_is w = true := by
  unfold rb_at at h
  unfold rb_is
  rw [Bool.and_eq_true] at h ⊢
  exact ⟨decide_eq_true (List.mem_of_getElem? (of_decide_eq_true h.1)), h.2⟩
def rb_an (i : Nat) (w : Jvm.Cond) : Bool := decide (lw_tbl[i]? = some w) && (match w with
  | .methodLinkNest _ _ _ _ => true
  | _ => false)
theorem rb_an_in {i : Nat} {w : Jvm.Cond} (h : rb_an i w = true) : decide (w ∈ rb_nest) = true := by
  unfold rb_an at h
  rw [Bool.and_eq_true] at h
  exact decide_eq_true (List.mem_filter.mpr ⟨List.mem_of_getElem? (of_decide_eq_true h.1), h.2⟩)
def rb_ioj (e : (Nat × Nat) × (Nat × Nat)) (ps : List Nat) : Bool := match e.2.2 with
  | 0 => decide (e.2.1 < 100) && (rb_at (ps.getD 0 0) (.methodLink (rb_cn e.1.1) e.1.2 (rb_y e.2.1)) && (rb_at (ps.getD 1 0) (.instanceMethod (rb_y e.2.1)) && (rb_at (ps.getD 2 0) (.selects (rb_y e.2.1).cls (rb_y e.2.1) (rb_y e.2.1)) && (decide (1 ≤ rb_na e.2.1) && decide (rb_ar e.2.1 = some (rb_na e.2.1 - 1))))))
  | 1 => decide (e.2.1 < 100) && (rb_at (ps.getD 0 0) (.methodLink (rb_cn e.1.1) e.1.2 (rb_y e.2.1)) && (rb_at (ps.getD 1 0) (.static (rb_y e.2.1)) && decide (rb_ar e.2.1 = some (rb_na e.2.1))))
  | 2 => decide (e.2.1 < 100) && (rb_at (ps.getD 0 0) (.methodLink (rb_cn e.1.1) e.1.2 (rb_y e.2.1)) && (rb_at (ps.getD 1 0) (.instanceMethod (rb_y e.2.1)) && (decide ((rb_y e.2.1).name = "<init>") && (decide (rb_rt e.2.1 = none) && (decide (1 ≤ rb_na e.2.1) && decide (rb_ar e.2.1 = some (rb_na e.2.1 - 1)))))))
  | 3 => decide (e.2.1 < 100) && (rb_an (ps.getD 0 0) (Jvm.Cond.methodLinkNest (rb_cn e.1.1) e.1.2 (rb_y e.2.1) RX4) && (rb_at (ps.getD 1 0) (.static (rb_y e.2.1)) && decide (rb_ar e.2.1 = some (rb_na e.2.1))))
  | 4 => decide (e.2.1 < 100) && (rb_an (ps.getD 0 0) (Jvm.Cond.methodLinkNest (rb_cn e.1.1) e.1.2 (rb_y e.2.1) RX4) && (rb_at (ps.getD 1 0) (.instanceMethod (rb_y e.2.1)) && (decide ((rb_y e.2.1).name = "<init>") && (decide (rb_rt e.2.1 = none) && (decide (1 ≤ rb_na e.2.1) && decide (rb_ar e.2.1 = some (rb_na e.2.1 - 1)))))))
  | 5 => rb_at (ps.getD 0 0) (.methodLink (rb_cn e.1.1) e.1.2 Lib.objectInit) && (rb_at (ps.getD 1 0) (.instanceMethod Lib.objectInit) && rb_at (ps.getD 2 0) (.code Lib.objectInit ⟨#[0xb1]⟩ 1 none))
  | _ => rb_at (ps.getD 0 0) (.methodLink (rb_cn e.1.1) e.1.2 arraycopyName) && (rb_at (ps.getD 1 0) (.native arraycopyName) && (rb_at (ps.getD 2 0) (.static arraycopyName) && rb_at (ps.getD 3 0) (.initialized "java/lang/System")))
theorem rb_ioj_iok {e : (Nat × Nat) × (Nat × Nat)} {ps : List Nat} (h : rb_ioj e ps = true) : rb_iok e = true := by
  unfold rb_ioj at h
  unfold rb_iok
  split at h <;> simp only [Bool.and_eq_true] at h ⊢
  · exact ⟨h.1, rb_at_is h.2.1, rb_at_is h.2.2.1, rb_at_is h.2.2.2.1, h.2.2.2.2⟩
  · exact ⟨h.1, rb_at_is h.2.1, rb_at_is h.2.2.1, h.2.2.2⟩
  · exact ⟨h.1, rb_at_is h.2.1, rb_at_is h.2.2.1, h.2.2.2⟩
  · exact ⟨h.1, rb_an_in h.2.1, rb_at_is h.2.2.1, h.2.2.2⟩
  · exact ⟨h.1, rb_an_in h.2.1, rb_at_is h.2.2.1, h.2.2.2⟩
  · exact ⟨rb_at_is h.1, rb_at_is h.2.1, rb_at_is h.2.2⟩
  · exact ⟨rb_at_is h.1, rb_at_is h.2.1, rb_at_is h.2.2.1, rb_at_is h.2.2.2⟩
def rb_moj (k : Nat) (ps : Nat × Nat) : Bool := rb_at ps.1 (.code (rb_y k) (rb_by k) (rb_ml k) (rb_rt k)) && (rb_at ps.2 (.initialized (rb_y k).cls) && (decide ((rb_y k).cls ≠ "java/lang/invoke/MethodHandle") && (decide ((rb_y k).cls ≠ "java/lang/invoke/VarHandle") && (plainFor (rb_y k) && (decide ((rb_y k).cls = rb_cn (rb_ow k)) && (decide (rb_ml k ≤ 16) && decide (rb_in k = true → (rb_y k).name = "<init>")))))))
theorem rb_moj_mok {k : Nat} {ps : Nat × Nat} (h : rb_moj k ps = true) : rb_mok k = true := by
  unfold rb_moj at h
  unfold rb_mok
  rw [Bool.and_eq_true, Bool.and_eq_true] at h ⊢
  exact ⟨rb_at_is h.1, rb_at_is h.2.1, h.2.2⟩
def rb_mps : List (Nat × Nat) := [(16, 4), (24, 5), (30, 6), (40, 6), (120, 7), (140, 8), (155, 5), (159, 6), (163, 5), (167, 5), (187, 4), (191, 5), (195, 5), (199, 6), (205, 5), (209, 5), (213, 5), (217, 4), (221, 5), (225, 5), (229, 5), (233, 5), (237, 5), (241, 5), (244, 4), (247, 11), (254, 4), (258, 5), (262, 5), (266, 4), (270, 5), (274, 6), (277, 9), (284, 5), (288, 5), (292, 5), (297, 5), (301, 5), (306, 5), (310, 5), (313, 4), (317, 5), (322, 6), (328, 5), (331, 4), (334, 4), (338, 9), (341, 4), (345, 5), (349, 3), (353, 3), (357, 3), (361, 4), (365, 7), (369, 7), (375, 4), (379, 4), (382, 4), (385, 4), (388, 4), (393, 4), (397, 4), (402, 4), (405, 4), (408, 4), (412, 5), (416, 5), (419, 4), (423, 5), (427, 5), (434, 4), (438, 4), (442, 5), (446, 4), (450, 5), (455, 5), (461, 4), (465, 4), (470, 4), (474, 4), (478, 4), (482, 4), (486, 7), (490, 4), (494, 5), (498, 5), (503, 5), (507, 5), (511, 5), (515, 3), (519, 4), (524, 4), (528, 3), (532, 4), (536, 4), (540, 4), (544, 5), (547, 3), (551, 4), (555, 4)]
def rb_ips : List (List Nat) := [[121, 18, 19], [124, 23], [366, 368, 1], [370, 268, 269], [141, 18, 19], [143, 23], [31, 18, 19], [323, 197, 198], [324, 38, 39], [275, 276], [278, 280, 279, 10], [25, 18, 19], [28, 29], [37, 38, 39], [271, 272, 273], [156, 157, 158], [160, 161, 162], [164, 165, 166], [451, 219, 220], [196, 197, 198], [210, 211, 212], [192, 193, 194], [318, 276], [319, 320, 321], [302, 223, 224], [417, 418], [420, 421, 422], [242, 243], [424, 425, 426], [303, 304, 305], [432, 433], [259, 260, 261], [314, 315, 316], [289, 290, 291], [285, 286, 287], [298, 299, 300], [238, 239, 240], [234, 235, 236], [245, 246], [311, 312], [325, 326, 327], [329, 330], [332, 333], [307, 308, 309], [495, 496, 497], [499, 189, 190], [500, 501, 502], [504, 505, 506], [508, 509, 510], [512, 343, 344], [346, 227, 228], [17, 18, 19], [22, 23], [118, 119], [138, 139], [152, 153, 154], [362, 363, 364], [380, 381], [383, 384], [386, 387], [201, 197, 198], [389, 38, 39], [218, 219, 220], [398, 320, 321], [403, 404], [406, 407], [409, 410, 411], [413, 414, 415], [255, 256, 257], [439, 440, 441], [447, 448, 449], [452, 453, 454], [457, 308, 309], [456, 304, 305], [491, 492, 493], [466, 161, 162], [483, 484, 485], [188, 189, 190], [200, 193, 194], [202, 203, 204], [206, 207, 208], [222, 223, 224], [226, 227, 228], [230, 231, 232], [525, 312], [520, 243], [541, 542, 543], [267, 268, 269], [294, 295, 296], [342, 343, 344], [263, 265, 0], [471, 473, 2], [281, 282, 283], [293, 286, 287], [336, 337], [335, 330], [339, 340], [184, 185, 186], [351, 352], [358, 359, 360], [372, 373, 374], [376, 377, 378], [390, 391, 392], [394, 395, 396], [399, 400, 401], [435, 436, 437], [443, 444, 445], [458, 459, 460], [462, 463, 464], [467, 468, 469], [475, 476, 477], [479, 480, 481], [487, 488, 489], [214, 215, 216], [516, 517, 518], [521, 522, 523], [529, 530, 531], [533, 534, 535], [537, 538, 539], [548, 549, 550], [552, 553, 554], [14, 15], [347, 348], [355, 356], [513, 514], [526, 527], [251, 252, 253], [545, 546]]
theorem rb_mok_0 : (List.range' 0 41).all (fun k => rb_moj k (rb_mps.getD k (0, 0))) = true := by decide +kernel
theorem rb_mok_41 : (List.range' 41 41).all (fun k => rb_moj k (rb_mps.getD k (0, 0))) = true := by decide +kernel
theorem rb_mok_82 : (List.range' 82 18).all (fun k => rb_moj k (rb_mps.getD k (0, 0))) = true := by decide +kernel
theorem rb_mok_all : ∀ k, k < 100 → rb_mok k = true := fun k h => by
  refine rb_moj_mok (ps := rb_mps.getD k (0, 0)) ?_
  by_cases h0 : k < 41
  · exact List.all_eq_true.mp rb_mok_0 k (List.mem_range'_1.mpr ⟨by omega, by omega⟩)
  by_cases h41 : k < 82
  · exact List.all_eq_true.mp rb_mok_41 k (List.mem_range'_1.mpr ⟨by omega, by omega⟩)
  by_cases h82 : k < 100
  · exact List.all_eq_true.mp rb_mok_82 k (List.mem_range'_1.mpr ⟨by omega, by omega⟩)
  omega
theorem rb_il_0 : (List.range' 0 41).all (fun i => rb_ioj (rb_il.getD i ((0, 0), (0, 0))) (rb_ips.getD i [])) = true := by decide +kernel
theorem rb_il_41 : (List.range' 41 41).all (fun i => rb_ioj (rb_il.getD i ((0, 0), (0, 0))) (rb_ips.getD i [])) = true := by decide +kernel
theorem rb_il_82 : (List.range' 82 41).all (fun i => rb_ioj (rb_il.getD i ((0, 0), (0, 0))) (rb_ips.getD i [])) = true := by decide +kernel
theorem rb_il_123 : (List.range' 123 5).all (fun i => rb_ioj (rb_il.getD i ((0, 0), (0, 0))) (rb_ips.getD i [])) = true := by decide +kernel
theorem rb_il_len : rb_il.length = 128 := by decide +kernel
theorem rb_il_all : ∀ e ∈ rb_il, rb_iok e = true := fun e h => by
  obtain ⟨i, hi⟩ := List.getElem?_of_mem h
  have hl : i < 128 := by rw [← rb_il_len]; exact (List.getElem?_eq_some_iff.mp hi).1
  have he : rb_il.getD i ((0, 0), (0, 0)) = e := by rw [List.getD_eq_getElem?_getD, hi]; rfl
  refine rb_ioj_iok (ps := rb_ips.getD i []) ?_
  have key : ∀ a n, a ≤ i → i < a + n → (List.range' a n).all (fun i => rb_ioj (rb_il.getD i ((0, 0), (0, 0))) (rb_ips.getD i [])) = true → rb_ioj e (rb_ips.getD i []) = true := fun a n h1 h2 h3 => by
    have := List.all_eq_true.mp h3 i (List.mem_range'_1.mpr ⟨h1, h2⟩)
    rw [he] at this
    exact this
  by_cases h0 : i < 41
  · exact key 0 41 (by omega) (by omega) rb_il_0
  by_cases h41 : i < 82
  · exact key 41 41 (by omega) (by omega) rb_il_41
  by_cases h82 : i < 123
  · exact key 82 41 (by omega) (by omega) rb_il_82
  by_cases h123 : i < 128
  · exact key 123 5 (by omega) (by omega) rb_il_123
  omega
