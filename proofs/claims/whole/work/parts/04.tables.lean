/-! what the tables say, by program -/
def rb_tt (ci : Nat) : u_T := match ci with
  | 0 => TX0
  | 1 => TX1
  | 2 => TX2
  | 3 => TX3
  | 4 => TX4
  | _ => TX5
def rb_nn (ci : Nat) : Nat := match ci with
  | 0 => 3
  | 1 => 2
  | 2 => 1
  | 3 => 19
  | 4 => 5
  | _ => 8
/-- the words of the mates' links and of arrays of states, which a contract carries itself -/
def rb_nest : List Jvm.Cond := lw_tbl.filter fun w => match w with
  | .methodLinkNest _ _ _ _ => true
  | _ => false
def rb_fc (e : (Nat × Nat) × (Nat × Nat)) : Jvm.Cond := .fieldLink (rb_cn e.1.1) e.1.2 (rb_tt e.2.1 e.2.2).1 (rb_tt e.2.1 e.2.2).2.1 (rb_tt e.2.1 e.2.2).2.2.1
theorem rb_fl_ok : rb_fl.all (fun e => rb_is (rb_fc e) && (decide (e.2.1 < 6) && decide (e.2.2 < rb_nn e.2.1))) = true := by decide +kernel
theorem rb_cl_ok : rb_cl.all (fun e => rb_is (.classLink (rb_cn e.1.1) e.1.2 (rb_cn e.2)) && (rb_is (.instantiable (rb_cn e.2) (rb_nn e.2)) && (rb_is (.initialized (rb_cn e.2)) && decide (e.2 < 6)))) = true := by decide +kernel
theorem rb_us_ok : (List.range 6).all (fun ci => (u_ws (rb_cn ci) (rb_tt ci) (rb_nn ci)).all rb_is) = true := by decide +kernel
theorem rb_vw : ∀ ci, ci < 6 → vwCl[ci]? = some (rb_cn ci, rb_tt ci, rb_nn ci) := fun ci h => match ci, h with
  | 0, _ => rfl
  | 1, _ => rfl
  | 2, _ => rfl
  | 3, _ => rfl
  | 4, _ => rfl
  | 5, _ => rfl
  | n + 6, h => absurd h (by omega)
theorem rb_ft : ∀ ci, ci < 6 → ∀ k, k < rb_nn ci → parseFieldDescriptor (rb_tt ci k).2.2.1 = some (rb_ty ci k) := fun ci h => match ci, h with
  | 0, _ => tyX0_ok
  | 1, _ => tyX1_ok
  | 2, _ => tyX2_ok
  | 3, _ => tyX3_ok
  | 4, _ => tyX4_ok
  | 5, _ => tyX5_ok
  | n + 6, h => absurd h (by omega)
theorem rb_fnm : ∀ ci, ci < 6 → ∀ a, a < rb_nn ci → ∀ b, b < rb_nn ci → a ≠ b → (rb_tt ci a).2.1 ≠ (rb_tt ci b).2.1 := fun ci h => match ci, h with
  | 0, _ => nmX0
  | 1, _ => nmX1
  | 2, _ => nmX2
  | 3, _ => nmX3
  | 4, _ => nmX4
  | 5, _ => nmX5
  | n + 6, h => absurd h (by omega)
theorem rb_fnal : ∀ ci, ci < 6 → ∀ k, (rb_tt ci k).2.2.2 = rb_fn ci k := fun ci h => match ci, h with
  | 0, _ => fun _ => rfl
  | 1, _ => fun _ => rfl
  | 2, _ => fun _ => rfl
  | 3, _ => fun _ => rfl
  | 4, _ => fun _ => rfl
  | 5, _ => fun _ => rfl
  | n + 6, h => absurd h (by omega)
theorem rb_fcl : ∀ ci, ci < 6 → ∀ k, k < rb_nn ci → (rb_tt ci k).1 = rb_cn ci := by decide +kernel
theorem rb_dfl : ∀ ci, ci < 6 → (rb_df ci).length = rb_nn ci := by decide +kernel
theorem rb_dfv : ∀ ci, ci < 6 → ∀ j, j < rb_nn ci → defaultValue (rb_ty ci j) = vp_V (rb_df ci) j := by decide +kernel
/-- a method's own words -/
def rb_ws0 (k : Nat) : List Jvm.Cond := .code (rb_y k) (rb_by k) (rb_ml k) (rb_rt k) :: rb_gw
def rb_mok (k : Nat) : Bool := rb_is (.code (rb_y k) (rb_by k) (rb_ml k) (rb_rt k)) && (rb_is (.initialized (rb_y k).cls) && (decide ((rb_y k).cls ≠ "java/lang/invoke/MethodHandle") && (decide ((rb_y k).cls ≠ "java/lang/invoke/VarHandle") && (plainFor (rb_y k) && (decide ((rb_y k).cls = rb_cn (rb_ow k)) && (decide (rb_ml k ≤ 16) && decide (rb_in k = true → (rb_y k).name = "<init>")))))))
def rb_ar (k : Nat) : Option Nat := (parseMethodDescriptor (rb_y k).desc).map (fun d => d.parameters.length)
/-- a link of a method: its words and its arguments -/
def rb_iok (e : (Nat × Nat) × (Nat × Nat)) : Bool := match e.2.2 with
  | 0 => decide (e.2.1 < 163) && (rb_is (.methodLink (rb_cn e.1.1) e.1.2 (rb_y e.2.1)) && (rb_is (.instanceMethod (rb_y e.2.1)) && (rb_is (.selects (rb_y e.2.1).cls (rb_y e.2.1) (rb_y e.2.1)) && (decide (1 ≤ rb_na e.2.1) && decide (rb_ar e.2.1 = some (rb_na e.2.1 - 1))))))
  | 1 => decide (e.2.1 < 163) && (rb_is (.methodLink (rb_cn e.1.1) e.1.2 (rb_y e.2.1)) && (rb_is (.static (rb_y e.2.1)) && decide (rb_ar e.2.1 = some (rb_na e.2.1))))
  | 2 => decide (e.2.1 < 163) && (rb_is (.methodLink (rb_cn e.1.1) e.1.2 (rb_y e.2.1)) && (rb_is (.instanceMethod (rb_y e.2.1)) && (decide ((rb_y e.2.1).name = "<init>") && (decide (rb_rt e.2.1 = none) && (decide (1 ≤ rb_na e.2.1) && decide (rb_ar e.2.1 = some (rb_na e.2.1 - 1)))))))
  | 3 => decide (e.2.1 < 163) && (decide (Jvm.Cond.methodLinkNest (rb_cn e.1.1) e.1.2 (rb_y e.2.1) RX4 ∈ rb_nest) && (rb_is (.static (rb_y e.2.1)) && decide (rb_ar e.2.1 = some (rb_na e.2.1))))
  | 4 => decide (e.2.1 < 163) && (decide (Jvm.Cond.methodLinkNest (rb_cn e.1.1) e.1.2 (rb_y e.2.1) RX4 ∈ rb_nest) && (rb_is (.instanceMethod (rb_y e.2.1)) && (decide ((rb_y e.2.1).name = "<init>") && (decide (rb_rt e.2.1 = none) && (decide (1 ≤ rb_na e.2.1) && decide (rb_ar e.2.1 = some (rb_na e.2.1 - 1)))))))
  | 5 => rb_is (.methodLink (rb_cn e.1.1) e.1.2 Lib.objectInit) && (rb_is (.instanceMethod Lib.objectInit) && rb_is (.code Lib.objectInit ⟨#[0xb1]⟩ 1 none))
  | _ => rb_is (.methodLink (rb_cn e.1.1) e.1.2 arraycopyName) && (rb_is (.native arraycopyName) && (rb_is (.static arraycopyName) && rb_is (.initialized "java/lang/System")))
theorem rb_arr_int : rb_is (.arrayClass .int) = true := by decide +kernel
theorem rb_arr_st : (Jvm.Cond.arrayOver (.object RX3)) ∈ lw_tbl := by decide +kernel
/-- a word by its place -/
def rb_at (i : Nat) (w : Jvm.Cond) : Bool := decide (lw_tbl[i]? = some w) && goodWord w
theorem rb_at_is {i : Nat} {w : Jvm.Cond} (h : rb_at i w = true) : rb_is w = true := by
  unfold rb_at at h
  unfold rb_is
  rw [Bool.and_eq_true] at h ⊢
  exact ⟨decide_eq_true (List.mem_of_getElem? (of_decide_eq_true h.1)), h.2⟩
def rb_an (i : Nat) (w : Jvm.Cond) : Bool := decide (lw_tbl[i]? = some w) && (match w with
  | .methodLinkNest _ _ _ _ => true
  | _ => false)
theorem rb_an_in {i : Nat} {w : Jvm.Cond} (h : rb_an i w = true) : decide (w ∈ rb_nest) = true := by
  unfold rb_an at h
  rw [Bool.and_eq_true] at h
  exact decide_eq_true (List.mem_filter.mpr ⟨List.mem_of_getElem? (of_decide_eq_true h.1), h.2⟩)
def rb_ioj (e : (Nat × Nat) × (Nat × Nat)) (ps : List Nat) : Bool := match e.2.2 with
  | 0 => decide (e.2.1 < 163) && (rb_at (ps.getD 0 0) (.methodLink (rb_cn e.1.1) e.1.2 (rb_y e.2.1)) && (rb_at (ps.getD 1 0) (.instanceMethod (rb_y e.2.1)) && (rb_at (ps.getD 2 0) (.selects (rb_y e.2.1).cls (rb_y e.2.1) (rb_y e.2.1)) && (decide (1 ≤ rb_na e.2.1) && decide (rb_ar e.2.1 = some (rb_na e.2.1 - 1))))))
  | 1 => decide (e.2.1 < 163) && (rb_at (ps.getD 0 0) (.methodLink (rb_cn e.1.1) e.1.2 (rb_y e.2.1)) && (rb_at (ps.getD 1 0) (.static (rb_y e.2.1)) && decide (rb_ar e.2.1 = some (rb_na e.2.1))))
  | 2 => decide (e.2.1 < 163) && (rb_at (ps.getD 0 0) (.methodLink (rb_cn e.1.1) e.1.2 (rb_y e.2.1)) && (rb_at (ps.getD 1 0) (.instanceMethod (rb_y e.2.1)) && (decide ((rb_y e.2.1).name = "<init>") && (decide (rb_rt e.2.1 = none) && (decide (1 ≤ rb_na e.2.1) && decide (rb_ar e.2.1 = some (rb_na e.2.1 - 1)))))))
  | 3 => decide (e.2.1 < 163) && (rb_an (ps.getD 0 0) (Jvm.Cond.methodLinkNest (rb_cn e.1.1) e.1.2 (rb_y e.2.1) RX4) && (rb_at (ps.getD 1 0) (.static (rb_y e.2.1)) && decide (rb_ar e.2.1 = some (rb_na e.2.1))))
  | 4 => decide (e.2.1 < 163) && (rb_an (ps.getD 0 0) (Jvm.Cond.methodLinkNest (rb_cn e.1.1) e.1.2 (rb_y e.2.1) RX4) && (rb_at (ps.getD 1 0) (.instanceMethod (rb_y e.2.1)) && (decide ((rb_y e.2.1).name = "<init>") && (decide (rb_rt e.2.1 = none) && (decide (1 ≤ rb_na e.2.1) && decide (rb_ar e.2.1 = some (rb_na e.2.1 - 1)))))))
  | 5 => rb_at (ps.getD 0 0) (.methodLink (rb_cn e.1.1) e.1.2 Lib.objectInit) && (rb_at (ps.getD 1 0) (.instanceMethod Lib.objectInit) && rb_at (ps.getD 2 0) (.code Lib.objectInit ⟨#[0xb1]⟩ 1 none))
  | _ => rb_at (ps.getD 0 0) (.methodLink (rb_cn e.1.1) e.1.2 arraycopyName) && (rb_at (ps.getD 1 0) (.native arraycopyName) && (rb_at (ps.getD 2 0) (.static arraycopyName) && rb_at (ps.getD 3 0) (.initialized "java/lang/System")))
theorem rb_ioj_iok {e : (Nat × Nat) × (Nat × Nat)} {ps : List Nat} (h : rb_ioj e ps = true) : rb_iok e = true := by
  unfold rb_ioj at h
  unfold rb_iok
  split at h <;> simp only [Bool.and_eq_true] at h ⊢
  · exact ⟨h.1, rb_at_is h.2.1, rb_at_is h.2.2.1, rb_at_is h.2.2.2.1, h.2.2.2.2⟩
  · exact ⟨h.1, rb_at_is h.2.1, rb_at_is h.2.2.1, h.2.2.2⟩
  · exact ⟨h.1, rb_at_is h.2.1, rb_at_is h.2.2.1, h.2.2.2⟩
  · exact ⟨h.1, rb_an_in h.2.1, rb_at_is h.2.2.1, h.2.2.2⟩
  · exact ⟨h.1, rb_an_in h.2.1, rb_at_is h.2.2.1, h.2.2.2⟩
  · exact ⟨rb_at_is h.1, rb_at_is h.2.1, rb_at_is h.2.2⟩
  · exact ⟨rb_at_is h.1, rb_at_is h.2.1, rb_at_is h.2.2.1, rb_at_is h.2.2.2⟩
def rb_moj (k : Nat) (ps : Nat × Nat) : Bool := rb_at ps.1 (.code (rb_y k) (rb_by k) (rb_ml k) (rb_rt k)) && (rb_at ps.2 (.initialized (rb_y k).cls) && (decide ((rb_y k).cls ≠ "java/lang/invoke/MethodHandle") && (decide ((rb_y k).cls ≠ "java/lang/invoke/VarHandle") && (plainFor (rb_y k) && (decide ((rb_y k).cls = rb_cn (rb_ow k)) && (decide (rb_ml k ≤ 16) && decide (rb_in k = true → (rb_y k).name = "<init>")))))))
theorem rb_moj_mok {k : Nat} {ps : Nat × Nat} (h : rb_moj k ps = true) : rb_mok k = true := by
  unfold rb_moj at h
  unfold rb_mok
  rw [Bool.and_eq_true, Bool.and_eq_true] at h ⊢
  exact ⟨rb_at_is h.1, rb_at_is h.2.1, h.2.2⟩
def rb_mps : List (Nat × Nat) := [(50, 37), (58, 38), (64, 39), (74, 39), (154, 40), (174, 41), (189, 38), (193, 39), (197, 38), (201, 38), (221, 37), (225, 40), (229, 40), (233, 38), (237, 39), (240, 43), (247, 37), (250, 37), (253, 37), (256, 37), (260, 39), (265, 37), (269, 37), (273, 38), (277, 37), (281, 39), (287, 37), (290, 37), (293, 37), (297, 38), (301, 38), (306, 38), (310, 38), (313, 37), (317, 38), (320, 37), (324, 38), (332, 38), (335, 37), (339, 37), (343, 38), (347, 38), (351, 38), (355, 38), (361, 38), (365, 37), (369, 38), (374, 38), (378, 38), (382, 38), (386, 38), (389, 37), (393, 38), (396, 45), (403, 38), (406, 37), (409, 37), (413, 43), (416, 37), (420, 37), (425, 37), (429, 38), (433, 38), (437, 38), (441, 38), (445, 38), (449, 38), (453, 38), (457, 38), (461, 38), (465, 37), (470, 37), (474, 40), (478, 37), (484, 38), (488, 38), (492, 37), (496, 37), (502, 38), (506, 37), (511, 37), (516, 37), (521, 37), (524, 37), (528, 37), (532, 37), (536, 38), (540, 37), (545, 38), (551, 37), (555, 37), (559, 38), (563, 38), (568, 37), (572, 37), (576, 37), (580, 37), (585, 42), (590, 42), (594, 42), (623, 42), (626, 42), (630, 42), (634, 42), (637, 42), (641, 42), (645, 42), (649, 42), (653, 42), (657, 42), (661, 42), (665, 42), (669, 42), (673, 42), (676, 42), (680, 42), (684, 42), (691, 42), (695, 42), (699, 42), (703, 42), (707, 42), (711, 42), (715, 42), (718, 42), (722, 42), (726, 42), (730, 42), (734, 42), (739, 42), (743, 42), (747, 42), (751, 42), (755, 42), (759, 42), (763, 42), (767, 42), (771, 42), (775, 42), (779, 42), (783, 42), (787, 42), (791, 42), (795, 42), (799, 42), (803, 42), (807, 42), (811, 42), (815, 42), (819, 42), (823, 42), (827, 42), (831, 42), (835, 42), (839, 42), (843, 42), (847, 42), (851, 42), (855, 42), (859, 42), (863, 42), (866, 42), (870, 42)]
def rb_ips : List (List Nat) := [[155, 52, 53], [158, 57], [226, 228, 0], [230, 231, 232], [175, 52, 53], [177, 57], [65, 52, 53], [282, 258, 259], [283, 72, 73], [238, 239], [241, 243, 242, 44], [59, 52, 53], [62, 63], [71, 72, 73], [234, 235, 236], [190, 191, 192], [194, 195, 196], [198, 199, 200], [370, 271, 272], [302, 258, 259], [298, 299, 300], [438, 439, 440], [356, 239], [357, 279, 280], [303, 304, 305], [311, 312], [314, 315, 316], [318, 319], [321, 322, 323], [329, 330, 331], [333, 334], [344, 345, 346], [352, 353, 354], [358, 359, 360], [560, 561, 562], [375, 376, 377], [379, 380, 381], [390, 391, 392], [394, 395], [387, 388], [400, 401, 402], [404, 405], [407, 408], [546, 384, 385], [430, 431, 432], [434, 435, 436], [442, 443, 444], [446, 447, 448], [450, 451, 452], [454, 455, 456], [458, 459, 460], [51, 52, 53], [56, 57], [152, 153], [172, 173], [186, 187, 188], [222, 223, 224], [248, 249], [251, 252], [254, 255], [257, 258, 259], [261, 72, 73], [270, 271, 272], [278, 279, 280], [288, 289], [291, 292], [294, 295, 296], [307, 308, 309], [340, 341, 342], [348, 349, 350], [366, 367, 368], [371, 372, 373], [383, 384, 385], [421, 330, 331], [426, 427, 428], [466, 195, 196], [471, 472, 473], [479, 435, 436], [480, 439, 440], [481, 482, 483], [485, 486, 487], [497, 304, 305], [498, 459, 460], [499, 500, 501], [507, 388], [512, 319], [517, 312], [522, 523], [533, 534, 535], [541, 231, 232], [542, 543, 544], [547, 455, 456], [552, 554, 1], [573, 575, 2], [556, 557, 558], [564, 561, 562], [411, 412], [410, 405], [414, 415], [586, 52, 53], [587, 589, 3], [591, 593, 4], [624, 625], [670, 672, 10], [681, 683, 12], [689, 690], [752, 754, 23], [712, 714, 16], [760, 762, 25], [764, 766, 26], [748, 750, 22], [696, 698, 13], [756, 758, 24], [744, 746, 21], [627, 629, 5], [635, 636], [638, 640, 6], [650, 652, 7], [662, 664, 8], [666, 668, 9], [674, 675], [677, 679, 11], [704, 706, 14], [708, 710, 15], [716, 717], [719, 721, 17], [723, 725, 18], [727, 729, 19], [735, 701, 702], [740, 742, 20], [780, 782, 27], [784, 786, 28], [796, 798, 29], [800, 802, 30], [820, 822, 31], [836, 838, 32], [840, 842, 33], [844, 846, 34], [852, 854, 35], [864, 865], [48, 49], [583, 584], [218, 219, 220], [620, 621, 622], [244, 245, 246], [631, 632, 633], [262, 263, 264], [642, 643, 644], [266, 267, 268], [646, 647, 648], [274, 275, 276], [654, 655, 656], [284, 285, 286], [658, 659, 660], [336, 337, 338], [692, 693, 694], [362, 363, 364], [700, 701, 702], [417, 418, 419], [731, 732, 733], [422, 423, 424], [736, 737, 738], [462, 463, 464], [768, 769, 770], [467, 468, 469], [772, 773, 774], [475, 476, 477], [776, 777, 778], [489, 490, 491], [788, 789, 790], [493, 494, 495], [792, 793, 794], [503, 504, 505], [804, 805, 806], [508, 509, 510], [808, 809, 810], [513, 514, 515], [812, 813, 814], [518, 519, 520], [816, 817, 818], [525, 526, 527], [824, 825, 826], [529, 530, 531], [828, 829, 830], [537, 538, 539], [832, 833, 834], [548, 549, 550], [848, 849, 850], [565, 566, 567], [856, 857, 858], [569, 570, 571], [860, 861, 862], [577, 578, 579], [867, 868, 869]]
theorem rb_mok_0 : (List.range' 0 41).all (fun k => rb_moj k (rb_mps.getD k (0, 0))) = true := by decide +kernel
theorem rb_mok_41 : (List.range' 41 41).all (fun k => rb_moj k (rb_mps.getD k (0, 0))) = true := by decide +kernel
theorem rb_mok_82 : (List.range' 82 41).all (fun k => rb_moj k (rb_mps.getD k (0, 0))) = true := by decide +kernel
theorem rb_mok_123 : (List.range' 123 40).all (fun k => rb_moj k (rb_mps.getD k (0, 0))) = true := by decide +kernel
theorem rb_mok_all : ∀ k, k < 163 → rb_mok k = true := fun k h => by
  refine rb_moj_mok (ps := rb_mps.getD k (0, 0)) ?_
  by_cases h0 : k < 41
  · exact List.all_eq_true.mp rb_mok_0 k (List.mem_range'_1.mpr ⟨by omega, by omega⟩)
  by_cases h41 : k < 82
  · exact List.all_eq_true.mp rb_mok_41 k (List.mem_range'_1.mpr ⟨by omega, by omega⟩)
  by_cases h82 : k < 123
  · exact List.all_eq_true.mp rb_mok_82 k (List.mem_range'_1.mpr ⟨by omega, by omega⟩)
  by_cases h123 : k < 163
  · exact List.all_eq_true.mp rb_mok_123 k (List.mem_range'_1.mpr ⟨by omega, by omega⟩)
  omega
theorem rb_il_0 : (List.range' 0 41).all (fun i => rb_ioj (rb_il.getD i ((0, 0), (0, 0))) (rb_ips.getD i [])) = true := by decide +kernel
theorem rb_il_41 : (List.range' 41 41).all (fun i => rb_ioj (rb_il.getD i ((0, 0), (0, 0))) (rb_ips.getD i [])) = true := by decide +kernel
theorem rb_il_82 : (List.range' 82 41).all (fun i => rb_ioj (rb_il.getD i ((0, 0), (0, 0))) (rb_ips.getD i [])) = true := by decide +kernel
theorem rb_il_123 : (List.range' 123 41).all (fun i => rb_ioj (rb_il.getD i ((0, 0), (0, 0))) (rb_ips.getD i [])) = true := by decide +kernel
theorem rb_il_164 : (List.range' 164 30).all (fun i => rb_ioj (rb_il.getD i ((0, 0), (0, 0))) (rb_ips.getD i [])) = true := by decide +kernel
theorem rb_il_len : rb_il.length = 194 := by decide +kernel
theorem rb_il_all : ∀ e ∈ rb_il, rb_iok e = true := fun e h => by
  obtain ⟨i, hi⟩ := List.getElem?_of_mem h
  have hl : i < 194 := by rw [← rb_il_len]; exact (List.getElem?_eq_some_iff.mp hi).1
  have he : rb_il.getD i ((0, 0), (0, 0)) = e := by rw [List.getD_eq_getElem?_getD, hi]; rfl
  refine rb_ioj_iok (ps := rb_ips.getD i []) ?_
  have key : ∀ a n, a ≤ i → i < a + n → (List.range' a n).all (fun i => rb_ioj (rb_il.getD i ((0, 0), (0, 0))) (rb_ips.getD i [])) = true → rb_ioj e (rb_ips.getD i []) = true := fun a n h1 h2 h3 => by
    have := List.all_eq_true.mp h3 i (List.mem_range'_1.mpr ⟨h1, h2⟩)
    rw [he] at this
    exact this
  by_cases h0 : i < 41
  · exact key 0 41 (by omega) (by omega) rb_il_0
  by_cases h41 : i < 82
  · exact key 41 41 (by omega) (by omega) rb_il_41
  by_cases h82 : i < 123
  · exact key 82 41 (by omega) (by omega) rb_il_82
  by_cases h123 : i < 164
  · exact key 123 41 (by omega) (by omega) rb_il_123
  by_cases h164 : i < 194
  · exact key 164 30 (by omega) (by omega) rb_il_164
  omega
