/-! THE START, 3: the class's constructor in pieces -/
def rb_cS (g : Nat) : rb_M := (rb_cellsS g).map (rb_bd rb_V9)
def rb_bn (l : List Value) : rb_M := [.inl (4, l)]
def rb_hi0 : rb_M := [.inl (0, [.ref 48, .int 0, .int 0]), .inr (.inr ((List.range 8).map fun i => some (rb_st (2 + i))))]
def rb_hi (n : Nat) : rb_M := (List.range n).flatMap fun i => rb_cS (2 + i)
def rb_Ma : rb_M := rb_bn [.null, .null, .null, .null, .null] ++ [.inl (3, rb_df 3)]
def rb_Mb : rb_M := rb_bn [.null, .null, .null, .null, .null] ++ rb_cS 0
def rb_Mc : rb_M := rb_bn [.ref 1, .null, .null, .null, .null] ++ rb_cS 0 ++ [.inl (3, rb_df 3)]
def rb_Md : rb_M := rb_bn [.ref 1, .null, .null, .null, .null] ++ rb_cS 0 ++ rb_cS 1
def rb_Me : rb_M := rb_bn [.ref 1, .ref 24, .null, .null, .null] ++ rb_cS 0 ++ rb_cS 1 ++ [.inl (0, rb_df 0)]
def rb_Mf : rb_M := rb_bn [.ref 1, .ref 24, .null, .null, .null] ++ rb_cS 0 ++ rb_cS 1 ++ rb_hi0 ++ rb_hi 8
def rb_Mg : rb_M := rb_bn [.ref 1, .ref 24, .ref 47, .null, .null] ++ rb_cS 0 ++ rb_cS 1 ++ rb_hi0 ++ rb_hi 8 ++ [.inl (1, rb_df 1)]
def rb_Mh : rb_M := rb_bn [.ref 1, .ref 24, .ref 47, .null, .null] ++ rb_cS 0 ++ rb_cS 1 ++ rb_hi0 ++ rb_hi 8 ++ (.inl (1, [.ref 234, .int 0]) :: rb_cS 10)
def rb_Mi : rb_M := rb_bn [.ref 1, .ref 24, .ref 47, .ref 233, .null] ++ rb_cS 0 ++ rb_cS 1 ++ rb_hi0 ++ rb_hi 8 ++ (.inl (1, [.ref 234, .int 0]) :: rb_cS 10) ++ [.inl (1, rb_df 1)]
def rb_Mj : rb_M := rb_bn [.ref 1, .ref 24, .ref 47, .ref 233, .null] ++ rb_cS 0 ++ rb_cS 1 ++ rb_hi0 ++ rb_hi 8 ++ (.inl (1, [.ref 234, .int 0]) :: rb_cS 10) ++ (.inl (1, [.ref 258, .int 0]) :: rb_cS 11)
def rb_Mk : rb_M := rb_bn [.ref 1, .ref 24, .ref 47, .ref 233, .ref 257] ++ rb_cS 0 ++ rb_cS 1 ++ rb_hi0 ++ rb_hi 8 ++ (.inl (1, [.ref 234, .int 0]) :: rb_cS 10) ++ (.inl (1, [.ref 258, .int 0]) :: rb_cS 11)
theorem st_c0 : rb_isC (rb_chunk 5 0 0 [some (.ref 0)] [] [.inl (4, rb_df 4)]) 9 [some (.ref 0)] [.ref 1, .ref 1, .ref 0] rb_Ma = true := by decide +kernel
theorem st_c1 : rb_isC (rb_chunk 4 0 12 [some (.ref 0)] [.ref 1, .ref 0] rb_Mb) 20 [some (.ref 0)] [.ref 24, .ref 24, .ref 0] rb_Mc = true := by decide +kernel
theorem st_c2 : rb_isC (rb_chunk 4 0 23 [some (.ref 0)] [.ref 24, .ref 0] rb_Md) 31 [some (.ref 0)] [.ref 47, .ref 47, .ref 0] rb_Me = true := by decide +kernel
theorem st_c3 : rb_isC (rb_chunk 4 0 34 [some (.ref 0)] [.ref 47, .ref 0] rb_Mf) 42 [some (.ref 0)] [.ref 233, .ref 233, .ref 0] rb_Mg = true := by decide +kernel
theorem st_c4 : rb_isC (rb_chunk 4 0 45 [some (.ref 0)] [.ref 233, .ref 0] rb_Mh) 53 [some (.ref 0)] [.ref 257, .ref 257, .ref 0] rb_Mi = true := by decide +kernel
theorem st_c5 : rb_isC (rb_chunk 5 0 56 [some (.ref 0)] [.ref 257, .ref 0] rb_Mj) 65 [some (.ref 0)] [.int 2, .int 3, .ref 1] rb_Mk = true := by decide +kernel
theorem st_l0 : rb_isL 0 9 [some (.ref 0)] [.ref 1, .ref 1, .ref 0] rb_Ma 24 1 [.ref 1] [.ref 1, .ref 0] = true := by decide +kernel
theorem st_l1 : rb_isL 0 20 [some (.ref 0)] [.ref 24, .ref 24, .ref 0] rb_Mc 47 1 [.ref 24] [.ref 24, .ref 0] = true := by decide +kernel
theorem st_l2 : rb_isL 0 31 [some (.ref 0)] [.ref 47, .ref 47, .ref 0] rb_Me 233 4 [.ref 47] [.ref 47, .ref 0] = true := by decide +kernel
theorem st_l3 : rb_isL 0 42 [some (.ref 0)] [.ref 233, .ref 233, .ref 0] rb_Mg 257 5 [.ref 233] [.ref 233, .ref 0] = true := by decide +kernel
theorem st_l4 : rb_isL 0 53 [some (.ref 0)] [.ref 257, .ref 257, .ref 0] rb_Mi 281 5 [.ref 257] [.ref 257, .ref 0] = true := by decide +kernel
theorem st_l5 : rb_isL 0 65 [some (.ref 0)] [.int 2, .int 3, .ref 1] rb_Mk 281 6 [.ref 1, .int 3, .int 2] [] = true := by decide +kernel
theorem st_r0 : rb_isM (rb_ex2 400 none 1 0 [some (.ref 1)] [] rb_Ma) rb_Mb = true := by decide +kernel
theorem st_r1 : rb_isM (rb_ex2 400 none 1 0 [some (.ref 24)] [] rb_Mc) rb_Md = true := by decide +kernel
