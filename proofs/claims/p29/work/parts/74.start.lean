/-! THE START, 4: the history's constructor in pieces -/
def rb_pre : rb_M := rb_bn [.ref 1, .ref 24, .null, .null, .null] ++ rb_cS 0 ++ rb_cS 1
def rb_ha (n : Nat) : rb_M := [.inl (0, [.ref 48, .int 0, .int 0]), .inr (.inr ((List.range 8).map fun i => if i < n then some (rb_st (2 + i)) else none))]
def rb_hx (n : Nat) : rb_M := rb_pre ++ rb_ha n ++ rb_hi n
def rb_hy (n : Nat) : rb_M := rb_hx n ++ [.inl (3, rb_df 3)]
def rb_hz (n : Nat) : rb_M := rb_pre ++ rb_ha n ++ rb_hi (n + 1)
theorem sh_c0 : rb_isC (rb_chunk 18 4 0 [some (.ref 47), none] [] rb_Me) 33 [some (.ref 47), some (.int 0)] [.ref 49, .ref 49, .int 0, .ref 48] (rb_hy 0) = true := by decide +kernel
theorem sh_l0 : rb_isL 4 33 [some (.ref 47), some (.int 0)] [.ref 49, .ref 49, .int 0, .ref 48] (rb_hy 0) 72 1 [.ref 49] [.ref 49, .int 0, .ref 48] = true := by decide +kernel
theorem sh_c1 : rb_isC (rb_chunk 13 4 36 [some (.ref 47), some (.int 0)] [.ref 49, .int 0, .ref 48] (rb_hz 0)) 33 [some (.ref 47), some (.int 1)] [.ref 72, .ref 72, .int 1, .ref 48] (rb_hy 1) = true := by decide +kernel
theorem sh_l1 : rb_isL 4 33 [some (.ref 47), some (.int 1)] [.ref 72, .ref 72, .int 1, .ref 48] (rb_hy 1) 95 1 [.ref 72] [.ref 72, .int 1, .ref 48] = true := by decide +kernel
theorem sh_c2 : rb_isC (rb_chunk 13 4 36 [some (.ref 47), some (.int 1)] [.ref 72, .int 1, .ref 48] (rb_hz 1)) 33 [some (.ref 47), some (.int 2)] [.ref 95, .ref 95, .int 2, .ref 48] (rb_hy 2) = true := by decide +kernel
theorem sh_l2 : rb_isL 4 33 [some (.ref 47), some (.int 2)] [.ref 95, .ref 95, .int 2, .ref 48] (rb_hy 2) 118 1 [.ref 95] [.ref 95, .int 2, .ref 48] = true := by decide +kernel
theorem sh_c3 : rb_isC (rb_chunk 13 4 36 [some (.ref 47), some (.int 2)] [.ref 95, .int 2, .ref 48] (rb_hz 2)) 33 [some (.ref 47), some (.int 3)] [.ref 118, .ref 118, .int 3, .ref 48] (rb_hy 3) = true := by decide +kernel
theorem sh_l3 : rb_isL 4 33 [some (.ref 47), some (.int 3)] [.ref 118, .ref 118, .int 3, .ref 48] (rb_hy 3) 141 1 [.ref 118] [.ref 118, .int 3, .ref 48] = true := by decide +kernel
theorem sh_c4 : rb_isC (rb_chunk 13 4 36 [some (.ref 47), some (.int 3)] [.ref 118, .int 3, .ref 48] (rb_hz 3)) 33 [some (.ref 47), some (.int 4)] [.ref 141, .ref 141, .int 4, .ref 48] (rb_hy 4) = true := by decide +kernel
theorem sh_l4 : rb_isL 4 33 [some (.ref 47), some (.int 4)] [.ref 141, .ref 141, .int 4, .ref 48] (rb_hy 4) 164 1 [.ref 141] [.ref 141, .int 4, .ref 48] = true := by decide +kernel
theorem sh_c5 : rb_isC (rb_chunk 13 4 36 [some (.ref 47), some (.int 4)] [.ref 141, .int 4, .ref 48] (rb_hz 4)) 33 [some (.ref 47), some (.int 5)] [.ref 164, .ref 164, .int 5, .ref 48] (rb_hy 5) = true := by decide +kernel
theorem sh_l5 : rb_isL 4 33 [some (.ref 47), some (.int 5)] [.ref 164, .ref 164, .int 5, .ref 48] (rb_hy 5) 187 1 [.ref 164] [.ref 164, .int 5, .ref 48] = true := by decide +kernel
theorem sh_c6 : rb_isC (rb_chunk 13 4 36 [some (.ref 47), some (.int 5)] [.ref 164, .int 5, .ref 48] (rb_hz 5)) 33 [some (.ref 47), some (.int 6)] [.ref 187, .ref 187, .int 6, .ref 48] (rb_hy 6) = true := by decide +kernel
theorem sh_l6 : rb_isL 4 33 [some (.ref 47), some (.int 6)] [.ref 187, .ref 187, .int 6, .ref 48] (rb_hy 6) 210 1 [.ref 187] [.ref 187, .int 6, .ref 48] = true := by decide +kernel
theorem sh_c7 : rb_isC (rb_chunk 13 4 36 [some (.ref 47), some (.int 6)] [.ref 187, .int 6, .ref 48] (rb_hz 6)) 33 [some (.ref 47), some (.int 7)] [.ref 210, .ref 210, .int 7, .ref 48] (rb_hy 7) = true := by decide +kernel
theorem sh_l7 : rb_isL 4 33 [some (.ref 47), some (.int 7)] [.ref 210, .ref 210, .int 7, .ref 48] (rb_hy 7) 233 1 [.ref 210] [.ref 210, .int 7, .ref 48] = true := by decide +kernel
theorem sh_c8 : rb_isC (rb_chunk 8 4 36 [some (.ref 47), some (.int 7)] [.ref 210, .int 7, .ref 48] (rb_hz 7)) 43 [some (.ref 47), some (.int 8)] [] rb_Mf = true := by decide +kernel
