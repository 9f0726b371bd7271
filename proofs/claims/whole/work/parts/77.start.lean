/-! THE START, 6: the reference's constructor, the law's first steps -/
def rs_Wb : rb_V := rb_sg rs_Wa 12 (fun r j => if r = 1 then (if j = 7 then 1 else if j = 9 ∨ j = 10 ∨ j = 11 then 4 else if j = 12 then 5 else if j = 13 then 3 else 0) else 0)
theorem sm_c0 : rb_isC (rb_chunk 26 97 0 [some (.ref 281), none] [] (rs_Ml ++ [.inl (5, rb_df 5)])) 56 [some (.ref 281), none] [] (rb_W rs_Wa) = true := by decide +kernel
theorem sm_c1 : rb_isC (rb_chunk 59 97 56 [some (.ref 281), none] [] (rb_W rs_Wa)) 106 [some (.ref 281), some (.int 3)] [.int 2, .int 3, .ref 281] (rb_W rs_Wb) = true := by decide +kernel
theorem sm_l0 : rb_isL 97 106 [some (.ref 281), some (.int 3)] [.int 2, .int 3, .ref 281] (rb_W rs_Wb) 288 98 [.ref 281, .int 3, .int 2] [] = true := by decide +kernel
theorem sl_c0 : rb_isC (rb_chunk 2 163 0 [some (.ref rb_scr), none, none, none, none, none, none, none] [] []) 4 [some (.ref rb_scr), none, none, none, none, none, none, none] [.ref 0, .ref 0] [.inl (4, rb_df 4)] = true := by decide +kernel
theorem sl_l0 : rb_isL 163 4 [some (.ref rb_scr), none, none, none, none, none, none, none] [.ref 0, .ref 0] [.inl (4, rb_df 4)] 281 0 [.ref 0] [.ref 0] = true := by decide +kernel
theorem sl_c1 : rb_isC (rb_chunk 3 163 7 [some (.ref rb_scr), none, none, none, none, none, none, none] [.ref 0] rs_Ml) 12 [some (.ref rb_scr), some (.ref 0), none, none, none, none, none, none] [.ref 281, .ref 281] (rs_Ml ++ [.inl (5, rb_df 5)]) = true := by decide +kernel
theorem sl_l1 : rb_isL 163 12 [some (.ref rb_scr), some (.ref 0), none, none, none, none, none, none] [.ref 281, .ref 281] (rs_Ml ++ [.inl (5, rb_df 5)]) 288 97 [.ref 281] [.ref 281] = true := by decide +kernel
