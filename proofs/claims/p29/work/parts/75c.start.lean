theorem sh_r4 : rb_isM (rb_ex2 400 none 1 0 [some (.ref 141)] [] (rb_hy 4)) (rb_hz 4) = true := by decide +kernel
theorem sh_r5 : rb_isM (rb_ex2 400 none 1 0 [some (.ref 164)] [] (rb_hy 5)) (rb_hz 5) = true := by decide +kernel
