theorem sh_r6 : rb_isM (rb_ex2 400 none 1 0 [some (.ref 187)] [] (rb_hy 6)) (rb_hz 6) = true := by decide +kernel
theorem sh_r7 : rb_isM (rb_ex2 400 none 1 0 [some (.ref 210)] [] (rb_hy 7)) (rb_hz 7) = true := by decide +kernel
