theorem sh_r2 : rb_isM (rb_ex2 400 none 1 0 [some (.ref 95)] [] (rb_hy 2)) (rb_hz 2) = true := by decide +kernel
theorem sh_r3 : rb_isM (rb_ex2 400 none 1 0 [some (.ref 118)] [] (rb_hy 3)) (rb_hz 3) = true := by decide +kernel
