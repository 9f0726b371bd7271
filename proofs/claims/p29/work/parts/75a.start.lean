theorem sh_r0 : rb_isM (rb_ex2 400 none 1 0 [some (.ref 49)] [] (rb_hy 0)) (rb_hz 0) = true := by decide +kernel
theorem sh_r1 : rb_isM (rb_ex2 400 none 1 0 [some (.ref 72)] [] (rb_hy 1)) (rb_hz 1) = true := by decide +kernel
