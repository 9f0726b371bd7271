theorem st_r3 : rb_isM (rb_ex2 500 none 5 0 [some (.ref 233)] [] rb_Mg) rb_Mh = true := by decide +kernel
theorem st_r4 : rb_isM (rb_ex2 500 none 5 0 [some (.ref 257)] [] rb_Mi) rb_Mj = true := by decide +kernel
