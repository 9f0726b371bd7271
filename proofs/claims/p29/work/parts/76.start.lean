/-! THE START, 5: the class begins anew -/
def rs_Wa : rb_V := rb_sg rb_V9 0 (cRest rb_V1 3 2)
def rs_Ml : rb_M := rb_W rs_Wa
theorem st_r5 : rb_isM (rb_ex2 1000 none 6 0 [some (.ref 1), some (.int 3), some (.int 2)] [] rb_Mk) rs_Ml = true := by decide +kernel
