/-! indices into the reference's rows -/
theorem lm1 : rb_ln 12 1 = 229 := by decide +kernel
theorem lm2 : rb_ln 12 2 = 1832 := by decide +kernel
theorem lm3 : rb_ln 12 3 = 458 := by decide +kernel
theorem lm4 : rb_ln 12 4 = 8 := by decide +kernel
theorem lm5 : rb_ln 12 5 = 8 := by decide +kernel
theorem lm6 : rb_ln 12 6 = 229 := by decide +kernel
theorem rb_cln {j n : Nat} (h : j < n) (hn : n < 2000) : (nI j).toNatClampNeg = j := nI_clamp (by omega)
theorem rb_ib {j n : Nat} (h : j < n) (hn : n < 2000) : rb_inb (nI j) n = true := rb_in_nI h (by omega)
theorem ib0 : rb_inb 0 229 = true := by decide +kernel
theorem tn0 : Int32.toNatClampNeg 0 = 0 := by decide +kernel
theorem ib1 : rb_inb 1 229 = true := by decide +kernel
theorem tn1 : Int32.toNatClampNeg 1 = 1 := by decide +kernel
theorem ib2 : rb_inb 2 229 = true := by decide +kernel
theorem tn2 : Int32.toNatClampNeg 2 = 2 := by decide +kernel
theorem ib3 : rb_inb 3 229 = true := by decide +kernel
theorem tn3 : Int32.toNatClampNeg 3 = 3 := by decide +kernel
theorem ib4 : rb_inb 4 229 = true := by decide +kernel
theorem tn4 : Int32.toNatClampNeg 4 = 4 := by decide +kernel
theorem ib5 : rb_inb 5 229 = true := by decide +kernel
theorem tn5 : Int32.toNatClampNeg 5 = 5 := by decide +kernel
theorem ib6 : rb_inb 6 229 = true := by decide +kernel
theorem tn6 : Int32.toNatClampNeg 6 = 6 := by decide +kernel
theorem ib7 : rb_inb 7 229 = true := by decide +kernel
theorem tn7 : Int32.toNatClampNeg 7 = 7 := by decide +kernel
theorem ib8 : rb_inb 8 229 = true := by decide +kernel
theorem tn8 : Int32.toNatClampNeg 8 = 8 := by decide +kernel
theorem ib9 : rb_inb 9 229 = true := by decide +kernel
theorem tn9 : Int32.toNatClampNeg 9 = 9 := by decide +kernel
theorem ib10 : rb_inb 10 229 = true := by decide +kernel
theorem tn10 : Int32.toNatClampNeg 10 = 10 := by decide +kernel
theorem ib11 : rb_inb 11 229 = true := by decide +kernel
theorem tn11 : Int32.toNatClampNeg 11 = 11 := by decide +kernel
theorem ib12 : rb_inb 12 229 = true := by decide +kernel
theorem tn12 : Int32.toNatClampNeg 12 = 12 := by decide +kernel
theorem ib13 : rb_inb 13 229 = true := by decide +kernel
theorem tn13 : Int32.toNatClampNeg 13 = 13 := by decide +kernel
theorem ib14 : rb_inb 14 229 = true := by decide +kernel
theorem tn14 : Int32.toNatClampNeg 14 = 14 := by decide +kernel
theorem ibt0 : rb_inb 0 8 = true := by decide +kernel
theorem ca9 {i : Nat} : (9 : Int32) + nI i = nI (9 + i) := nI_add 9 i
theorem in9 {i : Nat} (h : i < 6) : rb_inb (nI (9 + i)) 229 = true := rb_ib (by omega) (by decide)
theorem cl9 {i : Nat} (h : i < 6) : (nI (9 + i)).toNatClampNeg = 9 + i := nI_clamp (by omega)
theorem ca15 {i : Nat} : (15 : Int32) + nI i = nI (15 + i) := nI_add 15 i
theorem in15 {i : Nat} (h : i < 8) : rb_inb (nI (15 + i)) 229 = true := rb_ib (by omega) (by decide)
theorem cl15 {i : Nat} (h : i < 8) : (nI (15 + i)).toNatClampNeg = 15 + i := nI_clamp (by omega)
theorem ca23 {i : Nat} : (23 : Int32) + nI i = nI (23 + i) := nI_add 23 i
theorem in23 {i : Nat} (h : i < 8) : rb_inb (nI (23 + i)) 229 = true := rb_ib (by omega) (by decide)
theorem cl23 {i : Nat} (h : i < 8) : (nI (23 + i)).toNatClampNeg = 23 + i := nI_clamp (by omega)
theorem ca31 {i : Nat} : (31 : Int32) + nI i = nI (31 + i) := nI_add 31 i
theorem in31 {i : Nat} (h : i < 8) : rb_inb (nI (31 + i)) 229 = true := rb_ib (by omega) (by decide)
theorem cl31 {i : Nat} (h : i < 8) : (nI (31 + i)).toNatClampNeg = 31 + i := nI_clamp (by omega)
theorem ca39 {i : Nat} : (39 : Int32) + nI i = nI (39 + i) := nI_add 39 i
theorem in39 {i : Nat} (h : i < 8) : rb_inb (nI (39 + i)) 229 = true := rb_ib (by omega) (by decide)
theorem cl39 {i : Nat} (h : i < 8) : (nI (39 + i)).toNatClampNeg = 39 + i := nI_clamp (by omega)
theorem ca47 {i : Nat} : (47 : Int32) + nI i = nI (47 + i) := nI_add 47 i
theorem in47 {i : Nat} (h : i < 8) : rb_inb (nI (47 + i)) 229 = true := rb_ib (by omega) (by decide)
theorem cl47 {i : Nat} (h : i < 8) : (nI (47 + i)).toNatClampNeg = 47 + i := nI_clamp (by omega)
theorem ca55 {i : Nat} : (55 : Int32) + nI i = nI (55 + i) := nI_add 55 i
theorem in55 {i : Nat} (h : i < 8) : rb_inb (nI (55 + i)) 229 = true := rb_ib (by omega) (by decide)
theorem cl55 {i : Nat} (h : i < 8) : (nI (55 + i)).toNatClampNeg = 55 + i := nI_clamp (by omega)
theorem ca63 {i : Nat} : (63 : Int32) + nI i = nI (63 + i) := nI_add 63 i
theorem in63 {i : Nat} (h : i < 8) : rb_inb (nI (63 + i)) 229 = true := rb_ib (by omega) (by decide)
theorem cl63 {i : Nat} (h : i < 8) : (nI (63 + i)).toNatClampNeg = 63 + i := nI_clamp (by omega)
theorem ca199 {i : Nat} : (199 : Int32) + nI i = nI (199 + i) := nI_add 199 i
theorem in199 {i : Nat} (h : i < 30) : rb_inb (nI (199 + i)) 229 = true := rb_ib (by omega) (by decide)
theorem cl199 {i : Nat} (h : i < 30) : (nI (199 + i)).toNatClampNeg = 199 + i := nI_clamp (by omega)
theorem ca71 {i : Nat} : (71 : Int32) + nI i = nI (71 + i) := nI_add 71 i
theorem in71 {o i : Nat} (ho : o < 8) (h : i < 8) : rb_inb (nI (71 + 8 * o + i)) 229 = true := rb_ib (by omega) (by decide)
theorem cl71 {o i : Nat} (ho : o < 8) (h : i < 8) : (nI (71 + 8 * o + i)).toNatClampNeg = 71 + 8 * o + i := nI_clamp (by omega)
theorem in71s {k : Nat} (h : k < 64) : rb_inb (nI (71 + k)) 229 = true := rb_ib (by omega) (by decide)
theorem cl71s {k : Nat} (h : k < 64) : (nI (71 + k)).toNatClampNeg = 71 + k := nI_clamp (by omega)
theorem ca135 {i : Nat} : (135 : Int32) + nI i = nI (135 + i) := nI_add 135 i
theorem in135 {o i : Nat} (ho : o < 8) (h : i < 8) : rb_inb (nI (135 + 8 * o + i)) 229 = true := rb_ib (by omega) (by decide)
theorem cl135 {o i : Nat} (ho : o < 8) (h : i < 8) : (nI (135 + 8 * o + i)).toNatClampNeg = 135 + 8 * o + i := nI_clamp (by omega)
theorem in135s {k : Nat} (h : k < 64) : rb_inb (nI (135 + k)) 229 = true := rb_ib (by omega) (by decide)
theorem cl135s {k : Nat} (h : k < 64) : (nI (135 + k)).toNatClampNeg = 135 + k := nI_clamp (by omega)
theorem cm8 {o : Nat} : (8 : Int32) * nI o = nI (8 * o) := by show Int32.ofNat 8 * Int32.ofNat o = Int32.ofNat (8 * o); rw [← Int32.ofNat_mul]
theorem ine8 {i : Nat} (h : i < 8) : rb_inb (nI i) 8 = true := rb_ib h (by decide)
theorem cle8 {i : Nat} (h : i < 8) : (nI i).toNatClampNeg = i := nI_clamp (by omega)
theorem r17 : (1 : Nat) < 7 := by decide
theorem r27 : (2 : Nat) < 7 := by decide
theorem r37 : (3 : Nat) < 7 := by decide
theorem r47 : (4 : Nat) < 7 := by decide
theorem r57 : (5 : Nat) < 7 := by decide
theorem r67 : (6 : Nat) < 7 := by decide
