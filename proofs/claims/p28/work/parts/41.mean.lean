/-! THE MEAN OF THE HEIGHTS, AS A DOUBLE -/
set_option maxRecDepth 100000 in
theorem mean_2 : ∀ S, S < 121 → (FP.ddiv (FP.i2d (nI S)) (FP.i2d (nI 2)) &&& 0x7fffffffffffffff ≤ 0x7ff0000000000000) ∧ Op.cmpValue (FP.dcmp (FP.ddiv (FP.i2d (nI S)) (FP.i2d (nI 2))) 4633641066610819072) .l ≤ 0 := by decide +kernel
