/-! the class is made -/
set_option maxRecDepth 1000000 in
theorem zc_LO : zrW 20000 10 120 [.ref 0] zw0 (z0w 0 195) = true := by decide +kernel

