/-! the model is made -/
set_option maxRecDepth 1000000 in
theorem zc_M : zrW 5000 10 163 [.ref 195] (z0w 0 195 ++ [zwm]) (z0w 0 238) = true := by decide +kernel

