set_option maxRecDepth 100000 in
theorem zv_6b : za_all (za_law 6 0 0) = true := by decide +kernel
