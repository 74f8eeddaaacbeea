set_option maxRecDepth 100000 in
theorem zv_6a : za_all (za_law 6 (-2147483648) (-1)) = true := by decide +kernel
