set_option maxRecDepth 100000 in
theorem zv_6c : za_all (za_law 6 1 2147483647) = true := by decide +kernel
