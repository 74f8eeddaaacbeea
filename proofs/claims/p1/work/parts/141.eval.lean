set_option maxRecDepth 100000 in
theorem zv_0 : za_all (za_law 0 (-2147483648) 2147483647) = true := by decide +kernel
set_option maxRecDepth 100000 in
theorem zv_1 : za_all (za_law 1 (-2147483648) 2147483647) = true := by decide +kernel
set_option maxRecDepth 100000 in
theorem zv_2 : za_all (za_law 2 (-2147483648) 2147483647) = true := by decide +kernel
set_option maxRecDepth 100000 in
theorem zv_3 : za_all (za_law 3 (-2147483648) 2147483647) = true := by decide +kernel
set_option maxRecDepth 100000 in
theorem zv_4 : za_all (za_law 4 (-2147483648) 2147483647) = true := by decide +kernel
set_option maxRecDepth 100000 in
theorem zv_5 : za_all (za_law 5 (-2147483648) 2147483647) = true := by decide +kernel
