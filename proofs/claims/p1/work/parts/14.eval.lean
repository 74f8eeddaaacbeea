/-! ===== the law, run for every length ===== -/
def za_fin1 (x : za_X) : Bool := match x with
  | (.inl (some (.inl a)), _, ρ) => match za_k ρ a with
    | some c => za_ieq c 1
    | none => false
  | _ => false
def za_all (o : Option (List za_X)) : Bool := match o with
  | some l => l.all za_fin1
  | none => false
def za_law (L : Nat) (lo hi : Int) : Option (List za_X) := za_run (za_step L zL (za_CP 13) za_MT (za_call L 100000 za_CP za_MT 12)) 100000 [(0, [(0, .inr (.inr (some 0)))], [], [], [(-2147483648, 2147483647), (lo, hi), (-2147483648, 2147483647), (-2147483648, 2147483647), (-2147483648, 2147483647), (-2147483648, 2147483647)], 0, 0)] []
set_option maxRecDepth 100000 in
theorem zv_0 : za_all (za_law 0 (-2147483648) 2147483647) = true := by decide +kernel
set_option maxRecDepth 100000 in
theorem zv_1 : za_all (za_law 1 (-2147483648) 2147483647) = true := by decide +kernel
set_option maxRecDepth 100000 in
theorem zv_2 : za_all (za_law 2 (-2147483648) 2147483647) = true := by decide +kernel
set_option maxRecDepth 100000 in
theorem zv_3 : za_all (za_law 3 (-2147483648) 2147483647) = true := by decide +kernel
set_option maxRecDepth 100000 in
theorem zv_4 : za_all (za_law 4 (-2147483648) 2147483647) = true := by decide +kernel
set_option maxRecDepth 100000 in
theorem zv_5 : za_all (za_law 5 (-2147483648) 2147483647) = true := by decide +kernel
set_option maxRecDepth 100000 in
theorem zv_6a : za_all (za_law 6 (-2147483648) (-1)) = true := by decide +kernel
