def za_fin1 (x : za_X) : Bool := match x with
  | (.inl (some (.inl a)), _, ρ) => match za_k ρ a with
    | some c => za_ieq c 1
    | none => false
  | _ => false
def za_all (o : Option (List za_X)) : Bool := match o with
  | some l => l.all za_fin1
  | none => false
def za_law (L fuel d : Nat) : Option (List za_X) := za_run (za_step L zL (za_CP 13) za_MT (za_call L fuel za_CP za_MT d)) fuel [(0, [(0, .inr (.inr (some 0)))], [], [], List.replicate 6 (-2147483648, 2147483647), 0, 0)] []
set_option maxRecDepth 100000 in
theorem try6 : za_all (za_law 6 100000 12) = true := by decide +kernel
