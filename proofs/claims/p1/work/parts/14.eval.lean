/-! ===== the law, run for every length ===== -/
def za_fin1 (x : za_X) : Bool := match x with
  | (.inl (some (.inl a)), _, ρ) => match za_k ρ a with
    | some c => za_ieq c 1
    | none => false
  | _ => false
def za_all (o : Option (List za_X)) : Bool := match o with
  | some l => l.all za_fin1
  | none => false
def za_law (L : Nat) (lo hi : Int) : Option (List za_X) := za_run (za_stepF L zL za_tL (za_CP 13) za_MTf (za_callG L 100000 12)) 100000 [(0, [(0, .inr (.inr (some 0)))], [], [], [(-2147483648, 2147483647), (lo, hi), (-2147483648, 2147483647), (-2147483648, 2147483647), (-2147483648, 2147483647), (-2147483648, 2147483647)], 0, 0)] []
