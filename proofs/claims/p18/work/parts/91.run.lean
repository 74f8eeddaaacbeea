/-! ===== the constructors, run ===== -/
def zd_S0 : za_S := (0, [(0, .inr (.inr (some 0)))], [], [], [], 0, 0)
def zd_lv : List (Nat × za_V) := [(4, .inl (0, 0, 0)), (3, .inr (.inr (some 105))), (2, .inr (.inr (some 73))), (1, .inr (.inr (some 1))), (0, .inr (.inr (some 0)))]
def zd_nil (l : List za_V) : Bool := match l with
  | [] => true
  | _ => false
def zd_fin (S : za_S) : Bool := (Nat.beq S.1 23).and ((decide (S.2.1 = zd_lv)).and ((zd_nil S.2.2.1).and ((zd_ck S.2.2.2.1).and ((Nat.ble S.2.2.2.2.2.1 500000).and (Nat.ble S.2.2.2.2.2.2 7000000)))))
def zd_all (o : Option za_S) : Bool := match o with
  | some S => zd_fin S
  | none => false
set_option maxRecDepth 100000 in
theorem zd_run : zd_all (zd_go (za_call0 100000 60) 13 zd_S0) = true := by decide +kernel
