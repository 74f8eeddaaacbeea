/-! ===== nest mates' words; which entries throw ===== -/
def za_nneed (own : String) (k : Nat) (r : za_row) : List Cond := match r.1 with
  | 11 => za_wY r.2.1 (fun y => [.methodLinkNest own k y RX11])
  | 12 => za_wY r.2.1 (fun y => [.methodLinkNest own k y RX11])
  | 13 => za_wY r.2.1 (fun y => [.methodLinkNest own k y RX11])
  | _ => []
def za_isN (w : Cond) : Bool := match w with
  | .methodLinkNest _ _ _ _ => true
  | .castable _ _ => true
  | .declares _ => true
  | _ => false
def za_nw : List Cond := lw_tbl.filter za_isN
theorem za_memN {ws : List Cond} (ps : List Nat) (h : ws = ps.filterMap (fun i => lw_tbl[i]?)) (hg : ws.all za_isN = true) : ∀ w ∈ ws, w ∈ za_nw := by
  intro w hw
  have h1 := List.all_eq_true.mp hg w hw
  rw [h] at hw
  obtain ⟨i, -, hi⟩ := List.mem_filterMap.mp hw
  exact List.mem_filter.mpr ⟨List.mem_of_getElem? hi, h1⟩
def za_sk : List Nat := [112, 176, 187, 212, 268, 286, 308, 313, 345, 363, 365, 367]
def za_xok (c : Nat) (q : Nat × za_row) : Bool := match q.2.1 with
  | 15 => Nat.beq c 11 && ((Nat.beq q.1 114 && Nat.beq q.2.2.1 1) || (Nat.beq q.1 178 && Nat.beq q.2.2.1 0))
  | 10 => !(Nat.beq c 11) || za_sk.contains q.1
  | _ => true
theorem zc_n0 : ∀ w ∈ za_cp0.flatMap (fun q => za_nneed RX0 q.1 q.2), w ∈ za_nw := za_memN [] (by decide +kernel) (by decide +kernel)
theorem zc_x0 : za_cp0.all (za_xok 0) = true := by decide +kernel
theorem zc_n1 : ∀ w ∈ za_cp1.flatMap (fun q => za_nneed RX1 q.1 q.2), w ∈ za_nw := za_memN [] (by decide +kernel) (by decide +kernel)
theorem zc_x1 : za_cp1.all (za_xok 1) = true := by decide +kernel
theorem zc_n2 : ∀ w ∈ za_cp2.flatMap (fun q => za_nneed RX2 q.1 q.2), w ∈ za_nw := za_memN [] (by decide +kernel) (by decide +kernel)
theorem zc_x2 : za_cp2.all (za_xok 2) = true := by decide +kernel
theorem zc_n3 : ∀ w ∈ za_cp3.flatMap (fun q => za_nneed RX3 q.1 q.2), w ∈ za_nw := za_memN [1209] (by decide +kernel) (by decide +kernel)
theorem zc_x3 : za_cp3.all (za_xok 3) = true := by decide +kernel
theorem zc_n4 : ∀ w ∈ za_cp4.flatMap (fun q => za_nneed RX4 q.1 q.2), w ∈ za_nw := za_memN [] (by decide +kernel) (by decide +kernel)
theorem zc_x4 : za_cp4.all (za_xok 4) = true := by decide +kernel
theorem zc_n5 : ∀ w ∈ za_cp5.flatMap (fun q => za_nneed RX5 q.1 q.2), w ∈ za_nw := za_memN [464] (by decide +kernel) (by decide +kernel)
theorem zc_x5 : za_cp5.all (za_xok 5) = true := by decide +kernel
theorem zc_n6 : ∀ w ∈ za_cp6.flatMap (fun q => za_nneed RX6 q.1 q.2), w ∈ za_nw := za_memN [] (by decide +kernel) (by decide +kernel)
theorem zc_x6 : za_cp6.all (za_xok 6) = true := by decide +kernel
theorem zc_n7 : ∀ w ∈ za_cp7.flatMap (fun q => za_nneed RX7 q.1 q.2), w ∈ za_nw := za_memN [832, 964, 945, 1021] (by decide +kernel) (by decide +kernel)
theorem zc_x7 : za_cp7.all (za_xok 7) = true := by decide +kernel
theorem zc_n8 : ∀ w ∈ za_cp8.flatMap (fun q => za_nneed RX8 q.1 q.2), w ∈ za_nw := za_memN [658] (by decide +kernel) (by decide +kernel)
theorem zc_x8 : za_cp8.all (za_xok 8) = true := by decide +kernel
theorem zc_n9 : ∀ w ∈ za_cp9.flatMap (fun q => za_nneed RX9 q.1 q.2), w ∈ za_nw := za_memN [] (by decide +kernel) (by decide +kernel)
theorem zc_x9 : za_cp9.all (za_xok 9) = true := by decide +kernel
theorem zc_n10 : ∀ w ∈ za_cp10.flatMap (fun q => za_nneed RX10 q.1 q.2), w ∈ za_nw := za_memN [158] (by decide +kernel) (by decide +kernel)
theorem zc_x10 : za_cp10.all (za_xok 10) = true := by decide +kernel
theorem zc_n11 : ∀ w ∈ za_cp11.flatMap (fun q => za_nneed RX11 q.1 q.2), w ∈ za_nw := za_memN [273, 402, 446, 459, 482, 527, 550] (by decide +kernel) (by decide +kernel)
theorem zc_x11 : za_cp11.all (za_xok 11) = true := by decide +kernel
theorem zc_n12 : ∀ w ∈ za_cp12.flatMap (fun q => za_nneed RX12 q.1 q.2), w ∈ za_nw := za_memN [] (by decide +kernel) (by decide +kernel)
theorem zc_x12 : za_cp12.all (za_xok 12) = true := by decide +kernel
theorem zc_n13 : ∀ w ∈ za_cp13.flatMap (fun q => za_nneed RL q.1 q.2), w ∈ za_nw := za_memN [] (by decide +kernel) (by decide +kernel)
theorem zc_x13 : za_cp13.all (za_xok 13) = true := by decide +kernel
theorem zc_n14 : ∀ w ∈ za_cp14.flatMap (fun q => za_nneed RJ6 q.1 q.2), w ∈ za_nw := za_memN [] (by decide +kernel) (by decide +kernel)
theorem zc_x14 : za_cp14.all (za_xok 14) = true := by decide +kernel
theorem zc_n15 : ∀ w ∈ za_cp15.flatMap (fun q => za_nneed RJ13 q.1 q.2), w ∈ za_nw := za_memN [] (by decide +kernel) (by decide +kernel)
theorem zc_x15 : za_cp15.all (za_xok 15) = true := by decide +kernel
theorem zc_n16 : ∀ w ∈ za_cp16.flatMap (fun q => za_nneed RJ9 q.1 q.2), w ∈ za_nw := za_memN [] (by decide +kernel) (by decide +kernel)
theorem zc_x16 : za_cp16.all (za_xok 16) = true := by decide +kernel
theorem zc_n17 : ∀ w ∈ za_cp17.flatMap (fun q => za_nneed RJ7 q.1 q.2), w ∈ za_nw := za_memN [] (by decide +kernel) (by decide +kernel)
theorem zc_x17 : za_cp17.all (za_xok 17) = true := by decide +kernel
theorem zc_n : ∀ (c : Nat), ∀ w ∈ (za_cpl c).flatMap (fun q => za_nneed (za_ow c) q.1 q.2), w ∈ za_nw := by
  intro c
  match c with
  | 0 => exact zc_n0
  | 1 => exact zc_n1
  | 2 => exact zc_n2
  | 3 => exact zc_n3
  | 4 => exact zc_n4
  | 5 => exact zc_n5
  | 6 => exact zc_n6
  | 7 => exact zc_n7
  | 8 => exact zc_n8
  | 9 => exact zc_n9
  | 10 => exact zc_n10
  | 11 => exact zc_n11
  | 12 => exact zc_n12
  | 13 => exact zc_n13
  | 14 => exact zc_n14
  | 15 => exact zc_n15
  | 16 => exact zc_n16
  | 17 => exact zc_n17
  | _ + 18 => intro w hw; simp [za_cpl] at hw
theorem zc_x : ∀ (c : Nat), (za_cpl c).all (za_xok c) = true := by
  intro c
  match c with
  | 0 => exact zc_x0
  | 1 => exact zc_x1
  | 2 => exact zc_x2
  | 3 => exact zc_x3
  | 4 => exact zc_x4
  | 5 => exact zc_x5
  | 6 => exact zc_x6
  | 7 => exact zc_x7
  | 8 => exact zc_x8
  | 9 => exact zc_x9
  | 10 => exact zc_x10
  | 11 => exact zc_x11
  | 12 => exact zc_x12
  | 13 => exact zc_x13
  | 14 => exact zc_x14
  | 15 => exact zc_x15
  | 16 => exact zc_x16
  | 17 => exact zc_x17
  | _ + 18 => rfl
theorem zc_nest {c k : Nat} {r : za_row} (h : za_CP c k = some r) : ∀ w ∈ za_nneed (za_ow c) k r, w ∈ za_nw := fun w hw => zc_n c w (List.mem_flatMap.mpr ⟨_, za_lk_mem h, hw⟩)
theorem zc_xr {c k : Nat} {r : za_row} (h : za_CP c k = some r) : za_xok c (k, r) = true := List.all_eq_true.mp (zc_x c) _ (za_lk_mem h)
abbrev za_nm : List String := ["java/lang/RuntimeException", "java/lang/Exception"]
def za_icx (ex : Nat) : Nat := match ex with
  | 0 => 178
  | _ => 114
def za_tix (ex : Nat) : Nat := match ex with
  | 0 => 13
  | _ => 7
def za_tby (ex : Nat) : ByteArray := match ex with
  | 0 => prog_32_method_4_code
  | _ => Bundle.six
theorem zx_d0 : ∀ ex, ex < 2 → decode (za_tby ex) 0 = .ok (.aload_n 0, 1)
  | 0, _ => by decide +kernel
  | 1, _ => by decide +kernel
  | _ + 2, h => absurd h (by omega)
theorem zx_d1 : ∀ ex, ex < 2 → decode (za_tby ex) 1 = .ok (.aload_n 1, 1)
  | 0, _ => by decide +kernel
  | 1, _ => by decide +kernel
  | _ + 2, h => absurd h (by omega)
theorem zx_d2 : ∀ ex, ex < 2 → decode (za_tby ex) 2 = .ok (.invokespecial (za_tix ex), 3)
  | 0, _ => by decide +kernel
  | 1, _ => by decide +kernel
  | _ + 2, h => absurd h (by omega)
theorem zx_d5 : ∀ ex, ex < 2 → decode (za_tby ex) 5 = .ok (.return_, 1)
  | 0, _ => by decide +kernel
  | 1, _ => by decide +kernel
  | _ + 2, h => absurd h (by omega)
def za_atX (ex : Nat) : List Cond := (Bundle.ownAtomsX RX11 (za_icx ex) (za_exn ex) (za_tix ex) (za_tby ex) za_nm).filter vx_no
theorem zx_at0 : ∀ w ∈ (za_atX 0).filter goodWord, w ∈ lw_tbl := by decide +kernel
theorem zx_at1 : ∀ w ∈ (za_atX 1).filter goodWord, w ∈ lw_tbl := by decide +kernel
theorem zx_no0 : ∀ w ∈ (za_atX 0).filter (fun w => !goodWord w), w ∈ za_nw := by decide +kernel
theorem zx_no1 : ∀ w ∈ (za_atX 1).filter (fun w => !goodWord w), w ∈ za_nw := by decide +kernel
theorem zx_ot0 : ∀ w ∈ za_atX 0, vx_ot w = true := by decide +kernel
theorem zx_ot1 : ∀ w ∈ za_atX 1, vx_ot w = true := by decide +kernel
theorem zx_at : ∀ ex, ex < 2 → ∀ w ∈ (za_atX ex).filter goodWord, w ∈ lw_tbl
  | 0, _ => zx_at0
  | 1, _ => zx_at1
  | _ + 2, h => absurd h (by omega)
theorem zx_no : ∀ ex, ex < 2 → ∀ w ∈ (za_atX ex).filter (fun w => !goodWord w), w ∈ za_nw
  | 0, _ => zx_no0
  | 1, _ => zx_no1
  | _ + 2, h => absurd h (by omega)
theorem zx_ot : ∀ ex, ex < 2 → ∀ w ∈ za_atX ex, vx_ot w = true
  | 0, _ => zx_ot0
  | 1, _ => zx_ot1
  | _ + 2, h => absurd h (by omega)
theorem zn_on : ∀ {w : Cond}, za_isN w = true → w.onTables = true := by
  intro w h
  cases w <;> first | rfl | cases h
theorem zn_warm {w : Cond} {s U : State} (hi : za_isN w = true) (hW : s.WarmedH U.vm) (h : va_Nw w s) : va_Nw w U := by
  cases w <;> first | exact h.warmM hW | exact h.warmC hW | exact h.warmD hW | cases hi
theorem zx_fit : ∀ ex, ex < 2 → Bundle.fit (za_exn ex) = true := by decide +kernel
theorem zx_fitn : ∀ n ∈ za_nm, Bundle.fit n = true := by decide +kernel
theorem zx_arI : Cond.arrayClass .int ∈ za_wd := List.mem_filter.mpr ⟨List.mem_of_getElem? (i := 270) rfl, rfl⟩
theorem zx_arB : Cond.arrayClass .byte ∈ za_wd := List.mem_filter.mpr ⟨List.mem_of_getElem? (i := 268) rfl, rfl⟩
set_option maxRecDepth 20000 in
theorem zx_arZ : Cond.arrayClass .boolean ∈ za_wd := List.mem_filter.mpr ⟨List.mem_of_getElem? (i := 1646) rfl, rfl⟩
theorem zx_arJ : Cond.arrayClass .long ∈ za_wd := List.mem_filter.mpr ⟨List.mem_of_getElem? (i := 269) rfl, rfl⟩
