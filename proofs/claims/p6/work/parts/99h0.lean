/-! ===== throws; pilot ===== -/
def zm_104 : za_MI := (yX11_needWhat, prog_1_method_30_code, 2, none, 11, 1, 6, [], za_i104)
theorem zm_104_t : za_MT 104 = some zm_104 := rfl
def zm_133 : za_MI := (yX11_pilot, prog_1_method_17_code, 3, (some FieldType.int), 11, 2, 12, [], za_i133)
theorem zm_133_t : za_MT 133 = some zm_133 := rfl
def zm_134 : za_MI := (yX11_needPilot, prog_1_method_29_code, 2, none, 11, 1, 6, [], za_i134)
theorem zm_134_t : za_MT 134 = some zm_134 := rfl
section WX
variable {L : Nat} {σ : Nat → Int32} {P : zp_X → Prop} {M Y : za_MI} {fs : List zs_F} {d : Nat} {pc pc' : Nat} {lv lv' : zp_LV} {st st' : List zp_V} {H H1 : zp_H} {c c' : Nat × Nat} {i : Instr}
/-- it throws, and nothing here catches it -/
theorem zw_cthr {k j ex : Nat} {as : List zp_V} (h : za_fe (za_is M) pc = some i ∧ zp_cl (za_CP (za_cl M)) i st (H, c) = some (false, j, k, Y)) (hp : zp_pre M Y k st (H, c)) (ha : (st.take k).reverse = as) (hh : za_hnd (za_CP (za_cl M)) pc ex (za_hh M) = some none) (hC : zp_Call L σ d j as H (.inr ex, H1)) (hP : P (.inr ex, H1)) : zs_Safe L σ P M [] d (pc, lv, st, H, c) := by
  subst ha
  refine zs_sum (S := (pc, lv, st, H, c)) h.1 h.2 hp hC (fun z => Bool.noConfusion z) (Or.inr ⟨(.inr ex, H1), ?_, hP⟩)
  show (match za_hnd (za_CP (za_cl M)) pc ex (za_hh M) with
    | none => none
    | some none => some (.inr (.inr ex, H1))
    | some (some hp) => match za_fe (za_is M) hp with
      | some (.astore_n k) => bif Nat.blt k.val (za_nL M) then some (.inl (hp + 1, zp_fl lv k.val, [], H1, c.1 + za_mc Y, c.2 + za_ms Y)) else none
      | some (.astore k) => bif Nat.blt k (za_nL M) then some (.inl (hp + 2, zp_fl lv k, [], H1, c.1 + za_mc Y, c.2 + za_ms Y)) else none
      | _ => none : Option (zp_S ⊕ zp_X)) = _
  rw [hh]
/-- it throws, and that is caught here, in a local far up -/
theorem zw_cexw {k j ex hp9 k9 : Nat} {as : List zp_V} (h : za_fe (za_is M) pc = some i ∧ zp_cl (za_CP (za_cl M)) i st (H, c) = some (false, j, k, Y)) (hp : zp_pre M Y k st (H, c)) (ha : (st.take k).reverse = as) (hc : (c.1 + za_mc Y, c.2 + za_ms Y) = c') (hh : za_hnd (za_CP (za_cl M)) pc ex (za_hh M) = some (some hp9)) (hi9 : za_fe (za_is M) hp9 = some (.astore k9)) (hk9 : Nat.blt k9 (za_nL M) = true) (hpc : hp9 + 2 = pc') (hlv : zp_fl lv k9 = lv') (hC : zp_Call L σ d j as H (.inr ex, H1)) (hS : zs_Safe L σ P M fs d (pc', lv', [], H1, c')) : zs_Safe L σ P M fs d (pc, lv, st, H, c) := by
  subst ha hpc hc hlv
  refine zs_sum (S := (pc, lv, st, H, c)) h.1 h.2 hp hC (fun z => Bool.noConfusion z) (Or.inl ⟨(hp9 + 2, zp_fl lv k9, [], H1, (c.1 + za_mc Y, c.2 + za_ms Y)), ?_, hS⟩)
  show (match za_hnd (za_CP (za_cl M)) pc ex (za_hh M) with
    | none => none
    | some none => some (.inr (.inr ex, H1))
    | some (some hp) => match za_fe (za_is M) hp with
      | some (.astore_n k) => bif Nat.blt k.val (za_nL M) then some (.inl (hp + 1, zp_fl lv k.val, [], H1, c.1 + za_mc Y, c.2 + za_ms Y)) else none
      | some (.astore k) => bif Nat.blt k (za_nL M) then some (.inl (hp + 2, zp_fl lv k, [], H1, c.1 + za_mc Y, c.2 + za_ms Y)) else none
      | _ => none : Option (zp_S ⊕ zp_X)) = _
  rw [hh]
  show (match za_fe (za_is M) hp9 with
      | some (.astore_n k) => bif Nat.blt k.val (za_nL M) then some (.inl (hp9 + 1, zp_fl lv k.val, [], H1, c.1 + za_mc Y, c.2 + za_ms Y)) else none
      | some (.astore k) => bif Nat.blt k (za_nL M) then some (.inl (hp9 + 2, zp_fl lv k, [], H1, c.1 + za_mc Y, c.2 + za_ms Y)) else none
      | _ => none : Option (zp_S ⊕ zp_X)) = _
  rw [hi9]
  show (bif Nat.blt k9 (za_nL M) then some (.inl (hp9 + 2, zp_fl lv k9, [], H1, c.1 + za_mc Y, c.2 + za_ms Y)) else none : Option (zp_S ⊕ zp_X)) = _
  rw [hk9]
  rfl
end WX

theorem yw3 {x : Int32} (h : 0 ≤ x.toInt ∧ x.toInt ≤ (Int32.ofInt 2).toInt) : x = Int32.ofInt 0 ∨ x = Int32.ofInt 1 ∨ x = Int32.ofInt 2 := by
  have h2 : x.toInt ≤ 2 := h.2
  rcases (show x.toInt = 0 ∨ x.toInt = 1 ∨ x.toInt = 2 by omega) with h9 | h9 | h9
  · exact Or.inl (Int32.toInt_inj.mp h9)
  · exact Or.inr (Or.inl (Int32.toInt_inj.mp h9))
  · exact Or.inr (Or.inr (Int32.toInt_inj.mp h9))

theorem yc_nw1 {L : Nat} {σ : Nat → Int32} {d : Nat} {H : zp_H} {x y : Int32} (h : (0 ≤ x.toInt ∧ x.toInt ≤ y.toInt)) : zp_Call L σ (d + 1) 104 [.inl x, .inl y] H (.inl none, H) := by
  refine zw_ex (zw_met zm_104_t rfl rfl ?_)
  refine zw_ld (n := 1) (k := 0) (f := zp_isI) (pc' := 1) rfl rfl rfl rfl rfl ?_
  refine zw_blt1 (g := 9) (pc' := 4) rfl rfl rfl rfl (fun h1 => ?_) (fun h1 => ?_)
  · omega
  · refine zw_ld (n := 1) (k := 0) (f := zp_isI) (pc' := 5) rfl rfl rfl rfl rfl ?_
    refine zw_ld (n := 1) (k := 1) (f := zp_isI) (pc' := 6) rfl rfl rfl rfl rfl ?_
    refine zw_ble2 (g := 20) (pc' := 9) rfl rfl rfl rfl rfl (fun h2 => ?_) (fun h2 => ?_)
    · refine zw_rn rfl rfl ?_
      rfl
    · omega

theorem yc_nw0 {L : Nat} {σ : Nat → Int32} {d : Nat} {H : zp_H} {x y : Int32} (h : ¬ (0 ≤ x.toInt ∧ x.toInt ≤ y.toInt)) : zp_Call L σ (d + 1) 104 [.inl x, .inl y] H (.inr 0, H) := by
  refine zw_ex (zw_met zm_104_t rfl rfl ?_)
  refine zw_ld (n := 1) (k := 0) (f := zp_isI) (pc' := 1) rfl rfl rfl rfl rfl ?_
  refine zw_blt1 (g := 9) (pc' := 4) rfl rfl rfl rfl (fun h1 => ?_) (fun h1 => ?_)
  · exact zs_end (S := (9, _, [], H, (0, 0))) (X := (.inr 0, H)) rfl rfl rfl
  · refine zw_ld (n := 1) (k := 0) (f := zp_isI) (pc' := 5) rfl rfl rfl rfl rfl ?_
    refine zw_ld (n := 1) (k := 1) (f := zp_isI) (pc' := 6) rfl rfl rfl rfl rfl ?_
    refine zw_ble2 (g := 20) (pc' := 9) rfl rfl rfl rfl rfl (fun h2 => ?_) (fun h2 => ?_)
    · omega
    · exact zs_end (S := (9, _, [], H, (0, 0))) (X := (.inr 0, H)) rfl rfl rfl

theorem yc_np1_0 {L : Nat} {σ : Nat → Int32} {d : Nat} {H : zp_H} {x : Int32} (hB : zk_Bs (zB_c 0) zg zJc H) (h : (0 ≤ x.toInt ∧ x.toInt < (H.2.1 2 12).toInt)) : zp_Call L σ (d + 1) 134 [.inr (.inr (some 1)), .inl x] H (.inl none, H) := by
  have W := zB_Wd (zB_dn (zB_Bc hB))
  have g5 : H.2.2.2 0 5 = some 3 := hB.2.1 0 5 _ rfl
  have g6 : H.2.2.2 0 6 = some 14 := hB.2.1 0 6 _ rfl
  have g7 : H.2.2.2 0 7 = some 23 := hB.2.1 0 7 _ rfl
  have g8 : H.2.2.2 0 8 = some 34 := hB.2.1 0 8 _ rfl
  refine zw_ex (zw_met zm_134_t rfl rfl ?_)
  refine zw_ld (n := 1) (k := 1) (f := zp_isI) (pc' := 1) rfl rfl rfl rfl rfl ?_
  refine zw_blt1 (g := 15) (pc' := 4) rfl rfl rfl rfl (fun h1 => ?_) (fun h1 => ?_)
  · omega
  · refine zw_ld (n := 1) (k := 1) (f := zp_isI) (pc' := 5) rfl rfl rfl rfl rfl ?_
    refine zw_ld (n := 1) (k := 0) (f := zp_isR) (pc' := 6) rfl rfl rfl rfl rfl ?_
    refine zw_gR (q := 0) (pc' := 9) W rfl rfl rfl rfl g5 rfl ?_
    refine zw_gI (q := 2) (pc' := 12) W rfl rfl rfl rfl rfl rfl ?_
    refine zw_blt2 (g := 26) (pc' := 15) rfl rfl rfl rfl rfl (fun h2 => ?_) (fun h2 => ?_)
    · refine zw_rn rfl rfl ?_
      rfl
    · omega

theorem yc_np0_0 {L : Nat} {σ : Nat → Int32} {d : Nat} {H : zp_H} {x : Int32} (hB : zk_Bs (zB_c 0) zg zJc H) (h : ¬ (0 ≤ x.toInt ∧ x.toInt < (H.2.1 2 12).toInt)) : zp_Call L σ (d + 1) 134 [.inr (.inr (some 1)), .inl x] H (.inr 0, H) := by
  have W := zB_Wd (zB_dn (zB_Bc hB))
  have g5 : H.2.2.2 0 5 = some 3 := hB.2.1 0 5 _ rfl
  have g6 : H.2.2.2 0 6 = some 14 := hB.2.1 0 6 _ rfl
  have g7 : H.2.2.2 0 7 = some 23 := hB.2.1 0 7 _ rfl
  have g8 : H.2.2.2 0 8 = some 34 := hB.2.1 0 8 _ rfl
  refine zw_ex (zw_met zm_134_t rfl rfl ?_)
  refine zw_ld (n := 1) (k := 1) (f := zp_isI) (pc' := 1) rfl rfl rfl rfl rfl ?_
  refine zw_blt1 (g := 15) (pc' := 4) rfl rfl rfl rfl (fun h1 => ?_) (fun h1 => ?_)
  · exact zs_end (S := (15, _, [], H, (0, 0))) (X := (.inr 0, H)) rfl rfl rfl
  · refine zw_ld (n := 1) (k := 1) (f := zp_isI) (pc' := 5) rfl rfl rfl rfl rfl ?_
    refine zw_ld (n := 1) (k := 0) (f := zp_isR) (pc' := 6) rfl rfl rfl rfl rfl ?_
    refine zw_gR (q := 0) (pc' := 9) W rfl rfl rfl rfl g5 rfl ?_
    refine zw_gI (q := 2) (pc' := 12) W rfl rfl rfl rfl rfl rfl ?_
    refine zw_blt2 (g := 26) (pc' := 15) rfl rfl rfl rfl rfl (fun h2 => ?_) (fun h2 => ?_)
    · omega
    · exact zs_end (S := (15, _, [], H, (0, 0))) (X := (.inr 0, H)) rfl rfl rfl

theorem yc_np1_1 {L : Nat} {σ : Nat → Int32} {d : Nat} {H : zp_H} {x : Int32} (hB : zk_Bs (zB_c 1) zg zJc H) (h : (0 ≤ x.toInt ∧ x.toInt < (H.2.1 2 12).toInt)) : zp_Call L σ (d + 1) 134 [.inr (.inr (some 1)), .inl x] H (.inl none, H) := by
  have W := zB_Wd (zB_dn (zB_Bc hB))
  have g5 : H.2.2.2 0 5 = some 3 := hB.2.1 0 5 _ rfl
  have g6 : H.2.2.2 0 6 = some 34 := hB.2.1 0 6 _ rfl
  have g7 : H.2.2.2 0 7 = some 23 := hB.2.1 0 7 _ rfl
  have g8 : H.2.2.2 0 8 = some 14 := hB.2.1 0 8 _ rfl
  refine zw_ex (zw_met zm_134_t rfl rfl ?_)
  refine zw_ld (n := 1) (k := 1) (f := zp_isI) (pc' := 1) rfl rfl rfl rfl rfl ?_
  refine zw_blt1 (g := 15) (pc' := 4) rfl rfl rfl rfl (fun h1 => ?_) (fun h1 => ?_)
  · omega
  · refine zw_ld (n := 1) (k := 1) (f := zp_isI) (pc' := 5) rfl rfl rfl rfl rfl ?_
    refine zw_ld (n := 1) (k := 0) (f := zp_isR) (pc' := 6) rfl rfl rfl rfl rfl ?_
    refine zw_gR (q := 0) (pc' := 9) W rfl rfl rfl rfl g5 rfl ?_
    refine zw_gI (q := 2) (pc' := 12) W rfl rfl rfl rfl rfl rfl ?_
    refine zw_blt2 (g := 26) (pc' := 15) rfl rfl rfl rfl rfl (fun h2 => ?_) (fun h2 => ?_)
    · refine zw_rn rfl rfl ?_
      rfl
    · omega

theorem yc_np0_1 {L : Nat} {σ : Nat → Int32} {d : Nat} {H : zp_H} {x : Int32} (hB : zk_Bs (zB_c 1) zg zJc H) (h : ¬ (0 ≤ x.toInt ∧ x.toInt < (H.2.1 2 12).toInt)) : zp_Call L σ (d + 1) 134 [.inr (.inr (some 1)), .inl x] H (.inr 0, H) := by
  have W := zB_Wd (zB_dn (zB_Bc hB))
  have g5 : H.2.2.2 0 5 = some 3 := hB.2.1 0 5 _ rfl
  have g6 : H.2.2.2 0 6 = some 34 := hB.2.1 0 6 _ rfl
  have g7 : H.2.2.2 0 7 = some 23 := hB.2.1 0 7 _ rfl
  have g8 : H.2.2.2 0 8 = some 14 := hB.2.1 0 8 _ rfl
  refine zw_ex (zw_met zm_134_t rfl rfl ?_)
  refine zw_ld (n := 1) (k := 1) (f := zp_isI) (pc' := 1) rfl rfl rfl rfl rfl ?_
  refine zw_blt1 (g := 15) (pc' := 4) rfl rfl rfl rfl (fun h1 => ?_) (fun h1 => ?_)
  · exact zs_end (S := (15, _, [], H, (0, 0))) (X := (.inr 0, H)) rfl rfl rfl
  · refine zw_ld (n := 1) (k := 1) (f := zp_isI) (pc' := 5) rfl rfl rfl rfl rfl ?_
    refine zw_ld (n := 1) (k := 0) (f := zp_isR) (pc' := 6) rfl rfl rfl rfl rfl ?_
    refine zw_gR (q := 0) (pc' := 9) W rfl rfl rfl rfl g5 rfl ?_
    refine zw_gI (q := 2) (pc' := 12) W rfl rfl rfl rfl rfl rfl ?_
    refine zw_blt2 (g := 26) (pc' := 15) rfl rfl rfl rfl rfl (fun h2 => ?_) (fun h2 => ?_)
    · omega
    · exact zs_end (S := (15, _, [], H, (0, 0))) (X := (.inr 0, H)) rfl rfl rfl

theorem yc_np1_2 {L : Nat} {σ : Nat → Int32} {d : Nat} {H : zp_H} {x : Int32} (hB : zk_Bs (zB_c 2) zg zJc H) (h : (0 ≤ x.toInt ∧ x.toInt < (H.2.1 22 12).toInt)) : zp_Call L σ (d + 1) 134 [.inr (.inr (some 1)), .inl x] H (.inl none, H) := by
  have W := zB_Wd (zB_dn (zB_Bc hB))
  have g5 : H.2.2.2 0 5 = some 23 := hB.2.1 0 5 _ rfl
  have g6 : H.2.2.2 0 6 = some 14 := hB.2.1 0 6 _ rfl
  have g7 : H.2.2.2 0 7 = some 3 := hB.2.1 0 7 _ rfl
  have g8 : H.2.2.2 0 8 = some 34 := hB.2.1 0 8 _ rfl
  refine zw_ex (zw_met zm_134_t rfl rfl ?_)
  refine zw_ld (n := 1) (k := 1) (f := zp_isI) (pc' := 1) rfl rfl rfl rfl rfl ?_
  refine zw_blt1 (g := 15) (pc' := 4) rfl rfl rfl rfl (fun h1 => ?_) (fun h1 => ?_)
  · omega
  · refine zw_ld (n := 1) (k := 1) (f := zp_isI) (pc' := 5) rfl rfl rfl rfl rfl ?_
    refine zw_ld (n := 1) (k := 0) (f := zp_isR) (pc' := 6) rfl rfl rfl rfl rfl ?_
    refine zw_gR (q := 0) (pc' := 9) W rfl rfl rfl rfl g5 rfl ?_
    refine zw_gI (q := 22) (pc' := 12) W rfl rfl rfl rfl rfl rfl ?_
    refine zw_blt2 (g := 26) (pc' := 15) rfl rfl rfl rfl rfl (fun h2 => ?_) (fun h2 => ?_)
    · refine zw_rn rfl rfl ?_
      rfl
    · omega

theorem yc_np0_2 {L : Nat} {σ : Nat → Int32} {d : Nat} {H : zp_H} {x : Int32} (hB : zk_Bs (zB_c 2) zg zJc H) (h : ¬ (0 ≤ x.toInt ∧ x.toInt < (H.2.1 22 12).toInt)) : zp_Call L σ (d + 1) 134 [.inr (.inr (some 1)), .inl x] H (.inr 0, H) := by
  have W := zB_Wd (zB_dn (zB_Bc hB))
  have g5 : H.2.2.2 0 5 = some 23 := hB.2.1 0 5 _ rfl
  have g6 : H.2.2.2 0 6 = some 14 := hB.2.1 0 6 _ rfl
  have g7 : H.2.2.2 0 7 = some 3 := hB.2.1 0 7 _ rfl
  have g8 : H.2.2.2 0 8 = some 34 := hB.2.1 0 8 _ rfl
  refine zw_ex (zw_met zm_134_t rfl rfl ?_)
  refine zw_ld (n := 1) (k := 1) (f := zp_isI) (pc' := 1) rfl rfl rfl rfl rfl ?_
  refine zw_blt1 (g := 15) (pc' := 4) rfl rfl rfl rfl (fun h1 => ?_) (fun h1 => ?_)
  · exact zs_end (S := (15, _, [], H, (0, 0))) (X := (.inr 0, H)) rfl rfl rfl
  · refine zw_ld (n := 1) (k := 1) (f := zp_isI) (pc' := 5) rfl rfl rfl rfl rfl ?_
    refine zw_ld (n := 1) (k := 0) (f := zp_isR) (pc' := 6) rfl rfl rfl rfl rfl ?_
    refine zw_gR (q := 0) (pc' := 9) W rfl rfl rfl rfl g5 rfl ?_
    refine zw_gI (q := 22) (pc' := 12) W rfl rfl rfl rfl rfl rfl ?_
    refine zw_blt2 (g := 26) (pc' := 15) rfl rfl rfl rfl rfl (fun h2 => ?_) (fun h2 => ?_)
    · omega
    · exact zs_end (S := (15, _, [], H, (0, 0))) (X := (.inr 0, H)) rfl rfl rfl

theorem yc_np1_3 {L : Nat} {σ : Nat → Int32} {d : Nat} {H : zp_H} {x : Int32} (hB : zk_Bs (zB_c 3) zg zJc H) (h : (0 ≤ x.toInt ∧ x.toInt < (H.2.1 22 12).toInt)) : zp_Call L σ (d + 1) 134 [.inr (.inr (some 1)), .inl x] H (.inl none, H) := by
  have W := zB_Wd (zB_dn (zB_Bc hB))
  have g5 : H.2.2.2 0 5 = some 23 := hB.2.1 0 5 _ rfl
  have g6 : H.2.2.2 0 6 = some 34 := hB.2.1 0 6 _ rfl
  have g7 : H.2.2.2 0 7 = some 3 := hB.2.1 0 7 _ rfl
  have g8 : H.2.2.2 0 8 = some 14 := hB.2.1 0 8 _ rfl
  refine zw_ex (zw_met zm_134_t rfl rfl ?_)
  refine zw_ld (n := 1) (k := 1) (f := zp_isI) (pc' := 1) rfl rfl rfl rfl rfl ?_
  refine zw_blt1 (g := 15) (pc' := 4) rfl rfl rfl rfl (fun h1 => ?_) (fun h1 => ?_)
  · omega
  · refine zw_ld (n := 1) (k := 1) (f := zp_isI) (pc' := 5) rfl rfl rfl rfl rfl ?_
    refine zw_ld (n := 1) (k := 0) (f := zp_isR) (pc' := 6) rfl rfl rfl rfl rfl ?_
    refine zw_gR (q := 0) (pc' := 9) W rfl rfl rfl rfl g5 rfl ?_
    refine zw_gI (q := 22) (pc' := 12) W rfl rfl rfl rfl rfl rfl ?_
    refine zw_blt2 (g := 26) (pc' := 15) rfl rfl rfl rfl rfl (fun h2 => ?_) (fun h2 => ?_)
    · refine zw_rn rfl rfl ?_
      rfl
    · omega

theorem yc_np0_3 {L : Nat} {σ : Nat → Int32} {d : Nat} {H : zp_H} {x : Int32} (hB : zk_Bs (zB_c 3) zg zJc H) (h : ¬ (0 ≤ x.toInt ∧ x.toInt < (H.2.1 22 12).toInt)) : zp_Call L σ (d + 1) 134 [.inr (.inr (some 1)), .inl x] H (.inr 0, H) := by
  have W := zB_Wd (zB_dn (zB_Bc hB))
  have g5 : H.2.2.2 0 5 = some 23 := hB.2.1 0 5 _ rfl
  have g6 : H.2.2.2 0 6 = some 34 := hB.2.1 0 6 _ rfl
  have g7 : H.2.2.2 0 7 = some 3 := hB.2.1 0 7 _ rfl
  have g8 : H.2.2.2 0 8 = some 14 := hB.2.1 0 8 _ rfl
  refine zw_ex (zw_met zm_134_t rfl rfl ?_)
  refine zw_ld (n := 1) (k := 1) (f := zp_isI) (pc' := 1) rfl rfl rfl rfl rfl ?_
  refine zw_blt1 (g := 15) (pc' := 4) rfl rfl rfl rfl (fun h1 => ?_) (fun h1 => ?_)
  · exact zs_end (S := (15, _, [], H, (0, 0))) (X := (.inr 0, H)) rfl rfl rfl
  · refine zw_ld (n := 1) (k := 1) (f := zp_isI) (pc' := 5) rfl rfl rfl rfl rfl ?_
    refine zw_ld (n := 1) (k := 0) (f := zp_isR) (pc' := 6) rfl rfl rfl rfl rfl ?_
    refine zw_gR (q := 0) (pc' := 9) W rfl rfl rfl rfl g5 rfl ?_
    refine zw_gI (q := 22) (pc' := 12) W rfl rfl rfl rfl rfl rfl ?_
    refine zw_blt2 (g := 26) (pc' := 15) rfl rfl rfl rfl rfl (fun h2 => ?_) (fun h2 => ?_)
    · omega
    · exact zs_end (S := (15, _, [], H, (0, 0))) (X := (.inr 0, H)) rfl rfl rfl

theorem yc_pil0 {L : Nat} {σ : Nat → Int32} {d : Nat} {H : zp_H} {x1 x2 : Int32} (hB : zk_Bs (zB_c 0) zg zJc H) (hp : 0 ≤ x1.toInt ∧ x1.toInt < (H.2.1 2 12).toInt) (hw : 0 ≤ x2.toInt ∧ x2.toInt ≤ (Int32.ofInt 2).toInt) : zp_Call L σ (d + 2) 133 [.inr (.inr (some 1)), .inl x1, .inl x2] H (.inl (some (.inl (H.2.1 (7 + x2.toInt.toNat) x1.toInt.toNat))), H) := by
  have W := zB_Wd (zB_dn (zB_Bc hB))
  have g5 : H.2.2.2 0 5 = some 3 := hB.2.1 0 5 _ rfl
  have g6 : H.2.2.2 0 6 = some 14 := hB.2.1 0 6 _ rfl
  have g7 : H.2.2.2 0 7 = some 23 := hB.2.1 0 7 _ rfl
  have g8 : H.2.2.2 0 8 = some 34 := hB.2.1 0 8 _ rfl
  have r12 := zB_fr1 (zB_dn (zB_Bc hB)) (p := 2) (k := 12) (r := (0, 4)) rfl
  have r12 : 0 ≤ (H.2.1 2 12).toInt ∧ (H.2.1 2 12).toInt ≤ 4 := r12
  refine zw_ex (zw_met zm_133_t rfl rfl ?_)
  refine zw_ld (n := 1) (k := 0) (f := zp_isR) (pc' := 1) rfl rfl rfl rfl rfl ?_
  refine zw_ld (n := 1) (k := 1) (f := zp_isI) (pc' := 2) rfl rfl rfl rfl rfl ?_
  refine zw_ctn (pc' := 5) (c' := (1, 6)) (zw_cv (q := 0) (Y := zm_134) W.1 rfl rfl zm_134_t rfl rfl) (zw_pb_ok rfl) rfl rfl rfl rfl (yc_np1_0 hB hp) ?_
  refine zw_ld (n := 1) (k := 2) (f := zp_isI) (pc' := 6) rfl rfl rfl rfl rfl ?_
  refine zw_s (pc' := 7) rfl rfl ?_
  refine zw_ctn (pc' := 10) (c' := (2, 12)) (zw_cs (Y := zm_104) rfl rfl zm_104_t) (zw_pb_ok rfl) rfl rfl rfl rfl (yc_nw1 hw) ?_
  rcases (show x2 = Int32.ofInt 0 ∨ x2 = Int32.ofInt 1 ∨ x2 = Int32.ofInt 2 from yw3 hw) with rfl | rfl | rfl
  · refine zw_ld (n := 1) (k := 2) (f := zp_isI) (pc' := 11) rfl rfl rfl rfl rfl ?_
    refine zw_s (pc' := 36) rfl rfl ?_
    refine zw_ld (n := 1) (k := 0) (f := zp_isR) (pc' := 37) rfl rfl rfl rfl rfl ?_
    refine zw_gR (q := 0) (pc' := 40) W rfl rfl rfl rfl g5 rfl ?_
    refine zw_gR (q := 2) (pc' := 43) W rfl rfl rfl rfl (W.2 2 13 _ rfl) rfl ?_
    refine zw_ld (n := 1) (k := 1) (f := zp_isI) (pc' := 44) rfl rfl rfl rfl rfl ?_
    refine zw_ia (q := 7) (pc' := 45) W rfl rfl (by decide) (⟨hp.1, by show _ < ((4 : Nat) : Int); omega⟩) rfl rfl ?_
    refine zw_rig rfl rfl ⟨by decide, by decide⟩ ?_
    rfl
  · refine zw_ld (n := 1) (k := 2) (f := zp_isI) (pc' := 11) rfl rfl rfl rfl rfl ?_
    refine zw_s (pc' := 46) rfl rfl ?_
    refine zw_ld (n := 1) (k := 0) (f := zp_isR) (pc' := 47) rfl rfl rfl rfl rfl ?_
    refine zw_gR (q := 0) (pc' := 50) W rfl rfl rfl rfl g5 rfl ?_
    refine zw_gR (q := 2) (pc' := 53) W rfl rfl rfl rfl (W.2 2 14 _ rfl) rfl ?_
    refine zw_ld (n := 1) (k := 1) (f := zp_isI) (pc' := 54) rfl rfl rfl rfl rfl ?_
    refine zw_ia (q := 8) (pc' := 55) W rfl rfl (by decide) (⟨hp.1, by show _ < ((4 : Nat) : Int); omega⟩) rfl rfl ?_
    refine zw_rig rfl rfl ⟨by decide, by decide⟩ ?_
    rfl
  · refine zw_ld (n := 1) (k := 2) (f := zp_isI) (pc' := 11) rfl rfl rfl rfl rfl ?_
    refine zw_s (pc' := 56) rfl rfl ?_
    refine zw_ld (n := 1) (k := 0) (f := zp_isR) (pc' := 57) rfl rfl rfl rfl rfl ?_
    refine zw_gR (q := 0) (pc' := 60) W rfl rfl rfl rfl g5 rfl ?_
    refine zw_gR (q := 2) (pc' := 63) W rfl rfl rfl rfl (W.2 2 15 _ rfl) rfl ?_
    refine zw_ld (n := 1) (k := 1) (f := zp_isI) (pc' := 64) rfl rfl rfl rfl rfl ?_
    refine zw_ia (q := 9) (pc' := 65) W rfl rfl (by decide) (⟨hp.1, by show _ < ((4 : Nat) : Int); omega⟩) rfl rfl ?_
    refine zw_rig rfl rfl ⟨by decide, by decide⟩ ?_
    rfl

theorem yc_pin0 {L : Nat} {σ : Nat → Int32} {d : Nat} {H : zp_H} {x1 x2 : Int32} (hB : zk_Bs (zB_c 0) zg zJc H) (h : ¬ ((0 ≤ x1.toInt ∧ x1.toInt < (H.2.1 2 12).toInt) ∧ 0 ≤ x2.toInt ∧ x2.toInt ≤ (Int32.ofInt 2).toInt)) : zp_Call L σ (d + 2) 133 [.inr (.inr (some 1)), .inl x1, .inl x2] H (.inr 0, H) := by
  have W := zB_Wd (zB_dn (zB_Bc hB))
  have g5 : H.2.2.2 0 5 = some 3 := hB.2.1 0 5 _ rfl
  have g6 : H.2.2.2 0 6 = some 14 := hB.2.1 0 6 _ rfl
  have g7 : H.2.2.2 0 7 = some 23 := hB.2.1 0 7 _ rfl
  have g8 : H.2.2.2 0 8 = some 34 := hB.2.1 0 8 _ rfl
  refine zw_ex (zw_met zm_133_t rfl rfl ?_)
  refine zw_ld (n := 1) (k := 0) (f := zp_isR) (pc' := 1) rfl rfl rfl rfl rfl ?_
  refine zw_ld (n := 1) (k := 1) (f := zp_isI) (pc' := 2) rfl rfl rfl rfl rfl ?_
  by_cases hp : 0 ≤ x1.toInt ∧ x1.toInt < (H.2.1 2 12).toInt
  · refine zw_ctn (pc' := 5) (c' := (1, 6)) (zw_cv (q := 0) (Y := zm_134) W.1 rfl rfl zm_134_t rfl rfl) (zw_pb_ok rfl) rfl rfl rfl rfl (yc_np1_0 hB hp) ?_
    refine zw_ld (n := 1) (k := 2) (f := zp_isI) (pc' := 6) rfl rfl rfl rfl rfl ?_
    refine zw_s (pc' := 7) rfl rfl ?_
    refine zw_cthr (ex := 0) (zw_cs (Y := zm_104) rfl rfl zm_104_t) (zw_pb_ok rfl) rfl rfl (yc_nw0 (fun h9 => h ⟨hp, h9⟩)) ?_
    rfl
  · refine zw_cthr (ex := 0) (zw_cv (q := 0) (Y := zm_134) W.1 rfl rfl zm_134_t rfl rfl) (zw_pb_ok rfl) rfl rfl (yc_np0_0 hB hp) ?_
    rfl

theorem yc_pil1 {L : Nat} {σ : Nat → Int32} {d : Nat} {H : zp_H} {x1 x2 : Int32} (hB : zk_Bs (zB_c 1) zg zJc H) (hp : 0 ≤ x1.toInt ∧ x1.toInt < (H.2.1 2 12).toInt) (hw : 0 ≤ x2.toInt ∧ x2.toInt ≤ (Int32.ofInt 2).toInt) : zp_Call L σ (d + 2) 133 [.inr (.inr (some 1)), .inl x1, .inl x2] H (.inl (some (.inl (H.2.1 (7 + x2.toInt.toNat) x1.toInt.toNat))), H) := by
  have W := zB_Wd (zB_dn (zB_Bc hB))
  have g5 : H.2.2.2 0 5 = some 3 := hB.2.1 0 5 _ rfl
  have g6 : H.2.2.2 0 6 = some 34 := hB.2.1 0 6 _ rfl
  have g7 : H.2.2.2 0 7 = some 23 := hB.2.1 0 7 _ rfl
  have g8 : H.2.2.2 0 8 = some 14 := hB.2.1 0 8 _ rfl
  have r12 := zB_fr1 (zB_dn (zB_Bc hB)) (p := 2) (k := 12) (r := (0, 4)) rfl
  have r12 : 0 ≤ (H.2.1 2 12).toInt ∧ (H.2.1 2 12).toInt ≤ 4 := r12
  refine zw_ex (zw_met zm_133_t rfl rfl ?_)
  refine zw_ld (n := 1) (k := 0) (f := zp_isR) (pc' := 1) rfl rfl rfl rfl rfl ?_
  refine zw_ld (n := 1) (k := 1) (f := zp_isI) (pc' := 2) rfl rfl rfl rfl rfl ?_
  refine zw_ctn (pc' := 5) (c' := (1, 6)) (zw_cv (q := 0) (Y := zm_134) W.1 rfl rfl zm_134_t rfl rfl) (zw_pb_ok rfl) rfl rfl rfl rfl (yc_np1_1 hB hp) ?_
  refine zw_ld (n := 1) (k := 2) (f := zp_isI) (pc' := 6) rfl rfl rfl rfl rfl ?_
  refine zw_s (pc' := 7) rfl rfl ?_
  refine zw_ctn (pc' := 10) (c' := (2, 12)) (zw_cs (Y := zm_104) rfl rfl zm_104_t) (zw_pb_ok rfl) rfl rfl rfl rfl (yc_nw1 hw) ?_
  rcases (show x2 = Int32.ofInt 0 ∨ x2 = Int32.ofInt 1 ∨ x2 = Int32.ofInt 2 from yw3 hw) with rfl | rfl | rfl
  · refine zw_ld (n := 1) (k := 2) (f := zp_isI) (pc' := 11) rfl rfl rfl rfl rfl ?_
    refine zw_s (pc' := 36) rfl rfl ?_
    refine zw_ld (n := 1) (k := 0) (f := zp_isR) (pc' := 37) rfl rfl rfl rfl rfl ?_
    refine zw_gR (q := 0) (pc' := 40) W rfl rfl rfl rfl g5 rfl ?_
    refine zw_gR (q := 2) (pc' := 43) W rfl rfl rfl rfl (W.2 2 13 _ rfl) rfl ?_
    refine zw_ld (n := 1) (k := 1) (f := zp_isI) (pc' := 44) rfl rfl rfl rfl rfl ?_
    refine zw_ia (q := 7) (pc' := 45) W rfl rfl (by decide) (⟨hp.1, by show _ < ((4 : Nat) : Int); omega⟩) rfl rfl ?_
    refine zw_rig rfl rfl ⟨by decide, by decide⟩ ?_
    rfl
  · refine zw_ld (n := 1) (k := 2) (f := zp_isI) (pc' := 11) rfl rfl rfl rfl rfl ?_
    refine zw_s (pc' := 46) rfl rfl ?_
    refine zw_ld (n := 1) (k := 0) (f := zp_isR) (pc' := 47) rfl rfl rfl rfl rfl ?_
    refine zw_gR (q := 0) (pc' := 50) W rfl rfl rfl rfl g5 rfl ?_
    refine zw_gR (q := 2) (pc' := 53) W rfl rfl rfl rfl (W.2 2 14 _ rfl) rfl ?_
    refine zw_ld (n := 1) (k := 1) (f := zp_isI) (pc' := 54) rfl rfl rfl rfl rfl ?_
    refine zw_ia (q := 8) (pc' := 55) W rfl rfl (by decide) (⟨hp.1, by show _ < ((4 : Nat) : Int); omega⟩) rfl rfl ?_
    refine zw_rig rfl rfl ⟨by decide, by decide⟩ ?_
    rfl
  · refine zw_ld (n := 1) (k := 2) (f := zp_isI) (pc' := 11) rfl rfl rfl rfl rfl ?_
    refine zw_s (pc' := 56) rfl rfl ?_
    refine zw_ld (n := 1) (k := 0) (f := zp_isR) (pc' := 57) rfl rfl rfl rfl rfl ?_
    refine zw_gR (q := 0) (pc' := 60) W rfl rfl rfl rfl g5 rfl ?_
    refine zw_gR (q := 2) (pc' := 63) W rfl rfl rfl rfl (W.2 2 15 _ rfl) rfl ?_
    refine zw_ld (n := 1) (k := 1) (f := zp_isI) (pc' := 64) rfl rfl rfl rfl rfl ?_
    refine zw_ia (q := 9) (pc' := 65) W rfl rfl (by decide) (⟨hp.1, by show _ < ((4 : Nat) : Int); omega⟩) rfl rfl ?_
    refine zw_rig rfl rfl ⟨by decide, by decide⟩ ?_
    rfl

theorem yc_pin1 {L : Nat} {σ : Nat → Int32} {d : Nat} {H : zp_H} {x1 x2 : Int32} (hB : zk_Bs (zB_c 1) zg zJc H) (h : ¬ ((0 ≤ x1.toInt ∧ x1.toInt < (H.2.1 2 12).toInt) ∧ 0 ≤ x2.toInt ∧ x2.toInt ≤ (Int32.ofInt 2).toInt)) : zp_Call L σ (d + 2) 133 [.inr (.inr (some 1)), .inl x1, .inl x2] H (.inr 0, H) := by
  have W := zB_Wd (zB_dn (zB_Bc hB))
  have g5 : H.2.2.2 0 5 = some 3 := hB.2.1 0 5 _ rfl
  have g6 : H.2.2.2 0 6 = some 34 := hB.2.1 0 6 _ rfl
  have g7 : H.2.2.2 0 7 = some 23 := hB.2.1 0 7 _ rfl
  have g8 : H.2.2.2 0 8 = some 14 := hB.2.1 0 8 _ rfl
  refine zw_ex (zw_met zm_133_t rfl rfl ?_)
  refine zw_ld (n := 1) (k := 0) (f := zp_isR) (pc' := 1) rfl rfl rfl rfl rfl ?_
  refine zw_ld (n := 1) (k := 1) (f := zp_isI) (pc' := 2) rfl rfl rfl rfl rfl ?_
  by_cases hp : 0 ≤ x1.toInt ∧ x1.toInt < (H.2.1 2 12).toInt
  · refine zw_ctn (pc' := 5) (c' := (1, 6)) (zw_cv (q := 0) (Y := zm_134) W.1 rfl rfl zm_134_t rfl rfl) (zw_pb_ok rfl) rfl rfl rfl rfl (yc_np1_1 hB hp) ?_
    refine zw_ld (n := 1) (k := 2) (f := zp_isI) (pc' := 6) rfl rfl rfl rfl rfl ?_
    refine zw_s (pc' := 7) rfl rfl ?_
    refine zw_cthr (ex := 0) (zw_cs (Y := zm_104) rfl rfl zm_104_t) (zw_pb_ok rfl) rfl rfl (yc_nw0 (fun h9 => h ⟨hp, h9⟩)) ?_
    rfl
  · refine zw_cthr (ex := 0) (zw_cv (q := 0) (Y := zm_134) W.1 rfl rfl zm_134_t rfl rfl) (zw_pb_ok rfl) rfl rfl (yc_np0_1 hB hp) ?_
    rfl

theorem yc_pil2 {L : Nat} {σ : Nat → Int32} {d : Nat} {H : zp_H} {x1 x2 : Int32} (hB : zk_Bs (zB_c 2) zg zJc H) (hp : 0 ≤ x1.toInt ∧ x1.toInt < (H.2.1 22 12).toInt) (hw : 0 ≤ x2.toInt ∧ x2.toInt ≤ (Int32.ofInt 2).toInt) : zp_Call L σ (d + 2) 133 [.inr (.inr (some 1)), .inl x1, .inl x2] H (.inl (some (.inl (H.2.1 (27 + x2.toInt.toNat) x1.toInt.toNat))), H) := by
  have W := zB_Wd (zB_dn (zB_Bc hB))
  have g5 : H.2.2.2 0 5 = some 23 := hB.2.1 0 5 _ rfl
  have g6 : H.2.2.2 0 6 = some 14 := hB.2.1 0 6 _ rfl
  have g7 : H.2.2.2 0 7 = some 3 := hB.2.1 0 7 _ rfl
  have g8 : H.2.2.2 0 8 = some 34 := hB.2.1 0 8 _ rfl
  have r12 := zB_fr1 (zB_dn (zB_Bc hB)) (p := 22) (k := 12) (r := (0, 4)) rfl
  have r12 : 0 ≤ (H.2.1 22 12).toInt ∧ (H.2.1 22 12).toInt ≤ 4 := r12
  refine zw_ex (zw_met zm_133_t rfl rfl ?_)
  refine zw_ld (n := 1) (k := 0) (f := zp_isR) (pc' := 1) rfl rfl rfl rfl rfl ?_
  refine zw_ld (n := 1) (k := 1) (f := zp_isI) (pc' := 2) rfl rfl rfl rfl rfl ?_
  refine zw_ctn (pc' := 5) (c' := (1, 6)) (zw_cv (q := 0) (Y := zm_134) W.1 rfl rfl zm_134_t rfl rfl) (zw_pb_ok rfl) rfl rfl rfl rfl (yc_np1_2 hB hp) ?_
  refine zw_ld (n := 1) (k := 2) (f := zp_isI) (pc' := 6) rfl rfl rfl rfl rfl ?_
  refine zw_s (pc' := 7) rfl rfl ?_
  refine zw_ctn (pc' := 10) (c' := (2, 12)) (zw_cs (Y := zm_104) rfl rfl zm_104_t) (zw_pb_ok rfl) rfl rfl rfl rfl (yc_nw1 hw) ?_
  rcases (show x2 = Int32.ofInt 0 ∨ x2 = Int32.ofInt 1 ∨ x2 = Int32.ofInt 2 from yw3 hw) with rfl | rfl | rfl
  · refine zw_ld (n := 1) (k := 2) (f := zp_isI) (pc' := 11) rfl rfl rfl rfl rfl ?_
    refine zw_s (pc' := 36) rfl rfl ?_
    refine zw_ld (n := 1) (k := 0) (f := zp_isR) (pc' := 37) rfl rfl rfl rfl rfl ?_
    refine zw_gR (q := 0) (pc' := 40) W rfl rfl rfl rfl g5 rfl ?_
    refine zw_gR (q := 22) (pc' := 43) W rfl rfl rfl rfl (W.2 22 13 _ rfl) rfl ?_
    refine zw_ld (n := 1) (k := 1) (f := zp_isI) (pc' := 44) rfl rfl rfl rfl rfl ?_
    refine zw_ia (q := 27) (pc' := 45) W rfl rfl (by decide) (⟨hp.1, by show _ < ((4 : Nat) : Int); omega⟩) rfl rfl ?_
    refine zw_rig rfl rfl ⟨by decide, by decide⟩ ?_
    rfl
  · refine zw_ld (n := 1) (k := 2) (f := zp_isI) (pc' := 11) rfl rfl rfl rfl rfl ?_
    refine zw_s (pc' := 46) rfl rfl ?_
    refine zw_ld (n := 1) (k := 0) (f := zp_isR) (pc' := 47) rfl rfl rfl rfl rfl ?_
    refine zw_gR (q := 0) (pc' := 50) W rfl rfl rfl rfl g5 rfl ?_
    refine zw_gR (q := 22) (pc' := 53) W rfl rfl rfl rfl (W.2 22 14 _ rfl) rfl ?_
    refine zw_ld (n := 1) (k := 1) (f := zp_isI) (pc' := 54) rfl rfl rfl rfl rfl ?_
    refine zw_ia (q := 28) (pc' := 55) W rfl rfl (by decide) (⟨hp.1, by show _ < ((4 : Nat) : Int); omega⟩) rfl rfl ?_
    refine zw_rig rfl rfl ⟨by decide, by decide⟩ ?_
    rfl
  · refine zw_ld (n := 1) (k := 2) (f := zp_isI) (pc' := 11) rfl rfl rfl rfl rfl ?_
    refine zw_s (pc' := 56) rfl rfl ?_
    refine zw_ld (n := 1) (k := 0) (f := zp_isR) (pc' := 57) rfl rfl rfl rfl rfl ?_
    refine zw_gR (q := 0) (pc' := 60) W rfl rfl rfl rfl g5 rfl ?_
    refine zw_gR (q := 22) (pc' := 63) W rfl rfl rfl rfl (W.2 22 15 _ rfl) rfl ?_
    refine zw_ld (n := 1) (k := 1) (f := zp_isI) (pc' := 64) rfl rfl rfl rfl rfl ?_
    refine zw_ia (q := 29) (pc' := 65) W rfl rfl (by decide) (⟨hp.1, by show _ < ((4 : Nat) : Int); omega⟩) rfl rfl ?_
    refine zw_rig rfl rfl ⟨by decide, by decide⟩ ?_
    rfl

theorem yc_pin2 {L : Nat} {σ : Nat → Int32} {d : Nat} {H : zp_H} {x1 x2 : Int32} (hB : zk_Bs (zB_c 2) zg zJc H) (h : ¬ ((0 ≤ x1.toInt ∧ x1.toInt < (H.2.1 22 12).toInt) ∧ 0 ≤ x2.toInt ∧ x2.toInt ≤ (Int32.ofInt 2).toInt)) : zp_Call L σ (d + 2) 133 [.inr (.inr (some 1)), .inl x1, .inl x2] H (.inr 0, H) := by
  have W := zB_Wd (zB_dn (zB_Bc hB))
  have g5 : H.2.2.2 0 5 = some 23 := hB.2.1 0 5 _ rfl
  have g6 : H.2.2.2 0 6 = some 14 := hB.2.1 0 6 _ rfl
  have g7 : H.2.2.2 0 7 = some 3 := hB.2.1 0 7 _ rfl
  have g8 : H.2.2.2 0 8 = some 34 := hB.2.1 0 8 _ rfl
  refine zw_ex (zw_met zm_133_t rfl rfl ?_)
  refine zw_ld (n := 1) (k := 0) (f := zp_isR) (pc' := 1) rfl rfl rfl rfl rfl ?_
  refine zw_ld (n := 1) (k := 1) (f := zp_isI) (pc' := 2) rfl rfl rfl rfl rfl ?_
  by_cases hp : 0 ≤ x1.toInt ∧ x1.toInt < (H.2.1 22 12).toInt
  · refine zw_ctn (pc' := 5) (c' := (1, 6)) (zw_cv (q := 0) (Y := zm_134) W.1 rfl rfl zm_134_t rfl rfl) (zw_pb_ok rfl) rfl rfl rfl rfl (yc_np1_2 hB hp) ?_
    refine zw_ld (n := 1) (k := 2) (f := zp_isI) (pc' := 6) rfl rfl rfl rfl rfl ?_
    refine zw_s (pc' := 7) rfl rfl ?_
    refine zw_cthr (ex := 0) (zw_cs (Y := zm_104) rfl rfl zm_104_t) (zw_pb_ok rfl) rfl rfl (yc_nw0 (fun h9 => h ⟨hp, h9⟩)) ?_
    rfl
  · refine zw_cthr (ex := 0) (zw_cv (q := 0) (Y := zm_134) W.1 rfl rfl zm_134_t rfl rfl) (zw_pb_ok rfl) rfl rfl (yc_np0_2 hB hp) ?_
    rfl

theorem yc_pil3 {L : Nat} {σ : Nat → Int32} {d : Nat} {H : zp_H} {x1 x2 : Int32} (hB : zk_Bs (zB_c 3) zg zJc H) (hp : 0 ≤ x1.toInt ∧ x1.toInt < (H.2.1 22 12).toInt) (hw : 0 ≤ x2.toInt ∧ x2.toInt ≤ (Int32.ofInt 2).toInt) : zp_Call L σ (d + 2) 133 [.inr (.inr (some 1)), .inl x1, .inl x2] H (.inl (some (.inl (H.2.1 (27 + x2.toInt.toNat) x1.toInt.toNat))), H) := by
  have W := zB_Wd (zB_dn (zB_Bc hB))
  have g5 : H.2.2.2 0 5 = some 23 := hB.2.1 0 5 _ rfl
  have g6 : H.2.2.2 0 6 = some 34 := hB.2.1 0 6 _ rfl
  have g7 : H.2.2.2 0 7 = some 3 := hB.2.1 0 7 _ rfl
  have g8 : H.2.2.2 0 8 = some 14 := hB.2.1 0 8 _ rfl
  have r12 := zB_fr1 (zB_dn (zB_Bc hB)) (p := 22) (k := 12) (r := (0, 4)) rfl
  have r12 : 0 ≤ (H.2.1 22 12).toInt ∧ (H.2.1 22 12).toInt ≤ 4 := r12
  refine zw_ex (zw_met zm_133_t rfl rfl ?_)
  refine zw_ld (n := 1) (k := 0) (f := zp_isR) (pc' := 1) rfl rfl rfl rfl rfl ?_
  refine zw_ld (n := 1) (k := 1) (f := zp_isI) (pc' := 2) rfl rfl rfl rfl rfl ?_
  refine zw_ctn (pc' := 5) (c' := (1, 6)) (zw_cv (q := 0) (Y := zm_134) W.1 rfl rfl zm_134_t rfl rfl) (zw_pb_ok rfl) rfl rfl rfl rfl (yc_np1_3 hB hp) ?_
  refine zw_ld (n := 1) (k := 2) (f := zp_isI) (pc' := 6) rfl rfl rfl rfl rfl ?_
  refine zw_s (pc' := 7) rfl rfl ?_
  refine zw_ctn (pc' := 10) (c' := (2, 12)) (zw_cs (Y := zm_104) rfl rfl zm_104_t) (zw_pb_ok rfl) rfl rfl rfl rfl (yc_nw1 hw) ?_
  rcases (show x2 = Int32.ofInt 0 ∨ x2 = Int32.ofInt 1 ∨ x2 = Int32.ofInt 2 from yw3 hw) with rfl | rfl | rfl
  · refine zw_ld (n := 1) (k := 2) (f := zp_isI) (pc' := 11) rfl rfl rfl rfl rfl ?_
    refine zw_s (pc' := 36) rfl rfl ?_
    refine zw_ld (n := 1) (k := 0) (f := zp_isR) (pc' := 37) rfl rfl rfl rfl rfl ?_
    refine zw_gR (q := 0) (pc' := 40) W rfl rfl rfl rfl g5 rfl ?_
    refine zw_gR (q := 22) (pc' := 43) W rfl rfl rfl rfl (W.2 22 13 _ rfl) rfl ?_
    refine zw_ld (n := 1) (k := 1) (f := zp_isI) (pc' := 44) rfl rfl rfl rfl rfl ?_
    refine zw_ia (q := 27) (pc' := 45) W rfl rfl (by decide) (⟨hp.1, by show _ < ((4 : Nat) : Int); omega⟩) rfl rfl ?_
    refine zw_rig rfl rfl ⟨by decide, by decide⟩ ?_
    rfl
  · refine zw_ld (n := 1) (k := 2) (f := zp_isI) (pc' := 11) rfl rfl rfl rfl rfl ?_
    refine zw_s (pc' := 46) rfl rfl ?_
    refine zw_ld (n := 1) (k := 0) (f := zp_isR) (pc' := 47) rfl rfl rfl rfl rfl ?_
    refine zw_gR (q := 0) (pc' := 50) W rfl rfl rfl rfl g5 rfl ?_
    refine zw_gR (q := 22) (pc' := 53) W rfl rfl rfl rfl (W.2 22 14 _ rfl) rfl ?_
    refine zw_ld (n := 1) (k := 1) (f := zp_isI) (pc' := 54) rfl rfl rfl rfl rfl ?_
    refine zw_ia (q := 28) (pc' := 55) W rfl rfl (by decide) (⟨hp.1, by show _ < ((4 : Nat) : Int); omega⟩) rfl rfl ?_
    refine zw_rig rfl rfl ⟨by decide, by decide⟩ ?_
    rfl
  · refine zw_ld (n := 1) (k := 2) (f := zp_isI) (pc' := 11) rfl rfl rfl rfl rfl ?_
    refine zw_s (pc' := 56) rfl rfl ?_
    refine zw_ld (n := 1) (k := 0) (f := zp_isR) (pc' := 57) rfl rfl rfl rfl rfl ?_
    refine zw_gR (q := 0) (pc' := 60) W rfl rfl rfl rfl g5 rfl ?_
    refine zw_gR (q := 22) (pc' := 63) W rfl rfl rfl rfl (W.2 22 15 _ rfl) rfl ?_
    refine zw_ld (n := 1) (k := 1) (f := zp_isI) (pc' := 64) rfl rfl rfl rfl rfl ?_
    refine zw_ia (q := 29) (pc' := 65) W rfl rfl (by decide) (⟨hp.1, by show _ < ((4 : Nat) : Int); omega⟩) rfl rfl ?_
    refine zw_rig rfl rfl ⟨by decide, by decide⟩ ?_
    rfl

theorem yc_pin3 {L : Nat} {σ : Nat → Int32} {d : Nat} {H : zp_H} {x1 x2 : Int32} (hB : zk_Bs (zB_c 3) zg zJc H) (h : ¬ ((0 ≤ x1.toInt ∧ x1.toInt < (H.2.1 22 12).toInt) ∧ 0 ≤ x2.toInt ∧ x2.toInt ≤ (Int32.ofInt 2).toInt)) : zp_Call L σ (d + 2) 133 [.inr (.inr (some 1)), .inl x1, .inl x2] H (.inr 0, H) := by
  have W := zB_Wd (zB_dn (zB_Bc hB))
  have g5 : H.2.2.2 0 5 = some 23 := hB.2.1 0 5 _ rfl
  have g6 : H.2.2.2 0 6 = some 34 := hB.2.1 0 6 _ rfl
  have g7 : H.2.2.2 0 7 = some 3 := hB.2.1 0 7 _ rfl
  have g8 : H.2.2.2 0 8 = some 14 := hB.2.1 0 8 _ rfl
  refine zw_ex (zw_met zm_133_t rfl rfl ?_)
  refine zw_ld (n := 1) (k := 0) (f := zp_isR) (pc' := 1) rfl rfl rfl rfl rfl ?_
  refine zw_ld (n := 1) (k := 1) (f := zp_isI) (pc' := 2) rfl rfl rfl rfl rfl ?_
  by_cases hp : 0 ≤ x1.toInt ∧ x1.toInt < (H.2.1 22 12).toInt
  · refine zw_ctn (pc' := 5) (c' := (1, 6)) (zw_cv (q := 0) (Y := zm_134) W.1 rfl rfl zm_134_t rfl rfl) (zw_pb_ok rfl) rfl rfl rfl rfl (yc_np1_3 hB hp) ?_
    refine zw_ld (n := 1) (k := 2) (f := zp_isI) (pc' := 6) rfl rfl rfl rfl rfl ?_
    refine zw_s (pc' := 7) rfl rfl ?_
    refine zw_cthr (ex := 0) (zw_cs (Y := zm_104) rfl rfl zm_104_t) (zw_pb_ok rfl) rfl rfl (yc_nw0 (fun h9 => h ⟨hp, h9⟩)) ?_
    rfl
  · refine zw_cthr (ex := 0) (zw_cv (q := 0) (Y := zm_134) W.1 rfl rfl zm_134_t rfl rfl) (zw_pb_ok rfl) rfl rfl (yc_np0_3 hB hp) ?_
    rfl
