/-! ===== throws, bits; cell ===== -/
def zm_32 : za_MI := (yX10_isRock, prog_12_method_7_code, 2, (some FieldType.boolean), 10, 0, 0, [], za_i32)
theorem zm_32_t : za_MT 32 = some zm_32 := rfl
def zm_102 : za_MI := (yL_cell, method_5_code, 5, (some FieldType.int), 13, 2, 12, [(0, 10, 13, 18)], za_i102)
theorem zm_102_t : za_MT 102 = some zm_102 := rfl
def zm_103 : za_MI := (yX11_cell, prog_1_method_8_code, 3, (some FieldType.int), 11, 2, 12, [], za_i103)
theorem zm_103_t : za_MT 103 = some zm_103 := rfl
def zm_104 : za_MI := (yX11_needWhat, prog_1_method_30_code, 2, none, 11, 1, 6, [], za_i104)
theorem zm_104_t : za_MT 104 = some zm_104 := rfl
def zm_105 : za_MI := (yX10_cells, prog_12_method_4_code, 1, (some FieldType.int), 10, 0, 0, [], za_i105)
theorem zm_105_t : za_MT 105 = some zm_105 := rfl
def zm_207 : za_MI := (yX12_cell, prog_14_method_48_code, 3, (some FieldType.int), 12, 0, 0, [], za_i207)
theorem zm_207_t : za_MT 207 = some zm_207 := rfl
def zm_208 : za_MI := (yX12_isWhat, prog_14_method_47_code, 3, (some FieldType.boolean), 12, 0, 0, [], za_i208)
theorem zm_208_t : za_MT 208 = some zm_208 := rfl
section WX
variable {L : Nat} {σ : Nat → Int32} {P : zp_X → Prop} {M Y : za_MI} {fs : List zs_F} {d : Nat} {pc pc' : Nat} {lv lv' : zp_LV} {st st' : List zp_V} {H H1 : zp_H} {c c' : Nat × Nat} {i : Instr}
/-- it throws, and nothing here catches it -/
theorem zw_cthr {k j ex : Nat} {as : List zp_V} (h : za_fe (za_is M) pc = some i ∧ zp_cl (za_CP (za_cl M)) i st (H, c) = some (false, j, k, Y)) (hp : zp_pre M Y k st (H, c)) (ha : (st.take k).reverse = as) (hh : za_hnd (za_CP (za_cl M)) pc ex (za_hh M) = some none) (hC : zp_Call L σ d j as H (.inr ex, H1)) (hP : P (.inr ex, H1)) : zs_Safe L σ P M [] d (pc, lv, st, H, c) := by
  subst ha
  refine zs_sum (S := (pc, lv, st, H, c)) h.1 h.2 hp hC (fun z => Bool.noConfusion z) (Or.inr ⟨(.inr ex, H1), ?_, hP⟩)
  show (match za_hnd (za_CP (za_cl M)) pc ex (za_hh M) with
    | none => none
    | some none => some (.inr (.inr ex, H1))
    | some (some hp) => match za_fe (za_is M) hp with
      | some (.astore_n k) => bif Nat.blt k.val (za_nL M) then some (.inl (hp + 1, zp_fl lv k.val, [], H1, c.1 + za_mc Y, c.2 + za_ms Y)) else none
      | some (.astore k) => bif Nat.blt k (za_nL M) then some (.inl (hp + 2, zp_fl lv k, [], H1, c.1 + za_mc Y, c.2 + za_ms Y)) else none
      | _ => none : Option (zp_S ⊕ zp_X)) = _
  rw [hh]
/-- it throws, and that is caught here, in a local far up -/
theorem zw_cexw {k j ex hp9 k9 : Nat} {as : List zp_V} (h : za_fe (za_is M) pc = some i ∧ zp_cl (za_CP (za_cl M)) i st (H, c) = some (false, j, k, Y)) (hp : zp_pre M Y k st (H, c)) (ha : (st.take k).reverse = as) (hc : (c.1 + za_mc Y, c.2 + za_ms Y) = c') (hh : za_hnd (za_CP (za_cl M)) pc ex (za_hh M) = some (some hp9)) (hi9 : za_fe (za_is M) hp9 = some (.astore k9)) (hk9 : Nat.blt k9 (za_nL M) = true) (hpc : hp9 + 2 = pc') (hlv : zp_fl lv k9 = lv') (hC : zp_Call L σ d j as H (.inr ex, H1)) (hS : zs_Safe L σ P M fs d (pc', lv', [], H1, c')) : zs_Safe L σ P M fs d (pc, lv, st, H, c) := by
  subst ha hpc hc hlv
  refine zs_sum (S := (pc, lv, st, H, c)) h.1 h.2 hp hC (fun z => Bool.noConfusion z) (Or.inl ⟨(hp9 + 2, zp_fl lv k9, [], H1, (c.1 + za_mc Y, c.2 + za_ms Y)), ?_, hS⟩)
  show (match za_hnd (za_CP (za_cl M)) pc ex (za_hh M) with
    | none => none
    | some none => some (.inr (.inr ex, H1))
    | some (some hp) => match za_fe (za_is M) hp with
      | some (.astore_n k) => bif Nat.blt k.val (za_nL M) then some (.inl (hp + 1, zp_fl lv k.val, [], H1, c.1 + za_mc Y, c.2 + za_ms Y)) else none
      | some (.astore k) => bif Nat.blt k (za_nL M) then some (.inl (hp + 2, zp_fl lv k, [], H1, c.1 + za_mc Y, c.2 + za_ms Y)) else none
      | _ => none : Option (zp_S ⊕ zp_X)) = _
  rw [hh]
  show (match za_fe (za_is M) hp9 with
      | some (.astore_n k) => bif Nat.blt k.val (za_nL M) then some (.inl (hp9 + 1, zp_fl lv k.val, [], H1, c.1 + za_mc Y, c.2 + za_ms Y)) else none
      | some (.astore k) => bif Nat.blt k (za_nL M) then some (.inl (hp9 + 2, zp_fl lv k, [], H1, c.1 + za_mc Y, c.2 + za_ms Y)) else none
      | _ => none : Option (zp_S ⊕ zp_X)) = _
  rw [hi9]
  show (bif Nat.blt k9 (za_nL M) then some (.inl (hp9 + 2, zp_fl lv k9, [], H1, c.1 + za_mc Y, c.2 + za_ms Y)) else none : Option (zp_S ⊕ zp_X)) = _
  rw [hk9]
  rfl
end WX


theorem y_scu : ∀ k, k < 64 → ((Int32.ofInt ((k : Nat) : Int)).toInt64.toUInt64 &&& Int64.toUInt64 63).toNat % 64 = k := by decide +kernel
/-- bit k of a long -/
def yTb (r : Int64) (k : Nat) : Bool := r.toBitVec.toNat.testBit k
theorem yv01 {v : Int64} {b : Bool} (h : v.toBitVec.toNat = if b = true then 1 else 0) : v = if b = true then Int64.ofNat 1 else Int64.ofNat 0 := by
  rw [← Int64.toBitVec_inj, ← BitVec.toNat_inj, h]
  cases b <;> rfl
theorem yan1 {v : Int64} : (v &&& Int64.ofNat 1).toBitVec.toNat = v.toBitVec.toNat % 2 := by
  rw [yN_and]
  exact Nat.and_two_pow_sub_one_eq_mod _ 1
theorem yodd {n : Nat} {b : Bool} (h : decide (n % 2 = 1) = b) : n % 2 = if b = true then 1 else 0 := by
  rw [← h]
  by_cases h9 : n % 2 = 1
  · rw [if_pos (decide_eq_true h9)]
    exact h9
  · rw [if_neg (by rw [decide_eq_false h9]; decide)]
    omega
theorem y_ush {r : Int64} {c : Int32} (hc : 0 ≤ c.toInt ∧ c.toInt ≤ 63) : za_ushr0 r c &&& Int64.ofNat 1 = if yTb r c.toInt.toNat = true then Int64.ofNat 1 else Int64.ofNat 0 := by
  have e : c = Int32.ofInt ((c.toInt.toNat : Nat) : Int) := by rw [show ((c.toInt.toNat : Nat) : Int) = c.toInt by omega, Int32.ofInt_toInt]
  refine yv01 ?_
  rw [yan1]
  refine yodd ?_
  have h1 : (za_ushr0 r c).toBitVec.toNat = r.toBitVec.toNat / 2 ^ c.toInt.toNat := by
    refine yN_ushr (m := c.toInt.toNat) ?_ rfl
    have h2 := y_scu c.toInt.toNat (by omega)
    rw [← e] at h2
    exact h2
  rw [h1, ← Nat.shiftRight_eq_div_pow, ← Nat.testBit_zero, Nat.testBit_shiftRight]
  rfl
theorem y_shv {r : Int64} {c : Int32} (hc : 0 ≤ c.toInt ∧ c.toInt ≤ 63) : za_shr0 r c &&& Int64.ofNat 1 = if yTb r c.toInt.toNat = true then Int64.ofNat 1 else Int64.ofNat 0 := by
  have e : c = Int32.ofInt ((c.toInt.toNat : Nat) : Int) := by rw [show ((c.toInt.toNat : Nat) : Int) = c.toInt by omega, Int32.ofInt_toInt]
  have h1 := y_shr0 (r := r) (k := c.toInt.toNat) (by omega)
  rw [← e] at h1
  have h3 : ∀ b, yTb r c.toInt.toNat = b → za_shr0 r c &&& Int64.ofNat 1 = if b = true then Int64.ofNat 1 else Int64.ofNat 0 := by
    intro b hb
    cases b with
    | true => exact h1.mpr hb
    | false =>
      refine yv01 ?_
      rw [yan1]
      have h4 : ¬ (za_shr0 r c).toBitVec.toNat % 2 = 1 := fun h9 => by
        have h5 : za_shr0 r c &&& Int64.ofNat 1 = Int64.ofNat 1 := yv01 (b := true) (by rw [yan1, h9]; rfl)
        have h6 := h1.mp h5
        have h7 : yTb r c.toInt.toNat = true := h6
        rw [hb] at h7
        cases h7
      show _ = 0
      omega
  exact h3 _ rfl
theorem yT_0 {r : Int64} {c : Int32} (hc : 0 ≤ c.toInt ∧ c.toInt ≤ 63) (h : (lg_cmp (za_ushr0 r c &&& Int64.ofNat 1) (Int64.ofNat 0)).toInt = 0) : yTb r c.toInt.toNat = false := by
  have h1 := y_cmp.mp h
  rw [y_ush hc] at h1
  revert h1
  cases yTb r c.toInt.toNat <;> decide
theorem yT_1 {r : Int64} {c : Int32} (hc : 0 ≤ c.toInt ∧ c.toInt ≤ 63) (h : ¬ (lg_cmp (za_ushr0 r c &&& Int64.ofNat 1) (Int64.ofNat 0)).toInt = 0) : yTb r c.toInt.toNat = true := by
  cases hb : yTb r c.toInt.toNat with
  | true => rfl
  | false => exact absurd (y_cmp.mpr (by rw [y_ush hc, hb]; rfl)) h
theorem yif0 {b : Bool} (h : (if b = true then Int32.ofInt 1 else Int32.ofInt 0).toInt = 0) : b = false := by
  revert h
  cases b <;> decide
theorem yif1 {b : Bool} (h : ¬ (if b = true then Int32.ofInt 1 else Int32.ofInt 0).toInt = 0) : b = true := by
  revert h
  cases b <;> decide
/-- W by H cells are at most 64 -/
theorem y64 {a b x : Int32} (ha : 2 ≤ a.toInt ∧ a.toInt ≤ 8) (hb : 2 ≤ b.toInt ∧ b.toInt ≤ 8) : (a * b).toInt = a.toInt * b.toInt ∧ a.toInt * b.toInt ≤ 64 := by
  have h1 : a.toInt * b.toInt ≤ 64 := by
    have h2 : a.toInt * b.toInt ≤ 8 * 8 := Int.mul_le_mul ha.2 hb.2 (by omega) (by omega)
    omega
  have h0 : 0 ≤ a.toInt * b.toInt := Int.mul_nonneg (by omega) (by omega)
  refine ⟨?_, h1⟩
  rw [Int32.toInt_mul]
  exact Int.bmod_eq_of_le (by omega) (by omega)

theorem yc_nw1 {L : Nat} {σ : Nat → Int32} {d : Nat} {H : zp_H} {x y : Int32} (h : (0 ≤ x.toInt ∧ x.toInt ≤ y.toInt)) : zp_Call L σ (d + 1) 104 [.inl x, .inl y] H (.inl none, H) := by
  refine zw_ex (zw_met zm_104_t rfl rfl ?_)
  refine zw_ld (n := 1) (k := 0) (f := zp_isI) (pc' := 1) rfl rfl rfl rfl rfl ?_
  refine zw_blt1 (g := 9) (pc' := 4) rfl rfl rfl rfl (fun h1 => ?_) (fun h1 => ?_)
  · omega
  · refine zw_ld (n := 1) (k := 0) (f := zp_isI) (pc' := 5) rfl rfl rfl rfl rfl ?_
    refine zw_ld (n := 1) (k := 1) (f := zp_isI) (pc' := 6) rfl rfl rfl rfl rfl ?_
    refine zw_ble2 (g := 20) (pc' := 9) rfl rfl rfl rfl rfl (fun h2 => ?_) (fun h2 => ?_)
    · refine zw_rn rfl rfl ?_
      rfl
    · omega

theorem yc_nw0 {L : Nat} {σ : Nat → Int32} {d : Nat} {H : zp_H} {x y : Int32} (h : ¬ (0 ≤ x.toInt ∧ x.toInt ≤ y.toInt)) : zp_Call L σ (d + 1) 104 [.inl x, .inl y] H (.inr 0, H) := by
  refine zw_ex (zw_met zm_104_t rfl rfl ?_)
  refine zw_ld (n := 1) (k := 0) (f := zp_isI) (pc' := 1) rfl rfl rfl rfl rfl ?_
  refine zw_blt1 (g := 9) (pc' := 4) rfl rfl rfl rfl (fun h1 => ?_) (fun h1 => ?_)
  · exact zs_end (S := (9, _, [], H, (0, 0))) (X := (.inr 0, H)) rfl rfl rfl
  · refine zw_ld (n := 1) (k := 0) (f := zp_isI) (pc' := 5) rfl rfl rfl rfl rfl ?_
    refine zw_ld (n := 1) (k := 1) (f := zp_isI) (pc' := 6) rfl rfl rfl rfl rfl ?_
    refine zw_ble2 (g := 20) (pc' := 9) rfl rfl rfl rfl rfl (fun h2 => ?_) (fun h2 => ?_)
    · omega
    · exact zs_end (S := (9, _, [], H, (0, 0))) (X := (.inr 0, H)) rfl rfl rfl

theorem yc_isr2 {L : Nat} {σ : Nat → Int32} {d : Nat} {H : zp_H} (W : zw_W H) {x : Int32} (hc : 0 ≤ x.toInt ∧ x.toInt ≤ 63) : zp_Call L σ (d + 1) 32 [.inr (.inr (some 3)), .inl x] H (.inl (some (.inl (if yTb (H.2.2.1 2 3) x.toInt.toNat = true then Int32.ofInt 1 else Int32.ofInt 0))), H) := by
  refine zw_ex (zw_met zm_32_t rfl rfl ?_)
  refine zw_ld (n := 1) (k := 0) (f := zp_isR) (pc' := 1) rfl rfl rfl rfl rfl ?_
  refine zw_gL (q := 2) (pc' := 4) W rfl rfl rfl rfl rfl ?_
  refine zw_ld (n := 1) (k := 1) (f := zp_isI) (pc' := 5) rfl rfl rfl rfl rfl ?_
  refine zw_lushr (pc' := 6) rfl rfl ?_
  refine zw_s (pc' := 7) rfl rfl ?_
  refine zw_land (pc' := 8) rfl rfl ?_
  refine zw_s (pc' := 9) rfl rfl ?_
  refine zw_s (pc' := 10) rfl rfl ?_
  refine zw_beq1 (g := 17) (pc' := 13) rfl rfl rfl rfl (fun h1 => ?_) (fun h1 => ?_)
  · refine zw_s (pc' := 18) rfl rfl ?_
    refine zw_rz rfl rfl (by decide) ?_
    rw [yT_0 hc h1]
    rfl
  · refine zw_s (pc' := 14) rfl rfl ?_
    refine zw_s (pc' := 18) rfl rfl ?_
    refine zw_rz rfl rfl (by decide) ?_
    rw [yT_1 hc h1]
    rfl

theorem yc_cells2 {L : Nat} {σ : Nat → Int32} {d : Nat} {H : zp_H} (W : zw_W H) : zp_Call L σ (d + 1) 105 [.inr (.inr (some 3))] H (.inl (some (.inl (H.2.1 2 0 * H.2.1 2 1))), H) := by
  refine zw_ex (zw_met zm_105_t rfl rfl ?_)
  refine zw_ld (n := 1) (k := 0) (f := zp_isR) (pc' := 1) rfl rfl rfl rfl rfl ?_
  refine zw_gI (q := 2) (pc' := 4) W rfl rfl rfl rfl rfl rfl ?_
  refine zw_ld (n := 1) (k := 0) (f := zp_isR) (pc' := 5) rfl rfl rfl rfl rfl ?_
  refine zw_gI (q := 2) (pc' := 8) W rfl rfl rfl rfl rfl rfl ?_
  refine zw_imul (pc' := 9) rfl rfl ?_
  refine zw_ri rfl rfl ?_
  rfl

theorem yc_isr22 {L : Nat} {σ : Nat → Int32} {d : Nat} {H : zp_H} (W : zw_W H) {x : Int32} (hc : 0 ≤ x.toInt ∧ x.toInt ≤ 63) : zp_Call L σ (d + 1) 32 [.inr (.inr (some 23)), .inl x] H (.inl (some (.inl (if yTb (H.2.2.1 22 3) x.toInt.toNat = true then Int32.ofInt 1 else Int32.ofInt 0))), H) := by
  refine zw_ex (zw_met zm_32_t rfl rfl ?_)
  refine zw_ld (n := 1) (k := 0) (f := zp_isR) (pc' := 1) rfl rfl rfl rfl rfl ?_
  refine zw_gL (q := 22) (pc' := 4) W rfl rfl rfl rfl rfl ?_
  refine zw_ld (n := 1) (k := 1) (f := zp_isI) (pc' := 5) rfl rfl rfl rfl rfl ?_
  refine zw_lushr (pc' := 6) rfl rfl ?_
  refine zw_s (pc' := 7) rfl rfl ?_
  refine zw_land (pc' := 8) rfl rfl ?_
  refine zw_s (pc' := 9) rfl rfl ?_
  refine zw_s (pc' := 10) rfl rfl ?_
  refine zw_beq1 (g := 17) (pc' := 13) rfl rfl rfl rfl (fun h1 => ?_) (fun h1 => ?_)
  · refine zw_s (pc' := 18) rfl rfl ?_
    refine zw_rz rfl rfl (by decide) ?_
    rw [yT_0 hc h1]
    rfl
  · refine zw_s (pc' := 14) rfl rfl ?_
    refine zw_s (pc' := 18) rfl rfl ?_
    refine zw_rz rfl rfl (by decide) ?_
    rw [yT_1 hc h1]
    rfl

theorem yc_cells22 {L : Nat} {σ : Nat → Int32} {d : Nat} {H : zp_H} (W : zw_W H) : zp_Call L σ (d + 1) 105 [.inr (.inr (some 23))] H (.inl (some (.inl (H.2.1 22 0 * H.2.1 22 1))), H) := by
  refine zw_ex (zw_met zm_105_t rfl rfl ?_)
  refine zw_ld (n := 1) (k := 0) (f := zp_isR) (pc' := 1) rfl rfl rfl rfl rfl ?_
  refine zw_gI (q := 22) (pc' := 4) W rfl rfl rfl rfl rfl rfl ?_
  refine zw_ld (n := 1) (k := 0) (f := zp_isR) (pc' := 5) rfl rfl rfl rfl rfl ?_
  refine zw_gI (q := 22) (pc' := 8) W rfl rfl rfl rfl rfl rfl ?_
  refine zw_imul (pc' := 9) rfl rfl ?_
  refine zw_ri rfl rfl ?_
  rfl

theorem yc_cell0_0 {L : Nat} {σ : Nat → Int32} {d : Nat} {H : zp_H} {x1 : Int32} (hB : zk_Bs (zB_c 0) zg zJc H) (hx : 0 ≤ x1.toInt ∧ x1.toInt < (H.2.1 2 0 * H.2.1 2 1).toInt) : zp_Call L σ (d + 2) 103 [.inr (.inr (some 1)), .inl x1, .inl (Int32.ofInt 0)] H (.inl (some (.inl (if yTb (H.2.2.1 2 3) x1.toInt.toNat = true then Int32.ofInt 1 else Int32.ofInt 0))), H) := by
  have W := zB_Wd (zB_dn (zB_Bc hB))
  have g5 : H.2.2.2 0 5 = some 3 := hB.2.1 0 5 _ rfl
  have g6 : H.2.2.2 0 6 = some 14 := hB.2.1 0 6 _ rfl
  have g7 : H.2.2.2 0 7 = some 23 := hB.2.1 0 7 _ rfl
  have g8 : H.2.2.2 0 8 = some 34 := hB.2.1 0 8 _ rfl
  have r2_0 := zB_fr1 (zB_dn (zB_Bc hB)) (p := 2) (k := 0) (r := (2, 8)) rfl
  have r2_0 : 2 ≤ (H.2.1 2 0).toInt ∧ (H.2.1 2 0).toInt ≤ 8 := r2_0
  have r2_1 := zB_fr1 (zB_dn (zB_Bc hB)) (p := 2) (k := 1) (r := (2, 8)) rfl
  have r2_1 : 2 ≤ (H.2.1 2 1).toInt ∧ (H.2.1 2 1).toInt ≤ 8 := r2_1
  have e64 := y64 (x := x1) r2_0 r2_1
  refine zw_ex (zw_met zm_103_t rfl rfl ?_)
  refine zw_ld (n := 1) (k := 2) (f := zp_isI) (pc' := 1) rfl rfl rfl rfl rfl ?_
  refine zw_s (pc' := 2) rfl rfl ?_
  refine zw_ctn (pc' := 5) (c' := (1, 6)) (zw_cs (Y := zm_104) rfl rfl zm_104_t) (zw_pb_ok rfl) rfl rfl rfl rfl (yc_nw1 ⟨by decide, by decide⟩) ?_
  refine zw_ld (n := 1) (k := 1) (f := zp_isI) (pc' := 6) rfl rfl rfl rfl rfl ?_
  refine zw_blt1 (g := 20) (pc' := 9) rfl rfl rfl rfl (fun h1 => ?_) (fun h1 => ?_)
  · omega
  · refine zw_ld (n := 1) (k := 1) (f := zp_isI) (pc' := 10) rfl rfl rfl rfl rfl ?_
    refine zw_ld (n := 1) (k := 0) (f := zp_isR) (pc' := 11) rfl rfl rfl rfl rfl ?_
    refine zw_gR (q := 0) (pc' := 14) W rfl rfl rfl rfl g5 rfl ?_
    refine zw_c (pc' := 17) (zw_cv (q := 2) (Y := zm_105) W.1 rfl rfl zm_105_t rfl rfl) rfl rfl rfl rfl rfl (yc_cells2 W) ?_
    refine zw_blt2 (g := 30) (pc' := 20) rfl rfl rfl rfl rfl (fun h2 => ?_) (fun h2 => ?_)
    · refine zw_ld (n := 1) (k := 2) (f := zp_isI) (pc' := 31) rfl rfl rfl rfl rfl ?_
      refine zw_bne1 (g := 51) (pc' := 34) rfl rfl rfl (rfl : _ = (0 : Int)) (fun h9 => absurd h9 (by decide)) (fun h3 => ?_)
      refine zw_ld (n := 1) (k := 0) (f := zp_isR) (pc' := 35) rfl rfl rfl rfl rfl ?_
      refine zw_gR (q := 0) (pc' := 38) W rfl rfl rfl rfl g5 rfl ?_
      refine zw_ld (n := 1) (k := 1) (f := zp_isI) (pc' := 39) rfl rfl rfl rfl rfl ?_
      refine zw_c (pc' := 42) (zw_cv (q := 2) (Y := zm_32) W.1 rfl rfl zm_32_t rfl rfl) rfl rfl rfl rfl rfl (yc_isr2 W ⟨hx.1, by omega⟩) ?_
      refine zw_beq1 (g := 49) (pc' := 45) rfl rfl rfl rfl (fun h4 => ?_) (fun h4 => ?_)
      · refine zw_s (pc' := 50) rfl rfl ?_
        refine zw_rig rfl rfl ⟨by decide, by decide⟩ ?_
        rw [yif0 h4]
        rfl
      · refine zw_s (pc' := 46) rfl rfl ?_
        refine zw_s (pc' := 50) rfl rfl ?_
        refine zw_rig rfl rfl ⟨by decide, by decide⟩ ?_
        rw [yif1 h4]
        rfl
    · omega

theorem yl_cell0_0 {L : Nat} {σ : Nat → Int32} {d : Nat} {H : zp_H} {x1 : Int32} (hB : zk_Bs (zB_c 0) zg zJc H) (hx : 0 ≤ x1.toInt ∧ x1.toInt < (H.2.1 2 0 * H.2.1 2 1).toInt) : zp_Call L σ (d + 3) 102 [.inr (.inr (some 1)), .inl x1, .inl (Int32.ofInt 0), .inr (.inr (some 105))] H (.inl (some (.inl (Int32.ofInt 0))), zw_J H 104 0 (if yTb (H.2.2.1 2 3) x1.toInt.toNat = true then Int32.ofInt 1 else Int32.ofInt 0).toInt64) := by
  have W := zB_Wd (zB_dn (zB_Bc hB))
  refine zw_ex (zw_met zm_102_t rfl rfl ?_)
  refine zw_ld (n := 1) (k := 3) (f := zp_isR) (pc' := 1) rfl rfl rfl rfl rfl ?_
  refine zw_s (pc' := 2) rfl rfl ?_
  refine zw_ld (n := 1) (k := 0) (f := zp_isR) (pc' := 3) rfl rfl rfl rfl rfl ?_
  refine zw_ld (n := 1) (k := 1) (f := zp_isI) (pc' := 4) rfl rfl rfl rfl rfl ?_
  refine zw_ld (n := 1) (k := 2) (f := zp_isI) (pc' := 5) rfl rfl rfl rfl rfl ?_
  refine zw_ct (pc' := 8) (c' := (2, 12)) (zw_cv (q := 0) (Y := zm_103) W.1 rfl rfl zm_103_t rfl rfl) (zw_pb_ok rfl) rfl rfl rfl rfl (yc_cell0_0 hB hx) ?_
  refine zw_s (pc' := 9) rfl rfl ?_
  refine zw_ls (q := 104) (pc' := 10) W rfl rfl (⟨by decide, by decide⟩) rfl ?_
  refine zw_s (pc' := 17) rfl rfl ?_
  refine zw_s (pc' := 18) rfl rfl ?_
  refine zw_rig rfl rfl ⟨by decide, by decide⟩ ?_
  rfl

theorem yc_cell0_1 {L : Nat} {σ : Nat → Int32} {d : Nat} {H : zp_H} {x1 : Int32} (hB : zk_Bs (zB_c 0) zg zJc H) (hx : 0 ≤ x1.toInt ∧ x1.toInt < (H.2.1 2 0 * H.2.1 2 1).toInt) : zp_Call L σ (d + 2) 103 [.inr (.inr (some 1)), .inl x1, .inl (Int32.ofInt 1)] H (.inl (some (.inl (H.2.1 4 x1.toInt.toNat))), H) := by
  have W := zB_Wd (zB_dn (zB_Bc hB))
  have g5 : H.2.2.2 0 5 = some 3 := hB.2.1 0 5 _ rfl
  have g6 : H.2.2.2 0 6 = some 14 := hB.2.1 0 6 _ rfl
  have g7 : H.2.2.2 0 7 = some 23 := hB.2.1 0 7 _ rfl
  have g8 : H.2.2.2 0 8 = some 34 := hB.2.1 0 8 _ rfl
  have r2_0 := zB_fr1 (zB_dn (zB_Bc hB)) (p := 2) (k := 0) (r := (2, 8)) rfl
  have r2_0 : 2 ≤ (H.2.1 2 0).toInt ∧ (H.2.1 2 0).toInt ≤ 8 := r2_0
  have r2_1 := zB_fr1 (zB_dn (zB_Bc hB)) (p := 2) (k := 1) (r := (2, 8)) rfl
  have r2_1 : 2 ≤ (H.2.1 2 1).toInt ∧ (H.2.1 2 1).toInt ≤ 8 := r2_1
  have e64 := y64 (x := x1) r2_0 r2_1
  refine zw_ex (zw_met zm_103_t rfl rfl ?_)
  refine zw_ld (n := 1) (k := 2) (f := zp_isI) (pc' := 1) rfl rfl rfl rfl rfl ?_
  refine zw_s (pc' := 2) rfl rfl ?_
  refine zw_ctn (pc' := 5) (c' := (1, 6)) (zw_cs (Y := zm_104) rfl rfl zm_104_t) (zw_pb_ok rfl) rfl rfl rfl rfl (yc_nw1 ⟨by decide, by decide⟩) ?_
  refine zw_ld (n := 1) (k := 1) (f := zp_isI) (pc' := 6) rfl rfl rfl rfl rfl ?_
  refine zw_blt1 (g := 20) (pc' := 9) rfl rfl rfl rfl (fun h1 => ?_) (fun h1 => ?_)
  · omega
  · refine zw_ld (n := 1) (k := 1) (f := zp_isI) (pc' := 10) rfl rfl rfl rfl rfl ?_
    refine zw_ld (n := 1) (k := 0) (f := zp_isR) (pc' := 11) rfl rfl rfl rfl rfl ?_
    refine zw_gR (q := 0) (pc' := 14) W rfl rfl rfl rfl g5 rfl ?_
    refine zw_c (pc' := 17) (zw_cv (q := 2) (Y := zm_105) W.1 rfl rfl zm_105_t rfl rfl) rfl rfl rfl rfl rfl (yc_cells2 W) ?_
    refine zw_blt2 (g := 30) (pc' := 20) rfl rfl rfl rfl rfl (fun h2 => ?_) (fun h2 => ?_)
    · refine zw_ld (n := 1) (k := 2) (f := zp_isI) (pc' := 31) rfl rfl rfl rfl rfl ?_
      refine zw_bne1 (g := 51) (pc' := 34) rfl rfl rfl (rfl : _ = (1 : Int)) (fun h3 => ?_) (fun h9 => absurd h9 (by decide))
      refine zw_ld (n := 1) (k := 0) (f := zp_isR) (pc' := 52) rfl rfl rfl rfl rfl ?_
      refine zw_gR (q := 0) (pc' := 55) W rfl rfl rfl rfl g5 rfl ?_
      refine zw_gR (q := 2) (pc' := 58) W rfl rfl rfl rfl (W.2 2 5 _ rfl) rfl ?_
      refine zw_ld (n := 1) (k := 1) (f := zp_isI) (pc' := 59) rfl rfl rfl rfl rfl ?_
      refine zw_ia (q := 4) (pc' := 60) W rfl rfl (by decide) (⟨hx.1, by show _ < ((64 : Nat) : Int); omega⟩) rfl rfl ?_
      refine zw_rig rfl rfl ⟨by decide, by decide⟩ ?_
      rfl
    · omega

theorem yl_cell0_1 {L : Nat} {σ : Nat → Int32} {d : Nat} {H : zp_H} {x1 : Int32} (hB : zk_Bs (zB_c 0) zg zJc H) (hx : 0 ≤ x1.toInt ∧ x1.toInt < (H.2.1 2 0 * H.2.1 2 1).toInt) : zp_Call L σ (d + 3) 102 [.inr (.inr (some 1)), .inl x1, .inl (Int32.ofInt 1), .inr (.inr (some 105))] H (.inl (some (.inl (Int32.ofInt 0))), zw_J H 104 0 (H.2.1 4 x1.toInt.toNat).toInt64) := by
  have W := zB_Wd (zB_dn (zB_Bc hB))
  refine zw_ex (zw_met zm_102_t rfl rfl ?_)
  refine zw_ld (n := 1) (k := 3) (f := zp_isR) (pc' := 1) rfl rfl rfl rfl rfl ?_
  refine zw_s (pc' := 2) rfl rfl ?_
  refine zw_ld (n := 1) (k := 0) (f := zp_isR) (pc' := 3) rfl rfl rfl rfl rfl ?_
  refine zw_ld (n := 1) (k := 1) (f := zp_isI) (pc' := 4) rfl rfl rfl rfl rfl ?_
  refine zw_ld (n := 1) (k := 2) (f := zp_isI) (pc' := 5) rfl rfl rfl rfl rfl ?_
  refine zw_ct (pc' := 8) (c' := (2, 12)) (zw_cv (q := 0) (Y := zm_103) W.1 rfl rfl zm_103_t rfl rfl) (zw_pb_ok rfl) rfl rfl rfl rfl (yc_cell0_1 hB hx) ?_
  refine zw_s (pc' := 9) rfl rfl ?_
  refine zw_ls (q := 104) (pc' := 10) W rfl rfl (⟨by decide, by decide⟩) rfl ?_
  refine zw_s (pc' := 17) rfl rfl ?_
  refine zw_s (pc' := 18) rfl rfl ?_
  refine zw_rig rfl rfl ⟨by decide, by decide⟩ ?_
  rfl

theorem yc_celn0 {L : Nat} {σ : Nat → Int32} {d : Nat} {H : zp_H} {x1 x2 : Int32} (hB : zk_Bs (zB_c 0) zg zJc H) (h : ¬ ((0 ≤ x1.toInt ∧ x1.toInt < (H.2.1 2 0 * H.2.1 2 1).toInt) ∧ 0 ≤ x2.toInt ∧ x2.toInt ≤ (Int32.ofInt 1).toInt)) : zp_Call L σ (d + 2) 103 [.inr (.inr (some 1)), .inl x1, .inl x2] H (.inr 0, H) := by
  have W := zB_Wd (zB_dn (zB_Bc hB))
  have g5 : H.2.2.2 0 5 = some 3 := hB.2.1 0 5 _ rfl
  have g6 : H.2.2.2 0 6 = some 14 := hB.2.1 0 6 _ rfl
  have g7 : H.2.2.2 0 7 = some 23 := hB.2.1 0 7 _ rfl
  have g8 : H.2.2.2 0 8 = some 34 := hB.2.1 0 8 _ rfl
  refine zw_ex (zw_met zm_103_t rfl rfl ?_)
  refine zw_ld (n := 1) (k := 2) (f := zp_isI) (pc' := 1) rfl rfl rfl rfl rfl ?_
  refine zw_s (pc' := 2) rfl rfl ?_
  by_cases hw : 0 ≤ x2.toInt ∧ x2.toInt ≤ (Int32.ofInt 1).toInt
  · refine zw_ctn (pc' := 5) (c' := (1, 6)) (zw_cs (Y := zm_104) rfl rfl zm_104_t) (zw_pb_ok rfl) rfl rfl rfl rfl (yc_nw1 hw) ?_
    refine zw_ld (n := 1) (k := 1) (f := zp_isI) (pc' := 6) rfl rfl rfl rfl rfl ?_
    refine zw_blt1 (g := 20) (pc' := 9) rfl rfl rfl rfl (fun h1 => ?_) (fun h1 => ?_)
    · exact zs_end (S := (20, _, [], H, (1, 6))) (X := (.inr 0, H)) rfl rfl rfl
    · refine zw_ld (n := 1) (k := 1) (f := zp_isI) (pc' := 10) rfl rfl rfl rfl rfl ?_
      refine zw_ld (n := 1) (k := 0) (f := zp_isR) (pc' := 11) rfl rfl rfl rfl rfl ?_
      refine zw_gR (q := 0) (pc' := 14) W rfl rfl rfl rfl g5 rfl ?_
      refine zw_c (pc' := 17) (zw_cv (q := 2) (Y := zm_105) W.1 rfl rfl zm_105_t rfl rfl) rfl rfl rfl rfl rfl (yc_cells2 W) ?_
      refine zw_blt2 (g := 30) (pc' := 20) rfl rfl rfl rfl rfl (fun h2 => ?_) (fun h2 => ?_)
      · exact absurd ⟨⟨by omega, h2⟩, hw⟩ h
      · exact zs_end (S := (20, _, [], H, (1, 6))) (X := (.inr 0, H)) rfl rfl rfl
  · refine zw_cthr (ex := 0) (zw_cs (Y := zm_104) rfl rfl zm_104_t) (zw_pb_ok rfl) rfl rfl (yc_nw0 hw) ?_
    rfl

theorem yl_celn0 {L : Nat} {σ : Nat → Int32} {d : Nat} {H : zp_H} {x1 x2 : Int32} (hB : zk_Bs (zB_c 0) zg zJc H) (h : ¬ ((0 ≤ x1.toInt ∧ x1.toInt < (H.2.1 2 0 * H.2.1 2 1).toInt) ∧ 0 ≤ x2.toInt ∧ x2.toInt ≤ (Int32.ofInt 1).toInt)) : zp_Call L σ (d + 3) 102 [.inr (.inr (some 1)), .inl x1, .inl x2, .inr (.inr (some 105))] H (.inl (some (.inl (Int32.ofInt 1))), H) := by
  have W := zB_Wd (zB_dn (zB_Bc hB))
  refine zw_ex (zw_met zm_102_t rfl rfl ?_)
  refine zw_ld (n := 1) (k := 3) (f := zp_isR) (pc' := 1) rfl rfl rfl rfl rfl ?_
  refine zw_s (pc' := 2) rfl rfl ?_
  refine zw_ld (n := 1) (k := 0) (f := zp_isR) (pc' := 3) rfl rfl rfl rfl rfl ?_
  refine zw_ld (n := 1) (k := 1) (f := zp_isI) (pc' := 4) rfl rfl rfl rfl rfl ?_
  refine zw_ld (n := 1) (k := 2) (f := zp_isI) (pc' := 5) rfl rfl rfl rfl rfl ?_
  refine zw_cexw (ex := 0) (hp9 := 13) (k9 := 4) (pc' := 15) (c' := (2, 12)) (zw_cv (q := 0) (Y := zm_103) W.1 rfl rfl zm_103_t rfl rfl) (zw_pb_ok rfl) rfl rfl rfl rfl rfl rfl rfl (yc_celn0 hB h) ?_
  refine zw_s (pc' := 16) rfl rfl ?_
  refine zw_rig rfl rfl ⟨by decide, by decide⟩ ?_
  rfl

theorem yc_cell3_0 {L : Nat} {σ : Nat → Int32} {d : Nat} {H : zp_H} {x1 : Int32} (hB : zk_Bs (zB_c 3) zg zJc H) (hx : 0 ≤ x1.toInt ∧ x1.toInt < (H.2.1 22 0 * H.2.1 22 1).toInt) : zp_Call L σ (d + 2) 103 [.inr (.inr (some 1)), .inl x1, .inl (Int32.ofInt 0)] H (.inl (some (.inl (if yTb (H.2.2.1 22 3) x1.toInt.toNat = true then Int32.ofInt 1 else Int32.ofInt 0))), H) := by
  have W := zB_Wd (zB_dn (zB_Bc hB))
  have g5 : H.2.2.2 0 5 = some 23 := hB.2.1 0 5 _ rfl
  have g6 : H.2.2.2 0 6 = some 34 := hB.2.1 0 6 _ rfl
  have g7 : H.2.2.2 0 7 = some 3 := hB.2.1 0 7 _ rfl
  have g8 : H.2.2.2 0 8 = some 14 := hB.2.1 0 8 _ rfl
  have r22_0 := zB_fr1 (zB_dn (zB_Bc hB)) (p := 22) (k := 0) (r := (2, 8)) rfl
  have r22_0 : 2 ≤ (H.2.1 22 0).toInt ∧ (H.2.1 22 0).toInt ≤ 8 := r22_0
  have r22_1 := zB_fr1 (zB_dn (zB_Bc hB)) (p := 22) (k := 1) (r := (2, 8)) rfl
  have r22_1 : 2 ≤ (H.2.1 22 1).toInt ∧ (H.2.1 22 1).toInt ≤ 8 := r22_1
  have e64 := y64 (x := x1) r22_0 r22_1
  refine zw_ex (zw_met zm_103_t rfl rfl ?_)
  refine zw_ld (n := 1) (k := 2) (f := zp_isI) (pc' := 1) rfl rfl rfl rfl rfl ?_
  refine zw_s (pc' := 2) rfl rfl ?_
  refine zw_ctn (pc' := 5) (c' := (1, 6)) (zw_cs (Y := zm_104) rfl rfl zm_104_t) (zw_pb_ok rfl) rfl rfl rfl rfl (yc_nw1 ⟨by decide, by decide⟩) ?_
  refine zw_ld (n := 1) (k := 1) (f := zp_isI) (pc' := 6) rfl rfl rfl rfl rfl ?_
  refine zw_blt1 (g := 20) (pc' := 9) rfl rfl rfl rfl (fun h1 => ?_) (fun h1 => ?_)
  · omega
  · refine zw_ld (n := 1) (k := 1) (f := zp_isI) (pc' := 10) rfl rfl rfl rfl rfl ?_
    refine zw_ld (n := 1) (k := 0) (f := zp_isR) (pc' := 11) rfl rfl rfl rfl rfl ?_
    refine zw_gR (q := 0) (pc' := 14) W rfl rfl rfl rfl g5 rfl ?_
    refine zw_c (pc' := 17) (zw_cv (q := 22) (Y := zm_105) W.1 rfl rfl zm_105_t rfl rfl) rfl rfl rfl rfl rfl (yc_cells22 W) ?_
    refine zw_blt2 (g := 30) (pc' := 20) rfl rfl rfl rfl rfl (fun h2 => ?_) (fun h2 => ?_)
    · refine zw_ld (n := 1) (k := 2) (f := zp_isI) (pc' := 31) rfl rfl rfl rfl rfl ?_
      refine zw_bne1 (g := 51) (pc' := 34) rfl rfl rfl (rfl : _ = (0 : Int)) (fun h9 => absurd h9 (by decide)) (fun h3 => ?_)
      refine zw_ld (n := 1) (k := 0) (f := zp_isR) (pc' := 35) rfl rfl rfl rfl rfl ?_
      refine zw_gR (q := 0) (pc' := 38) W rfl rfl rfl rfl g5 rfl ?_
      refine zw_ld (n := 1) (k := 1) (f := zp_isI) (pc' := 39) rfl rfl rfl rfl rfl ?_
      refine zw_c (pc' := 42) (zw_cv (q := 22) (Y := zm_32) W.1 rfl rfl zm_32_t rfl rfl) rfl rfl rfl rfl rfl (yc_isr22 W ⟨hx.1, by omega⟩) ?_
      refine zw_beq1 (g := 49) (pc' := 45) rfl rfl rfl rfl (fun h4 => ?_) (fun h4 => ?_)
      · refine zw_s (pc' := 50) rfl rfl ?_
        refine zw_rig rfl rfl ⟨by decide, by decide⟩ ?_
        rw [yif0 h4]
        rfl
      · refine zw_s (pc' := 46) rfl rfl ?_
        refine zw_s (pc' := 50) rfl rfl ?_
        refine zw_rig rfl rfl ⟨by decide, by decide⟩ ?_
        rw [yif1 h4]
        rfl
    · omega

theorem yl_cell3_0 {L : Nat} {σ : Nat → Int32} {d : Nat} {H : zp_H} {x1 : Int32} (hB : zk_Bs (zB_c 3) zg zJc H) (hx : 0 ≤ x1.toInt ∧ x1.toInt < (H.2.1 22 0 * H.2.1 22 1).toInt) : zp_Call L σ (d + 3) 102 [.inr (.inr (some 1)), .inl x1, .inl (Int32.ofInt 0), .inr (.inr (some 105))] H (.inl (some (.inl (Int32.ofInt 0))), zw_J H 104 0 (if yTb (H.2.2.1 22 3) x1.toInt.toNat = true then Int32.ofInt 1 else Int32.ofInt 0).toInt64) := by
  have W := zB_Wd (zB_dn (zB_Bc hB))
  refine zw_ex (zw_met zm_102_t rfl rfl ?_)
  refine zw_ld (n := 1) (k := 3) (f := zp_isR) (pc' := 1) rfl rfl rfl rfl rfl ?_
  refine zw_s (pc' := 2) rfl rfl ?_
  refine zw_ld (n := 1) (k := 0) (f := zp_isR) (pc' := 3) rfl rfl rfl rfl rfl ?_
  refine zw_ld (n := 1) (k := 1) (f := zp_isI) (pc' := 4) rfl rfl rfl rfl rfl ?_
  refine zw_ld (n := 1) (k := 2) (f := zp_isI) (pc' := 5) rfl rfl rfl rfl rfl ?_
  refine zw_ct (pc' := 8) (c' := (2, 12)) (zw_cv (q := 0) (Y := zm_103) W.1 rfl rfl zm_103_t rfl rfl) (zw_pb_ok rfl) rfl rfl rfl rfl (yc_cell3_0 hB hx) ?_
  refine zw_s (pc' := 9) rfl rfl ?_
  refine zw_ls (q := 104) (pc' := 10) W rfl rfl (⟨by decide, by decide⟩) rfl ?_
  refine zw_s (pc' := 17) rfl rfl ?_
  refine zw_s (pc' := 18) rfl rfl ?_
  refine zw_rig rfl rfl ⟨by decide, by decide⟩ ?_
  rfl

theorem yc_cell3_1 {L : Nat} {σ : Nat → Int32} {d : Nat} {H : zp_H} {x1 : Int32} (hB : zk_Bs (zB_c 3) zg zJc H) (hx : 0 ≤ x1.toInt ∧ x1.toInt < (H.2.1 22 0 * H.2.1 22 1).toInt) : zp_Call L σ (d + 2) 103 [.inr (.inr (some 1)), .inl x1, .inl (Int32.ofInt 1)] H (.inl (some (.inl (H.2.1 24 x1.toInt.toNat))), H) := by
  have W := zB_Wd (zB_dn (zB_Bc hB))
  have g5 : H.2.2.2 0 5 = some 23 := hB.2.1 0 5 _ rfl
  have g6 : H.2.2.2 0 6 = some 34 := hB.2.1 0 6 _ rfl
  have g7 : H.2.2.2 0 7 = some 3 := hB.2.1 0 7 _ rfl
  have g8 : H.2.2.2 0 8 = some 14 := hB.2.1 0 8 _ rfl
  have r22_0 := zB_fr1 (zB_dn (zB_Bc hB)) (p := 22) (k := 0) (r := (2, 8)) rfl
  have r22_0 : 2 ≤ (H.2.1 22 0).toInt ∧ (H.2.1 22 0).toInt ≤ 8 := r22_0
  have r22_1 := zB_fr1 (zB_dn (zB_Bc hB)) (p := 22) (k := 1) (r := (2, 8)) rfl
  have r22_1 : 2 ≤ (H.2.1 22 1).toInt ∧ (H.2.1 22 1).toInt ≤ 8 := r22_1
  have e64 := y64 (x := x1) r22_0 r22_1
  refine zw_ex (zw_met zm_103_t rfl rfl ?_)
  refine zw_ld (n := 1) (k := 2) (f := zp_isI) (pc' := 1) rfl rfl rfl rfl rfl ?_
  refine zw_s (pc' := 2) rfl rfl ?_
  refine zw_ctn (pc' := 5) (c' := (1, 6)) (zw_cs (Y := zm_104) rfl rfl zm_104_t) (zw_pb_ok rfl) rfl rfl rfl rfl (yc_nw1 ⟨by decide, by decide⟩) ?_
  refine zw_ld (n := 1) (k := 1) (f := zp_isI) (pc' := 6) rfl rfl rfl rfl rfl ?_
  refine zw_blt1 (g := 20) (pc' := 9) rfl rfl rfl rfl (fun h1 => ?_) (fun h1 => ?_)
  · omega
  · refine zw_ld (n := 1) (k := 1) (f := zp_isI) (pc' := 10) rfl rfl rfl rfl rfl ?_
    refine zw_ld (n := 1) (k := 0) (f := zp_isR) (pc' := 11) rfl rfl rfl rfl rfl ?_
    refine zw_gR (q := 0) (pc' := 14) W rfl rfl rfl rfl g5 rfl ?_
    refine zw_c (pc' := 17) (zw_cv (q := 22) (Y := zm_105) W.1 rfl rfl zm_105_t rfl rfl) rfl rfl rfl rfl rfl (yc_cells22 W) ?_
    refine zw_blt2 (g := 30) (pc' := 20) rfl rfl rfl rfl rfl (fun h2 => ?_) (fun h2 => ?_)
    · refine zw_ld (n := 1) (k := 2) (f := zp_isI) (pc' := 31) rfl rfl rfl rfl rfl ?_
      refine zw_bne1 (g := 51) (pc' := 34) rfl rfl rfl (rfl : _ = (1 : Int)) (fun h3 => ?_) (fun h9 => absurd h9 (by decide))
      refine zw_ld (n := 1) (k := 0) (f := zp_isR) (pc' := 52) rfl rfl rfl rfl rfl ?_
      refine zw_gR (q := 0) (pc' := 55) W rfl rfl rfl rfl g5 rfl ?_
      refine zw_gR (q := 22) (pc' := 58) W rfl rfl rfl rfl (W.2 22 5 _ rfl) rfl ?_
      refine zw_ld (n := 1) (k := 1) (f := zp_isI) (pc' := 59) rfl rfl rfl rfl rfl ?_
      refine zw_ia (q := 24) (pc' := 60) W rfl rfl (by decide) (⟨hx.1, by show _ < ((64 : Nat) : Int); omega⟩) rfl rfl ?_
      refine zw_rig rfl rfl ⟨by decide, by decide⟩ ?_
      rfl
    · omega

theorem yl_cell3_1 {L : Nat} {σ : Nat → Int32} {d : Nat} {H : zp_H} {x1 : Int32} (hB : zk_Bs (zB_c 3) zg zJc H) (hx : 0 ≤ x1.toInt ∧ x1.toInt < (H.2.1 22 0 * H.2.1 22 1).toInt) : zp_Call L σ (d + 3) 102 [.inr (.inr (some 1)), .inl x1, .inl (Int32.ofInt 1), .inr (.inr (some 105))] H (.inl (some (.inl (Int32.ofInt 0))), zw_J H 104 0 (H.2.1 24 x1.toInt.toNat).toInt64) := by
  have W := zB_Wd (zB_dn (zB_Bc hB))
  refine zw_ex (zw_met zm_102_t rfl rfl ?_)
  refine zw_ld (n := 1) (k := 3) (f := zp_isR) (pc' := 1) rfl rfl rfl rfl rfl ?_
  refine zw_s (pc' := 2) rfl rfl ?_
  refine zw_ld (n := 1) (k := 0) (f := zp_isR) (pc' := 3) rfl rfl rfl rfl rfl ?_
  refine zw_ld (n := 1) (k := 1) (f := zp_isI) (pc' := 4) rfl rfl rfl rfl rfl ?_
  refine zw_ld (n := 1) (k := 2) (f := zp_isI) (pc' := 5) rfl rfl rfl rfl rfl ?_
  refine zw_ct (pc' := 8) (c' := (2, 12)) (zw_cv (q := 0) (Y := zm_103) W.1 rfl rfl zm_103_t rfl rfl) (zw_pb_ok rfl) rfl rfl rfl rfl (yc_cell3_1 hB hx) ?_
  refine zw_s (pc' := 9) rfl rfl ?_
  refine zw_ls (q := 104) (pc' := 10) W rfl rfl (⟨by decide, by decide⟩) rfl ?_
  refine zw_s (pc' := 17) rfl rfl ?_
  refine zw_s (pc' := 18) rfl rfl ?_
  refine zw_rig rfl rfl ⟨by decide, by decide⟩ ?_
  rfl

theorem yc_celn3 {L : Nat} {σ : Nat → Int32} {d : Nat} {H : zp_H} {x1 x2 : Int32} (hB : zk_Bs (zB_c 3) zg zJc H) (h : ¬ ((0 ≤ x1.toInt ∧ x1.toInt < (H.2.1 22 0 * H.2.1 22 1).toInt) ∧ 0 ≤ x2.toInt ∧ x2.toInt ≤ (Int32.ofInt 1).toInt)) : zp_Call L σ (d + 2) 103 [.inr (.inr (some 1)), .inl x1, .inl x2] H (.inr 0, H) := by
  have W := zB_Wd (zB_dn (zB_Bc hB))
  have g5 : H.2.2.2 0 5 = some 23 := hB.2.1 0 5 _ rfl
  have g6 : H.2.2.2 0 6 = some 34 := hB.2.1 0 6 _ rfl
  have g7 : H.2.2.2 0 7 = some 3 := hB.2.1 0 7 _ rfl
  have g8 : H.2.2.2 0 8 = some 14 := hB.2.1 0 8 _ rfl
  refine zw_ex (zw_met zm_103_t rfl rfl ?_)
  refine zw_ld (n := 1) (k := 2) (f := zp_isI) (pc' := 1) rfl rfl rfl rfl rfl ?_
  refine zw_s (pc' := 2) rfl rfl ?_
  by_cases hw : 0 ≤ x2.toInt ∧ x2.toInt ≤ (Int32.ofInt 1).toInt
  · refine zw_ctn (pc' := 5) (c' := (1, 6)) (zw_cs (Y := zm_104) rfl rfl zm_104_t) (zw_pb_ok rfl) rfl rfl rfl rfl (yc_nw1 hw) ?_
    refine zw_ld (n := 1) (k := 1) (f := zp_isI) (pc' := 6) rfl rfl rfl rfl rfl ?_
    refine zw_blt1 (g := 20) (pc' := 9) rfl rfl rfl rfl (fun h1 => ?_) (fun h1 => ?_)
    · exact zs_end (S := (20, _, [], H, (1, 6))) (X := (.inr 0, H)) rfl rfl rfl
    · refine zw_ld (n := 1) (k := 1) (f := zp_isI) (pc' := 10) rfl rfl rfl rfl rfl ?_
      refine zw_ld (n := 1) (k := 0) (f := zp_isR) (pc' := 11) rfl rfl rfl rfl rfl ?_
      refine zw_gR (q := 0) (pc' := 14) W rfl rfl rfl rfl g5 rfl ?_
      refine zw_c (pc' := 17) (zw_cv (q := 22) (Y := zm_105) W.1 rfl rfl zm_105_t rfl rfl) rfl rfl rfl rfl rfl (yc_cells22 W) ?_
      refine zw_blt2 (g := 30) (pc' := 20) rfl rfl rfl rfl rfl (fun h2 => ?_) (fun h2 => ?_)
      · exact absurd ⟨⟨by omega, h2⟩, hw⟩ h
      · exact zs_end (S := (20, _, [], H, (1, 6))) (X := (.inr 0, H)) rfl rfl rfl
  · refine zw_cthr (ex := 0) (zw_cs (Y := zm_104) rfl rfl zm_104_t) (zw_pb_ok rfl) rfl rfl (yc_nw0 hw) ?_
    rfl

theorem yl_celn3 {L : Nat} {σ : Nat → Int32} {d : Nat} {H : zp_H} {x1 x2 : Int32} (hB : zk_Bs (zB_c 3) zg zJc H) (h : ¬ ((0 ≤ x1.toInt ∧ x1.toInt < (H.2.1 22 0 * H.2.1 22 1).toInt) ∧ 0 ≤ x2.toInt ∧ x2.toInt ≤ (Int32.ofInt 1).toInt)) : zp_Call L σ (d + 3) 102 [.inr (.inr (some 1)), .inl x1, .inl x2, .inr (.inr (some 105))] H (.inl (some (.inl (Int32.ofInt 1))), H) := by
  have W := zB_Wd (zB_dn (zB_Bc hB))
  refine zw_ex (zw_met zm_102_t rfl rfl ?_)
  refine zw_ld (n := 1) (k := 3) (f := zp_isR) (pc' := 1) rfl rfl rfl rfl rfl ?_
  refine zw_s (pc' := 2) rfl rfl ?_
  refine zw_ld (n := 1) (k := 0) (f := zp_isR) (pc' := 3) rfl rfl rfl rfl rfl ?_
  refine zw_ld (n := 1) (k := 1) (f := zp_isI) (pc' := 4) rfl rfl rfl rfl rfl ?_
  refine zw_ld (n := 1) (k := 2) (f := zp_isI) (pc' := 5) rfl rfl rfl rfl rfl ?_
  refine zw_cexw (ex := 0) (hp9 := 13) (k9 := 4) (pc' := 15) (c' := (2, 12)) (zw_cv (q := 0) (Y := zm_103) W.1 rfl rfl zm_103_t rfl rfl) (zw_pb_ok rfl) rfl rfl rfl rfl rfl rfl rfl (yc_celn3 hB h) ?_
  refine zw_s (pc' := 16) rfl rfl ?_
  refine zw_rig rfl rfl ⟨by decide, by decide⟩ ?_
  rfl

theorem yr_wh1 {L : Nat} {σ : Nat → Int32} {d : Nat} {H : zp_H} (W : zw_W H) {x y : Int32} (h0 : (H.2.1 72 0).toInt = 0) (h : ((Int32.ofInt 0).toInt ≤ x.toInt ∧ x.toInt ≤ y.toInt)) : zp_Call L σ (d + 2) 208 [.inr (.inr (some 73)), .inl x, .inl y] H (.inl (some (.inl (Int32.ofInt 1))), H) := by
  refine zw_ex (zw_met zm_208_t rfl rfl ?_)
  refine zw_ld (n := 1) (k := 0) (f := zp_isR) (pc' := 1) rfl rfl rfl rfl rfl ?_
  refine zw_ld (n := 1) (k := 1) (f := zp_isI) (pc' := 2) rfl rfl rfl rfl rfl ?_
  refine zw_s (pc' := 3) rfl rfl ?_
  refine zw_ld (n := 1) (k := 2) (f := zp_isI) (pc' := 4) rfl rfl rfl rfl rfl ?_
  refine zw_c (pc' := 7) (zw_cs (Y := zm_185) rfl rfl zm_185_t) rfl rfl rfl rfl rfl (zq_within1 h) ?_
  refine zw_s (pc' := 8) rfl rfl ?_
  refine zw_c (pc' := 11) (zw_cv (q := 72) (Y := zm_170) W.1 rfl rfl zm_170_t rfl rfl) rfl rfl rfl rfl rfl (zq_right1 W h0) ?_
  refine zw_rz rfl rfl (by decide) ?_
  rfl

theorem yr_wh0 {L : Nat} {σ : Nat → Int32} {d : Nat} {H : zp_H} (W : zw_W H) {x y : Int32} (h0 : (H.2.1 72 0).toInt = 0) (h : ¬ ((Int32.ofInt 0).toInt ≤ x.toInt ∧ x.toInt ≤ y.toInt)) : zp_Call L σ (d + 2) 208 [.inr (.inr (some 73)), .inl x, .inl y] H (.inl (some (.inl (Int32.ofInt 0))), zw_I H 72 0 (Int32.ofInt 1)) := by
  refine zw_ex (zw_met zm_208_t rfl rfl ?_)
  refine zw_ld (n := 1) (k := 0) (f := zp_isR) (pc' := 1) rfl rfl rfl rfl rfl ?_
  refine zw_ld (n := 1) (k := 1) (f := zp_isI) (pc' := 2) rfl rfl rfl rfl rfl ?_
  refine zw_s (pc' := 3) rfl rfl ?_
  refine zw_ld (n := 1) (k := 2) (f := zp_isI) (pc' := 4) rfl rfl rfl rfl rfl ?_
  refine zw_c (pc' := 7) (zw_cs (Y := zm_185) rfl rfl zm_185_t) rfl rfl rfl rfl rfl (zq_within0 h) ?_
  refine zw_s (pc' := 8) rfl rfl ?_
  refine zw_c (pc' := 11) (zw_cv (q := 72) (Y := zm_170) W.1 rfl rfl zm_170_t rfl rfl) rfl rfl rfl rfl rfl (zq_right0 W h0 (by decide)) ?_
  refine zw_rz rfl rfl (by decide) ?_
  rfl

theorem yr_cell0 {L : Nat} {σ : Nat → Int32} {d : Nat} {H : zp_H} (W : zw_W H) {x1 : Int32} (hx : 0 ≤ x1.toInt ∧ x1.toInt < (H.2.1 72 1 * H.2.1 72 2).toInt) (h64 : x1.toInt < 64) : zp_Call L σ (d + 3) 207 [.inr (.inr (some 73)), .inl x1, .inl (Int32.ofInt 0)] H (.inl (some (.inl ((za_shr0 (H.2.2.1 72 12) x1 &&& Int64.ofNat 1).toInt32))), zw_I H 72 0 (Int32.ofInt 0)) := by
  have h0 : ((zw_I H 72 0 (Int32.ofInt 0)).2.1 72 0).toInt = 0 := congrArg Int32.toInt zw_eq
  refine zw_ex (zw_met zm_207_t rfl rfl ?_)
  refine zw_ld (n := 1) (k := 0) (f := zp_isR) (pc' := 1) rfl rfl rfl rfl rfl ?_
  refine zw_s (pc' := 2) rfl rfl ?_
  refine zw_pI (q := 72) (pc' := 5) W rfl rfl rfl rfl rfl rfl ?_
  refine zw_ld (n := 1) (k := 0) (f := zp_isR) (pc' := 6) rfl rfl rfl rfl rfl ?_
  refine zw_ld (n := 1) (k := 1) (f := zp_isI) (pc' := 7) rfl rfl rfl rfl rfl ?_
  refine zw_blt1 (g := 27) (pc' := 10) rfl rfl rfl rfl (fun h1 => ?_) (fun h1 => ?_)
  · omega
  · refine zw_ld (n := 1) (k := 1) (f := zp_isI) (pc' := 11) rfl rfl rfl rfl rfl ?_
    refine zw_ld (n := 1) (k := 0) (f := zp_isR) (pc' := 12) rfl rfl rfl rfl rfl ?_
    refine zw_gI (q := 72) (pc' := 15) (zw_W_I W) rfl rfl rfl rfl (zw_ne rfl rfl) rfl ?_
    refine zw_ld (n := 1) (k := 0) (f := zp_isR) (pc' := 16) rfl rfl rfl rfl rfl ?_
    refine zw_gI (q := 72) (pc' := 19) (zw_W_I W) rfl rfl rfl rfl (zw_ne rfl rfl) rfl ?_
    refine zw_imul (pc' := 20) rfl rfl ?_
    refine zw_bge2 (g := 27) (pc' := 23) rfl rfl rfl rfl rfl (fun h2 => ?_) (fun h2 => ?_)
    · omega
    · refine zw_s (pc' := 24) rfl rfl ?_
      refine zw_s (pc' := 28) rfl rfl ?_
      refine zw_s (pc' := 29) rfl rfl ?_
      refine zw_c (pc' := 32) (zw_cv (q := 72) (Y := zm_170) (zw_W_I W).1 rfl rfl zm_170_t rfl rfl) rfl rfl rfl rfl rfl (zq_right1 (zw_W_I W) h0) ?_
      refine zw_beq1 (g := 44) (pc' := 35) rfl rfl rfl (rfl : _ = (1 : Int)) (fun h9 => absurd h9 (by decide)) (fun h3 => ?_)
      refine zw_ld (n := 1) (k := 0) (f := zp_isR) (pc' := 36) rfl rfl rfl rfl rfl ?_
      refine zw_ld (n := 1) (k := 2) (f := zp_isI) (pc' := 37) rfl rfl rfl rfl rfl ?_
      refine zw_s (pc' := 38) rfl rfl ?_
      refine zw_c (pc' := 41) (zw_cv (q := 72) (Y := zm_208) (zw_W_I W).1 rfl rfl zm_208_t rfl rfl) rfl rfl rfl rfl rfl (yr_wh1 (zw_W_I W) h0 ⟨by decide, by decide⟩) ?_
      refine zw_bne1 (g := 46) (pc' := 44) rfl rfl rfl (rfl : _ = (1 : Int)) (fun h4 => ?_) (fun h9 => absurd h9 (by decide))
      refine zw_ld (n := 1) (k := 2) (f := zp_isI) (pc' := 47) rfl rfl rfl rfl rfl ?_
      refine zw_bne1 (g := 62) (pc' := 50) rfl rfl rfl (rfl : _ = (0 : Int)) (fun h9 => absurd h9 (by decide)) (fun h5 => ?_)
      refine zw_ld (n := 1) (k := 0) (f := zp_isR) (pc' := 51) rfl rfl rfl rfl rfl ?_
      refine zw_gL (q := 72) (pc' := 54) (zw_W_I W) rfl rfl rfl rfl rfl ?_
      refine zw_ld (n := 1) (k := 1) (f := zp_isI) (pc' := 55) rfl rfl rfl rfl rfl ?_
      refine zw_lshr (pc' := 56) rfl rfl ?_
      refine zw_s (pc' := 57) rfl rfl ?_
      refine zw_land (pc' := 58) rfl rfl ?_
      refine zw_s (pc' := 59) rfl rfl ?_
      refine zw_s (pc' := 68) rfl rfl ?_
      refine zw_ri rfl rfl ?_
      rfl

theorem yr_cell1 {L : Nat} {σ : Nat → Int32} {d : Nat} {H : zp_H} (W : zw_W H) {x1 : Int32} (hx : 0 ≤ x1.toInt ∧ x1.toInt < (H.2.1 72 1 * H.2.1 72 2).toInt) (h64 : x1.toInt < 64) : zp_Call L σ (d + 3) 207 [.inr (.inr (some 73)), .inl x1, .inl (Int32.ofInt 1)] H (.inl (some (.inl (H.2.1 73 x1.toInt.toNat))), zw_I H 72 0 (Int32.ofInt 0)) := by
  have h0 : ((zw_I H 72 0 (Int32.ofInt 0)).2.1 72 0).toInt = 0 := congrArg Int32.toInt zw_eq
  refine zw_ex (zw_met zm_207_t rfl rfl ?_)
  refine zw_ld (n := 1) (k := 0) (f := zp_isR) (pc' := 1) rfl rfl rfl rfl rfl ?_
  refine zw_s (pc' := 2) rfl rfl ?_
  refine zw_pI (q := 72) (pc' := 5) W rfl rfl rfl rfl rfl rfl ?_
  refine zw_ld (n := 1) (k := 0) (f := zp_isR) (pc' := 6) rfl rfl rfl rfl rfl ?_
  refine zw_ld (n := 1) (k := 1) (f := zp_isI) (pc' := 7) rfl rfl rfl rfl rfl ?_
  refine zw_blt1 (g := 27) (pc' := 10) rfl rfl rfl rfl (fun h1 => ?_) (fun h1 => ?_)
  · omega
  · refine zw_ld (n := 1) (k := 1) (f := zp_isI) (pc' := 11) rfl rfl rfl rfl rfl ?_
    refine zw_ld (n := 1) (k := 0) (f := zp_isR) (pc' := 12) rfl rfl rfl rfl rfl ?_
    refine zw_gI (q := 72) (pc' := 15) (zw_W_I W) rfl rfl rfl rfl (zw_ne rfl rfl) rfl ?_
    refine zw_ld (n := 1) (k := 0) (f := zp_isR) (pc' := 16) rfl rfl rfl rfl rfl ?_
    refine zw_gI (q := 72) (pc' := 19) (zw_W_I W) rfl rfl rfl rfl (zw_ne rfl rfl) rfl ?_
    refine zw_imul (pc' := 20) rfl rfl ?_
    refine zw_bge2 (g := 27) (pc' := 23) rfl rfl rfl rfl rfl (fun h2 => ?_) (fun h2 => ?_)
    · omega
    · refine zw_s (pc' := 24) rfl rfl ?_
      refine zw_s (pc' := 28) rfl rfl ?_
      refine zw_s (pc' := 29) rfl rfl ?_
      refine zw_c (pc' := 32) (zw_cv (q := 72) (Y := zm_170) (zw_W_I W).1 rfl rfl zm_170_t rfl rfl) rfl rfl rfl rfl rfl (zq_right1 (zw_W_I W) h0) ?_
      refine zw_beq1 (g := 44) (pc' := 35) rfl rfl rfl (rfl : _ = (1 : Int)) (fun h9 => absurd h9 (by decide)) (fun h3 => ?_)
      refine zw_ld (n := 1) (k := 0) (f := zp_isR) (pc' := 36) rfl rfl rfl rfl rfl ?_
      refine zw_ld (n := 1) (k := 2) (f := zp_isI) (pc' := 37) rfl rfl rfl rfl rfl ?_
      refine zw_s (pc' := 38) rfl rfl ?_
      refine zw_c (pc' := 41) (zw_cv (q := 72) (Y := zm_208) (zw_W_I W).1 rfl rfl zm_208_t rfl rfl) rfl rfl rfl rfl rfl (yr_wh1 (zw_W_I W) h0 ⟨by decide, by decide⟩) ?_
      refine zw_bne1 (g := 46) (pc' := 44) rfl rfl rfl (rfl : _ = (1 : Int)) (fun h4 => ?_) (fun h9 => absurd h9 (by decide))
      refine zw_ld (n := 1) (k := 2) (f := zp_isI) (pc' := 47) rfl rfl rfl rfl rfl ?_
      refine zw_bne1 (g := 62) (pc' := 50) rfl rfl rfl (rfl : _ = (1 : Int)) (fun h5 => ?_) (fun h9 => absurd h9 (by decide))
      refine zw_ld (n := 1) (k := 0) (f := zp_isR) (pc' := 63) rfl rfl rfl rfl rfl ?_
      refine zw_gR (q := 72) (pc' := 66) (zw_W_I W) rfl rfl rfl rfl ((zw_W_I W).2 72 13 _ rfl) rfl ?_
      refine zw_ld (n := 1) (k := 1) (f := zp_isI) (pc' := 67) rfl rfl rfl rfl rfl ?_
      refine zw_ia (q := 73) (pc' := 68) (zw_W_I W) rfl rfl (by decide) (⟨hx.1, by show _ < ((64 : Nat) : Int); omega⟩) (zw_ne rfl rfl) rfl ?_
      refine zw_ri rfl rfl ?_
      rfl

theorem yr_celn {L : Nat} {σ : Nat → Int32} {d : Nat} {H : zp_H} (W : zw_W H) {x1 x2 : Int32} (h : ¬ ((0 ≤ x1.toInt ∧ x1.toInt < (H.2.1 72 1 * H.2.1 72 2).toInt) ∧ 0 ≤ x2.toInt ∧ x2.toInt ≤ (Int32.ofInt 1).toInt)) : zp_Call L σ (d + 3) 207 [.inr (.inr (some 73)), .inl x1, .inl x2] H (.inl (some (.inl (Int32.ofInt 0))), zw_I (zw_I H 72 0 (Int32.ofInt 0)) 72 0 (Int32.ofInt 1)) := by
  have h0 : ((zw_I H 72 0 (Int32.ofInt 0)).2.1 72 0).toInt = 0 := congrArg Int32.toInt zw_eq
  refine zw_ex (zw_met zm_207_t rfl rfl ?_)
  refine zw_ld (n := 1) (k := 0) (f := zp_isR) (pc' := 1) rfl rfl rfl rfl rfl ?_
  refine zw_s (pc' := 2) rfl rfl ?_
  refine zw_pI (q := 72) (pc' := 5) W rfl rfl rfl rfl rfl rfl ?_
  refine zw_ld (n := 1) (k := 0) (f := zp_isR) (pc' := 6) rfl rfl rfl rfl rfl ?_
  refine zw_ld (n := 1) (k := 1) (f := zp_isI) (pc' := 7) rfl rfl rfl rfl rfl ?_
  refine zw_blt1 (g := 27) (pc' := 10) rfl rfl rfl rfl (fun h1 => ?_) (fun h1 => ?_)
  · refine zw_s (pc' := 28) rfl rfl ?_
    refine zw_s (pc' := 29) rfl rfl ?_
    refine zw_c (pc' := 32) (zw_cv (q := 72) (Y := zm_170) (zw_W_I W).1 rfl rfl zm_170_t rfl rfl) rfl rfl rfl rfl rfl (zq_right0 (zw_W_I W) h0 (by decide)) ?_
    refine zw_beq1 (g := 44) (pc' := 35) rfl rfl rfl (rfl : _ = (0 : Int)) (fun h3 => ?_) (fun h9 => absurd h9 (by decide))
    refine zw_s (pc' := 45) rfl rfl ?_
    refine zw_ri rfl rfl ?_
    rfl
  · refine zw_ld (n := 1) (k := 1) (f := zp_isI) (pc' := 11) rfl rfl rfl rfl rfl ?_
    refine zw_ld (n := 1) (k := 0) (f := zp_isR) (pc' := 12) rfl rfl rfl rfl rfl ?_
    refine zw_gI (q := 72) (pc' := 15) (zw_W_I W) rfl rfl rfl rfl (zw_ne rfl rfl) rfl ?_
    refine zw_ld (n := 1) (k := 0) (f := zp_isR) (pc' := 16) rfl rfl rfl rfl rfl ?_
    refine zw_gI (q := 72) (pc' := 19) (zw_W_I W) rfl rfl rfl rfl (zw_ne rfl rfl) rfl ?_
    refine zw_imul (pc' := 20) rfl rfl ?_
    refine zw_bge2 (g := 27) (pc' := 23) rfl rfl rfl rfl rfl (fun h2 => ?_) (fun h2 => ?_)
    · refine zw_s (pc' := 28) rfl rfl ?_
      refine zw_s (pc' := 29) rfl rfl ?_
      refine zw_c (pc' := 32) (zw_cv (q := 72) (Y := zm_170) (zw_W_I W).1 rfl rfl zm_170_t rfl rfl) rfl rfl rfl rfl rfl (zq_right0 (zw_W_I W) h0 (by decide)) ?_
      refine zw_beq1 (g := 44) (pc' := 35) rfl rfl rfl (rfl : _ = (0 : Int)) (fun h3 => ?_) (fun h9 => absurd h9 (by decide))
      refine zw_s (pc' := 45) rfl rfl ?_
      refine zw_ri rfl rfl ?_
      rfl
    · refine zw_s (pc' := 24) rfl rfl ?_
      refine zw_s (pc' := 28) rfl rfl ?_
      refine zw_s (pc' := 29) rfl rfl ?_
      refine zw_c (pc' := 32) (zw_cv (q := 72) (Y := zm_170) (zw_W_I W).1 rfl rfl zm_170_t rfl rfl) rfl rfl rfl rfl rfl (zq_right1 (zw_W_I W) h0) ?_
      refine zw_beq1 (g := 44) (pc' := 35) rfl rfl rfl (rfl : _ = (1 : Int)) (fun h9 => absurd h9 (by decide)) (fun h3 => ?_)
      refine zw_ld (n := 1) (k := 0) (f := zp_isR) (pc' := 36) rfl rfl rfl rfl rfl ?_
      refine zw_ld (n := 1) (k := 2) (f := zp_isI) (pc' := 37) rfl rfl rfl rfl rfl ?_
      refine zw_s (pc' := 38) rfl rfl ?_
      refine zw_c (pc' := 41) (zw_cv (q := 72) (Y := zm_208) (zw_W_I W).1 rfl rfl zm_208_t rfl rfl) rfl rfl rfl rfl rfl (yr_wh0 (zw_W_I W) h0 (fun h9 => h ⟨⟨by omega, by omega⟩, h9⟩)) ?_
      refine zw_bne1 (g := 46) (pc' := 44) rfl rfl rfl (rfl : _ = (0 : Int)) (fun h9 => absurd h9 (by decide)) (fun h4 => ?_)
      refine zw_s (pc' := 45) rfl rfl ?_
      refine zw_ri rfl rfl ?_
      rfl

theorem y01 {x : Int32} (h : 0 ≤ x.toInt ∧ x.toInt ≤ (Int32.ofInt 1).toInt) : x = Int32.ofInt 0 ∨ x = Int32.ofInt 1 := by
  have h2 : x.toInt ≤ 1 := h.2
  rcases (show x.toInt = 0 ∨ x.toInt = 1 by omega) with h9 | h9
  · exact Or.inl (Int32.toInt_inj.mp h9)
  · exact Or.inr (Int32.toInt_inj.mp h9)
theorem yb32 {b : Bool} : (if b = true then Int64.ofNat 1 else Int64.ofNat 0 : Int64).toInt32 = if b = true then Int32.ofInt 1 else Int32.ofInt 0 := by cases b <;> rfl

theorem yb_cell {L : Nat} {σ : Nat → Int32} {d c t : Nat} {H : zp_H} {x1 x2 : Int32} (hI : yI c t H) : ∃ H1 H2 v w, zp_Call L σ (d + 60) 102 [.inr (.inr (some 1)), .inl x1, .inl x2, .inr (.inr (some 105))] H (.inl (some (.inl v)), H1) ∧ zp_Call L σ (d + 60) 207 [.inr (.inr (some 73)), .inl x1, .inl x2] H1 (.inl (some (.inl w)), H2) ∧ H1.1 = zB_sh ∧ yI c t H2 ∧ (H2.2.1 72 0).toInt = v.toInt ∧ (v.toInt = 0 → H2.2.2.1 104 0 = w.toInt64) := by
  obtain ⟨H1, v, c1, hI1⟩ := yo_cell (L := L) (σ := σ) (d := d) (x1 := x1) (x2 := x2) hI
  obtain ⟨H2, w, c2, hI2⟩ := yu_cell (L := L) (σ := σ) (d := d) (x1 := x1) (x2 := x2) hI1
  have W1 := zB_Wd (zB_dn (zB_Bc hI1.1.1))
  obtain ⟨h0, hf, hr, -, hcu, -⟩ := hI.2.2
  have w1 := zT_fr1 (z0T_dn hI.1.2.1) (k := 1) (r := (2, 8)) rfl rfl
  have w2 := zT_fr1 (z0T_dn hI.1.2.1) (k := 2) (r := (2, 8)) rfl rfl
  have e64 := y64 (x := x1) w1 w2
  rcases h0 with rfl | rfl
  · have f0 : H.2.1 2 0 = H.2.1 72 1 := hf (0, 1) (by decide)
    have f1 : H.2.1 2 1 = H.2.1 72 2 := hf (1, 2) (by decide)
    have fr : H.2.2.1 2 3 = H.2.2.1 72 12 := hr
    by_cases h : (0 ≤ x1.toInt ∧ x1.toInt < (H.2.1 72 1 * H.2.1 72 2).toInt) ∧ 0 ≤ x2.toInt ∧ x2.toInt ≤ (Int32.ofInt 1).toInt
    · have hc : H.2.1 4 x1.toInt.toNat = H.2.1 73 x1.toInt.toNat := hcu _ (by omega)
      rcases y01 h.2 with rfl | rfl
      · have e1 := zp_Call_u c1 (yl_cell0_0 (L := L) (σ := σ) (d := 0) hI.1.1 (by rw [f0, f1]; exact h.1))
        cases e1
        have e2 := zp_Call_u c2 (yr_cell0 (L := L) (σ := σ) (d := 0) W1 h.1 (by omega))
        cases e2
        refine ⟨_, _, _, _, c1, c2, hI1.1.1.1, hI2, congrArg Int32.toInt zw_eq, fun _ => ?_⟩
        show (zw_J H 104 0 _).2.2.1 104 0 = (za_shr0 (H.2.2.1 72 12) x1 &&& Int64.ofNat 1).toInt32.toInt64
        rw [y_shv ⟨h.1.1, by omega⟩, yb32, ← fr]
        exact zp_u_self H.2.2.1 104 0 _
      · have e1 := zp_Call_u c1 (yl_cell0_1 (L := L) (σ := σ) (d := 0) hI.1.1 (by rw [f0, f1]; exact h.1))
        cases e1
        have e2 := zp_Call_u c2 (yr_cell1 (L := L) (σ := σ) (d := 0) W1 h.1 (by omega))
        cases e2
        refine ⟨_, _, _, _, c1, c2, hI1.1.1.1, hI2, congrArg Int32.toInt zw_eq, fun _ => ?_⟩
        show (zw_J H 104 0 _).2.2.1 104 0 = (H.2.1 73 x1.toInt.toNat).toInt64
        rw [← hc]
        exact zp_u_self H.2.2.1 104 0 _
    · have e1 := zp_Call_u c1 (yl_celn0 (L := L) (σ := σ) (d := 0) hI.1.1 (by rw [f0, f1]; exact h))
      cases e1
      have e2 := zp_Call_u c2 (yr_celn (L := L) (σ := σ) (d := 0) W1 h)
      cases e2
      exact ⟨_, _, _, _, c1, c2, hI1.1.1.1, hI2, congrArg Int32.toInt zw_eq, fun h9 => absurd h9 (by decide)⟩
  · have f0 : H.2.1 22 0 = H.2.1 72 1 := hf (0, 1) (by decide)
    have f1 : H.2.1 22 1 = H.2.1 72 2 := hf (1, 2) (by decide)
    have fr : H.2.2.1 22 3 = H.2.2.1 72 12 := hr
    by_cases h : (0 ≤ x1.toInt ∧ x1.toInt < (H.2.1 72 1 * H.2.1 72 2).toInt) ∧ 0 ≤ x2.toInt ∧ x2.toInt ≤ (Int32.ofInt 1).toInt
    · have hc : H.2.1 24 x1.toInt.toNat = H.2.1 73 x1.toInt.toNat := hcu _ (by omega)
      rcases y01 h.2 with rfl | rfl
      · have e1 := zp_Call_u c1 (yl_cell3_0 (L := L) (σ := σ) (d := 0) hI.1.1 (by rw [f0, f1]; exact h.1))
        cases e1
        have e2 := zp_Call_u c2 (yr_cell0 (L := L) (σ := σ) (d := 0) W1 h.1 (by omega))
        cases e2
        refine ⟨_, _, _, _, c1, c2, hI1.1.1.1, hI2, congrArg Int32.toInt zw_eq, fun _ => ?_⟩
        show (zw_J H 104 0 _).2.2.1 104 0 = (za_shr0 (H.2.2.1 72 12) x1 &&& Int64.ofNat 1).toInt32.toInt64
        rw [y_shv ⟨h.1.1, by omega⟩, yb32, ← fr]
        exact zp_u_self H.2.2.1 104 0 _
      · have e1 := zp_Call_u c1 (yl_cell3_1 (L := L) (σ := σ) (d := 0) hI.1.1 (by rw [f0, f1]; exact h.1))
        cases e1
        have e2 := zp_Call_u c2 (yr_cell1 (L := L) (σ := σ) (d := 0) W1 h.1 (by omega))
        cases e2
        refine ⟨_, _, _, _, c1, c2, hI1.1.1.1, hI2, congrArg Int32.toInt zw_eq, fun _ => ?_⟩
        show (zw_J H 104 0 _).2.2.1 104 0 = (H.2.1 73 x1.toInt.toNat).toInt64
        rw [← hc]
        exact zp_u_self H.2.2.1 104 0 _
    · have e1 := zp_Call_u c1 (yl_celn3 (L := L) (σ := σ) (d := 0) hI.1.1 (by rw [f0, f1]; exact h))
      cases e1
      have e2 := zp_Call_u c2 (yr_celn (L := L) (σ := σ) (d := 0) W1 h)
      cases e2
      exact ⟨_, _, _, _, c1, c2, hI1.1.1.1, hI2, congrArg Int32.toInt zw_eq, fun h9 => absurd h9 (by decide)⟩
