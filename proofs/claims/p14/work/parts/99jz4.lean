/-! ===== where he may be, both sides ===== -/
def zm_122 : za_MI := (yL_where, method_12_code, 5, (some FieldType.int), 13, 2, 12, [(0, 9, 12, 18)], za_i122)
theorem zm_122_t : za_MT 122 = some zm_122 := rfl
def zm_123 : za_MI := (yX11_where, prog_1_method_16_code, 3, (some FieldType.long), 11, 2, 12, [], za_i123)
theorem zm_123_t : za_MT 123 = some zm_123 := rfl
theorem zw_rlh {L : Nat} {σ : Nat → Int32} {P : zp_X → Prop} {M : za_MI} {d pc : Nat} {lv : zp_LV} {H : zp_H} {c : Nat × Nat} {u : Int64} (hi : za_fe (za_is M) pc = some .lreturn) (hr : za_rt M = some .long) (hc : c.1 ≤ za_mc M ∧ c.2 ≤ za_ms M) (hP : P (.inl (some (.inr (.inl u))), H)) : zs_Safe L σ P M [] d (pc, lv, [.inr (.inl u)], H, c) := by
  refine zs_end (S := (pc, lv, [.inr (.inl u)], H, c)) (X := (.inl (some (.inr (.inl u))), H)) hi ?_ hP
  show zp_lret (za_mc M) (za_ms M) (za_rt M) [.inr (.inl u)] (H, c) = _
  rw [hr]
  exact if_pos hc

theorem yc_wh0 {L : Nat} {σ : Nat → Int32} {d : Nat} {H : zp_H} {x1 x2 : Int32} (hB : zk_Bs (zB_c 0) zg zJc H) {S : xSea} (hS : xOk S) (hC : xSC 2 H S) (hM : xCM 2 H S) (h1 : 0 ≤ x1.toInt ∧ x1.toInt < (H.2.1 13 0).toInt) (hk : 0 ≤ x2.toInt ∧ x2.toInt ≤ (H.2.1 16 x1.toInt.toNat).toInt) (hm : (H.2.1 16 x1.toInt.toNat).toInt ≤ 8) (hw : ∀ j, j < x2.toInt.toNat → 0 ≤ (H.2.1 18 (8 * x1.toInt.toNat + j)).toInt ∧ (H.2.1 18 (8 * x1.toInt.toNat + j)).toInt ≤ 3) (hcl : 0 ≤ (H.2.1 14 x1.toInt.toNat).toInt ∧ (H.2.1 14 x1.toInt.toNat).toInt ≤ 63) : ∃ X, zp_Call L σ (d + 7) 123 [.inr (.inr (some 1)), .inl x1, .inl x2] H X ∧ ∃ H1 v, X = (.inl (some (.inr (.inl v))), H1) ∧ xFv 55 H H1 ∧ ∀ k, k < 64 → (yTb v k = true ↔ ∃ h : Nat, xMay S (H.2.1 15 x1.toInt.toNat).toInt (H.2.1 14 x1.toInt.toNat).toInt.toNat (fun m => xRb (H.2.1 17 x1.toInt.toNat) (Int32.ofInt (m : Int))) (fun m => H.2.1 18 (8 * x1.toInt.toNat + m)) (fun m => H.2.1 19 (8 * x1.toInt.toNat + m)) x2.toInt.toNat h k) := by
  have W := zB_Wd (zB_dn (zB_Bc hB))
  have g5 : H.2.2.2 0 5 = some 3 := hB.2.1 0 5 _ rfl
  have g6 : H.2.2.2 0 6 = some 14 := hB.2.1 0 6 _ rfl
  have g7 : H.2.2.2 0 7 = some 23 := hB.2.1 0 7 _ rfl
  have g8 : H.2.2.2 0 8 = some 34 := hB.2.1 0 8 _ rfl
  have r13_0 := zB_fr1 (zB_dn (zB_Bc hB)) (p := 13) (k := 0) (r := (0, 8)) rfl
  have r13_0 : 0 ≤ (H.2.1 13 0).toInt ∧ (H.2.1 13 0).toInt ≤ 8 := r13_0
  obtain ⟨_, q1, H1, v, rfl, q2, q3⟩ := yc_cb2 (L := L) (σ := σ) (d := d) (s := x1) (kk := x2) hS hC hM ⟨h1.1, by omega⟩ ⟨hk.1, by omega⟩ hw hcl W
  refine zw_met zm_123_t rfl rfl ?_
  refine zw_ld (n := 1) (k := 0) (f := zp_isR) (pc' := 1) rfl rfl rfl rfl rfl ?_
  refine zw_ld (n := 1) (k := 1) (f := zp_isI) (pc' := 2) rfl rfl rfl rfl rfl ?_
  refine zw_ctn (pc' := 5) (c' := (1, 6)) (zw_cv (q := 0) (Y := zm_108) W.1 rfl rfl zm_108_t rfl rfl) (zw_pb_ok rfl) rfl rfl rfl rfl (yc_ns1_0 hB h1) ?_
  refine zw_ld (n := 1) (k := 2) (f := zp_isI) (pc' := 6) rfl rfl rfl rfl rfl ?_
  refine zw_blt1 (g := 22) (pc' := 9) rfl rfl rfl rfl (fun h2 => ?_) (fun h2 => ?_)
  · omega
  · refine zw_ld (n := 1) (k := 2) (f := zp_isI) (pc' := 10) rfl rfl rfl rfl rfl ?_
    refine zw_ld (n := 1) (k := 0) (f := zp_isR) (pc' := 11) rfl rfl rfl rfl rfl ?_
    refine zw_gR (q := 0) (pc' := 14) W rfl rfl rfl rfl g6 rfl ?_
    refine zw_gR (q := 13) (pc' := 17) W rfl rfl rfl rfl (W.2 13 3 _ rfl) rfl ?_
    refine zw_ld (n := 1) (k := 1) (f := zp_isI) (pc' := 18) rfl rfl rfl rfl rfl ?_
    refine zw_ia (q := 16) (pc' := 19) W rfl rfl (by decide) (⟨h1.1, by show _ < ((8 : Nat) : Int); omega⟩) rfl rfl ?_
    refine zw_ble2 (g := 33) (pc' := 22) rfl rfl rfl rfl rfl (fun h3 => ?_) (fun h3 => ?_)
    · refine zw_ld (n := 1) (k := 0) (f := zp_isR) (pc' := 34) rfl rfl rfl rfl rfl ?_
      refine zw_gR (q := 0) (pc' := 37) W rfl rfl rfl rfl (W.2 0 13 _ rfl) rfl ?_
      refine zw_ld (n := 1) (k := 0) (f := zp_isR) (pc' := 38) rfl rfl rfl rfl rfl ?_
      refine zw_gR (q := 0) (pc' := 41) W rfl rfl rfl rfl g5 rfl ?_
      refine zw_ld (n := 1) (k := 0) (f := zp_isR) (pc' := 42) rfl rfl rfl rfl rfl ?_
      refine zw_gR (q := 0) (pc' := 45) W rfl rfl rfl rfl g6 rfl ?_
      refine zw_ld (n := 1) (k := 1) (f := zp_isI) (pc' := 46) rfl rfl rfl rfl rfl ?_
      refine zw_ld (n := 1) (k := 2) (f := zp_isI) (pc' := 47) rfl rfl rfl rfl rfl ?_
      refine zw_c (pc' := 50) (zw_cv (q := 55) (Y := zm_124) W.1 rfl rfl zm_124_t rfl rfl) rfl rfl rfl rfl rfl (q1) ?_
      refine zw_rlh rfl rfl ⟨by decide, by decide⟩ ?_
      exact ⟨H1, v, rfl, q2, q3⟩
    · omega

theorem yl_wh0 {L : Nat} {σ : Nat → Int32} {d : Nat} {H : zp_H} {x1 x2 : Int32} (hB : zk_Bs (zB_c 0) zg zJc H) {S : xSea} (hS : xOk S) (hC : xSC 2 H S) (hM : xCM 2 H S) (h1 : 0 ≤ x1.toInt ∧ x1.toInt < (H.2.1 13 0).toInt) (hk : 0 ≤ x2.toInt ∧ x2.toInt ≤ (H.2.1 16 x1.toInt.toNat).toInt) (hm : (H.2.1 16 x1.toInt.toNat).toInt ≤ 8) (hw : ∀ j, j < x2.toInt.toNat → 0 ≤ (H.2.1 18 (8 * x1.toInt.toNat + j)).toInt ∧ (H.2.1 18 (8 * x1.toInt.toNat + j)).toInt ≤ 3) (hcl : 0 ≤ (H.2.1 14 x1.toInt.toNat).toInt ∧ (H.2.1 14 x1.toInt.toNat).toInt ≤ 63) : ∃ H1 v, zp_Call L σ (d + 8) 122 [.inr (.inr (some 1)), .inl x1, .inl x2, .inr (.inr (some 105))] H (.inl (some (.inl (Int32.ofInt 0))), zw_J H1 104 0 v) ∧ xFv 55 H H1 ∧ ∀ k, k < 64 → (yTb v k = true ↔ ∃ h : Nat, xMay S (H.2.1 15 x1.toInt.toNat).toInt (H.2.1 14 x1.toInt.toNat).toInt.toNat (fun m => xRb (H.2.1 17 x1.toInt.toNat) (Int32.ofInt (m : Int))) (fun m => H.2.1 18 (8 * x1.toInt.toNat + m)) (fun m => H.2.1 19 (8 * x1.toInt.toNat + m)) x2.toInt.toNat h k) := by
  obtain ⟨_, q1, H1, v, rfl, q2, q3⟩ := yc_wh0 (L := L) (σ := σ) (d := d) hB hS hC hM h1 hk hm hw hcl
  have W := zB_Wd (zB_dn (zB_Bc hB))
  have W1 := xFv_W q2 W
  refine ⟨H1, v, zw_ex (zw_met zm_122_t rfl rfl ?_), q2, q3⟩
  refine zw_ld (n := 1) (k := 3) (f := zp_isR) (pc' := 1) rfl rfl rfl rfl rfl ?_
  refine zw_s (pc' := 2) rfl rfl ?_
  refine zw_ld (n := 1) (k := 0) (f := zp_isR) (pc' := 3) rfl rfl rfl rfl rfl ?_
  refine zw_ld (n := 1) (k := 1) (f := zp_isI) (pc' := 4) rfl rfl rfl rfl rfl ?_
  refine zw_ld (n := 1) (k := 2) (f := zp_isI) (pc' := 5) rfl rfl rfl rfl rfl ?_
  refine zw_ct (pc' := 8) (c' := (2, 12)) (zw_cv (q := 0) (Y := zm_123) W.1 rfl rfl zm_123_t rfl rfl) (zw_pb_ok rfl) rfl rfl rfl rfl (q1) ?_
  refine zw_ls (q := 104) (pc' := 9) W1 rfl rfl (⟨by decide, by decide⟩) rfl ?_
  refine zw_s (pc' := 16) rfl rfl ?_
  refine zw_s (pc' := 17) rfl rfl ?_
  refine zw_rig rfl rfl ⟨by decide, by decide⟩ ?_
  rfl

theorem yc_whn0 {L : Nat} {σ : Nat → Int32} {d : Nat} {H : zp_H} {x1 x2 : Int32} (hB : zk_Bs (zB_c 0) zg zJc H) (h : ¬ ((0 ≤ x1.toInt ∧ x1.toInt < (H.2.1 13 0).toInt) ∧ 0 ≤ x2.toInt ∧ x2.toInt ≤ (H.2.1 16 x1.toInt.toNat).toInt)) : zp_Call L σ (d + 2) 123 [.inr (.inr (some 1)), .inl x1, .inl x2] H (.inr 0, H) := by
  have W := zB_Wd (zB_dn (zB_Bc hB))
  have g5 : H.2.2.2 0 5 = some 3 := hB.2.1 0 5 _ rfl
  have g6 : H.2.2.2 0 6 = some 14 := hB.2.1 0 6 _ rfl
  have g7 : H.2.2.2 0 7 = some 23 := hB.2.1 0 7 _ rfl
  have g8 : H.2.2.2 0 8 = some 34 := hB.2.1 0 8 _ rfl
  have r13_0 := zB_fr1 (zB_dn (zB_Bc hB)) (p := 13) (k := 0) (r := (0, 8)) rfl
  have r13_0 : 0 ≤ (H.2.1 13 0).toInt ∧ (H.2.1 13 0).toInt ≤ 8 := r13_0
  refine zw_ex (zw_met zm_123_t rfl rfl ?_)
  refine zw_ld (n := 1) (k := 0) (f := zp_isR) (pc' := 1) rfl rfl rfl rfl rfl ?_
  refine zw_ld (n := 1) (k := 1) (f := zp_isI) (pc' := 2) rfl rfl rfl rfl rfl ?_
  by_cases h1 : 0 ≤ x1.toInt ∧ x1.toInt < (H.2.1 13 0).toInt
  · refine zw_ctn (pc' := 5) (c' := (1, 6)) (zw_cv (q := 0) (Y := zm_108) W.1 rfl rfl zm_108_t rfl rfl) (zw_pb_ok rfl) rfl rfl rfl rfl (yc_ns1_0 hB h1) ?_
    refine zw_ld (n := 1) (k := 2) (f := zp_isI) (pc' := 6) rfl rfl rfl rfl rfl ?_
    refine zw_blt1 (g := 22) (pc' := 9) rfl rfl rfl rfl (fun h2 => ?_) (fun h2 => ?_)
    · exact zs_end (S := (22, _, [], H, (1, 6))) (X := (.inr 0, H)) rfl rfl rfl
    · refine zw_ld (n := 1) (k := 2) (f := zp_isI) (pc' := 10) rfl rfl rfl rfl rfl ?_
      refine zw_ld (n := 1) (k := 0) (f := zp_isR) (pc' := 11) rfl rfl rfl rfl rfl ?_
      refine zw_gR (q := 0) (pc' := 14) W rfl rfl rfl rfl g6 rfl ?_
      refine zw_gR (q := 13) (pc' := 17) W rfl rfl rfl rfl (W.2 13 3 _ rfl) rfl ?_
      refine zw_ld (n := 1) (k := 1) (f := zp_isI) (pc' := 18) rfl rfl rfl rfl rfl ?_
      refine zw_ia (q := 16) (pc' := 19) W rfl rfl (by decide) (⟨h1.1, by show _ < ((8 : Nat) : Int); omega⟩) rfl rfl ?_
      refine zw_ble2 (g := 33) (pc' := 22) rfl rfl rfl rfl rfl (fun h3 => ?_) (fun h3 => ?_)
      · exact absurd ⟨h1, h2, h3⟩ h
      · exact zs_end (S := (22, _, [], H, (1, 6))) (X := (.inr 0, H)) rfl rfl rfl
  · refine zw_cthr (ex := 0) (zw_cv (q := 0) (Y := zm_108) W.1 rfl rfl zm_108_t rfl rfl) (zw_pb_ok rfl) rfl rfl (yc_ns0_0 hB h1) ?_
    rfl

theorem yl_whn0 {L : Nat} {σ : Nat → Int32} {d : Nat} {H : zp_H} {x1 x2 : Int32} (hB : zk_Bs (zB_c 0) zg zJc H) (h : ¬ ((0 ≤ x1.toInt ∧ x1.toInt < (H.2.1 13 0).toInt) ∧ 0 ≤ x2.toInt ∧ x2.toInt ≤ (H.2.1 16 x1.toInt.toNat).toInt)) : zp_Call L σ (d + 3) 122 [.inr (.inr (some 1)), .inl x1, .inl x2, .inr (.inr (some 105))] H (.inl (some (.inl (Int32.ofInt 1))), H) := by
  have W := zB_Wd (zB_dn (zB_Bc hB))
  refine zw_ex (zw_met zm_122_t rfl rfl ?_)
  refine zw_ld (n := 1) (k := 3) (f := zp_isR) (pc' := 1) rfl rfl rfl rfl rfl ?_
  refine zw_s (pc' := 2) rfl rfl ?_
  refine zw_ld (n := 1) (k := 0) (f := zp_isR) (pc' := 3) rfl rfl rfl rfl rfl ?_
  refine zw_ld (n := 1) (k := 1) (f := zp_isI) (pc' := 4) rfl rfl rfl rfl rfl ?_
  refine zw_ld (n := 1) (k := 2) (f := zp_isI) (pc' := 5) rfl rfl rfl rfl rfl ?_
  refine zw_cexw (ex := 0) (hp9 := 12) (k9 := 4) (pc' := 14) (c' := (2, 12)) (zw_cv (q := 0) (Y := zm_123) W.1 rfl rfl zm_123_t rfl rfl) (zw_pb_ok rfl) rfl rfl rfl rfl rfl rfl rfl (yc_whn0 hB h) ?_
  refine zw_s (pc' := 15) rfl rfl ?_
  refine zw_rig rfl rfl ⟨by decide, by decide⟩ ?_
  rfl

theorem xJ_M0 {t : Nat} {H : zp_H} (hI : yJ 0 t H) : xCM 2 H (xSo H) := fun w hw k hk => by
  have h : H.2.2.1 5 w &&& yBit (k : Int) = 0 ↔ (H.2.1 73 k).toInt ≠ (w : Int) := (hI.1.2.2.2.2.2.1).2.2 w k hw hk
  rw [y_bit hk] at h
  show yTb (H.2.2.1 5 w) k = true ↔ (if k < 64 then (H.2.1 73 k).toInt else -1) = (w : Int)
  rw [if_pos hk]
  unfold yTb
  cases h9 : (H.2.2.1 5 w).toBitVec.toNat.testBit k with
  | true => exact ⟨fun _ => Classical.byContradiction (fun h8 => by rw [h.mpr h8] at h9; cases h9), fun _ => rfl⟩
  | false => exact ⟨fun h8 => (by cases h8), fun h8 => absurd h8 (h.mp h9)⟩

theorem yc_wh3 {L : Nat} {σ : Nat → Int32} {d : Nat} {H : zp_H} {x1 x2 : Int32} (hB : zk_Bs (zB_c 3) zg zJc H) {S : xSea} (hS : xOk S) (hC : xSC 22 H S) (hM : xCM 22 H S) (h1 : 0 ≤ x1.toInt ∧ x1.toInt < (H.2.1 33 0).toInt) (hk : 0 ≤ x2.toInt ∧ x2.toInt ≤ (H.2.1 36 x1.toInt.toNat).toInt) (hm : (H.2.1 36 x1.toInt.toNat).toInt ≤ 8) (hw : ∀ j, j < x2.toInt.toNat → 0 ≤ (H.2.1 38 (8 * x1.toInt.toNat + j)).toInt ∧ (H.2.1 38 (8 * x1.toInt.toNat + j)).toInt ≤ 3) (hcl : 0 ≤ (H.2.1 34 x1.toInt.toNat).toInt ∧ (H.2.1 34 x1.toInt.toNat).toInt ≤ 63) : ∃ X, zp_Call L σ (d + 7) 123 [.inr (.inr (some 1)), .inl x1, .inl x2] H X ∧ ∃ H1 v, X = (.inl (some (.inr (.inl v))), H1) ∧ xFv 55 H H1 ∧ ∀ k, k < 64 → (yTb v k = true ↔ ∃ h : Nat, xMay S (H.2.1 35 x1.toInt.toNat).toInt (H.2.1 34 x1.toInt.toNat).toInt.toNat (fun m => xRb (H.2.1 37 x1.toInt.toNat) (Int32.ofInt (m : Int))) (fun m => H.2.1 38 (8 * x1.toInt.toNat + m)) (fun m => H.2.1 39 (8 * x1.toInt.toNat + m)) x2.toInt.toNat h k) := by
  have W := zB_Wd (zB_dn (zB_Bc hB))
  have g5 : H.2.2.2 0 5 = some 23 := hB.2.1 0 5 _ rfl
  have g6 : H.2.2.2 0 6 = some 34 := hB.2.1 0 6 _ rfl
  have g7 : H.2.2.2 0 7 = some 3 := hB.2.1 0 7 _ rfl
  have g8 : H.2.2.2 0 8 = some 14 := hB.2.1 0 8 _ rfl
  have r33_0 := zB_fr1 (zB_dn (zB_Bc hB)) (p := 33) (k := 0) (r := (0, 8)) rfl
  have r33_0 : 0 ≤ (H.2.1 33 0).toInt ∧ (H.2.1 33 0).toInt ≤ 8 := r33_0
  obtain ⟨_, q1, H1, v, rfl, q2, q3⟩ := yc_cb22 (L := L) (σ := σ) (d := d) (s := x1) (kk := x2) hS hC hM ⟨h1.1, by omega⟩ ⟨hk.1, by omega⟩ hw hcl W
  refine zw_met zm_123_t rfl rfl ?_
  refine zw_ld (n := 1) (k := 0) (f := zp_isR) (pc' := 1) rfl rfl rfl rfl rfl ?_
  refine zw_ld (n := 1) (k := 1) (f := zp_isI) (pc' := 2) rfl rfl rfl rfl rfl ?_
  refine zw_ctn (pc' := 5) (c' := (1, 6)) (zw_cv (q := 0) (Y := zm_108) W.1 rfl rfl zm_108_t rfl rfl) (zw_pb_ok rfl) rfl rfl rfl rfl (yc_ns1_3 hB h1) ?_
  refine zw_ld (n := 1) (k := 2) (f := zp_isI) (pc' := 6) rfl rfl rfl rfl rfl ?_
  refine zw_blt1 (g := 22) (pc' := 9) rfl rfl rfl rfl (fun h2 => ?_) (fun h2 => ?_)
  · omega
  · refine zw_ld (n := 1) (k := 2) (f := zp_isI) (pc' := 10) rfl rfl rfl rfl rfl ?_
    refine zw_ld (n := 1) (k := 0) (f := zp_isR) (pc' := 11) rfl rfl rfl rfl rfl ?_
    refine zw_gR (q := 0) (pc' := 14) W rfl rfl rfl rfl g6 rfl ?_
    refine zw_gR (q := 33) (pc' := 17) W rfl rfl rfl rfl (W.2 33 3 _ rfl) rfl ?_
    refine zw_ld (n := 1) (k := 1) (f := zp_isI) (pc' := 18) rfl rfl rfl rfl rfl ?_
    refine zw_ia (q := 36) (pc' := 19) W rfl rfl (by decide) (⟨h1.1, by show _ < ((8 : Nat) : Int); omega⟩) rfl rfl ?_
    refine zw_ble2 (g := 33) (pc' := 22) rfl rfl rfl rfl rfl (fun h3 => ?_) (fun h3 => ?_)
    · refine zw_ld (n := 1) (k := 0) (f := zp_isR) (pc' := 34) rfl rfl rfl rfl rfl ?_
      refine zw_gR (q := 0) (pc' := 37) W rfl rfl rfl rfl (W.2 0 13 _ rfl) rfl ?_
      refine zw_ld (n := 1) (k := 0) (f := zp_isR) (pc' := 38) rfl rfl rfl rfl rfl ?_
      refine zw_gR (q := 0) (pc' := 41) W rfl rfl rfl rfl g5 rfl ?_
      refine zw_ld (n := 1) (k := 0) (f := zp_isR) (pc' := 42) rfl rfl rfl rfl rfl ?_
      refine zw_gR (q := 0) (pc' := 45) W rfl rfl rfl rfl g6 rfl ?_
      refine zw_ld (n := 1) (k := 1) (f := zp_isI) (pc' := 46) rfl rfl rfl rfl rfl ?_
      refine zw_ld (n := 1) (k := 2) (f := zp_isI) (pc' := 47) rfl rfl rfl rfl rfl ?_
      refine zw_c (pc' := 50) (zw_cv (q := 55) (Y := zm_124) W.1 rfl rfl zm_124_t rfl rfl) rfl rfl rfl rfl rfl (q1) ?_
      refine zw_rlh rfl rfl ⟨by decide, by decide⟩ ?_
      exact ⟨H1, v, rfl, q2, q3⟩
    · omega

theorem yl_wh3 {L : Nat} {σ : Nat → Int32} {d : Nat} {H : zp_H} {x1 x2 : Int32} (hB : zk_Bs (zB_c 3) zg zJc H) {S : xSea} (hS : xOk S) (hC : xSC 22 H S) (hM : xCM 22 H S) (h1 : 0 ≤ x1.toInt ∧ x1.toInt < (H.2.1 33 0).toInt) (hk : 0 ≤ x2.toInt ∧ x2.toInt ≤ (H.2.1 36 x1.toInt.toNat).toInt) (hm : (H.2.1 36 x1.toInt.toNat).toInt ≤ 8) (hw : ∀ j, j < x2.toInt.toNat → 0 ≤ (H.2.1 38 (8 * x1.toInt.toNat + j)).toInt ∧ (H.2.1 38 (8 * x1.toInt.toNat + j)).toInt ≤ 3) (hcl : 0 ≤ (H.2.1 34 x1.toInt.toNat).toInt ∧ (H.2.1 34 x1.toInt.toNat).toInt ≤ 63) : ∃ H1 v, zp_Call L σ (d + 8) 122 [.inr (.inr (some 1)), .inl x1, .inl x2, .inr (.inr (some 105))] H (.inl (some (.inl (Int32.ofInt 0))), zw_J H1 104 0 v) ∧ xFv 55 H H1 ∧ ∀ k, k < 64 → (yTb v k = true ↔ ∃ h : Nat, xMay S (H.2.1 35 x1.toInt.toNat).toInt (H.2.1 34 x1.toInt.toNat).toInt.toNat (fun m => xRb (H.2.1 37 x1.toInt.toNat) (Int32.ofInt (m : Int))) (fun m => H.2.1 38 (8 * x1.toInt.toNat + m)) (fun m => H.2.1 39 (8 * x1.toInt.toNat + m)) x2.toInt.toNat h k) := by
  obtain ⟨_, q1, H1, v, rfl, q2, q3⟩ := yc_wh3 (L := L) (σ := σ) (d := d) hB hS hC hM h1 hk hm hw hcl
  have W := zB_Wd (zB_dn (zB_Bc hB))
  have W1 := xFv_W q2 W
  refine ⟨H1, v, zw_ex (zw_met zm_122_t rfl rfl ?_), q2, q3⟩
  refine zw_ld (n := 1) (k := 3) (f := zp_isR) (pc' := 1) rfl rfl rfl rfl rfl ?_
  refine zw_s (pc' := 2) rfl rfl ?_
  refine zw_ld (n := 1) (k := 0) (f := zp_isR) (pc' := 3) rfl rfl rfl rfl rfl ?_
  refine zw_ld (n := 1) (k := 1) (f := zp_isI) (pc' := 4) rfl rfl rfl rfl rfl ?_
  refine zw_ld (n := 1) (k := 2) (f := zp_isI) (pc' := 5) rfl rfl rfl rfl rfl ?_
  refine zw_ct (pc' := 8) (c' := (2, 12)) (zw_cv (q := 0) (Y := zm_123) W.1 rfl rfl zm_123_t rfl rfl) (zw_pb_ok rfl) rfl rfl rfl rfl (q1) ?_
  refine zw_ls (q := 104) (pc' := 9) W1 rfl rfl (⟨by decide, by decide⟩) rfl ?_
  refine zw_s (pc' := 16) rfl rfl ?_
  refine zw_s (pc' := 17) rfl rfl ?_
  refine zw_rig rfl rfl ⟨by decide, by decide⟩ ?_
  rfl

theorem yc_whn3 {L : Nat} {σ : Nat → Int32} {d : Nat} {H : zp_H} {x1 x2 : Int32} (hB : zk_Bs (zB_c 3) zg zJc H) (h : ¬ ((0 ≤ x1.toInt ∧ x1.toInt < (H.2.1 33 0).toInt) ∧ 0 ≤ x2.toInt ∧ x2.toInt ≤ (H.2.1 36 x1.toInt.toNat).toInt)) : zp_Call L σ (d + 2) 123 [.inr (.inr (some 1)), .inl x1, .inl x2] H (.inr 0, H) := by
  have W := zB_Wd (zB_dn (zB_Bc hB))
  have g5 : H.2.2.2 0 5 = some 23 := hB.2.1 0 5 _ rfl
  have g6 : H.2.2.2 0 6 = some 34 := hB.2.1 0 6 _ rfl
  have g7 : H.2.2.2 0 7 = some 3 := hB.2.1 0 7 _ rfl
  have g8 : H.2.2.2 0 8 = some 14 := hB.2.1 0 8 _ rfl
  have r33_0 := zB_fr1 (zB_dn (zB_Bc hB)) (p := 33) (k := 0) (r := (0, 8)) rfl
  have r33_0 : 0 ≤ (H.2.1 33 0).toInt ∧ (H.2.1 33 0).toInt ≤ 8 := r33_0
  refine zw_ex (zw_met zm_123_t rfl rfl ?_)
  refine zw_ld (n := 1) (k := 0) (f := zp_isR) (pc' := 1) rfl rfl rfl rfl rfl ?_
  refine zw_ld (n := 1) (k := 1) (f := zp_isI) (pc' := 2) rfl rfl rfl rfl rfl ?_
  by_cases h1 : 0 ≤ x1.toInt ∧ x1.toInt < (H.2.1 33 0).toInt
  · refine zw_ctn (pc' := 5) (c' := (1, 6)) (zw_cv (q := 0) (Y := zm_108) W.1 rfl rfl zm_108_t rfl rfl) (zw_pb_ok rfl) rfl rfl rfl rfl (yc_ns1_3 hB h1) ?_
    refine zw_ld (n := 1) (k := 2) (f := zp_isI) (pc' := 6) rfl rfl rfl rfl rfl ?_
    refine zw_blt1 (g := 22) (pc' := 9) rfl rfl rfl rfl (fun h2 => ?_) (fun h2 => ?_)
    · exact zs_end (S := (22, _, [], H, (1, 6))) (X := (.inr 0, H)) rfl rfl rfl
    · refine zw_ld (n := 1) (k := 2) (f := zp_isI) (pc' := 10) rfl rfl rfl rfl rfl ?_
      refine zw_ld (n := 1) (k := 0) (f := zp_isR) (pc' := 11) rfl rfl rfl rfl rfl ?_
      refine zw_gR (q := 0) (pc' := 14) W rfl rfl rfl rfl g6 rfl ?_
      refine zw_gR (q := 33) (pc' := 17) W rfl rfl rfl rfl (W.2 33 3 _ rfl) rfl ?_
      refine zw_ld (n := 1) (k := 1) (f := zp_isI) (pc' := 18) rfl rfl rfl rfl rfl ?_
      refine zw_ia (q := 36) (pc' := 19) W rfl rfl (by decide) (⟨h1.1, by show _ < ((8 : Nat) : Int); omega⟩) rfl rfl ?_
      refine zw_ble2 (g := 33) (pc' := 22) rfl rfl rfl rfl rfl (fun h3 => ?_) (fun h3 => ?_)
      · exact absurd ⟨h1, h2, h3⟩ h
      · exact zs_end (S := (22, _, [], H, (1, 6))) (X := (.inr 0, H)) rfl rfl rfl
  · refine zw_cthr (ex := 0) (zw_cv (q := 0) (Y := zm_108) W.1 rfl rfl zm_108_t rfl rfl) (zw_pb_ok rfl) rfl rfl (yc_ns0_3 hB h1) ?_
    rfl

theorem yl_whn3 {L : Nat} {σ : Nat → Int32} {d : Nat} {H : zp_H} {x1 x2 : Int32} (hB : zk_Bs (zB_c 3) zg zJc H) (h : ¬ ((0 ≤ x1.toInt ∧ x1.toInt < (H.2.1 33 0).toInt) ∧ 0 ≤ x2.toInt ∧ x2.toInt ≤ (H.2.1 36 x1.toInt.toNat).toInt)) : zp_Call L σ (d + 3) 122 [.inr (.inr (some 1)), .inl x1, .inl x2, .inr (.inr (some 105))] H (.inl (some (.inl (Int32.ofInt 1))), H) := by
  have W := zB_Wd (zB_dn (zB_Bc hB))
  refine zw_ex (zw_met zm_122_t rfl rfl ?_)
  refine zw_ld (n := 1) (k := 3) (f := zp_isR) (pc' := 1) rfl rfl rfl rfl rfl ?_
  refine zw_s (pc' := 2) rfl rfl ?_
  refine zw_ld (n := 1) (k := 0) (f := zp_isR) (pc' := 3) rfl rfl rfl rfl rfl ?_
  refine zw_ld (n := 1) (k := 1) (f := zp_isI) (pc' := 4) rfl rfl rfl rfl rfl ?_
  refine zw_ld (n := 1) (k := 2) (f := zp_isI) (pc' := 5) rfl rfl rfl rfl rfl ?_
  refine zw_cexw (ex := 0) (hp9 := 12) (k9 := 4) (pc' := 14) (c' := (2, 12)) (zw_cv (q := 0) (Y := zm_123) W.1 rfl rfl zm_123_t rfl rfl) (zw_pb_ok rfl) rfl rfl rfl rfl rfl rfl rfl (yc_whn3 hB h) ?_
  refine zw_s (pc' := 15) rfl rfl ?_
  refine zw_rig rfl rfl ⟨by decide, by decide⟩ ?_
  rfl

theorem xJ_M3 {t : Nat} {H : zp_H} (hI : yJ 3 t H) : xCM 22 H (xSo H) := fun w hw k hk => by
  have h : H.2.2.1 25 w &&& yBit (k : Int) = 0 ↔ (H.2.1 73 k).toInt ≠ (w : Int) := (hI.1.2.2.2.2.2.1).2.2 w k hw hk
  rw [y_bit hk] at h
  show yTb (H.2.2.1 25 w) k = true ↔ (if k < 64 then (H.2.1 73 k).toInt else -1) = (w : Int)
  rw [if_pos hk]
  unfold yTb
  cases h9 : (H.2.2.1 25 w).toBitVec.toNat.testBit k with
  | true => exact ⟨fun _ => Classical.byContradiction (fun h8 => by rw [h.mpr h8] at h9; cases h9), fun _ => rfl⟩
  | false => exact ⟨fun h8 => (by cases h8), fun h8 => absurd h8 (h.mp h9)⟩

theorem yb_where {L : Nat} {σ : Nat → Int32} {d c t : Nat} {H : zp_H} {x1 x2 : Int32} (hI : yJ c t H) : ∃ H1 H2 v w, zp_Call L σ (d + 60) 122 [.inr (.inr (some 1)), .inl x1, .inl x2, .inr (.inr (some 105))] H (.inl (some (.inl v)), H1) ∧ zp_Call L σ (d + 60) 225 [.inr (.inr (some 73)), .inl x1, .inl x2] H1 (.inl (some (.inr (.inl w))), H2) ∧ H1.1 = zB_sh ∧ yJ c t H2 ∧ (H2.2.1 72 0).toInt = v.toInt ∧ (v.toInt = 0 → H2.2.2.1 104 0 = w) := by
  obtain ⟨H1, v, c1, hI1⟩ := yp_where (L := L) (σ := σ) (d := d) (x1 := x1) (x2 := x2) hI
  obtain ⟨H2, w, c2, hI2⟩ := yq_where (L := L) (σ := σ) (d := d) (x1 := x1) (x2 := x2) hI1
  have W1 := zB_Wd (zB_dn (zB_Bc hI1.1.1.1))
  obtain ⟨⟨A, a1, a2, a3⟩, -⟩ := id hI.2
  have hr : yGr H := hI.2.2.2.2.2.2
  have n5 := a3.1
  have n0 := a2.1
  have n8 := a1.1
  have h0 := hI.1.2.2.1
  rcases h0 with rfl | rfl
  · have n0 : (H.2.1 13 0).toInt = A.1 := n0
    by_cases h : (0 ≤ x1.toInt ∧ x1.toInt < (H.2.1 72 5).toInt) ∧ 0 ≤ x2.toInt ∧ x2.toInt ≤ (H.2.1 16 x1.toInt.toNat).toInt
    · obtain ⟨hS, hC⟩ := xJ_S0 hI
      have hM := xJ_M0 hI
      have hs : x1.toInt.toNat < A.1 := by omega
      have h1' : 0 ≤ x1.toInt ∧ x1.toInt < (H.2.1 13 0).toInt := by rw [n0, ← n5]; exact h.1
      have hm := a1.2.2.1 x1.toInt.toNat hs
      have h9s := a1.2.2.2.2 x1.toInt.toNat
      have m3 : H.2.1 16 x1.toInt.toNat = A.2.2.1 x1.toInt.toNat 2 := a2.2.2.1 _ 2 hs (by decide)
      have m1 : H.2.1 14 x1.toInt.toNat = A.2.2.1 x1.toInt.toNat 0 := a2.2.2.1 _ 0 hs (by decide)
      have m2 : H.2.1 15 x1.toInt.toNat = A.2.2.1 x1.toInt.toNat 1 := a2.2.2.1 _ 1 hs (by decide)
      have m4 : H.2.1 17 x1.toInt.toNat = A.2.2.1 x1.toInt.toNat 3 := a2.2.2.1 _ 3 hs (by decide)
      have l0 : H.2.1 74 (4 * x1.toInt.toNat) = A.2.2.1 x1.toInt.toNat 0 := a3.2.2.1 _ 0 hs (by decide)
      have l1 : H.2.1 74 (4 * x1.toInt.toNat + 1) = A.2.2.1 x1.toInt.toNat 1 := a3.2.2.1 _ 1 hs (by decide)
      have l2 : H.2.1 74 (4 * x1.toInt.toNat + 2) = A.2.2.1 x1.toInt.toNat 2 := a3.2.2.1 _ 2 hs (by decide)
      have l3 : H.2.1 74 (4 * x1.toInt.toNat + 3) = A.2.2.1 x1.toInt.toNat 3 := a3.2.2.1 _ 3 hs (by decide)
      have m3t := congrArg Int32.toInt m3
      have sq := xSq4 hS
      have hcl : xIn (xSo H) (H.2.1 74 (4 * x1.toInt.toNat)).toInt := hr.1 x1.toInt.toNat (by omega)
      have hcl : 0 ≤ (H.2.1 14 x1.toInt.toNat).toInt ∧ (H.2.1 14 x1.toInt.toNat).toInt ≤ 63 := by
        rw [m1, ← l0]
        exact ⟨hcl.1, by have := hcl.2; omega⟩
      have gw : ∀ j, j < x2.toInt.toNat → H.2.1 75 (16 * x1.toInt.toNat + 2 * j) = H.2.1 18 (8 * x1.toInt.toNat + j) := fun j hj => (a3.2.2.2.1 _ j 0 hs (by omega) (by decide)).trans (a2.2.2.2.1 _ j 0 hs (by omega) (by decide)).symm
      have gs : ∀ j, j < x2.toInt.toNat → H.2.1 75 (16 * x1.toInt.toNat + 2 * j + 1) = H.2.1 19 (8 * x1.toInt.toNat + j) := fun j hj => (a3.2.2.2.1 _ j 1 hs (by omega) (by decide)).trans (a2.2.2.2.1 _ j 1 hs (by omega) (by decide)).symm
      have gt : ∀ j, j < x2.toInt.toNat → 1 ≤ (H.2.1 75 (16 * x1.toInt.toNat + 2 * j + 1)).toInt ∧ (H.2.1 75 (16 * x1.toInt.toNat + 2 * j + 1)).toInt ≤ 9 := fun j hj => by
        rw [a3.2.2.2.1 _ j 1 hs (by omega) (by decide)]
        exact h9s j hs (by omega)
      have hw : ∀ j, j < x2.toInt.toNat → 0 ≤ (H.2.1 18 (8 * x1.toInt.toNat + j)).toInt ∧ (H.2.1 18 (8 * x1.toInt.toNat + j)).toInt ≤ 3 := fun j hj => zB_ar1 (zB_dn (zB_Bc hI.1.1.1)) (p := 18) (t := 0) (n := 64) (i := 8 * x1.toInt.toNat + j) (r := (0, 3)) rfl (by omega) (by rw [show (zB_al zB_ar 18).1 = 1 from rfl, Nat.mod_one]; rfl)
      obtain ⟨K, v9, k1, k2, k3⟩ := yl_wh0 (L := L) (σ := σ) (d := d + 52) (x1 := x1) (x2 := x2) hI.1.1.1 hS hC hM h1' h.2 (by omega) hw hcl
      have e1 := zp_Call_u c1 k1
      cases e1
      have f4 : ∀ k, (zw_I (zw_J K 104 0 v9) 72 0 (Int32.ofInt 0)).2.1 74 k = H.2.1 74 k := fun k => (zw_ne rfl rfl : _ = K.2.1 74 k).trans (k2.2.2.1 74 k (by decide))
      have f5 : ∀ k, (zw_I (zw_J K 104 0 v9) 72 0 (Int32.ofInt 0)).2.1 75 k = H.2.1 75 k := fun k => (zw_ne rfl rfl : _ = K.2.1 75 k).trans (k2.2.2.1 75 k (by decide))
      obtain ⟨_, j1, J, u, rfl, j2, j3⟩ := yr_whr (L := L) (σ := σ) (d := d + 56) (S := xSo H) (x1 := x1) (x2 := x2) W1 hS (xSR_J (xSR_v k2 (by decide) (xSR_o H))) (by rw [show (zw_J K 104 0 v9).2.1 72 5 = H.2.1 72 5 from k2.2.2.1 72 5 (by decide)]; exact h.1) ⟨h.1.1, by omega⟩ ⟨h.2.1, by omega⟩ (fun j hj => by rw [f5, gw j hj]; exact hw j hj) (fun j hj => by rw [f5]; exact gt j hj) (by rw [f4, l2, ← m3]; exact h.2.2) (by rw [f4, l0, ← m1]; exact hcl)
      have e2 := zp_Call_u c2 j1
      cases e2
      refine ⟨_, _, _, _, c1, c2, hI1.1.1.1.1, hI2, (congrArg Int32.toInt (j2.2.2.1 72 0 (by decide))).trans (congrArg Int32.toInt zw_eq), fun _ => ?_⟩
      have eM : xMay (xSo H) ((zw_I (zw_J K 104 0 v9) 72 0 (Int32.ofInt 0)).2.1 74 (4 * x1.toInt.toNat + 1)).toInt ((zw_I (zw_J K 104 0 v9) 72 0 (Int32.ofInt 0)).2.1 74 (4 * x1.toInt.toNat)).toInt.toNat (fun m => xRb ((zw_I (zw_J K 104 0 v9) 72 0 (Int32.ofInt 0)).2.1 74 (4 * x1.toInt.toNat + 3)) (Int32.ofInt (m : Int))) (fun m => (zw_I (zw_J K 104 0 v9) 72 0 (Int32.ofInt 0)).2.1 75 (16 * x1.toInt.toNat + 2 * m)) (fun m => (zw_I (zw_J K 104 0 v9) 72 0 (Int32.ofInt 0)).2.1 75 (16 * x1.toInt.toNat + 2 * m + 1)) x2.toInt.toNat = xMay (xSo H) (H.2.1 15 x1.toInt.toNat).toInt (H.2.1 14 x1.toInt.toNat).toInt.toNat (fun m => xRb (H.2.1 17 x1.toInt.toNat) (Int32.ofInt (m : Int))) (fun m => H.2.1 18 (8 * x1.toInt.toNat + m)) (fun m => H.2.1 19 (8 * x1.toInt.toNat + m)) x2.toInt.toNat := by
        rw [f4, f4, f4, l0, l1, l3, m1, m2, m4]
        exact xMay_c _ (fun j hj => ⟨rfl, (f5 _).trans (gw j hj), (f5 _).trans (gs j hj)⟩)
      refine ((j2.2.2.2 104 0 (by decide) (by decide)).trans (zp_u_self K.2.2.1 104 0 v9)).trans (tb_ext (fun k hk => ?_))
      rw [k3 k hk, j3 k hk, eM]
      constructor
      · rintro ⟨g, g1⟩
        have := xMay_b (M := x2.toInt.toNat) (fun m hm9 => by
          rw [← gs m hm9]
          have := gt m hm9
          omega) _ (Nat.le_refl _) g k g1
        exact ⟨g, by omega, g1⟩
      · rintro ⟨g, -, g1⟩
        exact ⟨g, g1⟩
    · have hn : ¬ ((0 ≤ x1.toInt ∧ x1.toInt < (H.2.1 72 5).toInt) ∧ 0 ≤ x2.toInt ∧ x2.toInt ≤ ((zw_I H 72 0 (Int32.ofInt 0)).2.1 74 (4 * x1.toInt.toNat + 2)).toInt) := fun h9 => h ⟨h9.1, h9.2.1, by
        have hs : x1.toInt.toNat < A.1 := by have := h9.1; omega
        have m3 : H.2.1 16 x1.toInt.toNat = A.2.2.1 x1.toInt.toNat 2 := a2.2.2.1 _ 2 hs (by decide)
        have l2 : H.2.1 74 (4 * x1.toInt.toNat + 2) = A.2.2.1 x1.toInt.toNat 2 := a3.2.2.1 _ 2 hs (by decide)
        have h8 := h9.2.2
        rw [show (zw_I H 72 0 (Int32.ofInt 0)).2.1 74 (4 * x1.toInt.toNat + 2) = H.2.1 74 (4 * x1.toInt.toNat + 2) from zw_ne rfl rfl, l2, ← m3] at h8
        exact h8⟩
      have e1 := zp_Call_u c1 (yl_whn0 (L := L) (σ := σ) (d := d + 57) hI.1.1.1 (by rw [n0, ← n5]; exact h))
      cases e1
      have e2 := zp_Call_u c2 (yr_whn (L := L) (σ := σ) (d := d + 56) W1 (by omega) hn)
      cases e2
      exact ⟨_, _, _, _, c1, c2, hI1.1.1.1.1, hI2, congrArg Int32.toInt zw_eq, fun h9 => absurd h9 (by decide)⟩
  · have n0 : (H.2.1 33 0).toInt = A.1 := n0
    by_cases h : (0 ≤ x1.toInt ∧ x1.toInt < (H.2.1 72 5).toInt) ∧ 0 ≤ x2.toInt ∧ x2.toInt ≤ (H.2.1 36 x1.toInt.toNat).toInt
    · obtain ⟨hS, hC⟩ := xJ_S3 hI
      have hM := xJ_M3 hI
      have hs : x1.toInt.toNat < A.1 := by omega
      have h1' : 0 ≤ x1.toInt ∧ x1.toInt < (H.2.1 33 0).toInt := by rw [n0, ← n5]; exact h.1
      have hm := a1.2.2.1 x1.toInt.toNat hs
      have h9s := a1.2.2.2.2 x1.toInt.toNat
      have m3 : H.2.1 36 x1.toInt.toNat = A.2.2.1 x1.toInt.toNat 2 := a2.2.2.1 _ 2 hs (by decide)
      have m1 : H.2.1 34 x1.toInt.toNat = A.2.2.1 x1.toInt.toNat 0 := a2.2.2.1 _ 0 hs (by decide)
      have m2 : H.2.1 35 x1.toInt.toNat = A.2.2.1 x1.toInt.toNat 1 := a2.2.2.1 _ 1 hs (by decide)
      have m4 : H.2.1 37 x1.toInt.toNat = A.2.2.1 x1.toInt.toNat 3 := a2.2.2.1 _ 3 hs (by decide)
      have l0 : H.2.1 74 (4 * x1.toInt.toNat) = A.2.2.1 x1.toInt.toNat 0 := a3.2.2.1 _ 0 hs (by decide)
      have l1 : H.2.1 74 (4 * x1.toInt.toNat + 1) = A.2.2.1 x1.toInt.toNat 1 := a3.2.2.1 _ 1 hs (by decide)
      have l2 : H.2.1 74 (4 * x1.toInt.toNat + 2) = A.2.2.1 x1.toInt.toNat 2 := a3.2.2.1 _ 2 hs (by decide)
      have l3 : H.2.1 74 (4 * x1.toInt.toNat + 3) = A.2.2.1 x1.toInt.toNat 3 := a3.2.2.1 _ 3 hs (by decide)
      have m3t := congrArg Int32.toInt m3
      have sq := xSq4 hS
      have hcl : xIn (xSo H) (H.2.1 74 (4 * x1.toInt.toNat)).toInt := hr.1 x1.toInt.toNat (by omega)
      have hcl : 0 ≤ (H.2.1 34 x1.toInt.toNat).toInt ∧ (H.2.1 34 x1.toInt.toNat).toInt ≤ 63 := by
        rw [m1, ← l0]
        exact ⟨hcl.1, by have := hcl.2; omega⟩
      have gw : ∀ j, j < x2.toInt.toNat → H.2.1 75 (16 * x1.toInt.toNat + 2 * j) = H.2.1 38 (8 * x1.toInt.toNat + j) := fun j hj => (a3.2.2.2.1 _ j 0 hs (by omega) (by decide)).trans (a2.2.2.2.1 _ j 0 hs (by omega) (by decide)).symm
      have gs : ∀ j, j < x2.toInt.toNat → H.2.1 75 (16 * x1.toInt.toNat + 2 * j + 1) = H.2.1 39 (8 * x1.toInt.toNat + j) := fun j hj => (a3.2.2.2.1 _ j 1 hs (by omega) (by decide)).trans (a2.2.2.2.1 _ j 1 hs (by omega) (by decide)).symm
      have gt : ∀ j, j < x2.toInt.toNat → 1 ≤ (H.2.1 75 (16 * x1.toInt.toNat + 2 * j + 1)).toInt ∧ (H.2.1 75 (16 * x1.toInt.toNat + 2 * j + 1)).toInt ≤ 9 := fun j hj => by
        rw [a3.2.2.2.1 _ j 1 hs (by omega) (by decide)]
        exact h9s j hs (by omega)
      have hw : ∀ j, j < x2.toInt.toNat → 0 ≤ (H.2.1 38 (8 * x1.toInt.toNat + j)).toInt ∧ (H.2.1 38 (8 * x1.toInt.toNat + j)).toInt ≤ 3 := fun j hj => zB_ar1 (zB_dn (zB_Bc hI.1.1.1)) (p := 38) (t := 0) (n := 64) (i := 8 * x1.toInt.toNat + j) (r := (0, 3)) rfl (by omega) (by rw [show (zB_al zB_ar 38).1 = 1 from rfl, Nat.mod_one]; rfl)
      obtain ⟨K, v9, k1, k2, k3⟩ := yl_wh3 (L := L) (σ := σ) (d := d + 52) (x1 := x1) (x2 := x2) hI.1.1.1 hS hC hM h1' h.2 (by omega) hw hcl
      have e1 := zp_Call_u c1 k1
      cases e1
      have f4 : ∀ k, (zw_I (zw_J K 104 0 v9) 72 0 (Int32.ofInt 0)).2.1 74 k = H.2.1 74 k := fun k => (zw_ne rfl rfl : _ = K.2.1 74 k).trans (k2.2.2.1 74 k (by decide))
      have f5 : ∀ k, (zw_I (zw_J K 104 0 v9) 72 0 (Int32.ofInt 0)).2.1 75 k = H.2.1 75 k := fun k => (zw_ne rfl rfl : _ = K.2.1 75 k).trans (k2.2.2.1 75 k (by decide))
      obtain ⟨_, j1, J, u, rfl, j2, j3⟩ := yr_whr (L := L) (σ := σ) (d := d + 56) (S := xSo H) (x1 := x1) (x2 := x2) W1 hS (xSR_J (xSR_v k2 (by decide) (xSR_o H))) (by rw [show (zw_J K 104 0 v9).2.1 72 5 = H.2.1 72 5 from k2.2.2.1 72 5 (by decide)]; exact h.1) ⟨h.1.1, by omega⟩ ⟨h.2.1, by omega⟩ (fun j hj => by rw [f5, gw j hj]; exact hw j hj) (fun j hj => by rw [f5]; exact gt j hj) (by rw [f4, l2, ← m3]; exact h.2.2) (by rw [f4, l0, ← m1]; exact hcl)
      have e2 := zp_Call_u c2 j1
      cases e2
      refine ⟨_, _, _, _, c1, c2, hI1.1.1.1.1, hI2, (congrArg Int32.toInt (j2.2.2.1 72 0 (by decide))).trans (congrArg Int32.toInt zw_eq), fun _ => ?_⟩
      have eM : xMay (xSo H) ((zw_I (zw_J K 104 0 v9) 72 0 (Int32.ofInt 0)).2.1 74 (4 * x1.toInt.toNat + 1)).toInt ((zw_I (zw_J K 104 0 v9) 72 0 (Int32.ofInt 0)).2.1 74 (4 * x1.toInt.toNat)).toInt.toNat (fun m => xRb ((zw_I (zw_J K 104 0 v9) 72 0 (Int32.ofInt 0)).2.1 74 (4 * x1.toInt.toNat + 3)) (Int32.ofInt (m : Int))) (fun m => (zw_I (zw_J K 104 0 v9) 72 0 (Int32.ofInt 0)).2.1 75 (16 * x1.toInt.toNat + 2 * m)) (fun m => (zw_I (zw_J K 104 0 v9) 72 0 (Int32.ofInt 0)).2.1 75 (16 * x1.toInt.toNat + 2 * m + 1)) x2.toInt.toNat = xMay (xSo H) (H.2.1 35 x1.toInt.toNat).toInt (H.2.1 34 x1.toInt.toNat).toInt.toNat (fun m => xRb (H.2.1 37 x1.toInt.toNat) (Int32.ofInt (m : Int))) (fun m => H.2.1 38 (8 * x1.toInt.toNat + m)) (fun m => H.2.1 39 (8 * x1.toInt.toNat + m)) x2.toInt.toNat := by
        rw [f4, f4, f4, l0, l1, l3, m1, m2, m4]
        exact xMay_c _ (fun j hj => ⟨rfl, (f5 _).trans (gw j hj), (f5 _).trans (gs j hj)⟩)
      refine ((j2.2.2.2 104 0 (by decide) (by decide)).trans (zp_u_self K.2.2.1 104 0 v9)).trans (tb_ext (fun k hk => ?_))
      rw [k3 k hk, j3 k hk, eM]
      constructor
      · rintro ⟨g, g1⟩
        have := xMay_b (M := x2.toInt.toNat) (fun m hm9 => by
          rw [← gs m hm9]
          have := gt m hm9
          omega) _ (Nat.le_refl _) g k g1
        exact ⟨g, by omega, g1⟩
      · rintro ⟨g, -, g1⟩
        exact ⟨g, g1⟩
    · have hn : ¬ ((0 ≤ x1.toInt ∧ x1.toInt < (H.2.1 72 5).toInt) ∧ 0 ≤ x2.toInt ∧ x2.toInt ≤ ((zw_I H 72 0 (Int32.ofInt 0)).2.1 74 (4 * x1.toInt.toNat + 2)).toInt) := fun h9 => h ⟨h9.1, h9.2.1, by
        have hs : x1.toInt.toNat < A.1 := by have := h9.1; omega
        have m3 : H.2.1 36 x1.toInt.toNat = A.2.2.1 x1.toInt.toNat 2 := a2.2.2.1 _ 2 hs (by decide)
        have l2 : H.2.1 74 (4 * x1.toInt.toNat + 2) = A.2.2.1 x1.toInt.toNat 2 := a3.2.2.1 _ 2 hs (by decide)
        have h8 := h9.2.2
        rw [show (zw_I H 72 0 (Int32.ofInt 0)).2.1 74 (4 * x1.toInt.toNat + 2) = H.2.1 74 (4 * x1.toInt.toNat + 2) from zw_ne rfl rfl, l2, ← m3] at h8
        exact h8⟩
      have e1 := zp_Call_u c1 (yl_whn3 (L := L) (σ := σ) (d := d + 57) hI.1.1.1 (by rw [n0, ← n5]; exact h))
      cases e1
      have e2 := zp_Call_u c2 (yr_whn (L := L) (σ := σ) (d := d + 56) W1 (by omega) hn)
      cases e2
      exact ⟨_, _, _, _, c1, c2, hI1.1.1.1.1, hI2, congrArg Int32.toInt zw_eq, fun h9 => absurd h9 (by decide)⟩
