/-! ===== mark ===== -/
def zm_109 : za_MI := (yL_mark, method_7_code, 6, (some FieldType.int), 13, 3, 18, [(0, 12, 15, 18)], za_i109)
theorem zm_109_t : za_MT 109 = some zm_109 := rfl
def zm_110 : za_MI := (yX11_mark, prog_1_method_10_code, 4, (some FieldType.int), 11, 3, 18, [], za_i110)
theorem zm_110_t : za_MT 110 = some zm_110 := rfl
def zm_211 : za_MI := (yX12_mark, prog_14_method_51_code, 4, (some FieldType.int), 12, 0, 0, [], za_i211)
theorem zm_211_t : za_MT 211 = some zm_211 := rfl
theorem yc_wayOf13 {L : Nat} {σ : Nat → Int32} {d : Nat} {H : zp_H} (W : zw_W H) {x1 x2 : Int32} (h1 : 0 ≤ x1.toInt ∧ x1.toInt < 8) (h2 : 0 ≤ x2.toInt ∧ x2.toInt < 8) : zp_Call L σ (d + 1) 26 [.inr (.inr (some 14)), .inl x1, .inl x2] H (.inl (some (.inl (H.2.1 18 (8 * x1.toInt.toNat + x2.toInt.toNat)))), H) := by
  have m1 : (x1 * Int32.ofInt 8).toInt = x1.toInt * 8 := zq_mul rfl (by omega) (by omega)
  have m2 : (x1 * Int32.ofInt 8 + x2).toInt = x1.toInt * 8 + x2.toInt := by rw [zq_add (by rw [m1]; omega) (by rw [m1]; omega), m1]
  have m3 : (x1 * Int32.ofInt 8 + x2).toInt.toNat = 8 * x1.toInt.toNat + x2.toInt.toNat := by omega
  refine zw_ex (zw_met zm_26_t rfl rfl ?_)
  refine zw_ld (n := 1) (k := 0) (f := zp_isR) (pc' := 1) rfl rfl rfl rfl rfl ?_
  refine zw_gR (q := 13) (pc' := 4) W rfl rfl rfl rfl (W.2 13 5 _ rfl) rfl ?_
  refine zw_ld (n := 1) (k := 1) (f := zp_isI) (pc' := 5) rfl rfl rfl rfl rfl ?_
  refine zw_s (pc' := 7) rfl rfl ?_
  refine zw_imul (pc' := 8) rfl rfl ?_
  refine zw_ld (n := 1) (k := 2) (f := zp_isI) (pc' := 9) rfl rfl rfl rfl rfl ?_
  refine zw_iadd (pc' := 10) rfl rfl ?_
  refine zw_ia (q := 18) (pc' := 11) W rfl rfl (by decide) (⟨by omega, by show _ < ((64 : Nat) : Int); omega⟩) rfl rfl ?_
  refine zw_ri rfl rfl ?_
  rw [m3]

theorem yc_stepsOf13 {L : Nat} {σ : Nat → Int32} {d : Nat} {H : zp_H} (W : zw_W H) {x1 x2 : Int32} (h1 : 0 ≤ x1.toInt ∧ x1.toInt < 8) (h2 : 0 ≤ x2.toInt ∧ x2.toInt < 8) : zp_Call L σ (d + 1) 27 [.inr (.inr (some 14)), .inl x1, .inl x2] H (.inl (some (.inl (H.2.1 19 (8 * x1.toInt.toNat + x2.toInt.toNat)))), H) := by
  have m1 : (x1 * Int32.ofInt 8).toInt = x1.toInt * 8 := zq_mul rfl (by omega) (by omega)
  have m2 : (x1 * Int32.ofInt 8 + x2).toInt = x1.toInt * 8 + x2.toInt := by rw [zq_add (by rw [m1]; omega) (by rw [m1]; omega), m1]
  have m3 : (x1 * Int32.ofInt 8 + x2).toInt.toNat = 8 * x1.toInt.toNat + x2.toInt.toNat := by omega
  refine zw_ex (zw_met zm_27_t rfl rfl ?_)
  refine zw_ld (n := 1) (k := 0) (f := zp_isR) (pc' := 1) rfl rfl rfl rfl rfl ?_
  refine zw_gR (q := 13) (pc' := 4) W rfl rfl rfl rfl (W.2 13 6 _ rfl) rfl ?_
  refine zw_ld (n := 1) (k := 1) (f := zp_isI) (pc' := 5) rfl rfl rfl rfl rfl ?_
  refine zw_s (pc' := 7) rfl rfl ?_
  refine zw_imul (pc' := 8) rfl rfl ?_
  refine zw_ld (n := 1) (k := 2) (f := zp_isI) (pc' := 9) rfl rfl rfl rfl rfl ?_
  refine zw_iadd (pc' := 10) rfl rfl ?_
  refine zw_ia (q := 19) (pc' := 11) W rfl rfl (by decide) (⟨by omega, by show _ < ((64 : Nat) : Int); omega⟩) rfl rfl ?_
  refine zw_ri rfl rfl ?_
  rw [m3]

theorem yc_mk0_0 {L : Nat} {σ : Nat → Int32} {d : Nat} {H : zp_H} {x1 x2 : Int32} (hB : zk_Bs (zB_c 0) zg zJc H) (hs : 0 ≤ x1.toInt ∧ x1.toInt < (H.2.1 13 0).toInt) (hi : 0 ≤ x2.toInt ∧ x2.toInt < (H.2.1 16 x1.toInt.toNat).toInt) (h8 : (H.2.1 16 x1.toInt.toNat).toInt ≤ 8) : zp_Call L σ (d + 2) 110 [.inr (.inr (some 1)), .inl x1, .inl x2, .inl (Int32.ofInt 0)] H (.inl (some (.inl (H.2.1 18 (8 * x1.toInt.toNat + x2.toInt.toNat)))), H) := by
  have W := zB_Wd (zB_dn (zB_Bc hB))
  have g5 : H.2.2.2 0 5 = some 3 := hB.2.1 0 5 _ rfl
  have g6 : H.2.2.2 0 6 = some 14 := hB.2.1 0 6 _ rfl
  have g7 : H.2.2.2 0 7 = some 23 := hB.2.1 0 7 _ rfl
  have g8 : H.2.2.2 0 8 = some 34 := hB.2.1 0 8 _ rfl
  have r13_0 := zB_fr1 (zB_dn (zB_Bc hB)) (p := 13) (k := 0) (r := (0, 8)) rfl
  have r13_0 : 0 ≤ (H.2.1 13 0).toInt ∧ (H.2.1 13 0).toInt ≤ 8 := r13_0
  refine zw_ex (zw_met zm_110_t rfl rfl ?_)
  refine zw_ld (n := 1) (k := 0) (f := zp_isR) (pc' := 1) rfl rfl rfl rfl rfl ?_
  refine zw_ld (n := 1) (k := 1) (f := zp_isI) (pc' := 2) rfl rfl rfl rfl rfl ?_
  refine zw_ctn (pc' := 5) (c' := (1, 6)) (zw_cv (q := 0) (Y := zm_108) W.1 rfl rfl zm_108_t rfl rfl) (zw_pb_ok rfl) rfl rfl rfl rfl (yc_ns1_0 hB hs) ?_
  refine zw_ld (n := 1) (k := 3) (f := zp_isI) (pc' := 6) rfl rfl rfl rfl rfl ?_
  refine zw_s (pc' := 7) rfl rfl ?_
  refine zw_ctn (pc' := 10) (c' := (2, 12)) (zw_cs (Y := zm_104) rfl rfl zm_104_t) (zw_pb_ok rfl) rfl rfl rfl rfl (yc_nw1 ⟨by decide, by decide⟩) ?_
  refine zw_ld (n := 1) (k := 2) (f := zp_isI) (pc' := 11) rfl rfl rfl rfl rfl ?_
  refine zw_blt1 (g := 27) (pc' := 14) rfl rfl rfl rfl (fun h1 => ?_) (fun h1 => ?_)
  · omega
  · refine zw_ld (n := 1) (k := 2) (f := zp_isI) (pc' := 15) rfl rfl rfl rfl rfl ?_
    refine zw_ld (n := 1) (k := 0) (f := zp_isR) (pc' := 16) rfl rfl rfl rfl rfl ?_
    refine zw_gR (q := 0) (pc' := 19) W rfl rfl rfl rfl g6 rfl ?_
    refine zw_gR (q := 13) (pc' := 22) W rfl rfl rfl rfl (W.2 13 3 _ rfl) rfl ?_
    refine zw_ld (n := 1) (k := 1) (f := zp_isI) (pc' := 23) rfl rfl rfl rfl rfl ?_
    refine zw_ia (q := 16) (pc' := 24) W rfl rfl (by decide) (⟨hs.1, by show _ < ((8 : Nat) : Int); omega⟩) rfl rfl ?_
    refine zw_blt2 (g := 37) (pc' := 27) rfl rfl rfl rfl rfl (fun h2 => ?_) (fun h2 => ?_)
    · refine zw_ld (n := 1) (k := 3) (f := zp_isI) (pc' := 38) rfl rfl rfl rfl rfl ?_
      refine zw_bne1 (g := 53) (pc' := 41) rfl rfl rfl (rfl : _ = (0 : Int)) (fun h9 => absurd h9 (by decide)) (fun h3 => ?_)
      refine zw_ld (n := 1) (k := 0) (f := zp_isR) (pc' := 42) rfl rfl rfl rfl rfl ?_
      refine zw_gR (q := 0) (pc' := 45) W rfl rfl rfl rfl g6 rfl ?_
      refine zw_ld (n := 1) (k := 1) (f := zp_isI) (pc' := 46) rfl rfl rfl rfl rfl ?_
      refine zw_ld (n := 1) (k := 2) (f := zp_isI) (pc' := 47) rfl rfl rfl rfl rfl ?_
      refine zw_c (pc' := 50) (zw_cv (q := 13) (Y := zm_26) W.1 rfl rfl zm_26_t rfl rfl) rfl rfl rfl rfl rfl (yc_wayOf13 W ⟨hs.1, by omega⟩ ⟨hi.1, by omega⟩) ?_
      refine zw_s (pc' := 62) rfl rfl ?_
      refine zw_rig rfl rfl ⟨by decide, by decide⟩ ?_
      rfl
    · omega

theorem yl_mk0_0 {L : Nat} {σ : Nat → Int32} {d : Nat} {H : zp_H} {x1 x2 : Int32} (hB : zk_Bs (zB_c 0) zg zJc H) (hs : 0 ≤ x1.toInt ∧ x1.toInt < (H.2.1 13 0).toInt) (hi : 0 ≤ x2.toInt ∧ x2.toInt < (H.2.1 16 x1.toInt.toNat).toInt) (h8 : (H.2.1 16 x1.toInt.toNat).toInt ≤ 8) : zp_Call L σ (d + 3) 109 [.inr (.inr (some 1)), .inl x1, .inl x2, .inl (Int32.ofInt 0), .inr (.inr (some 105))] H (.inl (some (.inl (Int32.ofInt 0))), zw_J H 104 0 (H.2.1 18 (8 * x1.toInt.toNat + x2.toInt.toNat)).toInt64) := by
  have W := zB_Wd (zB_dn (zB_Bc hB))
  refine zw_ex (zw_met zm_109_t rfl rfl ?_)
  refine zw_ld (n := 2) (k := 4) (f := zp_isR) (pc' := 2) rfl rfl rfl rfl rfl ?_
  refine zw_s (pc' := 3) rfl rfl ?_
  refine zw_ld (n := 1) (k := 0) (f := zp_isR) (pc' := 4) rfl rfl rfl rfl rfl ?_
  refine zw_ld (n := 1) (k := 1) (f := zp_isI) (pc' := 5) rfl rfl rfl rfl rfl ?_
  refine zw_ld (n := 1) (k := 2) (f := zp_isI) (pc' := 6) rfl rfl rfl rfl rfl ?_
  refine zw_ld (n := 1) (k := 3) (f := zp_isI) (pc' := 7) rfl rfl rfl rfl rfl ?_
  refine zw_ct (pc' := 10) (c' := (3, 18)) (zw_cv (q := 0) (Y := zm_110) W.1 rfl rfl zm_110_t rfl rfl) (zw_pb_ok rfl) rfl rfl rfl rfl (yc_mk0_0 hB hs hi h8) ?_
  refine zw_s (pc' := 11) rfl rfl ?_
  refine zw_ls (q := 104) (pc' := 12) W rfl rfl (⟨by decide, by decide⟩) rfl ?_
  refine zw_s (pc' := 19) rfl rfl ?_
  refine zw_s (pc' := 20) rfl rfl ?_
  refine zw_rig rfl rfl ⟨by decide, by decide⟩ ?_
  rfl

theorem yc_mk0_1 {L : Nat} {σ : Nat → Int32} {d : Nat} {H : zp_H} {x1 x2 : Int32} (hB : zk_Bs (zB_c 0) zg zJc H) (hs : 0 ≤ x1.toInt ∧ x1.toInt < (H.2.1 13 0).toInt) (hi : 0 ≤ x2.toInt ∧ x2.toInt < (H.2.1 16 x1.toInt.toNat).toInt) (h8 : (H.2.1 16 x1.toInt.toNat).toInt ≤ 8) : zp_Call L σ (d + 2) 110 [.inr (.inr (some 1)), .inl x1, .inl x2, .inl (Int32.ofInt 1)] H (.inl (some (.inl (H.2.1 19 (8 * x1.toInt.toNat + x2.toInt.toNat)))), H) := by
  have W := zB_Wd (zB_dn (zB_Bc hB))
  have g5 : H.2.2.2 0 5 = some 3 := hB.2.1 0 5 _ rfl
  have g6 : H.2.2.2 0 6 = some 14 := hB.2.1 0 6 _ rfl
  have g7 : H.2.2.2 0 7 = some 23 := hB.2.1 0 7 _ rfl
  have g8 : H.2.2.2 0 8 = some 34 := hB.2.1 0 8 _ rfl
  have r13_0 := zB_fr1 (zB_dn (zB_Bc hB)) (p := 13) (k := 0) (r := (0, 8)) rfl
  have r13_0 : 0 ≤ (H.2.1 13 0).toInt ∧ (H.2.1 13 0).toInt ≤ 8 := r13_0
  refine zw_ex (zw_met zm_110_t rfl rfl ?_)
  refine zw_ld (n := 1) (k := 0) (f := zp_isR) (pc' := 1) rfl rfl rfl rfl rfl ?_
  refine zw_ld (n := 1) (k := 1) (f := zp_isI) (pc' := 2) rfl rfl rfl rfl rfl ?_
  refine zw_ctn (pc' := 5) (c' := (1, 6)) (zw_cv (q := 0) (Y := zm_108) W.1 rfl rfl zm_108_t rfl rfl) (zw_pb_ok rfl) rfl rfl rfl rfl (yc_ns1_0 hB hs) ?_
  refine zw_ld (n := 1) (k := 3) (f := zp_isI) (pc' := 6) rfl rfl rfl rfl rfl ?_
  refine zw_s (pc' := 7) rfl rfl ?_
  refine zw_ctn (pc' := 10) (c' := (2, 12)) (zw_cs (Y := zm_104) rfl rfl zm_104_t) (zw_pb_ok rfl) rfl rfl rfl rfl (yc_nw1 ⟨by decide, by decide⟩) ?_
  refine zw_ld (n := 1) (k := 2) (f := zp_isI) (pc' := 11) rfl rfl rfl rfl rfl ?_
  refine zw_blt1 (g := 27) (pc' := 14) rfl rfl rfl rfl (fun h1 => ?_) (fun h1 => ?_)
  · omega
  · refine zw_ld (n := 1) (k := 2) (f := zp_isI) (pc' := 15) rfl rfl rfl rfl rfl ?_
    refine zw_ld (n := 1) (k := 0) (f := zp_isR) (pc' := 16) rfl rfl rfl rfl rfl ?_
    refine zw_gR (q := 0) (pc' := 19) W rfl rfl rfl rfl g6 rfl ?_
    refine zw_gR (q := 13) (pc' := 22) W rfl rfl rfl rfl (W.2 13 3 _ rfl) rfl ?_
    refine zw_ld (n := 1) (k := 1) (f := zp_isI) (pc' := 23) rfl rfl rfl rfl rfl ?_
    refine zw_ia (q := 16) (pc' := 24) W rfl rfl (by decide) (⟨hs.1, by show _ < ((8 : Nat) : Int); omega⟩) rfl rfl ?_
    refine zw_blt2 (g := 37) (pc' := 27) rfl rfl rfl rfl rfl (fun h2 => ?_) (fun h2 => ?_)
    · refine zw_ld (n := 1) (k := 3) (f := zp_isI) (pc' := 38) rfl rfl rfl rfl rfl ?_
      refine zw_bne1 (g := 53) (pc' := 41) rfl rfl rfl (rfl : _ = (1 : Int)) (fun h3 => ?_) (fun h9 => absurd h9 (by decide))
      refine zw_ld (n := 1) (k := 0) (f := zp_isR) (pc' := 54) rfl rfl rfl rfl rfl ?_
      refine zw_gR (q := 0) (pc' := 57) W rfl rfl rfl rfl g6 rfl ?_
      refine zw_ld (n := 1) (k := 1) (f := zp_isI) (pc' := 58) rfl rfl rfl rfl rfl ?_
      refine zw_ld (n := 1) (k := 2) (f := zp_isI) (pc' := 59) rfl rfl rfl rfl rfl ?_
      refine zw_c (pc' := 62) (zw_cv (q := 13) (Y := zm_27) W.1 rfl rfl zm_27_t rfl rfl) rfl rfl rfl rfl rfl (yc_stepsOf13 W ⟨hs.1, by omega⟩ ⟨hi.1, by omega⟩) ?_
      refine zw_rig rfl rfl ⟨by decide, by decide⟩ ?_
      rfl
    · omega

theorem yl_mk0_1 {L : Nat} {σ : Nat → Int32} {d : Nat} {H : zp_H} {x1 x2 : Int32} (hB : zk_Bs (zB_c 0) zg zJc H) (hs : 0 ≤ x1.toInt ∧ x1.toInt < (H.2.1 13 0).toInt) (hi : 0 ≤ x2.toInt ∧ x2.toInt < (H.2.1 16 x1.toInt.toNat).toInt) (h8 : (H.2.1 16 x1.toInt.toNat).toInt ≤ 8) : zp_Call L σ (d + 3) 109 [.inr (.inr (some 1)), .inl x1, .inl x2, .inl (Int32.ofInt 1), .inr (.inr (some 105))] H (.inl (some (.inl (Int32.ofInt 0))), zw_J H 104 0 (H.2.1 19 (8 * x1.toInt.toNat + x2.toInt.toNat)).toInt64) := by
  have W := zB_Wd (zB_dn (zB_Bc hB))
  refine zw_ex (zw_met zm_109_t rfl rfl ?_)
  refine zw_ld (n := 2) (k := 4) (f := zp_isR) (pc' := 2) rfl rfl rfl rfl rfl ?_
  refine zw_s (pc' := 3) rfl rfl ?_
  refine zw_ld (n := 1) (k := 0) (f := zp_isR) (pc' := 4) rfl rfl rfl rfl rfl ?_
  refine zw_ld (n := 1) (k := 1) (f := zp_isI) (pc' := 5) rfl rfl rfl rfl rfl ?_
  refine zw_ld (n := 1) (k := 2) (f := zp_isI) (pc' := 6) rfl rfl rfl rfl rfl ?_
  refine zw_ld (n := 1) (k := 3) (f := zp_isI) (pc' := 7) rfl rfl rfl rfl rfl ?_
  refine zw_ct (pc' := 10) (c' := (3, 18)) (zw_cv (q := 0) (Y := zm_110) W.1 rfl rfl zm_110_t rfl rfl) (zw_pb_ok rfl) rfl rfl rfl rfl (yc_mk0_1 hB hs hi h8) ?_
  refine zw_s (pc' := 11) rfl rfl ?_
  refine zw_ls (q := 104) (pc' := 12) W rfl rfl (⟨by decide, by decide⟩) rfl ?_
  refine zw_s (pc' := 19) rfl rfl ?_
  refine zw_s (pc' := 20) rfl rfl ?_
  refine zw_rig rfl rfl ⟨by decide, by decide⟩ ?_
  rfl

theorem yc_mkn0 {L : Nat} {σ : Nat → Int32} {d : Nat} {H : zp_H} {x1 x2 x3 : Int32} (hB : zk_Bs (zB_c 0) zg zJc H) (h : ¬ ((0 ≤ x1.toInt ∧ x1.toInt < (H.2.1 13 0).toInt) ∧ (0 ≤ x2.toInt ∧ x2.toInt < (H.2.1 16 x1.toInt.toNat).toInt) ∧ 0 ≤ x3.toInt ∧ x3.toInt ≤ (Int32.ofInt 1).toInt)) : zp_Call L σ (d + 2) 110 [.inr (.inr (some 1)), .inl x1, .inl x2, .inl x3] H (.inr 0, H) := by
  have W := zB_Wd (zB_dn (zB_Bc hB))
  have g5 : H.2.2.2 0 5 = some 3 := hB.2.1 0 5 _ rfl
  have g6 : H.2.2.2 0 6 = some 14 := hB.2.1 0 6 _ rfl
  have g7 : H.2.2.2 0 7 = some 23 := hB.2.1 0 7 _ rfl
  have g8 : H.2.2.2 0 8 = some 34 := hB.2.1 0 8 _ rfl
  have r13_0 := zB_fr1 (zB_dn (zB_Bc hB)) (p := 13) (k := 0) (r := (0, 8)) rfl
  have r13_0 : 0 ≤ (H.2.1 13 0).toInt ∧ (H.2.1 13 0).toInt ≤ 8 := r13_0
  refine zw_ex (zw_met zm_110_t rfl rfl ?_)
  refine zw_ld (n := 1) (k := 0) (f := zp_isR) (pc' := 1) rfl rfl rfl rfl rfl ?_
  refine zw_ld (n := 1) (k := 1) (f := zp_isI) (pc' := 2) rfl rfl rfl rfl rfl ?_
  by_cases hp : 0 ≤ x1.toInt ∧ x1.toInt < (H.2.1 13 0).toInt
  · refine zw_ctn (pc' := 5) (c' := (1, 6)) (zw_cv (q := 0) (Y := zm_108) W.1 rfl rfl zm_108_t rfl rfl) (zw_pb_ok rfl) rfl rfl rfl rfl (yc_ns1_0 hB hp) ?_
    refine zw_ld (n := 1) (k := 3) (f := zp_isI) (pc' := 6) rfl rfl rfl rfl rfl ?_
    refine zw_s (pc' := 7) rfl rfl ?_
    by_cases hw : 0 ≤ x3.toInt ∧ x3.toInt ≤ (Int32.ofInt 1).toInt
    · refine zw_ctn (pc' := 10) (c' := (2, 12)) (zw_cs (Y := zm_104) rfl rfl zm_104_t) (zw_pb_ok rfl) rfl rfl rfl rfl (yc_nw1 hw) ?_
      refine zw_ld (n := 1) (k := 2) (f := zp_isI) (pc' := 11) rfl rfl rfl rfl rfl ?_
      refine zw_blt1 (g := 27) (pc' := 14) rfl rfl rfl rfl (fun h1 => ?_) (fun h1 => ?_)
      · exact zs_end (S := (27, _, [], H, (2, 12))) (X := (.inr 0, H)) rfl rfl rfl
      · refine zw_ld (n := 1) (k := 2) (f := zp_isI) (pc' := 15) rfl rfl rfl rfl rfl ?_
        refine zw_ld (n := 1) (k := 0) (f := zp_isR) (pc' := 16) rfl rfl rfl rfl rfl ?_
        refine zw_gR (q := 0) (pc' := 19) W rfl rfl rfl rfl g6 rfl ?_
        refine zw_gR (q := 13) (pc' := 22) W rfl rfl rfl rfl (W.2 13 3 _ rfl) rfl ?_
        refine zw_ld (n := 1) (k := 1) (f := zp_isI) (pc' := 23) rfl rfl rfl rfl rfl ?_
        refine zw_ia (q := 16) (pc' := 24) W rfl rfl (by decide) (⟨hp.1, by show _ < ((8 : Nat) : Int); omega⟩) rfl rfl ?_
        refine zw_blt2 (g := 37) (pc' := 27) rfl rfl rfl rfl rfl (fun h2 => ?_) (fun h2 => ?_)
        · exact absurd ⟨hp, ⟨by omega, h2⟩, hw⟩ h
        · exact zs_end (S := (27, _, [], H, (2, 12))) (X := (.inr 0, H)) rfl rfl rfl
    · refine zw_cthr (ex := 0) (zw_cs (Y := zm_104) rfl rfl zm_104_t) (zw_pb_ok rfl) rfl rfl (yc_nw0 hw) ?_
      rfl
  · refine zw_cthr (ex := 0) (zw_cv (q := 0) (Y := zm_108) W.1 rfl rfl zm_108_t rfl rfl) (zw_pb_ok rfl) rfl rfl (yc_ns0_0 hB hp) ?_
    rfl

theorem yl_mkn0 {L : Nat} {σ : Nat → Int32} {d : Nat} {H : zp_H} {x1 x2 x3 : Int32} (hB : zk_Bs (zB_c 0) zg zJc H) (h : ¬ ((0 ≤ x1.toInt ∧ x1.toInt < (H.2.1 13 0).toInt) ∧ (0 ≤ x2.toInt ∧ x2.toInt < (H.2.1 16 x1.toInt.toNat).toInt) ∧ 0 ≤ x3.toInt ∧ x3.toInt ≤ (Int32.ofInt 1).toInt)) : zp_Call L σ (d + 3) 109 [.inr (.inr (some 1)), .inl x1, .inl x2, .inl x3, .inr (.inr (some 105))] H (.inl (some (.inl (Int32.ofInt 1))), H) := by
  have W := zB_Wd (zB_dn (zB_Bc hB))
  refine zw_ex (zw_met zm_109_t rfl rfl ?_)
  refine zw_ld (n := 2) (k := 4) (f := zp_isR) (pc' := 2) rfl rfl rfl rfl rfl ?_
  refine zw_s (pc' := 3) rfl rfl ?_
  refine zw_ld (n := 1) (k := 0) (f := zp_isR) (pc' := 4) rfl rfl rfl rfl rfl ?_
  refine zw_ld (n := 1) (k := 1) (f := zp_isI) (pc' := 5) rfl rfl rfl rfl rfl ?_
  refine zw_ld (n := 1) (k := 2) (f := zp_isI) (pc' := 6) rfl rfl rfl rfl rfl ?_
  refine zw_ld (n := 1) (k := 3) (f := zp_isI) (pc' := 7) rfl rfl rfl rfl rfl ?_
  refine zw_cexw (ex := 0) (hp9 := 15) (k9 := 5) (pc' := 17) (c' := (3, 18)) (zw_cv (q := 0) (Y := zm_110) W.1 rfl rfl zm_110_t rfl rfl) (zw_pb_ok rfl) rfl rfl rfl rfl rfl rfl rfl (yc_mkn0 hB h) ?_
  refine zw_s (pc' := 18) rfl rfl ?_
  refine zw_rig rfl rfl ⟨by decide, by decide⟩ ?_
  rfl

theorem yc_wayOf33 {L : Nat} {σ : Nat → Int32} {d : Nat} {H : zp_H} (W : zw_W H) {x1 x2 : Int32} (h1 : 0 ≤ x1.toInt ∧ x1.toInt < 8) (h2 : 0 ≤ x2.toInt ∧ x2.toInt < 8) : zp_Call L σ (d + 1) 26 [.inr (.inr (some 34)), .inl x1, .inl x2] H (.inl (some (.inl (H.2.1 38 (8 * x1.toInt.toNat + x2.toInt.toNat)))), H) := by
  have m1 : (x1 * Int32.ofInt 8).toInt = x1.toInt * 8 := zq_mul rfl (by omega) (by omega)
  have m2 : (x1 * Int32.ofInt 8 + x2).toInt = x1.toInt * 8 + x2.toInt := by rw [zq_add (by rw [m1]; omega) (by rw [m1]; omega), m1]
  have m3 : (x1 * Int32.ofInt 8 + x2).toInt.toNat = 8 * x1.toInt.toNat + x2.toInt.toNat := by omega
  refine zw_ex (zw_met zm_26_t rfl rfl ?_)
  refine zw_ld (n := 1) (k := 0) (f := zp_isR) (pc' := 1) rfl rfl rfl rfl rfl ?_
  refine zw_gR (q := 33) (pc' := 4) W rfl rfl rfl rfl (W.2 33 5 _ rfl) rfl ?_
  refine zw_ld (n := 1) (k := 1) (f := zp_isI) (pc' := 5) rfl rfl rfl rfl rfl ?_
  refine zw_s (pc' := 7) rfl rfl ?_
  refine zw_imul (pc' := 8) rfl rfl ?_
  refine zw_ld (n := 1) (k := 2) (f := zp_isI) (pc' := 9) rfl rfl rfl rfl rfl ?_
  refine zw_iadd (pc' := 10) rfl rfl ?_
  refine zw_ia (q := 38) (pc' := 11) W rfl rfl (by decide) (⟨by omega, by show _ < ((64 : Nat) : Int); omega⟩) rfl rfl ?_
  refine zw_ri rfl rfl ?_
  rw [m3]

theorem yc_stepsOf33 {L : Nat} {σ : Nat → Int32} {d : Nat} {H : zp_H} (W : zw_W H) {x1 x2 : Int32} (h1 : 0 ≤ x1.toInt ∧ x1.toInt < 8) (h2 : 0 ≤ x2.toInt ∧ x2.toInt < 8) : zp_Call L σ (d + 1) 27 [.inr (.inr (some 34)), .inl x1, .inl x2] H (.inl (some (.inl (H.2.1 39 (8 * x1.toInt.toNat + x2.toInt.toNat)))), H) := by
  have m1 : (x1 * Int32.ofInt 8).toInt = x1.toInt * 8 := zq_mul rfl (by omega) (by omega)
  have m2 : (x1 * Int32.ofInt 8 + x2).toInt = x1.toInt * 8 + x2.toInt := by rw [zq_add (by rw [m1]; omega) (by rw [m1]; omega), m1]
  have m3 : (x1 * Int32.ofInt 8 + x2).toInt.toNat = 8 * x1.toInt.toNat + x2.toInt.toNat := by omega
  refine zw_ex (zw_met zm_27_t rfl rfl ?_)
  refine zw_ld (n := 1) (k := 0) (f := zp_isR) (pc' := 1) rfl rfl rfl rfl rfl ?_
  refine zw_gR (q := 33) (pc' := 4) W rfl rfl rfl rfl (W.2 33 6 _ rfl) rfl ?_
  refine zw_ld (n := 1) (k := 1) (f := zp_isI) (pc' := 5) rfl rfl rfl rfl rfl ?_
  refine zw_s (pc' := 7) rfl rfl ?_
  refine zw_imul (pc' := 8) rfl rfl ?_
  refine zw_ld (n := 1) (k := 2) (f := zp_isI) (pc' := 9) rfl rfl rfl rfl rfl ?_
  refine zw_iadd (pc' := 10) rfl rfl ?_
  refine zw_ia (q := 39) (pc' := 11) W rfl rfl (by decide) (⟨by omega, by show _ < ((64 : Nat) : Int); omega⟩) rfl rfl ?_
  refine zw_ri rfl rfl ?_
  rw [m3]

theorem yc_mk3_0 {L : Nat} {σ : Nat → Int32} {d : Nat} {H : zp_H} {x1 x2 : Int32} (hB : zk_Bs (zB_c 3) zg zJc H) (hs : 0 ≤ x1.toInt ∧ x1.toInt < (H.2.1 33 0).toInt) (hi : 0 ≤ x2.toInt ∧ x2.toInt < (H.2.1 36 x1.toInt.toNat).toInt) (h8 : (H.2.1 36 x1.toInt.toNat).toInt ≤ 8) : zp_Call L σ (d + 2) 110 [.inr (.inr (some 1)), .inl x1, .inl x2, .inl (Int32.ofInt 0)] H (.inl (some (.inl (H.2.1 38 (8 * x1.toInt.toNat + x2.toInt.toNat)))), H) := by
  have W := zB_Wd (zB_dn (zB_Bc hB))
  have g5 : H.2.2.2 0 5 = some 23 := hB.2.1 0 5 _ rfl
  have g6 : H.2.2.2 0 6 = some 34 := hB.2.1 0 6 _ rfl
  have g7 : H.2.2.2 0 7 = some 3 := hB.2.1 0 7 _ rfl
  have g8 : H.2.2.2 0 8 = some 14 := hB.2.1 0 8 _ rfl
  have r33_0 := zB_fr1 (zB_dn (zB_Bc hB)) (p := 33) (k := 0) (r := (0, 8)) rfl
  have r33_0 : 0 ≤ (H.2.1 33 0).toInt ∧ (H.2.1 33 0).toInt ≤ 8 := r33_0
  refine zw_ex (zw_met zm_110_t rfl rfl ?_)
  refine zw_ld (n := 1) (k := 0) (f := zp_isR) (pc' := 1) rfl rfl rfl rfl rfl ?_
  refine zw_ld (n := 1) (k := 1) (f := zp_isI) (pc' := 2) rfl rfl rfl rfl rfl ?_
  refine zw_ctn (pc' := 5) (c' := (1, 6)) (zw_cv (q := 0) (Y := zm_108) W.1 rfl rfl zm_108_t rfl rfl) (zw_pb_ok rfl) rfl rfl rfl rfl (yc_ns1_3 hB hs) ?_
  refine zw_ld (n := 1) (k := 3) (f := zp_isI) (pc' := 6) rfl rfl rfl rfl rfl ?_
  refine zw_s (pc' := 7) rfl rfl ?_
  refine zw_ctn (pc' := 10) (c' := (2, 12)) (zw_cs (Y := zm_104) rfl rfl zm_104_t) (zw_pb_ok rfl) rfl rfl rfl rfl (yc_nw1 ⟨by decide, by decide⟩) ?_
  refine zw_ld (n := 1) (k := 2) (f := zp_isI) (pc' := 11) rfl rfl rfl rfl rfl ?_
  refine zw_blt1 (g := 27) (pc' := 14) rfl rfl rfl rfl (fun h1 => ?_) (fun h1 => ?_)
  · omega
  · refine zw_ld (n := 1) (k := 2) (f := zp_isI) (pc' := 15) rfl rfl rfl rfl rfl ?_
    refine zw_ld (n := 1) (k := 0) (f := zp_isR) (pc' := 16) rfl rfl rfl rfl rfl ?_
    refine zw_gR (q := 0) (pc' := 19) W rfl rfl rfl rfl g6 rfl ?_
    refine zw_gR (q := 33) (pc' := 22) W rfl rfl rfl rfl (W.2 33 3 _ rfl) rfl ?_
    refine zw_ld (n := 1) (k := 1) (f := zp_isI) (pc' := 23) rfl rfl rfl rfl rfl ?_
    refine zw_ia (q := 36) (pc' := 24) W rfl rfl (by decide) (⟨hs.1, by show _ < ((8 : Nat) : Int); omega⟩) rfl rfl ?_
    refine zw_blt2 (g := 37) (pc' := 27) rfl rfl rfl rfl rfl (fun h2 => ?_) (fun h2 => ?_)
    · refine zw_ld (n := 1) (k := 3) (f := zp_isI) (pc' := 38) rfl rfl rfl rfl rfl ?_
      refine zw_bne1 (g := 53) (pc' := 41) rfl rfl rfl (rfl : _ = (0 : Int)) (fun h9 => absurd h9 (by decide)) (fun h3 => ?_)
      refine zw_ld (n := 1) (k := 0) (f := zp_isR) (pc' := 42) rfl rfl rfl rfl rfl ?_
      refine zw_gR (q := 0) (pc' := 45) W rfl rfl rfl rfl g6 rfl ?_
      refine zw_ld (n := 1) (k := 1) (f := zp_isI) (pc' := 46) rfl rfl rfl rfl rfl ?_
      refine zw_ld (n := 1) (k := 2) (f := zp_isI) (pc' := 47) rfl rfl rfl rfl rfl ?_
      refine zw_c (pc' := 50) (zw_cv (q := 33) (Y := zm_26) W.1 rfl rfl zm_26_t rfl rfl) rfl rfl rfl rfl rfl (yc_wayOf33 W ⟨hs.1, by omega⟩ ⟨hi.1, by omega⟩) ?_
      refine zw_s (pc' := 62) rfl rfl ?_
      refine zw_rig rfl rfl ⟨by decide, by decide⟩ ?_
      rfl
    · omega

theorem yl_mk3_0 {L : Nat} {σ : Nat → Int32} {d : Nat} {H : zp_H} {x1 x2 : Int32} (hB : zk_Bs (zB_c 3) zg zJc H) (hs : 0 ≤ x1.toInt ∧ x1.toInt < (H.2.1 33 0).toInt) (hi : 0 ≤ x2.toInt ∧ x2.toInt < (H.2.1 36 x1.toInt.toNat).toInt) (h8 : (H.2.1 36 x1.toInt.toNat).toInt ≤ 8) : zp_Call L σ (d + 3) 109 [.inr (.inr (some 1)), .inl x1, .inl x2, .inl (Int32.ofInt 0), .inr (.inr (some 105))] H (.inl (some (.inl (Int32.ofInt 0))), zw_J H 104 0 (H.2.1 38 (8 * x1.toInt.toNat + x2.toInt.toNat)).toInt64) := by
  have W := zB_Wd (zB_dn (zB_Bc hB))
  refine zw_ex (zw_met zm_109_t rfl rfl ?_)
  refine zw_ld (n := 2) (k := 4) (f := zp_isR) (pc' := 2) rfl rfl rfl rfl rfl ?_
  refine zw_s (pc' := 3) rfl rfl ?_
  refine zw_ld (n := 1) (k := 0) (f := zp_isR) (pc' := 4) rfl rfl rfl rfl rfl ?_
  refine zw_ld (n := 1) (k := 1) (f := zp_isI) (pc' := 5) rfl rfl rfl rfl rfl ?_
  refine zw_ld (n := 1) (k := 2) (f := zp_isI) (pc' := 6) rfl rfl rfl rfl rfl ?_
  refine zw_ld (n := 1) (k := 3) (f := zp_isI) (pc' := 7) rfl rfl rfl rfl rfl ?_
  refine zw_ct (pc' := 10) (c' := (3, 18)) (zw_cv (q := 0) (Y := zm_110) W.1 rfl rfl zm_110_t rfl rfl) (zw_pb_ok rfl) rfl rfl rfl rfl (yc_mk3_0 hB hs hi h8) ?_
  refine zw_s (pc' := 11) rfl rfl ?_
  refine zw_ls (q := 104) (pc' := 12) W rfl rfl (⟨by decide, by decide⟩) rfl ?_
  refine zw_s (pc' := 19) rfl rfl ?_
  refine zw_s (pc' := 20) rfl rfl ?_
  refine zw_rig rfl rfl ⟨by decide, by decide⟩ ?_
  rfl

theorem yc_mk3_1 {L : Nat} {σ : Nat → Int32} {d : Nat} {H : zp_H} {x1 x2 : Int32} (hB : zk_Bs (zB_c 3) zg zJc H) (hs : 0 ≤ x1.toInt ∧ x1.toInt < (H.2.1 33 0).toInt) (hi : 0 ≤ x2.toInt ∧ x2.toInt < (H.2.1 36 x1.toInt.toNat).toInt) (h8 : (H.2.1 36 x1.toInt.toNat).toInt ≤ 8) : zp_Call L σ (d + 2) 110 [.inr (.inr (some 1)), .inl x1, .inl x2, .inl (Int32.ofInt 1)] H (.inl (some (.inl (H.2.1 39 (8 * x1.toInt.toNat + x2.toInt.toNat)))), H) := by
  have W := zB_Wd (zB_dn (zB_Bc hB))
  have g5 : H.2.2.2 0 5 = some 23 := hB.2.1 0 5 _ rfl
  have g6 : H.2.2.2 0 6 = some 34 := hB.2.1 0 6 _ rfl
  have g7 : H.2.2.2 0 7 = some 3 := hB.2.1 0 7 _ rfl
  have g8 : H.2.2.2 0 8 = some 14 := hB.2.1 0 8 _ rfl
  have r33_0 := zB_fr1 (zB_dn (zB_Bc hB)) (p := 33) (k := 0) (r := (0, 8)) rfl
  have r33_0 : 0 ≤ (H.2.1 33 0).toInt ∧ (H.2.1 33 0).toInt ≤ 8 := r33_0
  refine zw_ex (zw_met zm_110_t rfl rfl ?_)
  refine zw_ld (n := 1) (k := 0) (f := zp_isR) (pc' := 1) rfl rfl rfl rfl rfl ?_
  refine zw_ld (n := 1) (k := 1) (f := zp_isI) (pc' := 2) rfl rfl rfl rfl rfl ?_
  refine zw_ctn (pc' := 5) (c' := (1, 6)) (zw_cv (q := 0) (Y := zm_108) W.1 rfl rfl zm_108_t rfl rfl) (zw_pb_ok rfl) rfl rfl rfl rfl (yc_ns1_3 hB hs) ?_
  refine zw_ld (n := 1) (k := 3) (f := zp_isI) (pc' := 6) rfl rfl rfl rfl rfl ?_
  refine zw_s (pc' := 7) rfl rfl ?_
  refine zw_ctn (pc' := 10) (c' := (2, 12)) (zw_cs (Y := zm_104) rfl rfl zm_104_t) (zw_pb_ok rfl) rfl rfl rfl rfl (yc_nw1 ⟨by decide, by decide⟩) ?_
  refine zw_ld (n := 1) (k := 2) (f := zp_isI) (pc' := 11) rfl rfl rfl rfl rfl ?_
  refine zw_blt1 (g := 27) (pc' := 14) rfl rfl rfl rfl (fun h1 => ?_) (fun h1 => ?_)
  · omega
  · refine zw_ld (n := 1) (k := 2) (f := zp_isI) (pc' := 15) rfl rfl rfl rfl rfl ?_
    refine zw_ld (n := 1) (k := 0) (f := zp_isR) (pc' := 16) rfl rfl rfl rfl rfl ?_
    refine zw_gR (q := 0) (pc' := 19) W rfl rfl rfl rfl g6 rfl ?_
    refine zw_gR (q := 33) (pc' := 22) W rfl rfl rfl rfl (W.2 33 3 _ rfl) rfl ?_
    refine zw_ld (n := 1) (k := 1) (f := zp_isI) (pc' := 23) rfl rfl rfl rfl rfl ?_
    refine zw_ia (q := 36) (pc' := 24) W rfl rfl (by decide) (⟨hs.1, by show _ < ((8 : Nat) : Int); omega⟩) rfl rfl ?_
    refine zw_blt2 (g := 37) (pc' := 27) rfl rfl rfl rfl rfl (fun h2 => ?_) (fun h2 => ?_)
    · refine zw_ld (n := 1) (k := 3) (f := zp_isI) (pc' := 38) rfl rfl rfl rfl rfl ?_
      refine zw_bne1 (g := 53) (pc' := 41) rfl rfl rfl (rfl : _ = (1 : Int)) (fun h3 => ?_) (fun h9 => absurd h9 (by decide))
      refine zw_ld (n := 1) (k := 0) (f := zp_isR) (pc' := 54) rfl rfl rfl rfl rfl ?_
      refine zw_gR (q := 0) (pc' := 57) W rfl rfl rfl rfl g6 rfl ?_
      refine zw_ld (n := 1) (k := 1) (f := zp_isI) (pc' := 58) rfl rfl rfl rfl rfl ?_
      refine zw_ld (n := 1) (k := 2) (f := zp_isI) (pc' := 59) rfl rfl rfl rfl rfl ?_
      refine zw_c (pc' := 62) (zw_cv (q := 33) (Y := zm_27) W.1 rfl rfl zm_27_t rfl rfl) rfl rfl rfl rfl rfl (yc_stepsOf33 W ⟨hs.1, by omega⟩ ⟨hi.1, by omega⟩) ?_
      refine zw_rig rfl rfl ⟨by decide, by decide⟩ ?_
      rfl
    · omega

theorem yl_mk3_1 {L : Nat} {σ : Nat → Int32} {d : Nat} {H : zp_H} {x1 x2 : Int32} (hB : zk_Bs (zB_c 3) zg zJc H) (hs : 0 ≤ x1.toInt ∧ x1.toInt < (H.2.1 33 0).toInt) (hi : 0 ≤ x2.toInt ∧ x2.toInt < (H.2.1 36 x1.toInt.toNat).toInt) (h8 : (H.2.1 36 x1.toInt.toNat).toInt ≤ 8) : zp_Call L σ (d + 3) 109 [.inr (.inr (some 1)), .inl x1, .inl x2, .inl (Int32.ofInt 1), .inr (.inr (some 105))] H (.inl (some (.inl (Int32.ofInt 0))), zw_J H 104 0 (H.2.1 39 (8 * x1.toInt.toNat + x2.toInt.toNat)).toInt64) := by
  have W := zB_Wd (zB_dn (zB_Bc hB))
  refine zw_ex (zw_met zm_109_t rfl rfl ?_)
  refine zw_ld (n := 2) (k := 4) (f := zp_isR) (pc' := 2) rfl rfl rfl rfl rfl ?_
  refine zw_s (pc' := 3) rfl rfl ?_
  refine zw_ld (n := 1) (k := 0) (f := zp_isR) (pc' := 4) rfl rfl rfl rfl rfl ?_
  refine zw_ld (n := 1) (k := 1) (f := zp_isI) (pc' := 5) rfl rfl rfl rfl rfl ?_
  refine zw_ld (n := 1) (k := 2) (f := zp_isI) (pc' := 6) rfl rfl rfl rfl rfl ?_
  refine zw_ld (n := 1) (k := 3) (f := zp_isI) (pc' := 7) rfl rfl rfl rfl rfl ?_
  refine zw_ct (pc' := 10) (c' := (3, 18)) (zw_cv (q := 0) (Y := zm_110) W.1 rfl rfl zm_110_t rfl rfl) (zw_pb_ok rfl) rfl rfl rfl rfl (yc_mk3_1 hB hs hi h8) ?_
  refine zw_s (pc' := 11) rfl rfl ?_
  refine zw_ls (q := 104) (pc' := 12) W rfl rfl (⟨by decide, by decide⟩) rfl ?_
  refine zw_s (pc' := 19) rfl rfl ?_
  refine zw_s (pc' := 20) rfl rfl ?_
  refine zw_rig rfl rfl ⟨by decide, by decide⟩ ?_
  rfl

theorem yc_mkn3 {L : Nat} {σ : Nat → Int32} {d : Nat} {H : zp_H} {x1 x2 x3 : Int32} (hB : zk_Bs (zB_c 3) zg zJc H) (h : ¬ ((0 ≤ x1.toInt ∧ x1.toInt < (H.2.1 33 0).toInt) ∧ (0 ≤ x2.toInt ∧ x2.toInt < (H.2.1 36 x1.toInt.toNat).toInt) ∧ 0 ≤ x3.toInt ∧ x3.toInt ≤ (Int32.ofInt 1).toInt)) : zp_Call L σ (d + 2) 110 [.inr (.inr (some 1)), .inl x1, .inl x2, .inl x3] H (.inr 0, H) := by
  have W := zB_Wd (zB_dn (zB_Bc hB))
  have g5 : H.2.2.2 0 5 = some 23 := hB.2.1 0 5 _ rfl
  have g6 : H.2.2.2 0 6 = some 34 := hB.2.1 0 6 _ rfl
  have g7 : H.2.2.2 0 7 = some 3 := hB.2.1 0 7 _ rfl
  have g8 : H.2.2.2 0 8 = some 14 := hB.2.1 0 8 _ rfl
  have r33_0 := zB_fr1 (zB_dn (zB_Bc hB)) (p := 33) (k := 0) (r := (0, 8)) rfl
  have r33_0 : 0 ≤ (H.2.1 33 0).toInt ∧ (H.2.1 33 0).toInt ≤ 8 := r33_0
  refine zw_ex (zw_met zm_110_t rfl rfl ?_)
  refine zw_ld (n := 1) (k := 0) (f := zp_isR) (pc' := 1) rfl rfl rfl rfl rfl ?_
  refine zw_ld (n := 1) (k := 1) (f := zp_isI) (pc' := 2) rfl rfl rfl rfl rfl ?_
  by_cases hp : 0 ≤ x1.toInt ∧ x1.toInt < (H.2.1 33 0).toInt
  · refine zw_ctn (pc' := 5) (c' := (1, 6)) (zw_cv (q := 0) (Y := zm_108) W.1 rfl rfl zm_108_t rfl rfl) (zw_pb_ok rfl) rfl rfl rfl rfl (yc_ns1_3 hB hp) ?_
    refine zw_ld (n := 1) (k := 3) (f := zp_isI) (pc' := 6) rfl rfl rfl rfl rfl ?_
    refine zw_s (pc' := 7) rfl rfl ?_
    by_cases hw : 0 ≤ x3.toInt ∧ x3.toInt ≤ (Int32.ofInt 1).toInt
    · refine zw_ctn (pc' := 10) (c' := (2, 12)) (zw_cs (Y := zm_104) rfl rfl zm_104_t) (zw_pb_ok rfl) rfl rfl rfl rfl (yc_nw1 hw) ?_
      refine zw_ld (n := 1) (k := 2) (f := zp_isI) (pc' := 11) rfl rfl rfl rfl rfl ?_
      refine zw_blt1 (g := 27) (pc' := 14) rfl rfl rfl rfl (fun h1 => ?_) (fun h1 => ?_)
      · exact zs_end (S := (27, _, [], H, (2, 12))) (X := (.inr 0, H)) rfl rfl rfl
      · refine zw_ld (n := 1) (k := 2) (f := zp_isI) (pc' := 15) rfl rfl rfl rfl rfl ?_
        refine zw_ld (n := 1) (k := 0) (f := zp_isR) (pc' := 16) rfl rfl rfl rfl rfl ?_
        refine zw_gR (q := 0) (pc' := 19) W rfl rfl rfl rfl g6 rfl ?_
        refine zw_gR (q := 33) (pc' := 22) W rfl rfl rfl rfl (W.2 33 3 _ rfl) rfl ?_
        refine zw_ld (n := 1) (k := 1) (f := zp_isI) (pc' := 23) rfl rfl rfl rfl rfl ?_
        refine zw_ia (q := 36) (pc' := 24) W rfl rfl (by decide) (⟨hp.1, by show _ < ((8 : Nat) : Int); omega⟩) rfl rfl ?_
        refine zw_blt2 (g := 37) (pc' := 27) rfl rfl rfl rfl rfl (fun h2 => ?_) (fun h2 => ?_)
        · exact absurd ⟨hp, ⟨by omega, h2⟩, hw⟩ h
        · exact zs_end (S := (27, _, [], H, (2, 12))) (X := (.inr 0, H)) rfl rfl rfl
    · refine zw_cthr (ex := 0) (zw_cs (Y := zm_104) rfl rfl zm_104_t) (zw_pb_ok rfl) rfl rfl (yc_nw0 hw) ?_
      rfl
  · refine zw_cthr (ex := 0) (zw_cv (q := 0) (Y := zm_108) W.1 rfl rfl zm_108_t rfl rfl) (zw_pb_ok rfl) rfl rfl (yc_ns0_3 hB hp) ?_
    rfl

theorem yl_mkn3 {L : Nat} {σ : Nat → Int32} {d : Nat} {H : zp_H} {x1 x2 x3 : Int32} (hB : zk_Bs (zB_c 3) zg zJc H) (h : ¬ ((0 ≤ x1.toInt ∧ x1.toInt < (H.2.1 33 0).toInt) ∧ (0 ≤ x2.toInt ∧ x2.toInt < (H.2.1 36 x1.toInt.toNat).toInt) ∧ 0 ≤ x3.toInt ∧ x3.toInt ≤ (Int32.ofInt 1).toInt)) : zp_Call L σ (d + 3) 109 [.inr (.inr (some 1)), .inl x1, .inl x2, .inl x3, .inr (.inr (some 105))] H (.inl (some (.inl (Int32.ofInt 1))), H) := by
  have W := zB_Wd (zB_dn (zB_Bc hB))
  refine zw_ex (zw_met zm_109_t rfl rfl ?_)
  refine zw_ld (n := 2) (k := 4) (f := zp_isR) (pc' := 2) rfl rfl rfl rfl rfl ?_
  refine zw_s (pc' := 3) rfl rfl ?_
  refine zw_ld (n := 1) (k := 0) (f := zp_isR) (pc' := 4) rfl rfl rfl rfl rfl ?_
  refine zw_ld (n := 1) (k := 1) (f := zp_isI) (pc' := 5) rfl rfl rfl rfl rfl ?_
  refine zw_ld (n := 1) (k := 2) (f := zp_isI) (pc' := 6) rfl rfl rfl rfl rfl ?_
  refine zw_ld (n := 1) (k := 3) (f := zp_isI) (pc' := 7) rfl rfl rfl rfl rfl ?_
  refine zw_cexw (ex := 0) (hp9 := 15) (k9 := 5) (pc' := 17) (c' := (3, 18)) (zw_cv (q := 0) (Y := zm_110) W.1 rfl rfl zm_110_t rfl rfl) (zw_pb_ok rfl) rfl rfl rfl rfl rfl rfl rfl (yc_mkn3 hB h) ?_
  refine zw_s (pc' := 18) rfl rfl ?_
  refine zw_rig rfl rfl ⟨by decide, by decide⟩ ?_
  rfl

theorem yr_mk0 {L : Nat} {σ : Nat → Int32} {d : Nat} {H : zp_H} (W : zw_W H) {x1 x2 : Int32} (hx : 0 ≤ x1.toInt ∧ x1.toInt < (H.2.1 72 5).toInt) (h8 : x1.toInt < 8) (hi : 0 ≤ x2.toInt ∧ x2.toInt < (H.2.1 74 (4 * x1.toInt.toNat + 2)).toInt) (m8 : (H.2.1 74 (4 * x1.toInt.toNat + 2)).toInt ≤ 8) : zp_Call L σ (d + 3) 211 [.inr (.inr (some 73)), .inl x1, .inl x2, .inl (Int32.ofInt 0)] H (.inl (some (.inl (H.2.1 75 (16 * x1.toInt.toNat + 2 * x2.toInt.toNat + 0)))), zw_I H 72 0 (Int32.ofInt 0)) := by
  have h0 : ((zw_I H 72 0 (Int32.ofInt 0)).2.1 72 0).toInt = 0 := congrArg Int32.toInt zw_eq
  have e5 : (zw_I H 72 0 (Int32.ofInt 0)).2.1 72 5 = H.2.1 72 5 := zw_ne rfl rfl
  have em : (zw_I H 72 0 (Int32.ofInt 0)).2.1 74 (4 * x1.toInt.toNat + 2) = H.2.1 74 (4 * x1.toInt.toNat + 2) := zw_ne rfl rfl
  have em9 : ((zw_I H 72 0 (Int32.ofInt 0)).2.1 74 (4 * x1.toInt.toNat + 2)).toInt = (H.2.1 74 (4 * x1.toInt.toNat + 2)).toInt := congrArg Int32.toInt em
  have i1 : (Int32.ofInt 16 * x1).toInt = 16 * x1.toInt := zt_mul (by decide) (by omega)
  have i2 : (Int32.ofInt 2 * x2).toInt = 2 * x2.toInt := zt_mul (by decide) (by omega)
  have i3 : (Int32.ofInt 16 * x1 + Int32.ofInt 2 * x2).toInt = 16 * x1.toInt + 2 * x2.toInt := by rw [zq_add (by rw [i1, i2]; omega) (by rw [i1, i2]; omega), i1, i2]
  have i4 : (Int32.ofInt 16 * x1 + Int32.ofInt 2 * x2 + Int32.ofInt 0).toInt = 16 * x1.toInt + 2 * x2.toInt + 0 := by rw [zt_add (by decide) (by omega), i3]
  have i5 : (Int32.ofInt 16 * x1 + Int32.ofInt 2 * x2 + Int32.ofInt 0).toInt.toNat = 16 * x1.toInt.toNat + 2 * x2.toInt.toNat + 0 := by omega
  refine zw_ex (zw_met zm_211_t rfl rfl ?_)
  refine zw_ld (n := 1) (k := 0) (f := zp_isR) (pc' := 1) rfl rfl rfl rfl rfl ?_
  refine zw_s (pc' := 2) rfl rfl ?_
  refine zw_pI (q := 72) (pc' := 5) W rfl rfl rfl rfl rfl rfl ?_
  refine zw_ld (n := 1) (k := 0) (f := zp_isR) (pc' := 6) rfl rfl rfl rfl rfl ?_
  refine zw_ld (n := 1) (k := 1) (f := zp_isI) (pc' := 7) rfl rfl rfl rfl rfl ?_
  refine zw_c (pc' := 10) (zw_cv (q := 72) (Y := zm_210) (zw_W_I W).1 rfl rfl zm_210_t rfl rfl) rfl rfl rfl rfl rfl (zq_slate1 (zw_W_I W) h0 (by rw [e5]; exact hx)) ?_
  refine zw_beq1 (g := 66) (pc' := 13) rfl rfl rfl (rfl : _ = (1 : Int)) (fun h9 => absurd h9 (by decide)) (fun h1 => ?_)
  refine zw_ld (n := 1) (k := 0) (f := zp_isR) (pc' := 14) rfl rfl rfl rfl rfl ?_
  refine zw_ld (n := 1) (k := 2) (f := zp_isI) (pc' := 15) rfl rfl rfl rfl rfl ?_
  refine zw_blt1 (g := 31) (pc' := 18) rfl rfl rfl rfl (fun h2 => ?_) (fun h2 => ?_)
  · omega
  · refine zw_ld (n := 1) (k := 2) (f := zp_isI) (pc' := 19) rfl rfl rfl rfl rfl ?_
    refine zw_ld (n := 1) (k := 0) (f := zp_isR) (pc' := 20) rfl rfl rfl rfl rfl ?_
    refine zw_ld (n := 1) (k := 1) (f := zp_isI) (pc' := 21) rfl rfl rfl rfl rfl ?_
    refine zw_c (pc' := 24) (zw_cv (q := 72) (Y := zm_212) (zw_W_I W).1 rfl rfl zm_212_t rfl rfl) rfl rfl rfl rfl rfl (zq_marks (zw_W_I W) ⟨hx.1, by omega⟩) ?_
    refine zw_bge2 (g := 31) (pc' := 27) rfl rfl rfl rfl rfl (fun h3 => ?_) (fun h3 => ?_)
    · omega
    · refine zw_s (pc' := 28) rfl rfl ?_
      refine zw_s (pc' := 32) rfl rfl ?_
      refine zw_s (pc' := 33) rfl rfl ?_
      refine zw_c (pc' := 36) (zw_cv (q := 72) (Y := zm_170) (zw_W_I W).1 rfl rfl zm_170_t rfl rfl) rfl rfl rfl rfl rfl (zq_right1 (zw_W_I W) h0) ?_
      refine zw_beq1 (g := 66) (pc' := 39) rfl rfl rfl (rfl : _ = (1 : Int)) (fun h9 => absurd h9 (by decide)) (fun h4 => ?_)
      refine zw_ld (n := 1) (k := 0) (f := zp_isR) (pc' := 40) rfl rfl rfl rfl rfl ?_
      refine zw_ld (n := 1) (k := 3) (f := zp_isI) (pc' := 41) rfl rfl rfl rfl rfl ?_
      refine zw_s (pc' := 42) rfl rfl ?_
      refine zw_c (pc' := 45) (zw_cv (q := 72) (Y := zm_208) (zw_W_I W).1 rfl rfl zm_208_t rfl rfl) rfl rfl rfl rfl rfl (yr_wh1 (zw_W_I W) h0 ⟨by decide, by decide⟩) ?_
      refine zw_beq1 (g := 66) (pc' := 48) rfl rfl rfl (rfl : _ = (1 : Int)) (fun h9 => absurd h9 (by decide)) (fun h5 => ?_)
      refine zw_ld (n := 1) (k := 0) (f := zp_isR) (pc' := 49) rfl rfl rfl rfl rfl ?_
      refine zw_gR (q := 72) (pc' := 52) (zw_W_I W) rfl rfl rfl rfl ((zw_W_I W).2 72 15 _ rfl) rfl ?_
      refine zw_s (pc' := 54) rfl rfl ?_
      refine zw_ld (n := 1) (k := 1) (f := zp_isI) (pc' := 55) rfl rfl rfl rfl rfl ?_
      refine zw_imul (pc' := 56) rfl rfl ?_
      refine zw_s (pc' := 57) rfl rfl ?_
      refine zw_ld (n := 1) (k := 2) (f := zp_isI) (pc' := 58) rfl rfl rfl rfl rfl ?_
      refine zw_imul (pc' := 59) rfl rfl ?_
      refine zw_iadd (pc' := 60) rfl rfl ?_
      refine zw_ld (n := 1) (k := 3) (f := zp_isI) (pc' := 61) rfl rfl rfl rfl rfl ?_
      refine zw_iadd (pc' := 62) rfl rfl ?_
      refine zw_ia (q := 75) (pc' := 63) (zw_W_I W) rfl rfl (by decide) (⟨by omega, by show _ < ((128 : Nat) : Int); omega⟩) (zw_ne rfl rfl) rfl ?_
      refine zw_s (pc' := 67) rfl rfl ?_
      refine zw_ri rfl rfl ?_
      rw [i5]

theorem yr_mk1 {L : Nat} {σ : Nat → Int32} {d : Nat} {H : zp_H} (W : zw_W H) {x1 x2 : Int32} (hx : 0 ≤ x1.toInt ∧ x1.toInt < (H.2.1 72 5).toInt) (h8 : x1.toInt < 8) (hi : 0 ≤ x2.toInt ∧ x2.toInt < (H.2.1 74 (4 * x1.toInt.toNat + 2)).toInt) (m8 : (H.2.1 74 (4 * x1.toInt.toNat + 2)).toInt ≤ 8) : zp_Call L σ (d + 3) 211 [.inr (.inr (some 73)), .inl x1, .inl x2, .inl (Int32.ofInt 1)] H (.inl (some (.inl (H.2.1 75 (16 * x1.toInt.toNat + 2 * x2.toInt.toNat + 1)))), zw_I H 72 0 (Int32.ofInt 0)) := by
  have h0 : ((zw_I H 72 0 (Int32.ofInt 0)).2.1 72 0).toInt = 0 := congrArg Int32.toInt zw_eq
  have e5 : (zw_I H 72 0 (Int32.ofInt 0)).2.1 72 5 = H.2.1 72 5 := zw_ne rfl rfl
  have em : (zw_I H 72 0 (Int32.ofInt 0)).2.1 74 (4 * x1.toInt.toNat + 2) = H.2.1 74 (4 * x1.toInt.toNat + 2) := zw_ne rfl rfl
  have em9 : ((zw_I H 72 0 (Int32.ofInt 0)).2.1 74 (4 * x1.toInt.toNat + 2)).toInt = (H.2.1 74 (4 * x1.toInt.toNat + 2)).toInt := congrArg Int32.toInt em
  have i1 : (Int32.ofInt 16 * x1).toInt = 16 * x1.toInt := zt_mul (by decide) (by omega)
  have i2 : (Int32.ofInt 2 * x2).toInt = 2 * x2.toInt := zt_mul (by decide) (by omega)
  have i3 : (Int32.ofInt 16 * x1 + Int32.ofInt 2 * x2).toInt = 16 * x1.toInt + 2 * x2.toInt := by rw [zq_add (by rw [i1, i2]; omega) (by rw [i1, i2]; omega), i1, i2]
  have i4 : (Int32.ofInt 16 * x1 + Int32.ofInt 2 * x2 + Int32.ofInt 1).toInt = 16 * x1.toInt + 2 * x2.toInt + 1 := by rw [zt_add (by decide) (by omega), i3]
  have i5 : (Int32.ofInt 16 * x1 + Int32.ofInt 2 * x2 + Int32.ofInt 1).toInt.toNat = 16 * x1.toInt.toNat + 2 * x2.toInt.toNat + 1 := by omega
  refine zw_ex (zw_met zm_211_t rfl rfl ?_)
  refine zw_ld (n := 1) (k := 0) (f := zp_isR) (pc' := 1) rfl rfl rfl rfl rfl ?_
  refine zw_s (pc' := 2) rfl rfl ?_
  refine zw_pI (q := 72) (pc' := 5) W rfl rfl rfl rfl rfl rfl ?_
  refine zw_ld (n := 1) (k := 0) (f := zp_isR) (pc' := 6) rfl rfl rfl rfl rfl ?_
  refine zw_ld (n := 1) (k := 1) (f := zp_isI) (pc' := 7) rfl rfl rfl rfl rfl ?_
  refine zw_c (pc' := 10) (zw_cv (q := 72) (Y := zm_210) (zw_W_I W).1 rfl rfl zm_210_t rfl rfl) rfl rfl rfl rfl rfl (zq_slate1 (zw_W_I W) h0 (by rw [e5]; exact hx)) ?_
  refine zw_beq1 (g := 66) (pc' := 13) rfl rfl rfl (rfl : _ = (1 : Int)) (fun h9 => absurd h9 (by decide)) (fun h1 => ?_)
  refine zw_ld (n := 1) (k := 0) (f := zp_isR) (pc' := 14) rfl rfl rfl rfl rfl ?_
  refine zw_ld (n := 1) (k := 2) (f := zp_isI) (pc' := 15) rfl rfl rfl rfl rfl ?_
  refine zw_blt1 (g := 31) (pc' := 18) rfl rfl rfl rfl (fun h2 => ?_) (fun h2 => ?_)
  · omega
  · refine zw_ld (n := 1) (k := 2) (f := zp_isI) (pc' := 19) rfl rfl rfl rfl rfl ?_
    refine zw_ld (n := 1) (k := 0) (f := zp_isR) (pc' := 20) rfl rfl rfl rfl rfl ?_
    refine zw_ld (n := 1) (k := 1) (f := zp_isI) (pc' := 21) rfl rfl rfl rfl rfl ?_
    refine zw_c (pc' := 24) (zw_cv (q := 72) (Y := zm_212) (zw_W_I W).1 rfl rfl zm_212_t rfl rfl) rfl rfl rfl rfl rfl (zq_marks (zw_W_I W) ⟨hx.1, by omega⟩) ?_
    refine zw_bge2 (g := 31) (pc' := 27) rfl rfl rfl rfl rfl (fun h3 => ?_) (fun h3 => ?_)
    · omega
    · refine zw_s (pc' := 28) rfl rfl ?_
      refine zw_s (pc' := 32) rfl rfl ?_
      refine zw_s (pc' := 33) rfl rfl ?_
      refine zw_c (pc' := 36) (zw_cv (q := 72) (Y := zm_170) (zw_W_I W).1 rfl rfl zm_170_t rfl rfl) rfl rfl rfl rfl rfl (zq_right1 (zw_W_I W) h0) ?_
      refine zw_beq1 (g := 66) (pc' := 39) rfl rfl rfl (rfl : _ = (1 : Int)) (fun h9 => absurd h9 (by decide)) (fun h4 => ?_)
      refine zw_ld (n := 1) (k := 0) (f := zp_isR) (pc' := 40) rfl rfl rfl rfl rfl ?_
      refine zw_ld (n := 1) (k := 3) (f := zp_isI) (pc' := 41) rfl rfl rfl rfl rfl ?_
      refine zw_s (pc' := 42) rfl rfl ?_
      refine zw_c (pc' := 45) (zw_cv (q := 72) (Y := zm_208) (zw_W_I W).1 rfl rfl zm_208_t rfl rfl) rfl rfl rfl rfl rfl (yr_wh1 (zw_W_I W) h0 ⟨by decide, by decide⟩) ?_
      refine zw_beq1 (g := 66) (pc' := 48) rfl rfl rfl (rfl : _ = (1 : Int)) (fun h9 => absurd h9 (by decide)) (fun h5 => ?_)
      refine zw_ld (n := 1) (k := 0) (f := zp_isR) (pc' := 49) rfl rfl rfl rfl rfl ?_
      refine zw_gR (q := 72) (pc' := 52) (zw_W_I W) rfl rfl rfl rfl ((zw_W_I W).2 72 15 _ rfl) rfl ?_
      refine zw_s (pc' := 54) rfl rfl ?_
      refine zw_ld (n := 1) (k := 1) (f := zp_isI) (pc' := 55) rfl rfl rfl rfl rfl ?_
      refine zw_imul (pc' := 56) rfl rfl ?_
      refine zw_s (pc' := 57) rfl rfl ?_
      refine zw_ld (n := 1) (k := 2) (f := zp_isI) (pc' := 58) rfl rfl rfl rfl rfl ?_
      refine zw_imul (pc' := 59) rfl rfl ?_
      refine zw_iadd (pc' := 60) rfl rfl ?_
      refine zw_ld (n := 1) (k := 3) (f := zp_isI) (pc' := 61) rfl rfl rfl rfl rfl ?_
      refine zw_iadd (pc' := 62) rfl rfl ?_
      refine zw_ia (q := 75) (pc' := 63) (zw_W_I W) rfl rfl (by decide) (⟨by omega, by show _ < ((128 : Nat) : Int); omega⟩) (zw_ne rfl rfl) rfl ?_
      refine zw_s (pc' := 67) rfl rfl ?_
      refine zw_ri rfl rfl ?_
      rw [i5]

theorem yr_mkn {L : Nat} {σ : Nat → Int32} {d : Nat} {H : zp_H} (W : zw_W H) {x1 x2 x3 : Int32} (n8 : (H.2.1 72 5).toInt ≤ 8) (h : ¬ ((0 ≤ x1.toInt ∧ x1.toInt < (H.2.1 72 5).toInt) ∧ (0 ≤ x2.toInt ∧ x2.toInt < (H.2.1 74 (4 * x1.toInt.toNat + 2)).toInt) ∧ 0 ≤ x3.toInt ∧ x3.toInt ≤ (Int32.ofInt 1).toInt)) : zp_Call L σ (d + 3) 211 [.inr (.inr (some 73)), .inl x1, .inl x2, .inl x3] H (.inl (some (.inl (Int32.ofInt 0))), zw_I (zw_I H 72 0 (Int32.ofInt 0)) 72 0 (Int32.ofInt 1)) := by
  have h0 : ((zw_I H 72 0 (Int32.ofInt 0)).2.1 72 0).toInt = 0 := congrArg Int32.toInt zw_eq
  have e5 : (zw_I H 72 0 (Int32.ofInt 0)).2.1 72 5 = H.2.1 72 5 := zw_ne rfl rfl
  have em : (zw_I H 72 0 (Int32.ofInt 0)).2.1 74 (4 * x1.toInt.toNat + 2) = H.2.1 74 (4 * x1.toInt.toNat + 2) := zw_ne rfl rfl
  have em9 : ((zw_I H 72 0 (Int32.ofInt 0)).2.1 74 (4 * x1.toInt.toNat + 2)).toInt = (H.2.1 74 (4 * x1.toInt.toNat + 2)).toInt := congrArg Int32.toInt em
  refine zw_ex (zw_met zm_211_t rfl rfl ?_)
  refine zw_ld (n := 1) (k := 0) (f := zp_isR) (pc' := 1) rfl rfl rfl rfl rfl ?_
  refine zw_s (pc' := 2) rfl rfl ?_
  refine zw_pI (q := 72) (pc' := 5) W rfl rfl rfl rfl rfl rfl ?_
  refine zw_ld (n := 1) (k := 0) (f := zp_isR) (pc' := 6) rfl rfl rfl rfl rfl ?_
  refine zw_ld (n := 1) (k := 1) (f := zp_isI) (pc' := 7) rfl rfl rfl rfl rfl ?_
  by_cases hp : 0 ≤ x1.toInt ∧ x1.toInt < (H.2.1 72 5).toInt
  · refine zw_c (pc' := 10) (zw_cv (q := 72) (Y := zm_210) (zw_W_I W).1 rfl rfl zm_210_t rfl rfl) rfl rfl rfl rfl rfl (zq_slate1 (zw_W_I W) h0 (by rw [e5]; exact hp)) ?_
    refine zw_beq1 (g := 66) (pc' := 13) rfl rfl rfl (rfl : _ = (1 : Int)) (fun h9 => absurd h9 (by decide)) (fun h1 => ?_)
    refine zw_ld (n := 1) (k := 0) (f := zp_isR) (pc' := 14) rfl rfl rfl rfl rfl ?_
    refine zw_ld (n := 1) (k := 2) (f := zp_isI) (pc' := 15) rfl rfl rfl rfl rfl ?_
    refine zw_blt1 (g := 31) (pc' := 18) rfl rfl rfl rfl (fun h2 => ?_) (fun h2 => ?_)
    · refine zw_s (pc' := 32) rfl rfl ?_
      refine zw_s (pc' := 33) rfl rfl ?_
      refine zw_c (pc' := 36) (zw_cv (q := 72) (Y := zm_170) (zw_W_I W).1 rfl rfl zm_170_t rfl rfl) rfl rfl rfl rfl rfl (zq_right0 (zw_W_I W) h0 (by decide)) ?_
      refine zw_beq1 (g := 66) (pc' := 39) rfl rfl rfl (rfl : _ = (0 : Int)) (fun h8 => ?_) (fun h9 => absurd h9 (by decide))
      refine zw_s (pc' := 67) rfl rfl ?_
      refine zw_ri rfl rfl ?_
      rfl
    · refine zw_ld (n := 1) (k := 2) (f := zp_isI) (pc' := 19) rfl rfl rfl rfl rfl ?_
      refine zw_ld (n := 1) (k := 0) (f := zp_isR) (pc' := 20) rfl rfl rfl rfl rfl ?_
      refine zw_ld (n := 1) (k := 1) (f := zp_isI) (pc' := 21) rfl rfl rfl rfl rfl ?_
      refine zw_c (pc' := 24) (zw_cv (q := 72) (Y := zm_212) (zw_W_I W).1 rfl rfl zm_212_t rfl rfl) rfl rfl rfl rfl rfl (zq_marks (zw_W_I W) ⟨hp.1, by omega⟩) ?_
      refine zw_bge2 (g := 31) (pc' := 27) rfl rfl rfl rfl rfl (fun h3 => ?_) (fun h3 => ?_)
      · refine zw_s (pc' := 32) rfl rfl ?_
        refine zw_s (pc' := 33) rfl rfl ?_
        refine zw_c (pc' := 36) (zw_cv (q := 72) (Y := zm_170) (zw_W_I W).1 rfl rfl zm_170_t rfl rfl) rfl rfl rfl rfl rfl (zq_right0 (zw_W_I W) h0 (by decide)) ?_
        refine zw_beq1 (g := 66) (pc' := 39) rfl rfl rfl (rfl : _ = (0 : Int)) (fun h8 => ?_) (fun h9 => absurd h9 (by decide))
        refine zw_s (pc' := 67) rfl rfl ?_
        refine zw_ri rfl rfl ?_
        rfl
      · refine zw_s (pc' := 28) rfl rfl ?_
        refine zw_s (pc' := 32) rfl rfl ?_
        refine zw_s (pc' := 33) rfl rfl ?_
        refine zw_c (pc' := 36) (zw_cv (q := 72) (Y := zm_170) (zw_W_I W).1 rfl rfl zm_170_t rfl rfl) rfl rfl rfl rfl rfl (zq_right1 (zw_W_I W) h0) ?_
        refine zw_beq1 (g := 66) (pc' := 39) rfl rfl rfl (rfl : _ = (1 : Int)) (fun h9 => absurd h9 (by decide)) (fun h4 => ?_)
        refine zw_ld (n := 1) (k := 0) (f := zp_isR) (pc' := 40) rfl rfl rfl rfl rfl ?_
        refine zw_ld (n := 1) (k := 3) (f := zp_isI) (pc' := 41) rfl rfl rfl rfl rfl ?_
        refine zw_s (pc' := 42) rfl rfl ?_
        refine zw_c (pc' := 45) (zw_cv (q := 72) (Y := zm_208) (zw_W_I W).1 rfl rfl zm_208_t rfl rfl) rfl rfl rfl rfl rfl (yr_wh0 (zw_W_I W) h0 (fun h9 => h ⟨hp, ⟨by omega, by omega⟩, h9⟩)) ?_
        refine zw_beq1 (g := 66) (pc' := 48) rfl rfl rfl (rfl : _ = (0 : Int)) (fun h5 => ?_) (fun h9 => absurd h9 (by decide))
        refine zw_s (pc' := 67) rfl rfl ?_
        refine zw_ri rfl rfl ?_
        rfl
  · refine zw_c (pc' := 10) (zw_cv (q := 72) (Y := zm_210) (zw_W_I W).1 rfl rfl zm_210_t rfl rfl) rfl rfl rfl rfl rfl (zq_slate0 (zw_W_I W) h0 (by rw [e5]; exact hp)) ?_
    refine zw_beq1 (g := 66) (pc' := 13) rfl rfl rfl (rfl : _ = (0 : Int)) (fun h1 => ?_) (fun h9 => absurd h9 (by decide))
    refine zw_s (pc' := 67) rfl rfl ?_
    refine zw_ri rfl rfl ?_
    rfl

theorem yb_mark {L : Nat} {σ : Nat → Int32} {d c t : Nat} {H : zp_H} {x1 x2 x3 : Int32} (hI : yJ c t H) : ∃ H1 H2 v w, zp_Call L σ (d + 60) 109 [.inr (.inr (some 1)), .inl x1, .inl x2, .inl x3, .inr (.inr (some 105))] H (.inl (some (.inl v)), H1) ∧ zp_Call L σ (d + 60) 211 [.inr (.inr (some 73)), .inl x1, .inl x2, .inl x3] H1 (.inl (some (.inl w)), H2) ∧ H1.1 = zB_sh ∧ yJ c t H2 ∧ (H2.2.1 72 0).toInt = v.toInt ∧ (v.toInt = 0 → H2.2.2.1 104 0 = w.toInt64) := by
  obtain ⟨H1, v, c1, hI1⟩ := yp_mark (L := L) (σ := σ) (d := d) (x1 := x1) (x2 := x2) (x3 := x3) hI
  obtain ⟨H2, w, c2, hI2⟩ := yq_mark (L := L) (σ := σ) (d := d) (x1 := x1) (x2 := x2) (x3 := x3) hI1
  have W1 := zB_Wd (zB_dn (zB_Bc hI1.1.1.1))
  obtain ⟨⟨A, a1, a2, a3⟩, -⟩ := hI.2
  have n5 := a3.1
  have n0 := a2.1
  have n8 := a1.1
  have h0 := hI.1.2.2.1
  rcases h0 with rfl | rfl
  · have n0 : (H.2.1 13 0).toInt = A.1 := n0
    by_cases h : (0 ≤ x1.toInt ∧ x1.toInt < (H.2.1 72 5).toInt) ∧ (0 ≤ x2.toInt ∧ x2.toInt < (H.2.1 74 (4 * x1.toInt.toNat + 2)).toInt) ∧ 0 ≤ x3.toInt ∧ x3.toInt ≤ (Int32.ofInt 1).toInt
    · have hs : x1.toInt.toNat < A.1 := by omega
      have hb := a1.2.2.1 _ hs
      have m3 : H.2.1 16 x1.toInt.toNat = A.2.2.1 x1.toInt.toNat 2 := a2.2.2.1 _ 2 hs (by decide)
      have m4 : H.2.1 74 (4 * x1.toInt.toNat + 2) = A.2.2.1 x1.toInt.toNat 2 := a3.2.2.1 _ 2 hs (by decide)
      have h2 := h.2.1
      rw [m4] at h2
      rcases y01 h.2.2 with rfl | rfl
      · have e1 := zp_Call_u c1 (yl_mk0_0 (L := L) (σ := σ) (d := 0) hI.1.1.1 (by rw [n0, ← n5]; exact h.1) (by rw [m3]; exact h2) (by rw [m3]; exact hb.2))
        cases e1
        have e2 := zp_Call_u c2 (yr_mk0 (L := L) (σ := σ) (d := 0) W1 h.1 (by omega) h.2.1 (by show (H.2.1 74 (4 * x1.toInt.toNat + 2)).toInt ≤ 8; rw [m4]; exact hb.2))
        cases e2
        refine ⟨_, _, _, _, c1, c2, hI1.1.1.1.1, hI2, congrArg Int32.toInt zw_eq, fun _ => ?_⟩
        have k : H.2.1 18 (8 * x1.toInt.toNat + x2.toInt.toNat) = H.2.1 75 (16 * x1.toInt.toNat + 2 * x2.toInt.toNat + 0) := (a2.2.2.2.1 _ _ 0 hs (by omega) (by decide)).trans (a3.2.2.2.1 _ _ 0 hs (by omega) (by decide)).symm
        show (zw_J H 104 0 _).2.2.1 104 0 = (H.2.1 75 (16 * x1.toInt.toNat + 2 * x2.toInt.toNat + 0)).toInt64
        rw [← k]
        exact zp_u_self H.2.2.1 104 0 _
      · have e1 := zp_Call_u c1 (yl_mk0_1 (L := L) (σ := σ) (d := 0) hI.1.1.1 (by rw [n0, ← n5]; exact h.1) (by rw [m3]; exact h2) (by rw [m3]; exact hb.2))
        cases e1
        have e2 := zp_Call_u c2 (yr_mk1 (L := L) (σ := σ) (d := 0) W1 h.1 (by omega) h.2.1 (by show (H.2.1 74 (4 * x1.toInt.toNat + 2)).toInt ≤ 8; rw [m4]; exact hb.2))
        cases e2
        refine ⟨_, _, _, _, c1, c2, hI1.1.1.1.1, hI2, congrArg Int32.toInt zw_eq, fun _ => ?_⟩
        have k : H.2.1 19 (8 * x1.toInt.toNat + x2.toInt.toNat) = H.2.1 75 (16 * x1.toInt.toNat + 2 * x2.toInt.toNat + 1) := (a2.2.2.2.1 _ _ 1 hs (by omega) (by decide)).trans (a3.2.2.2.1 _ _ 1 hs (by omega) (by decide)).symm
        show (zw_J H 104 0 _).2.2.1 104 0 = (H.2.1 75 (16 * x1.toInt.toNat + 2 * x2.toInt.toNat + 1)).toInt64
        rw [← k]
        exact zp_u_self H.2.2.1 104 0 _
    · have e1 := zp_Call_u c1 (yl_mkn0 (L := L) (σ := σ) (d := 0) hI.1.1.1 (fun h9 => h (by
        rw [n0, ← n5] at h9
        have hs : x1.toInt.toNat < A.1 := by omega
        have m3 : H.2.1 16 x1.toInt.toNat = A.2.2.1 x1.toInt.toNat 2 := a2.2.2.1 _ 2 hs (by decide)
        have m4 : H.2.1 74 (4 * x1.toInt.toNat + 2) = A.2.2.1 x1.toInt.toNat 2 := a3.2.2.1 _ 2 hs (by decide)
        rw [m3, ← m4] at h9
        exact h9)))
      cases e1
      have e2 := zp_Call_u c2 (yr_mkn (L := L) (σ := σ) (d := 0) W1 (by show (H.2.1 72 5).toInt ≤ 8; omega) h)
      cases e2
      exact ⟨_, _, _, _, c1, c2, hI1.1.1.1.1, hI2, congrArg Int32.toInt zw_eq, fun h9 => absurd h9 (by decide)⟩
  · have n0 : (H.2.1 33 0).toInt = A.1 := n0
    by_cases h : (0 ≤ x1.toInt ∧ x1.toInt < (H.2.1 72 5).toInt) ∧ (0 ≤ x2.toInt ∧ x2.toInt < (H.2.1 74 (4 * x1.toInt.toNat + 2)).toInt) ∧ 0 ≤ x3.toInt ∧ x3.toInt ≤ (Int32.ofInt 1).toInt
    · have hs : x1.toInt.toNat < A.1 := by omega
      have hb := a1.2.2.1 _ hs
      have m3 : H.2.1 36 x1.toInt.toNat = A.2.2.1 x1.toInt.toNat 2 := a2.2.2.1 _ 2 hs (by decide)
      have m4 : H.2.1 74 (4 * x1.toInt.toNat + 2) = A.2.2.1 x1.toInt.toNat 2 := a3.2.2.1 _ 2 hs (by decide)
      have h2 := h.2.1
      rw [m4] at h2
      rcases y01 h.2.2 with rfl | rfl
      · have e1 := zp_Call_u c1 (yl_mk3_0 (L := L) (σ := σ) (d := 0) hI.1.1.1 (by rw [n0, ← n5]; exact h.1) (by rw [m3]; exact h2) (by rw [m3]; exact hb.2))
        cases e1
        have e2 := zp_Call_u c2 (yr_mk0 (L := L) (σ := σ) (d := 0) W1 h.1 (by omega) h.2.1 (by show (H.2.1 74 (4 * x1.toInt.toNat + 2)).toInt ≤ 8; rw [m4]; exact hb.2))
        cases e2
        refine ⟨_, _, _, _, c1, c2, hI1.1.1.1.1, hI2, congrArg Int32.toInt zw_eq, fun _ => ?_⟩
        have k : H.2.1 38 (8 * x1.toInt.toNat + x2.toInt.toNat) = H.2.1 75 (16 * x1.toInt.toNat + 2 * x2.toInt.toNat + 0) := (a2.2.2.2.1 _ _ 0 hs (by omega) (by decide)).trans (a3.2.2.2.1 _ _ 0 hs (by omega) (by decide)).symm
        show (zw_J H 104 0 _).2.2.1 104 0 = (H.2.1 75 (16 * x1.toInt.toNat + 2 * x2.toInt.toNat + 0)).toInt64
        rw [← k]
        exact zp_u_self H.2.2.1 104 0 _
      · have e1 := zp_Call_u c1 (yl_mk3_1 (L := L) (σ := σ) (d := 0) hI.1.1.1 (by rw [n0, ← n5]; exact h.1) (by rw [m3]; exact h2) (by rw [m3]; exact hb.2))
        cases e1
        have e2 := zp_Call_u c2 (yr_mk1 (L := L) (σ := σ) (d := 0) W1 h.1 (by omega) h.2.1 (by show (H.2.1 74 (4 * x1.toInt.toNat + 2)).toInt ≤ 8; rw [m4]; exact hb.2))
        cases e2
        refine ⟨_, _, _, _, c1, c2, hI1.1.1.1.1, hI2, congrArg Int32.toInt zw_eq, fun _ => ?_⟩
        have k : H.2.1 39 (8 * x1.toInt.toNat + x2.toInt.toNat) = H.2.1 75 (16 * x1.toInt.toNat + 2 * x2.toInt.toNat + 1) := (a2.2.2.2.1 _ _ 1 hs (by omega) (by decide)).trans (a3.2.2.2.1 _ _ 1 hs (by omega) (by decide)).symm
        show (zw_J H 104 0 _).2.2.1 104 0 = (H.2.1 75 (16 * x1.toInt.toNat + 2 * x2.toInt.toNat + 1)).toInt64
        rw [← k]
        exact zp_u_self H.2.2.1 104 0 _
    · have e1 := zp_Call_u c1 (yl_mkn3 (L := L) (σ := σ) (d := 0) hI.1.1.1 (fun h9 => h (by
        rw [n0, ← n5] at h9
        have hs : x1.toInt.toNat < A.1 := by omega
        have m3 : H.2.1 36 x1.toInt.toNat = A.2.2.1 x1.toInt.toNat 2 := a2.2.2.1 _ 2 hs (by decide)
        have m4 : H.2.1 74 (4 * x1.toInt.toNat + 2) = A.2.2.1 x1.toInt.toNat 2 := a3.2.2.1 _ 2 hs (by decide)
        rw [m3, ← m4] at h9
        exact h9)))
      cases e1
      have e2 := zp_Call_u c2 (yr_mkn (L := L) (σ := σ) (d := 0) W1 (by show (H.2.1 72 5).toInt ≤ 8; omega) h)
      cases e2
      exact ⟨_, _, _, _, c1, c2, hI1.1.1.1.1, hI2, congrArg Int32.toInt zw_eq, fun h9 => absurd h9 (by decide)⟩
