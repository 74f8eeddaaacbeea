/-! ===== count ===== -/
def zm_100 : za_MI := (yL_count, method_4_code, 4, (some FieldType.int), 13, 1, 6, [(0, 9, 12, 18)], za_i100)
theorem zm_100_t : za_MT 100 = some zm_100 := rfl
def zm_101 : za_MI := (yX11_count, prog_1_method_7_code, 2, (some FieldType.int), 11, 1, 6, [], za_i101)
theorem zm_101_t : za_MT 101 = some zm_101 := rfl
def zm_206 : za_MI := (yX12_count, prog_14_method_44_code, 2, (some FieldType.int), 12, 0, 0, [], za_i206)
theorem zm_206_t : za_MT 206 = some zm_206 := rfl
theorem yc_ct0_0 {L : Nat} {σ : Nat → Int32} {d : Nat} {H : zp_H} (hB : zk_Bs (zB_c 0) zg zJc H) : zp_Call L σ (d + 2) 101 [.inr (.inr (some 1)), .inl (Int32.ofInt 0)] H (.inl (some (.inl (H.2.1 2 0))), H) := by
  have W := zB_Wd (zB_dn (zB_Bc hB))
  have g5 : H.2.2.2 0 5 = some 3 := hB.2.1 0 5 _ rfl
  have g6 : H.2.2.2 0 6 = some 14 := hB.2.1 0 6 _ rfl
  have g7 : H.2.2.2 0 7 = some 23 := hB.2.1 0 7 _ rfl
  have g8 : H.2.2.2 0 8 = some 34 := hB.2.1 0 8 _ rfl
  refine zw_ex (zw_met zm_101_t rfl rfl ?_)
  refine zw_ld (n := 1) (k := 1) (f := zp_isI) (pc' := 1) rfl rfl rfl rfl rfl ?_
  refine zw_s (pc' := 76) rfl rfl ?_
  refine zw_ld (n := 1) (k := 0) (f := zp_isR) (pc' := 77) rfl rfl rfl rfl rfl ?_
  refine zw_gR (q := 0) (pc' := 80) W rfl rfl rfl rfl g5 rfl ?_
  refine zw_gI (q := 2) (pc' := 83) W rfl rfl rfl rfl rfl rfl ?_
  refine zw_ri rfl rfl ?_
  rfl

theorem yl_ct0_0 {L : Nat} {σ : Nat → Int32} {d : Nat} {H : zp_H} (hB : zk_Bs (zB_c 0) zg zJc H) : zp_Call L σ (d + 3) 100 [.inr (.inr (some 1)), .inl (Int32.ofInt 0), .inr (.inr (some 105))] H (.inl (some (.inl (Int32.ofInt 0))), zw_J H 104 0 (H.2.1 2 0).toInt64) := by
  have W := zB_Wd (zB_dn (zB_Bc hB))
  refine zw_ex (zw_met zm_100_t rfl rfl ?_)
  refine zw_ld (n := 1) (k := 2) (f := zp_isR) (pc' := 1) rfl rfl rfl rfl rfl ?_
  refine zw_s (pc' := 2) rfl rfl ?_
  refine zw_ld (n := 1) (k := 0) (f := zp_isR) (pc' := 3) rfl rfl rfl rfl rfl ?_
  refine zw_ld (n := 1) (k := 1) (f := zp_isI) (pc' := 4) rfl rfl rfl rfl rfl ?_
  refine zw_ct (pc' := 7) (c' := (1, 6)) (zw_cv (q := 0) (Y := zm_101) W.1 rfl rfl zm_101_t rfl rfl) (zw_pb_ok rfl) rfl rfl rfl rfl (yc_ct0_0 hB) ?_
  refine zw_s (pc' := 8) rfl rfl ?_
  refine zw_ls (q := 104) (pc' := 9) W rfl rfl (⟨by decide, by decide⟩) rfl ?_
  refine zw_s (pc' := 15) rfl rfl ?_
  refine zw_s (pc' := 16) rfl rfl ?_
  refine zw_rig rfl rfl ⟨by decide, by decide⟩ ?_
  rfl

theorem yc_ct0_1 {L : Nat} {σ : Nat → Int32} {d : Nat} {H : zp_H} (hB : zk_Bs (zB_c 0) zg zJc H) : zp_Call L σ (d + 2) 101 [.inr (.inr (some 1)), .inl (Int32.ofInt 1)] H (.inl (some (.inl (H.2.1 2 1))), H) := by
  have W := zB_Wd (zB_dn (zB_Bc hB))
  have g5 : H.2.2.2 0 5 = some 3 := hB.2.1 0 5 _ rfl
  have g6 : H.2.2.2 0 6 = some 14 := hB.2.1 0 6 _ rfl
  have g7 : H.2.2.2 0 7 = some 23 := hB.2.1 0 7 _ rfl
  have g8 : H.2.2.2 0 8 = some 34 := hB.2.1 0 8 _ rfl
  refine zw_ex (zw_met zm_101_t rfl rfl ?_)
  refine zw_ld (n := 1) (k := 1) (f := zp_isI) (pc' := 1) rfl rfl rfl rfl rfl ?_
  refine zw_s (pc' := 84) rfl rfl ?_
  refine zw_ld (n := 1) (k := 0) (f := zp_isR) (pc' := 85) rfl rfl rfl rfl rfl ?_
  refine zw_gR (q := 0) (pc' := 88) W rfl rfl rfl rfl g5 rfl ?_
  refine zw_gI (q := 2) (pc' := 91) W rfl rfl rfl rfl rfl rfl ?_
  refine zw_ri rfl rfl ?_
  rfl

theorem yl_ct0_1 {L : Nat} {σ : Nat → Int32} {d : Nat} {H : zp_H} (hB : zk_Bs (zB_c 0) zg zJc H) : zp_Call L σ (d + 3) 100 [.inr (.inr (some 1)), .inl (Int32.ofInt 1), .inr (.inr (some 105))] H (.inl (some (.inl (Int32.ofInt 0))), zw_J H 104 0 (H.2.1 2 1).toInt64) := by
  have W := zB_Wd (zB_dn (zB_Bc hB))
  refine zw_ex (zw_met zm_100_t rfl rfl ?_)
  refine zw_ld (n := 1) (k := 2) (f := zp_isR) (pc' := 1) rfl rfl rfl rfl rfl ?_
  refine zw_s (pc' := 2) rfl rfl ?_
  refine zw_ld (n := 1) (k := 0) (f := zp_isR) (pc' := 3) rfl rfl rfl rfl rfl ?_
  refine zw_ld (n := 1) (k := 1) (f := zp_isI) (pc' := 4) rfl rfl rfl rfl rfl ?_
  refine zw_ct (pc' := 7) (c' := (1, 6)) (zw_cv (q := 0) (Y := zm_101) W.1 rfl rfl zm_101_t rfl rfl) (zw_pb_ok rfl) rfl rfl rfl rfl (yc_ct0_1 hB) ?_
  refine zw_s (pc' := 8) rfl rfl ?_
  refine zw_ls (q := 104) (pc' := 9) W rfl rfl (⟨by decide, by decide⟩) rfl ?_
  refine zw_s (pc' := 15) rfl rfl ?_
  refine zw_s (pc' := 16) rfl rfl ?_
  refine zw_rig rfl rfl ⟨by decide, by decide⟩ ?_
  rfl

theorem yc_ct0_2 {L : Nat} {σ : Nat → Int32} {d : Nat} {H : zp_H} (hB : zk_Bs (zB_c 0) zg zJc H) : zp_Call L σ (d + 2) 101 [.inr (.inr (some 1)), .inl (Int32.ofInt 2)] H (.inl (some (.inl (yBC (H.2.2.1 2 3)))), H) := by
  have W := zB_Wd (zB_dn (zB_Bc hB))
  have g5 : H.2.2.2 0 5 = some 3 := hB.2.1 0 5 _ rfl
  have g6 : H.2.2.2 0 6 = some 14 := hB.2.1 0 6 _ rfl
  have g7 : H.2.2.2 0 7 = some 23 := hB.2.1 0 7 _ rfl
  have g8 : H.2.2.2 0 8 = some 34 := hB.2.1 0 8 _ rfl
  refine zw_ex (zw_met zm_101_t rfl rfl ?_)
  refine zw_ld (n := 1) (k := 1) (f := zp_isI) (pc' := 1) rfl rfl rfl rfl rfl ?_
  refine zw_s (pc' := 92) rfl rfl ?_
  refine zw_ld (n := 1) (k := 0) (f := zp_isR) (pc' := 93) rfl rfl rfl rfl rfl ?_
  refine zw_gR (q := 0) (pc' := 96) W rfl rfl rfl rfl g5 rfl ?_
  refine zw_gL (q := 2) (pc' := 99) W rfl rfl rfl rfl rfl ?_
  refine zw_c (pc' := 102) (zw_cs (Y := zm_67) rfl rfl zm_67_t) rfl rfl rfl rfl rfl (yc_bc) ?_
  refine zw_ri rfl rfl ?_
  rfl

theorem yl_ct0_2 {L : Nat} {σ : Nat → Int32} {d : Nat} {H : zp_H} (hB : zk_Bs (zB_c 0) zg zJc H) : zp_Call L σ (d + 3) 100 [.inr (.inr (some 1)), .inl (Int32.ofInt 2), .inr (.inr (some 105))] H (.inl (some (.inl (Int32.ofInt 0))), zw_J H 104 0 (yBC (H.2.2.1 2 3)).toInt64) := by
  have W := zB_Wd (zB_dn (zB_Bc hB))
  refine zw_ex (zw_met zm_100_t rfl rfl ?_)
  refine zw_ld (n := 1) (k := 2) (f := zp_isR) (pc' := 1) rfl rfl rfl rfl rfl ?_
  refine zw_s (pc' := 2) rfl rfl ?_
  refine zw_ld (n := 1) (k := 0) (f := zp_isR) (pc' := 3) rfl rfl rfl rfl rfl ?_
  refine zw_ld (n := 1) (k := 1) (f := zp_isI) (pc' := 4) rfl rfl rfl rfl rfl ?_
  refine zw_ct (pc' := 7) (c' := (1, 6)) (zw_cv (q := 0) (Y := zm_101) W.1 rfl rfl zm_101_t rfl rfl) (zw_pb_ok rfl) rfl rfl rfl rfl (yc_ct0_2 hB) ?_
  refine zw_s (pc' := 8) rfl rfl ?_
  refine zw_ls (q := 104) (pc' := 9) W rfl rfl (⟨by decide, by decide⟩) rfl ?_
  refine zw_s (pc' := 15) rfl rfl ?_
  refine zw_s (pc' := 16) rfl rfl ?_
  refine zw_rig rfl rfl ⟨by decide, by decide⟩ ?_
  rfl

theorem yc_ct0_3 {L : Nat} {σ : Nat → Int32} {d : Nat} {H : zp_H} (hB : zk_Bs (zB_c 0) zg zJc H) : zp_Call L σ (d + 2) 101 [.inr (.inr (some 1)), .inl (Int32.ofInt 3)] H (.inl (some (.inl (yBC (yCur 2 H)))), H) := by
  have W := zB_Wd (zB_dn (zB_Bc hB))
  have g5 : H.2.2.2 0 5 = some 3 := hB.2.1 0 5 _ rfl
  have g6 : H.2.2.2 0 6 = some 14 := hB.2.1 0 6 _ rfl
  have g7 : H.2.2.2 0 7 = some 23 := hB.2.1 0 7 _ rfl
  have g8 : H.2.2.2 0 8 = some 34 := hB.2.1 0 8 _ rfl
  refine zw_ex (zw_met zm_101_t rfl rfl ?_)
  refine zw_ld (n := 1) (k := 1) (f := zp_isI) (pc' := 1) rfl rfl rfl rfl rfl ?_
  refine zw_s (pc' := 103) rfl rfl ?_
  refine zw_ld (n := 1) (k := 0) (f := zp_isR) (pc' := 104) rfl rfl rfl rfl rfl ?_
  refine zw_gR (q := 0) (pc' := 107) W rfl rfl rfl rfl g5 rfl ?_
  refine zw_c (pc' := 110) (zw_cv (q := 2) (Y := zm_72) W.1 rfl rfl zm_72_t rfl rfl) rfl rfl rfl rfl rfl (yc_all2 W) ?_
  refine zw_c (pc' := 113) (zw_cs (Y := zm_67) rfl rfl zm_67_t) rfl rfl rfl rfl rfl (yc_bc) ?_
  refine zw_ri rfl rfl ?_
  rfl

theorem yl_ct0_3 {L : Nat} {σ : Nat → Int32} {d : Nat} {H : zp_H} (hB : zk_Bs (zB_c 0) zg zJc H) : zp_Call L σ (d + 3) 100 [.inr (.inr (some 1)), .inl (Int32.ofInt 3), .inr (.inr (some 105))] H (.inl (some (.inl (Int32.ofInt 0))), zw_J H 104 0 (yBC (yCur 2 H)).toInt64) := by
  have W := zB_Wd (zB_dn (zB_Bc hB))
  refine zw_ex (zw_met zm_100_t rfl rfl ?_)
  refine zw_ld (n := 1) (k := 2) (f := zp_isR) (pc' := 1) rfl rfl rfl rfl rfl ?_
  refine zw_s (pc' := 2) rfl rfl ?_
  refine zw_ld (n := 1) (k := 0) (f := zp_isR) (pc' := 3) rfl rfl rfl rfl rfl ?_
  refine zw_ld (n := 1) (k := 1) (f := zp_isI) (pc' := 4) rfl rfl rfl rfl rfl ?_
  refine zw_ct (pc' := 7) (c' := (1, 6)) (zw_cv (q := 0) (Y := zm_101) W.1 rfl rfl zm_101_t rfl rfl) (zw_pb_ok rfl) rfl rfl rfl rfl (yc_ct0_3 hB) ?_
  refine zw_s (pc' := 8) rfl rfl ?_
  refine zw_ls (q := 104) (pc' := 9) W rfl rfl (⟨by decide, by decide⟩) rfl ?_
  refine zw_s (pc' := 15) rfl rfl ?_
  refine zw_s (pc' := 16) rfl rfl ?_
  refine zw_rig rfl rfl ⟨by decide, by decide⟩ ?_
  rfl

theorem yc_ct0_4 {L : Nat} {σ : Nat → Int32} {d : Nat} {H : zp_H} (hB : zk_Bs (zB_c 0) zg zJc H) : zp_Call L σ (d + 2) 101 [.inr (.inr (some 1)), .inl (Int32.ofInt 4)] H (.inl (some (.inl (H.2.1 13 0))), H) := by
  have W := zB_Wd (zB_dn (zB_Bc hB))
  have g5 : H.2.2.2 0 5 = some 3 := hB.2.1 0 5 _ rfl
  have g6 : H.2.2.2 0 6 = some 14 := hB.2.1 0 6 _ rfl
  have g7 : H.2.2.2 0 7 = some 23 := hB.2.1 0 7 _ rfl
  have g8 : H.2.2.2 0 8 = some 34 := hB.2.1 0 8 _ rfl
  refine zw_ex (zw_met zm_101_t rfl rfl ?_)
  refine zw_ld (n := 1) (k := 1) (f := zp_isI) (pc' := 1) rfl rfl rfl rfl rfl ?_
  refine zw_s (pc' := 114) rfl rfl ?_
  refine zw_ld (n := 1) (k := 0) (f := zp_isR) (pc' := 115) rfl rfl rfl rfl rfl ?_
  refine zw_gR (q := 0) (pc' := 118) W rfl rfl rfl rfl g6 rfl ?_
  refine zw_gI (q := 13) (pc' := 121) W rfl rfl rfl rfl rfl rfl ?_
  refine zw_ri rfl rfl ?_
  rfl

theorem yl_ct0_4 {L : Nat} {σ : Nat → Int32} {d : Nat} {H : zp_H} (hB : zk_Bs (zB_c 0) zg zJc H) : zp_Call L σ (d + 3) 100 [.inr (.inr (some 1)), .inl (Int32.ofInt 4), .inr (.inr (some 105))] H (.inl (some (.inl (Int32.ofInt 0))), zw_J H 104 0 (H.2.1 13 0).toInt64) := by
  have W := zB_Wd (zB_dn (zB_Bc hB))
  refine zw_ex (zw_met zm_100_t rfl rfl ?_)
  refine zw_ld (n := 1) (k := 2) (f := zp_isR) (pc' := 1) rfl rfl rfl rfl rfl ?_
  refine zw_s (pc' := 2) rfl rfl ?_
  refine zw_ld (n := 1) (k := 0) (f := zp_isR) (pc' := 3) rfl rfl rfl rfl rfl ?_
  refine zw_ld (n := 1) (k := 1) (f := zp_isI) (pc' := 4) rfl rfl rfl rfl rfl ?_
  refine zw_ct (pc' := 7) (c' := (1, 6)) (zw_cv (q := 0) (Y := zm_101) W.1 rfl rfl zm_101_t rfl rfl) (zw_pb_ok rfl) rfl rfl rfl rfl (yc_ct0_4 hB) ?_
  refine zw_s (pc' := 8) rfl rfl ?_
  refine zw_ls (q := 104) (pc' := 9) W rfl rfl (⟨by decide, by decide⟩) rfl ?_
  refine zw_s (pc' := 15) rfl rfl ?_
  refine zw_s (pc' := 16) rfl rfl ?_
  refine zw_rig rfl rfl ⟨by decide, by decide⟩ ?_
  rfl

theorem yc_ct0_5 {L : Nat} {σ : Nat → Int32} {d : Nat} {H : zp_H} (hB : zk_Bs (zB_c 0) zg zJc H) : zp_Call L σ (d + 2) 101 [.inr (.inr (some 1)), .inl (Int32.ofInt 5)] H (.inl (some (.inl (H.2.1 2 7))), H) := by
  have W := zB_Wd (zB_dn (zB_Bc hB))
  have g5 : H.2.2.2 0 5 = some 3 := hB.2.1 0 5 _ rfl
  have g6 : H.2.2.2 0 6 = some 14 := hB.2.1 0 6 _ rfl
  have g7 : H.2.2.2 0 7 = some 23 := hB.2.1 0 7 _ rfl
  have g8 : H.2.2.2 0 8 = some 34 := hB.2.1 0 8 _ rfl
  refine zw_ex (zw_met zm_101_t rfl rfl ?_)
  refine zw_ld (n := 1) (k := 1) (f := zp_isI) (pc' := 1) rfl rfl rfl rfl rfl ?_
  refine zw_s (pc' := 122) rfl rfl ?_
  refine zw_ld (n := 1) (k := 0) (f := zp_isR) (pc' := 123) rfl rfl rfl rfl rfl ?_
  refine zw_gR (q := 0) (pc' := 126) W rfl rfl rfl rfl g5 rfl ?_
  refine zw_gI (q := 2) (pc' := 129) W rfl rfl rfl rfl rfl rfl ?_
  refine zw_ri rfl rfl ?_
  rfl

theorem yl_ct0_5 {L : Nat} {σ : Nat → Int32} {d : Nat} {H : zp_H} (hB : zk_Bs (zB_c 0) zg zJc H) : zp_Call L σ (d + 3) 100 [.inr (.inr (some 1)), .inl (Int32.ofInt 5), .inr (.inr (some 105))] H (.inl (some (.inl (Int32.ofInt 0))), zw_J H 104 0 (H.2.1 2 7).toInt64) := by
  have W := zB_Wd (zB_dn (zB_Bc hB))
  refine zw_ex (zw_met zm_100_t rfl rfl ?_)
  refine zw_ld (n := 1) (k := 2) (f := zp_isR) (pc' := 1) rfl rfl rfl rfl rfl ?_
  refine zw_s (pc' := 2) rfl rfl ?_
  refine zw_ld (n := 1) (k := 0) (f := zp_isR) (pc' := 3) rfl rfl rfl rfl rfl ?_
  refine zw_ld (n := 1) (k := 1) (f := zp_isI) (pc' := 4) rfl rfl rfl rfl rfl ?_
  refine zw_ct (pc' := 7) (c' := (1, 6)) (zw_cv (q := 0) (Y := zm_101) W.1 rfl rfl zm_101_t rfl rfl) (zw_pb_ok rfl) rfl rfl rfl rfl (yc_ct0_5 hB) ?_
  refine zw_s (pc' := 8) rfl rfl ?_
  refine zw_ls (q := 104) (pc' := 9) W rfl rfl (⟨by decide, by decide⟩) rfl ?_
  refine zw_s (pc' := 15) rfl rfl ?_
  refine zw_s (pc' := 16) rfl rfl ?_
  refine zw_rig rfl rfl ⟨by decide, by decide⟩ ?_
  rfl

theorem yc_ct0_6 {L : Nat} {σ : Nat → Int32} {d : Nat} {H : zp_H} (hB : zk_Bs (zB_c 0) zg zJc H) : zp_Call L σ (d + 2) 101 [.inr (.inr (some 1)), .inl (Int32.ofInt 6)] H (.inl (some (.inl (H.2.1 2 12))), H) := by
  have W := zB_Wd (zB_dn (zB_Bc hB))
  have g5 : H.2.2.2 0 5 = some 3 := hB.2.1 0 5 _ rfl
  have g6 : H.2.2.2 0 6 = some 14 := hB.2.1 0 6 _ rfl
  have g7 : H.2.2.2 0 7 = some 23 := hB.2.1 0 7 _ rfl
  have g8 : H.2.2.2 0 8 = some 34 := hB.2.1 0 8 _ rfl
  refine zw_ex (zw_met zm_101_t rfl rfl ?_)
  refine zw_ld (n := 1) (k := 1) (f := zp_isI) (pc' := 1) rfl rfl rfl rfl rfl ?_
  refine zw_s (pc' := 130) rfl rfl ?_
  refine zw_ld (n := 1) (k := 0) (f := zp_isR) (pc' := 131) rfl rfl rfl rfl rfl ?_
  refine zw_gR (q := 0) (pc' := 134) W rfl rfl rfl rfl g5 rfl ?_
  refine zw_gI (q := 2) (pc' := 137) W rfl rfl rfl rfl rfl rfl ?_
  refine zw_ri rfl rfl ?_
  rfl

theorem yl_ct0_6 {L : Nat} {σ : Nat → Int32} {d : Nat} {H : zp_H} (hB : zk_Bs (zB_c 0) zg zJc H) : zp_Call L σ (d + 3) 100 [.inr (.inr (some 1)), .inl (Int32.ofInt 6), .inr (.inr (some 105))] H (.inl (some (.inl (Int32.ofInt 0))), zw_J H 104 0 (H.2.1 2 12).toInt64) := by
  have W := zB_Wd (zB_dn (zB_Bc hB))
  refine zw_ex (zw_met zm_100_t rfl rfl ?_)
  refine zw_ld (n := 1) (k := 2) (f := zp_isR) (pc' := 1) rfl rfl rfl rfl rfl ?_
  refine zw_s (pc' := 2) rfl rfl ?_
  refine zw_ld (n := 1) (k := 0) (f := zp_isR) (pc' := 3) rfl rfl rfl rfl rfl ?_
  refine zw_ld (n := 1) (k := 1) (f := zp_isI) (pc' := 4) rfl rfl rfl rfl rfl ?_
  refine zw_ct (pc' := 7) (c' := (1, 6)) (zw_cv (q := 0) (Y := zm_101) W.1 rfl rfl zm_101_t rfl rfl) (zw_pb_ok rfl) rfl rfl rfl rfl (yc_ct0_6 hB) ?_
  refine zw_s (pc' := 8) rfl rfl ?_
  refine zw_ls (q := 104) (pc' := 9) W rfl rfl (⟨by decide, by decide⟩) rfl ?_
  refine zw_s (pc' := 15) rfl rfl ?_
  refine zw_s (pc' := 16) rfl rfl ?_
  refine zw_rig rfl rfl ⟨by decide, by decide⟩ ?_
  rfl

theorem yc_ct0_7 {L : Nat} {σ : Nat → Int32} {d : Nat} {H : zp_H} (hB : zk_Bs (zB_c 0) zg zJc H) : zp_Call L σ (d + 2) 101 [.inr (.inr (some 1)), .inl (Int32.ofInt 7)] H (.inl (some (.inl (H.2.1 2 16))), H) := by
  have W := zB_Wd (zB_dn (zB_Bc hB))
  have g5 : H.2.2.2 0 5 = some 3 := hB.2.1 0 5 _ rfl
  have g6 : H.2.2.2 0 6 = some 14 := hB.2.1 0 6 _ rfl
  have g7 : H.2.2.2 0 7 = some 23 := hB.2.1 0 7 _ rfl
  have g8 : H.2.2.2 0 8 = some 34 := hB.2.1 0 8 _ rfl
  refine zw_ex (zw_met zm_101_t rfl rfl ?_)
  refine zw_ld (n := 1) (k := 1) (f := zp_isI) (pc' := 1) rfl rfl rfl rfl rfl ?_
  refine zw_s (pc' := 138) rfl rfl ?_
  refine zw_ld (n := 1) (k := 0) (f := zp_isR) (pc' := 139) rfl rfl rfl rfl rfl ?_
  refine zw_gR (q := 0) (pc' := 142) W rfl rfl rfl rfl g5 rfl ?_
  refine zw_gI (q := 2) (pc' := 145) W rfl rfl rfl rfl rfl rfl ?_
  refine zw_ri rfl rfl ?_
  rfl

theorem yl_ct0_7 {L : Nat} {σ : Nat → Int32} {d : Nat} {H : zp_H} (hB : zk_Bs (zB_c 0) zg zJc H) : zp_Call L σ (d + 3) 100 [.inr (.inr (some 1)), .inl (Int32.ofInt 7), .inr (.inr (some 105))] H (.inl (some (.inl (Int32.ofInt 0))), zw_J H 104 0 (H.2.1 2 16).toInt64) := by
  have W := zB_Wd (zB_dn (zB_Bc hB))
  refine zw_ex (zw_met zm_100_t rfl rfl ?_)
  refine zw_ld (n := 1) (k := 2) (f := zp_isR) (pc' := 1) rfl rfl rfl rfl rfl ?_
  refine zw_s (pc' := 2) rfl rfl ?_
  refine zw_ld (n := 1) (k := 0) (f := zp_isR) (pc' := 3) rfl rfl rfl rfl rfl ?_
  refine zw_ld (n := 1) (k := 1) (f := zp_isI) (pc' := 4) rfl rfl rfl rfl rfl ?_
  refine zw_ct (pc' := 7) (c' := (1, 6)) (zw_cv (q := 0) (Y := zm_101) W.1 rfl rfl zm_101_t rfl rfl) (zw_pb_ok rfl) rfl rfl rfl rfl (yc_ct0_7 hB) ?_
  refine zw_s (pc' := 8) rfl rfl ?_
  refine zw_ls (q := 104) (pc' := 9) W rfl rfl (⟨by decide, by decide⟩) rfl ?_
  refine zw_s (pc' := 15) rfl rfl ?_
  refine zw_s (pc' := 16) rfl rfl ?_
  refine zw_rig rfl rfl ⟨by decide, by decide⟩ ?_
  rfl

theorem yc_ct0_8 {L : Nat} {σ : Nat → Int32} {d : Nat} {H : zp_H} (hB : zk_Bs (zB_c 0) zg zJc H) : zp_Call L σ (d + 2) 101 [.inr (.inr (some 1)), .inl (Int32.ofInt 8)] H (.inl (some (.inl (H.2.1 2 9))), H) := by
  have W := zB_Wd (zB_dn (zB_Bc hB))
  have g5 : H.2.2.2 0 5 = some 3 := hB.2.1 0 5 _ rfl
  have g6 : H.2.2.2 0 6 = some 14 := hB.2.1 0 6 _ rfl
  have g7 : H.2.2.2 0 7 = some 23 := hB.2.1 0 7 _ rfl
  have g8 : H.2.2.2 0 8 = some 34 := hB.2.1 0 8 _ rfl
  refine zw_ex (zw_met zm_101_t rfl rfl ?_)
  refine zw_ld (n := 1) (k := 1) (f := zp_isI) (pc' := 1) rfl rfl rfl rfl rfl ?_
  refine zw_s (pc' := 146) rfl rfl ?_
  refine zw_ld (n := 1) (k := 0) (f := zp_isR) (pc' := 147) rfl rfl rfl rfl rfl ?_
  refine zw_gR (q := 0) (pc' := 150) W rfl rfl rfl rfl g5 rfl ?_
  refine zw_gI (q := 2) (pc' := 153) W rfl rfl rfl rfl rfl rfl ?_
  refine zw_ri rfl rfl ?_
  rfl

theorem yl_ct0_8 {L : Nat} {σ : Nat → Int32} {d : Nat} {H : zp_H} (hB : zk_Bs (zB_c 0) zg zJc H) : zp_Call L σ (d + 3) 100 [.inr (.inr (some 1)), .inl (Int32.ofInt 8), .inr (.inr (some 105))] H (.inl (some (.inl (Int32.ofInt 0))), zw_J H 104 0 (H.2.1 2 9).toInt64) := by
  have W := zB_Wd (zB_dn (zB_Bc hB))
  refine zw_ex (zw_met zm_100_t rfl rfl ?_)
  refine zw_ld (n := 1) (k := 2) (f := zp_isR) (pc' := 1) rfl rfl rfl rfl rfl ?_
  refine zw_s (pc' := 2) rfl rfl ?_
  refine zw_ld (n := 1) (k := 0) (f := zp_isR) (pc' := 3) rfl rfl rfl rfl rfl ?_
  refine zw_ld (n := 1) (k := 1) (f := zp_isI) (pc' := 4) rfl rfl rfl rfl rfl ?_
  refine zw_ct (pc' := 7) (c' := (1, 6)) (zw_cv (q := 0) (Y := zm_101) W.1 rfl rfl zm_101_t rfl rfl) (zw_pb_ok rfl) rfl rfl rfl rfl (yc_ct0_8 hB) ?_
  refine zw_s (pc' := 8) rfl rfl ?_
  refine zw_ls (q := 104) (pc' := 9) W rfl rfl (⟨by decide, by decide⟩) rfl ?_
  refine zw_s (pc' := 15) rfl rfl ?_
  refine zw_s (pc' := 16) rfl rfl ?_
  refine zw_rig rfl rfl ⟨by decide, by decide⟩ ?_
  rfl

theorem yc_ct0_9 {L : Nat} {σ : Nat → Int32} {d : Nat} {H : zp_H} (hB : zk_Bs (zB_c 0) zg zJc H) : zp_Call L σ (d + 2) 101 [.inr (.inr (some 1)), .inl (Int32.ofInt 9)] H (.inl (some (.inl (H.2.1 2 10))), H) := by
  have W := zB_Wd (zB_dn (zB_Bc hB))
  have g5 : H.2.2.2 0 5 = some 3 := hB.2.1 0 5 _ rfl
  have g6 : H.2.2.2 0 6 = some 14 := hB.2.1 0 6 _ rfl
  have g7 : H.2.2.2 0 7 = some 23 := hB.2.1 0 7 _ rfl
  have g8 : H.2.2.2 0 8 = some 34 := hB.2.1 0 8 _ rfl
  refine zw_ex (zw_met zm_101_t rfl rfl ?_)
  refine zw_ld (n := 1) (k := 1) (f := zp_isI) (pc' := 1) rfl rfl rfl rfl rfl ?_
  refine zw_s (pc' := 154) rfl rfl ?_
  refine zw_ld (n := 1) (k := 0) (f := zp_isR) (pc' := 155) rfl rfl rfl rfl rfl ?_
  refine zw_gR (q := 0) (pc' := 158) W rfl rfl rfl rfl g5 rfl ?_
  refine zw_gI (q := 2) (pc' := 161) W rfl rfl rfl rfl rfl rfl ?_
  refine zw_ri rfl rfl ?_
  rfl

theorem yl_ct0_9 {L : Nat} {σ : Nat → Int32} {d : Nat} {H : zp_H} (hB : zk_Bs (zB_c 0) zg zJc H) : zp_Call L σ (d + 3) 100 [.inr (.inr (some 1)), .inl (Int32.ofInt 9), .inr (.inr (some 105))] H (.inl (some (.inl (Int32.ofInt 0))), zw_J H 104 0 (H.2.1 2 10).toInt64) := by
  have W := zB_Wd (zB_dn (zB_Bc hB))
  refine zw_ex (zw_met zm_100_t rfl rfl ?_)
  refine zw_ld (n := 1) (k := 2) (f := zp_isR) (pc' := 1) rfl rfl rfl rfl rfl ?_
  refine zw_s (pc' := 2) rfl rfl ?_
  refine zw_ld (n := 1) (k := 0) (f := zp_isR) (pc' := 3) rfl rfl rfl rfl rfl ?_
  refine zw_ld (n := 1) (k := 1) (f := zp_isI) (pc' := 4) rfl rfl rfl rfl rfl ?_
  refine zw_ct (pc' := 7) (c' := (1, 6)) (zw_cv (q := 0) (Y := zm_101) W.1 rfl rfl zm_101_t rfl rfl) (zw_pb_ok rfl) rfl rfl rfl rfl (yc_ct0_9 hB) ?_
  refine zw_s (pc' := 8) rfl rfl ?_
  refine zw_ls (q := 104) (pc' := 9) W rfl rfl (⟨by decide, by decide⟩) rfl ?_
  refine zw_s (pc' := 15) rfl rfl ?_
  refine zw_s (pc' := 16) rfl rfl ?_
  refine zw_rig rfl rfl ⟨by decide, by decide⟩ ?_
  rfl

theorem yc_ct0_10 {L : Nat} {σ : Nat → Int32} {d : Nat} {H : zp_H} (hB : zk_Bs (zB_c 0) zg zJc H) : zp_Call L σ (d + 2) 101 [.inr (.inr (some 1)), .inl (Int32.ofInt 10)] H (.inl (some (.inl (H.2.1 2 11))), H) := by
  have W := zB_Wd (zB_dn (zB_Bc hB))
  have g5 : H.2.2.2 0 5 = some 3 := hB.2.1 0 5 _ rfl
  have g6 : H.2.2.2 0 6 = some 14 := hB.2.1 0 6 _ rfl
  have g7 : H.2.2.2 0 7 = some 23 := hB.2.1 0 7 _ rfl
  have g8 : H.2.2.2 0 8 = some 34 := hB.2.1 0 8 _ rfl
  refine zw_ex (zw_met zm_101_t rfl rfl ?_)
  refine zw_ld (n := 1) (k := 1) (f := zp_isI) (pc' := 1) rfl rfl rfl rfl rfl ?_
  refine zw_s (pc' := 162) rfl rfl ?_
  refine zw_ld (n := 1) (k := 0) (f := zp_isR) (pc' := 163) rfl rfl rfl rfl rfl ?_
  refine zw_gR (q := 0) (pc' := 166) W rfl rfl rfl rfl g5 rfl ?_
  refine zw_gI (q := 2) (pc' := 169) W rfl rfl rfl rfl rfl rfl ?_
  refine zw_ri rfl rfl ?_
  rfl

theorem yl_ct0_10 {L : Nat} {σ : Nat → Int32} {d : Nat} {H : zp_H} (hB : zk_Bs (zB_c 0) zg zJc H) : zp_Call L σ (d + 3) 100 [.inr (.inr (some 1)), .inl (Int32.ofInt 10), .inr (.inr (some 105))] H (.inl (some (.inl (Int32.ofInt 0))), zw_J H 104 0 (H.2.1 2 11).toInt64) := by
  have W := zB_Wd (zB_dn (zB_Bc hB))
  refine zw_ex (zw_met zm_100_t rfl rfl ?_)
  refine zw_ld (n := 1) (k := 2) (f := zp_isR) (pc' := 1) rfl rfl rfl rfl rfl ?_
  refine zw_s (pc' := 2) rfl rfl ?_
  refine zw_ld (n := 1) (k := 0) (f := zp_isR) (pc' := 3) rfl rfl rfl rfl rfl ?_
  refine zw_ld (n := 1) (k := 1) (f := zp_isI) (pc' := 4) rfl rfl rfl rfl rfl ?_
  refine zw_ct (pc' := 7) (c' := (1, 6)) (zw_cv (q := 0) (Y := zm_101) W.1 rfl rfl zm_101_t rfl rfl) (zw_pb_ok rfl) rfl rfl rfl rfl (yc_ct0_10 hB) ?_
  refine zw_s (pc' := 8) rfl rfl ?_
  refine zw_ls (q := 104) (pc' := 9) W rfl rfl (⟨by decide, by decide⟩) rfl ?_
  refine zw_s (pc' := 15) rfl rfl ?_
  refine zw_s (pc' := 16) rfl rfl ?_
  refine zw_rig rfl rfl ⟨by decide, by decide⟩ ?_
  rfl

theorem yc_ct0_11 {L : Nat} {σ : Nat → Int32} {d : Nat} {H : zp_H} (hB : zk_Bs (zB_c 0) zg zJc H) : zp_Call L σ (d + 2) 101 [.inr (.inr (some 1)), .inl (Int32.ofInt 11)] H (.inl (some (.inl (H.2.1 13 7))), H) := by
  have W := zB_Wd (zB_dn (zB_Bc hB))
  have g5 : H.2.2.2 0 5 = some 3 := hB.2.1 0 5 _ rfl
  have g6 : H.2.2.2 0 6 = some 14 := hB.2.1 0 6 _ rfl
  have g7 : H.2.2.2 0 7 = some 23 := hB.2.1 0 7 _ rfl
  have g8 : H.2.2.2 0 8 = some 34 := hB.2.1 0 8 _ rfl
  refine zw_ex (zw_met zm_101_t rfl rfl ?_)
  refine zw_ld (n := 1) (k := 1) (f := zp_isI) (pc' := 1) rfl rfl rfl rfl rfl ?_
  refine zw_s (pc' := 170) rfl rfl ?_
  refine zw_ld (n := 1) (k := 0) (f := zp_isR) (pc' := 171) rfl rfl rfl rfl rfl ?_
  refine zw_gR (q := 0) (pc' := 174) W rfl rfl rfl rfl g6 rfl ?_
  refine zw_gI (q := 13) (pc' := 177) W rfl rfl rfl rfl rfl rfl ?_
  refine zw_ri rfl rfl ?_
  rfl

theorem yl_ct0_11 {L : Nat} {σ : Nat → Int32} {d : Nat} {H : zp_H} (hB : zk_Bs (zB_c 0) zg zJc H) : zp_Call L σ (d + 3) 100 [.inr (.inr (some 1)), .inl (Int32.ofInt 11), .inr (.inr (some 105))] H (.inl (some (.inl (Int32.ofInt 0))), zw_J H 104 0 (H.2.1 13 7).toInt64) := by
  have W := zB_Wd (zB_dn (zB_Bc hB))
  refine zw_ex (zw_met zm_100_t rfl rfl ?_)
  refine zw_ld (n := 1) (k := 2) (f := zp_isR) (pc' := 1) rfl rfl rfl rfl rfl ?_
  refine zw_s (pc' := 2) rfl rfl ?_
  refine zw_ld (n := 1) (k := 0) (f := zp_isR) (pc' := 3) rfl rfl rfl rfl rfl ?_
  refine zw_ld (n := 1) (k := 1) (f := zp_isI) (pc' := 4) rfl rfl rfl rfl rfl ?_
  refine zw_ct (pc' := 7) (c' := (1, 6)) (zw_cv (q := 0) (Y := zm_101) W.1 rfl rfl zm_101_t rfl rfl) (zw_pb_ok rfl) rfl rfl rfl rfl (yc_ct0_11 hB) ?_
  refine zw_s (pc' := 8) rfl rfl ?_
  refine zw_ls (q := 104) (pc' := 9) W rfl rfl (⟨by decide, by decide⟩) rfl ?_
  refine zw_s (pc' := 15) rfl rfl ?_
  refine zw_s (pc' := 16) rfl rfl ?_
  refine zw_rig rfl rfl ⟨by decide, by decide⟩ ?_
  rfl

theorem yc_ct0_12 {L : Nat} {σ : Nat → Int32} {d : Nat} {H : zp_H} (hB : zk_Bs (zB_c 0) zg zJc H) : zp_Call L σ (d + 2) 101 [.inr (.inr (some 1)), .inl (Int32.ofInt 12)] H (.inl (some (.inl (H.2.1 0 1))), H) := by
  have W := zB_Wd (zB_dn (zB_Bc hB))
  have g5 : H.2.2.2 0 5 = some 3 := hB.2.1 0 5 _ rfl
  have g6 : H.2.2.2 0 6 = some 14 := hB.2.1 0 6 _ rfl
  have g7 : H.2.2.2 0 7 = some 23 := hB.2.1 0 7 _ rfl
  have g8 : H.2.2.2 0 8 = some 34 := hB.2.1 0 8 _ rfl
  refine zw_ex (zw_met zm_101_t rfl rfl ?_)
  refine zw_ld (n := 1) (k := 1) (f := zp_isI) (pc' := 1) rfl rfl rfl rfl rfl ?_
  refine zw_s (pc' := 178) rfl rfl ?_
  refine zw_ld (n := 1) (k := 0) (f := zp_isR) (pc' := 179) rfl rfl rfl rfl rfl ?_
  refine zw_gI (q := 0) (pc' := 182) W rfl rfl rfl rfl rfl rfl ?_
  refine zw_ri rfl rfl ?_
  rfl

theorem yl_ct0_12 {L : Nat} {σ : Nat → Int32} {d : Nat} {H : zp_H} (hB : zk_Bs (zB_c 0) zg zJc H) : zp_Call L σ (d + 3) 100 [.inr (.inr (some 1)), .inl (Int32.ofInt 12), .inr (.inr (some 105))] H (.inl (some (.inl (Int32.ofInt 0))), zw_J H 104 0 (H.2.1 0 1).toInt64) := by
  have W := zB_Wd (zB_dn (zB_Bc hB))
  refine zw_ex (zw_met zm_100_t rfl rfl ?_)
  refine zw_ld (n := 1) (k := 2) (f := zp_isR) (pc' := 1) rfl rfl rfl rfl rfl ?_
  refine zw_s (pc' := 2) rfl rfl ?_
  refine zw_ld (n := 1) (k := 0) (f := zp_isR) (pc' := 3) rfl rfl rfl rfl rfl ?_
  refine zw_ld (n := 1) (k := 1) (f := zp_isI) (pc' := 4) rfl rfl rfl rfl rfl ?_
  refine zw_ct (pc' := 7) (c' := (1, 6)) (zw_cv (q := 0) (Y := zm_101) W.1 rfl rfl zm_101_t rfl rfl) (zw_pb_ok rfl) rfl rfl rfl rfl (yc_ct0_12 hB) ?_
  refine zw_s (pc' := 8) rfl rfl ?_
  refine zw_ls (q := 104) (pc' := 9) W rfl rfl (⟨by decide, by decide⟩) rfl ?_
  refine zw_s (pc' := 15) rfl rfl ?_
  refine zw_s (pc' := 16) rfl rfl ?_
  refine zw_rig rfl rfl ⟨by decide, by decide⟩ ?_
  rfl

theorem yc_ct0_13 {L : Nat} {σ : Nat → Int32} {d : Nat} {H : zp_H} (hB : zk_Bs (zB_c 0) zg zJc H) : zp_Call L σ (d + 2) 101 [.inr (.inr (some 1)), .inl (Int32.ofInt 13)] H (.inl (some (.inl (H.2.1 0 3))), H) := by
  have W := zB_Wd (zB_dn (zB_Bc hB))
  have g5 : H.2.2.2 0 5 = some 3 := hB.2.1 0 5 _ rfl
  have g6 : H.2.2.2 0 6 = some 14 := hB.2.1 0 6 _ rfl
  have g7 : H.2.2.2 0 7 = some 23 := hB.2.1 0 7 _ rfl
  have g8 : H.2.2.2 0 8 = some 34 := hB.2.1 0 8 _ rfl
  refine zw_ex (zw_met zm_101_t rfl rfl ?_)
  refine zw_ld (n := 1) (k := 1) (f := zp_isI) (pc' := 1) rfl rfl rfl rfl rfl ?_
  refine zw_s (pc' := 183) rfl rfl ?_
  refine zw_ld (n := 1) (k := 0) (f := zp_isR) (pc' := 184) rfl rfl rfl rfl rfl ?_
  refine zw_gI (q := 0) (pc' := 187) W rfl rfl rfl rfl rfl rfl ?_
  refine zw_ri rfl rfl ?_
  rfl

theorem yl_ct0_13 {L : Nat} {σ : Nat → Int32} {d : Nat} {H : zp_H} (hB : zk_Bs (zB_c 0) zg zJc H) : zp_Call L σ (d + 3) 100 [.inr (.inr (some 1)), .inl (Int32.ofInt 13), .inr (.inr (some 105))] H (.inl (some (.inl (Int32.ofInt 0))), zw_J H 104 0 (H.2.1 0 3).toInt64) := by
  have W := zB_Wd (zB_dn (zB_Bc hB))
  refine zw_ex (zw_met zm_100_t rfl rfl ?_)
  refine zw_ld (n := 1) (k := 2) (f := zp_isR) (pc' := 1) rfl rfl rfl rfl rfl ?_
  refine zw_s (pc' := 2) rfl rfl ?_
  refine zw_ld (n := 1) (k := 0) (f := zp_isR) (pc' := 3) rfl rfl rfl rfl rfl ?_
  refine zw_ld (n := 1) (k := 1) (f := zp_isI) (pc' := 4) rfl rfl rfl rfl rfl ?_
  refine zw_ct (pc' := 7) (c' := (1, 6)) (zw_cv (q := 0) (Y := zm_101) W.1 rfl rfl zm_101_t rfl rfl) (zw_pb_ok rfl) rfl rfl rfl rfl (yc_ct0_13 hB) ?_
  refine zw_s (pc' := 8) rfl rfl ?_
  refine zw_ls (q := 104) (pc' := 9) W rfl rfl (⟨by decide, by decide⟩) rfl ?_
  refine zw_s (pc' := 15) rfl rfl ?_
  refine zw_s (pc' := 16) rfl rfl ?_
  refine zw_rig rfl rfl ⟨by decide, by decide⟩ ?_
  rfl

theorem yc_ct0_14 {L : Nat} {σ : Nat → Int32} {d : Nat} {H : zp_H} (hB : zk_Bs (zB_c 0) zg zJc H) : zp_Call L σ (d + 2) 101 [.inr (.inr (some 1)), .inl (Int32.ofInt 14)] H (.inl (some (.inl (H.2.1 0 4))), H) := by
  have W := zB_Wd (zB_dn (zB_Bc hB))
  have g5 : H.2.2.2 0 5 = some 3 := hB.2.1 0 5 _ rfl
  have g6 : H.2.2.2 0 6 = some 14 := hB.2.1 0 6 _ rfl
  have g7 : H.2.2.2 0 7 = some 23 := hB.2.1 0 7 _ rfl
  have g8 : H.2.2.2 0 8 = some 34 := hB.2.1 0 8 _ rfl
  refine zw_ex (zw_met zm_101_t rfl rfl ?_)
  refine zw_ld (n := 1) (k := 1) (f := zp_isI) (pc' := 1) rfl rfl rfl rfl rfl ?_
  refine zw_s (pc' := 188) rfl rfl ?_
  refine zw_ld (n := 1) (k := 0) (f := zp_isR) (pc' := 189) rfl rfl rfl rfl rfl ?_
  refine zw_gI (q := 0) (pc' := 192) W rfl rfl rfl rfl rfl rfl ?_
  refine zw_ri rfl rfl ?_
  rfl

theorem yl_ct0_14 {L : Nat} {σ : Nat → Int32} {d : Nat} {H : zp_H} (hB : zk_Bs (zB_c 0) zg zJc H) : zp_Call L σ (d + 3) 100 [.inr (.inr (some 1)), .inl (Int32.ofInt 14), .inr (.inr (some 105))] H (.inl (some (.inl (Int32.ofInt 0))), zw_J H 104 0 (H.2.1 0 4).toInt64) := by
  have W := zB_Wd (zB_dn (zB_Bc hB))
  refine zw_ex (zw_met zm_100_t rfl rfl ?_)
  refine zw_ld (n := 1) (k := 2) (f := zp_isR) (pc' := 1) rfl rfl rfl rfl rfl ?_
  refine zw_s (pc' := 2) rfl rfl ?_
  refine zw_ld (n := 1) (k := 0) (f := zp_isR) (pc' := 3) rfl rfl rfl rfl rfl ?_
  refine zw_ld (n := 1) (k := 1) (f := zp_isI) (pc' := 4) rfl rfl rfl rfl rfl ?_
  refine zw_ct (pc' := 7) (c' := (1, 6)) (zw_cv (q := 0) (Y := zm_101) W.1 rfl rfl zm_101_t rfl rfl) (zw_pb_ok rfl) rfl rfl rfl rfl (yc_ct0_14 hB) ?_
  refine zw_s (pc' := 8) rfl rfl ?_
  refine zw_ls (q := 104) (pc' := 9) W rfl rfl (⟨by decide, by decide⟩) rfl ?_
  refine zw_s (pc' := 15) rfl rfl ?_
  refine zw_s (pc' := 16) rfl rfl ?_
  refine zw_rig rfl rfl ⟨by decide, by decide⟩ ?_
  rfl

theorem yc_ctn0 {L : Nat} {σ : Nat → Int32} {d : Nat} {H : zp_H} {x1 : Int32} (hB : zk_Bs (zB_c 0) zg zJc H) (h : ¬ (0 ≤ x1.toInt ∧ x1.toInt ≤ 14)) : zp_Call L σ (d + 2) 101 [.inr (.inr (some 1)), .inl x1] H (.inr 0, H) := by
  have W := zB_Wd (zB_dn (zB_Bc hB))
  have g5 : H.2.2.2 0 5 = some 3 := hB.2.1 0 5 _ rfl
  have g6 : H.2.2.2 0 6 = some 14 := hB.2.1 0 6 _ rfl
  have g7 : H.2.2.2 0 7 = some 23 := hB.2.1 0 7 _ rfl
  have g8 : H.2.2.2 0 8 = some 34 := hB.2.1 0 8 _ rfl
  refine zw_ex (zw_met zm_101_t rfl rfl ?_)
  refine zw_ld (n := 1) (k := 1) (f := zp_isI) (pc' := 1) rfl rfl rfl rfl rfl ?_
  refine zw_s (pc' := 193) rfl ((if_pos (show x1.toInt < 0 ∨ 14 < x1.toInt by omega)).trans rfl) ?_
  exact zs_end (S := (193, _, [], H, (0, 0))) (X := (.inr 0, H)) rfl rfl rfl

theorem yl_ctn0 {L : Nat} {σ : Nat → Int32} {d : Nat} {H : zp_H} {x1 : Int32} (hB : zk_Bs (zB_c 0) zg zJc H) (h : ¬ (0 ≤ x1.toInt ∧ x1.toInt ≤ 14)) : zp_Call L σ (d + 3) 100 [.inr (.inr (some 1)), .inl x1, .inr (.inr (some 105))] H (.inl (some (.inl (Int32.ofInt 1))), H) := by
  have W := zB_Wd (zB_dn (zB_Bc hB))
  refine zw_ex (zw_met zm_100_t rfl rfl ?_)
  refine zw_ld (n := 1) (k := 2) (f := zp_isR) (pc' := 1) rfl rfl rfl rfl rfl ?_
  refine zw_s (pc' := 2) rfl rfl ?_
  refine zw_ld (n := 1) (k := 0) (f := zp_isR) (pc' := 3) rfl rfl rfl rfl rfl ?_
  refine zw_ld (n := 1) (k := 1) (f := zp_isI) (pc' := 4) rfl rfl rfl rfl rfl ?_
  refine zw_cex (ex := 0) (hp9 := 12) (pc' := 13) (c' := (1, 6)) (zw_cv (q := 0) (Y := zm_101) W.1 rfl rfl zm_101_t rfl rfl) (zw_pb_ok rfl) rfl rfl rfl rfl rfl rfl rfl (yc_ctn0 hB h) ?_
  refine zw_s (pc' := 14) rfl rfl ?_
  refine zw_rig rfl rfl ⟨by decide, by decide⟩ ?_
  rfl

theorem yc_ct3_0 {L : Nat} {σ : Nat → Int32} {d : Nat} {H : zp_H} (hB : zk_Bs (zB_c 3) zg zJc H) : zp_Call L σ (d + 2) 101 [.inr (.inr (some 1)), .inl (Int32.ofInt 0)] H (.inl (some (.inl (H.2.1 22 0))), H) := by
  have W := zB_Wd (zB_dn (zB_Bc hB))
  have g5 : H.2.2.2 0 5 = some 23 := hB.2.1 0 5 _ rfl
  have g6 : H.2.2.2 0 6 = some 34 := hB.2.1 0 6 _ rfl
  have g7 : H.2.2.2 0 7 = some 3 := hB.2.1 0 7 _ rfl
  have g8 : H.2.2.2 0 8 = some 14 := hB.2.1 0 8 _ rfl
  refine zw_ex (zw_met zm_101_t rfl rfl ?_)
  refine zw_ld (n := 1) (k := 1) (f := zp_isI) (pc' := 1) rfl rfl rfl rfl rfl ?_
  refine zw_s (pc' := 76) rfl rfl ?_
  refine zw_ld (n := 1) (k := 0) (f := zp_isR) (pc' := 77) rfl rfl rfl rfl rfl ?_
  refine zw_gR (q := 0) (pc' := 80) W rfl rfl rfl rfl g5 rfl ?_
  refine zw_gI (q := 22) (pc' := 83) W rfl rfl rfl rfl rfl rfl ?_
  refine zw_ri rfl rfl ?_
  rfl

theorem yl_ct3_0 {L : Nat} {σ : Nat → Int32} {d : Nat} {H : zp_H} (hB : zk_Bs (zB_c 3) zg zJc H) : zp_Call L σ (d + 3) 100 [.inr (.inr (some 1)), .inl (Int32.ofInt 0), .inr (.inr (some 105))] H (.inl (some (.inl (Int32.ofInt 0))), zw_J H 104 0 (H.2.1 22 0).toInt64) := by
  have W := zB_Wd (zB_dn (zB_Bc hB))
  refine zw_ex (zw_met zm_100_t rfl rfl ?_)
  refine zw_ld (n := 1) (k := 2) (f := zp_isR) (pc' := 1) rfl rfl rfl rfl rfl ?_
  refine zw_s (pc' := 2) rfl rfl ?_
  refine zw_ld (n := 1) (k := 0) (f := zp_isR) (pc' := 3) rfl rfl rfl rfl rfl ?_
  refine zw_ld (n := 1) (k := 1) (f := zp_isI) (pc' := 4) rfl rfl rfl rfl rfl ?_
  refine zw_ct (pc' := 7) (c' := (1, 6)) (zw_cv (q := 0) (Y := zm_101) W.1 rfl rfl zm_101_t rfl rfl) (zw_pb_ok rfl) rfl rfl rfl rfl (yc_ct3_0 hB) ?_
  refine zw_s (pc' := 8) rfl rfl ?_
  refine zw_ls (q := 104) (pc' := 9) W rfl rfl (⟨by decide, by decide⟩) rfl ?_
  refine zw_s (pc' := 15) rfl rfl ?_
  refine zw_s (pc' := 16) rfl rfl ?_
  refine zw_rig rfl rfl ⟨by decide, by decide⟩ ?_
  rfl

theorem yc_ct3_1 {L : Nat} {σ : Nat → Int32} {d : Nat} {H : zp_H} (hB : zk_Bs (zB_c 3) zg zJc H) : zp_Call L σ (d + 2) 101 [.inr (.inr (some 1)), .inl (Int32.ofInt 1)] H (.inl (some (.inl (H.2.1 22 1))), H) := by
  have W := zB_Wd (zB_dn (zB_Bc hB))
  have g5 : H.2.2.2 0 5 = some 23 := hB.2.1 0 5 _ rfl
  have g6 : H.2.2.2 0 6 = some 34 := hB.2.1 0 6 _ rfl
  have g7 : H.2.2.2 0 7 = some 3 := hB.2.1 0 7 _ rfl
  have g8 : H.2.2.2 0 8 = some 14 := hB.2.1 0 8 _ rfl
  refine zw_ex (zw_met zm_101_t rfl rfl ?_)
  refine zw_ld (n := 1) (k := 1) (f := zp_isI) (pc' := 1) rfl rfl rfl rfl rfl ?_
  refine zw_s (pc' := 84) rfl rfl ?_
  refine zw_ld (n := 1) (k := 0) (f := zp_isR) (pc' := 85) rfl rfl rfl rfl rfl ?_
  refine zw_gR (q := 0) (pc' := 88) W rfl rfl rfl rfl g5 rfl ?_
  refine zw_gI (q := 22) (pc' := 91) W rfl rfl rfl rfl rfl rfl ?_
  refine zw_ri rfl rfl ?_
  rfl

theorem yl_ct3_1 {L : Nat} {σ : Nat → Int32} {d : Nat} {H : zp_H} (hB : zk_Bs (zB_c 3) zg zJc H) : zp_Call L σ (d + 3) 100 [.inr (.inr (some 1)), .inl (Int32.ofInt 1), .inr (.inr (some 105))] H (.inl (some (.inl (Int32.ofInt 0))), zw_J H 104 0 (H.2.1 22 1).toInt64) := by
  have W := zB_Wd (zB_dn (zB_Bc hB))
  refine zw_ex (zw_met zm_100_t rfl rfl ?_)
  refine zw_ld (n := 1) (k := 2) (f := zp_isR) (pc' := 1) rfl rfl rfl rfl rfl ?_
  refine zw_s (pc' := 2) rfl rfl ?_
  refine zw_ld (n := 1) (k := 0) (f := zp_isR) (pc' := 3) rfl rfl rfl rfl rfl ?_
  refine zw_ld (n := 1) (k := 1) (f := zp_isI) (pc' := 4) rfl rfl rfl rfl rfl ?_
  refine zw_ct (pc' := 7) (c' := (1, 6)) (zw_cv (q := 0) (Y := zm_101) W.1 rfl rfl zm_101_t rfl rfl) (zw_pb_ok rfl) rfl rfl rfl rfl (yc_ct3_1 hB) ?_
  refine zw_s (pc' := 8) rfl rfl ?_
  refine zw_ls (q := 104) (pc' := 9) W rfl rfl (⟨by decide, by decide⟩) rfl ?_
  refine zw_s (pc' := 15) rfl rfl ?_
  refine zw_s (pc' := 16) rfl rfl ?_
  refine zw_rig rfl rfl ⟨by decide, by decide⟩ ?_
  rfl

theorem yc_ct3_2 {L : Nat} {σ : Nat → Int32} {d : Nat} {H : zp_H} (hB : zk_Bs (zB_c 3) zg zJc H) : zp_Call L σ (d + 2) 101 [.inr (.inr (some 1)), .inl (Int32.ofInt 2)] H (.inl (some (.inl (yBC (H.2.2.1 22 3)))), H) := by
  have W := zB_Wd (zB_dn (zB_Bc hB))
  have g5 : H.2.2.2 0 5 = some 23 := hB.2.1 0 5 _ rfl
  have g6 : H.2.2.2 0 6 = some 34 := hB.2.1 0 6 _ rfl
  have g7 : H.2.2.2 0 7 = some 3 := hB.2.1 0 7 _ rfl
  have g8 : H.2.2.2 0 8 = some 14 := hB.2.1 0 8 _ rfl
  refine zw_ex (zw_met zm_101_t rfl rfl ?_)
  refine zw_ld (n := 1) (k := 1) (f := zp_isI) (pc' := 1) rfl rfl rfl rfl rfl ?_
  refine zw_s (pc' := 92) rfl rfl ?_
  refine zw_ld (n := 1) (k := 0) (f := zp_isR) (pc' := 93) rfl rfl rfl rfl rfl ?_
  refine zw_gR (q := 0) (pc' := 96) W rfl rfl rfl rfl g5 rfl ?_
  refine zw_gL (q := 22) (pc' := 99) W rfl rfl rfl rfl rfl ?_
  refine zw_c (pc' := 102) (zw_cs (Y := zm_67) rfl rfl zm_67_t) rfl rfl rfl rfl rfl (yc_bc) ?_
  refine zw_ri rfl rfl ?_
  rfl

theorem yl_ct3_2 {L : Nat} {σ : Nat → Int32} {d : Nat} {H : zp_H} (hB : zk_Bs (zB_c 3) zg zJc H) : zp_Call L σ (d + 3) 100 [.inr (.inr (some 1)), .inl (Int32.ofInt 2), .inr (.inr (some 105))] H (.inl (some (.inl (Int32.ofInt 0))), zw_J H 104 0 (yBC (H.2.2.1 22 3)).toInt64) := by
  have W := zB_Wd (zB_dn (zB_Bc hB))
  refine zw_ex (zw_met zm_100_t rfl rfl ?_)
  refine zw_ld (n := 1) (k := 2) (f := zp_isR) (pc' := 1) rfl rfl rfl rfl rfl ?_
  refine zw_s (pc' := 2) rfl rfl ?_
  refine zw_ld (n := 1) (k := 0) (f := zp_isR) (pc' := 3) rfl rfl rfl rfl rfl ?_
  refine zw_ld (n := 1) (k := 1) (f := zp_isI) (pc' := 4) rfl rfl rfl rfl rfl ?_
  refine zw_ct (pc' := 7) (c' := (1, 6)) (zw_cv (q := 0) (Y := zm_101) W.1 rfl rfl zm_101_t rfl rfl) (zw_pb_ok rfl) rfl rfl rfl rfl (yc_ct3_2 hB) ?_
  refine zw_s (pc' := 8) rfl rfl ?_
  refine zw_ls (q := 104) (pc' := 9) W rfl rfl (⟨by decide, by decide⟩) rfl ?_
  refine zw_s (pc' := 15) rfl rfl ?_
  refine zw_s (pc' := 16) rfl rfl ?_
  refine zw_rig rfl rfl ⟨by decide, by decide⟩ ?_
  rfl

theorem yc_ct3_3 {L : Nat} {σ : Nat → Int32} {d : Nat} {H : zp_H} (hB : zk_Bs (zB_c 3) zg zJc H) : zp_Call L σ (d + 2) 101 [.inr (.inr (some 1)), .inl (Int32.ofInt 3)] H (.inl (some (.inl (yBC (yCur 22 H)))), H) := by
  have W := zB_Wd (zB_dn (zB_Bc hB))
  have g5 : H.2.2.2 0 5 = some 23 := hB.2.1 0 5 _ rfl
  have g6 : H.2.2.2 0 6 = some 34 := hB.2.1 0 6 _ rfl
  have g7 : H.2.2.2 0 7 = some 3 := hB.2.1 0 7 _ rfl
  have g8 : H.2.2.2 0 8 = some 14 := hB.2.1 0 8 _ rfl
  refine zw_ex (zw_met zm_101_t rfl rfl ?_)
  refine zw_ld (n := 1) (k := 1) (f := zp_isI) (pc' := 1) rfl rfl rfl rfl rfl ?_
  refine zw_s (pc' := 103) rfl rfl ?_
  refine zw_ld (n := 1) (k := 0) (f := zp_isR) (pc' := 104) rfl rfl rfl rfl rfl ?_
  refine zw_gR (q := 0) (pc' := 107) W rfl rfl rfl rfl g5 rfl ?_
  refine zw_c (pc' := 110) (zw_cv (q := 22) (Y := zm_72) W.1 rfl rfl zm_72_t rfl rfl) rfl rfl rfl rfl rfl (yc_all22 W) ?_
  refine zw_c (pc' := 113) (zw_cs (Y := zm_67) rfl rfl zm_67_t) rfl rfl rfl rfl rfl (yc_bc) ?_
  refine zw_ri rfl rfl ?_
  rfl

theorem yl_ct3_3 {L : Nat} {σ : Nat → Int32} {d : Nat} {H : zp_H} (hB : zk_Bs (zB_c 3) zg zJc H) : zp_Call L σ (d + 3) 100 [.inr (.inr (some 1)), .inl (Int32.ofInt 3), .inr (.inr (some 105))] H (.inl (some (.inl (Int32.ofInt 0))), zw_J H 104 0 (yBC (yCur 22 H)).toInt64) := by
  have W := zB_Wd (zB_dn (zB_Bc hB))
  refine zw_ex (zw_met zm_100_t rfl rfl ?_)
  refine zw_ld (n := 1) (k := 2) (f := zp_isR) (pc' := 1) rfl rfl rfl rfl rfl ?_
  refine zw_s (pc' := 2) rfl rfl ?_
  refine zw_ld (n := 1) (k := 0) (f := zp_isR) (pc' := 3) rfl rfl rfl rfl rfl ?_
  refine zw_ld (n := 1) (k := 1) (f := zp_isI) (pc' := 4) rfl rfl rfl rfl rfl ?_
  refine zw_ct (pc' := 7) (c' := (1, 6)) (zw_cv (q := 0) (Y := zm_101) W.1 rfl rfl zm_101_t rfl rfl) (zw_pb_ok rfl) rfl rfl rfl rfl (yc_ct3_3 hB) ?_
  refine zw_s (pc' := 8) rfl rfl ?_
  refine zw_ls (q := 104) (pc' := 9) W rfl rfl (⟨by decide, by decide⟩) rfl ?_
  refine zw_s (pc' := 15) rfl rfl ?_
  refine zw_s (pc' := 16) rfl rfl ?_
  refine zw_rig rfl rfl ⟨by decide, by decide⟩ ?_
  rfl

theorem yc_ct3_4 {L : Nat} {σ : Nat → Int32} {d : Nat} {H : zp_H} (hB : zk_Bs (zB_c 3) zg zJc H) : zp_Call L σ (d + 2) 101 [.inr (.inr (some 1)), .inl (Int32.ofInt 4)] H (.inl (some (.inl (H.2.1 33 0))), H) := by
  have W := zB_Wd (zB_dn (zB_Bc hB))
  have g5 : H.2.2.2 0 5 = some 23 := hB.2.1 0 5 _ rfl
  have g6 : H.2.2.2 0 6 = some 34 := hB.2.1 0 6 _ rfl
  have g7 : H.2.2.2 0 7 = some 3 := hB.2.1 0 7 _ rfl
  have g8 : H.2.2.2 0 8 = some 14 := hB.2.1 0 8 _ rfl
  refine zw_ex (zw_met zm_101_t rfl rfl ?_)
  refine zw_ld (n := 1) (k := 1) (f := zp_isI) (pc' := 1) rfl rfl rfl rfl rfl ?_
  refine zw_s (pc' := 114) rfl rfl ?_
  refine zw_ld (n := 1) (k := 0) (f := zp_isR) (pc' := 115) rfl rfl rfl rfl rfl ?_
  refine zw_gR (q := 0) (pc' := 118) W rfl rfl rfl rfl g6 rfl ?_
  refine zw_gI (q := 33) (pc' := 121) W rfl rfl rfl rfl rfl rfl ?_
  refine zw_ri rfl rfl ?_
  rfl

theorem yl_ct3_4 {L : Nat} {σ : Nat → Int32} {d : Nat} {H : zp_H} (hB : zk_Bs (zB_c 3) zg zJc H) : zp_Call L σ (d + 3) 100 [.inr (.inr (some 1)), .inl (Int32.ofInt 4), .inr (.inr (some 105))] H (.inl (some (.inl (Int32.ofInt 0))), zw_J H 104 0 (H.2.1 33 0).toInt64) := by
  have W := zB_Wd (zB_dn (zB_Bc hB))
  refine zw_ex (zw_met zm_100_t rfl rfl ?_)
  refine zw_ld (n := 1) (k := 2) (f := zp_isR) (pc' := 1) rfl rfl rfl rfl rfl ?_
  refine zw_s (pc' := 2) rfl rfl ?_
  refine zw_ld (n := 1) (k := 0) (f := zp_isR) (pc' := 3) rfl rfl rfl rfl rfl ?_
  refine zw_ld (n := 1) (k := 1) (f := zp_isI) (pc' := 4) rfl rfl rfl rfl rfl ?_
  refine zw_ct (pc' := 7) (c' := (1, 6)) (zw_cv (q := 0) (Y := zm_101) W.1 rfl rfl zm_101_t rfl rfl) (zw_pb_ok rfl) rfl rfl rfl rfl (yc_ct3_4 hB) ?_
  refine zw_s (pc' := 8) rfl rfl ?_
  refine zw_ls (q := 104) (pc' := 9) W rfl rfl (⟨by decide, by decide⟩) rfl ?_
  refine zw_s (pc' := 15) rfl rfl ?_
  refine zw_s (pc' := 16) rfl rfl ?_
  refine zw_rig rfl rfl ⟨by decide, by decide⟩ ?_
  rfl

theorem yc_ct3_5 {L : Nat} {σ : Nat → Int32} {d : Nat} {H : zp_H} (hB : zk_Bs (zB_c 3) zg zJc H) : zp_Call L σ (d + 2) 101 [.inr (.inr (some 1)), .inl (Int32.ofInt 5)] H (.inl (some (.inl (H.2.1 22 7))), H) := by
  have W := zB_Wd (zB_dn (zB_Bc hB))
  have g5 : H.2.2.2 0 5 = some 23 := hB.2.1 0 5 _ rfl
  have g6 : H.2.2.2 0 6 = some 34 := hB.2.1 0 6 _ rfl
  have g7 : H.2.2.2 0 7 = some 3 := hB.2.1 0 7 _ rfl
  have g8 : H.2.2.2 0 8 = some 14 := hB.2.1 0 8 _ rfl
  refine zw_ex (zw_met zm_101_t rfl rfl ?_)
  refine zw_ld (n := 1) (k := 1) (f := zp_isI) (pc' := 1) rfl rfl rfl rfl rfl ?_
  refine zw_s (pc' := 122) rfl rfl ?_
  refine zw_ld (n := 1) (k := 0) (f := zp_isR) (pc' := 123) rfl rfl rfl rfl rfl ?_
  refine zw_gR (q := 0) (pc' := 126) W rfl rfl rfl rfl g5 rfl ?_
  refine zw_gI (q := 22) (pc' := 129) W rfl rfl rfl rfl rfl rfl ?_
  refine zw_ri rfl rfl ?_
  rfl

theorem yl_ct3_5 {L : Nat} {σ : Nat → Int32} {d : Nat} {H : zp_H} (hB : zk_Bs (zB_c 3) zg zJc H) : zp_Call L σ (d + 3) 100 [.inr (.inr (some 1)), .inl (Int32.ofInt 5), .inr (.inr (some 105))] H (.inl (some (.inl (Int32.ofInt 0))), zw_J H 104 0 (H.2.1 22 7).toInt64) := by
  have W := zB_Wd (zB_dn (zB_Bc hB))
  refine zw_ex (zw_met zm_100_t rfl rfl ?_)
  refine zw_ld (n := 1) (k := 2) (f := zp_isR) (pc' := 1) rfl rfl rfl rfl rfl ?_
  refine zw_s (pc' := 2) rfl rfl ?_
  refine zw_ld (n := 1) (k := 0) (f := zp_isR) (pc' := 3) rfl rfl rfl rfl rfl ?_
  refine zw_ld (n := 1) (k := 1) (f := zp_isI) (pc' := 4) rfl rfl rfl rfl rfl ?_
  refine zw_ct (pc' := 7) (c' := (1, 6)) (zw_cv (q := 0) (Y := zm_101) W.1 rfl rfl zm_101_t rfl rfl) (zw_pb_ok rfl) rfl rfl rfl rfl (yc_ct3_5 hB) ?_
  refine zw_s (pc' := 8) rfl rfl ?_
  refine zw_ls (q := 104) (pc' := 9) W rfl rfl (⟨by decide, by decide⟩) rfl ?_
  refine zw_s (pc' := 15) rfl rfl ?_
  refine zw_s (pc' := 16) rfl rfl ?_
  refine zw_rig rfl rfl ⟨by decide, by decide⟩ ?_
  rfl

theorem yc_ct3_6 {L : Nat} {σ : Nat → Int32} {d : Nat} {H : zp_H} (hB : zk_Bs (zB_c 3) zg zJc H) : zp_Call L σ (d + 2) 101 [.inr (.inr (some 1)), .inl (Int32.ofInt 6)] H (.inl (some (.inl (H.2.1 22 12))), H) := by
  have W := zB_Wd (zB_dn (zB_Bc hB))
  have g5 : H.2.2.2 0 5 = some 23 := hB.2.1 0 5 _ rfl
  have g6 : H.2.2.2 0 6 = some 34 := hB.2.1 0 6 _ rfl
  have g7 : H.2.2.2 0 7 = some 3 := hB.2.1 0 7 _ rfl
  have g8 : H.2.2.2 0 8 = some 14 := hB.2.1 0 8 _ rfl
  refine zw_ex (zw_met zm_101_t rfl rfl ?_)
  refine zw_ld (n := 1) (k := 1) (f := zp_isI) (pc' := 1) rfl rfl rfl rfl rfl ?_
  refine zw_s (pc' := 130) rfl rfl ?_
  refine zw_ld (n := 1) (k := 0) (f := zp_isR) (pc' := 131) rfl rfl rfl rfl rfl ?_
  refine zw_gR (q := 0) (pc' := 134) W rfl rfl rfl rfl g5 rfl ?_
  refine zw_gI (q := 22) (pc' := 137) W rfl rfl rfl rfl rfl rfl ?_
  refine zw_ri rfl rfl ?_
  rfl

theorem yl_ct3_6 {L : Nat} {σ : Nat → Int32} {d : Nat} {H : zp_H} (hB : zk_Bs (zB_c 3) zg zJc H) : zp_Call L σ (d + 3) 100 [.inr (.inr (some 1)), .inl (Int32.ofInt 6), .inr (.inr (some 105))] H (.inl (some (.inl (Int32.ofInt 0))), zw_J H 104 0 (H.2.1 22 12).toInt64) := by
  have W := zB_Wd (zB_dn (zB_Bc hB))
  refine zw_ex (zw_met zm_100_t rfl rfl ?_)
  refine zw_ld (n := 1) (k := 2) (f := zp_isR) (pc' := 1) rfl rfl rfl rfl rfl ?_
  refine zw_s (pc' := 2) rfl rfl ?_
  refine zw_ld (n := 1) (k := 0) (f := zp_isR) (pc' := 3) rfl rfl rfl rfl rfl ?_
  refine zw_ld (n := 1) (k := 1) (f := zp_isI) (pc' := 4) rfl rfl rfl rfl rfl ?_
  refine zw_ct (pc' := 7) (c' := (1, 6)) (zw_cv (q := 0) (Y := zm_101) W.1 rfl rfl zm_101_t rfl rfl) (zw_pb_ok rfl) rfl rfl rfl rfl (yc_ct3_6 hB) ?_
  refine zw_s (pc' := 8) rfl rfl ?_
  refine zw_ls (q := 104) (pc' := 9) W rfl rfl (⟨by decide, by decide⟩) rfl ?_
  refine zw_s (pc' := 15) rfl rfl ?_
  refine zw_s (pc' := 16) rfl rfl ?_
  refine zw_rig rfl rfl ⟨by decide, by decide⟩ ?_
  rfl

theorem yc_ct3_7 {L : Nat} {σ : Nat → Int32} {d : Nat} {H : zp_H} (hB : zk_Bs (zB_c 3) zg zJc H) : zp_Call L σ (d + 2) 101 [.inr (.inr (some 1)), .inl (Int32.ofInt 7)] H (.inl (some (.inl (H.2.1 22 16))), H) := by
  have W := zB_Wd (zB_dn (zB_Bc hB))
  have g5 : H.2.2.2 0 5 = some 23 := hB.2.1 0 5 _ rfl
  have g6 : H.2.2.2 0 6 = some 34 := hB.2.1 0 6 _ rfl
  have g7 : H.2.2.2 0 7 = some 3 := hB.2.1 0 7 _ rfl
  have g8 : H.2.2.2 0 8 = some 14 := hB.2.1 0 8 _ rfl
  refine zw_ex (zw_met zm_101_t rfl rfl ?_)
  refine zw_ld (n := 1) (k := 1) (f := zp_isI) (pc' := 1) rfl rfl rfl rfl rfl ?_
  refine zw_s (pc' := 138) rfl rfl ?_
  refine zw_ld (n := 1) (k := 0) (f := zp_isR) (pc' := 139) rfl rfl rfl rfl rfl ?_
  refine zw_gR (q := 0) (pc' := 142) W rfl rfl rfl rfl g5 rfl ?_
  refine zw_gI (q := 22) (pc' := 145) W rfl rfl rfl rfl rfl rfl ?_
  refine zw_ri rfl rfl ?_
  rfl

theorem yl_ct3_7 {L : Nat} {σ : Nat → Int32} {d : Nat} {H : zp_H} (hB : zk_Bs (zB_c 3) zg zJc H) : zp_Call L σ (d + 3) 100 [.inr (.inr (some 1)), .inl (Int32.ofInt 7), .inr (.inr (some 105))] H (.inl (some (.inl (Int32.ofInt 0))), zw_J H 104 0 (H.2.1 22 16).toInt64) := by
  have W := zB_Wd (zB_dn (zB_Bc hB))
  refine zw_ex (zw_met zm_100_t rfl rfl ?_)
  refine zw_ld (n := 1) (k := 2) (f := zp_isR) (pc' := 1) rfl rfl rfl rfl rfl ?_
  refine zw_s (pc' := 2) rfl rfl ?_
  refine zw_ld (n := 1) (k := 0) (f := zp_isR) (pc' := 3) rfl rfl rfl rfl rfl ?_
  refine zw_ld (n := 1) (k := 1) (f := zp_isI) (pc' := 4) rfl rfl rfl rfl rfl ?_
  refine zw_ct (pc' := 7) (c' := (1, 6)) (zw_cv (q := 0) (Y := zm_101) W.1 rfl rfl zm_101_t rfl rfl) (zw_pb_ok rfl) rfl rfl rfl rfl (yc_ct3_7 hB) ?_
  refine zw_s (pc' := 8) rfl rfl ?_
  refine zw_ls (q := 104) (pc' := 9) W rfl rfl (⟨by decide, by decide⟩) rfl ?_
  refine zw_s (pc' := 15) rfl rfl ?_
  refine zw_s (pc' := 16) rfl rfl ?_
  refine zw_rig rfl rfl ⟨by decide, by decide⟩ ?_
  rfl

theorem yc_ct3_8 {L : Nat} {σ : Nat → Int32} {d : Nat} {H : zp_H} (hB : zk_Bs (zB_c 3) zg zJc H) : zp_Call L σ (d + 2) 101 [.inr (.inr (some 1)), .inl (Int32.ofInt 8)] H (.inl (some (.inl (H.2.1 22 9))), H) := by
  have W := zB_Wd (zB_dn (zB_Bc hB))
  have g5 : H.2.2.2 0 5 = some 23 := hB.2.1 0 5 _ rfl
  have g6 : H.2.2.2 0 6 = some 34 := hB.2.1 0 6 _ rfl
  have g7 : H.2.2.2 0 7 = some 3 := hB.2.1 0 7 _ rfl
  have g8 : H.2.2.2 0 8 = some 14 := hB.2.1 0 8 _ rfl
  refine zw_ex (zw_met zm_101_t rfl rfl ?_)
  refine zw_ld (n := 1) (k := 1) (f := zp_isI) (pc' := 1) rfl rfl rfl rfl rfl ?_
  refine zw_s (pc' := 146) rfl rfl ?_
  refine zw_ld (n := 1) (k := 0) (f := zp_isR) (pc' := 147) rfl rfl rfl rfl rfl ?_
  refine zw_gR (q := 0) (pc' := 150) W rfl rfl rfl rfl g5 rfl ?_
  refine zw_gI (q := 22) (pc' := 153) W rfl rfl rfl rfl rfl rfl ?_
  refine zw_ri rfl rfl ?_
  rfl

theorem yl_ct3_8 {L : Nat} {σ : Nat → Int32} {d : Nat} {H : zp_H} (hB : zk_Bs (zB_c 3) zg zJc H) : zp_Call L σ (d + 3) 100 [.inr (.inr (some 1)), .inl (Int32.ofInt 8), .inr (.inr (some 105))] H (.inl (some (.inl (Int32.ofInt 0))), zw_J H 104 0 (H.2.1 22 9).toInt64) := by
  have W := zB_Wd (zB_dn (zB_Bc hB))
  refine zw_ex (zw_met zm_100_t rfl rfl ?_)
  refine zw_ld (n := 1) (k := 2) (f := zp_isR) (pc' := 1) rfl rfl rfl rfl rfl ?_
  refine zw_s (pc' := 2) rfl rfl ?_
  refine zw_ld (n := 1) (k := 0) (f := zp_isR) (pc' := 3) rfl rfl rfl rfl rfl ?_
  refine zw_ld (n := 1) (k := 1) (f := zp_isI) (pc' := 4) rfl rfl rfl rfl rfl ?_
  refine zw_ct (pc' := 7) (c' := (1, 6)) (zw_cv (q := 0) (Y := zm_101) W.1 rfl rfl zm_101_t rfl rfl) (zw_pb_ok rfl) rfl rfl rfl rfl (yc_ct3_8 hB) ?_
  refine zw_s (pc' := 8) rfl rfl ?_
  refine zw_ls (q := 104) (pc' := 9) W rfl rfl (⟨by decide, by decide⟩) rfl ?_
  refine zw_s (pc' := 15) rfl rfl ?_
  refine zw_s (pc' := 16) rfl rfl ?_
  refine zw_rig rfl rfl ⟨by decide, by decide⟩ ?_
  rfl

theorem yc_ct3_9 {L : Nat} {σ : Nat → Int32} {d : Nat} {H : zp_H} (hB : zk_Bs (zB_c 3) zg zJc H) : zp_Call L σ (d + 2) 101 [.inr (.inr (some 1)), .inl (Int32.ofInt 9)] H (.inl (some (.inl (H.2.1 22 10))), H) := by
  have W := zB_Wd (zB_dn (zB_Bc hB))
  have g5 : H.2.2.2 0 5 = some 23 := hB.2.1 0 5 _ rfl
  have g6 : H.2.2.2 0 6 = some 34 := hB.2.1 0 6 _ rfl
  have g7 : H.2.2.2 0 7 = some 3 := hB.2.1 0 7 _ rfl
  have g8 : H.2.2.2 0 8 = some 14 := hB.2.1 0 8 _ rfl
  refine zw_ex (zw_met zm_101_t rfl rfl ?_)
  refine zw_ld (n := 1) (k := 1) (f := zp_isI) (pc' := 1) rfl rfl rfl rfl rfl ?_
  refine zw_s (pc' := 154) rfl rfl ?_
  refine zw_ld (n := 1) (k := 0) (f := zp_isR) (pc' := 155) rfl rfl rfl rfl rfl ?_
  refine zw_gR (q := 0) (pc' := 158) W rfl rfl rfl rfl g5 rfl ?_
  refine zw_gI (q := 22) (pc' := 161) W rfl rfl rfl rfl rfl rfl ?_
  refine zw_ri rfl rfl ?_
  rfl

theorem yl_ct3_9 {L : Nat} {σ : Nat → Int32} {d : Nat} {H : zp_H} (hB : zk_Bs (zB_c 3) zg zJc H) : zp_Call L σ (d + 3) 100 [.inr (.inr (some 1)), .inl (Int32.ofInt 9), .inr (.inr (some 105))] H (.inl (some (.inl (Int32.ofInt 0))), zw_J H 104 0 (H.2.1 22 10).toInt64) := by
  have W := zB_Wd (zB_dn (zB_Bc hB))
  refine zw_ex (zw_met zm_100_t rfl rfl ?_)
  refine zw_ld (n := 1) (k := 2) (f := zp_isR) (pc' := 1) rfl rfl rfl rfl rfl ?_
  refine zw_s (pc' := 2) rfl rfl ?_
  refine zw_ld (n := 1) (k := 0) (f := zp_isR) (pc' := 3) rfl rfl rfl rfl rfl ?_
  refine zw_ld (n := 1) (k := 1) (f := zp_isI) (pc' := 4) rfl rfl rfl rfl rfl ?_
  refine zw_ct (pc' := 7) (c' := (1, 6)) (zw_cv (q := 0) (Y := zm_101) W.1 rfl rfl zm_101_t rfl rfl) (zw_pb_ok rfl) rfl rfl rfl rfl (yc_ct3_9 hB) ?_
  refine zw_s (pc' := 8) rfl rfl ?_
  refine zw_ls (q := 104) (pc' := 9) W rfl rfl (⟨by decide, by decide⟩) rfl ?_
  refine zw_s (pc' := 15) rfl rfl ?_
  refine zw_s (pc' := 16) rfl rfl ?_
  refine zw_rig rfl rfl ⟨by decide, by decide⟩ ?_
  rfl

theorem yc_ct3_10 {L : Nat} {σ : Nat → Int32} {d : Nat} {H : zp_H} (hB : zk_Bs (zB_c 3) zg zJc H) : zp_Call L σ (d + 2) 101 [.inr (.inr (some 1)), .inl (Int32.ofInt 10)] H (.inl (some (.inl (H.2.1 22 11))), H) := by
  have W := zB_Wd (zB_dn (zB_Bc hB))
  have g5 : H.2.2.2 0 5 = some 23 := hB.2.1 0 5 _ rfl
  have g6 : H.2.2.2 0 6 = some 34 := hB.2.1 0 6 _ rfl
  have g7 : H.2.2.2 0 7 = some 3 := hB.2.1 0 7 _ rfl
  have g8 : H.2.2.2 0 8 = some 14 := hB.2.1 0 8 _ rfl
  refine zw_ex (zw_met zm_101_t rfl rfl ?_)
  refine zw_ld (n := 1) (k := 1) (f := zp_isI) (pc' := 1) rfl rfl rfl rfl rfl ?_
  refine zw_s (pc' := 162) rfl rfl ?_
  refine zw_ld (n := 1) (k := 0) (f := zp_isR) (pc' := 163) rfl rfl rfl rfl rfl ?_
  refine zw_gR (q := 0) (pc' := 166) W rfl rfl rfl rfl g5 rfl ?_
  refine zw_gI (q := 22) (pc' := 169) W rfl rfl rfl rfl rfl rfl ?_
  refine zw_ri rfl rfl ?_
  rfl

theorem yl_ct3_10 {L : Nat} {σ : Nat → Int32} {d : Nat} {H : zp_H} (hB : zk_Bs (zB_c 3) zg zJc H) : zp_Call L σ (d + 3) 100 [.inr (.inr (some 1)), .inl (Int32.ofInt 10), .inr (.inr (some 105))] H (.inl (some (.inl (Int32.ofInt 0))), zw_J H 104 0 (H.2.1 22 11).toInt64) := by
  have W := zB_Wd (zB_dn (zB_Bc hB))
  refine zw_ex (zw_met zm_100_t rfl rfl ?_)
  refine zw_ld (n := 1) (k := 2) (f := zp_isR) (pc' := 1) rfl rfl rfl rfl rfl ?_
  refine zw_s (pc' := 2) rfl rfl ?_
  refine zw_ld (n := 1) (k := 0) (f := zp_isR) (pc' := 3) rfl rfl rfl rfl rfl ?_
  refine zw_ld (n := 1) (k := 1) (f := zp_isI) (pc' := 4) rfl rfl rfl rfl rfl ?_
  refine zw_ct (pc' := 7) (c' := (1, 6)) (zw_cv (q := 0) (Y := zm_101) W.1 rfl rfl zm_101_t rfl rfl) (zw_pb_ok rfl) rfl rfl rfl rfl (yc_ct3_10 hB) ?_
  refine zw_s (pc' := 8) rfl rfl ?_
  refine zw_ls (q := 104) (pc' := 9) W rfl rfl (⟨by decide, by decide⟩) rfl ?_
  refine zw_s (pc' := 15) rfl rfl ?_
  refine zw_s (pc' := 16) rfl rfl ?_
  refine zw_rig rfl rfl ⟨by decide, by decide⟩ ?_
  rfl

theorem yc_ct3_11 {L : Nat} {σ : Nat → Int32} {d : Nat} {H : zp_H} (hB : zk_Bs (zB_c 3) zg zJc H) : zp_Call L σ (d + 2) 101 [.inr (.inr (some 1)), .inl (Int32.ofInt 11)] H (.inl (some (.inl (H.2.1 33 7))), H) := by
  have W := zB_Wd (zB_dn (zB_Bc hB))
  have g5 : H.2.2.2 0 5 = some 23 := hB.2.1 0 5 _ rfl
  have g6 : H.2.2.2 0 6 = some 34 := hB.2.1 0 6 _ rfl
  have g7 : H.2.2.2 0 7 = some 3 := hB.2.1 0 7 _ rfl
  have g8 : H.2.2.2 0 8 = some 14 := hB.2.1 0 8 _ rfl
  refine zw_ex (zw_met zm_101_t rfl rfl ?_)
  refine zw_ld (n := 1) (k := 1) (f := zp_isI) (pc' := 1) rfl rfl rfl rfl rfl ?_
  refine zw_s (pc' := 170) rfl rfl ?_
  refine zw_ld (n := 1) (k := 0) (f := zp_isR) (pc' := 171) rfl rfl rfl rfl rfl ?_
  refine zw_gR (q := 0) (pc' := 174) W rfl rfl rfl rfl g6 rfl ?_
  refine zw_gI (q := 33) (pc' := 177) W rfl rfl rfl rfl rfl rfl ?_
  refine zw_ri rfl rfl ?_
  rfl

theorem yl_ct3_11 {L : Nat} {σ : Nat → Int32} {d : Nat} {H : zp_H} (hB : zk_Bs (zB_c 3) zg zJc H) : zp_Call L σ (d + 3) 100 [.inr (.inr (some 1)), .inl (Int32.ofInt 11), .inr (.inr (some 105))] H (.inl (some (.inl (Int32.ofInt 0))), zw_J H 104 0 (H.2.1 33 7).toInt64) := by
  have W := zB_Wd (zB_dn (zB_Bc hB))
  refine zw_ex (zw_met zm_100_t rfl rfl ?_)
  refine zw_ld (n := 1) (k := 2) (f := zp_isR) (pc' := 1) rfl rfl rfl rfl rfl ?_
  refine zw_s (pc' := 2) rfl rfl ?_
  refine zw_ld (n := 1) (k := 0) (f := zp_isR) (pc' := 3) rfl rfl rfl rfl rfl ?_
  refine zw_ld (n := 1) (k := 1) (f := zp_isI) (pc' := 4) rfl rfl rfl rfl rfl ?_
  refine zw_ct (pc' := 7) (c' := (1, 6)) (zw_cv (q := 0) (Y := zm_101) W.1 rfl rfl zm_101_t rfl rfl) (zw_pb_ok rfl) rfl rfl rfl rfl (yc_ct3_11 hB) ?_
  refine zw_s (pc' := 8) rfl rfl ?_
  refine zw_ls (q := 104) (pc' := 9) W rfl rfl (⟨by decide, by decide⟩) rfl ?_
  refine zw_s (pc' := 15) rfl rfl ?_
  refine zw_s (pc' := 16) rfl rfl ?_
  refine zw_rig rfl rfl ⟨by decide, by decide⟩ ?_
  rfl

theorem yc_ct3_12 {L : Nat} {σ : Nat → Int32} {d : Nat} {H : zp_H} (hB : zk_Bs (zB_c 3) zg zJc H) : zp_Call L σ (d + 2) 101 [.inr (.inr (some 1)), .inl (Int32.ofInt 12)] H (.inl (some (.inl (H.2.1 0 1))), H) := by
  have W := zB_Wd (zB_dn (zB_Bc hB))
  have g5 : H.2.2.2 0 5 = some 23 := hB.2.1 0 5 _ rfl
  have g6 : H.2.2.2 0 6 = some 34 := hB.2.1 0 6 _ rfl
  have g7 : H.2.2.2 0 7 = some 3 := hB.2.1 0 7 _ rfl
  have g8 : H.2.2.2 0 8 = some 14 := hB.2.1 0 8 _ rfl
  refine zw_ex (zw_met zm_101_t rfl rfl ?_)
  refine zw_ld (n := 1) (k := 1) (f := zp_isI) (pc' := 1) rfl rfl rfl rfl rfl ?_
  refine zw_s (pc' := 178) rfl rfl ?_
  refine zw_ld (n := 1) (k := 0) (f := zp_isR) (pc' := 179) rfl rfl rfl rfl rfl ?_
  refine zw_gI (q := 0) (pc' := 182) W rfl rfl rfl rfl rfl rfl ?_
  refine zw_ri rfl rfl ?_
  rfl

theorem yl_ct3_12 {L : Nat} {σ : Nat → Int32} {d : Nat} {H : zp_H} (hB : zk_Bs (zB_c 3) zg zJc H) : zp_Call L σ (d + 3) 100 [.inr (.inr (some 1)), .inl (Int32.ofInt 12), .inr (.inr (some 105))] H (.inl (some (.inl (Int32.ofInt 0))), zw_J H 104 0 (H.2.1 0 1).toInt64) := by
  have W := zB_Wd (zB_dn (zB_Bc hB))
  refine zw_ex (zw_met zm_100_t rfl rfl ?_)
  refine zw_ld (n := 1) (k := 2) (f := zp_isR) (pc' := 1) rfl rfl rfl rfl rfl ?_
  refine zw_s (pc' := 2) rfl rfl ?_
  refine zw_ld (n := 1) (k := 0) (f := zp_isR) (pc' := 3) rfl rfl rfl rfl rfl ?_
  refine zw_ld (n := 1) (k := 1) (f := zp_isI) (pc' := 4) rfl rfl rfl rfl rfl ?_
  refine zw_ct (pc' := 7) (c' := (1, 6)) (zw_cv (q := 0) (Y := zm_101) W.1 rfl rfl zm_101_t rfl rfl) (zw_pb_ok rfl) rfl rfl rfl rfl (yc_ct3_12 hB) ?_
  refine zw_s (pc' := 8) rfl rfl ?_
  refine zw_ls (q := 104) (pc' := 9) W rfl rfl (⟨by decide, by decide⟩) rfl ?_
  refine zw_s (pc' := 15) rfl rfl ?_
  refine zw_s (pc' := 16) rfl rfl ?_
  refine zw_rig rfl rfl ⟨by decide, by decide⟩ ?_
  rfl

theorem yc_ct3_13 {L : Nat} {σ : Nat → Int32} {d : Nat} {H : zp_H} (hB : zk_Bs (zB_c 3) zg zJc H) : zp_Call L σ (d + 2) 101 [.inr (.inr (some 1)), .inl (Int32.ofInt 13)] H (.inl (some (.inl (H.2.1 0 3))), H) := by
  have W := zB_Wd (zB_dn (zB_Bc hB))
  have g5 : H.2.2.2 0 5 = some 23 := hB.2.1 0 5 _ rfl
  have g6 : H.2.2.2 0 6 = some 34 := hB.2.1 0 6 _ rfl
  have g7 : H.2.2.2 0 7 = some 3 := hB.2.1 0 7 _ rfl
  have g8 : H.2.2.2 0 8 = some 14 := hB.2.1 0 8 _ rfl
  refine zw_ex (zw_met zm_101_t rfl rfl ?_)
  refine zw_ld (n := 1) (k := 1) (f := zp_isI) (pc' := 1) rfl rfl rfl rfl rfl ?_
  refine zw_s (pc' := 183) rfl rfl ?_
  refine zw_ld (n := 1) (k := 0) (f := zp_isR) (pc' := 184) rfl rfl rfl rfl rfl ?_
  refine zw_gI (q := 0) (pc' := 187) W rfl rfl rfl rfl rfl rfl ?_
  refine zw_ri rfl rfl ?_
  rfl

theorem yl_ct3_13 {L : Nat} {σ : Nat → Int32} {d : Nat} {H : zp_H} (hB : zk_Bs (zB_c 3) zg zJc H) : zp_Call L σ (d + 3) 100 [.inr (.inr (some 1)), .inl (Int32.ofInt 13), .inr (.inr (some 105))] H (.inl (some (.inl (Int32.ofInt 0))), zw_J H 104 0 (H.2.1 0 3).toInt64) := by
  have W := zB_Wd (zB_dn (zB_Bc hB))
  refine zw_ex (zw_met zm_100_t rfl rfl ?_)
  refine zw_ld (n := 1) (k := 2) (f := zp_isR) (pc' := 1) rfl rfl rfl rfl rfl ?_
  refine zw_s (pc' := 2) rfl rfl ?_
  refine zw_ld (n := 1) (k := 0) (f := zp_isR) (pc' := 3) rfl rfl rfl rfl rfl ?_
  refine zw_ld (n := 1) (k := 1) (f := zp_isI) (pc' := 4) rfl rfl rfl rfl rfl ?_
  refine zw_ct (pc' := 7) (c' := (1, 6)) (zw_cv (q := 0) (Y := zm_101) W.1 rfl rfl zm_101_t rfl rfl) (zw_pb_ok rfl) rfl rfl rfl rfl (yc_ct3_13 hB) ?_
  refine zw_s (pc' := 8) rfl rfl ?_
  refine zw_ls (q := 104) (pc' := 9) W rfl rfl (⟨by decide, by decide⟩) rfl ?_
  refine zw_s (pc' := 15) rfl rfl ?_
  refine zw_s (pc' := 16) rfl rfl ?_
  refine zw_rig rfl rfl ⟨by decide, by decide⟩ ?_
  rfl

theorem yc_ct3_14 {L : Nat} {σ : Nat → Int32} {d : Nat} {H : zp_H} (hB : zk_Bs (zB_c 3) zg zJc H) : zp_Call L σ (d + 2) 101 [.inr (.inr (some 1)), .inl (Int32.ofInt 14)] H (.inl (some (.inl (H.2.1 0 4))), H) := by
  have W := zB_Wd (zB_dn (zB_Bc hB))
  have g5 : H.2.2.2 0 5 = some 23 := hB.2.1 0 5 _ rfl
  have g6 : H.2.2.2 0 6 = some 34 := hB.2.1 0 6 _ rfl
  have g7 : H.2.2.2 0 7 = some 3 := hB.2.1 0 7 _ rfl
  have g8 : H.2.2.2 0 8 = some 14 := hB.2.1 0 8 _ rfl
  refine zw_ex (zw_met zm_101_t rfl rfl ?_)
  refine zw_ld (n := 1) (k := 1) (f := zp_isI) (pc' := 1) rfl rfl rfl rfl rfl ?_
  refine zw_s (pc' := 188) rfl rfl ?_
  refine zw_ld (n := 1) (k := 0) (f := zp_isR) (pc' := 189) rfl rfl rfl rfl rfl ?_
  refine zw_gI (q := 0) (pc' := 192) W rfl rfl rfl rfl rfl rfl ?_
  refine zw_ri rfl rfl ?_
  rfl

theorem yl_ct3_14 {L : Nat} {σ : Nat → Int32} {d : Nat} {H : zp_H} (hB : zk_Bs (zB_c 3) zg zJc H) : zp_Call L σ (d + 3) 100 [.inr (.inr (some 1)), .inl (Int32.ofInt 14), .inr (.inr (some 105))] H (.inl (some (.inl (Int32.ofInt 0))), zw_J H 104 0 (H.2.1 0 4).toInt64) := by
  have W := zB_Wd (zB_dn (zB_Bc hB))
  refine zw_ex (zw_met zm_100_t rfl rfl ?_)
  refine zw_ld (n := 1) (k := 2) (f := zp_isR) (pc' := 1) rfl rfl rfl rfl rfl ?_
  refine zw_s (pc' := 2) rfl rfl ?_
  refine zw_ld (n := 1) (k := 0) (f := zp_isR) (pc' := 3) rfl rfl rfl rfl rfl ?_
  refine zw_ld (n := 1) (k := 1) (f := zp_isI) (pc' := 4) rfl rfl rfl rfl rfl ?_
  refine zw_ct (pc' := 7) (c' := (1, 6)) (zw_cv (q := 0) (Y := zm_101) W.1 rfl rfl zm_101_t rfl rfl) (zw_pb_ok rfl) rfl rfl rfl rfl (yc_ct3_14 hB) ?_
  refine zw_s (pc' := 8) rfl rfl ?_
  refine zw_ls (q := 104) (pc' := 9) W rfl rfl (⟨by decide, by decide⟩) rfl ?_
  refine zw_s (pc' := 15) rfl rfl ?_
  refine zw_s (pc' := 16) rfl rfl ?_
  refine zw_rig rfl rfl ⟨by decide, by decide⟩ ?_
  rfl

theorem yc_ctn3 {L : Nat} {σ : Nat → Int32} {d : Nat} {H : zp_H} {x1 : Int32} (hB : zk_Bs (zB_c 3) zg zJc H) (h : ¬ (0 ≤ x1.toInt ∧ x1.toInt ≤ 14)) : zp_Call L σ (d + 2) 101 [.inr (.inr (some 1)), .inl x1] H (.inr 0, H) := by
  have W := zB_Wd (zB_dn (zB_Bc hB))
  have g5 : H.2.2.2 0 5 = some 23 := hB.2.1 0 5 _ rfl
  have g6 : H.2.2.2 0 6 = some 34 := hB.2.1 0 6 _ rfl
  have g7 : H.2.2.2 0 7 = some 3 := hB.2.1 0 7 _ rfl
  have g8 : H.2.2.2 0 8 = some 14 := hB.2.1 0 8 _ rfl
  refine zw_ex (zw_met zm_101_t rfl rfl ?_)
  refine zw_ld (n := 1) (k := 1) (f := zp_isI) (pc' := 1) rfl rfl rfl rfl rfl ?_
  refine zw_s (pc' := 193) rfl ((if_pos (show x1.toInt < 0 ∨ 14 < x1.toInt by omega)).trans rfl) ?_
  exact zs_end (S := (193, _, [], H, (0, 0))) (X := (.inr 0, H)) rfl rfl rfl

theorem yl_ctn3 {L : Nat} {σ : Nat → Int32} {d : Nat} {H : zp_H} {x1 : Int32} (hB : zk_Bs (zB_c 3) zg zJc H) (h : ¬ (0 ≤ x1.toInt ∧ x1.toInt ≤ 14)) : zp_Call L σ (d + 3) 100 [.inr (.inr (some 1)), .inl x1, .inr (.inr (some 105))] H (.inl (some (.inl (Int32.ofInt 1))), H) := by
  have W := zB_Wd (zB_dn (zB_Bc hB))
  refine zw_ex (zw_met zm_100_t rfl rfl ?_)
  refine zw_ld (n := 1) (k := 2) (f := zp_isR) (pc' := 1) rfl rfl rfl rfl rfl ?_
  refine zw_s (pc' := 2) rfl rfl ?_
  refine zw_ld (n := 1) (k := 0) (f := zp_isR) (pc' := 3) rfl rfl rfl rfl rfl ?_
  refine zw_ld (n := 1) (k := 1) (f := zp_isI) (pc' := 4) rfl rfl rfl rfl rfl ?_
  refine zw_cex (ex := 0) (hp9 := 12) (pc' := 13) (c' := (1, 6)) (zw_cv (q := 0) (Y := zm_101) W.1 rfl rfl zm_101_t rfl rfl) (zw_pb_ok rfl) rfl rfl rfl rfl rfl rfl rfl (yc_ctn3 hB h) ?_
  refine zw_s (pc' := 14) rfl rfl ?_
  refine zw_rig rfl rfl ⟨by decide, by decide⟩ ?_
  rfl

theorem yr_ct0 {L : Nat} {σ : Nat → Int32} {d : Nat} {H : zp_H} (W : zw_W H) : zp_Call L σ (d + 3) 206 [.inr (.inr (some 73)), .inl (Int32.ofInt 0)] H (.inl (some (.inl (H.2.1 72 1))), (zw_I H 72 0 (Int32.ofInt 0))) := by
  have h0 : ((zw_I H 72 0 (Int32.ofInt 0)).2.1 72 0).toInt = 0 := congrArg Int32.toInt zw_eq
  refine zw_ex (zw_met zm_206_t rfl rfl ?_)
  refine zw_ld (n := 1) (k := 0) (f := zp_isR) (pc' := 1) rfl rfl rfl rfl rfl ?_
  refine zw_s (pc' := 2) rfl rfl ?_
  refine zw_pI (q := 72) (pc' := 5) W rfl rfl rfl rfl rfl rfl ?_
  refine zw_ld (n := 1) (k := 0) (f := zp_isR) (pc' := 6) rfl rfl rfl rfl rfl ?_
  refine zw_ld (n := 1) (k := 1) (f := zp_isI) (pc' := 7) rfl rfl rfl rfl rfl ?_
  refine zw_s (pc' := 8) rfl rfl ?_
  refine zw_s (pc' := 10) rfl rfl ?_
  refine zw_c (pc' := 13) (zw_cs (Y := zm_185) rfl rfl zm_185_t) rfl rfl rfl rfl rfl (zq_within1 ⟨by decide, by decide⟩) ?_
  refine zw_s (pc' := 14) rfl rfl ?_
  refine zw_c (pc' := 17) (zw_cv (q := 72) (Y := zm_170) (zw_W_I W).1 rfl rfl zm_170_t rfl rfl) rfl rfl rfl rfl rfl (zq_right1 (zw_W_I W) h0) ?_
  refine zw_bne1 (g := 22) (pc' := 20) rfl rfl rfl (rfl : _ = (1 : Int)) (fun h1 => ?_) (fun h9 => absurd h9 (by decide))
  refine zw_ld (n := 1) (k := 1) (f := zp_isI) (pc' := 23) rfl rfl rfl rfl rfl ?_
  refine zw_s (pc' := 88) rfl rfl ?_
  refine zw_ld (n := 1) (k := 0) (f := zp_isR) (pc' := 89) rfl rfl rfl rfl rfl ?_
  refine zw_gI (q := 72) (pc' := 92) (zw_W_I W) rfl rfl rfl rfl (zw_ne rfl rfl) rfl ?_
  refine zw_ri rfl rfl ?_
  rfl

theorem yr_ct1 {L : Nat} {σ : Nat → Int32} {d : Nat} {H : zp_H} (W : zw_W H) : zp_Call L σ (d + 3) 206 [.inr (.inr (some 73)), .inl (Int32.ofInt 1)] H (.inl (some (.inl (H.2.1 72 2))), (zw_I H 72 0 (Int32.ofInt 0))) := by
  have h0 : ((zw_I H 72 0 (Int32.ofInt 0)).2.1 72 0).toInt = 0 := congrArg Int32.toInt zw_eq
  refine zw_ex (zw_met zm_206_t rfl rfl ?_)
  refine zw_ld (n := 1) (k := 0) (f := zp_isR) (pc' := 1) rfl rfl rfl rfl rfl ?_
  refine zw_s (pc' := 2) rfl rfl ?_
  refine zw_pI (q := 72) (pc' := 5) W rfl rfl rfl rfl rfl rfl ?_
  refine zw_ld (n := 1) (k := 0) (f := zp_isR) (pc' := 6) rfl rfl rfl rfl rfl ?_
  refine zw_ld (n := 1) (k := 1) (f := zp_isI) (pc' := 7) rfl rfl rfl rfl rfl ?_
  refine zw_s (pc' := 8) rfl rfl ?_
  refine zw_s (pc' := 10) rfl rfl ?_
  refine zw_c (pc' := 13) (zw_cs (Y := zm_185) rfl rfl zm_185_t) rfl rfl rfl rfl rfl (zq_within1 ⟨by decide, by decide⟩) ?_
  refine zw_s (pc' := 14) rfl rfl ?_
  refine zw_c (pc' := 17) (zw_cv (q := 72) (Y := zm_170) (zw_W_I W).1 rfl rfl zm_170_t rfl rfl) rfl rfl rfl rfl rfl (zq_right1 (zw_W_I W) h0) ?_
  refine zw_bne1 (g := 22) (pc' := 20) rfl rfl rfl (rfl : _ = (1 : Int)) (fun h1 => ?_) (fun h9 => absurd h9 (by decide))
  refine zw_ld (n := 1) (k := 1) (f := zp_isI) (pc' := 23) rfl rfl rfl rfl rfl ?_
  refine zw_s (pc' := 93) rfl rfl ?_
  refine zw_ld (n := 1) (k := 0) (f := zp_isR) (pc' := 94) rfl rfl rfl rfl rfl ?_
  refine zw_gI (q := 72) (pc' := 97) (zw_W_I W) rfl rfl rfl rfl (zw_ne rfl rfl) rfl ?_
  refine zw_ri rfl rfl ?_
  rfl

theorem yr_ct2 {L : Nat} {σ : Nat → Int32} {d : Nat} {H : zp_H} (W : zw_W H) : zp_Call L σ (d + 3) 206 [.inr (.inr (some 73)), .inl (Int32.ofInt 2)] H (.inl (some (.inl (H.2.1 72 3))), (zw_I H 72 0 (Int32.ofInt 0))) := by
  have h0 : ((zw_I H 72 0 (Int32.ofInt 0)).2.1 72 0).toInt = 0 := congrArg Int32.toInt zw_eq
  refine zw_ex (zw_met zm_206_t rfl rfl ?_)
  refine zw_ld (n := 1) (k := 0) (f := zp_isR) (pc' := 1) rfl rfl rfl rfl rfl ?_
  refine zw_s (pc' := 2) rfl rfl ?_
  refine zw_pI (q := 72) (pc' := 5) W rfl rfl rfl rfl rfl rfl ?_
  refine zw_ld (n := 1) (k := 0) (f := zp_isR) (pc' := 6) rfl rfl rfl rfl rfl ?_
  refine zw_ld (n := 1) (k := 1) (f := zp_isI) (pc' := 7) rfl rfl rfl rfl rfl ?_
  refine zw_s (pc' := 8) rfl rfl ?_
  refine zw_s (pc' := 10) rfl rfl ?_
  refine zw_c (pc' := 13) (zw_cs (Y := zm_185) rfl rfl zm_185_t) rfl rfl rfl rfl rfl (zq_within1 ⟨by decide, by decide⟩) ?_
  refine zw_s (pc' := 14) rfl rfl ?_
  refine zw_c (pc' := 17) (zw_cv (q := 72) (Y := zm_170) (zw_W_I W).1 rfl rfl zm_170_t rfl rfl) rfl rfl rfl rfl rfl (zq_right1 (zw_W_I W) h0) ?_
  refine zw_bne1 (g := 22) (pc' := 20) rfl rfl rfl (rfl : _ = (1 : Int)) (fun h1 => ?_) (fun h9 => absurd h9 (by decide))
  refine zw_ld (n := 1) (k := 1) (f := zp_isI) (pc' := 23) rfl rfl rfl rfl rfl ?_
  refine zw_s (pc' := 98) rfl rfl ?_
  refine zw_ld (n := 1) (k := 0) (f := zp_isR) (pc' := 99) rfl rfl rfl rfl rfl ?_
  refine zw_gI (q := 72) (pc' := 102) (zw_W_I W) rfl rfl rfl rfl (zw_ne rfl rfl) rfl ?_
  refine zw_ri rfl rfl ?_
  rfl

theorem yr_ct3 {L : Nat} {σ : Nat → Int32} {d : Nat} {H : zp_H} (W : zw_W H) : zp_Call L σ (d + 3) 206 [.inr (.inr (some 73)), .inl (Int32.ofInt 3)] H (.inl (some (.inl (H.2.1 72 4))), (zw_I H 72 0 (Int32.ofInt 0))) := by
  have h0 : ((zw_I H 72 0 (Int32.ofInt 0)).2.1 72 0).toInt = 0 := congrArg Int32.toInt zw_eq
  refine zw_ex (zw_met zm_206_t rfl rfl ?_)
  refine zw_ld (n := 1) (k := 0) (f := zp_isR) (pc' := 1) rfl rfl rfl rfl rfl ?_
  refine zw_s (pc' := 2) rfl rfl ?_
  refine zw_pI (q := 72) (pc' := 5) W rfl rfl rfl rfl rfl rfl ?_
  refine zw_ld (n := 1) (k := 0) (f := zp_isR) (pc' := 6) rfl rfl rfl rfl rfl ?_
  refine zw_ld (n := 1) (k := 1) (f := zp_isI) (pc' := 7) rfl rfl rfl rfl rfl ?_
  refine zw_s (pc' := 8) rfl rfl ?_
  refine zw_s (pc' := 10) rfl rfl ?_
  refine zw_c (pc' := 13) (zw_cs (Y := zm_185) rfl rfl zm_185_t) rfl rfl rfl rfl rfl (zq_within1 ⟨by decide, by decide⟩) ?_
  refine zw_s (pc' := 14) rfl rfl ?_
  refine zw_c (pc' := 17) (zw_cv (q := 72) (Y := zm_170) (zw_W_I W).1 rfl rfl zm_170_t rfl rfl) rfl rfl rfl rfl rfl (zq_right1 (zw_W_I W) h0) ?_
  refine zw_bne1 (g := 22) (pc' := 20) rfl rfl rfl (rfl : _ = (1 : Int)) (fun h1 => ?_) (fun h9 => absurd h9 (by decide))
  refine zw_ld (n := 1) (k := 1) (f := zp_isI) (pc' := 23) rfl rfl rfl rfl rfl ?_
  refine zw_s (pc' := 103) rfl rfl ?_
  refine zw_ld (n := 1) (k := 0) (f := zp_isR) (pc' := 104) rfl rfl rfl rfl rfl ?_
  refine zw_gI (q := 72) (pc' := 107) (zw_W_I W) rfl rfl rfl rfl (zw_ne rfl rfl) rfl ?_
  refine zw_ri rfl rfl ?_
  rfl

theorem yr_ct4 {L : Nat} {σ : Nat → Int32} {d : Nat} {H : zp_H} (W : zw_W H) : zp_Call L σ (d + 3) 206 [.inr (.inr (some 73)), .inl (Int32.ofInt 4)] H (.inl (some (.inl (H.2.1 72 5))), (zw_I H 72 0 (Int32.ofInt 0))) := by
  have h0 : ((zw_I H 72 0 (Int32.ofInt 0)).2.1 72 0).toInt = 0 := congrArg Int32.toInt zw_eq
  refine zw_ex (zw_met zm_206_t rfl rfl ?_)
  refine zw_ld (n := 1) (k := 0) (f := zp_isR) (pc' := 1) rfl rfl rfl rfl rfl ?_
  refine zw_s (pc' := 2) rfl rfl ?_
  refine zw_pI (q := 72) (pc' := 5) W rfl rfl rfl rfl rfl rfl ?_
  refine zw_ld (n := 1) (k := 0) (f := zp_isR) (pc' := 6) rfl rfl rfl rfl rfl ?_
  refine zw_ld (n := 1) (k := 1) (f := zp_isI) (pc' := 7) rfl rfl rfl rfl rfl ?_
  refine zw_s (pc' := 8) rfl rfl ?_
  refine zw_s (pc' := 10) rfl rfl ?_
  refine zw_c (pc' := 13) (zw_cs (Y := zm_185) rfl rfl zm_185_t) rfl rfl rfl rfl rfl (zq_within1 ⟨by decide, by decide⟩) ?_
  refine zw_s (pc' := 14) rfl rfl ?_
  refine zw_c (pc' := 17) (zw_cv (q := 72) (Y := zm_170) (zw_W_I W).1 rfl rfl zm_170_t rfl rfl) rfl rfl rfl rfl rfl (zq_right1 (zw_W_I W) h0) ?_
  refine zw_bne1 (g := 22) (pc' := 20) rfl rfl rfl (rfl : _ = (1 : Int)) (fun h1 => ?_) (fun h9 => absurd h9 (by decide))
  refine zw_ld (n := 1) (k := 1) (f := zp_isI) (pc' := 23) rfl rfl rfl rfl rfl ?_
  refine zw_s (pc' := 108) rfl rfl ?_
  refine zw_ld (n := 1) (k := 0) (f := zp_isR) (pc' := 109) rfl rfl rfl rfl rfl ?_
  refine zw_gI (q := 72) (pc' := 112) (zw_W_I W) rfl rfl rfl rfl (zw_ne rfl rfl) rfl ?_
  refine zw_ri rfl rfl ?_
  rfl

theorem yr_ct5 {L : Nat} {σ : Nat → Int32} {d : Nat} {H : zp_H} (W : zw_W H) : zp_Call L σ (d + 3) 206 [.inr (.inr (some 73)), .inl (Int32.ofInt 5)] H (.inl (some (.inl (H.2.1 72 6))), (zw_I H 72 0 (Int32.ofInt 0))) := by
  have h0 : ((zw_I H 72 0 (Int32.ofInt 0)).2.1 72 0).toInt = 0 := congrArg Int32.toInt zw_eq
  refine zw_ex (zw_met zm_206_t rfl rfl ?_)
  refine zw_ld (n := 1) (k := 0) (f := zp_isR) (pc' := 1) rfl rfl rfl rfl rfl ?_
  refine zw_s (pc' := 2) rfl rfl ?_
  refine zw_pI (q := 72) (pc' := 5) W rfl rfl rfl rfl rfl rfl ?_
  refine zw_ld (n := 1) (k := 0) (f := zp_isR) (pc' := 6) rfl rfl rfl rfl rfl ?_
  refine zw_ld (n := 1) (k := 1) (f := zp_isI) (pc' := 7) rfl rfl rfl rfl rfl ?_
  refine zw_s (pc' := 8) rfl rfl ?_
  refine zw_s (pc' := 10) rfl rfl ?_
  refine zw_c (pc' := 13) (zw_cs (Y := zm_185) rfl rfl zm_185_t) rfl rfl rfl rfl rfl (zq_within1 ⟨by decide, by decide⟩) ?_
  refine zw_s (pc' := 14) rfl rfl ?_
  refine zw_c (pc' := 17) (zw_cv (q := 72) (Y := zm_170) (zw_W_I W).1 rfl rfl zm_170_t rfl rfl) rfl rfl rfl rfl rfl (zq_right1 (zw_W_I W) h0) ?_
  refine zw_bne1 (g := 22) (pc' := 20) rfl rfl rfl (rfl : _ = (1 : Int)) (fun h1 => ?_) (fun h9 => absurd h9 (by decide))
  refine zw_ld (n := 1) (k := 1) (f := zp_isI) (pc' := 23) rfl rfl rfl rfl rfl ?_
  refine zw_s (pc' := 113) rfl rfl ?_
  refine zw_ld (n := 1) (k := 0) (f := zp_isR) (pc' := 114) rfl rfl rfl rfl rfl ?_
  refine zw_gI (q := 72) (pc' := 117) (zw_W_I W) rfl rfl rfl rfl (zw_ne rfl rfl) rfl ?_
  refine zw_ri rfl rfl ?_
  rfl

theorem yr_ct6 {L : Nat} {σ : Nat → Int32} {d : Nat} {H : zp_H} (W : zw_W H) : zp_Call L σ (d + 3) 206 [.inr (.inr (some 73)), .inl (Int32.ofInt 6)] H (.inl (some (.inl (H.2.1 72 7))), (zw_I H 72 0 (Int32.ofInt 0))) := by
  have h0 : ((zw_I H 72 0 (Int32.ofInt 0)).2.1 72 0).toInt = 0 := congrArg Int32.toInt zw_eq
  refine zw_ex (zw_met zm_206_t rfl rfl ?_)
  refine zw_ld (n := 1) (k := 0) (f := zp_isR) (pc' := 1) rfl rfl rfl rfl rfl ?_
  refine zw_s (pc' := 2) rfl rfl ?_
  refine zw_pI (q := 72) (pc' := 5) W rfl rfl rfl rfl rfl rfl ?_
  refine zw_ld (n := 1) (k := 0) (f := zp_isR) (pc' := 6) rfl rfl rfl rfl rfl ?_
  refine zw_ld (n := 1) (k := 1) (f := zp_isI) (pc' := 7) rfl rfl rfl rfl rfl ?_
  refine zw_s (pc' := 8) rfl rfl ?_
  refine zw_s (pc' := 10) rfl rfl ?_
  refine zw_c (pc' := 13) (zw_cs (Y := zm_185) rfl rfl zm_185_t) rfl rfl rfl rfl rfl (zq_within1 ⟨by decide, by decide⟩) ?_
  refine zw_s (pc' := 14) rfl rfl ?_
  refine zw_c (pc' := 17) (zw_cv (q := 72) (Y := zm_170) (zw_W_I W).1 rfl rfl zm_170_t rfl rfl) rfl rfl rfl rfl rfl (zq_right1 (zw_W_I W) h0) ?_
  refine zw_bne1 (g := 22) (pc' := 20) rfl rfl rfl (rfl : _ = (1 : Int)) (fun h1 => ?_) (fun h9 => absurd h9 (by decide))
  refine zw_ld (n := 1) (k := 1) (f := zp_isI) (pc' := 23) rfl rfl rfl rfl rfl ?_
  refine zw_s (pc' := 118) rfl rfl ?_
  refine zw_ld (n := 1) (k := 0) (f := zp_isR) (pc' := 119) rfl rfl rfl rfl rfl ?_
  refine zw_gI (q := 72) (pc' := 122) (zw_W_I W) rfl rfl rfl rfl (zw_ne rfl rfl) rfl ?_
  refine zw_ri rfl rfl ?_
  rfl

theorem yr_ct7 {L : Nat} {σ : Nat → Int32} {d : Nat} {H : zp_H} (W : zw_W H) : zp_Call L σ (d + 3) 206 [.inr (.inr (some 73)), .inl (Int32.ofInt 7)] H (.inl (some (.inl (H.2.1 72 8))), (zw_I H 72 0 (Int32.ofInt 0))) := by
  have h0 : ((zw_I H 72 0 (Int32.ofInt 0)).2.1 72 0).toInt = 0 := congrArg Int32.toInt zw_eq
  refine zw_ex (zw_met zm_206_t rfl rfl ?_)
  refine zw_ld (n := 1) (k := 0) (f := zp_isR) (pc' := 1) rfl rfl rfl rfl rfl ?_
  refine zw_s (pc' := 2) rfl rfl ?_
  refine zw_pI (q := 72) (pc' := 5) W rfl rfl rfl rfl rfl rfl ?_
  refine zw_ld (n := 1) (k := 0) (f := zp_isR) (pc' := 6) rfl rfl rfl rfl rfl ?_
  refine zw_ld (n := 1) (k := 1) (f := zp_isI) (pc' := 7) rfl rfl rfl rfl rfl ?_
  refine zw_s (pc' := 8) rfl rfl ?_
  refine zw_s (pc' := 10) rfl rfl ?_
  refine zw_c (pc' := 13) (zw_cs (Y := zm_185) rfl rfl zm_185_t) rfl rfl rfl rfl rfl (zq_within1 ⟨by decide, by decide⟩) ?_
  refine zw_s (pc' := 14) rfl rfl ?_
  refine zw_c (pc' := 17) (zw_cv (q := 72) (Y := zm_170) (zw_W_I W).1 rfl rfl zm_170_t rfl rfl) rfl rfl rfl rfl rfl (zq_right1 (zw_W_I W) h0) ?_
  refine zw_bne1 (g := 22) (pc' := 20) rfl rfl rfl (rfl : _ = (1 : Int)) (fun h1 => ?_) (fun h9 => absurd h9 (by decide))
  refine zw_ld (n := 1) (k := 1) (f := zp_isI) (pc' := 23) rfl rfl rfl rfl rfl ?_
  refine zw_s (pc' := 123) rfl rfl ?_
  refine zw_ld (n := 1) (k := 0) (f := zp_isR) (pc' := 124) rfl rfl rfl rfl rfl ?_
  refine zw_gI (q := 72) (pc' := 127) (zw_W_I W) rfl rfl rfl rfl (zw_ne rfl rfl) rfl ?_
  refine zw_ri rfl rfl ?_
  rfl

theorem yr_ct8 {L : Nat} {σ : Nat → Int32} {d : Nat} {H : zp_H} (W : zw_W H) : zp_Call L σ (d + 3) 206 [.inr (.inr (some 73)), .inl (Int32.ofInt 8)] H (.inl (some (.inl (H.2.1 72 9))), (zw_I H 72 0 (Int32.ofInt 0))) := by
  have h0 : ((zw_I H 72 0 (Int32.ofInt 0)).2.1 72 0).toInt = 0 := congrArg Int32.toInt zw_eq
  refine zw_ex (zw_met zm_206_t rfl rfl ?_)
  refine zw_ld (n := 1) (k := 0) (f := zp_isR) (pc' := 1) rfl rfl rfl rfl rfl ?_
  refine zw_s (pc' := 2) rfl rfl ?_
  refine zw_pI (q := 72) (pc' := 5) W rfl rfl rfl rfl rfl rfl ?_
  refine zw_ld (n := 1) (k := 0) (f := zp_isR) (pc' := 6) rfl rfl rfl rfl rfl ?_
  refine zw_ld (n := 1) (k := 1) (f := zp_isI) (pc' := 7) rfl rfl rfl rfl rfl ?_
  refine zw_s (pc' := 8) rfl rfl ?_
  refine zw_s (pc' := 10) rfl rfl ?_
  refine zw_c (pc' := 13) (zw_cs (Y := zm_185) rfl rfl zm_185_t) rfl rfl rfl rfl rfl (zq_within1 ⟨by decide, by decide⟩) ?_
  refine zw_s (pc' := 14) rfl rfl ?_
  refine zw_c (pc' := 17) (zw_cv (q := 72) (Y := zm_170) (zw_W_I W).1 rfl rfl zm_170_t rfl rfl) rfl rfl rfl rfl rfl (zq_right1 (zw_W_I W) h0) ?_
  refine zw_bne1 (g := 22) (pc' := 20) rfl rfl rfl (rfl : _ = (1 : Int)) (fun h1 => ?_) (fun h9 => absurd h9 (by decide))
  refine zw_ld (n := 1) (k := 1) (f := zp_isI) (pc' := 23) rfl rfl rfl rfl rfl ?_
  refine zw_s (pc' := 128) rfl rfl ?_
  refine zw_ld (n := 1) (k := 0) (f := zp_isR) (pc' := 129) rfl rfl rfl rfl rfl ?_
  refine zw_gI (q := 72) (pc' := 132) (zw_W_I W) rfl rfl rfl rfl (zw_ne rfl rfl) rfl ?_
  refine zw_ri rfl rfl ?_
  rfl

theorem yr_ct9 {L : Nat} {σ : Nat → Int32} {d : Nat} {H : zp_H} (W : zw_W H) : zp_Call L σ (d + 3) 206 [.inr (.inr (some 73)), .inl (Int32.ofInt 9)] H (.inl (some (.inl (H.2.1 72 10))), (zw_I H 72 0 (Int32.ofInt 0))) := by
  have h0 : ((zw_I H 72 0 (Int32.ofInt 0)).2.1 72 0).toInt = 0 := congrArg Int32.toInt zw_eq
  refine zw_ex (zw_met zm_206_t rfl rfl ?_)
  refine zw_ld (n := 1) (k := 0) (f := zp_isR) (pc' := 1) rfl rfl rfl rfl rfl ?_
  refine zw_s (pc' := 2) rfl rfl ?_
  refine zw_pI (q := 72) (pc' := 5) W rfl rfl rfl rfl rfl rfl ?_
  refine zw_ld (n := 1) (k := 0) (f := zp_isR) (pc' := 6) rfl rfl rfl rfl rfl ?_
  refine zw_ld (n := 1) (k := 1) (f := zp_isI) (pc' := 7) rfl rfl rfl rfl rfl ?_
  refine zw_s (pc' := 8) rfl rfl ?_
  refine zw_s (pc' := 10) rfl rfl ?_
  refine zw_c (pc' := 13) (zw_cs (Y := zm_185) rfl rfl zm_185_t) rfl rfl rfl rfl rfl (zq_within1 ⟨by decide, by decide⟩) ?_
  refine zw_s (pc' := 14) rfl rfl ?_
  refine zw_c (pc' := 17) (zw_cv (q := 72) (Y := zm_170) (zw_W_I W).1 rfl rfl zm_170_t rfl rfl) rfl rfl rfl rfl rfl (zq_right1 (zw_W_I W) h0) ?_
  refine zw_bne1 (g := 22) (pc' := 20) rfl rfl rfl (rfl : _ = (1 : Int)) (fun h1 => ?_) (fun h9 => absurd h9 (by decide))
  refine zw_ld (n := 1) (k := 1) (f := zp_isI) (pc' := 23) rfl rfl rfl rfl rfl ?_
  refine zw_s (pc' := 133) rfl rfl ?_
  refine zw_ld (n := 1) (k := 0) (f := zp_isR) (pc' := 134) rfl rfl rfl rfl rfl ?_
  refine zw_gI (q := 72) (pc' := 137) (zw_W_I W) rfl rfl rfl rfl (zw_ne rfl rfl) rfl ?_
  refine zw_ri rfl rfl ?_
  rfl

theorem yr_ct10 {L : Nat} {σ : Nat → Int32} {d : Nat} {H : zp_H} (W : zw_W H) : zp_Call L σ (d + 3) 206 [.inr (.inr (some 73)), .inl (Int32.ofInt 10)] H (.inl (some (.inl (H.2.1 72 11))), (zw_I H 72 0 (Int32.ofInt 0))) := by
  have h0 : ((zw_I H 72 0 (Int32.ofInt 0)).2.1 72 0).toInt = 0 := congrArg Int32.toInt zw_eq
  refine zw_ex (zw_met zm_206_t rfl rfl ?_)
  refine zw_ld (n := 1) (k := 0) (f := zp_isR) (pc' := 1) rfl rfl rfl rfl rfl ?_
  refine zw_s (pc' := 2) rfl rfl ?_
  refine zw_pI (q := 72) (pc' := 5) W rfl rfl rfl rfl rfl rfl ?_
  refine zw_ld (n := 1) (k := 0) (f := zp_isR) (pc' := 6) rfl rfl rfl rfl rfl ?_
  refine zw_ld (n := 1) (k := 1) (f := zp_isI) (pc' := 7) rfl rfl rfl rfl rfl ?_
  refine zw_s (pc' := 8) rfl rfl ?_
  refine zw_s (pc' := 10) rfl rfl ?_
  refine zw_c (pc' := 13) (zw_cs (Y := zm_185) rfl rfl zm_185_t) rfl rfl rfl rfl rfl (zq_within1 ⟨by decide, by decide⟩) ?_
  refine zw_s (pc' := 14) rfl rfl ?_
  refine zw_c (pc' := 17) (zw_cv (q := 72) (Y := zm_170) (zw_W_I W).1 rfl rfl zm_170_t rfl rfl) rfl rfl rfl rfl rfl (zq_right1 (zw_W_I W) h0) ?_
  refine zw_bne1 (g := 22) (pc' := 20) rfl rfl rfl (rfl : _ = (1 : Int)) (fun h1 => ?_) (fun h9 => absurd h9 (by decide))
  refine zw_ld (n := 1) (k := 1) (f := zp_isI) (pc' := 23) rfl rfl rfl rfl rfl ?_
  refine zw_s (pc' := 138) rfl rfl ?_
  refine zw_ld (n := 1) (k := 0) (f := zp_isR) (pc' := 139) rfl rfl rfl rfl rfl ?_
  refine zw_gI (q := 72) (pc' := 142) (zw_W_I W) rfl rfl rfl rfl (zw_ne rfl rfl) rfl ?_
  refine zw_ri rfl rfl ?_
  rfl

theorem yr_ct11 {L : Nat} {σ : Nat → Int32} {d : Nat} {H : zp_H} (W : zw_W H) : zp_Call L σ (d + 3) 206 [.inr (.inr (some 73)), .inl (Int32.ofInt 11)] H (.inl (some (.inl (H.2.1 72 62))), (zw_I H 72 0 (Int32.ofInt 0))) := by
  have h0 : ((zw_I H 72 0 (Int32.ofInt 0)).2.1 72 0).toInt = 0 := congrArg Int32.toInt zw_eq
  refine zw_ex (zw_met zm_206_t rfl rfl ?_)
  refine zw_ld (n := 1) (k := 0) (f := zp_isR) (pc' := 1) rfl rfl rfl rfl rfl ?_
  refine zw_s (pc' := 2) rfl rfl ?_
  refine zw_pI (q := 72) (pc' := 5) W rfl rfl rfl rfl rfl rfl ?_
  refine zw_ld (n := 1) (k := 0) (f := zp_isR) (pc' := 6) rfl rfl rfl rfl rfl ?_
  refine zw_ld (n := 1) (k := 1) (f := zp_isI) (pc' := 7) rfl rfl rfl rfl rfl ?_
  refine zw_s (pc' := 8) rfl rfl ?_
  refine zw_s (pc' := 10) rfl rfl ?_
  refine zw_c (pc' := 13) (zw_cs (Y := zm_185) rfl rfl zm_185_t) rfl rfl rfl rfl rfl (zq_within1 ⟨by decide, by decide⟩) ?_
  refine zw_s (pc' := 14) rfl rfl ?_
  refine zw_c (pc' := 17) (zw_cv (q := 72) (Y := zm_170) (zw_W_I W).1 rfl rfl zm_170_t rfl rfl) rfl rfl rfl rfl rfl (zq_right1 (zw_W_I W) h0) ?_
  refine zw_bne1 (g := 22) (pc' := 20) rfl rfl rfl (rfl : _ = (1 : Int)) (fun h1 => ?_) (fun h9 => absurd h9 (by decide))
  refine zw_ld (n := 1) (k := 1) (f := zp_isI) (pc' := 23) rfl rfl rfl rfl rfl ?_
  refine zw_s (pc' := 143) rfl rfl ?_
  refine zw_ld (n := 1) (k := 0) (f := zp_isR) (pc' := 144) rfl rfl rfl rfl rfl ?_
  refine zw_gI (q := 72) (pc' := 147) (zw_W_I W) rfl rfl rfl rfl (zw_ne rfl rfl) rfl ?_
  refine zw_ri rfl rfl ?_
  rfl

theorem yr_ct12 {L : Nat} {σ : Nat → Int32} {d : Nat} {H : zp_H} (W : zw_W H) : zp_Call L σ (d + 3) 206 [.inr (.inr (some 73)), .inl (Int32.ofInt 12)] H (.inl (some (.inl (H.2.1 72 22))), (zw_I H 72 0 (Int32.ofInt 0))) := by
  have h0 : ((zw_I H 72 0 (Int32.ofInt 0)).2.1 72 0).toInt = 0 := congrArg Int32.toInt zw_eq
  refine zw_ex (zw_met zm_206_t rfl rfl ?_)
  refine zw_ld (n := 1) (k := 0) (f := zp_isR) (pc' := 1) rfl rfl rfl rfl rfl ?_
  refine zw_s (pc' := 2) rfl rfl ?_
  refine zw_pI (q := 72) (pc' := 5) W rfl rfl rfl rfl rfl rfl ?_
  refine zw_ld (n := 1) (k := 0) (f := zp_isR) (pc' := 6) rfl rfl rfl rfl rfl ?_
  refine zw_ld (n := 1) (k := 1) (f := zp_isI) (pc' := 7) rfl rfl rfl rfl rfl ?_
  refine zw_s (pc' := 8) rfl rfl ?_
  refine zw_s (pc' := 10) rfl rfl ?_
  refine zw_c (pc' := 13) (zw_cs (Y := zm_185) rfl rfl zm_185_t) rfl rfl rfl rfl rfl (zq_within1 ⟨by decide, by decide⟩) ?_
  refine zw_s (pc' := 14) rfl rfl ?_
  refine zw_c (pc' := 17) (zw_cv (q := 72) (Y := zm_170) (zw_W_I W).1 rfl rfl zm_170_t rfl rfl) rfl rfl rfl rfl rfl (zq_right1 (zw_W_I W) h0) ?_
  refine zw_bne1 (g := 22) (pc' := 20) rfl rfl rfl (rfl : _ = (1 : Int)) (fun h1 => ?_) (fun h9 => absurd h9 (by decide))
  refine zw_ld (n := 1) (k := 1) (f := zp_isI) (pc' := 23) rfl rfl rfl rfl rfl ?_
  refine zw_s (pc' := 148) rfl rfl ?_
  refine zw_ld (n := 1) (k := 0) (f := zp_isR) (pc' := 149) rfl rfl rfl rfl rfl ?_
  refine zw_gI (q := 72) (pc' := 152) (zw_W_I W) rfl rfl rfl rfl (zw_ne rfl rfl) rfl ?_
  refine zw_ri rfl rfl ?_
  rfl

theorem yr_ct13 {L : Nat} {σ : Nat → Int32} {d : Nat} {H : zp_H} (W : zw_W H) : zp_Call L σ (d + 3) 206 [.inr (.inr (some 73)), .inl (Int32.ofInt 13)] H (.inl (some (.inl (H.2.1 82 0))), (zw_I H 72 0 (Int32.ofInt 0))) := by
  have h0 : ((zw_I H 72 0 (Int32.ofInt 0)).2.1 72 0).toInt = 0 := congrArg Int32.toInt zw_eq
  refine zw_ex (zw_met zm_206_t rfl rfl ?_)
  refine zw_ld (n := 1) (k := 0) (f := zp_isR) (pc' := 1) rfl rfl rfl rfl rfl ?_
  refine zw_s (pc' := 2) rfl rfl ?_
  refine zw_pI (q := 72) (pc' := 5) W rfl rfl rfl rfl rfl rfl ?_
  refine zw_ld (n := 1) (k := 0) (f := zp_isR) (pc' := 6) rfl rfl rfl rfl rfl ?_
  refine zw_ld (n := 1) (k := 1) (f := zp_isI) (pc' := 7) rfl rfl rfl rfl rfl ?_
  refine zw_s (pc' := 8) rfl rfl ?_
  refine zw_s (pc' := 10) rfl rfl ?_
  refine zw_c (pc' := 13) (zw_cs (Y := zm_185) rfl rfl zm_185_t) rfl rfl rfl rfl rfl (zq_within1 ⟨by decide, by decide⟩) ?_
  refine zw_s (pc' := 14) rfl rfl ?_
  refine zw_c (pc' := 17) (zw_cv (q := 72) (Y := zm_170) (zw_W_I W).1 rfl rfl zm_170_t rfl rfl) rfl rfl rfl rfl rfl (zq_right1 (zw_W_I W) h0) ?_
  refine zw_bne1 (g := 22) (pc' := 20) rfl rfl rfl (rfl : _ = (1 : Int)) (fun h1 => ?_) (fun h9 => absurd h9 (by decide))
  have e13 : (Int32.ofInt 13 - Int32.ofInt 13).toInt.toNat = 0 := by decide
  refine zw_ld (n := 1) (k := 1) (f := zp_isI) (pc' := 23) rfl rfl rfl rfl rfl ?_
  refine zw_s (pc' := 153) rfl rfl ?_
  refine zw_ld (n := 1) (k := 0) (f := zp_isR) (pc' := 154) rfl rfl rfl rfl rfl ?_
  refine zw_gR (q := 72) (pc' := 157) (zw_W_I W) rfl rfl rfl rfl ((zw_W_I W).2 72 25 _ rfl) rfl ?_
  refine zw_ld (n := 1) (k := 1) (f := zp_isI) (pc' := 158) rfl rfl rfl rfl rfl ?_
  refine zw_s (pc' := 160) rfl rfl ?_
  refine zw_isub (pc' := 161) rfl rfl ?_
  refine zw_ia (q := 82) (pc' := 162) (zw_W_I W) rfl rfl (by decide) (⟨by decide, by decide⟩) (zw_ne rfl rfl) rfl ?_
  refine zw_ri rfl rfl ?_
  rw [e13]

theorem yr_ct14 {L : Nat} {σ : Nat → Int32} {d : Nat} {H : zp_H} (W : zw_W H) : zp_Call L σ (d + 3) 206 [.inr (.inr (some 73)), .inl (Int32.ofInt 14)] H (.inl (some (.inl (H.2.1 82 1))), (zw_I H 72 0 (Int32.ofInt 0))) := by
  have h0 : ((zw_I H 72 0 (Int32.ofInt 0)).2.1 72 0).toInt = 0 := congrArg Int32.toInt zw_eq
  refine zw_ex (zw_met zm_206_t rfl rfl ?_)
  refine zw_ld (n := 1) (k := 0) (f := zp_isR) (pc' := 1) rfl rfl rfl rfl rfl ?_
  refine zw_s (pc' := 2) rfl rfl ?_
  refine zw_pI (q := 72) (pc' := 5) W rfl rfl rfl rfl rfl rfl ?_
  refine zw_ld (n := 1) (k := 0) (f := zp_isR) (pc' := 6) rfl rfl rfl rfl rfl ?_
  refine zw_ld (n := 1) (k := 1) (f := zp_isI) (pc' := 7) rfl rfl rfl rfl rfl ?_
  refine zw_s (pc' := 8) rfl rfl ?_
  refine zw_s (pc' := 10) rfl rfl ?_
  refine zw_c (pc' := 13) (zw_cs (Y := zm_185) rfl rfl zm_185_t) rfl rfl rfl rfl rfl (zq_within1 ⟨by decide, by decide⟩) ?_
  refine zw_s (pc' := 14) rfl rfl ?_
  refine zw_c (pc' := 17) (zw_cv (q := 72) (Y := zm_170) (zw_W_I W).1 rfl rfl zm_170_t rfl rfl) rfl rfl rfl rfl rfl (zq_right1 (zw_W_I W) h0) ?_
  refine zw_bne1 (g := 22) (pc' := 20) rfl rfl rfl (rfl : _ = (1 : Int)) (fun h1 => ?_) (fun h9 => absurd h9 (by decide))
  have e13 : (Int32.ofInt 14 - Int32.ofInt 13).toInt.toNat = 1 := by decide
  refine zw_ld (n := 1) (k := 1) (f := zp_isI) (pc' := 23) rfl rfl rfl rfl rfl ?_
  refine zw_s (pc' := 153) rfl rfl ?_
  refine zw_ld (n := 1) (k := 0) (f := zp_isR) (pc' := 154) rfl rfl rfl rfl rfl ?_
  refine zw_gR (q := 72) (pc' := 157) (zw_W_I W) rfl rfl rfl rfl ((zw_W_I W).2 72 25 _ rfl) rfl ?_
  refine zw_ld (n := 1) (k := 1) (f := zp_isI) (pc' := 158) rfl rfl rfl rfl rfl ?_
  refine zw_s (pc' := 160) rfl rfl ?_
  refine zw_isub (pc' := 161) rfl rfl ?_
  refine zw_ia (q := 82) (pc' := 162) (zw_W_I W) rfl rfl (by decide) (⟨by decide, by decide⟩) (zw_ne rfl rfl) rfl ?_
  refine zw_ri rfl rfl ?_
  rw [e13]

theorem yr_ctn {L : Nat} {σ : Nat → Int32} {d : Nat} {H : zp_H} (W : zw_W H) {x1 : Int32} (h : ¬ ((Int32.ofInt 0).toInt ≤ x1.toInt ∧ x1.toInt ≤ (Int32.ofInt 14).toInt)) : zp_Call L σ (d + 3) 206 [.inr (.inr (some 73)), .inl x1] H (.inl (some (.inl (Int32.ofInt 0))), zw_I (zw_I H 72 0 (Int32.ofInt 0)) 72 0 (Int32.ofInt 1)) := by
  have h0 : ((zw_I H 72 0 (Int32.ofInt 0)).2.1 72 0).toInt = 0 := congrArg Int32.toInt zw_eq
  refine zw_ex (zw_met zm_206_t rfl rfl ?_)
  refine zw_ld (n := 1) (k := 0) (f := zp_isR) (pc' := 1) rfl rfl rfl rfl rfl ?_
  refine zw_s (pc' := 2) rfl rfl ?_
  refine zw_pI (q := 72) (pc' := 5) W rfl rfl rfl rfl rfl rfl ?_
  refine zw_ld (n := 1) (k := 0) (f := zp_isR) (pc' := 6) rfl rfl rfl rfl rfl ?_
  refine zw_ld (n := 1) (k := 1) (f := zp_isI) (pc' := 7) rfl rfl rfl rfl rfl ?_
  refine zw_s (pc' := 8) rfl rfl ?_
  refine zw_s (pc' := 10) rfl rfl ?_
  refine zw_c (pc' := 13) (zw_cs (Y := zm_185) rfl rfl zm_185_t) rfl rfl rfl rfl rfl (zq_within0 h) ?_
  refine zw_s (pc' := 14) rfl rfl ?_
  refine zw_c (pc' := 17) (zw_cv (q := 72) (Y := zm_170) (zw_W_I W).1 rfl rfl zm_170_t rfl rfl) rfl rfl rfl rfl rfl (zq_right0 (zw_W_I W) h0 (by decide)) ?_
  refine zw_bne1 (g := 22) (pc' := 20) rfl rfl rfl (rfl : _ = (0 : Int)) (fun h9 => absurd h9 (by decide)) (fun h1 => ?_)
  refine zw_s (pc' := 21) rfl rfl ?_
  refine zw_ri rfl rfl ?_
  rfl

theorem yx0_14 {x : Int32} (h : 0 ≤ x.toInt ∧ x.toInt ≤ 14) : x = Int32.ofInt 0 ∨ x = Int32.ofInt 1 ∨ x = Int32.ofInt 2 ∨ x = Int32.ofInt 3 ∨ x = Int32.ofInt 4 ∨ x = Int32.ofInt 5 ∨ x = Int32.ofInt 6 ∨ x = Int32.ofInt 7 ∨ x = Int32.ofInt 8 ∨ x = Int32.ofInt 9 ∨ x = Int32.ofInt 10 ∨ x = Int32.ofInt 11 ∨ x = Int32.ofInt 12 ∨ x = Int32.ofInt 13 ∨ x = Int32.ofInt 14 := by
  rcases (show x.toInt = 0 ∨ x.toInt = 1 ∨ x.toInt = 2 ∨ x.toInt = 3 ∨ x.toInt = 4 ∨ x.toInt = 5 ∨ x.toInt = 6 ∨ x.toInt = 7 ∨ x.toInt = 8 ∨ x.toInt = 9 ∨ x.toInt = 10 ∨ x.toInt = 11 ∨ x.toInt = 12 ∨ x.toInt = 13 ∨ x.toInt = 14 by omega) with h9 | h9 | h9 | h9 | h9 | h9 | h9 | h9 | h9 | h9 | h9 | h9 | h9 | h9 | h9
  · exact Or.inl (Int32.toInt_inj.mp h9)
  · exact Or.inr (Or.inl (Int32.toInt_inj.mp h9))
  · exact Or.inr (Or.inr (Or.inl (Int32.toInt_inj.mp h9)))
  · exact Or.inr (Or.inr (Or.inr (Or.inl (Int32.toInt_inj.mp h9))))
  · exact Or.inr (Or.inr (Or.inr (Or.inr (Or.inl (Int32.toInt_inj.mp h9)))))
  · exact Or.inr (Or.inr (Or.inr (Or.inr (Or.inr (Or.inl (Int32.toInt_inj.mp h9))))))
  · exact Or.inr (Or.inr (Or.inr (Or.inr (Or.inr (Or.inr (Or.inl (Int32.toInt_inj.mp h9)))))))
  · exact Or.inr (Or.inr (Or.inr (Or.inr (Or.inr (Or.inr (Or.inr (Or.inl (Int32.toInt_inj.mp h9))))))))
  · exact Or.inr (Or.inr (Or.inr (Or.inr (Or.inr (Or.inr (Or.inr (Or.inr (Or.inl (Int32.toInt_inj.mp h9)))))))))
  · exact Or.inr (Or.inr (Or.inr (Or.inr (Or.inr (Or.inr (Or.inr (Or.inr (Or.inr (Or.inl (Int32.toInt_inj.mp h9))))))))))
  · exact Or.inr (Or.inr (Or.inr (Or.inr (Or.inr (Or.inr (Or.inr (Or.inr (Or.inr (Or.inr (Or.inl (Int32.toInt_inj.mp h9)))))))))))
  · exact Or.inr (Or.inr (Or.inr (Or.inr (Or.inr (Or.inr (Or.inr (Or.inr (Or.inr (Or.inr (Or.inr (Or.inl (Int32.toInt_inj.mp h9))))))))))))
  · exact Or.inr (Or.inr (Or.inr (Or.inr (Or.inr (Or.inr (Or.inr (Or.inr (Or.inr (Or.inr (Or.inr (Or.inr (Or.inl (Int32.toInt_inj.mp h9)))))))))))))
  · exact Or.inr (Or.inr (Or.inr (Or.inr (Or.inr (Or.inr (Or.inr (Or.inr (Or.inr (Or.inr (Or.inr (Or.inr (Or.inr (Or.inl (Int32.toInt_inj.mp h9))))))))))))))
  · exact Or.inr (Or.inr (Or.inr (Or.inr (Or.inr (Or.inr (Or.inr (Or.inr (Or.inr (Or.inr (Or.inr (Or.inr (Or.inr (Or.inr ((Int32.toInt_inj.mp h9)))))))))))))))

theorem yb_count {L : Nat} {σ : Nat → Int32} {d c t : Nat} {H : zp_H} {x1 : Int32} (hI : yJ c t H) : ∃ H1 H2 v w, zp_Call L σ (d + 60) 100 [.inr (.inr (some 1)), .inl x1, .inr (.inr (some 105))] H (.inl (some (.inl v)), H1) ∧ zp_Call L σ (d + 60) 206 [.inr (.inr (some 73)), .inl x1] H1 (.inl (some (.inl w)), H2) ∧ H1.1 = zB_sh ∧ yJ c t H2 ∧ (H2.2.1 72 0).toInt = v.toInt ∧ (v.toInt = 0 → H2.2.2.1 104 0 = w.toInt64) := by
  obtain ⟨H1, v, c1, hI1⟩ := yp_count (L := L) (σ := σ) (d := d) (x1 := x1) hI
  obtain ⟨H2, w, c2, hI2⟩ := yq_count (L := L) (σ := σ) (d := d) (x1 := x1) hI1
  have W1 := zB_Wd (zB_dn (zB_Bc hI1.1.1.1))
  obtain ⟨⟨A, a1, a2, a3⟩, -, -, g3, -⟩ := id hI.2
  have g4 : H.2.1 0 4 = H.2.1 82 1 := by first | exact hI.2.2.2.2.2 | exact hI.2.2.2.2.2.1
  have t0 : (H.2.1 0 1).toInt = (20 * t : Nat) := hI.1.1.2.2.1
  have t1 : (H.2.1 72 22).toInt = (20 * t : Nat) := hI.1.1.2.2.2.1
  obtain ⟨h0, q2, q3, q4, -⟩ := hI.1.2.2
  rcases h0 with rfl | rfl
  · have q3 : H.2.2.1 2 3 = H.2.2.1 72 12 := q3
    by_cases h : 0 ≤ x1.toInt ∧ x1.toInt ≤ 14
    · rcases yx0_14 h with rfl | rfl | rfl | rfl | rfl | rfl | rfl | rfl | rfl | rfl | rfl | rfl | rfl | rfl | rfl
      · have e1 := zp_Call_u c1 (yl_ct0_0 (L := L) (σ := σ) (d := 0) hI.1.1.1)
        cases e1
        have e2 := zp_Call_u c2 (yr_ct0 (L := L) (σ := σ) (d := 0) W1)
        cases e2
        refine ⟨_, _, _, _, c1, c2, hI1.1.1.1.1, hI2, congrArg Int32.toInt zw_eq, fun _ => ?_⟩
        have k : H.2.1 2 0 = H.2.1 72 1 := q2 (0, 1) (by decide)
        show (zw_J H 104 0 _).2.2.1 104 0 = (H.2.1 72 1).toInt64
        rw [← k]
        exact zp_u_self H.2.2.1 104 0 _
      · have e1 := zp_Call_u c1 (yl_ct0_1 (L := L) (σ := σ) (d := 0) hI.1.1.1)
        cases e1
        have e2 := zp_Call_u c2 (yr_ct1 (L := L) (σ := σ) (d := 0) W1)
        cases e2
        refine ⟨_, _, _, _, c1, c2, hI1.1.1.1.1, hI2, congrArg Int32.toInt zw_eq, fun _ => ?_⟩
        have k : H.2.1 2 1 = H.2.1 72 2 := q2 (1, 2) (by decide)
        show (zw_J H 104 0 _).2.2.1 104 0 = (H.2.1 72 2).toInt64
        rw [← k]
        exact zp_u_self H.2.2.1 104 0 _
      · have e1 := zp_Call_u c1 (yl_ct0_2 (L := L) (σ := σ) (d := 0) hI.1.1.1)
        cases e1
        have e2 := zp_Call_u c2 (yr_ct2 (L := L) (σ := σ) (d := 0) W1)
        cases e2
        refine ⟨_, _, _, _, c1, c2, hI1.1.1.1.1, hI2, congrArg Int32.toInt zw_eq, fun _ => ?_⟩
        have k : yBC (H.2.2.1 2 3) = H.2.1 72 3 := Int32.toInt_inj.mp (by rw [q3]; exact q4.1)
        show (zw_J H 104 0 _).2.2.1 104 0 = (H.2.1 72 3).toInt64
        rw [← k]
        exact zp_u_self H.2.2.1 104 0 _
      · have e1 := zp_Call_u c1 (yl_ct0_3 (L := L) (σ := σ) (d := 0) hI.1.1.1)
        cases e1
        have e2 := zp_Call_u c2 (yr_ct3 (L := L) (σ := σ) (d := 0) W1)
        cases e2
        refine ⟨_, _, _, _, c1, c2, hI1.1.1.1.1, hI2, congrArg Int32.toInt zw_eq, fun _ => ?_⟩
        have k : yBC (yCur 2 H) = H.2.1 72 4 := Int32.toInt_inj.mp q4.2
        show (zw_J H 104 0 _).2.2.1 104 0 = (H.2.1 72 4).toInt64
        rw [← k]
        exact zp_u_self H.2.2.1 104 0 _
      · have e1 := zp_Call_u c1 (yl_ct0_4 (L := L) (σ := σ) (d := 0) hI.1.1.1)
        cases e1
        have e2 := zp_Call_u c2 (yr_ct4 (L := L) (σ := σ) (d := 0) W1)
        cases e2
        refine ⟨_, _, _, _, c1, c2, hI1.1.1.1.1, hI2, congrArg Int32.toInt zw_eq, fun _ => ?_⟩
        have k : H.2.1 13 0 = H.2.1 72 5 := Int32.toInt_inj.mp (a2.1.trans a3.1.symm)
        show (zw_J H 104 0 _).2.2.1 104 0 = (H.2.1 72 5).toInt64
        rw [← k]
        exact zp_u_self H.2.2.1 104 0 _
      · have e1 := zp_Call_u c1 (yl_ct0_5 (L := L) (σ := σ) (d := 0) hI.1.1.1)
        cases e1
        have e2 := zp_Call_u c2 (yr_ct5 (L := L) (σ := σ) (d := 0) W1)
        cases e2
        refine ⟨_, _, _, _, c1, c2, hI1.1.1.1.1, hI2, congrArg Int32.toInt zw_eq, fun _ => ?_⟩
        have k : H.2.1 2 7 = H.2.1 72 6 := q2 (7, 6) (by decide)
        show (zw_J H 104 0 _).2.2.1 104 0 = (H.2.1 72 6).toInt64
        rw [← k]
        exact zp_u_self H.2.2.1 104 0 _
      · have e1 := zp_Call_u c1 (yl_ct0_6 (L := L) (σ := σ) (d := 0) hI.1.1.1)
        cases e1
        have e2 := zp_Call_u c2 (yr_ct6 (L := L) (σ := σ) (d := 0) W1)
        cases e2
        refine ⟨_, _, _, _, c1, c2, hI1.1.1.1.1, hI2, congrArg Int32.toInt zw_eq, fun _ => ?_⟩
        have k : H.2.1 2 12 = H.2.1 72 7 := q2 (12, 7) (by decide)
        show (zw_J H 104 0 _).2.2.1 104 0 = (H.2.1 72 7).toInt64
        rw [← k]
        exact zp_u_self H.2.2.1 104 0 _
      · have e1 := zp_Call_u c1 (yl_ct0_7 (L := L) (σ := σ) (d := 0) hI.1.1.1)
        cases e1
        have e2 := zp_Call_u c2 (yr_ct7 (L := L) (σ := σ) (d := 0) W1)
        cases e2
        refine ⟨_, _, _, _, c1, c2, hI1.1.1.1.1, hI2, congrArg Int32.toInt zw_eq, fun _ => ?_⟩
        have k : H.2.1 2 16 = H.2.1 72 8 := q2 (16, 8) (by decide)
        show (zw_J H 104 0 _).2.2.1 104 0 = (H.2.1 72 8).toInt64
        rw [← k]
        exact zp_u_self H.2.2.1 104 0 _
      · have e1 := zp_Call_u c1 (yl_ct0_8 (L := L) (σ := σ) (d := 0) hI.1.1.1)
        cases e1
        have e2 := zp_Call_u c2 (yr_ct8 (L := L) (σ := σ) (d := 0) W1)
        cases e2
        refine ⟨_, _, _, _, c1, c2, hI1.1.1.1.1, hI2, congrArg Int32.toInt zw_eq, fun _ => ?_⟩
        have k : H.2.1 2 9 = H.2.1 72 9 := q2 (9, 9) (by decide)
        show (zw_J H 104 0 _).2.2.1 104 0 = (H.2.1 72 9).toInt64
        rw [← k]
        exact zp_u_self H.2.2.1 104 0 _
      · have e1 := zp_Call_u c1 (yl_ct0_9 (L := L) (σ := σ) (d := 0) hI.1.1.1)
        cases e1
        have e2 := zp_Call_u c2 (yr_ct9 (L := L) (σ := σ) (d := 0) W1)
        cases e2
        refine ⟨_, _, _, _, c1, c2, hI1.1.1.1.1, hI2, congrArg Int32.toInt zw_eq, fun _ => ?_⟩
        have k : H.2.1 2 10 = H.2.1 72 10 := q2 (10, 10) (by decide)
        show (zw_J H 104 0 _).2.2.1 104 0 = (H.2.1 72 10).toInt64
        rw [← k]
        exact zp_u_self H.2.2.1 104 0 _
      · have e1 := zp_Call_u c1 (yl_ct0_10 (L := L) (σ := σ) (d := 0) hI.1.1.1)
        cases e1
        have e2 := zp_Call_u c2 (yr_ct10 (L := L) (σ := σ) (d := 0) W1)
        cases e2
        refine ⟨_, _, _, _, c1, c2, hI1.1.1.1.1, hI2, congrArg Int32.toInt zw_eq, fun _ => ?_⟩
        have k : H.2.1 2 11 = H.2.1 72 11 := q2 (11, 11) (by decide)
        show (zw_J H 104 0 _).2.2.1 104 0 = (H.2.1 72 11).toInt64
        rw [← k]
        exact zp_u_self H.2.2.1 104 0 _
      · have e1 := zp_Call_u c1 (yl_ct0_11 (L := L) (σ := σ) (d := 0) hI.1.1.1)
        cases e1
        have e2 := zp_Call_u c2 (yr_ct11 (L := L) (σ := σ) (d := 0) W1)
        cases e2
        refine ⟨_, _, _, _, c1, c2, hI1.1.1.1.1, hI2, congrArg Int32.toInt zw_eq, fun _ => ?_⟩
        have k : H.2.1 13 7 = H.2.1 72 62 := Int32.toInt_inj.mp (a2.2.1.trans a3.2.1.symm)
        show (zw_J H 104 0 _).2.2.1 104 0 = (H.2.1 72 62).toInt64
        rw [← k]
        exact zp_u_self H.2.2.1 104 0 _
      · have e1 := zp_Call_u c1 (yl_ct0_12 (L := L) (σ := σ) (d := 0) hI.1.1.1)
        cases e1
        have e2 := zp_Call_u c2 (yr_ct12 (L := L) (σ := σ) (d := 0) W1)
        cases e2
        refine ⟨_, _, _, _, c1, c2, hI1.1.1.1.1, hI2, congrArg Int32.toInt zw_eq, fun _ => ?_⟩
        have k : H.2.1 0 1 = H.2.1 72 22 := Int32.toInt_inj.mp (t0.trans t1.symm)
        show (zw_J H 104 0 _).2.2.1 104 0 = (H.2.1 72 22).toInt64
        rw [← k]
        exact zp_u_self H.2.2.1 104 0 _
      · have e1 := zp_Call_u c1 (yl_ct0_13 (L := L) (σ := σ) (d := 0) hI.1.1.1)
        cases e1
        have e2 := zp_Call_u c2 (yr_ct13 (L := L) (σ := σ) (d := 0) W1)
        cases e2
        refine ⟨_, _, _, _, c1, c2, hI1.1.1.1.1, hI2, congrArg Int32.toInt zw_eq, fun _ => ?_⟩
        have k : H.2.1 0 3 = H.2.1 82 0 := g3
        show (zw_J H 104 0 _).2.2.1 104 0 = (H.2.1 82 0).toInt64
        rw [← k]
        exact zp_u_self H.2.2.1 104 0 _
      · have e1 := zp_Call_u c1 (yl_ct0_14 (L := L) (σ := σ) (d := 0) hI.1.1.1)
        cases e1
        have e2 := zp_Call_u c2 (yr_ct14 (L := L) (σ := σ) (d := 0) W1)
        cases e2
        refine ⟨_, _, _, _, c1, c2, hI1.1.1.1.1, hI2, congrArg Int32.toInt zw_eq, fun _ => ?_⟩
        have k : H.2.1 0 4 = H.2.1 82 1 := g4
        show (zw_J H 104 0 _).2.2.1 104 0 = (H.2.1 82 1).toInt64
        rw [← k]
        exact zp_u_self H.2.2.1 104 0 _
    · have e1 := zp_Call_u c1 (yl_ctn0 (L := L) (σ := σ) (d := 0) hI.1.1.1 h)
      cases e1
      have e2 := zp_Call_u c2 (yr_ctn (L := L) (σ := σ) (d := 0) W1 h)
      cases e2
      exact ⟨_, _, _, _, c1, c2, hI1.1.1.1.1, hI2, congrArg Int32.toInt zw_eq, fun h9 => absurd h9 (by decide)⟩
  · have q3 : H.2.2.1 22 3 = H.2.2.1 72 12 := q3
    by_cases h : 0 ≤ x1.toInt ∧ x1.toInt ≤ 14
    · rcases yx0_14 h with rfl | rfl | rfl | rfl | rfl | rfl | rfl | rfl | rfl | rfl | rfl | rfl | rfl | rfl | rfl
      · have e1 := zp_Call_u c1 (yl_ct3_0 (L := L) (σ := σ) (d := 0) hI.1.1.1)
        cases e1
        have e2 := zp_Call_u c2 (yr_ct0 (L := L) (σ := σ) (d := 0) W1)
        cases e2
        refine ⟨_, _, _, _, c1, c2, hI1.1.1.1.1, hI2, congrArg Int32.toInt zw_eq, fun _ => ?_⟩
        have k : H.2.1 22 0 = H.2.1 72 1 := q2 (0, 1) (by decide)
        show (zw_J H 104 0 _).2.2.1 104 0 = (H.2.1 72 1).toInt64
        rw [← k]
        exact zp_u_self H.2.2.1 104 0 _
      · have e1 := zp_Call_u c1 (yl_ct3_1 (L := L) (σ := σ) (d := 0) hI.1.1.1)
        cases e1
        have e2 := zp_Call_u c2 (yr_ct1 (L := L) (σ := σ) (d := 0) W1)
        cases e2
        refine ⟨_, _, _, _, c1, c2, hI1.1.1.1.1, hI2, congrArg Int32.toInt zw_eq, fun _ => ?_⟩
        have k : H.2.1 22 1 = H.2.1 72 2 := q2 (1, 2) (by decide)
        show (zw_J H 104 0 _).2.2.1 104 0 = (H.2.1 72 2).toInt64
        rw [← k]
        exact zp_u_self H.2.2.1 104 0 _
      · have e1 := zp_Call_u c1 (yl_ct3_2 (L := L) (σ := σ) (d := 0) hI.1.1.1)
        cases e1
        have e2 := zp_Call_u c2 (yr_ct2 (L := L) (σ := σ) (d := 0) W1)
        cases e2
        refine ⟨_, _, _, _, c1, c2, hI1.1.1.1.1, hI2, congrArg Int32.toInt zw_eq, fun _ => ?_⟩
        have k : yBC (H.2.2.1 22 3) = H.2.1 72 3 := Int32.toInt_inj.mp (by rw [q3]; exact q4.1)
        show (zw_J H 104 0 _).2.2.1 104 0 = (H.2.1 72 3).toInt64
        rw [← k]
        exact zp_u_self H.2.2.1 104 0 _
      · have e1 := zp_Call_u c1 (yl_ct3_3 (L := L) (σ := σ) (d := 0) hI.1.1.1)
        cases e1
        have e2 := zp_Call_u c2 (yr_ct3 (L := L) (σ := σ) (d := 0) W1)
        cases e2
        refine ⟨_, _, _, _, c1, c2, hI1.1.1.1.1, hI2, congrArg Int32.toInt zw_eq, fun _ => ?_⟩
        have k : yBC (yCur 22 H) = H.2.1 72 4 := Int32.toInt_inj.mp q4.2
        show (zw_J H 104 0 _).2.2.1 104 0 = (H.2.1 72 4).toInt64
        rw [← k]
        exact zp_u_self H.2.2.1 104 0 _
      · have e1 := zp_Call_u c1 (yl_ct3_4 (L := L) (σ := σ) (d := 0) hI.1.1.1)
        cases e1
        have e2 := zp_Call_u c2 (yr_ct4 (L := L) (σ := σ) (d := 0) W1)
        cases e2
        refine ⟨_, _, _, _, c1, c2, hI1.1.1.1.1, hI2, congrArg Int32.toInt zw_eq, fun _ => ?_⟩
        have k : H.2.1 33 0 = H.2.1 72 5 := Int32.toInt_inj.mp (a2.1.trans a3.1.symm)
        show (zw_J H 104 0 _).2.2.1 104 0 = (H.2.1 72 5).toInt64
        rw [← k]
        exact zp_u_self H.2.2.1 104 0 _
      · have e1 := zp_Call_u c1 (yl_ct3_5 (L := L) (σ := σ) (d := 0) hI.1.1.1)
        cases e1
        have e2 := zp_Call_u c2 (yr_ct5 (L := L) (σ := σ) (d := 0) W1)
        cases e2
        refine ⟨_, _, _, _, c1, c2, hI1.1.1.1.1, hI2, congrArg Int32.toInt zw_eq, fun _ => ?_⟩
        have k : H.2.1 22 7 = H.2.1 72 6 := q2 (7, 6) (by decide)
        show (zw_J H 104 0 _).2.2.1 104 0 = (H.2.1 72 6).toInt64
        rw [← k]
        exact zp_u_self H.2.2.1 104 0 _
      · have e1 := zp_Call_u c1 (yl_ct3_6 (L := L) (σ := σ) (d := 0) hI.1.1.1)
        cases e1
        have e2 := zp_Call_u c2 (yr_ct6 (L := L) (σ := σ) (d := 0) W1)
        cases e2
        refine ⟨_, _, _, _, c1, c2, hI1.1.1.1.1, hI2, congrArg Int32.toInt zw_eq, fun _ => ?_⟩
        have k : H.2.1 22 12 = H.2.1 72 7 := q2 (12, 7) (by decide)
        show (zw_J H 104 0 _).2.2.1 104 0 = (H.2.1 72 7).toInt64
        rw [← k]
        exact zp_u_self H.2.2.1 104 0 _
      · have e1 := zp_Call_u c1 (yl_ct3_7 (L := L) (σ := σ) (d := 0) hI.1.1.1)
        cases e1
        have e2 := zp_Call_u c2 (yr_ct7 (L := L) (σ := σ) (d := 0) W1)
        cases e2
        refine ⟨_, _, _, _, c1, c2, hI1.1.1.1.1, hI2, congrArg Int32.toInt zw_eq, fun _ => ?_⟩
        have k : H.2.1 22 16 = H.2.1 72 8 := q2 (16, 8) (by decide)
        show (zw_J H 104 0 _).2.2.1 104 0 = (H.2.1 72 8).toInt64
        rw [← k]
        exact zp_u_self H.2.2.1 104 0 _
      · have e1 := zp_Call_u c1 (yl_ct3_8 (L := L) (σ := σ) (d := 0) hI.1.1.1)
        cases e1
        have e2 := zp_Call_u c2 (yr_ct8 (L := L) (σ := σ) (d := 0) W1)
        cases e2
        refine ⟨_, _, _, _, c1, c2, hI1.1.1.1.1, hI2, congrArg Int32.toInt zw_eq, fun _ => ?_⟩
        have k : H.2.1 22 9 = H.2.1 72 9 := q2 (9, 9) (by decide)
        show (zw_J H 104 0 _).2.2.1 104 0 = (H.2.1 72 9).toInt64
        rw [← k]
        exact zp_u_self H.2.2.1 104 0 _
      · have e1 := zp_Call_u c1 (yl_ct3_9 (L := L) (σ := σ) (d := 0) hI.1.1.1)
        cases e1
        have e2 := zp_Call_u c2 (yr_ct9 (L := L) (σ := σ) (d := 0) W1)
        cases e2
        refine ⟨_, _, _, _, c1, c2, hI1.1.1.1.1, hI2, congrArg Int32.toInt zw_eq, fun _ => ?_⟩
        have k : H.2.1 22 10 = H.2.1 72 10 := q2 (10, 10) (by decide)
        show (zw_J H 104 0 _).2.2.1 104 0 = (H.2.1 72 10).toInt64
        rw [← k]
        exact zp_u_self H.2.2.1 104 0 _
      · have e1 := zp_Call_u c1 (yl_ct3_10 (L := L) (σ := σ) (d := 0) hI.1.1.1)
        cases e1
        have e2 := zp_Call_u c2 (yr_ct10 (L := L) (σ := σ) (d := 0) W1)
        cases e2
        refine ⟨_, _, _, _, c1, c2, hI1.1.1.1.1, hI2, congrArg Int32.toInt zw_eq, fun _ => ?_⟩
        have k : H.2.1 22 11 = H.2.1 72 11 := q2 (11, 11) (by decide)
        show (zw_J H 104 0 _).2.2.1 104 0 = (H.2.1 72 11).toInt64
        rw [← k]
        exact zp_u_self H.2.2.1 104 0 _
      · have e1 := zp_Call_u c1 (yl_ct3_11 (L := L) (σ := σ) (d := 0) hI.1.1.1)
        cases e1
        have e2 := zp_Call_u c2 (yr_ct11 (L := L) (σ := σ) (d := 0) W1)
        cases e2
        refine ⟨_, _, _, _, c1, c2, hI1.1.1.1.1, hI2, congrArg Int32.toInt zw_eq, fun _ => ?_⟩
        have k : H.2.1 33 7 = H.2.1 72 62 := Int32.toInt_inj.mp (a2.2.1.trans a3.2.1.symm)
        show (zw_J H 104 0 _).2.2.1 104 0 = (H.2.1 72 62).toInt64
        rw [← k]
        exact zp_u_self H.2.2.1 104 0 _
      · have e1 := zp_Call_u c1 (yl_ct3_12 (L := L) (σ := σ) (d := 0) hI.1.1.1)
        cases e1
        have e2 := zp_Call_u c2 (yr_ct12 (L := L) (σ := σ) (d := 0) W1)
        cases e2
        refine ⟨_, _, _, _, c1, c2, hI1.1.1.1.1, hI2, congrArg Int32.toInt zw_eq, fun _ => ?_⟩
        have k : H.2.1 0 1 = H.2.1 72 22 := Int32.toInt_inj.mp (t0.trans t1.symm)
        show (zw_J H 104 0 _).2.2.1 104 0 = (H.2.1 72 22).toInt64
        rw [← k]
        exact zp_u_self H.2.2.1 104 0 _
      · have e1 := zp_Call_u c1 (yl_ct3_13 (L := L) (σ := σ) (d := 0) hI.1.1.1)
        cases e1
        have e2 := zp_Call_u c2 (yr_ct13 (L := L) (σ := σ) (d := 0) W1)
        cases e2
        refine ⟨_, _, _, _, c1, c2, hI1.1.1.1.1, hI2, congrArg Int32.toInt zw_eq, fun _ => ?_⟩
        have k : H.2.1 0 3 = H.2.1 82 0 := g3
        show (zw_J H 104 0 _).2.2.1 104 0 = (H.2.1 82 0).toInt64
        rw [← k]
        exact zp_u_self H.2.2.1 104 0 _
      · have e1 := zp_Call_u c1 (yl_ct3_14 (L := L) (σ := σ) (d := 0) hI.1.1.1)
        cases e1
        have e2 := zp_Call_u c2 (yr_ct14 (L := L) (σ := σ) (d := 0) W1)
        cases e2
        refine ⟨_, _, _, _, c1, c2, hI1.1.1.1.1, hI2, congrArg Int32.toInt zw_eq, fun _ => ?_⟩
        have k : H.2.1 0 4 = H.2.1 82 1 := g4
        show (zw_J H 104 0 _).2.2.1 104 0 = (H.2.1 82 1).toInt64
        rw [← k]
        exact zp_u_self H.2.2.1 104 0 _
    · have e1 := zp_Call_u c1 (yl_ctn3 (L := L) (σ := σ) (d := 0) hI.1.1.1 h)
      cases e1
      have e2 := zp_Call_u c2 (yr_ctn (L := L) (σ := σ) (d := 0) W1 h)
      cases e2
      exact ⟨_, _, _, _, c1, c2, hI1.1.1.1.1, hI2, congrArg Int32.toInt zw_eq, fun h9 => absurd h9 (by decide)⟩
