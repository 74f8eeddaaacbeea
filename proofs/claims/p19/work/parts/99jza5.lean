/-! ===== studied, where the same row is kept ===== -/
def zm_150 : za_MI := (yL_studied, method_16_code, 4, (some FieldType.int), 13, 1, 6, [(0, 9, 12, 18)], za_i150)
theorem zm_150_t : za_MT 150 = some zm_150 := rfl
def zm_151 : za_MI := (yX11_studied, prog_1_method_21_code, 2, (some FieldType.int), 11, 1, 6, [], za_i151)
theorem zm_151_t : za_MT 151 = some zm_151 := rfl
def zm_242 : za_MI := (yX12_studied, prog_14_method_78_code, 2, (some FieldType.int), 12, 0, 0, [], za_i242)
set_option maxRecDepth 8000 in
theorem zm_242_t : za_MT 242 = some zm_242 := rfl
theorem yc_std1_0 {L : Nat} {σ : Nat → Int32} {d : Nat} {H : zp_H} {x1 : Int32} (hB : zk_Bs (zB_c 0) zg zJc H) (h : (0 ≤ x1.toInt ∧ x1.toInt < (H.2.1 60 11).toInt)) : zp_Call L σ (d + 1) 151 [.inr (.inr (some 1)), .inl x1] H (.inl (some (.inl (H.2.1 69 x1.toInt.toNat))), H) := by
  have W := zB_Wd (zB_dn (zB_Bc hB))
  have g5 : H.2.2.2 0 5 = some 3 := hB.2.1 0 5 _ rfl
  have g6 : H.2.2.2 0 6 = some 14 := hB.2.1 0 6 _ rfl
  have g7 : H.2.2.2 0 7 = some 23 := hB.2.1 0 7 _ rfl
  have g8 : H.2.2.2 0 8 = some 34 := hB.2.1 0 8 _ rfl
  have r60_11 := zB_fr1 (zB_dn (zB_Bc hB)) (p := 60) (k := 11) (r := (0, 8)) rfl
  have r60_11 : 0 ≤ (H.2.1 60 11).toInt ∧ (H.2.1 60 11).toInt ≤ 8 := r60_11
  refine zw_ex (zw_met zm_151_t rfl rfl ?_)
  refine zw_ld (n := 1) (k := 1) (f := zp_isI) (pc' := 1) rfl rfl rfl rfl rfl ?_
  refine zw_blt1 (g := 15) (pc' := 4) rfl rfl rfl rfl (fun h1 => ?_) (fun h1 => ?_)
  · omega
  · refine zw_ld (n := 1) (k := 1) (f := zp_isI) (pc' := 5) rfl rfl rfl rfl rfl ?_
    refine zw_ld (n := 1) (k := 0) (f := zp_isR) (pc' := 6) rfl rfl rfl rfl rfl ?_
    refine zw_gR (q := 0) (pc' := 9) W rfl rfl rfl rfl (W.2 0 15 _ rfl) rfl ?_
    refine zw_gI (q := 60) (pc' := 12) W rfl rfl rfl rfl rfl rfl ?_
    refine zw_blt2 (g := 26) (pc' := 15) rfl rfl rfl rfl rfl (fun h2 => ?_) (fun h2 => ?_)
    · refine zw_ld (n := 1) (k := 0) (f := zp_isR) (pc' := 27) rfl rfl rfl rfl rfl ?_
      refine zw_gR (q := 0) (pc' := 30) W rfl rfl rfl rfl (W.2 0 15 _ rfl) rfl ?_
      refine zw_gR (q := 60) (pc' := 33) W rfl rfl rfl rfl (W.2 60 10 _ rfl) rfl ?_
      refine zw_ld (n := 1) (k := 1) (f := zp_isI) (pc' := 34) rfl rfl rfl rfl rfl ?_
      refine zw_ia (q := 69) (pc' := 35) W rfl rfl (by decide) (⟨h.1, by show _ < ((8 : Nat) : Int); omega⟩) rfl rfl ?_
      refine zw_ri rfl rfl ?_
      rfl
    · omega

theorem yc_std0_0 {L : Nat} {σ : Nat → Int32} {d : Nat} {H : zp_H} {x1 : Int32} (hB : zk_Bs (zB_c 0) zg zJc H) (h : ¬ (0 ≤ x1.toInt ∧ x1.toInt < (H.2.1 60 11).toInt)) : zp_Call L σ (d + 1) 151 [.inr (.inr (some 1)), .inl x1] H (.inr 0, H) := by
  have W := zB_Wd (zB_dn (zB_Bc hB))
  have g5 : H.2.2.2 0 5 = some 3 := hB.2.1 0 5 _ rfl
  have g6 : H.2.2.2 0 6 = some 14 := hB.2.1 0 6 _ rfl
  have g7 : H.2.2.2 0 7 = some 23 := hB.2.1 0 7 _ rfl
  have g8 : H.2.2.2 0 8 = some 34 := hB.2.1 0 8 _ rfl
  have r60_11 := zB_fr1 (zB_dn (zB_Bc hB)) (p := 60) (k := 11) (r := (0, 8)) rfl
  have r60_11 : 0 ≤ (H.2.1 60 11).toInt ∧ (H.2.1 60 11).toInt ≤ 8 := r60_11
  refine zw_ex (zw_met zm_151_t rfl rfl ?_)
  refine zw_ld (n := 1) (k := 1) (f := zp_isI) (pc' := 1) rfl rfl rfl rfl rfl ?_
  refine zw_blt1 (g := 15) (pc' := 4) rfl rfl rfl rfl (fun h1 => ?_) (fun h1 => ?_)
  · exact zs_end (S := (15, _, [], H, (0, 0))) (X := (.inr 0, H)) rfl rfl rfl
  · refine zw_ld (n := 1) (k := 1) (f := zp_isI) (pc' := 5) rfl rfl rfl rfl rfl ?_
    refine zw_ld (n := 1) (k := 0) (f := zp_isR) (pc' := 6) rfl rfl rfl rfl rfl ?_
    refine zw_gR (q := 0) (pc' := 9) W rfl rfl rfl rfl (W.2 0 15 _ rfl) rfl ?_
    refine zw_gI (q := 60) (pc' := 12) W rfl rfl rfl rfl rfl rfl ?_
    refine zw_blt2 (g := 26) (pc' := 15) rfl rfl rfl rfl rfl (fun h2 => ?_) (fun h2 => ?_)
    · omega
    · exact zs_end (S := (15, _, [], H, (0, 0))) (X := (.inr 0, H)) rfl rfl rfl

theorem yl_std0 {L : Nat} {σ : Nat → Int32} {d : Nat} {H : zp_H} {x1 : Int32} (hB : zk_Bs (zB_c 0) zg zJc H) (h : 0 ≤ x1.toInt ∧ x1.toInt < (H.2.1 60 11).toInt) : zp_Call L σ (d + 2) 150 [.inr (.inr (some 1)), .inl x1, .inr (.inr (some 105))] H (.inl (some (.inl (Int32.ofInt 0))), zw_J H 104 0 (H.2.1 69 x1.toInt.toNat).toInt64) := by
  have W := zB_Wd (zB_dn (zB_Bc hB))
  refine zw_ex (zw_met zm_150_t rfl rfl ?_)
  refine zw_ld (n := 1) (k := 2) (f := zp_isR) (pc' := 1) rfl rfl rfl rfl rfl ?_
  refine zw_s (pc' := 2) rfl rfl ?_
  refine zw_ld (n := 1) (k := 0) (f := zp_isR) (pc' := 3) rfl rfl rfl rfl rfl ?_
  refine zw_ld (n := 1) (k := 1) (f := zp_isI) (pc' := 4) rfl rfl rfl rfl rfl ?_
  refine zw_ct (pc' := 7) (c' := (1, 6)) (zw_cv (q := 0) (Y := zm_151) W.1 rfl rfl zm_151_t rfl rfl) (zw_pb_ok rfl) rfl rfl rfl rfl (yc_std1_0 hB h) ?_
  refine zw_s (pc' := 8) rfl rfl ?_
  refine zw_ls (q := 104) (pc' := 9) W rfl rfl (⟨by decide, by decide⟩) rfl ?_
  refine zw_s (pc' := 15) rfl rfl ?_
  refine zw_s (pc' := 16) rfl rfl ?_
  refine zw_rig rfl rfl ⟨by decide, by decide⟩ ?_
  rfl

theorem yl_stdn0 {L : Nat} {σ : Nat → Int32} {d : Nat} {H : zp_H} {x1 : Int32} (hB : zk_Bs (zB_c 0) zg zJc H) (h : ¬ (0 ≤ x1.toInt ∧ x1.toInt < (H.2.1 60 11).toInt)) : zp_Call L σ (d + 2) 150 [.inr (.inr (some 1)), .inl x1, .inr (.inr (some 105))] H (.inl (some (.inl (Int32.ofInt 1))), H) := by
  have W := zB_Wd (zB_dn (zB_Bc hB))
  refine zw_ex (zw_met zm_150_t rfl rfl ?_)
  refine zw_ld (n := 1) (k := 2) (f := zp_isR) (pc' := 1) rfl rfl rfl rfl rfl ?_
  refine zw_s (pc' := 2) rfl rfl ?_
  refine zw_ld (n := 1) (k := 0) (f := zp_isR) (pc' := 3) rfl rfl rfl rfl rfl ?_
  refine zw_ld (n := 1) (k := 1) (f := zp_isI) (pc' := 4) rfl rfl rfl rfl rfl ?_
  refine zw_cex (ex := 0) (hp9 := 12) (pc' := 13) (c' := (1, 6)) (zw_cv (q := 0) (Y := zm_151) W.1 rfl rfl zm_151_t rfl rfl) (zw_pb_ok rfl) rfl rfl rfl rfl rfl rfl rfl (yc_std0_0 hB h) ?_
  refine zw_s (pc' := 14) rfl rfl ?_
  refine zw_rig rfl rfl ⟨by decide, by decide⟩ ?_
  rfl

theorem yc_std1_3 {L : Nat} {σ : Nat → Int32} {d : Nat} {H : zp_H} {x1 : Int32} (hB : zk_Bs (zB_c 3) zg zJc H) (h : (0 ≤ x1.toInt ∧ x1.toInt < (H.2.1 60 11).toInt)) : zp_Call L σ (d + 1) 151 [.inr (.inr (some 1)), .inl x1] H (.inl (some (.inl (H.2.1 69 x1.toInt.toNat))), H) := by
  have W := zB_Wd (zB_dn (zB_Bc hB))
  have g5 : H.2.2.2 0 5 = some 23 := hB.2.1 0 5 _ rfl
  have g6 : H.2.2.2 0 6 = some 34 := hB.2.1 0 6 _ rfl
  have g7 : H.2.2.2 0 7 = some 3 := hB.2.1 0 7 _ rfl
  have g8 : H.2.2.2 0 8 = some 14 := hB.2.1 0 8 _ rfl
  have r60_11 := zB_fr1 (zB_dn (zB_Bc hB)) (p := 60) (k := 11) (r := (0, 8)) rfl
  have r60_11 : 0 ≤ (H.2.1 60 11).toInt ∧ (H.2.1 60 11).toInt ≤ 8 := r60_11
  refine zw_ex (zw_met zm_151_t rfl rfl ?_)
  refine zw_ld (n := 1) (k := 1) (f := zp_isI) (pc' := 1) rfl rfl rfl rfl rfl ?_
  refine zw_blt1 (g := 15) (pc' := 4) rfl rfl rfl rfl (fun h1 => ?_) (fun h1 => ?_)
  · omega
  · refine zw_ld (n := 1) (k := 1) (f := zp_isI) (pc' := 5) rfl rfl rfl rfl rfl ?_
    refine zw_ld (n := 1) (k := 0) (f := zp_isR) (pc' := 6) rfl rfl rfl rfl rfl ?_
    refine zw_gR (q := 0) (pc' := 9) W rfl rfl rfl rfl (W.2 0 15 _ rfl) rfl ?_
    refine zw_gI (q := 60) (pc' := 12) W rfl rfl rfl rfl rfl rfl ?_
    refine zw_blt2 (g := 26) (pc' := 15) rfl rfl rfl rfl rfl (fun h2 => ?_) (fun h2 => ?_)
    · refine zw_ld (n := 1) (k := 0) (f := zp_isR) (pc' := 27) rfl rfl rfl rfl rfl ?_
      refine zw_gR (q := 0) (pc' := 30) W rfl rfl rfl rfl (W.2 0 15 _ rfl) rfl ?_
      refine zw_gR (q := 60) (pc' := 33) W rfl rfl rfl rfl (W.2 60 10 _ rfl) rfl ?_
      refine zw_ld (n := 1) (k := 1) (f := zp_isI) (pc' := 34) rfl rfl rfl rfl rfl ?_
      refine zw_ia (q := 69) (pc' := 35) W rfl rfl (by decide) (⟨h.1, by show _ < ((8 : Nat) : Int); omega⟩) rfl rfl ?_
      refine zw_ri rfl rfl ?_
      rfl
    · omega

theorem yc_std0_3 {L : Nat} {σ : Nat → Int32} {d : Nat} {H : zp_H} {x1 : Int32} (hB : zk_Bs (zB_c 3) zg zJc H) (h : ¬ (0 ≤ x1.toInt ∧ x1.toInt < (H.2.1 60 11).toInt)) : zp_Call L σ (d + 1) 151 [.inr (.inr (some 1)), .inl x1] H (.inr 0, H) := by
  have W := zB_Wd (zB_dn (zB_Bc hB))
  have g5 : H.2.2.2 0 5 = some 23 := hB.2.1 0 5 _ rfl
  have g6 : H.2.2.2 0 6 = some 34 := hB.2.1 0 6 _ rfl
  have g7 : H.2.2.2 0 7 = some 3 := hB.2.1 0 7 _ rfl
  have g8 : H.2.2.2 0 8 = some 14 := hB.2.1 0 8 _ rfl
  have r60_11 := zB_fr1 (zB_dn (zB_Bc hB)) (p := 60) (k := 11) (r := (0, 8)) rfl
  have r60_11 : 0 ≤ (H.2.1 60 11).toInt ∧ (H.2.1 60 11).toInt ≤ 8 := r60_11
  refine zw_ex (zw_met zm_151_t rfl rfl ?_)
  refine zw_ld (n := 1) (k := 1) (f := zp_isI) (pc' := 1) rfl rfl rfl rfl rfl ?_
  refine zw_blt1 (g := 15) (pc' := 4) rfl rfl rfl rfl (fun h1 => ?_) (fun h1 => ?_)
  · exact zs_end (S := (15, _, [], H, (0, 0))) (X := (.inr 0, H)) rfl rfl rfl
  · refine zw_ld (n := 1) (k := 1) (f := zp_isI) (pc' := 5) rfl rfl rfl rfl rfl ?_
    refine zw_ld (n := 1) (k := 0) (f := zp_isR) (pc' := 6) rfl rfl rfl rfl rfl ?_
    refine zw_gR (q := 0) (pc' := 9) W rfl rfl rfl rfl (W.2 0 15 _ rfl) rfl ?_
    refine zw_gI (q := 60) (pc' := 12) W rfl rfl rfl rfl rfl rfl ?_
    refine zw_blt2 (g := 26) (pc' := 15) rfl rfl rfl rfl rfl (fun h2 => ?_) (fun h2 => ?_)
    · omega
    · exact zs_end (S := (15, _, [], H, (0, 0))) (X := (.inr 0, H)) rfl rfl rfl

theorem yl_std3 {L : Nat} {σ : Nat → Int32} {d : Nat} {H : zp_H} {x1 : Int32} (hB : zk_Bs (zB_c 3) zg zJc H) (h : 0 ≤ x1.toInt ∧ x1.toInt < (H.2.1 60 11).toInt) : zp_Call L σ (d + 2) 150 [.inr (.inr (some 1)), .inl x1, .inr (.inr (some 105))] H (.inl (some (.inl (Int32.ofInt 0))), zw_J H 104 0 (H.2.1 69 x1.toInt.toNat).toInt64) := by
  have W := zB_Wd (zB_dn (zB_Bc hB))
  refine zw_ex (zw_met zm_150_t rfl rfl ?_)
  refine zw_ld (n := 1) (k := 2) (f := zp_isR) (pc' := 1) rfl rfl rfl rfl rfl ?_
  refine zw_s (pc' := 2) rfl rfl ?_
  refine zw_ld (n := 1) (k := 0) (f := zp_isR) (pc' := 3) rfl rfl rfl rfl rfl ?_
  refine zw_ld (n := 1) (k := 1) (f := zp_isI) (pc' := 4) rfl rfl rfl rfl rfl ?_
  refine zw_ct (pc' := 7) (c' := (1, 6)) (zw_cv (q := 0) (Y := zm_151) W.1 rfl rfl zm_151_t rfl rfl) (zw_pb_ok rfl) rfl rfl rfl rfl (yc_std1_3 hB h) ?_
  refine zw_s (pc' := 8) rfl rfl ?_
  refine zw_ls (q := 104) (pc' := 9) W rfl rfl (⟨by decide, by decide⟩) rfl ?_
  refine zw_s (pc' := 15) rfl rfl ?_
  refine zw_s (pc' := 16) rfl rfl ?_
  refine zw_rig rfl rfl ⟨by decide, by decide⟩ ?_
  rfl

theorem yl_stdn3 {L : Nat} {σ : Nat → Int32} {d : Nat} {H : zp_H} {x1 : Int32} (hB : zk_Bs (zB_c 3) zg zJc H) (h : ¬ (0 ≤ x1.toInt ∧ x1.toInt < (H.2.1 60 11).toInt)) : zp_Call L σ (d + 2) 150 [.inr (.inr (some 1)), .inl x1, .inr (.inr (some 105))] H (.inl (some (.inl (Int32.ofInt 1))), H) := by
  have W := zB_Wd (zB_dn (zB_Bc hB))
  refine zw_ex (zw_met zm_150_t rfl rfl ?_)
  refine zw_ld (n := 1) (k := 2) (f := zp_isR) (pc' := 1) rfl rfl rfl rfl rfl ?_
  refine zw_s (pc' := 2) rfl rfl ?_
  refine zw_ld (n := 1) (k := 0) (f := zp_isR) (pc' := 3) rfl rfl rfl rfl rfl ?_
  refine zw_ld (n := 1) (k := 1) (f := zp_isI) (pc' := 4) rfl rfl rfl rfl rfl ?_
  refine zw_cex (ex := 0) (hp9 := 12) (pc' := 13) (c' := (1, 6)) (zw_cv (q := 0) (Y := zm_151) W.1 rfl rfl zm_151_t rfl rfl) (zw_pb_ok rfl) rfl rfl rfl rfl rfl rfl rfl (yc_std0_3 hB h) ?_
  refine zw_s (pc' := 14) rfl rfl ?_
  refine zw_rig rfl rfl ⟨by decide, by decide⟩ ?_
  rfl

theorem yr_std1 {L : Nat} {σ : Nat → Int32} {d : Nat} {H : zp_H} (W : zw_W H) {x1 : Int32} (h8 : (H.2.1 72 79).toInt ≤ 8) (h : 0 ≤ x1.toInt ∧ x1.toInt < (H.2.1 72 79).toInt) : zp_Call L σ (d + 2) 242 [.inr (.inr (some 73)), .inl x1] H (.inl (some (.inl (H.2.1 100 x1.toInt.toNat))), (zw_I H 72 0 (Int32.ofInt 0))) := by
  have h0 : ((zw_I H 72 0 (Int32.ofInt 0)).2.1 72 0).toInt = 0 := congrArg Int32.toInt zw_eq
  refine zw_ex (zw_met zm_242_t rfl rfl ?_)
  refine zw_ld (n := 1) (k := 0) (f := zp_isR) (pc' := 1) rfl rfl rfl rfl rfl ?_
  refine zw_s (pc' := 2) rfl rfl ?_
  refine zw_pI (q := 72) (pc' := 5) W rfl rfl rfl rfl rfl rfl ?_
  refine zw_ld (n := 1) (k := 0) (f := zp_isR) (pc' := 6) rfl rfl rfl rfl rfl ?_
  refine zw_ld (n := 1) (k := 0) (f := zp_isR) (pc' := 7) rfl rfl rfl rfl rfl ?_
  refine zw_gI (q := 72) (pc' := 10) (zw_W_I W) rfl rfl rfl rfl (zw_ne rfl rfl) rfl ?_
  refine zw_s (pc' := 11) rfl rfl ?_
  refine zw_beq2 (g := 30) (pc' := 14) rfl rfl rfl rfl (rfl : _ = (-1 : Int)) (fun h1 => ?_) (fun h1 => ?_)
  · omega
  · refine zw_ld (n := 1) (k := 1) (f := zp_isI) (pc' := 15) rfl rfl rfl rfl rfl ?_
    refine zw_blt1 (g := 30) (pc' := 18) rfl rfl rfl rfl (fun h2 => ?_) (fun h2 => ?_)
    · omega
    · refine zw_ld (n := 1) (k := 1) (f := zp_isI) (pc' := 19) rfl rfl rfl rfl rfl ?_
      refine zw_ld (n := 1) (k := 0) (f := zp_isR) (pc' := 20) rfl rfl rfl rfl rfl ?_
      refine zw_gI (q := 72) (pc' := 23) (zw_W_I W) rfl rfl rfl rfl (zw_ne rfl rfl) rfl ?_
      refine zw_bge2 (g := 30) (pc' := 26) rfl rfl rfl rfl rfl (fun h3 => ?_) (fun h3 => ?_)
      · omega
      · refine zw_s (pc' := 27) rfl rfl ?_
        refine zw_s (pc' := 31) rfl rfl ?_
        refine zw_s (pc' := 32) rfl rfl ?_
        refine zw_c (pc' := 35) (zw_cv (q := 72) (Y := zm_170) (zw_W_I W).1 rfl rfl zm_170_t rfl rfl) rfl rfl rfl rfl rfl (zq_right1 (zw_W_I W) h0) ?_
        refine zw_beq1 (g := 47) (pc' := 38) rfl rfl rfl (rfl : _ = (1 : Int)) (fun h9 => absurd h9 (by decide)) (fun h7 => ?_)
        refine zw_ld (n := 1) (k := 0) (f := zp_isR) (pc' := 39) rfl rfl rfl rfl rfl ?_
        refine zw_gR (q := 72) (pc' := 42) (zw_W_I W) rfl rfl rfl rfl ((zw_W_I W).2 72 78 _ rfl) rfl ?_
        refine zw_ld (n := 1) (k := 1) (f := zp_isI) (pc' := 43) rfl rfl rfl rfl rfl ?_
        refine zw_ia (q := 100) (pc' := 44) (zw_W_I W) rfl rfl (by decide) (⟨h.1, by show _ < ((8 : Nat) : Int); omega⟩) (zw_ne rfl rfl) rfl ?_
        refine zw_s (pc' := 48) rfl rfl ?_
        refine zw_ri rfl rfl ?_
        rfl

theorem yr_std0 {L : Nat} {σ : Nat → Int32} {d : Nat} {H : zp_H} (W : zw_W H) {x1 : Int32} (h : ¬ (0 ≤ x1.toInt ∧ x1.toInt < (H.2.1 72 79).toInt)) : zp_Call L σ (d + 2) 242 [.inr (.inr (some 73)), .inl x1] H (.inl (some (.inl (Int32.ofInt 0))), zw_I (zw_I H 72 0 (Int32.ofInt 0)) 72 0 (Int32.ofInt 1)) := by
  have h0 : ((zw_I H 72 0 (Int32.ofInt 0)).2.1 72 0).toInt = 0 := congrArg Int32.toInt zw_eq
  refine zw_ex (zw_met zm_242_t rfl rfl ?_)
  refine zw_ld (n := 1) (k := 0) (f := zp_isR) (pc' := 1) rfl rfl rfl rfl rfl ?_
  refine zw_s (pc' := 2) rfl rfl ?_
  refine zw_pI (q := 72) (pc' := 5) W rfl rfl rfl rfl rfl rfl ?_
  refine zw_ld (n := 1) (k := 0) (f := zp_isR) (pc' := 6) rfl rfl rfl rfl rfl ?_
  refine zw_ld (n := 1) (k := 0) (f := zp_isR) (pc' := 7) rfl rfl rfl rfl rfl ?_
  refine zw_gI (q := 72) (pc' := 10) (zw_W_I W) rfl rfl rfl rfl (zw_ne rfl rfl) rfl ?_
  refine zw_s (pc' := 11) rfl rfl ?_
  refine zw_beq2 (g := 30) (pc' := 14) rfl rfl rfl rfl (rfl : _ = (-1 : Int)) (fun h1 => ?_) (fun h1 => ?_)
  · refine zw_s (pc' := 31) rfl rfl ?_
    refine zw_s (pc' := 32) rfl rfl ?_
    refine zw_c (pc' := 35) (zw_cv (q := 72) (Y := zm_170) (zw_W_I W).1 rfl rfl zm_170_t rfl rfl) rfl rfl rfl rfl rfl (zq_right0 (zw_W_I W) h0 (by decide)) ?_
    refine zw_beq1 (g := 47) (pc' := 38) rfl rfl rfl (rfl : _ = (0 : Int)) (fun h7 => ?_) (fun h9 => absurd h9 (by decide))
    refine zw_s (pc' := 48) rfl rfl ?_
    refine zw_ri rfl rfl ?_
    rfl
  · refine zw_ld (n := 1) (k := 1) (f := zp_isI) (pc' := 15) rfl rfl rfl rfl rfl ?_
    refine zw_blt1 (g := 30) (pc' := 18) rfl rfl rfl rfl (fun h2 => ?_) (fun h2 => ?_)
    · refine zw_s (pc' := 31) rfl rfl ?_
      refine zw_s (pc' := 32) rfl rfl ?_
      refine zw_c (pc' := 35) (zw_cv (q := 72) (Y := zm_170) (zw_W_I W).1 rfl rfl zm_170_t rfl rfl) rfl rfl rfl rfl rfl (zq_right0 (zw_W_I W) h0 (by decide)) ?_
      refine zw_beq1 (g := 47) (pc' := 38) rfl rfl rfl (rfl : _ = (0 : Int)) (fun h7 => ?_) (fun h9 => absurd h9 (by decide))
      refine zw_s (pc' := 48) rfl rfl ?_
      refine zw_ri rfl rfl ?_
      rfl
    · refine zw_ld (n := 1) (k := 1) (f := zp_isI) (pc' := 19) rfl rfl rfl rfl rfl ?_
      refine zw_ld (n := 1) (k := 0) (f := zp_isR) (pc' := 20) rfl rfl rfl rfl rfl ?_
      refine zw_gI (q := 72) (pc' := 23) (zw_W_I W) rfl rfl rfl rfl (zw_ne rfl rfl) rfl ?_
      refine zw_bge2 (g := 30) (pc' := 26) rfl rfl rfl rfl rfl (fun h3 => ?_) (fun h3 => ?_)
      · refine zw_s (pc' := 31) rfl rfl ?_
        refine zw_s (pc' := 32) rfl rfl ?_
        refine zw_c (pc' := 35) (zw_cv (q := 72) (Y := zm_170) (zw_W_I W).1 rfl rfl zm_170_t rfl rfl) rfl rfl rfl rfl rfl (zq_right0 (zw_W_I W) h0 (by decide)) ?_
        refine zw_beq1 (g := 47) (pc' := 38) rfl rfl rfl (rfl : _ = (0 : Int)) (fun h7 => ?_) (fun h9 => absurd h9 (by decide))
        refine zw_s (pc' := 48) rfl rfl ?_
        refine zw_ri rfl rfl ?_
        rfl
      · omega

theorem yb_studied {L : Nat} {σ : Nat → Int32} {d c t : Nat} {H : zp_H} {x1 : Int32} (hI : yJ c t H) (hF : yFd H) : ∃ H1 H2 v w, zp_Call L σ (d + 60) 150 [.inr (.inr (some 1)), .inl x1, .inr (.inr (some 105))] H (.inl (some (.inl v)), H1) ∧ zp_Call L σ (d + 60) 242 [.inr (.inr (some 73)), .inl x1] H1 (.inl (some (.inl w)), H2) ∧ H1.1 = zB_sh ∧ yJ c t H2 ∧ (H2.2.1 72 0).toInt = v.toInt ∧ (v.toInt = 0 → H2.2.2.1 104 0 = w.toInt64) ∧ yFd H2 := by
  obtain ⟨H1, v, c1, hI1⟩ := yp_studied (L := L) (σ := σ) (d := d) (x1 := x1) hI
  obtain ⟨H2, w, c2, hI2⟩ := yq_studied (L := L) (σ := σ) (d := d) (x1 := x1) hI1
  have W1 := zB_Wd (zB_dn (zB_Bc hI1.1.1.1))
  have h0 := hI.1.2.2.1
  have r11 := zB_fr1 (zB_dn (zB_Bc hI.1.1.1)) (p := 60) (k := 11) (r := (0, 8)) rfl
  have r11 : 0 ≤ (H.2.1 60 11).toInt ∧ (H.2.1 60 11).toInt ≤ 8 := r11
  obtain ⟨f1, f2⟩ := id hF
  rcases h0 with rfl | rfl
  · by_cases h : 0 ≤ x1.toInt ∧ x1.toInt < (H.2.1 60 11).toInt
    · have e1 := zp_Call_u c1 (yl_std0 (L := L) (σ := σ) (d := d + 58) hI.1.1.1 h)
      cases e1
      have hr : 0 ≤ x1.toInt ∧ x1.toInt < (H.2.1 72 79).toInt := ⟨h.1, by omega⟩
      have e2 := zp_Call_u c2 (yr_std1 (L := L) (σ := σ) (d := d + 58) W1 (show (H.2.1 72 79).toInt ≤ 8 by omega) hr)
      cases e2
      refine ⟨_, _, _, _, c1, c2, hI1.1.1.1.1, hI2, (congrArg Int32.toInt zw_eq).trans (by decide), fun _ => ?_, yFd_k (zw_ne rfl rfl) (zw_ne rfl rfl) (fun k => zw_ne rfl rfl) (fun k => zw_ne rfl rfl) hF⟩
      rw [show (zw_J H 104 0 (H.2.1 69 x1.toInt.toNat).toInt64).2.1 100 x1.toInt.toNat = H.2.1 69 x1.toInt.toNat from (f2 _ (by omega)).symm]
      exact zp_u_self H.2.2.1 104 0 _
    · have e1 := zp_Call_u c1 (yl_stdn0 (L := L) (σ := σ) (d := d + 58) hI.1.1.1 h)
      cases e1
      have hr : ¬ (0 ≤ x1.toInt ∧ x1.toInt < (H.2.1 72 79).toInt) := fun h9 => h ⟨h9.1, by have := h9.2; omega⟩
      have e2 := zp_Call_u c2 (yr_std0 (L := L) (σ := σ) (d := d + 58) W1 hr)
      cases e2
      exact ⟨_, _, _, _, c1, c2, hI1.1.1.1.1, hI2, congrArg Int32.toInt zw_eq, fun h9 => absurd h9 (by decide), yFd_k ((zw_ne rfl rfl : _ = _).trans (zw_ne rfl rfl)) ((zw_ne rfl rfl : _ = _).trans (zw_ne rfl rfl)) (fun k => (zw_ne rfl rfl : _ = _).trans (zw_ne rfl rfl)) (fun k => (zw_ne rfl rfl : _ = _).trans (zw_ne rfl rfl)) hF⟩
  · by_cases h : 0 ≤ x1.toInt ∧ x1.toInt < (H.2.1 60 11).toInt
    · have e1 := zp_Call_u c1 (yl_std3 (L := L) (σ := σ) (d := d + 58) hI.1.1.1 h)
      cases e1
      have hr : 0 ≤ x1.toInt ∧ x1.toInt < (H.2.1 72 79).toInt := ⟨h.1, by omega⟩
      have e2 := zp_Call_u c2 (yr_std1 (L := L) (σ := σ) (d := d + 58) W1 (show (H.2.1 72 79).toInt ≤ 8 by omega) hr)
      cases e2
      refine ⟨_, _, _, _, c1, c2, hI1.1.1.1.1, hI2, (congrArg Int32.toInt zw_eq).trans (by decide), fun _ => ?_, yFd_k (zw_ne rfl rfl) (zw_ne rfl rfl) (fun k => zw_ne rfl rfl) (fun k => zw_ne rfl rfl) hF⟩
      rw [show (zw_J H 104 0 (H.2.1 69 x1.toInt.toNat).toInt64).2.1 100 x1.toInt.toNat = H.2.1 69 x1.toInt.toNat from (f2 _ (by omega)).symm]
      exact zp_u_self H.2.2.1 104 0 _
    · have e1 := zp_Call_u c1 (yl_stdn3 (L := L) (σ := σ) (d := d + 58) hI.1.1.1 h)
      cases e1
      have hr : ¬ (0 ≤ x1.toInt ∧ x1.toInt < (H.2.1 72 79).toInt) := fun h9 => h ⟨h9.1, by have := h9.2; omega⟩
      have e2 := zp_Call_u c2 (yr_std0 (L := L) (σ := σ) (d := d + 58) W1 hr)
      cases e2
      exact ⟨_, _, _, _, c1, c2, hI1.1.1.1.1, hI2, congrArg Int32.toInt zw_eq, fun h9 => absurd h9 (by decide), yFd_k ((zw_ne rfl rfl : _ = _).trans (zw_ne rfl rfl)) ((zw_ne rfl rfl : _ = _).trans (zw_ne rfl rfl)) (fun k => (zw_ne rfl rfl : _ = _).trans (zw_ne rfl rfl)) (fun k => (zw_ne rfl rfl : _ = _).trans (zw_ne rfl rfl)) hF⟩
