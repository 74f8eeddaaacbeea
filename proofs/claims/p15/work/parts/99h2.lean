/-! ===== pilot ===== -/
def zm_132 : za_MI := (yL_pilot, method_13_code, 5, (some FieldType.int), 13, 2, 12, [(0, 10, 13, 18)], za_i132)
theorem zm_132_t : za_MT 132 = some zm_132 := rfl
def zm_133 : za_MI := (yX11_pilot, prog_1_method_17_code, 3, (some FieldType.int), 11, 2, 12, [], za_i133)
theorem zm_133_t : za_MT 133 = some zm_133 := rfl
def zm_134 : za_MI := (yX11_needPilot, prog_1_method_29_code, 2, none, 11, 1, 6, [], za_i134)
theorem zm_134_t : za_MT 134 = some zm_134 := rfl
def zm_227 : za_MI := (yX12_pilot, prog_14_method_65_code, 3, (some FieldType.int), 12, 0, 0, [], za_i227)
theorem zm_227_t : za_MT 227 = some zm_227 := rfl
def zm_228 : za_MI := (yX12_isPilot, prog_14_method_46_code, 2, (some FieldType.boolean), 12, 0, 0, [], za_i228)
theorem zm_228_t : za_MT 228 = some zm_228 := rfl
theorem y012 {x : Int32} (h : 0 ≤ x.toInt ∧ x.toInt ≤ (Int32.ofInt 2).toInt) : x = Int32.ofInt 0 ∨ x = Int32.ofInt 1 ∨ x = Int32.ofInt 2 := by
  have h2 : x.toInt ≤ 2 := h.2
  rcases (show x.toInt = 0 ∨ x.toInt = 1 ∨ x.toInt = 2 by omega) with h9 | h9 | h9
  · exact Or.inl (Int32.toInt_inj.mp h9)
  · exact Or.inr (Or.inl (Int32.toInt_inj.mp h9))
  · exact Or.inr (Or.inr (Int32.toInt_inj.mp h9))

theorem yc_np1_0 {L : Nat} {σ : Nat → Int32} {d : Nat} {H : zp_H} {x : Int32} (hB : zk_Bs (zB_c 0) zg zJc H) (h : (0 ≤ x.toInt ∧ x.toInt < (H.2.1 2 12).toInt)) : zp_Call L σ (d + 1) 134 [.inr (.inr (some 1)), .inl x] H (.inl none, H) := by
  have W := zB_Wd (zB_dn (zB_Bc hB))
  have g5 : H.2.2.2 0 5 = some 3 := hB.2.1 0 5 _ rfl
  have g6 : H.2.2.2 0 6 = some 14 := hB.2.1 0 6 _ rfl
  have g7 : H.2.2.2 0 7 = some 23 := hB.2.1 0 7 _ rfl
  have g8 : H.2.2.2 0 8 = some 34 := hB.2.1 0 8 _ rfl
  refine zw_ex (zw_met zm_134_t rfl rfl ?_)
  refine zw_ld (n := 1) (k := 1) (f := zp_isI) (pc' := 1) rfl rfl rfl rfl rfl ?_
  refine zw_blt1 (g := 15) (pc' := 4) rfl rfl rfl rfl (fun h1 => ?_) (fun h1 => ?_)
  · omega
  · refine zw_ld (n := 1) (k := 1) (f := zp_isI) (pc' := 5) rfl rfl rfl rfl rfl ?_
    refine zw_ld (n := 1) (k := 0) (f := zp_isR) (pc' := 6) rfl rfl rfl rfl rfl ?_
    refine zw_gR (q := 0) (pc' := 9) W rfl rfl rfl rfl g5 rfl ?_
    refine zw_gI (q := 2) (pc' := 12) W rfl rfl rfl rfl rfl rfl ?_
    refine zw_blt2 (g := 26) (pc' := 15) rfl rfl rfl rfl rfl (fun h2 => ?_) (fun h2 => ?_)
    · refine zw_rn rfl rfl ?_
      rfl
    · omega

theorem yc_np0_0 {L : Nat} {σ : Nat → Int32} {d : Nat} {H : zp_H} {x : Int32} (hB : zk_Bs (zB_c 0) zg zJc H) (h : ¬ (0 ≤ x.toInt ∧ x.toInt < (H.2.1 2 12).toInt)) : zp_Call L σ (d + 1) 134 [.inr (.inr (some 1)), .inl x] H (.inr 0, H) := by
  have W := zB_Wd (zB_dn (zB_Bc hB))
  have g5 : H.2.2.2 0 5 = some 3 := hB.2.1 0 5 _ rfl
  have g6 : H.2.2.2 0 6 = some 14 := hB.2.1 0 6 _ rfl
  have g7 : H.2.2.2 0 7 = some 23 := hB.2.1 0 7 _ rfl
  have g8 : H.2.2.2 0 8 = some 34 := hB.2.1 0 8 _ rfl
  refine zw_ex (zw_met zm_134_t rfl rfl ?_)
  refine zw_ld (n := 1) (k := 1) (f := zp_isI) (pc' := 1) rfl rfl rfl rfl rfl ?_
  refine zw_blt1 (g := 15) (pc' := 4) rfl rfl rfl rfl (fun h1 => ?_) (fun h1 => ?_)
  · exact zs_end (S := (15, _, [], H, (0, 0))) (X := (.inr 0, H)) rfl rfl rfl
  · refine zw_ld (n := 1) (k := 1) (f := zp_isI) (pc' := 5) rfl rfl rfl rfl rfl ?_
    refine zw_ld (n := 1) (k := 0) (f := zp_isR) (pc' := 6) rfl rfl rfl rfl rfl ?_
    refine zw_gR (q := 0) (pc' := 9) W rfl rfl rfl rfl g5 rfl ?_
    refine zw_gI (q := 2) (pc' := 12) W rfl rfl rfl rfl rfl rfl ?_
    refine zw_blt2 (g := 26) (pc' := 15) rfl rfl rfl rfl rfl (fun h2 => ?_) (fun h2 => ?_)
    · omega
    · exact zs_end (S := (15, _, [], H, (0, 0))) (X := (.inr 0, H)) rfl rfl rfl

theorem yc_pil0_0 {L : Nat} {σ : Nat → Int32} {d : Nat} {H : zp_H} {x1 : Int32} (hB : zk_Bs (zB_c 0) zg zJc H) (hp : 0 ≤ x1.toInt ∧ x1.toInt < (H.2.1 2 12).toInt) : zp_Call L σ (d + 2) 133 [.inr (.inr (some 1)), .inl x1, .inl (Int32.ofInt 0)] H (.inl (some (.inl (H.2.1 7 x1.toInt.toNat))), H) := by
  have W := zB_Wd (zB_dn (zB_Bc hB))
  have g5 : H.2.2.2 0 5 = some 3 := hB.2.1 0 5 _ rfl
  have g6 : H.2.2.2 0 6 = some 14 := hB.2.1 0 6 _ rfl
  have g7 : H.2.2.2 0 7 = some 23 := hB.2.1 0 7 _ rfl
  have g8 : H.2.2.2 0 8 = some 34 := hB.2.1 0 8 _ rfl
  have r2_12 := zB_fr1 (zB_dn (zB_Bc hB)) (p := 2) (k := 12) (r := (0, 4)) rfl
  have r2_12 : 0 ≤ (H.2.1 2 12).toInt ∧ (H.2.1 2 12).toInt ≤ 4 := r2_12
  refine zw_ex (zw_met zm_133_t rfl rfl ?_)
  refine zw_ld (n := 1) (k := 0) (f := zp_isR) (pc' := 1) rfl rfl rfl rfl rfl ?_
  refine zw_ld (n := 1) (k := 1) (f := zp_isI) (pc' := 2) rfl rfl rfl rfl rfl ?_
  refine zw_ctn (pc' := 5) (c' := (1, 6)) (zw_cv (q := 0) (Y := zm_134) W.1 rfl rfl zm_134_t rfl rfl) (zw_pb_ok rfl) rfl rfl rfl rfl (yc_np1_0 hB hp) ?_
  refine zw_ld (n := 1) (k := 2) (f := zp_isI) (pc' := 6) rfl rfl rfl rfl rfl ?_
  refine zw_s (pc' := 7) rfl rfl ?_
  refine zw_ctn (pc' := 10) (c' := (2, 12)) (zw_cs (Y := zm_104) rfl rfl zm_104_t) (zw_pb_ok rfl) rfl rfl rfl rfl (yc_nw1 ⟨by decide, by decide⟩) ?_
  refine zw_ld (n := 1) (k := 2) (f := zp_isI) (pc' := 11) rfl rfl rfl rfl rfl ?_
  refine zw_s (pc' := 36) rfl rfl ?_
  refine zw_ld (n := 1) (k := 0) (f := zp_isR) (pc' := 37) rfl rfl rfl rfl rfl ?_
  refine zw_gR (q := 0) (pc' := 40) W rfl rfl rfl rfl g5 rfl ?_
  refine zw_gR (q := 2) (pc' := 43) W rfl rfl rfl rfl (W.2 2 13 _ rfl) rfl ?_
  refine zw_ld (n := 1) (k := 1) (f := zp_isI) (pc' := 44) rfl rfl rfl rfl rfl ?_
  refine zw_ia (q := 7) (pc' := 45) W rfl rfl (by decide) (⟨hp.1, by show _ < ((4 : Nat) : Int); omega⟩) rfl rfl ?_
  refine zw_rig rfl rfl ⟨by decide, by decide⟩ ?_
  rfl

theorem yl_pil0_0 {L : Nat} {σ : Nat → Int32} {d : Nat} {H : zp_H} {x1 : Int32} (hB : zk_Bs (zB_c 0) zg zJc H) (hp : 0 ≤ x1.toInt ∧ x1.toInt < (H.2.1 2 12).toInt) : zp_Call L σ (d + 3) 132 [.inr (.inr (some 1)), .inl x1, .inl (Int32.ofInt 0), .inr (.inr (some 105))] H (.inl (some (.inl (Int32.ofInt 0))), zw_J H 104 0 (H.2.1 7 x1.toInt.toNat).toInt64) := by
  have W := zB_Wd (zB_dn (zB_Bc hB))
  refine zw_ex (zw_met zm_132_t rfl rfl ?_)
  refine zw_ld (n := 1) (k := 3) (f := zp_isR) (pc' := 1) rfl rfl rfl rfl rfl ?_
  refine zw_s (pc' := 2) rfl rfl ?_
  refine zw_ld (n := 1) (k := 0) (f := zp_isR) (pc' := 3) rfl rfl rfl rfl rfl ?_
  refine zw_ld (n := 1) (k := 1) (f := zp_isI) (pc' := 4) rfl rfl rfl rfl rfl ?_
  refine zw_ld (n := 1) (k := 2) (f := zp_isI) (pc' := 5) rfl rfl rfl rfl rfl ?_
  refine zw_ct (pc' := 8) (c' := (2, 12)) (zw_cv (q := 0) (Y := zm_133) W.1 rfl rfl zm_133_t rfl rfl) (zw_pb_ok rfl) rfl rfl rfl rfl (yc_pil0_0 hB hp) ?_
  refine zw_s (pc' := 9) rfl rfl ?_
  refine zw_ls (q := 104) (pc' := 10) W rfl rfl (⟨by decide, by decide⟩) rfl ?_
  refine zw_s (pc' := 17) rfl rfl ?_
  refine zw_s (pc' := 18) rfl rfl ?_
  refine zw_rig rfl rfl ⟨by decide, by decide⟩ ?_
  rfl

theorem yc_pil0_1 {L : Nat} {σ : Nat → Int32} {d : Nat} {H : zp_H} {x1 : Int32} (hB : zk_Bs (zB_c 0) zg zJc H) (hp : 0 ≤ x1.toInt ∧ x1.toInt < (H.2.1 2 12).toInt) : zp_Call L σ (d + 2) 133 [.inr (.inr (some 1)), .inl x1, .inl (Int32.ofInt 1)] H (.inl (some (.inl (H.2.1 8 x1.toInt.toNat))), H) := by
  have W := zB_Wd (zB_dn (zB_Bc hB))
  have g5 : H.2.2.2 0 5 = some 3 := hB.2.1 0 5 _ rfl
  have g6 : H.2.2.2 0 6 = some 14 := hB.2.1 0 6 _ rfl
  have g7 : H.2.2.2 0 7 = some 23 := hB.2.1 0 7 _ rfl
  have g8 : H.2.2.2 0 8 = some 34 := hB.2.1 0 8 _ rfl
  have r2_12 := zB_fr1 (zB_dn (zB_Bc hB)) (p := 2) (k := 12) (r := (0, 4)) rfl
  have r2_12 : 0 ≤ (H.2.1 2 12).toInt ∧ (H.2.1 2 12).toInt ≤ 4 := r2_12
  refine zw_ex (zw_met zm_133_t rfl rfl ?_)
  refine zw_ld (n := 1) (k := 0) (f := zp_isR) (pc' := 1) rfl rfl rfl rfl rfl ?_
  refine zw_ld (n := 1) (k := 1) (f := zp_isI) (pc' := 2) rfl rfl rfl rfl rfl ?_
  refine zw_ctn (pc' := 5) (c' := (1, 6)) (zw_cv (q := 0) (Y := zm_134) W.1 rfl rfl zm_134_t rfl rfl) (zw_pb_ok rfl) rfl rfl rfl rfl (yc_np1_0 hB hp) ?_
  refine zw_ld (n := 1) (k := 2) (f := zp_isI) (pc' := 6) rfl rfl rfl rfl rfl ?_
  refine zw_s (pc' := 7) rfl rfl ?_
  refine zw_ctn (pc' := 10) (c' := (2, 12)) (zw_cs (Y := zm_104) rfl rfl zm_104_t) (zw_pb_ok rfl) rfl rfl rfl rfl (yc_nw1 ⟨by decide, by decide⟩) ?_
  refine zw_ld (n := 1) (k := 2) (f := zp_isI) (pc' := 11) rfl rfl rfl rfl rfl ?_
  refine zw_s (pc' := 46) rfl rfl ?_
  refine zw_ld (n := 1) (k := 0) (f := zp_isR) (pc' := 47) rfl rfl rfl rfl rfl ?_
  refine zw_gR (q := 0) (pc' := 50) W rfl rfl rfl rfl g5 rfl ?_
  refine zw_gR (q := 2) (pc' := 53) W rfl rfl rfl rfl (W.2 2 14 _ rfl) rfl ?_
  refine zw_ld (n := 1) (k := 1) (f := zp_isI) (pc' := 54) rfl rfl rfl rfl rfl ?_
  refine zw_ia (q := 8) (pc' := 55) W rfl rfl (by decide) (⟨hp.1, by show _ < ((4 : Nat) : Int); omega⟩) rfl rfl ?_
  refine zw_rig rfl rfl ⟨by decide, by decide⟩ ?_
  rfl

theorem yl_pil0_1 {L : Nat} {σ : Nat → Int32} {d : Nat} {H : zp_H} {x1 : Int32} (hB : zk_Bs (zB_c 0) zg zJc H) (hp : 0 ≤ x1.toInt ∧ x1.toInt < (H.2.1 2 12).toInt) : zp_Call L σ (d + 3) 132 [.inr (.inr (some 1)), .inl x1, .inl (Int32.ofInt 1), .inr (.inr (some 105))] H (.inl (some (.inl (Int32.ofInt 0))), zw_J H 104 0 (H.2.1 8 x1.toInt.toNat).toInt64) := by
  have W := zB_Wd (zB_dn (zB_Bc hB))
  refine zw_ex (zw_met zm_132_t rfl rfl ?_)
  refine zw_ld (n := 1) (k := 3) (f := zp_isR) (pc' := 1) rfl rfl rfl rfl rfl ?_
  refine zw_s (pc' := 2) rfl rfl ?_
  refine zw_ld (n := 1) (k := 0) (f := zp_isR) (pc' := 3) rfl rfl rfl rfl rfl ?_
  refine zw_ld (n := 1) (k := 1) (f := zp_isI) (pc' := 4) rfl rfl rfl rfl rfl ?_
  refine zw_ld (n := 1) (k := 2) (f := zp_isI) (pc' := 5) rfl rfl rfl rfl rfl ?_
  refine zw_ct (pc' := 8) (c' := (2, 12)) (zw_cv (q := 0) (Y := zm_133) W.1 rfl rfl zm_133_t rfl rfl) (zw_pb_ok rfl) rfl rfl rfl rfl (yc_pil0_1 hB hp) ?_
  refine zw_s (pc' := 9) rfl rfl ?_
  refine zw_ls (q := 104) (pc' := 10) W rfl rfl (⟨by decide, by decide⟩) rfl ?_
  refine zw_s (pc' := 17) rfl rfl ?_
  refine zw_s (pc' := 18) rfl rfl ?_
  refine zw_rig rfl rfl ⟨by decide, by decide⟩ ?_
  rfl

theorem yc_pil0_2 {L : Nat} {σ : Nat → Int32} {d : Nat} {H : zp_H} {x1 : Int32} (hB : zk_Bs (zB_c 0) zg zJc H) (hp : 0 ≤ x1.toInt ∧ x1.toInt < (H.2.1 2 12).toInt) : zp_Call L σ (d + 2) 133 [.inr (.inr (some 1)), .inl x1, .inl (Int32.ofInt 2)] H (.inl (some (.inl (H.2.1 9 x1.toInt.toNat))), H) := by
  have W := zB_Wd (zB_dn (zB_Bc hB))
  have g5 : H.2.2.2 0 5 = some 3 := hB.2.1 0 5 _ rfl
  have g6 : H.2.2.2 0 6 = some 14 := hB.2.1 0 6 _ rfl
  have g7 : H.2.2.2 0 7 = some 23 := hB.2.1 0 7 _ rfl
  have g8 : H.2.2.2 0 8 = some 34 := hB.2.1 0 8 _ rfl
  have r2_12 := zB_fr1 (zB_dn (zB_Bc hB)) (p := 2) (k := 12) (r := (0, 4)) rfl
  have r2_12 : 0 ≤ (H.2.1 2 12).toInt ∧ (H.2.1 2 12).toInt ≤ 4 := r2_12
  refine zw_ex (zw_met zm_133_t rfl rfl ?_)
  refine zw_ld (n := 1) (k := 0) (f := zp_isR) (pc' := 1) rfl rfl rfl rfl rfl ?_
  refine zw_ld (n := 1) (k := 1) (f := zp_isI) (pc' := 2) rfl rfl rfl rfl rfl ?_
  refine zw_ctn (pc' := 5) (c' := (1, 6)) (zw_cv (q := 0) (Y := zm_134) W.1 rfl rfl zm_134_t rfl rfl) (zw_pb_ok rfl) rfl rfl rfl rfl (yc_np1_0 hB hp) ?_
  refine zw_ld (n := 1) (k := 2) (f := zp_isI) (pc' := 6) rfl rfl rfl rfl rfl ?_
  refine zw_s (pc' := 7) rfl rfl ?_
  refine zw_ctn (pc' := 10) (c' := (2, 12)) (zw_cs (Y := zm_104) rfl rfl zm_104_t) (zw_pb_ok rfl) rfl rfl rfl rfl (yc_nw1 ⟨by decide, by decide⟩) ?_
  refine zw_ld (n := 1) (k := 2) (f := zp_isI) (pc' := 11) rfl rfl rfl rfl rfl ?_
  refine zw_s (pc' := 56) rfl rfl ?_
  refine zw_ld (n := 1) (k := 0) (f := zp_isR) (pc' := 57) rfl rfl rfl rfl rfl ?_
  refine zw_gR (q := 0) (pc' := 60) W rfl rfl rfl rfl g5 rfl ?_
  refine zw_gR (q := 2) (pc' := 63) W rfl rfl rfl rfl (W.2 2 15 _ rfl) rfl ?_
  refine zw_ld (n := 1) (k := 1) (f := zp_isI) (pc' := 64) rfl rfl rfl rfl rfl ?_
  refine zw_ia (q := 9) (pc' := 65) W rfl rfl (by decide) (⟨hp.1, by show _ < ((4 : Nat) : Int); omega⟩) rfl rfl ?_
  refine zw_rig rfl rfl ⟨by decide, by decide⟩ ?_
  rfl

theorem yl_pil0_2 {L : Nat} {σ : Nat → Int32} {d : Nat} {H : zp_H} {x1 : Int32} (hB : zk_Bs (zB_c 0) zg zJc H) (hp : 0 ≤ x1.toInt ∧ x1.toInt < (H.2.1 2 12).toInt) : zp_Call L σ (d + 3) 132 [.inr (.inr (some 1)), .inl x1, .inl (Int32.ofInt 2), .inr (.inr (some 105))] H (.inl (some (.inl (Int32.ofInt 0))), zw_J H 104 0 (H.2.1 9 x1.toInt.toNat).toInt64) := by
  have W := zB_Wd (zB_dn (zB_Bc hB))
  refine zw_ex (zw_met zm_132_t rfl rfl ?_)
  refine zw_ld (n := 1) (k := 3) (f := zp_isR) (pc' := 1) rfl rfl rfl rfl rfl ?_
  refine zw_s (pc' := 2) rfl rfl ?_
  refine zw_ld (n := 1) (k := 0) (f := zp_isR) (pc' := 3) rfl rfl rfl rfl rfl ?_
  refine zw_ld (n := 1) (k := 1) (f := zp_isI) (pc' := 4) rfl rfl rfl rfl rfl ?_
  refine zw_ld (n := 1) (k := 2) (f := zp_isI) (pc' := 5) rfl rfl rfl rfl rfl ?_
  refine zw_ct (pc' := 8) (c' := (2, 12)) (zw_cv (q := 0) (Y := zm_133) W.1 rfl rfl zm_133_t rfl rfl) (zw_pb_ok rfl) rfl rfl rfl rfl (yc_pil0_2 hB hp) ?_
  refine zw_s (pc' := 9) rfl rfl ?_
  refine zw_ls (q := 104) (pc' := 10) W rfl rfl (⟨by decide, by decide⟩) rfl ?_
  refine zw_s (pc' := 17) rfl rfl ?_
  refine zw_s (pc' := 18) rfl rfl ?_
  refine zw_rig rfl rfl ⟨by decide, by decide⟩ ?_
  rfl

theorem yc_pin0 {L : Nat} {σ : Nat → Int32} {d : Nat} {H : zp_H} {x1 x2 : Int32} (hB : zk_Bs (zB_c 0) zg zJc H) (h : ¬ ((0 ≤ x1.toInt ∧ x1.toInt < (H.2.1 2 12).toInt) ∧ 0 ≤ x2.toInt ∧ x2.toInt ≤ (Int32.ofInt 2).toInt)) : zp_Call L σ (d + 2) 133 [.inr (.inr (some 1)), .inl x1, .inl x2] H (.inr 0, H) := by
  have W := zB_Wd (zB_dn (zB_Bc hB))
  have g5 : H.2.2.2 0 5 = some 3 := hB.2.1 0 5 _ rfl
  have g6 : H.2.2.2 0 6 = some 14 := hB.2.1 0 6 _ rfl
  have g7 : H.2.2.2 0 7 = some 23 := hB.2.1 0 7 _ rfl
  have g8 : H.2.2.2 0 8 = some 34 := hB.2.1 0 8 _ rfl
  refine zw_ex (zw_met zm_133_t rfl rfl ?_)
  refine zw_ld (n := 1) (k := 0) (f := zp_isR) (pc' := 1) rfl rfl rfl rfl rfl ?_
  refine zw_ld (n := 1) (k := 1) (f := zp_isI) (pc' := 2) rfl rfl rfl rfl rfl ?_
  by_cases hp : 0 ≤ x1.toInt ∧ x1.toInt < (H.2.1 2 12).toInt
  · refine zw_ctn (pc' := 5) (c' := (1, 6)) (zw_cv (q := 0) (Y := zm_134) W.1 rfl rfl zm_134_t rfl rfl) (zw_pb_ok rfl) rfl rfl rfl rfl (yc_np1_0 hB hp) ?_
    refine zw_ld (n := 1) (k := 2) (f := zp_isI) (pc' := 6) rfl rfl rfl rfl rfl ?_
    refine zw_s (pc' := 7) rfl rfl ?_
    refine zw_cthr (ex := 0) (zw_cs (Y := zm_104) rfl rfl zm_104_t) (zw_pb_ok rfl) rfl rfl (yc_nw0 (fun h9 => h ⟨hp, h9⟩)) ?_
    rfl
  · refine zw_cthr (ex := 0) (zw_cv (q := 0) (Y := zm_134) W.1 rfl rfl zm_134_t rfl rfl) (zw_pb_ok rfl) rfl rfl (yc_np0_0 hB hp) ?_
    rfl

theorem yl_pin0 {L : Nat} {σ : Nat → Int32} {d : Nat} {H : zp_H} {x1 x2 : Int32} (hB : zk_Bs (zB_c 0) zg zJc H) (h : ¬ ((0 ≤ x1.toInt ∧ x1.toInt < (H.2.1 2 12).toInt) ∧ 0 ≤ x2.toInt ∧ x2.toInt ≤ (Int32.ofInt 2).toInt)) : zp_Call L σ (d + 3) 132 [.inr (.inr (some 1)), .inl x1, .inl x2, .inr (.inr (some 105))] H (.inl (some (.inl (Int32.ofInt 1))), H) := by
  have W := zB_Wd (zB_dn (zB_Bc hB))
  refine zw_ex (zw_met zm_132_t rfl rfl ?_)
  refine zw_ld (n := 1) (k := 3) (f := zp_isR) (pc' := 1) rfl rfl rfl rfl rfl ?_
  refine zw_s (pc' := 2) rfl rfl ?_
  refine zw_ld (n := 1) (k := 0) (f := zp_isR) (pc' := 3) rfl rfl rfl rfl rfl ?_
  refine zw_ld (n := 1) (k := 1) (f := zp_isI) (pc' := 4) rfl rfl rfl rfl rfl ?_
  refine zw_ld (n := 1) (k := 2) (f := zp_isI) (pc' := 5) rfl rfl rfl rfl rfl ?_
  refine zw_cexw (ex := 0) (hp9 := 13) (k9 := 4) (pc' := 15) (c' := (2, 12)) (zw_cv (q := 0) (Y := zm_133) W.1 rfl rfl zm_133_t rfl rfl) (zw_pb_ok rfl) rfl rfl rfl rfl rfl rfl rfl (yc_pin0 hB h) ?_
  refine zw_s (pc' := 16) rfl rfl ?_
  refine zw_rig rfl rfl ⟨by decide, by decide⟩ ?_
  rfl

theorem yc_np1_3 {L : Nat} {σ : Nat → Int32} {d : Nat} {H : zp_H} {x : Int32} (hB : zk_Bs (zB_c 3) zg zJc H) (h : (0 ≤ x.toInt ∧ x.toInt < (H.2.1 22 12).toInt)) : zp_Call L σ (d + 1) 134 [.inr (.inr (some 1)), .inl x] H (.inl none, H) := by
  have W := zB_Wd (zB_dn (zB_Bc hB))
  have g5 : H.2.2.2 0 5 = some 23 := hB.2.1 0 5 _ rfl
  have g6 : H.2.2.2 0 6 = some 34 := hB.2.1 0 6 _ rfl
  have g7 : H.2.2.2 0 7 = some 3 := hB.2.1 0 7 _ rfl
  have g8 : H.2.2.2 0 8 = some 14 := hB.2.1 0 8 _ rfl
  refine zw_ex (zw_met zm_134_t rfl rfl ?_)
  refine zw_ld (n := 1) (k := 1) (f := zp_isI) (pc' := 1) rfl rfl rfl rfl rfl ?_
  refine zw_blt1 (g := 15) (pc' := 4) rfl rfl rfl rfl (fun h1 => ?_) (fun h1 => ?_)
  · omega
  · refine zw_ld (n := 1) (k := 1) (f := zp_isI) (pc' := 5) rfl rfl rfl rfl rfl ?_
    refine zw_ld (n := 1) (k := 0) (f := zp_isR) (pc' := 6) rfl rfl rfl rfl rfl ?_
    refine zw_gR (q := 0) (pc' := 9) W rfl rfl rfl rfl g5 rfl ?_
    refine zw_gI (q := 22) (pc' := 12) W rfl rfl rfl rfl rfl rfl ?_
    refine zw_blt2 (g := 26) (pc' := 15) rfl rfl rfl rfl rfl (fun h2 => ?_) (fun h2 => ?_)
    · refine zw_rn rfl rfl ?_
      rfl
    · omega

theorem yc_np0_3 {L : Nat} {σ : Nat → Int32} {d : Nat} {H : zp_H} {x : Int32} (hB : zk_Bs (zB_c 3) zg zJc H) (h : ¬ (0 ≤ x.toInt ∧ x.toInt < (H.2.1 22 12).toInt)) : zp_Call L σ (d + 1) 134 [.inr (.inr (some 1)), .inl x] H (.inr 0, H) := by
  have W := zB_Wd (zB_dn (zB_Bc hB))
  have g5 : H.2.2.2 0 5 = some 23 := hB.2.1 0 5 _ rfl
  have g6 : H.2.2.2 0 6 = some 34 := hB.2.1 0 6 _ rfl
  have g7 : H.2.2.2 0 7 = some 3 := hB.2.1 0 7 _ rfl
  have g8 : H.2.2.2 0 8 = some 14 := hB.2.1 0 8 _ rfl
  refine zw_ex (zw_met zm_134_t rfl rfl ?_)
  refine zw_ld (n := 1) (k := 1) (f := zp_isI) (pc' := 1) rfl rfl rfl rfl rfl ?_
  refine zw_blt1 (g := 15) (pc' := 4) rfl rfl rfl rfl (fun h1 => ?_) (fun h1 => ?_)
  · exact zs_end (S := (15, _, [], H, (0, 0))) (X := (.inr 0, H)) rfl rfl rfl
  · refine zw_ld (n := 1) (k := 1) (f := zp_isI) (pc' := 5) rfl rfl rfl rfl rfl ?_
    refine zw_ld (n := 1) (k := 0) (f := zp_isR) (pc' := 6) rfl rfl rfl rfl rfl ?_
    refine zw_gR (q := 0) (pc' := 9) W rfl rfl rfl rfl g5 rfl ?_
    refine zw_gI (q := 22) (pc' := 12) W rfl rfl rfl rfl rfl rfl ?_
    refine zw_blt2 (g := 26) (pc' := 15) rfl rfl rfl rfl rfl (fun h2 => ?_) (fun h2 => ?_)
    · omega
    · exact zs_end (S := (15, _, [], H, (0, 0))) (X := (.inr 0, H)) rfl rfl rfl

theorem yc_pil3_0 {L : Nat} {σ : Nat → Int32} {d : Nat} {H : zp_H} {x1 : Int32} (hB : zk_Bs (zB_c 3) zg zJc H) (hp : 0 ≤ x1.toInt ∧ x1.toInt < (H.2.1 22 12).toInt) : zp_Call L σ (d + 2) 133 [.inr (.inr (some 1)), .inl x1, .inl (Int32.ofInt 0)] H (.inl (some (.inl (H.2.1 27 x1.toInt.toNat))), H) := by
  have W := zB_Wd (zB_dn (zB_Bc hB))
  have g5 : H.2.2.2 0 5 = some 23 := hB.2.1 0 5 _ rfl
  have g6 : H.2.2.2 0 6 = some 34 := hB.2.1 0 6 _ rfl
  have g7 : H.2.2.2 0 7 = some 3 := hB.2.1 0 7 _ rfl
  have g8 : H.2.2.2 0 8 = some 14 := hB.2.1 0 8 _ rfl
  have r22_12 := zB_fr1 (zB_dn (zB_Bc hB)) (p := 22) (k := 12) (r := (0, 4)) rfl
  have r22_12 : 0 ≤ (H.2.1 22 12).toInt ∧ (H.2.1 22 12).toInt ≤ 4 := r22_12
  refine zw_ex (zw_met zm_133_t rfl rfl ?_)
  refine zw_ld (n := 1) (k := 0) (f := zp_isR) (pc' := 1) rfl rfl rfl rfl rfl ?_
  refine zw_ld (n := 1) (k := 1) (f := zp_isI) (pc' := 2) rfl rfl rfl rfl rfl ?_
  refine zw_ctn (pc' := 5) (c' := (1, 6)) (zw_cv (q := 0) (Y := zm_134) W.1 rfl rfl zm_134_t rfl rfl) (zw_pb_ok rfl) rfl rfl rfl rfl (yc_np1_3 hB hp) ?_
  refine zw_ld (n := 1) (k := 2) (f := zp_isI) (pc' := 6) rfl rfl rfl rfl rfl ?_
  refine zw_s (pc' := 7) rfl rfl ?_
  refine zw_ctn (pc' := 10) (c' := (2, 12)) (zw_cs (Y := zm_104) rfl rfl zm_104_t) (zw_pb_ok rfl) rfl rfl rfl rfl (yc_nw1 ⟨by decide, by decide⟩) ?_
  refine zw_ld (n := 1) (k := 2) (f := zp_isI) (pc' := 11) rfl rfl rfl rfl rfl ?_
  refine zw_s (pc' := 36) rfl rfl ?_
  refine zw_ld (n := 1) (k := 0) (f := zp_isR) (pc' := 37) rfl rfl rfl rfl rfl ?_
  refine zw_gR (q := 0) (pc' := 40) W rfl rfl rfl rfl g5 rfl ?_
  refine zw_gR (q := 22) (pc' := 43) W rfl rfl rfl rfl (W.2 22 13 _ rfl) rfl ?_
  refine zw_ld (n := 1) (k := 1) (f := zp_isI) (pc' := 44) rfl rfl rfl rfl rfl ?_
  refine zw_ia (q := 27) (pc' := 45) W rfl rfl (by decide) (⟨hp.1, by show _ < ((4 : Nat) : Int); omega⟩) rfl rfl ?_
  refine zw_rig rfl rfl ⟨by decide, by decide⟩ ?_
  rfl

theorem yl_pil3_0 {L : Nat} {σ : Nat → Int32} {d : Nat} {H : zp_H} {x1 : Int32} (hB : zk_Bs (zB_c 3) zg zJc H) (hp : 0 ≤ x1.toInt ∧ x1.toInt < (H.2.1 22 12).toInt) : zp_Call L σ (d + 3) 132 [.inr (.inr (some 1)), .inl x1, .inl (Int32.ofInt 0), .inr (.inr (some 105))] H (.inl (some (.inl (Int32.ofInt 0))), zw_J H 104 0 (H.2.1 27 x1.toInt.toNat).toInt64) := by
  have W := zB_Wd (zB_dn (zB_Bc hB))
  refine zw_ex (zw_met zm_132_t rfl rfl ?_)
  refine zw_ld (n := 1) (k := 3) (f := zp_isR) (pc' := 1) rfl rfl rfl rfl rfl ?_
  refine zw_s (pc' := 2) rfl rfl ?_
  refine zw_ld (n := 1) (k := 0) (f := zp_isR) (pc' := 3) rfl rfl rfl rfl rfl ?_
  refine zw_ld (n := 1) (k := 1) (f := zp_isI) (pc' := 4) rfl rfl rfl rfl rfl ?_
  refine zw_ld (n := 1) (k := 2) (f := zp_isI) (pc' := 5) rfl rfl rfl rfl rfl ?_
  refine zw_ct (pc' := 8) (c' := (2, 12)) (zw_cv (q := 0) (Y := zm_133) W.1 rfl rfl zm_133_t rfl rfl) (zw_pb_ok rfl) rfl rfl rfl rfl (yc_pil3_0 hB hp) ?_
  refine zw_s (pc' := 9) rfl rfl ?_
  refine zw_ls (q := 104) (pc' := 10) W rfl rfl (⟨by decide, by decide⟩) rfl ?_
  refine zw_s (pc' := 17) rfl rfl ?_
  refine zw_s (pc' := 18) rfl rfl ?_
  refine zw_rig rfl rfl ⟨by decide, by decide⟩ ?_
  rfl

theorem yc_pil3_1 {L : Nat} {σ : Nat → Int32} {d : Nat} {H : zp_H} {x1 : Int32} (hB : zk_Bs (zB_c 3) zg zJc H) (hp : 0 ≤ x1.toInt ∧ x1.toInt < (H.2.1 22 12).toInt) : zp_Call L σ (d + 2) 133 [.inr (.inr (some 1)), .inl x1, .inl (Int32.ofInt 1)] H (.inl (some (.inl (H.2.1 28 x1.toInt.toNat))), H) := by
  have W := zB_Wd (zB_dn (zB_Bc hB))
  have g5 : H.2.2.2 0 5 = some 23 := hB.2.1 0 5 _ rfl
  have g6 : H.2.2.2 0 6 = some 34 := hB.2.1 0 6 _ rfl
  have g7 : H.2.2.2 0 7 = some 3 := hB.2.1 0 7 _ rfl
  have g8 : H.2.2.2 0 8 = some 14 := hB.2.1 0 8 _ rfl
  have r22_12 := zB_fr1 (zB_dn (zB_Bc hB)) (p := 22) (k := 12) (r := (0, 4)) rfl
  have r22_12 : 0 ≤ (H.2.1 22 12).toInt ∧ (H.2.1 22 12).toInt ≤ 4 := r22_12
  refine zw_ex (zw_met zm_133_t rfl rfl ?_)
  refine zw_ld (n := 1) (k := 0) (f := zp_isR) (pc' := 1) rfl rfl rfl rfl rfl ?_
  refine zw_ld (n := 1) (k := 1) (f := zp_isI) (pc' := 2) rfl rfl rfl rfl rfl ?_
  refine zw_ctn (pc' := 5) (c' := (1, 6)) (zw_cv (q := 0) (Y := zm_134) W.1 rfl rfl zm_134_t rfl rfl) (zw_pb_ok rfl) rfl rfl rfl rfl (yc_np1_3 hB hp) ?_
  refine zw_ld (n := 1) (k := 2) (f := zp_isI) (pc' := 6) rfl rfl rfl rfl rfl ?_
  refine zw_s (pc' := 7) rfl rfl ?_
  refine zw_ctn (pc' := 10) (c' := (2, 12)) (zw_cs (Y := zm_104) rfl rfl zm_104_t) (zw_pb_ok rfl) rfl rfl rfl rfl (yc_nw1 ⟨by decide, by decide⟩) ?_
  refine zw_ld (n := 1) (k := 2) (f := zp_isI) (pc' := 11) rfl rfl rfl rfl rfl ?_
  refine zw_s (pc' := 46) rfl rfl ?_
  refine zw_ld (n := 1) (k := 0) (f := zp_isR) (pc' := 47) rfl rfl rfl rfl rfl ?_
  refine zw_gR (q := 0) (pc' := 50) W rfl rfl rfl rfl g5 rfl ?_
  refine zw_gR (q := 22) (pc' := 53) W rfl rfl rfl rfl (W.2 22 14 _ rfl) rfl ?_
  refine zw_ld (n := 1) (k := 1) (f := zp_isI) (pc' := 54) rfl rfl rfl rfl rfl ?_
  refine zw_ia (q := 28) (pc' := 55) W rfl rfl (by decide) (⟨hp.1, by show _ < ((4 : Nat) : Int); omega⟩) rfl rfl ?_
  refine zw_rig rfl rfl ⟨by decide, by decide⟩ ?_
  rfl

theorem yl_pil3_1 {L : Nat} {σ : Nat → Int32} {d : Nat} {H : zp_H} {x1 : Int32} (hB : zk_Bs (zB_c 3) zg zJc H) (hp : 0 ≤ x1.toInt ∧ x1.toInt < (H.2.1 22 12).toInt) : zp_Call L σ (d + 3) 132 [.inr (.inr (some 1)), .inl x1, .inl (Int32.ofInt 1), .inr (.inr (some 105))] H (.inl (some (.inl (Int32.ofInt 0))), zw_J H 104 0 (H.2.1 28 x1.toInt.toNat).toInt64) := by
  have W := zB_Wd (zB_dn (zB_Bc hB))
  refine zw_ex (zw_met zm_132_t rfl rfl ?_)
  refine zw_ld (n := 1) (k := 3) (f := zp_isR) (pc' := 1) rfl rfl rfl rfl rfl ?_
  refine zw_s (pc' := 2) rfl rfl ?_
  refine zw_ld (n := 1) (k := 0) (f := zp_isR) (pc' := 3) rfl rfl rfl rfl rfl ?_
  refine zw_ld (n := 1) (k := 1) (f := zp_isI) (pc' := 4) rfl rfl rfl rfl rfl ?_
  refine zw_ld (n := 1) (k := 2) (f := zp_isI) (pc' := 5) rfl rfl rfl rfl rfl ?_
  refine zw_ct (pc' := 8) (c' := (2, 12)) (zw_cv (q := 0) (Y := zm_133) W.1 rfl rfl zm_133_t rfl rfl) (zw_pb_ok rfl) rfl rfl rfl rfl (yc_pil3_1 hB hp) ?_
  refine zw_s (pc' := 9) rfl rfl ?_
  refine zw_ls (q := 104) (pc' := 10) W rfl rfl (⟨by decide, by decide⟩) rfl ?_
  refine zw_s (pc' := 17) rfl rfl ?_
  refine zw_s (pc' := 18) rfl rfl ?_
  refine zw_rig rfl rfl ⟨by decide, by decide⟩ ?_
  rfl

theorem yc_pil3_2 {L : Nat} {σ : Nat → Int32} {d : Nat} {H : zp_H} {x1 : Int32} (hB : zk_Bs (zB_c 3) zg zJc H) (hp : 0 ≤ x1.toInt ∧ x1.toInt < (H.2.1 22 12).toInt) : zp_Call L σ (d + 2) 133 [.inr (.inr (some 1)), .inl x1, .inl (Int32.ofInt 2)] H (.inl (some (.inl (H.2.1 29 x1.toInt.toNat))), H) := by
  have W := zB_Wd (zB_dn (zB_Bc hB))
  have g5 : H.2.2.2 0 5 = some 23 := hB.2.1 0 5 _ rfl
  have g6 : H.2.2.2 0 6 = some 34 := hB.2.1 0 6 _ rfl
  have g7 : H.2.2.2 0 7 = some 3 := hB.2.1 0 7 _ rfl
  have g8 : H.2.2.2 0 8 = some 14 := hB.2.1 0 8 _ rfl
  have r22_12 := zB_fr1 (zB_dn (zB_Bc hB)) (p := 22) (k := 12) (r := (0, 4)) rfl
  have r22_12 : 0 ≤ (H.2.1 22 12).toInt ∧ (H.2.1 22 12).toInt ≤ 4 := r22_12
  refine zw_ex (zw_met zm_133_t rfl rfl ?_)
  refine zw_ld (n := 1) (k := 0) (f := zp_isR) (pc' := 1) rfl rfl rfl rfl rfl ?_
  refine zw_ld (n := 1) (k := 1) (f := zp_isI) (pc' := 2) rfl rfl rfl rfl rfl ?_
  refine zw_ctn (pc' := 5) (c' := (1, 6)) (zw_cv (q := 0) (Y := zm_134) W.1 rfl rfl zm_134_t rfl rfl) (zw_pb_ok rfl) rfl rfl rfl rfl (yc_np1_3 hB hp) ?_
  refine zw_ld (n := 1) (k := 2) (f := zp_isI) (pc' := 6) rfl rfl rfl rfl rfl ?_
  refine zw_s (pc' := 7) rfl rfl ?_
  refine zw_ctn (pc' := 10) (c' := (2, 12)) (zw_cs (Y := zm_104) rfl rfl zm_104_t) (zw_pb_ok rfl) rfl rfl rfl rfl (yc_nw1 ⟨by decide, by decide⟩) ?_
  refine zw_ld (n := 1) (k := 2) (f := zp_isI) (pc' := 11) rfl rfl rfl rfl rfl ?_
  refine zw_s (pc' := 56) rfl rfl ?_
  refine zw_ld (n := 1) (k := 0) (f := zp_isR) (pc' := 57) rfl rfl rfl rfl rfl ?_
  refine zw_gR (q := 0) (pc' := 60) W rfl rfl rfl rfl g5 rfl ?_
  refine zw_gR (q := 22) (pc' := 63) W rfl rfl rfl rfl (W.2 22 15 _ rfl) rfl ?_
  refine zw_ld (n := 1) (k := 1) (f := zp_isI) (pc' := 64) rfl rfl rfl rfl rfl ?_
  refine zw_ia (q := 29) (pc' := 65) W rfl rfl (by decide) (⟨hp.1, by show _ < ((4 : Nat) : Int); omega⟩) rfl rfl ?_
  refine zw_rig rfl rfl ⟨by decide, by decide⟩ ?_
  rfl

theorem yl_pil3_2 {L : Nat} {σ : Nat → Int32} {d : Nat} {H : zp_H} {x1 : Int32} (hB : zk_Bs (zB_c 3) zg zJc H) (hp : 0 ≤ x1.toInt ∧ x1.toInt < (H.2.1 22 12).toInt) : zp_Call L σ (d + 3) 132 [.inr (.inr (some 1)), .inl x1, .inl (Int32.ofInt 2), .inr (.inr (some 105))] H (.inl (some (.inl (Int32.ofInt 0))), zw_J H 104 0 (H.2.1 29 x1.toInt.toNat).toInt64) := by
  have W := zB_Wd (zB_dn (zB_Bc hB))
  refine zw_ex (zw_met zm_132_t rfl rfl ?_)
  refine zw_ld (n := 1) (k := 3) (f := zp_isR) (pc' := 1) rfl rfl rfl rfl rfl ?_
  refine zw_s (pc' := 2) rfl rfl ?_
  refine zw_ld (n := 1) (k := 0) (f := zp_isR) (pc' := 3) rfl rfl rfl rfl rfl ?_
  refine zw_ld (n := 1) (k := 1) (f := zp_isI) (pc' := 4) rfl rfl rfl rfl rfl ?_
  refine zw_ld (n := 1) (k := 2) (f := zp_isI) (pc' := 5) rfl rfl rfl rfl rfl ?_
  refine zw_ct (pc' := 8) (c' := (2, 12)) (zw_cv (q := 0) (Y := zm_133) W.1 rfl rfl zm_133_t rfl rfl) (zw_pb_ok rfl) rfl rfl rfl rfl (yc_pil3_2 hB hp) ?_
  refine zw_s (pc' := 9) rfl rfl ?_
  refine zw_ls (q := 104) (pc' := 10) W rfl rfl (⟨by decide, by decide⟩) rfl ?_
  refine zw_s (pc' := 17) rfl rfl ?_
  refine zw_s (pc' := 18) rfl rfl ?_
  refine zw_rig rfl rfl ⟨by decide, by decide⟩ ?_
  rfl

theorem yc_pin3 {L : Nat} {σ : Nat → Int32} {d : Nat} {H : zp_H} {x1 x2 : Int32} (hB : zk_Bs (zB_c 3) zg zJc H) (h : ¬ ((0 ≤ x1.toInt ∧ x1.toInt < (H.2.1 22 12).toInt) ∧ 0 ≤ x2.toInt ∧ x2.toInt ≤ (Int32.ofInt 2).toInt)) : zp_Call L σ (d + 2) 133 [.inr (.inr (some 1)), .inl x1, .inl x2] H (.inr 0, H) := by
  have W := zB_Wd (zB_dn (zB_Bc hB))
  have g5 : H.2.2.2 0 5 = some 23 := hB.2.1 0 5 _ rfl
  have g6 : H.2.2.2 0 6 = some 34 := hB.2.1 0 6 _ rfl
  have g7 : H.2.2.2 0 7 = some 3 := hB.2.1 0 7 _ rfl
  have g8 : H.2.2.2 0 8 = some 14 := hB.2.1 0 8 _ rfl
  refine zw_ex (zw_met zm_133_t rfl rfl ?_)
  refine zw_ld (n := 1) (k := 0) (f := zp_isR) (pc' := 1) rfl rfl rfl rfl rfl ?_
  refine zw_ld (n := 1) (k := 1) (f := zp_isI) (pc' := 2) rfl rfl rfl rfl rfl ?_
  by_cases hp : 0 ≤ x1.toInt ∧ x1.toInt < (H.2.1 22 12).toInt
  · refine zw_ctn (pc' := 5) (c' := (1, 6)) (zw_cv (q := 0) (Y := zm_134) W.1 rfl rfl zm_134_t rfl rfl) (zw_pb_ok rfl) rfl rfl rfl rfl (yc_np1_3 hB hp) ?_
    refine zw_ld (n := 1) (k := 2) (f := zp_isI) (pc' := 6) rfl rfl rfl rfl rfl ?_
    refine zw_s (pc' := 7) rfl rfl ?_
    refine zw_cthr (ex := 0) (zw_cs (Y := zm_104) rfl rfl zm_104_t) (zw_pb_ok rfl) rfl rfl (yc_nw0 (fun h9 => h ⟨hp, h9⟩)) ?_
    rfl
  · refine zw_cthr (ex := 0) (zw_cv (q := 0) (Y := zm_134) W.1 rfl rfl zm_134_t rfl rfl) (zw_pb_ok rfl) rfl rfl (yc_np0_3 hB hp) ?_
    rfl

theorem yl_pin3 {L : Nat} {σ : Nat → Int32} {d : Nat} {H : zp_H} {x1 x2 : Int32} (hB : zk_Bs (zB_c 3) zg zJc H) (h : ¬ ((0 ≤ x1.toInt ∧ x1.toInt < (H.2.1 22 12).toInt) ∧ 0 ≤ x2.toInt ∧ x2.toInt ≤ (Int32.ofInt 2).toInt)) : zp_Call L σ (d + 3) 132 [.inr (.inr (some 1)), .inl x1, .inl x2, .inr (.inr (some 105))] H (.inl (some (.inl (Int32.ofInt 1))), H) := by
  have W := zB_Wd (zB_dn (zB_Bc hB))
  refine zw_ex (zw_met zm_132_t rfl rfl ?_)
  refine zw_ld (n := 1) (k := 3) (f := zp_isR) (pc' := 1) rfl rfl rfl rfl rfl ?_
  refine zw_s (pc' := 2) rfl rfl ?_
  refine zw_ld (n := 1) (k := 0) (f := zp_isR) (pc' := 3) rfl rfl rfl rfl rfl ?_
  refine zw_ld (n := 1) (k := 1) (f := zp_isI) (pc' := 4) rfl rfl rfl rfl rfl ?_
  refine zw_ld (n := 1) (k := 2) (f := zp_isI) (pc' := 5) rfl rfl rfl rfl rfl ?_
  refine zw_cexw (ex := 0) (hp9 := 13) (k9 := 4) (pc' := 15) (c' := (2, 12)) (zw_cv (q := 0) (Y := zm_133) W.1 rfl rfl zm_133_t rfl rfl) (zw_pb_ok rfl) rfl rfl rfl rfl rfl rfl rfl (yc_pin3 hB h) ?_
  refine zw_s (pc' := 16) rfl rfl ?_
  refine zw_rig rfl rfl ⟨by decide, by decide⟩ ?_
  rfl

theorem yr_ip1 {L : Nat} {σ : Nat → Int32} {d : Nat} {H : zp_H} (W : zw_W H) {x : Int32} (h0 : (H.2.1 72 0).toInt = 0) (h : (0 ≤ x.toInt ∧ x.toInt < (H.2.1 72 7).toInt)) : zp_Call L σ (d + 2) 228 [.inr (.inr (some 73)), .inl x] H (.inl (some (.inl (Int32.ofInt 1))), H) := by
  refine zw_ex (zw_met zm_228_t rfl rfl ?_)
  refine zw_ld (n := 1) (k := 0) (f := zp_isR) (pc' := 1) rfl rfl rfl rfl rfl ?_
  refine zw_ld (n := 1) (k := 1) (f := zp_isI) (pc' := 2) rfl rfl rfl rfl rfl ?_
  refine zw_blt1 (g := 17) (pc' := 5) rfl rfl rfl rfl (fun h1 => ?_) (fun h1 => ?_)
  · omega
  · refine zw_ld (n := 1) (k := 1) (f := zp_isI) (pc' := 6) rfl rfl rfl rfl rfl ?_
    refine zw_ld (n := 1) (k := 0) (f := zp_isR) (pc' := 7) rfl rfl rfl rfl rfl ?_
    refine zw_gI (q := 72) (pc' := 10) W rfl rfl rfl rfl rfl rfl ?_
    refine zw_bge2 (g := 17) (pc' := 13) rfl rfl rfl rfl rfl (fun h2 => ?_) (fun h2 => ?_)
    · omega
    · refine zw_s (pc' := 14) rfl rfl ?_
      refine zw_s (pc' := 18) rfl rfl ?_
      refine zw_s (pc' := 19) rfl rfl ?_
      refine zw_c (pc' := 22) (zw_cv (q := 72) (Y := zm_170) W.1 rfl rfl zm_170_t rfl rfl) rfl rfl rfl rfl rfl (zq_right1 W h0) ?_
      refine zw_rz rfl rfl (by decide) ?_
      rfl

theorem yr_ip0 {L : Nat} {σ : Nat → Int32} {d : Nat} {H : zp_H} (W : zw_W H) {x : Int32} (h0 : (H.2.1 72 0).toInt = 0) (h : ¬ (0 ≤ x.toInt ∧ x.toInt < (H.2.1 72 7).toInt)) : zp_Call L σ (d + 2) 228 [.inr (.inr (some 73)), .inl x] H (.inl (some (.inl (Int32.ofInt 0))), zw_I H 72 0 (Int32.ofInt 1)) := by
  refine zw_ex (zw_met zm_228_t rfl rfl ?_)
  refine zw_ld (n := 1) (k := 0) (f := zp_isR) (pc' := 1) rfl rfl rfl rfl rfl ?_
  refine zw_ld (n := 1) (k := 1) (f := zp_isI) (pc' := 2) rfl rfl rfl rfl rfl ?_
  refine zw_blt1 (g := 17) (pc' := 5) rfl rfl rfl rfl (fun h1 => ?_) (fun h1 => ?_)
  · refine zw_s (pc' := 18) rfl rfl ?_
    refine zw_s (pc' := 19) rfl rfl ?_
    refine zw_c (pc' := 22) (zw_cv (q := 72) (Y := zm_170) W.1 rfl rfl zm_170_t rfl rfl) rfl rfl rfl rfl rfl (zq_right0 W h0 (by decide)) ?_
    refine zw_rz rfl rfl (by decide) ?_
    rfl
  · refine zw_ld (n := 1) (k := 1) (f := zp_isI) (pc' := 6) rfl rfl rfl rfl rfl ?_
    refine zw_ld (n := 1) (k := 0) (f := zp_isR) (pc' := 7) rfl rfl rfl rfl rfl ?_
    refine zw_gI (q := 72) (pc' := 10) W rfl rfl rfl rfl rfl rfl ?_
    refine zw_bge2 (g := 17) (pc' := 13) rfl rfl rfl rfl rfl (fun h2 => ?_) (fun h2 => ?_)
    · refine zw_s (pc' := 18) rfl rfl ?_
      refine zw_s (pc' := 19) rfl rfl ?_
      refine zw_c (pc' := 22) (zw_cv (q := 72) (Y := zm_170) W.1 rfl rfl zm_170_t rfl rfl) rfl rfl rfl rfl rfl (zq_right0 W h0 (by decide)) ?_
      refine zw_rz rfl rfl (by decide) ?_
      rfl
    · omega

theorem yr_pil0 {L : Nat} {σ : Nat → Int32} {d : Nat} {H : zp_H} (W : zw_W H) {x1 : Int32} (hx : 0 ≤ x1.toInt ∧ x1.toInt < (H.2.1 72 7).toInt) (h4 : x1.toInt < 4) : zp_Call L σ (d + 3) 227 [.inr (.inr (some 73)), .inl x1, .inl (Int32.ofInt 0)] H (.inl (some (.inl (H.2.1 77 (3 * x1.toInt.toNat + 0)))), zw_I H 72 0 (Int32.ofInt 0)) := by
  have h0 : ((zw_I H 72 0 (Int32.ofInt 0)).2.1 72 0).toInt = 0 := congrArg Int32.toInt zw_eq
  have e7 : (zw_I H 72 0 (Int32.ofInt 0)).2.1 72 7 = H.2.1 72 7 := zw_ne rfl rfl
  have e1 : (Int32.ofInt 3 * x1).toInt = 3 * x1.toInt := zt_mul (by decide) (by omega)
  have e2 : (Int32.ofInt 3 * x1 + Int32.ofInt 0).toInt = 3 * x1.toInt + 0 := by rw [zt_add (by decide) (by omega), e1]
  have e3 : (Int32.ofInt 3 * x1 + Int32.ofInt 0).toInt.toNat = 3 * x1.toInt.toNat + 0 := by omega
  refine zw_ex (zw_met zm_227_t rfl rfl ?_)
  refine zw_ld (n := 1) (k := 0) (f := zp_isR) (pc' := 1) rfl rfl rfl rfl rfl ?_
  refine zw_s (pc' := 2) rfl rfl ?_
  refine zw_pI (q := 72) (pc' := 5) W rfl rfl rfl rfl rfl rfl ?_
  refine zw_ld (n := 1) (k := 0) (f := zp_isR) (pc' := 6) rfl rfl rfl rfl rfl ?_
  refine zw_ld (n := 1) (k := 1) (f := zp_isI) (pc' := 7) rfl rfl rfl rfl rfl ?_
  refine zw_c (pc' := 10) (zw_cv (q := 72) (Y := zm_228) (zw_W_I W).1 rfl rfl zm_228_t rfl rfl) rfl rfl rfl rfl rfl (yr_ip1 (zw_W_I W) h0 (by rw [e7]; exact hx)) ?_
  refine zw_beq1 (g := 35) (pc' := 13) rfl rfl rfl (rfl : _ = (1 : Int)) (fun h9 => absurd h9 (by decide)) (fun h1 => ?_)
  refine zw_ld (n := 1) (k := 0) (f := zp_isR) (pc' := 14) rfl rfl rfl rfl rfl ?_
  refine zw_ld (n := 1) (k := 2) (f := zp_isI) (pc' := 15) rfl rfl rfl rfl rfl ?_
  refine zw_s (pc' := 16) rfl rfl ?_
  refine zw_c (pc' := 19) (zw_cv (q := 72) (Y := zm_208) (zw_W_I W).1 rfl rfl zm_208_t rfl rfl) rfl rfl rfl rfl rfl (yr_wh1 (zw_W_I W) h0 ⟨by decide, by decide⟩) ?_
  refine zw_beq1 (g := 35) (pc' := 22) rfl rfl rfl (rfl : _ = (1 : Int)) (fun h9 => absurd h9 (by decide)) (fun h2 => ?_)
  refine zw_ld (n := 1) (k := 0) (f := zp_isR) (pc' := 23) rfl rfl rfl rfl rfl ?_
  refine zw_gR (q := 72) (pc' := 26) (zw_W_I W) rfl rfl rfl rfl ((zw_W_I W).2 72 17 _ rfl) rfl ?_
  refine zw_s (pc' := 27) rfl rfl ?_
  refine zw_ld (n := 1) (k := 1) (f := zp_isI) (pc' := 28) rfl rfl rfl rfl rfl ?_
  refine zw_imul (pc' := 29) rfl rfl ?_
  refine zw_ld (n := 1) (k := 2) (f := zp_isI) (pc' := 30) rfl rfl rfl rfl rfl ?_
  refine zw_iadd (pc' := 31) rfl rfl ?_
  refine zw_ia (q := 77) (pc' := 32) (zw_W_I W) rfl rfl (by decide) (⟨by omega, by show _ < ((12 : Nat) : Int); omega⟩) (zw_ne rfl rfl) rfl ?_
  refine zw_s (pc' := 36) rfl rfl ?_
  refine zw_ri rfl rfl ?_
  rw [e3]

theorem yr_pil1 {L : Nat} {σ : Nat → Int32} {d : Nat} {H : zp_H} (W : zw_W H) {x1 : Int32} (hx : 0 ≤ x1.toInt ∧ x1.toInt < (H.2.1 72 7).toInt) (h4 : x1.toInt < 4) : zp_Call L σ (d + 3) 227 [.inr (.inr (some 73)), .inl x1, .inl (Int32.ofInt 1)] H (.inl (some (.inl (H.2.1 77 (3 * x1.toInt.toNat + 1)))), zw_I H 72 0 (Int32.ofInt 0)) := by
  have h0 : ((zw_I H 72 0 (Int32.ofInt 0)).2.1 72 0).toInt = 0 := congrArg Int32.toInt zw_eq
  have e7 : (zw_I H 72 0 (Int32.ofInt 0)).2.1 72 7 = H.2.1 72 7 := zw_ne rfl rfl
  have e1 : (Int32.ofInt 3 * x1).toInt = 3 * x1.toInt := zt_mul (by decide) (by omega)
  have e2 : (Int32.ofInt 3 * x1 + Int32.ofInt 1).toInt = 3 * x1.toInt + 1 := by rw [zt_add (by decide) (by omega), e1]
  have e3 : (Int32.ofInt 3 * x1 + Int32.ofInt 1).toInt.toNat = 3 * x1.toInt.toNat + 1 := by omega
  refine zw_ex (zw_met zm_227_t rfl rfl ?_)
  refine zw_ld (n := 1) (k := 0) (f := zp_isR) (pc' := 1) rfl rfl rfl rfl rfl ?_
  refine zw_s (pc' := 2) rfl rfl ?_
  refine zw_pI (q := 72) (pc' := 5) W rfl rfl rfl rfl rfl rfl ?_
  refine zw_ld (n := 1) (k := 0) (f := zp_isR) (pc' := 6) rfl rfl rfl rfl rfl ?_
  refine zw_ld (n := 1) (k := 1) (f := zp_isI) (pc' := 7) rfl rfl rfl rfl rfl ?_
  refine zw_c (pc' := 10) (zw_cv (q := 72) (Y := zm_228) (zw_W_I W).1 rfl rfl zm_228_t rfl rfl) rfl rfl rfl rfl rfl (yr_ip1 (zw_W_I W) h0 (by rw [e7]; exact hx)) ?_
  refine zw_beq1 (g := 35) (pc' := 13) rfl rfl rfl (rfl : _ = (1 : Int)) (fun h9 => absurd h9 (by decide)) (fun h1 => ?_)
  refine zw_ld (n := 1) (k := 0) (f := zp_isR) (pc' := 14) rfl rfl rfl rfl rfl ?_
  refine zw_ld (n := 1) (k := 2) (f := zp_isI) (pc' := 15) rfl rfl rfl rfl rfl ?_
  refine zw_s (pc' := 16) rfl rfl ?_
  refine zw_c (pc' := 19) (zw_cv (q := 72) (Y := zm_208) (zw_W_I W).1 rfl rfl zm_208_t rfl rfl) rfl rfl rfl rfl rfl (yr_wh1 (zw_W_I W) h0 ⟨by decide, by decide⟩) ?_
  refine zw_beq1 (g := 35) (pc' := 22) rfl rfl rfl (rfl : _ = (1 : Int)) (fun h9 => absurd h9 (by decide)) (fun h2 => ?_)
  refine zw_ld (n := 1) (k := 0) (f := zp_isR) (pc' := 23) rfl rfl rfl rfl rfl ?_
  refine zw_gR (q := 72) (pc' := 26) (zw_W_I W) rfl rfl rfl rfl ((zw_W_I W).2 72 17 _ rfl) rfl ?_
  refine zw_s (pc' := 27) rfl rfl ?_
  refine zw_ld (n := 1) (k := 1) (f := zp_isI) (pc' := 28) rfl rfl rfl rfl rfl ?_
  refine zw_imul (pc' := 29) rfl rfl ?_
  refine zw_ld (n := 1) (k := 2) (f := zp_isI) (pc' := 30) rfl rfl rfl rfl rfl ?_
  refine zw_iadd (pc' := 31) rfl rfl ?_
  refine zw_ia (q := 77) (pc' := 32) (zw_W_I W) rfl rfl (by decide) (⟨by omega, by show _ < ((12 : Nat) : Int); omega⟩) (zw_ne rfl rfl) rfl ?_
  refine zw_s (pc' := 36) rfl rfl ?_
  refine zw_ri rfl rfl ?_
  rw [e3]

theorem yr_pil2 {L : Nat} {σ : Nat → Int32} {d : Nat} {H : zp_H} (W : zw_W H) {x1 : Int32} (hx : 0 ≤ x1.toInt ∧ x1.toInt < (H.2.1 72 7).toInt) (h4 : x1.toInt < 4) : zp_Call L σ (d + 3) 227 [.inr (.inr (some 73)), .inl x1, .inl (Int32.ofInt 2)] H (.inl (some (.inl (H.2.1 77 (3 * x1.toInt.toNat + 2)))), zw_I H 72 0 (Int32.ofInt 0)) := by
  have h0 : ((zw_I H 72 0 (Int32.ofInt 0)).2.1 72 0).toInt = 0 := congrArg Int32.toInt zw_eq
  have e7 : (zw_I H 72 0 (Int32.ofInt 0)).2.1 72 7 = H.2.1 72 7 := zw_ne rfl rfl
  have e1 : (Int32.ofInt 3 * x1).toInt = 3 * x1.toInt := zt_mul (by decide) (by omega)
  have e2 : (Int32.ofInt 3 * x1 + Int32.ofInt 2).toInt = 3 * x1.toInt + 2 := by rw [zt_add (by decide) (by omega), e1]
  have e3 : (Int32.ofInt 3 * x1 + Int32.ofInt 2).toInt.toNat = 3 * x1.toInt.toNat + 2 := by omega
  refine zw_ex (zw_met zm_227_t rfl rfl ?_)
  refine zw_ld (n := 1) (k := 0) (f := zp_isR) (pc' := 1) rfl rfl rfl rfl rfl ?_
  refine zw_s (pc' := 2) rfl rfl ?_
  refine zw_pI (q := 72) (pc' := 5) W rfl rfl rfl rfl rfl rfl ?_
  refine zw_ld (n := 1) (k := 0) (f := zp_isR) (pc' := 6) rfl rfl rfl rfl rfl ?_
  refine zw_ld (n := 1) (k := 1) (f := zp_isI) (pc' := 7) rfl rfl rfl rfl rfl ?_
  refine zw_c (pc' := 10) (zw_cv (q := 72) (Y := zm_228) (zw_W_I W).1 rfl rfl zm_228_t rfl rfl) rfl rfl rfl rfl rfl (yr_ip1 (zw_W_I W) h0 (by rw [e7]; exact hx)) ?_
  refine zw_beq1 (g := 35) (pc' := 13) rfl rfl rfl (rfl : _ = (1 : Int)) (fun h9 => absurd h9 (by decide)) (fun h1 => ?_)
  refine zw_ld (n := 1) (k := 0) (f := zp_isR) (pc' := 14) rfl rfl rfl rfl rfl ?_
  refine zw_ld (n := 1) (k := 2) (f := zp_isI) (pc' := 15) rfl rfl rfl rfl rfl ?_
  refine zw_s (pc' := 16) rfl rfl ?_
  refine zw_c (pc' := 19) (zw_cv (q := 72) (Y := zm_208) (zw_W_I W).1 rfl rfl zm_208_t rfl rfl) rfl rfl rfl rfl rfl (yr_wh1 (zw_W_I W) h0 ⟨by decide, by decide⟩) ?_
  refine zw_beq1 (g := 35) (pc' := 22) rfl rfl rfl (rfl : _ = (1 : Int)) (fun h9 => absurd h9 (by decide)) (fun h2 => ?_)
  refine zw_ld (n := 1) (k := 0) (f := zp_isR) (pc' := 23) rfl rfl rfl rfl rfl ?_
  refine zw_gR (q := 72) (pc' := 26) (zw_W_I W) rfl rfl rfl rfl ((zw_W_I W).2 72 17 _ rfl) rfl ?_
  refine zw_s (pc' := 27) rfl rfl ?_
  refine zw_ld (n := 1) (k := 1) (f := zp_isI) (pc' := 28) rfl rfl rfl rfl rfl ?_
  refine zw_imul (pc' := 29) rfl rfl ?_
  refine zw_ld (n := 1) (k := 2) (f := zp_isI) (pc' := 30) rfl rfl rfl rfl rfl ?_
  refine zw_iadd (pc' := 31) rfl rfl ?_
  refine zw_ia (q := 77) (pc' := 32) (zw_W_I W) rfl rfl (by decide) (⟨by omega, by show _ < ((12 : Nat) : Int); omega⟩) (zw_ne rfl rfl) rfl ?_
  refine zw_s (pc' := 36) rfl rfl ?_
  refine zw_ri rfl rfl ?_
  rw [e3]

theorem yr_pin {L : Nat} {σ : Nat → Int32} {d : Nat} {H : zp_H} (W : zw_W H) {x1 x2 : Int32} (h : ¬ ((0 ≤ x1.toInt ∧ x1.toInt < (H.2.1 72 7).toInt) ∧ 0 ≤ x2.toInt ∧ x2.toInt ≤ (Int32.ofInt 2).toInt)) : zp_Call L σ (d + 3) 227 [.inr (.inr (some 73)), .inl x1, .inl x2] H (.inl (some (.inl (Int32.ofInt 0))), zw_I (zw_I H 72 0 (Int32.ofInt 0)) 72 0 (Int32.ofInt 1)) := by
  have h0 : ((zw_I H 72 0 (Int32.ofInt 0)).2.1 72 0).toInt = 0 := congrArg Int32.toInt zw_eq
  have e7 : (zw_I H 72 0 (Int32.ofInt 0)).2.1 72 7 = H.2.1 72 7 := zw_ne rfl rfl
  refine zw_ex (zw_met zm_227_t rfl rfl ?_)
  refine zw_ld (n := 1) (k := 0) (f := zp_isR) (pc' := 1) rfl rfl rfl rfl rfl ?_
  refine zw_s (pc' := 2) rfl rfl ?_
  refine zw_pI (q := 72) (pc' := 5) W rfl rfl rfl rfl rfl rfl ?_
  refine zw_ld (n := 1) (k := 0) (f := zp_isR) (pc' := 6) rfl rfl rfl rfl rfl ?_
  refine zw_ld (n := 1) (k := 1) (f := zp_isI) (pc' := 7) rfl rfl rfl rfl rfl ?_
  by_cases hp : 0 ≤ x1.toInt ∧ x1.toInt < (H.2.1 72 7).toInt
  · refine zw_c (pc' := 10) (zw_cv (q := 72) (Y := zm_228) (zw_W_I W).1 rfl rfl zm_228_t rfl rfl) rfl rfl rfl rfl rfl (yr_ip1 (zw_W_I W) h0 (by rw [e7]; exact hp)) ?_
    refine zw_beq1 (g := 35) (pc' := 13) rfl rfl rfl (rfl : _ = (1 : Int)) (fun h9 => absurd h9 (by decide)) (fun h1 => ?_)
    refine zw_ld (n := 1) (k := 0) (f := zp_isR) (pc' := 14) rfl rfl rfl rfl rfl ?_
    refine zw_ld (n := 1) (k := 2) (f := zp_isI) (pc' := 15) rfl rfl rfl rfl rfl ?_
    refine zw_s (pc' := 16) rfl rfl ?_
    refine zw_c (pc' := 19) (zw_cv (q := 72) (Y := zm_208) (zw_W_I W).1 rfl rfl zm_208_t rfl rfl) rfl rfl rfl rfl rfl (yr_wh0 (zw_W_I W) h0 (fun h9 => h ⟨hp, h9⟩)) ?_
    refine zw_beq1 (g := 35) (pc' := 22) rfl rfl rfl (rfl : _ = (0 : Int)) (fun h2 => ?_) (fun h9 => absurd h9 (by decide))
    refine zw_s (pc' := 36) rfl rfl ?_
    refine zw_ri rfl rfl ?_
    rfl
  · refine zw_c (pc' := 10) (zw_cv (q := 72) (Y := zm_228) (zw_W_I W).1 rfl rfl zm_228_t rfl rfl) rfl rfl rfl rfl rfl (yr_ip0 (zw_W_I W) h0 (by rw [e7]; exact hp)) ?_
    refine zw_beq1 (g := 35) (pc' := 13) rfl rfl rfl (rfl : _ = (0 : Int)) (fun h1 => ?_) (fun h9 => absurd h9 (by decide))
    refine zw_s (pc' := 36) rfl rfl ?_
    refine zw_ri rfl rfl ?_
    rfl

theorem yb_pilot {L : Nat} {σ : Nat → Int32} {d c t : Nat} {H : zp_H} {x1 x2 : Int32} (hI : yI c t H) : ∃ H1 H2 v w, zp_Call L σ (d + 60) 132 [.inr (.inr (some 1)), .inl x1, .inl x2, .inr (.inr (some 105))] H (.inl (some (.inl v)), H1) ∧ zp_Call L σ (d + 60) 227 [.inr (.inr (some 73)), .inl x1, .inl x2] H1 (.inl (some (.inl w)), H2) ∧ H1.1 = zB_sh ∧ yI c t H2 ∧ (H2.2.1 72 0).toInt = v.toInt ∧ (v.toInt = 0 → H2.2.2.1 104 0 = w.toInt64) := by
  obtain ⟨H1, v, c1, hI1⟩ := yo_pilot (L := L) (σ := σ) (d := d) (x1 := x1) (x2 := x2) hI
  obtain ⟨H2, w, c2, hI2⟩ := yu_pilot (L := L) (σ := σ) (d := d) (x1 := x1) (x2 := x2) hI1
  have W1 := zB_Wd (zB_dn (zB_Bc hI1.1.1))
  obtain ⟨h0, hf, hr, -, hcu, -, hpi, -⟩ := hI.2.2
  have w7 := zT_fr1 (z0T_dn hI.1.2.1) (k := 7) (r := (0, 4)) rfl rfl
  have w7 : 0 ≤ (H.2.1 72 7).toInt ∧ (H.2.1 72 7).toInt ≤ 4 := w7
  rcases h0 with rfl | rfl
  · have f7 : H.2.1 2 12 = H.2.1 72 7 := hf (12, 7) (by decide)
    by_cases h : (0 ≤ x1.toInt ∧ x1.toInt < (H.2.1 72 7).toInt) ∧ 0 ≤ x2.toInt ∧ x2.toInt ≤ (Int32.ofInt 2).toInt
    · have hc := hpi x1.toInt.toNat (by omega)
      have k0 : H.2.1 7 x1.toInt.toNat = H.2.1 77 (3 * x1.toInt.toNat + 0) := hc.1
      have k1 : H.2.1 8 x1.toInt.toNat = H.2.1 77 (3 * x1.toInt.toNat + 1) := hc.2.1
      have k2 : H.2.1 9 x1.toInt.toNat = H.2.1 77 (3 * x1.toInt.toNat + 2) := hc.2.2
      rcases y012 h.2 with rfl | rfl | rfl
      · have e1 := zp_Call_u c1 (yl_pil0_0 (L := L) (σ := σ) (d := 0) hI.1.1 (by rw [f7]; exact h.1))
        cases e1
        have e2 := zp_Call_u c2 (yr_pil0 (L := L) (σ := σ) (d := 0) W1 h.1 (by omega))
        cases e2
        refine ⟨_, _, _, _, c1, c2, hI1.1.1.1, hI2, congrArg Int32.toInt zw_eq, fun _ => ?_⟩
        show (zw_J H 104 0 _).2.2.1 104 0 = (H.2.1 77 (3 * x1.toInt.toNat + 0)).toInt64
        rw [← k0]
        exact zp_u_self H.2.2.1 104 0 _
      · have e1 := zp_Call_u c1 (yl_pil0_1 (L := L) (σ := σ) (d := 0) hI.1.1 (by rw [f7]; exact h.1))
        cases e1
        have e2 := zp_Call_u c2 (yr_pil1 (L := L) (σ := σ) (d := 0) W1 h.1 (by omega))
        cases e2
        refine ⟨_, _, _, _, c1, c2, hI1.1.1.1, hI2, congrArg Int32.toInt zw_eq, fun _ => ?_⟩
        show (zw_J H 104 0 _).2.2.1 104 0 = (H.2.1 77 (3 * x1.toInt.toNat + 1)).toInt64
        rw [← k1]
        exact zp_u_self H.2.2.1 104 0 _
      · have e1 := zp_Call_u c1 (yl_pil0_2 (L := L) (σ := σ) (d := 0) hI.1.1 (by rw [f7]; exact h.1))
        cases e1
        have e2 := zp_Call_u c2 (yr_pil2 (L := L) (σ := σ) (d := 0) W1 h.1 (by omega))
        cases e2
        refine ⟨_, _, _, _, c1, c2, hI1.1.1.1, hI2, congrArg Int32.toInt zw_eq, fun _ => ?_⟩
        show (zw_J H 104 0 _).2.2.1 104 0 = (H.2.1 77 (3 * x1.toInt.toNat + 2)).toInt64
        rw [← k2]
        exact zp_u_self H.2.2.1 104 0 _
    · have e1 := zp_Call_u c1 (yl_pin0 (L := L) (σ := σ) (d := 0) hI.1.1 (by rw [f7]; exact h))
      cases e1
      have e2 := zp_Call_u c2 (yr_pin (L := L) (σ := σ) (d := 0) W1 h)
      cases e2
      exact ⟨_, _, _, _, c1, c2, hI1.1.1.1, hI2, congrArg Int32.toInt zw_eq, fun h9 => absurd h9 (by decide)⟩
  · have f7 : H.2.1 22 12 = H.2.1 72 7 := hf (12, 7) (by decide)
    by_cases h : (0 ≤ x1.toInt ∧ x1.toInt < (H.2.1 72 7).toInt) ∧ 0 ≤ x2.toInt ∧ x2.toInt ≤ (Int32.ofInt 2).toInt
    · have hc := hpi x1.toInt.toNat (by omega)
      have k0 : H.2.1 27 x1.toInt.toNat = H.2.1 77 (3 * x1.toInt.toNat + 0) := hc.1
      have k1 : H.2.1 28 x1.toInt.toNat = H.2.1 77 (3 * x1.toInt.toNat + 1) := hc.2.1
      have k2 : H.2.1 29 x1.toInt.toNat = H.2.1 77 (3 * x1.toInt.toNat + 2) := hc.2.2
      rcases y012 h.2 with rfl | rfl | rfl
      · have e1 := zp_Call_u c1 (yl_pil3_0 (L := L) (σ := σ) (d := 0) hI.1.1 (by rw [f7]; exact h.1))
        cases e1
        have e2 := zp_Call_u c2 (yr_pil0 (L := L) (σ := σ) (d := 0) W1 h.1 (by omega))
        cases e2
        refine ⟨_, _, _, _, c1, c2, hI1.1.1.1, hI2, congrArg Int32.toInt zw_eq, fun _ => ?_⟩
        show (zw_J H 104 0 _).2.2.1 104 0 = (H.2.1 77 (3 * x1.toInt.toNat + 0)).toInt64
        rw [← k0]
        exact zp_u_self H.2.2.1 104 0 _
      · have e1 := zp_Call_u c1 (yl_pil3_1 (L := L) (σ := σ) (d := 0) hI.1.1 (by rw [f7]; exact h.1))
        cases e1
        have e2 := zp_Call_u c2 (yr_pil1 (L := L) (σ := σ) (d := 0) W1 h.1 (by omega))
        cases e2
        refine ⟨_, _, _, _, c1, c2, hI1.1.1.1, hI2, congrArg Int32.toInt zw_eq, fun _ => ?_⟩
        show (zw_J H 104 0 _).2.2.1 104 0 = (H.2.1 77 (3 * x1.toInt.toNat + 1)).toInt64
        rw [← k1]
        exact zp_u_self H.2.2.1 104 0 _
      · have e1 := zp_Call_u c1 (yl_pil3_2 (L := L) (σ := σ) (d := 0) hI.1.1 (by rw [f7]; exact h.1))
        cases e1
        have e2 := zp_Call_u c2 (yr_pil2 (L := L) (σ := σ) (d := 0) W1 h.1 (by omega))
        cases e2
        refine ⟨_, _, _, _, c1, c2, hI1.1.1.1, hI2, congrArg Int32.toInt zw_eq, fun _ => ?_⟩
        show (zw_J H 104 0 _).2.2.1 104 0 = (H.2.1 77 (3 * x1.toInt.toNat + 2)).toInt64
        rw [← k2]
        exact zp_u_self H.2.2.1 104 0 _
    · have e1 := zp_Call_u c1 (yl_pin3 (L := L) (σ := σ) (d := 0) hI.1.1 (by rw [f7]; exact h))
      cases e1
      have e2 := zp_Call_u c2 (yr_pin (L := L) (σ := σ) (d := 0) W1 h)
      cases e2
      exact ⟨_, _, _, _, c1, c2, hI1.1.1.1, hI2, congrArg Int32.toInt zw_eq, fun h9 => absurd h9 (by decide)⟩
