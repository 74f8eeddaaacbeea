/-! ===== slate ===== -/
def zm_106 : za_MI := (yL_slate, method_6_code, 5, (some FieldType.int), 13, 2, 12, [(0, 10, 13, 18)], za_i106)
theorem zm_106_t : za_MT 106 = some zm_106 := rfl
def zm_107 : za_MI := (yX11_slate, prog_1_method_9_code, 3, (some FieldType.int), 11, 2, 12, [], za_i107)
theorem zm_107_t : za_MT 107 = some zm_107 := rfl
def zm_209 : za_MI := (yX12_slate, prog_14_method_50_code, 3, (some FieldType.int), 12, 0, 0, [], za_i209)
theorem zm_209_t : za_MT 209 = some zm_209 := rfl
theorem y0123 {x : Int32} (h : 0 ≤ x.toInt ∧ x.toInt ≤ (Int32.ofInt 3).toInt) : x = Int32.ofInt 0 ∨ x = Int32.ofInt 1 ∨ x = Int32.ofInt 2 ∨ x = Int32.ofInt 3 := by
  have h2 : x.toInt ≤ 3 := h.2
  rcases (show x.toInt = 0 ∨ x.toInt = 1 ∨ x.toInt = 2 ∨ x.toInt = 3 by omega) with h9 | h9 | h9 | h9
  · exact Or.inl (Int32.toInt_inj.mp h9)
  · exact Or.inr (Or.inl (Int32.toInt_inj.mp h9))
  · exact Or.inr (Or.inr (Or.inl (Int32.toInt_inj.mp h9)))
  · exact Or.inr (Or.inr (Or.inr (Int32.toInt_inj.mp h9)))

theorem yc_sl0_0 {L : Nat} {σ : Nat → Int32} {d : Nat} {H : zp_H} {x1 : Int32} (hB : zk_Bs (zB_c 0) zg zJc H) (hs : 0 ≤ x1.toInt ∧ x1.toInt < (H.2.1 13 0).toInt) : zp_Call L σ (d + 2) 107 [.inr (.inr (some 1)), .inl x1, .inl (Int32.ofInt 0)] H (.inl (some (.inl (H.2.1 14 x1.toInt.toNat))), H) := by
  have W := zB_Wd (zB_dn (zB_Bc hB))
  have g5 : H.2.2.2 0 5 = some 3 := hB.2.1 0 5 _ rfl
  have g6 : H.2.2.2 0 6 = some 14 := hB.2.1 0 6 _ rfl
  have g7 : H.2.2.2 0 7 = some 23 := hB.2.1 0 7 _ rfl
  have g8 : H.2.2.2 0 8 = some 34 := hB.2.1 0 8 _ rfl
  have r13_0 := zB_fr1 (zB_dn (zB_Bc hB)) (p := 13) (k := 0) (r := (0, 8)) rfl
  have r13_0 : 0 ≤ (H.2.1 13 0).toInt ∧ (H.2.1 13 0).toInt ≤ 8 := r13_0
  refine zw_ex (zw_met zm_107_t rfl rfl ?_)
  refine zw_ld (n := 1) (k := 0) (f := zp_isR) (pc' := 1) rfl rfl rfl rfl rfl ?_
  refine zw_ld (n := 1) (k := 1) (f := zp_isI) (pc' := 2) rfl rfl rfl rfl rfl ?_
  refine zw_ctn (pc' := 5) (c' := (1, 6)) (zw_cv (q := 0) (Y := zm_108) W.1 rfl rfl zm_108_t rfl rfl) (zw_pb_ok rfl) rfl rfl rfl rfl (yc_ns1_0 hB hs) ?_
  refine zw_ld (n := 1) (k := 2) (f := zp_isI) (pc' := 6) rfl rfl rfl rfl rfl ?_
  refine zw_s (pc' := 7) rfl rfl ?_
  refine zw_ctn (pc' := 10) (c' := (2, 12)) (zw_cs (Y := zm_104) rfl rfl zm_104_t) (zw_pb_ok rfl) rfl rfl rfl rfl (yc_nw1 ⟨by decide, by decide⟩) ?_
  refine zw_ld (n := 1) (k := 2) (f := zp_isI) (pc' := 11) rfl rfl rfl rfl rfl ?_
  refine zw_s (pc' := 36) rfl rfl ?_
  refine zw_ld (n := 1) (k := 0) (f := zp_isR) (pc' := 37) rfl rfl rfl rfl rfl ?_
  refine zw_gR (q := 0) (pc' := 40) W rfl rfl rfl rfl g6 rfl ?_
  refine zw_gR (q := 13) (pc' := 43) W rfl rfl rfl rfl (W.2 13 1 _ rfl) rfl ?_
  refine zw_ld (n := 1) (k := 1) (f := zp_isI) (pc' := 44) rfl rfl rfl rfl rfl ?_
  refine zw_ia (q := 14) (pc' := 45) W rfl rfl (by decide) (⟨hs.1, by show _ < ((8 : Nat) : Int); omega⟩) rfl rfl ?_
  refine zw_rig rfl rfl ⟨by decide, by decide⟩ ?_
  rfl

theorem yl_sl0_0 {L : Nat} {σ : Nat → Int32} {d : Nat} {H : zp_H} {x1 : Int32} (hB : zk_Bs (zB_c 0) zg zJc H) (hs : 0 ≤ x1.toInt ∧ x1.toInt < (H.2.1 13 0).toInt) : zp_Call L σ (d + 3) 106 [.inr (.inr (some 1)), .inl x1, .inl (Int32.ofInt 0), .inr (.inr (some 105))] H (.inl (some (.inl (Int32.ofInt 0))), zw_J H 104 0 (H.2.1 14 x1.toInt.toNat).toInt64) := by
  have W := zB_Wd (zB_dn (zB_Bc hB))
  refine zw_ex (zw_met zm_106_t rfl rfl ?_)
  refine zw_ld (n := 1) (k := 3) (f := zp_isR) (pc' := 1) rfl rfl rfl rfl rfl ?_
  refine zw_s (pc' := 2) rfl rfl ?_
  refine zw_ld (n := 1) (k := 0) (f := zp_isR) (pc' := 3) rfl rfl rfl rfl rfl ?_
  refine zw_ld (n := 1) (k := 1) (f := zp_isI) (pc' := 4) rfl rfl rfl rfl rfl ?_
  refine zw_ld (n := 1) (k := 2) (f := zp_isI) (pc' := 5) rfl rfl rfl rfl rfl ?_
  refine zw_ct (pc' := 8) (c' := (2, 12)) (zw_cv (q := 0) (Y := zm_107) W.1 rfl rfl zm_107_t rfl rfl) (zw_pb_ok rfl) rfl rfl rfl rfl (yc_sl0_0 hB hs) ?_
  refine zw_s (pc' := 9) rfl rfl ?_
  refine zw_ls (q := 104) (pc' := 10) W rfl rfl (⟨by decide, by decide⟩) rfl ?_
  refine zw_s (pc' := 17) rfl rfl ?_
  refine zw_s (pc' := 18) rfl rfl ?_
  refine zw_rig rfl rfl ⟨by decide, by decide⟩ ?_
  rfl

theorem yc_sl0_1 {L : Nat} {σ : Nat → Int32} {d : Nat} {H : zp_H} {x1 : Int32} (hB : zk_Bs (zB_c 0) zg zJc H) (hs : 0 ≤ x1.toInt ∧ x1.toInt < (H.2.1 13 0).toInt) : zp_Call L σ (d + 2) 107 [.inr (.inr (some 1)), .inl x1, .inl (Int32.ofInt 1)] H (.inl (some (.inl (H.2.1 15 x1.toInt.toNat))), H) := by
  have W := zB_Wd (zB_dn (zB_Bc hB))
  have g5 : H.2.2.2 0 5 = some 3 := hB.2.1 0 5 _ rfl
  have g6 : H.2.2.2 0 6 = some 14 := hB.2.1 0 6 _ rfl
  have g7 : H.2.2.2 0 7 = some 23 := hB.2.1 0 7 _ rfl
  have g8 : H.2.2.2 0 8 = some 34 := hB.2.1 0 8 _ rfl
  have r13_0 := zB_fr1 (zB_dn (zB_Bc hB)) (p := 13) (k := 0) (r := (0, 8)) rfl
  have r13_0 : 0 ≤ (H.2.1 13 0).toInt ∧ (H.2.1 13 0).toInt ≤ 8 := r13_0
  refine zw_ex (zw_met zm_107_t rfl rfl ?_)
  refine zw_ld (n := 1) (k := 0) (f := zp_isR) (pc' := 1) rfl rfl rfl rfl rfl ?_
  refine zw_ld (n := 1) (k := 1) (f := zp_isI) (pc' := 2) rfl rfl rfl rfl rfl ?_
  refine zw_ctn (pc' := 5) (c' := (1, 6)) (zw_cv (q := 0) (Y := zm_108) W.1 rfl rfl zm_108_t rfl rfl) (zw_pb_ok rfl) rfl rfl rfl rfl (yc_ns1_0 hB hs) ?_
  refine zw_ld (n := 1) (k := 2) (f := zp_isI) (pc' := 6) rfl rfl rfl rfl rfl ?_
  refine zw_s (pc' := 7) rfl rfl ?_
  refine zw_ctn (pc' := 10) (c' := (2, 12)) (zw_cs (Y := zm_104) rfl rfl zm_104_t) (zw_pb_ok rfl) rfl rfl rfl rfl (yc_nw1 ⟨by decide, by decide⟩) ?_
  refine zw_ld (n := 1) (k := 2) (f := zp_isI) (pc' := 11) rfl rfl rfl rfl rfl ?_
  refine zw_s (pc' := 46) rfl rfl ?_
  refine zw_ld (n := 1) (k := 0) (f := zp_isR) (pc' := 47) rfl rfl rfl rfl rfl ?_
  refine zw_gR (q := 0) (pc' := 50) W rfl rfl rfl rfl g6 rfl ?_
  refine zw_gR (q := 13) (pc' := 53) W rfl rfl rfl rfl (W.2 13 2 _ rfl) rfl ?_
  refine zw_ld (n := 1) (k := 1) (f := zp_isI) (pc' := 54) rfl rfl rfl rfl rfl ?_
  refine zw_ia (q := 15) (pc' := 55) W rfl rfl (by decide) (⟨hs.1, by show _ < ((8 : Nat) : Int); omega⟩) rfl rfl ?_
  refine zw_rig rfl rfl ⟨by decide, by decide⟩ ?_
  rfl

theorem yl_sl0_1 {L : Nat} {σ : Nat → Int32} {d : Nat} {H : zp_H} {x1 : Int32} (hB : zk_Bs (zB_c 0) zg zJc H) (hs : 0 ≤ x1.toInt ∧ x1.toInt < (H.2.1 13 0).toInt) : zp_Call L σ (d + 3) 106 [.inr (.inr (some 1)), .inl x1, .inl (Int32.ofInt 1), .inr (.inr (some 105))] H (.inl (some (.inl (Int32.ofInt 0))), zw_J H 104 0 (H.2.1 15 x1.toInt.toNat).toInt64) := by
  have W := zB_Wd (zB_dn (zB_Bc hB))
  refine zw_ex (zw_met zm_106_t rfl rfl ?_)
  refine zw_ld (n := 1) (k := 3) (f := zp_isR) (pc' := 1) rfl rfl rfl rfl rfl ?_
  refine zw_s (pc' := 2) rfl rfl ?_
  refine zw_ld (n := 1) (k := 0) (f := zp_isR) (pc' := 3) rfl rfl rfl rfl rfl ?_
  refine zw_ld (n := 1) (k := 1) (f := zp_isI) (pc' := 4) rfl rfl rfl rfl rfl ?_
  refine zw_ld (n := 1) (k := 2) (f := zp_isI) (pc' := 5) rfl rfl rfl rfl rfl ?_
  refine zw_ct (pc' := 8) (c' := (2, 12)) (zw_cv (q := 0) (Y := zm_107) W.1 rfl rfl zm_107_t rfl rfl) (zw_pb_ok rfl) rfl rfl rfl rfl (yc_sl0_1 hB hs) ?_
  refine zw_s (pc' := 9) rfl rfl ?_
  refine zw_ls (q := 104) (pc' := 10) W rfl rfl (⟨by decide, by decide⟩) rfl ?_
  refine zw_s (pc' := 17) rfl rfl ?_
  refine zw_s (pc' := 18) rfl rfl ?_
  refine zw_rig rfl rfl ⟨by decide, by decide⟩ ?_
  rfl

theorem yc_sl0_2 {L : Nat} {σ : Nat → Int32} {d : Nat} {H : zp_H} {x1 : Int32} (hB : zk_Bs (zB_c 0) zg zJc H) (hs : 0 ≤ x1.toInt ∧ x1.toInt < (H.2.1 13 0).toInt) : zp_Call L σ (d + 2) 107 [.inr (.inr (some 1)), .inl x1, .inl (Int32.ofInt 2)] H (.inl (some (.inl (H.2.1 16 x1.toInt.toNat))), H) := by
  have W := zB_Wd (zB_dn (zB_Bc hB))
  have g5 : H.2.2.2 0 5 = some 3 := hB.2.1 0 5 _ rfl
  have g6 : H.2.2.2 0 6 = some 14 := hB.2.1 0 6 _ rfl
  have g7 : H.2.2.2 0 7 = some 23 := hB.2.1 0 7 _ rfl
  have g8 : H.2.2.2 0 8 = some 34 := hB.2.1 0 8 _ rfl
  have r13_0 := zB_fr1 (zB_dn (zB_Bc hB)) (p := 13) (k := 0) (r := (0, 8)) rfl
  have r13_0 : 0 ≤ (H.2.1 13 0).toInt ∧ (H.2.1 13 0).toInt ≤ 8 := r13_0
  refine zw_ex (zw_met zm_107_t rfl rfl ?_)
  refine zw_ld (n := 1) (k := 0) (f := zp_isR) (pc' := 1) rfl rfl rfl rfl rfl ?_
  refine zw_ld (n := 1) (k := 1) (f := zp_isI) (pc' := 2) rfl rfl rfl rfl rfl ?_
  refine zw_ctn (pc' := 5) (c' := (1, 6)) (zw_cv (q := 0) (Y := zm_108) W.1 rfl rfl zm_108_t rfl rfl) (zw_pb_ok rfl) rfl rfl rfl rfl (yc_ns1_0 hB hs) ?_
  refine zw_ld (n := 1) (k := 2) (f := zp_isI) (pc' := 6) rfl rfl rfl rfl rfl ?_
  refine zw_s (pc' := 7) rfl rfl ?_
  refine zw_ctn (pc' := 10) (c' := (2, 12)) (zw_cs (Y := zm_104) rfl rfl zm_104_t) (zw_pb_ok rfl) rfl rfl rfl rfl (yc_nw1 ⟨by decide, by decide⟩) ?_
  refine zw_ld (n := 1) (k := 2) (f := zp_isI) (pc' := 11) rfl rfl rfl rfl rfl ?_
  refine zw_s (pc' := 56) rfl rfl ?_
  refine zw_ld (n := 1) (k := 0) (f := zp_isR) (pc' := 57) rfl rfl rfl rfl rfl ?_
  refine zw_gR (q := 0) (pc' := 60) W rfl rfl rfl rfl g6 rfl ?_
  refine zw_gR (q := 13) (pc' := 63) W rfl rfl rfl rfl (W.2 13 3 _ rfl) rfl ?_
  refine zw_ld (n := 1) (k := 1) (f := zp_isI) (pc' := 64) rfl rfl rfl rfl rfl ?_
  refine zw_ia (q := 16) (pc' := 65) W rfl rfl (by decide) (⟨hs.1, by show _ < ((8 : Nat) : Int); omega⟩) rfl rfl ?_
  refine zw_rig rfl rfl ⟨by decide, by decide⟩ ?_
  rfl

theorem yl_sl0_2 {L : Nat} {σ : Nat → Int32} {d : Nat} {H : zp_H} {x1 : Int32} (hB : zk_Bs (zB_c 0) zg zJc H) (hs : 0 ≤ x1.toInt ∧ x1.toInt < (H.2.1 13 0).toInt) : zp_Call L σ (d + 3) 106 [.inr (.inr (some 1)), .inl x1, .inl (Int32.ofInt 2), .inr (.inr (some 105))] H (.inl (some (.inl (Int32.ofInt 0))), zw_J H 104 0 (H.2.1 16 x1.toInt.toNat).toInt64) := by
  have W := zB_Wd (zB_dn (zB_Bc hB))
  refine zw_ex (zw_met zm_106_t rfl rfl ?_)
  refine zw_ld (n := 1) (k := 3) (f := zp_isR) (pc' := 1) rfl rfl rfl rfl rfl ?_
  refine zw_s (pc' := 2) rfl rfl ?_
  refine zw_ld (n := 1) (k := 0) (f := zp_isR) (pc' := 3) rfl rfl rfl rfl rfl ?_
  refine zw_ld (n := 1) (k := 1) (f := zp_isI) (pc' := 4) rfl rfl rfl rfl rfl ?_
  refine zw_ld (n := 1) (k := 2) (f := zp_isI) (pc' := 5) rfl rfl rfl rfl rfl ?_
  refine zw_ct (pc' := 8) (c' := (2, 12)) (zw_cv (q := 0) (Y := zm_107) W.1 rfl rfl zm_107_t rfl rfl) (zw_pb_ok rfl) rfl rfl rfl rfl (yc_sl0_2 hB hs) ?_
  refine zw_s (pc' := 9) rfl rfl ?_
  refine zw_ls (q := 104) (pc' := 10) W rfl rfl (⟨by decide, by decide⟩) rfl ?_
  refine zw_s (pc' := 17) rfl rfl ?_
  refine zw_s (pc' := 18) rfl rfl ?_
  refine zw_rig rfl rfl ⟨by decide, by decide⟩ ?_
  rfl

theorem yc_sl0_3 {L : Nat} {σ : Nat → Int32} {d : Nat} {H : zp_H} {x1 : Int32} (hB : zk_Bs (zB_c 0) zg zJc H) (hs : 0 ≤ x1.toInt ∧ x1.toInt < (H.2.1 13 0).toInt) : zp_Call L σ (d + 2) 107 [.inr (.inr (some 1)), .inl x1, .inl (Int32.ofInt 3)] H (.inl (some (.inl (H.2.1 17 x1.toInt.toNat))), H) := by
  have W := zB_Wd (zB_dn (zB_Bc hB))
  have g5 : H.2.2.2 0 5 = some 3 := hB.2.1 0 5 _ rfl
  have g6 : H.2.2.2 0 6 = some 14 := hB.2.1 0 6 _ rfl
  have g7 : H.2.2.2 0 7 = some 23 := hB.2.1 0 7 _ rfl
  have g8 : H.2.2.2 0 8 = some 34 := hB.2.1 0 8 _ rfl
  have r13_0 := zB_fr1 (zB_dn (zB_Bc hB)) (p := 13) (k := 0) (r := (0, 8)) rfl
  have r13_0 : 0 ≤ (H.2.1 13 0).toInt ∧ (H.2.1 13 0).toInt ≤ 8 := r13_0
  refine zw_ex (zw_met zm_107_t rfl rfl ?_)
  refine zw_ld (n := 1) (k := 0) (f := zp_isR) (pc' := 1) rfl rfl rfl rfl rfl ?_
  refine zw_ld (n := 1) (k := 1) (f := zp_isI) (pc' := 2) rfl rfl rfl rfl rfl ?_
  refine zw_ctn (pc' := 5) (c' := (1, 6)) (zw_cv (q := 0) (Y := zm_108) W.1 rfl rfl zm_108_t rfl rfl) (zw_pb_ok rfl) rfl rfl rfl rfl (yc_ns1_0 hB hs) ?_
  refine zw_ld (n := 1) (k := 2) (f := zp_isI) (pc' := 6) rfl rfl rfl rfl rfl ?_
  refine zw_s (pc' := 7) rfl rfl ?_
  refine zw_ctn (pc' := 10) (c' := (2, 12)) (zw_cs (Y := zm_104) rfl rfl zm_104_t) (zw_pb_ok rfl) rfl rfl rfl rfl (yc_nw1 ⟨by decide, by decide⟩) ?_
  refine zw_ld (n := 1) (k := 2) (f := zp_isI) (pc' := 11) rfl rfl rfl rfl rfl ?_
  refine zw_s (pc' := 66) rfl rfl ?_
  refine zw_ld (n := 1) (k := 0) (f := zp_isR) (pc' := 67) rfl rfl rfl rfl rfl ?_
  refine zw_gR (q := 0) (pc' := 70) W rfl rfl rfl rfl g6 rfl ?_
  refine zw_gR (q := 13) (pc' := 73) W rfl rfl rfl rfl (W.2 13 4 _ rfl) rfl ?_
  refine zw_ld (n := 1) (k := 1) (f := zp_isI) (pc' := 74) rfl rfl rfl rfl rfl ?_
  refine zw_ia (q := 17) (pc' := 75) W rfl rfl (by decide) (⟨hs.1, by show _ < ((8 : Nat) : Int); omega⟩) rfl rfl ?_
  refine zw_rig rfl rfl ⟨by decide, by decide⟩ ?_
  rfl

theorem yl_sl0_3 {L : Nat} {σ : Nat → Int32} {d : Nat} {H : zp_H} {x1 : Int32} (hB : zk_Bs (zB_c 0) zg zJc H) (hs : 0 ≤ x1.toInt ∧ x1.toInt < (H.2.1 13 0).toInt) : zp_Call L σ (d + 3) 106 [.inr (.inr (some 1)), .inl x1, .inl (Int32.ofInt 3), .inr (.inr (some 105))] H (.inl (some (.inl (Int32.ofInt 0))), zw_J H 104 0 (H.2.1 17 x1.toInt.toNat).toInt64) := by
  have W := zB_Wd (zB_dn (zB_Bc hB))
  refine zw_ex (zw_met zm_106_t rfl rfl ?_)
  refine zw_ld (n := 1) (k := 3) (f := zp_isR) (pc' := 1) rfl rfl rfl rfl rfl ?_
  refine zw_s (pc' := 2) rfl rfl ?_
  refine zw_ld (n := 1) (k := 0) (f := zp_isR) (pc' := 3) rfl rfl rfl rfl rfl ?_
  refine zw_ld (n := 1) (k := 1) (f := zp_isI) (pc' := 4) rfl rfl rfl rfl rfl ?_
  refine zw_ld (n := 1) (k := 2) (f := zp_isI) (pc' := 5) rfl rfl rfl rfl rfl ?_
  refine zw_ct (pc' := 8) (c' := (2, 12)) (zw_cv (q := 0) (Y := zm_107) W.1 rfl rfl zm_107_t rfl rfl) (zw_pb_ok rfl) rfl rfl rfl rfl (yc_sl0_3 hB hs) ?_
  refine zw_s (pc' := 9) rfl rfl ?_
  refine zw_ls (q := 104) (pc' := 10) W rfl rfl (⟨by decide, by decide⟩) rfl ?_
  refine zw_s (pc' := 17) rfl rfl ?_
  refine zw_s (pc' := 18) rfl rfl ?_
  refine zw_rig rfl rfl ⟨by decide, by decide⟩ ?_
  rfl

theorem yc_sln0 {L : Nat} {σ : Nat → Int32} {d : Nat} {H : zp_H} {x1 x2 : Int32} (hB : zk_Bs (zB_c 0) zg zJc H) (h : ¬ ((0 ≤ x1.toInt ∧ x1.toInt < (H.2.1 13 0).toInt) ∧ 0 ≤ x2.toInt ∧ x2.toInt ≤ (Int32.ofInt 3).toInt)) : zp_Call L σ (d + 2) 107 [.inr (.inr (some 1)), .inl x1, .inl x2] H (.inr 0, H) := by
  have W := zB_Wd (zB_dn (zB_Bc hB))
  have g5 : H.2.2.2 0 5 = some 3 := hB.2.1 0 5 _ rfl
  have g6 : H.2.2.2 0 6 = some 14 := hB.2.1 0 6 _ rfl
  have g7 : H.2.2.2 0 7 = some 23 := hB.2.1 0 7 _ rfl
  have g8 : H.2.2.2 0 8 = some 34 := hB.2.1 0 8 _ rfl
  refine zw_ex (zw_met zm_107_t rfl rfl ?_)
  refine zw_ld (n := 1) (k := 0) (f := zp_isR) (pc' := 1) rfl rfl rfl rfl rfl ?_
  refine zw_ld (n := 1) (k := 1) (f := zp_isI) (pc' := 2) rfl rfl rfl rfl rfl ?_
  by_cases hp : 0 ≤ x1.toInt ∧ x1.toInt < (H.2.1 13 0).toInt
  · refine zw_ctn (pc' := 5) (c' := (1, 6)) (zw_cv (q := 0) (Y := zm_108) W.1 rfl rfl zm_108_t rfl rfl) (zw_pb_ok rfl) rfl rfl rfl rfl (yc_ns1_0 hB hp) ?_
    refine zw_ld (n := 1) (k := 2) (f := zp_isI) (pc' := 6) rfl rfl rfl rfl rfl ?_
    refine zw_s (pc' := 7) rfl rfl ?_
    refine zw_cthr (ex := 0) (zw_cs (Y := zm_104) rfl rfl zm_104_t) (zw_pb_ok rfl) rfl rfl (yc_nw0 (fun h9 => h ⟨hp, h9⟩)) ?_
    rfl
  · refine zw_cthr (ex := 0) (zw_cv (q := 0) (Y := zm_108) W.1 rfl rfl zm_108_t rfl rfl) (zw_pb_ok rfl) rfl rfl (yc_ns0_0 hB hp) ?_
    rfl

theorem yl_sln0 {L : Nat} {σ : Nat → Int32} {d : Nat} {H : zp_H} {x1 x2 : Int32} (hB : zk_Bs (zB_c 0) zg zJc H) (h : ¬ ((0 ≤ x1.toInt ∧ x1.toInt < (H.2.1 13 0).toInt) ∧ 0 ≤ x2.toInt ∧ x2.toInt ≤ (Int32.ofInt 3).toInt)) : zp_Call L σ (d + 3) 106 [.inr (.inr (some 1)), .inl x1, .inl x2, .inr (.inr (some 105))] H (.inl (some (.inl (Int32.ofInt 1))), H) := by
  have W := zB_Wd (zB_dn (zB_Bc hB))
  refine zw_ex (zw_met zm_106_t rfl rfl ?_)
  refine zw_ld (n := 1) (k := 3) (f := zp_isR) (pc' := 1) rfl rfl rfl rfl rfl ?_
  refine zw_s (pc' := 2) rfl rfl ?_
  refine zw_ld (n := 1) (k := 0) (f := zp_isR) (pc' := 3) rfl rfl rfl rfl rfl ?_
  refine zw_ld (n := 1) (k := 1) (f := zp_isI) (pc' := 4) rfl rfl rfl rfl rfl ?_
  refine zw_ld (n := 1) (k := 2) (f := zp_isI) (pc' := 5) rfl rfl rfl rfl rfl ?_
  refine zw_cexw (ex := 0) (hp9 := 13) (k9 := 4) (pc' := 15) (c' := (2, 12)) (zw_cv (q := 0) (Y := zm_107) W.1 rfl rfl zm_107_t rfl rfl) (zw_pb_ok rfl) rfl rfl rfl rfl rfl rfl rfl (yc_sln0 hB h) ?_
  refine zw_s (pc' := 16) rfl rfl ?_
  refine zw_rig rfl rfl ⟨by decide, by decide⟩ ?_
  rfl

theorem yc_sl3_0 {L : Nat} {σ : Nat → Int32} {d : Nat} {H : zp_H} {x1 : Int32} (hB : zk_Bs (zB_c 3) zg zJc H) (hs : 0 ≤ x1.toInt ∧ x1.toInt < (H.2.1 33 0).toInt) : zp_Call L σ (d + 2) 107 [.inr (.inr (some 1)), .inl x1, .inl (Int32.ofInt 0)] H (.inl (some (.inl (H.2.1 34 x1.toInt.toNat))), H) := by
  have W := zB_Wd (zB_dn (zB_Bc hB))
  have g5 : H.2.2.2 0 5 = some 23 := hB.2.1 0 5 _ rfl
  have g6 : H.2.2.2 0 6 = some 34 := hB.2.1 0 6 _ rfl
  have g7 : H.2.2.2 0 7 = some 3 := hB.2.1 0 7 _ rfl
  have g8 : H.2.2.2 0 8 = some 14 := hB.2.1 0 8 _ rfl
  have r33_0 := zB_fr1 (zB_dn (zB_Bc hB)) (p := 33) (k := 0) (r := (0, 8)) rfl
  have r33_0 : 0 ≤ (H.2.1 33 0).toInt ∧ (H.2.1 33 0).toInt ≤ 8 := r33_0
  refine zw_ex (zw_met zm_107_t rfl rfl ?_)
  refine zw_ld (n := 1) (k := 0) (f := zp_isR) (pc' := 1) rfl rfl rfl rfl rfl ?_
  refine zw_ld (n := 1) (k := 1) (f := zp_isI) (pc' := 2) rfl rfl rfl rfl rfl ?_
  refine zw_ctn (pc' := 5) (c' := (1, 6)) (zw_cv (q := 0) (Y := zm_108) W.1 rfl rfl zm_108_t rfl rfl) (zw_pb_ok rfl) rfl rfl rfl rfl (yc_ns1_3 hB hs) ?_
  refine zw_ld (n := 1) (k := 2) (f := zp_isI) (pc' := 6) rfl rfl rfl rfl rfl ?_
  refine zw_s (pc' := 7) rfl rfl ?_
  refine zw_ctn (pc' := 10) (c' := (2, 12)) (zw_cs (Y := zm_104) rfl rfl zm_104_t) (zw_pb_ok rfl) rfl rfl rfl rfl (yc_nw1 ⟨by decide, by decide⟩) ?_
  refine zw_ld (n := 1) (k := 2) (f := zp_isI) (pc' := 11) rfl rfl rfl rfl rfl ?_
  refine zw_s (pc' := 36) rfl rfl ?_
  refine zw_ld (n := 1) (k := 0) (f := zp_isR) (pc' := 37) rfl rfl rfl rfl rfl ?_
  refine zw_gR (q := 0) (pc' := 40) W rfl rfl rfl rfl g6 rfl ?_
  refine zw_gR (q := 33) (pc' := 43) W rfl rfl rfl rfl (W.2 33 1 _ rfl) rfl ?_
  refine zw_ld (n := 1) (k := 1) (f := zp_isI) (pc' := 44) rfl rfl rfl rfl rfl ?_
  refine zw_ia (q := 34) (pc' := 45) W rfl rfl (by decide) (⟨hs.1, by show _ < ((8 : Nat) : Int); omega⟩) rfl rfl ?_
  refine zw_rig rfl rfl ⟨by decide, by decide⟩ ?_
  rfl

theorem yl_sl3_0 {L : Nat} {σ : Nat → Int32} {d : Nat} {H : zp_H} {x1 : Int32} (hB : zk_Bs (zB_c 3) zg zJc H) (hs : 0 ≤ x1.toInt ∧ x1.toInt < (H.2.1 33 0).toInt) : zp_Call L σ (d + 3) 106 [.inr (.inr (some 1)), .inl x1, .inl (Int32.ofInt 0), .inr (.inr (some 105))] H (.inl (some (.inl (Int32.ofInt 0))), zw_J H 104 0 (H.2.1 34 x1.toInt.toNat).toInt64) := by
  have W := zB_Wd (zB_dn (zB_Bc hB))
  refine zw_ex (zw_met zm_106_t rfl rfl ?_)
  refine zw_ld (n := 1) (k := 3) (f := zp_isR) (pc' := 1) rfl rfl rfl rfl rfl ?_
  refine zw_s (pc' := 2) rfl rfl ?_
  refine zw_ld (n := 1) (k := 0) (f := zp_isR) (pc' := 3) rfl rfl rfl rfl rfl ?_
  refine zw_ld (n := 1) (k := 1) (f := zp_isI) (pc' := 4) rfl rfl rfl rfl rfl ?_
  refine zw_ld (n := 1) (k := 2) (f := zp_isI) (pc' := 5) rfl rfl rfl rfl rfl ?_
  refine zw_ct (pc' := 8) (c' := (2, 12)) (zw_cv (q := 0) (Y := zm_107) W.1 rfl rfl zm_107_t rfl rfl) (zw_pb_ok rfl) rfl rfl rfl rfl (yc_sl3_0 hB hs) ?_
  refine zw_s (pc' := 9) rfl rfl ?_
  refine zw_ls (q := 104) (pc' := 10) W rfl rfl (⟨by decide, by decide⟩) rfl ?_
  refine zw_s (pc' := 17) rfl rfl ?_
  refine zw_s (pc' := 18) rfl rfl ?_
  refine zw_rig rfl rfl ⟨by decide, by decide⟩ ?_
  rfl

theorem yc_sl3_1 {L : Nat} {σ : Nat → Int32} {d : Nat} {H : zp_H} {x1 : Int32} (hB : zk_Bs (zB_c 3) zg zJc H) (hs : 0 ≤ x1.toInt ∧ x1.toInt < (H.2.1 33 0).toInt) : zp_Call L σ (d + 2) 107 [.inr (.inr (some 1)), .inl x1, .inl (Int32.ofInt 1)] H (.inl (some (.inl (H.2.1 35 x1.toInt.toNat))), H) := by
  have W := zB_Wd (zB_dn (zB_Bc hB))
  have g5 : H.2.2.2 0 5 = some 23 := hB.2.1 0 5 _ rfl
  have g6 : H.2.2.2 0 6 = some 34 := hB.2.1 0 6 _ rfl
  have g7 : H.2.2.2 0 7 = some 3 := hB.2.1 0 7 _ rfl
  have g8 : H.2.2.2 0 8 = some 14 := hB.2.1 0 8 _ rfl
  have r33_0 := zB_fr1 (zB_dn (zB_Bc hB)) (p := 33) (k := 0) (r := (0, 8)) rfl
  have r33_0 : 0 ≤ (H.2.1 33 0).toInt ∧ (H.2.1 33 0).toInt ≤ 8 := r33_0
  refine zw_ex (zw_met zm_107_t rfl rfl ?_)
  refine zw_ld (n := 1) (k := 0) (f := zp_isR) (pc' := 1) rfl rfl rfl rfl rfl ?_
  refine zw_ld (n := 1) (k := 1) (f := zp_isI) (pc' := 2) rfl rfl rfl rfl rfl ?_
  refine zw_ctn (pc' := 5) (c' := (1, 6)) (zw_cv (q := 0) (Y := zm_108) W.1 rfl rfl zm_108_t rfl rfl) (zw_pb_ok rfl) rfl rfl rfl rfl (yc_ns1_3 hB hs) ?_
  refine zw_ld (n := 1) (k := 2) (f := zp_isI) (pc' := 6) rfl rfl rfl rfl rfl ?_
  refine zw_s (pc' := 7) rfl rfl ?_
  refine zw_ctn (pc' := 10) (c' := (2, 12)) (zw_cs (Y := zm_104) rfl rfl zm_104_t) (zw_pb_ok rfl) rfl rfl rfl rfl (yc_nw1 ⟨by decide, by decide⟩) ?_
  refine zw_ld (n := 1) (k := 2) (f := zp_isI) (pc' := 11) rfl rfl rfl rfl rfl ?_
  refine zw_s (pc' := 46) rfl rfl ?_
  refine zw_ld (n := 1) (k := 0) (f := zp_isR) (pc' := 47) rfl rfl rfl rfl rfl ?_
  refine zw_gR (q := 0) (pc' := 50) W rfl rfl rfl rfl g6 rfl ?_
  refine zw_gR (q := 33) (pc' := 53) W rfl rfl rfl rfl (W.2 33 2 _ rfl) rfl ?_
  refine zw_ld (n := 1) (k := 1) (f := zp_isI) (pc' := 54) rfl rfl rfl rfl rfl ?_
  refine zw_ia (q := 35) (pc' := 55) W rfl rfl (by decide) (⟨hs.1, by show _ < ((8 : Nat) : Int); omega⟩) rfl rfl ?_
  refine zw_rig rfl rfl ⟨by decide, by decide⟩ ?_
  rfl

theorem yl_sl3_1 {L : Nat} {σ : Nat → Int32} {d : Nat} {H : zp_H} {x1 : Int32} (hB : zk_Bs (zB_c 3) zg zJc H) (hs : 0 ≤ x1.toInt ∧ x1.toInt < (H.2.1 33 0).toInt) : zp_Call L σ (d + 3) 106 [.inr (.inr (some 1)), .inl x1, .inl (Int32.ofInt 1), .inr (.inr (some 105))] H (.inl (some (.inl (Int32.ofInt 0))), zw_J H 104 0 (H.2.1 35 x1.toInt.toNat).toInt64) := by
  have W := zB_Wd (zB_dn (zB_Bc hB))
  refine zw_ex (zw_met zm_106_t rfl rfl ?_)
  refine zw_ld (n := 1) (k := 3) (f := zp_isR) (pc' := 1) rfl rfl rfl rfl rfl ?_
  refine zw_s (pc' := 2) rfl rfl ?_
  refine zw_ld (n := 1) (k := 0) (f := zp_isR) (pc' := 3) rfl rfl rfl rfl rfl ?_
  refine zw_ld (n := 1) (k := 1) (f := zp_isI) (pc' := 4) rfl rfl rfl rfl rfl ?_
  refine zw_ld (n := 1) (k := 2) (f := zp_isI) (pc' := 5) rfl rfl rfl rfl rfl ?_
  refine zw_ct (pc' := 8) (c' := (2, 12)) (zw_cv (q := 0) (Y := zm_107) W.1 rfl rfl zm_107_t rfl rfl) (zw_pb_ok rfl) rfl rfl rfl rfl (yc_sl3_1 hB hs) ?_
  refine zw_s (pc' := 9) rfl rfl ?_
  refine zw_ls (q := 104) (pc' := 10) W rfl rfl (⟨by decide, by decide⟩) rfl ?_
  refine zw_s (pc' := 17) rfl rfl ?_
  refine zw_s (pc' := 18) rfl rfl ?_
  refine zw_rig rfl rfl ⟨by decide, by decide⟩ ?_
  rfl

theorem yc_sl3_2 {L : Nat} {σ : Nat → Int32} {d : Nat} {H : zp_H} {x1 : Int32} (hB : zk_Bs (zB_c 3) zg zJc H) (hs : 0 ≤ x1.toInt ∧ x1.toInt < (H.2.1 33 0).toInt) : zp_Call L σ (d + 2) 107 [.inr (.inr (some 1)), .inl x1, .inl (Int32.ofInt 2)] H (.inl (some (.inl (H.2.1 36 x1.toInt.toNat))), H) := by
  have W := zB_Wd (zB_dn (zB_Bc hB))
  have g5 : H.2.2.2 0 5 = some 23 := hB.2.1 0 5 _ rfl
  have g6 : H.2.2.2 0 6 = some 34 := hB.2.1 0 6 _ rfl
  have g7 : H.2.2.2 0 7 = some 3 := hB.2.1 0 7 _ rfl
  have g8 : H.2.2.2 0 8 = some 14 := hB.2.1 0 8 _ rfl
  have r33_0 := zB_fr1 (zB_dn (zB_Bc hB)) (p := 33) (k := 0) (r := (0, 8)) rfl
  have r33_0 : 0 ≤ (H.2.1 33 0).toInt ∧ (H.2.1 33 0).toInt ≤ 8 := r33_0
  refine zw_ex (zw_met zm_107_t rfl rfl ?_)
  refine zw_ld (n := 1) (k := 0) (f := zp_isR) (pc' := 1) rfl rfl rfl rfl rfl ?_
  refine zw_ld (n := 1) (k := 1) (f := zp_isI) (pc' := 2) rfl rfl rfl rfl rfl ?_
  refine zw_ctn (pc' := 5) (c' := (1, 6)) (zw_cv (q := 0) (Y := zm_108) W.1 rfl rfl zm_108_t rfl rfl) (zw_pb_ok rfl) rfl rfl rfl rfl (yc_ns1_3 hB hs) ?_
  refine zw_ld (n := 1) (k := 2) (f := zp_isI) (pc' := 6) rfl rfl rfl rfl rfl ?_
  refine zw_s (pc' := 7) rfl rfl ?_
  refine zw_ctn (pc' := 10) (c' := (2, 12)) (zw_cs (Y := zm_104) rfl rfl zm_104_t) (zw_pb_ok rfl) rfl rfl rfl rfl (yc_nw1 ⟨by decide, by decide⟩) ?_
  refine zw_ld (n := 1) (k := 2) (f := zp_isI) (pc' := 11) rfl rfl rfl rfl rfl ?_
  refine zw_s (pc' := 56) rfl rfl ?_
  refine zw_ld (n := 1) (k := 0) (f := zp_isR) (pc' := 57) rfl rfl rfl rfl rfl ?_
  refine zw_gR (q := 0) (pc' := 60) W rfl rfl rfl rfl g6 rfl ?_
  refine zw_gR (q := 33) (pc' := 63) W rfl rfl rfl rfl (W.2 33 3 _ rfl) rfl ?_
  refine zw_ld (n := 1) (k := 1) (f := zp_isI) (pc' := 64) rfl rfl rfl rfl rfl ?_
  refine zw_ia (q := 36) (pc' := 65) W rfl rfl (by decide) (⟨hs.1, by show _ < ((8 : Nat) : Int); omega⟩) rfl rfl ?_
  refine zw_rig rfl rfl ⟨by decide, by decide⟩ ?_
  rfl

theorem yl_sl3_2 {L : Nat} {σ : Nat → Int32} {d : Nat} {H : zp_H} {x1 : Int32} (hB : zk_Bs (zB_c 3) zg zJc H) (hs : 0 ≤ x1.toInt ∧ x1.toInt < (H.2.1 33 0).toInt) : zp_Call L σ (d + 3) 106 [.inr (.inr (some 1)), .inl x1, .inl (Int32.ofInt 2), .inr (.inr (some 105))] H (.inl (some (.inl (Int32.ofInt 0))), zw_J H 104 0 (H.2.1 36 x1.toInt.toNat).toInt64) := by
  have W := zB_Wd (zB_dn (zB_Bc hB))
  refine zw_ex (zw_met zm_106_t rfl rfl ?_)
  refine zw_ld (n := 1) (k := 3) (f := zp_isR) (pc' := 1) rfl rfl rfl rfl rfl ?_
  refine zw_s (pc' := 2) rfl rfl ?_
  refine zw_ld (n := 1) (k := 0) (f := zp_isR) (pc' := 3) rfl rfl rfl rfl rfl ?_
  refine zw_ld (n := 1) (k := 1) (f := zp_isI) (pc' := 4) rfl rfl rfl rfl rfl ?_
  refine zw_ld (n := 1) (k := 2) (f := zp_isI) (pc' := 5) rfl rfl rfl rfl rfl ?_
  refine zw_ct (pc' := 8) (c' := (2, 12)) (zw_cv (q := 0) (Y := zm_107) W.1 rfl rfl zm_107_t rfl rfl) (zw_pb_ok rfl) rfl rfl rfl rfl (yc_sl3_2 hB hs) ?_
  refine zw_s (pc' := 9) rfl rfl ?_
  refine zw_ls (q := 104) (pc' := 10) W rfl rfl (⟨by decide, by decide⟩) rfl ?_
  refine zw_s (pc' := 17) rfl rfl ?_
  refine zw_s (pc' := 18) rfl rfl ?_
  refine zw_rig rfl rfl ⟨by decide, by decide⟩ ?_
  rfl

theorem yc_sl3_3 {L : Nat} {σ : Nat → Int32} {d : Nat} {H : zp_H} {x1 : Int32} (hB : zk_Bs (zB_c 3) zg zJc H) (hs : 0 ≤ x1.toInt ∧ x1.toInt < (H.2.1 33 0).toInt) : zp_Call L σ (d + 2) 107 [.inr (.inr (some 1)), .inl x1, .inl (Int32.ofInt 3)] H (.inl (some (.inl (H.2.1 37 x1.toInt.toNat))), H) := by
  have W := zB_Wd (zB_dn (zB_Bc hB))
  have g5 : H.2.2.2 0 5 = some 23 := hB.2.1 0 5 _ rfl
  have g6 : H.2.2.2 0 6 = some 34 := hB.2.1 0 6 _ rfl
  have g7 : H.2.2.2 0 7 = some 3 := hB.2.1 0 7 _ rfl
  have g8 : H.2.2.2 0 8 = some 14 := hB.2.1 0 8 _ rfl
  have r33_0 := zB_fr1 (zB_dn (zB_Bc hB)) (p := 33) (k := 0) (r := (0, 8)) rfl
  have r33_0 : 0 ≤ (H.2.1 33 0).toInt ∧ (H.2.1 33 0).toInt ≤ 8 := r33_0
  refine zw_ex (zw_met zm_107_t rfl rfl ?_)
  refine zw_ld (n := 1) (k := 0) (f := zp_isR) (pc' := 1) rfl rfl rfl rfl rfl ?_
  refine zw_ld (n := 1) (k := 1) (f := zp_isI) (pc' := 2) rfl rfl rfl rfl rfl ?_
  refine zw_ctn (pc' := 5) (c' := (1, 6)) (zw_cv (q := 0) (Y := zm_108) W.1 rfl rfl zm_108_t rfl rfl) (zw_pb_ok rfl) rfl rfl rfl rfl (yc_ns1_3 hB hs) ?_
  refine zw_ld (n := 1) (k := 2) (f := zp_isI) (pc' := 6) rfl rfl rfl rfl rfl ?_
  refine zw_s (pc' := 7) rfl rfl ?_
  refine zw_ctn (pc' := 10) (c' := (2, 12)) (zw_cs (Y := zm_104) rfl rfl zm_104_t) (zw_pb_ok rfl) rfl rfl rfl rfl (yc_nw1 ⟨by decide, by decide⟩) ?_
  refine zw_ld (n := 1) (k := 2) (f := zp_isI) (pc' := 11) rfl rfl rfl rfl rfl ?_
  refine zw_s (pc' := 66) rfl rfl ?_
  refine zw_ld (n := 1) (k := 0) (f := zp_isR) (pc' := 67) rfl rfl rfl rfl rfl ?_
  refine zw_gR (q := 0) (pc' := 70) W rfl rfl rfl rfl g6 rfl ?_
  refine zw_gR (q := 33) (pc' := 73) W rfl rfl rfl rfl (W.2 33 4 _ rfl) rfl ?_
  refine zw_ld (n := 1) (k := 1) (f := zp_isI) (pc' := 74) rfl rfl rfl rfl rfl ?_
  refine zw_ia (q := 37) (pc' := 75) W rfl rfl (by decide) (⟨hs.1, by show _ < ((8 : Nat) : Int); omega⟩) rfl rfl ?_
  refine zw_rig rfl rfl ⟨by decide, by decide⟩ ?_
  rfl

theorem yl_sl3_3 {L : Nat} {σ : Nat → Int32} {d : Nat} {H : zp_H} {x1 : Int32} (hB : zk_Bs (zB_c 3) zg zJc H) (hs : 0 ≤ x1.toInt ∧ x1.toInt < (H.2.1 33 0).toInt) : zp_Call L σ (d + 3) 106 [.inr (.inr (some 1)), .inl x1, .inl (Int32.ofInt 3), .inr (.inr (some 105))] H (.inl (some (.inl (Int32.ofInt 0))), zw_J H 104 0 (H.2.1 37 x1.toInt.toNat).toInt64) := by
  have W := zB_Wd (zB_dn (zB_Bc hB))
  refine zw_ex (zw_met zm_106_t rfl rfl ?_)
  refine zw_ld (n := 1) (k := 3) (f := zp_isR) (pc' := 1) rfl rfl rfl rfl rfl ?_
  refine zw_s (pc' := 2) rfl rfl ?_
  refine zw_ld (n := 1) (k := 0) (f := zp_isR) (pc' := 3) rfl rfl rfl rfl rfl ?_
  refine zw_ld (n := 1) (k := 1) (f := zp_isI) (pc' := 4) rfl rfl rfl rfl rfl ?_
  refine zw_ld (n := 1) (k := 2) (f := zp_isI) (pc' := 5) rfl rfl rfl rfl rfl ?_
  refine zw_ct (pc' := 8) (c' := (2, 12)) (zw_cv (q := 0) (Y := zm_107) W.1 rfl rfl zm_107_t rfl rfl) (zw_pb_ok rfl) rfl rfl rfl rfl (yc_sl3_3 hB hs) ?_
  refine zw_s (pc' := 9) rfl rfl ?_
  refine zw_ls (q := 104) (pc' := 10) W rfl rfl (⟨by decide, by decide⟩) rfl ?_
  refine zw_s (pc' := 17) rfl rfl ?_
  refine zw_s (pc' := 18) rfl rfl ?_
  refine zw_rig rfl rfl ⟨by decide, by decide⟩ ?_
  rfl

theorem yc_sln3 {L : Nat} {σ : Nat → Int32} {d : Nat} {H : zp_H} {x1 x2 : Int32} (hB : zk_Bs (zB_c 3) zg zJc H) (h : ¬ ((0 ≤ x1.toInt ∧ x1.toInt < (H.2.1 33 0).toInt) ∧ 0 ≤ x2.toInt ∧ x2.toInt ≤ (Int32.ofInt 3).toInt)) : zp_Call L σ (d + 2) 107 [.inr (.inr (some 1)), .inl x1, .inl x2] H (.inr 0, H) := by
  have W := zB_Wd (zB_dn (zB_Bc hB))
  have g5 : H.2.2.2 0 5 = some 23 := hB.2.1 0 5 _ rfl
  have g6 : H.2.2.2 0 6 = some 34 := hB.2.1 0 6 _ rfl
  have g7 : H.2.2.2 0 7 = some 3 := hB.2.1 0 7 _ rfl
  have g8 : H.2.2.2 0 8 = some 14 := hB.2.1 0 8 _ rfl
  refine zw_ex (zw_met zm_107_t rfl rfl ?_)
  refine zw_ld (n := 1) (k := 0) (f := zp_isR) (pc' := 1) rfl rfl rfl rfl rfl ?_
  refine zw_ld (n := 1) (k := 1) (f := zp_isI) (pc' := 2) rfl rfl rfl rfl rfl ?_
  by_cases hp : 0 ≤ x1.toInt ∧ x1.toInt < (H.2.1 33 0).toInt
  · refine zw_ctn (pc' := 5) (c' := (1, 6)) (zw_cv (q := 0) (Y := zm_108) W.1 rfl rfl zm_108_t rfl rfl) (zw_pb_ok rfl) rfl rfl rfl rfl (yc_ns1_3 hB hp) ?_
    refine zw_ld (n := 1) (k := 2) (f := zp_isI) (pc' := 6) rfl rfl rfl rfl rfl ?_
    refine zw_s (pc' := 7) rfl rfl ?_
    refine zw_cthr (ex := 0) (zw_cs (Y := zm_104) rfl rfl zm_104_t) (zw_pb_ok rfl) rfl rfl (yc_nw0 (fun h9 => h ⟨hp, h9⟩)) ?_
    rfl
  · refine zw_cthr (ex := 0) (zw_cv (q := 0) (Y := zm_108) W.1 rfl rfl zm_108_t rfl rfl) (zw_pb_ok rfl) rfl rfl (yc_ns0_3 hB hp) ?_
    rfl

theorem yl_sln3 {L : Nat} {σ : Nat → Int32} {d : Nat} {H : zp_H} {x1 x2 : Int32} (hB : zk_Bs (zB_c 3) zg zJc H) (h : ¬ ((0 ≤ x1.toInt ∧ x1.toInt < (H.2.1 33 0).toInt) ∧ 0 ≤ x2.toInt ∧ x2.toInt ≤ (Int32.ofInt 3).toInt)) : zp_Call L σ (d + 3) 106 [.inr (.inr (some 1)), .inl x1, .inl x2, .inr (.inr (some 105))] H (.inl (some (.inl (Int32.ofInt 1))), H) := by
  have W := zB_Wd (zB_dn (zB_Bc hB))
  refine zw_ex (zw_met zm_106_t rfl rfl ?_)
  refine zw_ld (n := 1) (k := 3) (f := zp_isR) (pc' := 1) rfl rfl rfl rfl rfl ?_
  refine zw_s (pc' := 2) rfl rfl ?_
  refine zw_ld (n := 1) (k := 0) (f := zp_isR) (pc' := 3) rfl rfl rfl rfl rfl ?_
  refine zw_ld (n := 1) (k := 1) (f := zp_isI) (pc' := 4) rfl rfl rfl rfl rfl ?_
  refine zw_ld (n := 1) (k := 2) (f := zp_isI) (pc' := 5) rfl rfl rfl rfl rfl ?_
  refine zw_cexw (ex := 0) (hp9 := 13) (k9 := 4) (pc' := 15) (c' := (2, 12)) (zw_cv (q := 0) (Y := zm_107) W.1 rfl rfl zm_107_t rfl rfl) (zw_pb_ok rfl) rfl rfl rfl rfl rfl rfl rfl (yc_sln3 hB h) ?_
  refine zw_s (pc' := 16) rfl rfl ?_
  refine zw_rig rfl rfl ⟨by decide, by decide⟩ ?_
  rfl

theorem yr_sl0 {L : Nat} {σ : Nat → Int32} {d : Nat} {H : zp_H} (W : zw_W H) {x1 : Int32} (hx : 0 ≤ x1.toInt ∧ x1.toInt < (H.2.1 72 5).toInt) (h8 : x1.toInt < 8) : zp_Call L σ (d + 3) 209 [.inr (.inr (some 73)), .inl x1, .inl (Int32.ofInt 0)] H (.inl (some (.inl (H.2.1 74 (4 * x1.toInt.toNat + 0)))), zw_I H 72 0 (Int32.ofInt 0)) := by
  have h0 : ((zw_I H 72 0 (Int32.ofInt 0)).2.1 72 0).toInt = 0 := congrArg Int32.toInt zw_eq
  have e5 : (zw_I H 72 0 (Int32.ofInt 0)).2.1 72 5 = H.2.1 72 5 := zw_ne rfl rfl
  have e1 : (Int32.ofInt 4 * x1).toInt = 4 * x1.toInt := zt_mul (by decide) (by omega)
  have e2 : (Int32.ofInt 4 * x1 + Int32.ofInt 0).toInt = 4 * x1.toInt + 0 := by rw [zt_add (by decide) (by omega), e1]
  have e3 : (Int32.ofInt 4 * x1 + Int32.ofInt 0).toInt.toNat = 4 * x1.toInt.toNat + 0 := by omega
  refine zw_ex (zw_met zm_209_t rfl rfl ?_)
  refine zw_ld (n := 1) (k := 0) (f := zp_isR) (pc' := 1) rfl rfl rfl rfl rfl ?_
  refine zw_s (pc' := 2) rfl rfl ?_
  refine zw_pI (q := 72) (pc' := 5) W rfl rfl rfl rfl rfl rfl ?_
  refine zw_ld (n := 1) (k := 0) (f := zp_isR) (pc' := 6) rfl rfl rfl rfl rfl ?_
  refine zw_ld (n := 1) (k := 1) (f := zp_isI) (pc' := 7) rfl rfl rfl rfl rfl ?_
  refine zw_c (pc' := 10) (zw_cv (q := 72) (Y := zm_210) (zw_W_I W).1 rfl rfl zm_210_t rfl rfl) rfl rfl rfl rfl rfl (zq_slate1 (zw_W_I W) h0 (by rw [e5]; exact hx)) ?_
  refine zw_beq1 (g := 35) (pc' := 13) rfl rfl rfl (rfl : _ = (1 : Int)) (fun h9 => absurd h9 (by decide)) (fun h1 => ?_)
  refine zw_ld (n := 1) (k := 0) (f := zp_isR) (pc' := 14) rfl rfl rfl rfl rfl ?_
  refine zw_ld (n := 1) (k := 2) (f := zp_isI) (pc' := 15) rfl rfl rfl rfl rfl ?_
  refine zw_s (pc' := 16) rfl rfl ?_
  refine zw_c (pc' := 19) (zw_cv (q := 72) (Y := zm_208) (zw_W_I W).1 rfl rfl zm_208_t rfl rfl) rfl rfl rfl rfl rfl (yr_wh1 (zw_W_I W) h0 ⟨by decide, by decide⟩) ?_
  refine zw_beq1 (g := 35) (pc' := 22) rfl rfl rfl (rfl : _ = (1 : Int)) (fun h9 => absurd h9 (by decide)) (fun h2 => ?_)
  refine zw_ld (n := 1) (k := 0) (f := zp_isR) (pc' := 23) rfl rfl rfl rfl rfl ?_
  refine zw_gR (q := 72) (pc' := 26) (zw_W_I W) rfl rfl rfl rfl ((zw_W_I W).2 72 14 _ rfl) rfl ?_
  refine zw_s (pc' := 27) rfl rfl ?_
  refine zw_ld (n := 1) (k := 1) (f := zp_isI) (pc' := 28) rfl rfl rfl rfl rfl ?_
  refine zw_imul (pc' := 29) rfl rfl ?_
  refine zw_ld (n := 1) (k := 2) (f := zp_isI) (pc' := 30) rfl rfl rfl rfl rfl ?_
  refine zw_iadd (pc' := 31) rfl rfl ?_
  refine zw_ia (q := 74) (pc' := 32) (zw_W_I W) rfl rfl (by decide) (⟨by omega, by show _ < ((32 : Nat) : Int); omega⟩) (zw_ne rfl rfl) rfl ?_
  refine zw_s (pc' := 36) rfl rfl ?_
  refine zw_ri rfl rfl ?_
  rw [e3]

theorem yr_sl1 {L : Nat} {σ : Nat → Int32} {d : Nat} {H : zp_H} (W : zw_W H) {x1 : Int32} (hx : 0 ≤ x1.toInt ∧ x1.toInt < (H.2.1 72 5).toInt) (h8 : x1.toInt < 8) : zp_Call L σ (d + 3) 209 [.inr (.inr (some 73)), .inl x1, .inl (Int32.ofInt 1)] H (.inl (some (.inl (H.2.1 74 (4 * x1.toInt.toNat + 1)))), zw_I H 72 0 (Int32.ofInt 0)) := by
  have h0 : ((zw_I H 72 0 (Int32.ofInt 0)).2.1 72 0).toInt = 0 := congrArg Int32.toInt zw_eq
  have e5 : (zw_I H 72 0 (Int32.ofInt 0)).2.1 72 5 = H.2.1 72 5 := zw_ne rfl rfl
  have e1 : (Int32.ofInt 4 * x1).toInt = 4 * x1.toInt := zt_mul (by decide) (by omega)
  have e2 : (Int32.ofInt 4 * x1 + Int32.ofInt 1).toInt = 4 * x1.toInt + 1 := by rw [zt_add (by decide) (by omega), e1]
  have e3 : (Int32.ofInt 4 * x1 + Int32.ofInt 1).toInt.toNat = 4 * x1.toInt.toNat + 1 := by omega
  refine zw_ex (zw_met zm_209_t rfl rfl ?_)
  refine zw_ld (n := 1) (k := 0) (f := zp_isR) (pc' := 1) rfl rfl rfl rfl rfl ?_
  refine zw_s (pc' := 2) rfl rfl ?_
  refine zw_pI (q := 72) (pc' := 5) W rfl rfl rfl rfl rfl rfl ?_
  refine zw_ld (n := 1) (k := 0) (f := zp_isR) (pc' := 6) rfl rfl rfl rfl rfl ?_
  refine zw_ld (n := 1) (k := 1) (f := zp_isI) (pc' := 7) rfl rfl rfl rfl rfl ?_
  refine zw_c (pc' := 10) (zw_cv (q := 72) (Y := zm_210) (zw_W_I W).1 rfl rfl zm_210_t rfl rfl) rfl rfl rfl rfl rfl (zq_slate1 (zw_W_I W) h0 (by rw [e5]; exact hx)) ?_
  refine zw_beq1 (g := 35) (pc' := 13) rfl rfl rfl (rfl : _ = (1 : Int)) (fun h9 => absurd h9 (by decide)) (fun h1 => ?_)
  refine zw_ld (n := 1) (k := 0) (f := zp_isR) (pc' := 14) rfl rfl rfl rfl rfl ?_
  refine zw_ld (n := 1) (k := 2) (f := zp_isI) (pc' := 15) rfl rfl rfl rfl rfl ?_
  refine zw_s (pc' := 16) rfl rfl ?_
  refine zw_c (pc' := 19) (zw_cv (q := 72) (Y := zm_208) (zw_W_I W).1 rfl rfl zm_208_t rfl rfl) rfl rfl rfl rfl rfl (yr_wh1 (zw_W_I W) h0 ⟨by decide, by decide⟩) ?_
  refine zw_beq1 (g := 35) (pc' := 22) rfl rfl rfl (rfl : _ = (1 : Int)) (fun h9 => absurd h9 (by decide)) (fun h2 => ?_)
  refine zw_ld (n := 1) (k := 0) (f := zp_isR) (pc' := 23) rfl rfl rfl rfl rfl ?_
  refine zw_gR (q := 72) (pc' := 26) (zw_W_I W) rfl rfl rfl rfl ((zw_W_I W).2 72 14 _ rfl) rfl ?_
  refine zw_s (pc' := 27) rfl rfl ?_
  refine zw_ld (n := 1) (k := 1) (f := zp_isI) (pc' := 28) rfl rfl rfl rfl rfl ?_
  refine zw_imul (pc' := 29) rfl rfl ?_
  refine zw_ld (n := 1) (k := 2) (f := zp_isI) (pc' := 30) rfl rfl rfl rfl rfl ?_
  refine zw_iadd (pc' := 31) rfl rfl ?_
  refine zw_ia (q := 74) (pc' := 32) (zw_W_I W) rfl rfl (by decide) (⟨by omega, by show _ < ((32 : Nat) : Int); omega⟩) (zw_ne rfl rfl) rfl ?_
  refine zw_s (pc' := 36) rfl rfl ?_
  refine zw_ri rfl rfl ?_
  rw [e3]

theorem yr_sl2 {L : Nat} {σ : Nat → Int32} {d : Nat} {H : zp_H} (W : zw_W H) {x1 : Int32} (hx : 0 ≤ x1.toInt ∧ x1.toInt < (H.2.1 72 5).toInt) (h8 : x1.toInt < 8) : zp_Call L σ (d + 3) 209 [.inr (.inr (some 73)), .inl x1, .inl (Int32.ofInt 2)] H (.inl (some (.inl (H.2.1 74 (4 * x1.toInt.toNat + 2)))), zw_I H 72 0 (Int32.ofInt 0)) := by
  have h0 : ((zw_I H 72 0 (Int32.ofInt 0)).2.1 72 0).toInt = 0 := congrArg Int32.toInt zw_eq
  have e5 : (zw_I H 72 0 (Int32.ofInt 0)).2.1 72 5 = H.2.1 72 5 := zw_ne rfl rfl
  have e1 : (Int32.ofInt 4 * x1).toInt = 4 * x1.toInt := zt_mul (by decide) (by omega)
  have e2 : (Int32.ofInt 4 * x1 + Int32.ofInt 2).toInt = 4 * x1.toInt + 2 := by rw [zt_add (by decide) (by omega), e1]
  have e3 : (Int32.ofInt 4 * x1 + Int32.ofInt 2).toInt.toNat = 4 * x1.toInt.toNat + 2 := by omega
  refine zw_ex (zw_met zm_209_t rfl rfl ?_)
  refine zw_ld (n := 1) (k := 0) (f := zp_isR) (pc' := 1) rfl rfl rfl rfl rfl ?_
  refine zw_s (pc' := 2) rfl rfl ?_
  refine zw_pI (q := 72) (pc' := 5) W rfl rfl rfl rfl rfl rfl ?_
  refine zw_ld (n := 1) (k := 0) (f := zp_isR) (pc' := 6) rfl rfl rfl rfl rfl ?_
  refine zw_ld (n := 1) (k := 1) (f := zp_isI) (pc' := 7) rfl rfl rfl rfl rfl ?_
  refine zw_c (pc' := 10) (zw_cv (q := 72) (Y := zm_210) (zw_W_I W).1 rfl rfl zm_210_t rfl rfl) rfl rfl rfl rfl rfl (zq_slate1 (zw_W_I W) h0 (by rw [e5]; exact hx)) ?_
  refine zw_beq1 (g := 35) (pc' := 13) rfl rfl rfl (rfl : _ = (1 : Int)) (fun h9 => absurd h9 (by decide)) (fun h1 => ?_)
  refine zw_ld (n := 1) (k := 0) (f := zp_isR) (pc' := 14) rfl rfl rfl rfl rfl ?_
  refine zw_ld (n := 1) (k := 2) (f := zp_isI) (pc' := 15) rfl rfl rfl rfl rfl ?_
  refine zw_s (pc' := 16) rfl rfl ?_
  refine zw_c (pc' := 19) (zw_cv (q := 72) (Y := zm_208) (zw_W_I W).1 rfl rfl zm_208_t rfl rfl) rfl rfl rfl rfl rfl (yr_wh1 (zw_W_I W) h0 ⟨by decide, by decide⟩) ?_
  refine zw_beq1 (g := 35) (pc' := 22) rfl rfl rfl (rfl : _ = (1 : Int)) (fun h9 => absurd h9 (by decide)) (fun h2 => ?_)
  refine zw_ld (n := 1) (k := 0) (f := zp_isR) (pc' := 23) rfl rfl rfl rfl rfl ?_
  refine zw_gR (q := 72) (pc' := 26) (zw_W_I W) rfl rfl rfl rfl ((zw_W_I W).2 72 14 _ rfl) rfl ?_
  refine zw_s (pc' := 27) rfl rfl ?_
  refine zw_ld (n := 1) (k := 1) (f := zp_isI) (pc' := 28) rfl rfl rfl rfl rfl ?_
  refine zw_imul (pc' := 29) rfl rfl ?_
  refine zw_ld (n := 1) (k := 2) (f := zp_isI) (pc' := 30) rfl rfl rfl rfl rfl ?_
  refine zw_iadd (pc' := 31) rfl rfl ?_
  refine zw_ia (q := 74) (pc' := 32) (zw_W_I W) rfl rfl (by decide) (⟨by omega, by show _ < ((32 : Nat) : Int); omega⟩) (zw_ne rfl rfl) rfl ?_
  refine zw_s (pc' := 36) rfl rfl ?_
  refine zw_ri rfl rfl ?_
  rw [e3]

theorem yr_sl3 {L : Nat} {σ : Nat → Int32} {d : Nat} {H : zp_H} (W : zw_W H) {x1 : Int32} (hx : 0 ≤ x1.toInt ∧ x1.toInt < (H.2.1 72 5).toInt) (h8 : x1.toInt < 8) : zp_Call L σ (d + 3) 209 [.inr (.inr (some 73)), .inl x1, .inl (Int32.ofInt 3)] H (.inl (some (.inl (H.2.1 74 (4 * x1.toInt.toNat + 3)))), zw_I H 72 0 (Int32.ofInt 0)) := by
  have h0 : ((zw_I H 72 0 (Int32.ofInt 0)).2.1 72 0).toInt = 0 := congrArg Int32.toInt zw_eq
  have e5 : (zw_I H 72 0 (Int32.ofInt 0)).2.1 72 5 = H.2.1 72 5 := zw_ne rfl rfl
  have e1 : (Int32.ofInt 4 * x1).toInt = 4 * x1.toInt := zt_mul (by decide) (by omega)
  have e2 : (Int32.ofInt 4 * x1 + Int32.ofInt 3).toInt = 4 * x1.toInt + 3 := by rw [zt_add (by decide) (by omega), e1]
  have e3 : (Int32.ofInt 4 * x1 + Int32.ofInt 3).toInt.toNat = 4 * x1.toInt.toNat + 3 := by omega
  refine zw_ex (zw_met zm_209_t rfl rfl ?_)
  refine zw_ld (n := 1) (k := 0) (f := zp_isR) (pc' := 1) rfl rfl rfl rfl rfl ?_
  refine zw_s (pc' := 2) rfl rfl ?_
  refine zw_pI (q := 72) (pc' := 5) W rfl rfl rfl rfl rfl rfl ?_
  refine zw_ld (n := 1) (k := 0) (f := zp_isR) (pc' := 6) rfl rfl rfl rfl rfl ?_
  refine zw_ld (n := 1) (k := 1) (f := zp_isI) (pc' := 7) rfl rfl rfl rfl rfl ?_
  refine zw_c (pc' := 10) (zw_cv (q := 72) (Y := zm_210) (zw_W_I W).1 rfl rfl zm_210_t rfl rfl) rfl rfl rfl rfl rfl (zq_slate1 (zw_W_I W) h0 (by rw [e5]; exact hx)) ?_
  refine zw_beq1 (g := 35) (pc' := 13) rfl rfl rfl (rfl : _ = (1 : Int)) (fun h9 => absurd h9 (by decide)) (fun h1 => ?_)
  refine zw_ld (n := 1) (k := 0) (f := zp_isR) (pc' := 14) rfl rfl rfl rfl rfl ?_
  refine zw_ld (n := 1) (k := 2) (f := zp_isI) (pc' := 15) rfl rfl rfl rfl rfl ?_
  refine zw_s (pc' := 16) rfl rfl ?_
  refine zw_c (pc' := 19) (zw_cv (q := 72) (Y := zm_208) (zw_W_I W).1 rfl rfl zm_208_t rfl rfl) rfl rfl rfl rfl rfl (yr_wh1 (zw_W_I W) h0 ⟨by decide, by decide⟩) ?_
  refine zw_beq1 (g := 35) (pc' := 22) rfl rfl rfl (rfl : _ = (1 : Int)) (fun h9 => absurd h9 (by decide)) (fun h2 => ?_)
  refine zw_ld (n := 1) (k := 0) (f := zp_isR) (pc' := 23) rfl rfl rfl rfl rfl ?_
  refine zw_gR (q := 72) (pc' := 26) (zw_W_I W) rfl rfl rfl rfl ((zw_W_I W).2 72 14 _ rfl) rfl ?_
  refine zw_s (pc' := 27) rfl rfl ?_
  refine zw_ld (n := 1) (k := 1) (f := zp_isI) (pc' := 28) rfl rfl rfl rfl rfl ?_
  refine zw_imul (pc' := 29) rfl rfl ?_
  refine zw_ld (n := 1) (k := 2) (f := zp_isI) (pc' := 30) rfl rfl rfl rfl rfl ?_
  refine zw_iadd (pc' := 31) rfl rfl ?_
  refine zw_ia (q := 74) (pc' := 32) (zw_W_I W) rfl rfl (by decide) (⟨by omega, by show _ < ((32 : Nat) : Int); omega⟩) (zw_ne rfl rfl) rfl ?_
  refine zw_s (pc' := 36) rfl rfl ?_
  refine zw_ri rfl rfl ?_
  rw [e3]

theorem yr_sln {L : Nat} {σ : Nat → Int32} {d : Nat} {H : zp_H} (W : zw_W H) {x1 x2 : Int32} (h : ¬ ((0 ≤ x1.toInt ∧ x1.toInt < (H.2.1 72 5).toInt) ∧ 0 ≤ x2.toInt ∧ x2.toInt ≤ (Int32.ofInt 3).toInt)) : zp_Call L σ (d + 3) 209 [.inr (.inr (some 73)), .inl x1, .inl x2] H (.inl (some (.inl (Int32.ofInt 0))), zw_I (zw_I H 72 0 (Int32.ofInt 0)) 72 0 (Int32.ofInt 1)) := by
  have h0 : ((zw_I H 72 0 (Int32.ofInt 0)).2.1 72 0).toInt = 0 := congrArg Int32.toInt zw_eq
  have e5 : (zw_I H 72 0 (Int32.ofInt 0)).2.1 72 5 = H.2.1 72 5 := zw_ne rfl rfl
  refine zw_ex (zw_met zm_209_t rfl rfl ?_)
  refine zw_ld (n := 1) (k := 0) (f := zp_isR) (pc' := 1) rfl rfl rfl rfl rfl ?_
  refine zw_s (pc' := 2) rfl rfl ?_
  refine zw_pI (q := 72) (pc' := 5) W rfl rfl rfl rfl rfl rfl ?_
  refine zw_ld (n := 1) (k := 0) (f := zp_isR) (pc' := 6) rfl rfl rfl rfl rfl ?_
  refine zw_ld (n := 1) (k := 1) (f := zp_isI) (pc' := 7) rfl rfl rfl rfl rfl ?_
  by_cases hp : 0 ≤ x1.toInt ∧ x1.toInt < (H.2.1 72 5).toInt
  · refine zw_c (pc' := 10) (zw_cv (q := 72) (Y := zm_210) (zw_W_I W).1 rfl rfl zm_210_t rfl rfl) rfl rfl rfl rfl rfl (zq_slate1 (zw_W_I W) h0 (by rw [e5]; exact hp)) ?_
    refine zw_beq1 (g := 35) (pc' := 13) rfl rfl rfl (rfl : _ = (1 : Int)) (fun h9 => absurd h9 (by decide)) (fun h1 => ?_)
    refine zw_ld (n := 1) (k := 0) (f := zp_isR) (pc' := 14) rfl rfl rfl rfl rfl ?_
    refine zw_ld (n := 1) (k := 2) (f := zp_isI) (pc' := 15) rfl rfl rfl rfl rfl ?_
    refine zw_s (pc' := 16) rfl rfl ?_
    refine zw_c (pc' := 19) (zw_cv (q := 72) (Y := zm_208) (zw_W_I W).1 rfl rfl zm_208_t rfl rfl) rfl rfl rfl rfl rfl (yr_wh0 (zw_W_I W) h0 (fun h9 => h ⟨hp, h9⟩)) ?_
    refine zw_beq1 (g := 35) (pc' := 22) rfl rfl rfl (rfl : _ = (0 : Int)) (fun h2 => ?_) (fun h9 => absurd h9 (by decide))
    refine zw_s (pc' := 36) rfl rfl ?_
    refine zw_ri rfl rfl ?_
    rfl
  · refine zw_c (pc' := 10) (zw_cv (q := 72) (Y := zm_210) (zw_W_I W).1 rfl rfl zm_210_t rfl rfl) rfl rfl rfl rfl rfl (zq_slate0 (zw_W_I W) h0 (by rw [e5]; exact hp)) ?_
    refine zw_beq1 (g := 35) (pc' := 13) rfl rfl rfl (rfl : _ = (0 : Int)) (fun h1 => ?_) (fun h9 => absurd h9 (by decide))
    refine zw_s (pc' := 36) rfl rfl ?_
    refine zw_ri rfl rfl ?_
    rfl

theorem yb_slate {L : Nat} {σ : Nat → Int32} {d c t : Nat} {H : zp_H} {x1 x2 : Int32} (hI : yJ c t H) : ∃ H1 H2 v w, zp_Call L σ (d + 60) 106 [.inr (.inr (some 1)), .inl x1, .inl x2, .inr (.inr (some 105))] H (.inl (some (.inl v)), H1) ∧ zp_Call L σ (d + 60) 209 [.inr (.inr (some 73)), .inl x1, .inl x2] H1 (.inl (some (.inl w)), H2) ∧ H1.1 = zB_sh ∧ yJ c t H2 ∧ (H2.2.1 72 0).toInt = v.toInt ∧ (v.toInt = 0 → H2.2.2.1 104 0 = w.toInt64) := by
  obtain ⟨H1, v, c1, hI1⟩ := yp_slate (L := L) (σ := σ) (d := d) (x1 := x1) (x2 := x2) hI
  obtain ⟨H2, w, c2, hI2⟩ := yq_slate (L := L) (σ := σ) (d := d) (x1 := x1) (x2 := x2) hI1
  have W1 := zB_Wd (zB_dn (zB_Bc hI1.1.1.1))
  obtain ⟨⟨A, a1, a2, a3⟩, -⟩ := hI.2
  have n5 := a3.1
  have n0 := a2.1
  have n8 := a1.1
  have h0 := hI.1.2.2.1
  rcases h0 with rfl | rfl
  · have n0 : (H.2.1 13 0).toInt = A.1 := n0
    by_cases h : (0 ≤ x1.toInt ∧ x1.toInt < (H.2.1 72 5).toInt) ∧ 0 ≤ x2.toInt ∧ x2.toInt ≤ (Int32.ofInt 3).toInt
    · have hs : x1.toInt.toNat < A.1 := by omega
      rcases y0123 h.2 with rfl | rfl | rfl | rfl
      · have e1 := zp_Call_u c1 (yl_sl0_0 (L := L) (σ := σ) (d := 0) hI.1.1.1 (by rw [n0, ← n5]; exact h.1))
        cases e1
        have e2 := zp_Call_u c2 (yr_sl0 (L := L) (σ := σ) (d := 0) W1 h.1 (by omega))
        cases e2
        refine ⟨_, _, _, _, c1, c2, hI1.1.1.1.1, hI2, congrArg Int32.toInt zw_eq, fun _ => ?_⟩
        have k : H.2.1 14 x1.toInt.toNat = H.2.1 74 (4 * x1.toInt.toNat + 0) := (a2.2.2.1 _ 0 hs (by decide)).trans (a3.2.2.1 _ 0 hs (by decide)).symm
        show (zw_J H 104 0 _).2.2.1 104 0 = (H.2.1 74 (4 * x1.toInt.toNat + 0)).toInt64
        rw [← k]
        exact zp_u_self H.2.2.1 104 0 _
      · have e1 := zp_Call_u c1 (yl_sl0_1 (L := L) (σ := σ) (d := 0) hI.1.1.1 (by rw [n0, ← n5]; exact h.1))
        cases e1
        have e2 := zp_Call_u c2 (yr_sl1 (L := L) (σ := σ) (d := 0) W1 h.1 (by omega))
        cases e2
        refine ⟨_, _, _, _, c1, c2, hI1.1.1.1.1, hI2, congrArg Int32.toInt zw_eq, fun _ => ?_⟩
        have k : H.2.1 15 x1.toInt.toNat = H.2.1 74 (4 * x1.toInt.toNat + 1) := (a2.2.2.1 _ 1 hs (by decide)).trans (a3.2.2.1 _ 1 hs (by decide)).symm
        show (zw_J H 104 0 _).2.2.1 104 0 = (H.2.1 74 (4 * x1.toInt.toNat + 1)).toInt64
        rw [← k]
        exact zp_u_self H.2.2.1 104 0 _
      · have e1 := zp_Call_u c1 (yl_sl0_2 (L := L) (σ := σ) (d := 0) hI.1.1.1 (by rw [n0, ← n5]; exact h.1))
        cases e1
        have e2 := zp_Call_u c2 (yr_sl2 (L := L) (σ := σ) (d := 0) W1 h.1 (by omega))
        cases e2
        refine ⟨_, _, _, _, c1, c2, hI1.1.1.1.1, hI2, congrArg Int32.toInt zw_eq, fun _ => ?_⟩
        have k : H.2.1 16 x1.toInt.toNat = H.2.1 74 (4 * x1.toInt.toNat + 2) := (a2.2.2.1 _ 2 hs (by decide)).trans (a3.2.2.1 _ 2 hs (by decide)).symm
        show (zw_J H 104 0 _).2.2.1 104 0 = (H.2.1 74 (4 * x1.toInt.toNat + 2)).toInt64
        rw [← k]
        exact zp_u_self H.2.2.1 104 0 _
      · have e1 := zp_Call_u c1 (yl_sl0_3 (L := L) (σ := σ) (d := 0) hI.1.1.1 (by rw [n0, ← n5]; exact h.1))
        cases e1
        have e2 := zp_Call_u c2 (yr_sl3 (L := L) (σ := σ) (d := 0) W1 h.1 (by omega))
        cases e2
        refine ⟨_, _, _, _, c1, c2, hI1.1.1.1.1, hI2, congrArg Int32.toInt zw_eq, fun _ => ?_⟩
        have k : H.2.1 17 x1.toInt.toNat = H.2.1 74 (4 * x1.toInt.toNat + 3) := (a2.2.2.1 _ 3 hs (by decide)).trans (a3.2.2.1 _ 3 hs (by decide)).symm
        show (zw_J H 104 0 _).2.2.1 104 0 = (H.2.1 74 (4 * x1.toInt.toNat + 3)).toInt64
        rw [← k]
        exact zp_u_self H.2.2.1 104 0 _
    · have e1 := zp_Call_u c1 (yl_sln0 (L := L) (σ := σ) (d := 0) hI.1.1.1 (by rw [n0, ← n5]; exact h))
      cases e1
      have e2 := zp_Call_u c2 (yr_sln (L := L) (σ := σ) (d := 0) W1 h)
      cases e2
      exact ⟨_, _, _, _, c1, c2, hI1.1.1.1.1, hI2, congrArg Int32.toInt zw_eq, fun h9 => absurd h9 (by decide)⟩
  · have n0 : (H.2.1 33 0).toInt = A.1 := n0
    by_cases h : (0 ≤ x1.toInt ∧ x1.toInt < (H.2.1 72 5).toInt) ∧ 0 ≤ x2.toInt ∧ x2.toInt ≤ (Int32.ofInt 3).toInt
    · have hs : x1.toInt.toNat < A.1 := by omega
      rcases y0123 h.2 with rfl | rfl | rfl | rfl
      · have e1 := zp_Call_u c1 (yl_sl3_0 (L := L) (σ := σ) (d := 0) hI.1.1.1 (by rw [n0, ← n5]; exact h.1))
        cases e1
        have e2 := zp_Call_u c2 (yr_sl0 (L := L) (σ := σ) (d := 0) W1 h.1 (by omega))
        cases e2
        refine ⟨_, _, _, _, c1, c2, hI1.1.1.1.1, hI2, congrArg Int32.toInt zw_eq, fun _ => ?_⟩
        have k : H.2.1 34 x1.toInt.toNat = H.2.1 74 (4 * x1.toInt.toNat + 0) := (a2.2.2.1 _ 0 hs (by decide)).trans (a3.2.2.1 _ 0 hs (by decide)).symm
        show (zw_J H 104 0 _).2.2.1 104 0 = (H.2.1 74 (4 * x1.toInt.toNat + 0)).toInt64
        rw [← k]
        exact zp_u_self H.2.2.1 104 0 _
      · have e1 := zp_Call_u c1 (yl_sl3_1 (L := L) (σ := σ) (d := 0) hI.1.1.1 (by rw [n0, ← n5]; exact h.1))
        cases e1
        have e2 := zp_Call_u c2 (yr_sl1 (L := L) (σ := σ) (d := 0) W1 h.1 (by omega))
        cases e2
        refine ⟨_, _, _, _, c1, c2, hI1.1.1.1.1, hI2, congrArg Int32.toInt zw_eq, fun _ => ?_⟩
        have k : H.2.1 35 x1.toInt.toNat = H.2.1 74 (4 * x1.toInt.toNat + 1) := (a2.2.2.1 _ 1 hs (by decide)).trans (a3.2.2.1 _ 1 hs (by decide)).symm
        show (zw_J H 104 0 _).2.2.1 104 0 = (H.2.1 74 (4 * x1.toInt.toNat + 1)).toInt64
        rw [← k]
        exact zp_u_self H.2.2.1 104 0 _
      · have e1 := zp_Call_u c1 (yl_sl3_2 (L := L) (σ := σ) (d := 0) hI.1.1.1 (by rw [n0, ← n5]; exact h.1))
        cases e1
        have e2 := zp_Call_u c2 (yr_sl2 (L := L) (σ := σ) (d := 0) W1 h.1 (by omega))
        cases e2
        refine ⟨_, _, _, _, c1, c2, hI1.1.1.1.1, hI2, congrArg Int32.toInt zw_eq, fun _ => ?_⟩
        have k : H.2.1 36 x1.toInt.toNat = H.2.1 74 (4 * x1.toInt.toNat + 2) := (a2.2.2.1 _ 2 hs (by decide)).trans (a3.2.2.1 _ 2 hs (by decide)).symm
        show (zw_J H 104 0 _).2.2.1 104 0 = (H.2.1 74 (4 * x1.toInt.toNat + 2)).toInt64
        rw [← k]
        exact zp_u_self H.2.2.1 104 0 _
      · have e1 := zp_Call_u c1 (yl_sl3_3 (L := L) (σ := σ) (d := 0) hI.1.1.1 (by rw [n0, ← n5]; exact h.1))
        cases e1
        have e2 := zp_Call_u c2 (yr_sl3 (L := L) (σ := σ) (d := 0) W1 h.1 (by omega))
        cases e2
        refine ⟨_, _, _, _, c1, c2, hI1.1.1.1.1, hI2, congrArg Int32.toInt zw_eq, fun _ => ?_⟩
        have k : H.2.1 37 x1.toInt.toNat = H.2.1 74 (4 * x1.toInt.toNat + 3) := (a2.2.2.1 _ 3 hs (by decide)).trans (a3.2.2.1 _ 3 hs (by decide)).symm
        show (zw_J H 104 0 _).2.2.1 104 0 = (H.2.1 74 (4 * x1.toInt.toNat + 3)).toInt64
        rw [← k]
        exact zp_u_self H.2.2.1 104 0 _
    · have e1 := zp_Call_u c1 (yl_sln3 (L := L) (σ := σ) (d := 0) hI.1.1.1 (by rw [n0, ← n5]; exact h))
      cases e1
      have e2 := zp_Call_u c2 (yr_sln (L := L) (σ := σ) (d := 0) W1 h)
      cases e2
      exact ⟨_, _, _, _, c1, c2, hI1.1.1.1.1, hI2, congrArg Int32.toInt zw_eq, fun h9 => absurd h9 (by decide)⟩
