/-! ===== the reference reads an expression: a part, an operand ===== -/
/-- the word at hand (shown further on) -/
def zx_KW (L : Nat) (σ : Nat → Int32) : Prop := ∀ (d : Nat) (H : zp_H), zk_Bs zR zg zJ H → ∃ v : Int32, zp_Call L σ (d + 4) 177 [.inr (.inr (some 73))] H (.inl (some (.inl v)), H) ∧ v.toInt = zg H
theorem zg_s {H : zp_H} (h : zg H ≠ -1) : (H.2.1 72 28).toInt = 1 := by
  unfold zg at h
  by_cases h9 : (H.2.1 72 28).toInt ≠ 1 ∨ 7 < (H.2.1 72 30).toInt
  · rw [if_pos h9] at h
    exact absurd rfl h
  · omega
def zm_177 : za_MI := (yX12_knownWord, prog_14_method_16_code, 2, (some FieldType.int), 12, 0, 0, [], za_i177)
theorem zm_177_t : za_MT 177 = some zm_177 := rfl
def zm_197 : za_MI := (yX12_part, prog_14_method_30_code, 2, none, 12, 0, 0, [], za_i197)
theorem zm_197_t : za_MT 197 = some zm_197 := rfl
theorem zx_part {L : Nat} {σ : Nat → Int32} {d a : Nat} {H : zp_H} (hK : zx_KW L σ) (h : zx_S a 0 0 H) (ha : (a : Int) ≤ (H.2.1 72 45).toInt) : ∃ X, zp_Call L σ (d + 5) 197 [.inr (.inr (some 73))] H X ∧ ∃ H1, X = (.inl none, H1) ∧ zx_S a 1 0 H1 ∧ zx_F a H H1 ∧ ((H1.2.1 72 23).toInt = 0 → zx_phi H + 2 ≤ zx_phi H1) ∧ (a : Int) ≤ (H1.2.1 72 45).toInt ∧ zx_phi H ≤ zx_phi H1 := by
  have W := zR_Wd (zR_dn h.1)
  obtain ⟨t0, w0⟩ := zx_top h
  have p1 := zx_phi_le h.1
  refine zw_met zm_197_t rfl rfl ?_
  refine zw_ld (n := 1) (k := 0) (f := zp_isR) (pc' := 1) rfl rfl rfl rfl rfl ?_
  by_cases hg : (H.2.1 72 23).toInt = 0
  · refine zw_c (pc' := 4) (zw_cv (q := 72) (Y := zm_175) W.1 rfl rfl zm_175_t rfl rfl) rfl rfl rfl rfl rfl (zq_good1 W hg) ?_
    have g1 := (h.2.2.2 hg).1
    refine zw_bne1 (g := 8) (pc' := 7) rfl rfl rfl (rfl : _ = (1 : Int)) (fun hb => ?_) (fun h9 => absurd h9 (by decide))
    refine zw_ld (n := 1) (k := 0) (f := zp_isR) (pc' := 9) rfl rfl rfl rfl rfl ?_
    refine zw_gI (q := 72) (pc' := 12) W rfl rfl rfl rfl rfl rfl ?_
    refine zw_s (pc' := 13) rfl rfl ?_
    refine zw_bne2 (g := 45) (pc' := 16) rfl rfl rfl rfl (rfl : _ = (2 : Int)) (fun h1 => ?_) (fun h1 => ?_)
    · refine zw_ld (n := 1) (k := 0) (f := zp_isR) (pc' := 46) rfl rfl rfl rfl rfl ?_
      refine zw_gI (q := 72) (pc' := 49) W rfl rfl rfl rfl rfl rfl ?_
      refine zw_s (pc' := 50) rfl rfl ?_
      refine zw_bne2 (g := 86) (pc' := 53) rfl rfl rfl rfl (rfl : _ = (1 : Int)) (fun h2 => ?_) (fun h2 => ?_)
      · obtain ⟨K, c1, c2, c3, c4, c5, c6, c7⟩ := zx_wrong (L := L) (σ := σ) (d := d + 3) (y := Int32.ofInt 1) h (by decide)
        have WK := zR_Wd (zR_dn (c3 0 0).1)
        refine zw_ld (n := 1) (k := 0) (f := zp_isR) (pc' := 87) rfl rfl rfl rfl rfl ?_
        refine zw_s (pc' := 88) rfl rfl ?_
        refine zw_cn (pc' := 91) (zw_cv (q := 72) (Y := zm_180) W.1 rfl rfl zm_180_t rfl rfl) rfl rfl rfl rfl rfl (c1) ?_
        refine zw_ld (n := 1) (k := 0) (f := zp_isR) (pc' := 92) rfl rfl rfl rfl rfl ?_
        refine zw_c (pc' := 95) (zw_cv (q := 72) (Y := zm_175) WK.1 rfl rfl zm_175_t rfl rfl) rfl rfl rfl rfl rfl (zq_good0 (H := K) WK c2) ?_
        refine zw_beq1 (g := 102) (pc' := 98) rfl rfl rfl (rfl : _ = (0 : Int)) (fun hb => ?_) (fun h9 => absurd h9 (by decide))
        refine zw_rn rfl rfl ?_
        exact ⟨K, rfl, c3 1 0, c4, fun h9 => absurd h9 c2, by omega, by omega⟩
      · refine zw_ld (n := 1) (k := 0) (f := zp_isR) (pc' := 54) rfl rfl rfl rfl rfl ?_
        obtain ⟨v, v1, v2⟩ := hK d H h.1
        have v3 := zg_in H
        have v3 : -1 ≤ zg H ∧ zg H ≤ 20 := v3
        refine zw_c (pc' := 57) (zw_cv (q := 72) (Y := zm_177) W.1 rfl rfl zm_177_t rfl rfl) rfl rfl rfl rfl rfl (v1) ?_
        refine zw_st (n := 1) (k := 1) (f := zp_isI) (pc' := 58) rfl rfl rfl rfl rfl ?_
        refine zw_ld (n := 1) (k := 1) (f := zp_isI) (pc' := 59) rfl rfl zw_g1 rfl rfl ?_
        refine zw_blt1 (g := 68) (pc' := 62) rfl rfl rfl rfl (fun h3 => ?_) (fun h3 => ?_)
        · refine zw_ld (n := 1) (k := 0) (f := zp_isR) (pc' := 69) rfl rfl (zw_gt rfl rfl rfl) rfl rfl ?_
          refine zw_s (pc' := 70) rfl rfl ?_
          obtain ⟨K, c1, c2, c3, c4, c5, c6, c7⟩ := zx_wrong (L := L) (σ := σ) (d := d + 3) (y := Int32.ofInt 3) h (by decide)
          have WK := zR_Wd (zR_dn (c3 0 0).1)
          obtain ⟨u0, u1⟩ := zx_top (c3 0 0)
          refine zw_cn (pc' := 73) (zw_cv (q := 72) (Y := zm_180) W.1 rfl rfl zm_180_t rfl rfl) rfl rfl rfl rfl rfl (c1) ?_
          refine zw_ld (n := 1) (k := 0) (f := zp_isR) (pc' := 74) rfl rfl (zw_gt rfl rfl rfl) rfl rfl ?_
          refine zw_s (pc' := 75) rfl rfl ?_
          refine zw_cn (pc' := 78) (zw_cv (q := 72) (Y := zm_198) WK.1 rfl rfl zm_198_t rfl rfl) rfl rfl rfl rfl rfl (zq_puts (H := K) WK ⟨u0, by show _ < ((1600 : Nat) : Int); omega⟩) ?_
          have e1 : ((zx_pt K (Int32.ofInt 2)).2.1 72 45).toInt = (K.2.1 72 45).toInt + 1 := zx_pt_t (by omega)
          refine zw_ld (n := 1) (k := 0) (f := zp_isR) (pc' := 79) rfl rfl (zw_gt rfl rfl rfl) rfl rfl ?_
          refine zw_ld (n := 1) (k := 1) (f := zp_isI) (pc' := 80) rfl rfl zw_g1 rfl rfl ?_
          refine zw_cn (pc' := 83) (zw_cv (q := 72) (Y := zm_198) WK.1 rfl rfl zm_198_t rfl rfl) rfl rfl rfl rfl rfl (zq_puts (H := zx_pt K (Int32.ofInt 2)) WK ⟨by omega, by show _ < ((1600 : Nat) : Int); omega⟩) ?_
          have hS : ∀ e o, zx_S a e o (zx_pt (zx_pt K (Int32.ofInt 2)) (v)) := fun e o => zx_pp_b (c3 0 0) c2 (by omega)
          have hb9 : ((zx_pt (zx_pt K (Int32.ofInt 2)) (v)).2.1 72 23).toInt ≠ 0 := by rw [zx_pt_f 23 rfl, zx_pt_f 23 rfl]; exact c2
          refine zw_s (pc' := 91) rfl rfl ?_
          refine zw_ld (n := 1) (k := 0) (f := zp_isR) (pc' := 92) rfl rfl (zw_gt rfl rfl rfl) rfl rfl ?_
          refine zw_c (pc' := 95) (zw_cv (q := 72) (Y := zm_175) WK.1 rfl rfl zm_175_t rfl rfl) rfl rfl rfl rfl rfl (zq_good0 (H := zx_pt (zx_pt K (Int32.ofInt 2)) (v)) WK hb9) ?_
          refine zw_beq1 (g := 102) (pc' := 98) rfl rfl rfl (rfl : _ = (0 : Int)) (fun hb => ?_) (fun h9 => absurd h9 (by decide))
          refine zw_rn rfl rfl ?_
          have hp : zx_phi (zx_pt (zx_pt K (Int32.ofInt 2)) (v)) = zx_phi K := by
            unfold zx_phi
            rw [zx_pt_f 27 rfl, zx_pt_f 28 rfl, zx_pt_f 27 rfl, zx_pt_f 28 rfl]
          have e2 : ((zx_pt (zx_pt K (Int32.ofInt 2)) (v)).2.1 72 45).toInt = ((zx_pt K (Int32.ofInt 2)).2.1 72 45).toInt + 1 := zx_pt_t (by omega)
          exact ⟨_, rfl, hS 1 0, zx_F_t c4 (zx_F_t (zx_pt_F (by omega)) (zx_pt_F (by omega))), fun h9 => absurd h9 hb9, by omega, by omega⟩
        · refine zw_ld (n := 1) (k := 1) (f := zp_isI) (pc' := 63) rfl rfl zw_g1 rfl rfl ?_
          refine zw_s (pc' := 65) rfl rfl ?_
          refine zw_ble2 (g := 73) (pc' := 68) rfl rfl rfl rfl (rfl : _ = (7 : Int)) (fun h4 => ?_) (fun h4 => ?_)
          · refine zw_ld (n := 1) (k := 0) (f := zp_isR) (pc' := 74) rfl rfl (zw_gt rfl rfl rfl) rfl rfl ?_
            refine zw_s (pc' := 75) rfl rfl ?_
            refine zw_cn (pc' := 78) (zw_cv (q := 72) (Y := zm_198) W.1 rfl rfl zm_198_t rfl rfl) rfl rfl rfl rfl rfl (zq_puts (H := H) W ⟨t0, by show _ < ((1600 : Nat) : Int); omega⟩) ?_
            have e1 : ((zx_pt H (Int32.ofInt 2)).2.1 72 45).toInt = (H.2.1 72 45).toInt + 1 := zx_pt_t (by omega)
            refine zw_ld (n := 1) (k := 0) (f := zp_isR) (pc' := 79) rfl rfl (zw_gt rfl rfl rfl) rfl rfl ?_
            refine zw_ld (n := 1) (k := 1) (f := zp_isI) (pc' := 80) rfl rfl zw_g1 rfl rfl ?_
            refine zw_cn (pc' := 83) (zw_cv (q := 72) (Y := zm_198) W.1 rfl rfl zm_198_t rfl rfl) rfl rfl rfl rfl rfl (zq_puts (H := zx_pt H (Int32.ofInt 2)) W ⟨by omega, by show _ < ((1600 : Nat) : Int); omega⟩) ?_
            have hT := zx_pp (c := Int32.ofInt 2) (y := v) h hg (by omega) (by decide)
            refine zw_s (pc' := 91) rfl rfl ?_
            refine zw_ld (n := 1) (k := 0) (f := zp_isR) (pc' := 92) rfl rfl (zw_gt rfl rfl rfl) rfl rfl ?_
            refine zw_c (pc' := 95) (zw_cv (q := 72) (Y := zm_175) W.1 rfl rfl zm_175_t rfl rfl) rfl rfl rfl rfl rfl (zq_good1 (H := zx_pt (zx_pt H (Int32.ofInt 2)) (v)) W hT.2.1) ?_
            refine zw_beq1 (g := 102) (pc' := 98) rfl rfl rfl (rfl : _ = (1 : Int)) (fun h9 => absurd h9 (by decide)) (fun hb => ?_)
            obtain ⟨H1, c1, c2, c3, c4, c5, c6⟩ := zx_T_goes (L := L) (σ := σ) (d := d + 2) hT
            refine zw_ld (n := 1) (k := 0) (f := zp_isR) (pc' := 99) rfl rfl (zw_gt rfl rfl rfl) rfl rfl ?_
            refine zw_cn (pc' := 102) (zw_cv (q := 72) (Y := zm_171) W.1 rfl rfl zm_171_t rfl rfl) rfl rfl rfl rfl rfl (c1) ?_
            refine zw_rn rfl rfl ?_
            have hp : zx_phi (zx_pt (zx_pt H (Int32.ofInt 2)) (v)) = zx_phi H := by
              unfold zx_phi
              rw [zx_pt_f 27 rfl, zx_pt_f 28 rfl, zx_pt_f 27 rfl, zx_pt_f 28 rfl]
            have e2 : ((zx_pt (zx_pt H (Int32.ofInt 2)) (v)).2.1 72 45).toInt = ((zx_pt H (Int32.ofInt 2)).2.1 72 45).toInt + 1 := zx_pt_t (by omega)
            exact ⟨H1, rfl, c2, zx_F_t (zx_F_t (zx_pt_F ha) (zx_pt_F (by omega))) c3, fun _ => by omega, by omega, by omega⟩
          · refine zw_ld (n := 1) (k := 0) (f := zp_isR) (pc' := 69) rfl rfl (zw_gt rfl rfl rfl) rfl rfl ?_
            refine zw_s (pc' := 70) rfl rfl ?_
            obtain ⟨K, c1, c2, c3, c4, c5, c6, c7⟩ := zx_wrong (L := L) (σ := σ) (d := d + 3) (y := Int32.ofInt 3) h (by decide)
            have WK := zR_Wd (zR_dn (c3 0 0).1)
            obtain ⟨u0, u1⟩ := zx_top (c3 0 0)
            refine zw_cn (pc' := 73) (zw_cv (q := 72) (Y := zm_180) W.1 rfl rfl zm_180_t rfl rfl) rfl rfl rfl rfl rfl (c1) ?_
            refine zw_ld (n := 1) (k := 0) (f := zp_isR) (pc' := 74) rfl rfl (zw_gt rfl rfl rfl) rfl rfl ?_
            refine zw_s (pc' := 75) rfl rfl ?_
            refine zw_cn (pc' := 78) (zw_cv (q := 72) (Y := zm_198) WK.1 rfl rfl zm_198_t rfl rfl) rfl rfl rfl rfl rfl (zq_puts (H := K) WK ⟨u0, by show _ < ((1600 : Nat) : Int); omega⟩) ?_
            have e1 : ((zx_pt K (Int32.ofInt 2)).2.1 72 45).toInt = (K.2.1 72 45).toInt + 1 := zx_pt_t (by omega)
            refine zw_ld (n := 1) (k := 0) (f := zp_isR) (pc' := 79) rfl rfl (zw_gt rfl rfl rfl) rfl rfl ?_
            refine zw_ld (n := 1) (k := 1) (f := zp_isI) (pc' := 80) rfl rfl zw_g1 rfl rfl ?_
            refine zw_cn (pc' := 83) (zw_cv (q := 72) (Y := zm_198) WK.1 rfl rfl zm_198_t rfl rfl) rfl rfl rfl rfl rfl (zq_puts (H := zx_pt K (Int32.ofInt 2)) WK ⟨by omega, by show _ < ((1600 : Nat) : Int); omega⟩) ?_
            have hS : ∀ e o, zx_S a e o (zx_pt (zx_pt K (Int32.ofInt 2)) (v)) := fun e o => zx_pp_b (c3 0 0) c2 (by omega)
            have hb9 : ((zx_pt (zx_pt K (Int32.ofInt 2)) (v)).2.1 72 23).toInt ≠ 0 := by rw [zx_pt_f 23 rfl, zx_pt_f 23 rfl]; exact c2
            refine zw_s (pc' := 91) rfl rfl ?_
            refine zw_ld (n := 1) (k := 0) (f := zp_isR) (pc' := 92) rfl rfl (zw_gt rfl rfl rfl) rfl rfl ?_
            refine zw_c (pc' := 95) (zw_cv (q := 72) (Y := zm_175) WK.1 rfl rfl zm_175_t rfl rfl) rfl rfl rfl rfl rfl (zq_good0 (H := zx_pt (zx_pt K (Int32.ofInt 2)) (v)) WK hb9) ?_
            refine zw_beq1 (g := 102) (pc' := 98) rfl rfl rfl (rfl : _ = (0 : Int)) (fun hb => ?_) (fun h9 => absurd h9 (by decide))
            refine zw_rn rfl rfl ?_
            have hp : zx_phi (zx_pt (zx_pt K (Int32.ofInt 2)) (v)) = zx_phi K := by
              unfold zx_phi
              rw [zx_pt_f 27 rfl, zx_pt_f 28 rfl, zx_pt_f 27 rfl, zx_pt_f 28 rfl]
            have e2 : ((zx_pt (zx_pt K (Int32.ofInt 2)) (v)).2.1 72 45).toInt = ((zx_pt K (Int32.ofInt 2)).2.1 72 45).toInt + 1 := zx_pt_t (by omega)
            exact ⟨_, rfl, hS 1 0, zx_F_t c4 (zx_F_t (zx_pt_F (by omega)) (zx_pt_F (by omega))), fun h9 => absurd h9 hb9, by omega, by omega⟩
    · refine zw_ld (n := 1) (k := 0) (f := zp_isR) (pc' := 17) rfl rfl rfl rfl rfl ?_
      refine zw_gI (q := 72) (pc' := 20) W rfl rfl rfl rfl rfl rfl ?_
      refine zw_s (pc' := 21) rfl rfl ?_
      refine zw_ble2 (g := 29) (pc' := 24) rfl rfl rfl rfl (rfl : _ = (4 : Int)) (fun h2 => ?_) (fun h2 => ?_)
      · refine zw_ld (n := 1) (k := 0) (f := zp_isR) (pc' := 30) rfl rfl rfl rfl rfl ?_
        refine zw_s (pc' := 31) rfl rfl ?_
        refine zw_cn (pc' := 34) (zw_cv (q := 72) (Y := zm_198) W.1 rfl rfl zm_198_t rfl rfl) rfl rfl rfl rfl rfl (zq_puts (H := H) W ⟨t0, by show _ < ((1600 : Nat) : Int); omega⟩) ?_
        have e1 : ((zx_pt H (Int32.ofInt 1)).2.1 72 45).toInt = (H.2.1 72 45).toInt + 1 := zx_pt_t (by omega)
        refine zw_ld (n := 1) (k := 0) (f := zp_isR) (pc' := 35) rfl rfl rfl rfl rfl ?_
        refine zw_ld (n := 1) (k := 0) (f := zp_isR) (pc' := 36) rfl rfl rfl rfl rfl ?_
        refine zw_gI (q := 72) (pc' := 39) W rfl rfl rfl rfl rfl rfl ?_
        refine zw_cn (pc' := 42) (zw_cv (q := 72) (Y := zm_198) W.1 rfl rfl zm_198_t rfl rfl) rfl rfl rfl rfl rfl (zq_puts (H := zx_pt H (Int32.ofInt 1)) W ⟨by omega, by show _ < ((1600 : Nat) : Int); omega⟩) ?_
        have hT := zx_pp (c := Int32.ofInt 1) (y := H.2.1 72 31) h hg (by omega) (by decide)
        refine zw_s (pc' := 91) rfl rfl ?_
        refine zw_ld (n := 1) (k := 0) (f := zp_isR) (pc' := 92) rfl rfl rfl rfl rfl ?_
        refine zw_c (pc' := 95) (zw_cv (q := 72) (Y := zm_175) W.1 rfl rfl zm_175_t rfl rfl) rfl rfl rfl rfl rfl (zq_good1 (H := zx_pt (zx_pt H (Int32.ofInt 1)) (H.2.1 72 31)) W hT.2.1) ?_
        refine zw_beq1 (g := 102) (pc' := 98) rfl rfl rfl (rfl : _ = (1 : Int)) (fun h9 => absurd h9 (by decide)) (fun hb => ?_)
        obtain ⟨H1, c1, c2, c3, c4, c5, c6⟩ := zx_T_goes (L := L) (σ := σ) (d := d + 2) hT
        refine zw_ld (n := 1) (k := 0) (f := zp_isR) (pc' := 99) rfl rfl rfl rfl rfl ?_
        refine zw_cn (pc' := 102) (zw_cv (q := 72) (Y := zm_171) W.1 rfl rfl zm_171_t rfl rfl) rfl rfl rfl rfl rfl (c1) ?_
        refine zw_rn rfl rfl ?_
        have hp : zx_phi (zx_pt (zx_pt H (Int32.ofInt 1)) (H.2.1 72 31)) = zx_phi H := by
          unfold zx_phi
          rw [zx_pt_f 27 rfl, zx_pt_f 28 rfl, zx_pt_f 27 rfl, zx_pt_f 28 rfl]
        have e2 : ((zx_pt (zx_pt H (Int32.ofInt 1)) (H.2.1 72 31)).2.1 72 45).toInt = ((zx_pt H (Int32.ofInt 1)).2.1 72 45).toInt + 1 := zx_pt_t (by omega)
        exact ⟨H1, rfl, c2, zx_F_t (zx_F_t (zx_pt_F ha) (zx_pt_F (by omega))) c3, fun _ => by omega, by omega, by omega⟩
      · refine zw_ld (n := 1) (k := 0) (f := zp_isR) (pc' := 25) rfl rfl rfl rfl rfl ?_
        refine zw_s (pc' := 26) rfl rfl ?_
        obtain ⟨K, c1, c2, c3, c4, c5, c6, c7⟩ := zx_wrong (L := L) (σ := σ) (d := d + 3) (y := Int32.ofInt 2) h (by decide)
        have WK := zR_Wd (zR_dn (c3 0 0).1)
        obtain ⟨u0, u1⟩ := zx_top (c3 0 0)
        refine zw_cn (pc' := 29) (zw_cv (q := 72) (Y := zm_180) W.1 rfl rfl zm_180_t rfl rfl) rfl rfl rfl rfl rfl (c1) ?_
        refine zw_ld (n := 1) (k := 0) (f := zp_isR) (pc' := 30) rfl rfl rfl rfl rfl ?_
        refine zw_s (pc' := 31) rfl rfl ?_
        refine zw_cn (pc' := 34) (zw_cv (q := 72) (Y := zm_198) WK.1 rfl rfl zm_198_t rfl rfl) rfl rfl rfl rfl rfl (zq_puts (H := K) WK ⟨u0, by show _ < ((1600 : Nat) : Int); omega⟩) ?_
        have e1 : ((zx_pt K (Int32.ofInt 1)).2.1 72 45).toInt = (K.2.1 72 45).toInt + 1 := zx_pt_t (by omega)
        refine zw_ld (n := 1) (k := 0) (f := zp_isR) (pc' := 35) rfl rfl rfl rfl rfl ?_
        refine zw_ld (n := 1) (k := 0) (f := zp_isR) (pc' := 36) rfl rfl rfl rfl rfl ?_
        refine zw_gI (q := 72) (pc' := 39) WK rfl rfl rfl rfl rfl rfl ?_
        refine zw_cn (pc' := 42) (zw_cv (q := 72) (Y := zm_198) WK.1 rfl rfl zm_198_t rfl rfl) rfl rfl rfl rfl rfl (zq_puts (H := zx_pt K (Int32.ofInt 1)) WK ⟨by omega, by show _ < ((1600 : Nat) : Int); omega⟩) ?_
        have hS : ∀ e o, zx_S a e o (zx_pt (zx_pt K (Int32.ofInt 1)) (K.2.1 72 31)) := fun e o => zx_pp_b (c3 0 0) c2 (by omega)
        have hb9 : ((zx_pt (zx_pt K (Int32.ofInt 1)) (K.2.1 72 31)).2.1 72 23).toInt ≠ 0 := by rw [zx_pt_f 23 rfl, zx_pt_f 23 rfl]; exact c2
        refine zw_s (pc' := 91) rfl rfl ?_
        refine zw_ld (n := 1) (k := 0) (f := zp_isR) (pc' := 92) rfl rfl rfl rfl rfl ?_
        refine zw_c (pc' := 95) (zw_cv (q := 72) (Y := zm_175) WK.1 rfl rfl zm_175_t rfl rfl) rfl rfl rfl rfl rfl (zq_good0 (H := zx_pt (zx_pt K (Int32.ofInt 1)) (K.2.1 72 31)) WK hb9) ?_
        refine zw_beq1 (g := 102) (pc' := 98) rfl rfl rfl (rfl : _ = (0 : Int)) (fun hb => ?_) (fun h9 => absurd h9 (by decide))
        refine zw_rn rfl rfl ?_
        have hp : zx_phi (zx_pt (zx_pt K (Int32.ofInt 1)) (K.2.1 72 31)) = zx_phi K := by
          unfold zx_phi
          rw [zx_pt_f 27 rfl, zx_pt_f 28 rfl, zx_pt_f 27 rfl, zx_pt_f 28 rfl]
        have e2 : ((zx_pt (zx_pt K (Int32.ofInt 1)) (K.2.1 72 31)).2.1 72 45).toInt = ((zx_pt K (Int32.ofInt 1)).2.1 72 45).toInt + 1 := zx_pt_t (by omega)
        exact ⟨_, rfl, hS 1 0, zx_F_t c4 (zx_F_t (zx_pt_F (by omega)) (zx_pt_F (by omega))), fun h9 => absurd h9 hb9, by omega, by omega⟩
  · refine zw_c (pc' := 4) (zw_cv (q := 72) (Y := zm_175) W.1 rfl rfl zm_175_t rfl rfl) rfl rfl rfl rfl rfl (zq_good0 W hg) ?_
    refine zw_bne1 (g := 8) (pc' := 7) rfl rfl rfl (rfl : _ = (0 : Int)) (fun h9 => absurd h9 (by decide)) (fun hb => ?_)
    refine zw_rn rfl rfl ?_
    exact ⟨H, rfl, zx_S_b h hg, zx_F_r H, fun h9 => absurd h9 hg, ha, Int.le_refl _⟩
