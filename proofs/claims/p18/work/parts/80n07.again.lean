/-! ===== the reference once more, without the condition on what it reads (printed from the parts above) ===== -/
def z0t_P (H : zp_H) (X : zp_X) : Prop := ∃ H1 v, X = (.inl (some (.inl v)), H1) ∧ zk_Bs z0R zg zJ H1 ∧ zk_Fr zg zt_wM zt_wA H H1
theorem z0t_thr {H : zp_H} {x : Int32} (hB : zk_Bs z0R zg zJ H) : zk_Bs z0R zg zJ (zw_I H 72 0 x) := z0R_up (zR_putf (k := 0) (x := x) (z0R_dn hB) (fun r hr => by cases hr) rfl (zJ_I rfl hB.2.2.2.2.2.2.2)) (fun h9 => z0R_cn (H := H) hB h9)
theorem z0t_ref {H : zp_H} {x : Int32} (hB : zk_Bs z0R zg zJ H) : zk_Bs z0R zg zJ (zw_I H 82 1 x) := z0R_up (zR_puta (p := 82) (j := 1) (x := x) (t := 0) (n := 2) (z0R_dn hB) rfl (fun r hr => by cases hr; exact ⟨Int32.le_toInt _, Int32.toInt_le _⟩) (zJ_I rfl hB.2.2.2.2.2.2.2)) (fun h9 => z0R_cn (H := H) hB h9)
set_option maxRecDepth 4000 in
set_option maxHeartbeats 1000000 in
theorem z0t_write {L : Nat} {σ : Nat → Int32} {d : Nat} {H : zp_H} {xs xw xt : Int32} (hB : zk_Bs z0R zg zJ H) : ∃ X, zp_Call L σ (d + 3) 213 [.inr (.inr (some 73)), .inl xs, .inl xw, .inl xt] H X ∧ z0t_P H X := by
  have W := zR_Wd (z0R_dn hB)
  have hJ := hB.2.2.2.2.2.2.2
  have hcc := z0R_cn hB
  have sl := zR_fr1 (z0R_dn hB) (k := 5) (r := (0, 8)) rfl rfl
  have sl : 0 ≤ (H.2.1 72 5).toInt ∧ (H.2.1 72 5).toInt ≤ 8 := sl
  have B1 := z0t_thr (x := Int32.ofInt 0) hB
  have F1 : zk_Fr zg zt_wM zt_wA H (zw_I H 72 0 (Int32.ofInt 0)) := zk_Fr_I (zk_Fr_r H) rfl rfl
  have t1 : (zw_I H 72 0 (Int32.ofInt 0)).2.1 72 0 = Int32.ofInt 0 := zw_eq
  have h0 : ((zw_I H 72 0 (Int32.ofInt 0)).2.1 72 0).toInt = 0 := by rw [t1]; rfl
  refine zw_met zm_213_t rfl rfl ?_
  refine zw_ld (n := 1) (k := 0) (f := zp_isR) (pc' := 1) rfl rfl rfl rfl rfl ?_
  refine zw_s (pc' := 2) rfl rfl ?_
  refine zw_pI (q := 72) (pc' := 5) W rfl rfl rfl rfl rfl rfl ?_
  refine zw_ld (n := 1) (k := 0) (f := zp_isR) (pc' := 6) rfl rfl rfl rfl rfl ?_
  refine zw_ld (n := 1) (k := 1) (f := zp_isI) (pc' := 7) rfl rfl rfl rfl rfl ?_
  by_cases hs : 0 ≤ xs.toInt ∧ xs.toInt < (H.2.1 72 5).toInt
  · refine zw_c (pc' := 10) (zw_cv (q := 72) (Y := zm_210) W.1 rfl rfl zm_210_t rfl rfl) rfl rfl rfl rfl rfl (zq_slate1 (H := zw_I H 72 0 (Int32.ofInt 0)) W h0 hs) ?_
    refine zw_bne1 (g := 15) (pc' := 13) rfl rfl rfl (rfl : _ = (1 : Int)) (fun hb => ?_) (fun h9 => absurd h9 (by decide))
    refine zw_ld (n := 1) (k := 0) (f := zp_isR) (pc' := 16) rfl rfl rfl rfl rfl ?_
    refine zw_ld (n := 1) (k := 1) (f := zp_isI) (pc' := 17) rfl rfl rfl rfl rfl ?_
    refine zw_c (pc' := 20) (zw_cv (q := 72) (Y := zm_212) W.1 rfl rfl zm_212_t rfl rfl) rfl rfl rfl rfl rfl (zq_marks (H := zw_I H 72 0 (Int32.ofInt 0)) W (by omega)) ?_
    obtain ⟨s, hss⟩ : ∃ s : Nat, xs.toInt.toNat = s := ⟨_, rfl⟩
    have hs1 : xs.toInt = (s : Int) := by omega
    rw [hss]
    have m74 : (zw_I H 72 0 (Int32.ofInt 0)).2.1 74 (4 * s + 2) = H.2.1 74 (4 * s + 2) := zw_ne rfl rfl
    rw [m74]
    have m0 := zt_s2 (z0T_dn hB) (k := s) (by omega)
    generalize hm : H.2.1 74 (4 * s + 2) = m at m0
    refine zw_st (n := 2) (k := 4) (f := zp_isI) (pc' := 22) rfl rfl rfl rfl rfl ?_
    refine zw_ld (n := 2) (k := 4) (f := zp_isI) (pc' := 24) rfl rfl zw_g1 rfl rfl ?_
    refine zw_s (pc' := 26) rfl rfl ?_
    refine zw_beq2 (g := 48) (pc' := 29) rfl rfl rfl rfl (rfl : _ = (8 : Int)) (fun h8 => ?_) (fun h8 => ?_)
    · refine zw_ld (n := 1) (k := 0) (f := zp_isR) (pc' := 49) rfl rfl (zw_gt rfl rfl rfl) rfl rfl ?_
      refine zw_c (pc' := 52) (zw_cv (q := 72) (Y := zm_214) W.1 rfl rfl zm_214_t rfl rfl) rfl rfl rfl rfl rfl (zq_refuses (H := zw_I H 72 0 (Int32.ofInt 0)) W) ?_
      refine zw_ri rfl rfl ?_
      exact ⟨_, _, rfl, z0t_ref B1, zk_Fr_I F1 rfl rfl⟩
    · refine zw_ld (n := 1) (k := 2) (f := zp_isI) (pc' := 30) rfl rfl (zw_gt rfl rfl rfl) rfl rfl ?_
      refine zw_s (pc' := 31) rfl rfl ?_
      refine zw_s (pc' := 32) rfl rfl ?_
      by_cases hw : (Int32.ofInt 0).toInt ≤ xw.toInt ∧ xw.toInt ≤ (Int32.ofInt 3).toInt
      · refine zw_c (pc' := 35) (zw_cs (Y := zm_185) rfl rfl zm_185_t) rfl rfl rfl rfl rfl (zq_within1 hw) ?_
        refine zw_beq1 (g := 48) (pc' := 38) rfl rfl rfl (rfl : _ = (1 : Int)) (fun h9 => absurd h9 (by decide)) (fun hb => ?_)
        refine zw_ld (n := 1) (k := 3) (f := zp_isI) (pc' := 39) rfl rfl (zw_gt rfl rfl rfl) rfl rfl ?_
        refine zw_s (pc' := 40) rfl rfl ?_
        refine zw_s (pc' := 42) rfl rfl ?_
        by_cases ht : (Int32.ofInt 1).toInt ≤ xt.toInt ∧ xt.toInt ≤ (Int32.ofInt 9).toInt
        · refine zw_c (pc' := 45) (zw_cs (Y := zm_185) rfl rfl zm_185_t) rfl rfl rfl rfl rfl (zq_within1 ht) ?_
          refine zw_bne1 (g := 53) (pc' := 48) rfl rfl rfl (rfl : _ = (1 : Int)) (fun hb => ?_) (fun h9 => absurd h9 (by decide))
          have i0 : (Int32.ofInt 0).toInt = 0 := rfl
          have i3 : (Int32.ofInt 3).toInt = 3 := rfl
          have a1 : (Int32.ofInt 16 * xs).toInt = 16 * xs.toInt := zt_mul (by decide) (by omega)
          have a2 : (Int32.ofInt 2 * m).toInt = 2 * m.toInt := zt_mul (by decide) (by omega)
          have a3 : (Int32.ofInt 16 * xs + Int32.ofInt 2 * m).toInt = 16 * xs.toInt + 2 * m.toInt := by rw [zn_add (by omega) (by omega), a1, a2]
          have a4 : (Int32.ofInt 16 * xs + Int32.ofInt 2 * m + Int32.ofInt 1).toInt = 16 * xs.toInt + 2 * m.toInt + 1 := by rw [zw_p1 (by omega), a3]
          have a5 : (Int32.ofInt 4 * xs).toInt = 4 * xs.toInt := zt_mul (by decide) (by omega)
          have a6 : (Int32.ofInt 4 * xs + Int32.ofInt 2).toInt = 4 * xs.toInt + 2 := by rw [zt_add (by decide) (by omega), a5]
          have a7 : (m + Int32.ofInt 1).toInt = m.toInt + 1 := zw_p1 (by omega)
          obtain ⟨q, hq⟩ : ∃ q : Nat, m.toInt = (q : Int) := ⟨m.toInt.toNat, by omega⟩
          have c3 : (Int32.ofInt 16 * xs + Int32.ofInt 2 * m).toInt.toNat = 16 * s + 2 * q := by omega
          have c4 : (Int32.ofInt 16 * xs + Int32.ofInt 2 * m + Int32.ofInt 1).toInt.toNat = 16 * s + 2 * q + 1 := by omega
          have c6 : (Int32.ofInt 4 * xs + Int32.ofInt 2).toInt.toNat = 4 * s + 2 := by omega
          have b1 := z0T_dn B1
          have b2 := zT_puta (p := 75) (j := 16 * s + 2 * q) (x := zp_nar 0 xw) (t := 0) (n := 128) b1 rfl (fun r hr => by
            have hr : [((0 : Int), (3 : Int)), (-2147483648, 2147483647)][(16 * s + 2 * q) % 2]? = some r := hr
            rw [show (16 * s + 2 * q) % 2 = 0 by omega] at hr
            cases hr
            exact ⟨by show (0 : Int) ≤ xw.toInt; omega, by show xw.toInt ≤ (3 : Int); omega⟩) trivial
          have b3 := zT_puta (p := 75) (j := 16 * s + 2 * q + 1) (x := zp_nar 0 xt) (t := 0) (n := 128) b2 rfl (fun r hr => by
            have hr : [((0 : Int), (3 : Int)), (-2147483648, 2147483647)][(16 * s + 2 * q + 1) % 2]? = some r := hr
            rw [show (16 * s + 2 * q + 1) % 2 = 1 by omega] at hr
            cases hr
            exact ⟨Int32.le_toInt _, Int32.toInt_le _⟩) trivial
          have b4 := zT_puta (p := 74) (j := 4 * s + 2) (x := zp_nar 0 (m + Int32.ofInt 1)) (t := 0) (n := 32) b3 rfl (fun r hr => by
            have hr : [((0 : Int), (63 : Int)), (-2147483648, 2147483647), (0, 8), (0, 255)][(4 * s + 2) % 4]? = some r := hr
            rw [show (4 * s + 2) % 4 = 2 by omega] at hr
            cases hr
            exact ⟨by show (0 : Int) ≤ (m + Int32.ofInt 1).toInt; omega, by show (m + Int32.ofInt 1).toInt ≤ (8 : Int); omega⟩) trivial
          have F4 : zk_Fr zg zt_wM zt_wA H (zw_I (zw_I (zw_I (zw_I H 72 0 (Int32.ofInt 0)) 75 (16 * s + 2 * q) (zp_nar 0 xw)) 75 (16 * s + 2 * q + 1) (zp_nar 0 xt)) 74 (4 * s + 2) (zp_nar 0 (m + Int32.ofInt 1))) := zk_Fr_I (zk_Fr_I (zk_Fr_I F1 rfl rfl) rfl rfl) rfl rfl
          have hkC : zt_kC (zw_I (zw_I (zw_I (zw_I H 72 0 (Int32.ofInt 0)) 75 (16 * s + 2 * q) (zp_nar 0 xw)) 75 (16 * s + 2 * q + 1) (zp_nar 0 xt)) 74 (4 * s + 2) (zp_nar 0 (m + Int32.ofInt 1))) xs.toInt (Int32.ofInt (-1)).toInt := by
            intro s' h'
            have hc := hJ.2.1 s' h'
            have e93 : (zw_I (zw_I (zw_I (zw_I H 72 0 (Int32.ofInt 0)) 75 (16 * s + 2 * q) (zp_nar 0 xw)) 75 (16 * s + 2 * q + 1) (zp_nar 0 xt)) 74 (4 * s + 2) (zp_nar 0 (m + Int32.ofInt 1))).2.1 93 = H.2.1 93 := funext (fun i => zw_ne (zw_ne (zw_ne (zw_ne rfl rfl) rfl) rfl) rfl)
            have e62 : (zw_I (zw_I (zw_I (zw_I H 72 0 (Int32.ofInt 0)) 75 (16 * s + 2 * q) (zp_nar 0 xw)) 75 (16 * s + 2 * q + 1) (zp_nar 0 xt)) 74 (4 * s + 2) (zp_nar 0 (m + Int32.ofInt 1))).2.1 72 62 = H.2.1 72 62 := zw_ne (zw_ne (zw_ne (zw_ne rfl rfl) rfl) rfl) rfl
            rw [e93, e62]
            by_cases h9 : s' = s
            · have e : (zw_I (zw_I (zw_I (zw_I H 72 0 (Int32.ofInt 0)) 75 (16 * s + 2 * q) (zp_nar 0 xw)) 75 (16 * s + 2 * q + 1) (zp_nar 0 xt)) 74 (4 * s + 2) (zp_nar 0 (m + Int32.ofInt 1))).2.1 74 (4 * s' + 2) = m + Int32.ofInt 1 := by rw [h9]; exact zw_eq
              rw [e, a7]
              rw [h9, hm] at hc
              rw [if_pos ⟨by omega, rfl⟩, h9]
              omega
            · have e : (zw_I (zw_I (zw_I (zw_I H 72 0 (Int32.ofInt 0)) 75 (16 * s + 2 * q) (zp_nar 0 xw)) 75 (16 * s + 2 * q + 1) (zp_nar 0 xt)) 74 (4 * s + 2) (zp_nar 0 (m + Int32.ofInt 1))).2.1 74 (4 * s' + 2) = H.2.1 74 (4 * s' + 2) := (zp_u_ne (fun h8 => h9 (by have := h8.2; omega))).trans (zw_ne (zw_ne (zw_ne rfl rfl) rfl) rfl)
              rw [e, if_neg (fun h8 => h9 (by have := h8.1; omega))]
              omega
          have J4 : ∀ p k, zR_fz p k = true → p ≠ 74 → (zw_I (zw_I (zw_I (zw_I H 72 0 (Int32.ofInt 0)) 75 (16 * s + 2 * q) (zp_nar 0 xw)) 75 (16 * s + 2 * q + 1) (zp_nar 0 xt)) 74 (4 * s + 2) (zp_nar 0 (m + Int32.ofInt 1))).2.1 p k = H.2.1 p k := fun p k hf hp => (zp_u_ne (fun h8 => hp h8.1)).trans ((zp_u_ne (fun h8 => by rw [h8.1] at hf; cases hf)).trans ((zp_u_ne (fun h8 => by rw [h8.1] at hf; cases hf)).trans (zp_u_ne (fun h8 => by rw [h8.1, h8.2] at hf; cases hf))))
          obtain ⟨_, k1, K, rfl, k2, k3, k4⟩ := zt_keeps (L := L) (σ := σ) (d := d + 1) (xs := xs) (xv := Int32.ofInt (-1)) (by omega) (by decide) b4 hkC
          refine zw_ld (n := 1) (k := 0) (f := zp_isR) (pc' := 54) rfl rfl (zw_gt rfl rfl rfl) rfl rfl ?_
          refine zw_gR (q := 72) (pc' := 57) W rfl rfl rfl rfl (W.2 72 15 _ rfl) rfl ?_
          refine zw_s (pc' := 59) rfl rfl ?_
          refine zw_ld (n := 1) (k := 1) (f := zp_isI) (pc' := 60) rfl rfl (zw_gt rfl rfl rfl) rfl rfl ?_
          refine zw_imul (pc' := 61) rfl rfl ?_
          refine zw_s (pc' := 62) rfl rfl ?_
          refine zw_ld (n := 2) (k := 4) (f := zp_isI) (pc' := 64) rfl rfl zw_g1 rfl rfl ?_
          refine zw_imul (pc' := 65) rfl rfl ?_
          refine zw_iadd (pc' := 66) rfl rfl ?_
          refine zw_ld (n := 1) (k := 2) (f := zp_isI) (pc' := 67) rfl rfl (zw_gt rfl rfl rfl) rfl rfl ?_
          refine zw_is (q := 75) (pc' := 68) W rfl rfl (by decide) (⟨by omega, by show _ < ((128 : Nat) : Int); omega⟩) rfl ?_
          refine zw_ld (n := 1) (k := 0) (f := zp_isR) (pc' := 69) rfl rfl (zw_gt rfl rfl rfl) rfl rfl ?_
          refine zw_gR (q := 72) (pc' := 72) W rfl rfl rfl rfl (W.2 72 15 _ rfl) rfl ?_
          refine zw_s (pc' := 74) rfl rfl ?_
          refine zw_ld (n := 1) (k := 1) (f := zp_isI) (pc' := 75) rfl rfl (zw_gt rfl rfl rfl) rfl rfl ?_
          refine zw_imul (pc' := 76) rfl rfl ?_
          refine zw_s (pc' := 77) rfl rfl ?_
          refine zw_ld (n := 2) (k := 4) (f := zp_isI) (pc' := 79) rfl rfl zw_g1 rfl rfl ?_
          refine zw_imul (pc' := 80) rfl rfl ?_
          refine zw_iadd (pc' := 81) rfl rfl ?_
          refine zw_s (pc' := 82) rfl rfl ?_
          refine zw_iadd (pc' := 83) rfl rfl ?_
          refine zw_ld (n := 1) (k := 3) (f := zp_isI) (pc' := 84) rfl rfl (zw_gt rfl rfl rfl) rfl rfl ?_
          refine zw_is (q := 75) (pc' := 85) W rfl rfl (by decide) (⟨by omega, by show _ < ((128 : Nat) : Int); omega⟩) rfl ?_
          refine zw_ld (n := 1) (k := 0) (f := zp_isR) (pc' := 86) rfl rfl (zw_gt rfl rfl rfl) rfl rfl ?_
          refine zw_gR (q := 72) (pc' := 89) W rfl rfl rfl rfl (W.2 72 14 _ rfl) rfl ?_
          refine zw_s (pc' := 90) rfl rfl ?_
          refine zw_ld (n := 1) (k := 1) (f := zp_isI) (pc' := 91) rfl rfl (zw_gt rfl rfl rfl) rfl rfl ?_
          refine zw_imul (pc' := 92) rfl rfl ?_
          refine zw_s (pc' := 93) rfl rfl ?_
          refine zw_iadd (pc' := 94) rfl rfl ?_
          refine zw_ld (n := 2) (k := 4) (f := zp_isI) (pc' := 96) rfl rfl zw_g1 rfl rfl ?_
          refine zw_s (pc' := 97) rfl rfl ?_
          refine zw_iadd (pc' := 98) rfl rfl ?_
          refine zw_is (q := 74) (pc' := 99) W rfl rfl (by decide) (⟨by omega, by show _ < ((32 : Nat) : Int); omega⟩) rfl ?_
          rw [c3, c4, c6]
          refine zw_ld (n := 1) (k := 0) (f := zp_isR) (pc' := 100) rfl rfl (zw_gt rfl rfl rfl) rfl rfl ?_
          refine zw_ld (n := 1) (k := 1) (f := zp_isI) (pc' := 101) rfl rfl (zw_gt rfl rfl rfl) rfl rfl ?_
          refine zw_s (pc' := 102) rfl rfl ?_
          refine zw_cn (pc' := 105) (zw_cv (q := 72) (Y := zm_215) W.1 rfl rfl zm_215_t rfl rfl) rfl rfl rfl rfl rfl (k1) ?_
          refine zw_ld (n := 2) (k := 4) (f := zp_isI) (pc' := 107) rfl rfl zw_g1 rfl rfl ?_
          refine zw_s (pc' := 108) rfl rfl ?_
          refine zw_iadd (pc' := 109) rfl rfl ?_
          refine zw_ri rfl rfl ?_
          refine ⟨K, _, rfl, z0T_up k2 (zt_J hJ ?_ ?_ ?_ ?_ ?_ ?_ k3) ?_, zk_Fr_t F4 (zk_Fr_w rfl rfl k4)⟩
          · rw [zx_fe k4 8 rfl rfl rfl, J4 72 8 rfl (by decide)]
          · rw [zx_ae k4 78 (fun _ => rfl) rfl rfl]; exact funext (fun i => J4 78 i rfl (by decide))
          · rw [zx_ae k4 80 (fun _ => rfl) rfl rfl]; exact funext (fun i => J4 80 i rfl (by decide))
          · rw [zx_fe k4 81 rfl rfl rfl, J4 72 81 rfl (by decide)]
          · rw [zx_ae k4 101 (fun _ => rfl) rfl rfl]; exact funext (fun i => J4 101 i rfl (by decide))
          · rw [zx_ae k4 103 (fun _ => rfl) rfl rfl]; exact funext (fun i => J4 103 i rfl (by decide))
          · unfold z0R_cc
            rw [zx_fe k4 23 rfl rfl rfl, zx_fe k4 34 rfl rfl rfl, zx_fe k4 35 rfl rfl rfl]
            exact fun h9 => hcc h9
        · refine zw_c (pc' := 45) (zw_cs (Y := zm_185) rfl rfl zm_185_t) rfl rfl rfl rfl rfl (zq_within0 ht) ?_
          refine zw_bne1 (g := 53) (pc' := 48) rfl rfl rfl (rfl : _ = (0 : Int)) (fun h9 => absurd h9 (by decide)) (fun hb => ?_)
          refine zw_ld (n := 1) (k := 0) (f := zp_isR) (pc' := 49) rfl rfl (zw_gt rfl rfl rfl) rfl rfl ?_
          refine zw_c (pc' := 52) (zw_cv (q := 72) (Y := zm_214) W.1 rfl rfl zm_214_t rfl rfl) rfl rfl rfl rfl rfl (zq_refuses (H := zw_I H 72 0 (Int32.ofInt 0)) W) ?_
          refine zw_ri rfl rfl ?_
          exact ⟨_, _, rfl, z0t_ref B1, zk_Fr_I F1 rfl rfl⟩
      · refine zw_c (pc' := 35) (zw_cs (Y := zm_185) rfl rfl zm_185_t) rfl rfl rfl rfl rfl (zq_within0 hw) ?_
        refine zw_beq1 (g := 48) (pc' := 38) rfl rfl rfl (rfl : _ = (0 : Int)) (fun hb => ?_) (fun h9 => absurd h9 (by decide))
        refine zw_ld (n := 1) (k := 0) (f := zp_isR) (pc' := 49) rfl rfl (zw_gt rfl rfl rfl) rfl rfl ?_
        refine zw_c (pc' := 52) (zw_cv (q := 72) (Y := zm_214) W.1 rfl rfl zm_214_t rfl rfl) rfl rfl rfl rfl rfl (zq_refuses (H := zw_I H 72 0 (Int32.ofInt 0)) W) ?_
        refine zw_ri rfl rfl ?_
        exact ⟨_, _, rfl, z0t_ref B1, zk_Fr_I F1 rfl rfl⟩
  · refine zw_c (pc' := 10) (zw_cv (q := 72) (Y := zm_210) W.1 rfl rfl zm_210_t rfl rfl) rfl rfl rfl rfl rfl (zq_slate0 (H := zw_I H 72 0 (Int32.ofInt 0)) W h0 hs) ?_
    refine zw_bne1 (g := 15) (pc' := 13) rfl rfl rfl (rfl : _ = (0 : Int)) (fun h9 => absurd h9 (by decide)) (fun hb => ?_)
    refine zw_s (pc' := 14) rfl rfl ?_
    refine zw_ri rfl rfl ?_
    exact ⟨_, _, rfl, z0t_thr B1, zk_Fr_I F1 rfl rfl⟩
