/-! ===== the reference once more, without the condition on what it reads (printed from the parts above) ===== -/
set_option maxRecDepth 4000 in
set_option maxHeartbeats 800000 in
theorem z0s_head {L : Nat} {σ : Nat → Int32} {d : Nat} {H0 : zp_H} {xp xm : Int32} (hp : 0 ≤ xp.toInt ∧ xp.toInt ≤ 3) (hm8 : xm.toInt ≤ 8) : ∀ (n : Nat) (H : zp_H) (lv : zp_LV) (xk : Int32), zs_ms (H.2.1 98) (H.2.1 72 5).toInt xk.toInt xm.toInt = n → z0s_I H0 H xk.toInt xm.toInt → zp_get lv 0 = some (.inr (.inr (some 73))) → zp_get lv 1 = some (.inl xp) → zp_get lv 2 = some (.inl xm) → zp_get lv 3 = some (.inl xk) → zs_Safe L σ (z0t_iQ H0) zm_238 [] (d + 9) (9, lv, [], H, (0, 0)) := by
  intro n
  induction n using Nat.strongRecOn with
  | ind n ih =>
    intro H lv xk hn hI l0 l1 l2 l3
    obtain ⟨hB, hF, hk, hlow, hr⟩ := hI
    have W := zR_Wd (z0R_dn hB)
    have S8 := zR_fr1 (z0R_dn hB) (k := 5) (r := (0, 8)) rfl rfl
    have S8 : 0 ≤ (H.2.1 72 5).toInt ∧ (H.2.1 72 5).toInt ≤ 8 := S8
    obtain ⟨xk1, hk1⟩ : ∃ xk1 : Int32, xk + Int32.ofInt (-1) = xk1 := ⟨_, rfl⟩
    have ek1 : -1 < xk.toInt → xk1.toInt = xk.toInt - 1 := fun h => by
      have h1 : (Int32.ofInt (-1)).toInt = -1 := rfl
      rw [← hk1, zn_add (by omega) (by omega), h1]
      omega
    refine zw_ld (n := 1) (k := 3) (f := zp_isI) (pc' := 10) rfl rfl l3 rfl rfl ?_
    refine zw_blt1 (g := 154) (pc' := 13) rfl rfl rfl rfl (fun h0 => ?_) (fun h0 => ?_)
    · refine zw_s (pc' := 155) rfl rfl ?_
      refine zw_rz rfl rfl (by decide) ?_
      exact ⟨H, _, rfl, hB, hF, Or.inl rfl⟩
    · refine zw_ld (n := 1) (k := 3) (f := zp_isI) (pc' := 14) rfl rfl l3 rfl rfl ?_
      refine zw_ld (n := 1) (k := 2) (f := zp_isI) (pc' := 15) rfl rfl l2 rfl rfl ?_
      refine zw_bne2 (g := 73) (pc' := 18) rfl rfl rfl rfl rfl (fun hm => ?_) (fun hm => ?_)
      · have r := hr h0 (by omega)
        have e1 : (H.2.1 98 xk.toInt.toNat + Int32.ofInt 1).toInt = (H.2.1 98 xk.toInt.toNat).toInt + 1 := zw_p1 (by omega)
        have f98 : (zw_I H 98 xk.toInt.toNat (zp_nar 0 (H.2.1 98 xk.toInt.toNat + Int32.ofInt 1))).2.1 98 xk.toInt.toNat = H.2.1 98 xk.toInt.toNat + Int32.ofInt 1 := zw_eq
        have f5 : (zw_I H 98 xk.toInt.toNat (zp_nar 0 (H.2.1 98 xk.toInt.toNat + Int32.ofInt 1))).2.1 72 5 = H.2.1 72 5 := zw_ne rfl rfl
        refine zw_ld (n := 1) (k := 0) (f := zp_isR) (pc' := 74) rfl rfl l0 rfl rfl ?_
        refine zw_gR (q := 72) (pc' := 77) W rfl rfl rfl rfl (W.2 72 76 _ rfl) rfl ?_
        refine zw_ld (n := 1) (k := 3) (f := zp_isI) (pc' := 78) rfl rfl l3 rfl rfl ?_
        refine zw_s (pc' := 79) rfl rfl ?_
        refine zw_ia (q := 98) (pc' := 80) W rfl rfl (by decide) (⟨by omega, by show _ < ((8 : Nat) : Int); omega⟩) rfl rfl ?_
        refine zw_s (pc' := 81) rfl rfl ?_
        refine zw_iadd (pc' := 82) rfl rfl ?_
        refine zw_is (q := 98) (pc' := 83) W rfl rfl (by decide) (⟨by omega, by show _ < ((8 : Nat) : Int); omega⟩) rfl ?_
        refine z0s_inn (row0 := H.2.1 98) (S := (H.2.1 72 5).toInt) (r0 := (H.2.1 98 xk.toInt.toNat).toInt) ⟨h0, by omega⟩ l0 l3 ?_ 10 _ (z0s_w hB ⟨by omega, by omega⟩) (zk_Fr_I hF rfl rfl) (by rw [f5]) (fun j hj => ?_) (by rw [f98, f5]; omega) (by rw [f98, f5]; omega)
        rotate_left
        · rw [zs_w98 (by omega), f5]
          exact ⟨rfl, hlow j hj⟩
        intro K c2 c3 k5 klow kr
        have WK := zR_Wd (z0R_dn c2)
        have km := zs_mu_c (row := H.2.1 98) (row' := K.2.1 98) (S := (H.2.1 72 5).toInt) (n := xk.toInt.toNat) (fun i hi => (klow i (by omega)).1)
        have hd1 := zs_d1 (S := (H.2.1 72 5).toInt) (S0 := S8.1) (row := H.2.1 98) (row' := K.2.1 98) (k := xk.toInt.toNat) S8.2 (by omega) (fun i hi => (klow i (by omega)).1) (by omega) kr.1
        refine zw_ld (n := 1) (k := 0) (f := zp_isR) (pc' := 118) rfl rfl l0 rfl rfl ?_
        refine zw_gR (q := 72) (pc' := 121) WK rfl rfl rfl rfl (WK.2 72 76 _ rfl) rfl ?_
        refine zw_ld (n := 1) (k := 3) (f := zp_isI) (pc' := 122) rfl rfl l3 rfl rfl ?_
        refine zw_ia (q := 98) (pc' := 123) WK rfl rfl (by decide) (⟨by omega, by show _ < ((8 : Nat) : Int); omega⟩) rfl rfl ?_
        refine zw_ld (n := 1) (k := 0) (f := zp_isR) (pc' := 124) rfl rfl l0 rfl rfl ?_
        refine zw_gI (q := 72) (pc' := 127) WK rfl rfl rfl rfl rfl rfl ?_
        refine zw_blt2 (g := 136) (pc' := 130) rfl rfl rfl rfl rfl (fun hx => ?_) (fun hx => ?_)
        · have e3 : (xk + Int32.ofInt 1).toInt = xk.toInt + 1 := zw_p1 (by omega)
          have e4 : (xk + Int32.ofInt 1).toInt.toNat = xk.toInt.toNat + 1 := by omega
          have hpos : 0 < 11 ^ (7 - xk.toInt.toNat) := Nat.pow_pos (by decide)
          refine zw_ii (pc' := 139) rfl l3 rfl rfl ?_
          refine zw_ld (n := 1) (k := 3) (f := zp_isI) (pc' := 140) rfl rfl zw_g1 rfl rfl ?_
          refine zw_ld (n := 1) (k := 2) (f := zp_isI) (pc' := 141) rfl rfl (zw_gt l2 rfl rfl) rfl rfl ?_
          refine zw_bge2 (g := 9) (pc' := 144) rfl rfl rfl rfl rfl (fun hy => ?_) (fun hy => ?_)
          · refine ih _ ?_ K _ (xk + Int32.ofInt 1) rfl ⟨c2, c3, ⟨by omega, by omega⟩, ?_, fun _ h9 => by omega⟩ (zw_gt l0 rfl rfl) (zw_gt l1 rfl rfl) (zw_gt l2 rfl rfl) zw_g1
            · rw [← hn]
              unfold zs_ms
              rw [k5, if_pos (by omega), if_pos (by omega), if_neg hm, if_neg hm, e4, show (xk.toInt + 1).toNat = xk.toInt.toNat + 1 by omega]
              omega
            · intro j hj
              by_cases h9 : (j : Int) = xk.toInt
              · rw [show j = xk.toInt.toNat by omega]
                omega
              · exact (klow j (by omega)).2
          · refine zw_ld (n := 1) (k := 0) (f := zp_isR) (pc' := 145) rfl rfl (zw_gt l0 rfl rfl) rfl rfl ?_
            refine zw_gR (q := 72) (pc' := 148) WK rfl rfl rfl rfl (WK.2 72 76 _ rfl) rfl ?_
            refine zw_ld (n := 1) (k := 3) (f := zp_isI) (pc' := 149) rfl rfl zw_g1 rfl rfl ?_
            refine zw_s (pc' := 150) rfl rfl ?_
            refine zw_is (q := 98) (pc' := 151) WK rfl rfl (by decide) (⟨by omega, by show _ < ((8 : Nat) : Int); omega⟩) rfl ?_
            refine zw_s (pc' := 9) rfl rfl ?_
            have g98 : ∀ i, i ≠ xk.toInt.toNat + 1 → (zw_I K 98 (xk + Int32.ofInt 1).toInt.toNat (zp_nar 0 (Int32.ofInt (-1)))).2.1 98 i = K.2.1 98 i := fun i hi => zs_w98 (by omega)
            have g98t : (zw_I K 98 (xk + Int32.ofInt 1).toInt.toNat (zp_nar 0 (Int32.ofInt (-1)))).2.1 98 (xk.toInt.toNat + 1) = Int32.ofInt (-1) := by rw [e4]; exact zw_eq
            have g5 : (zw_I K 98 (xk + Int32.ofInt 1).toInt.toNat (zp_nar 0 (Int32.ofInt (-1)))).2.1 72 5 = K.2.1 72 5 := zw_ne rfl rfl
            have m1 : (Int32.ofInt (-1)).toInt = -1 := rfl
            refine ih _ ?_ _ _ (xk + Int32.ofInt 1) rfl ⟨z0s_w c2 (by decide), zk_Fr_I c3 rfl rfl, ⟨by omega, by omega⟩, ?_, ?_⟩ (zw_gt l0 rfl rfl) (zw_gt l1 rfl rfl) (zw_gt l2 rfl rfl) zw_g1
            · rw [← hn]
              unfold zs_ms
              rw [g5, k5, if_neg (by omega), if_neg (by omega), if_neg hm, if_neg hm, show ((xk + Int32.ofInt 1).toInt + 1).toNat = xk.toInt.toNat + 1 + 1 by omega, show (xk.toInt + 1).toNat = xk.toInt.toNat + 1 by omega]
              have h9 : zs_mu ((zw_I K 98 (xk + Int32.ofInt 1).toInt.toNat (zp_nar 0 (Int32.ofInt (-1)))).2.1 98) (H.2.1 72 5).toInt (xk.toInt.toNat + 1 + 1) = zs_mu (K.2.1 98) (H.2.1 72 5).toInt (xk.toInt.toNat + 1) + ((H.2.1 72 5).toInt + 1 - -1).toNat * 11 ^ (7 - (xk.toInt.toNat + 1)) := by
                show zs_mu _ _ (xk.toInt.toNat + 1) + _ = _
                rw [zs_mu_c (row := K.2.1 98) (fun i hi => g98 i (by omega)), g98t, m1]
              have hp7 : 11 ^ (7 - xk.toInt.toNat) = 11 ^ (7 - (xk.toInt.toNat + 1)) * 11 := by
                rw [← Nat.pow_succ]
                congr 1
                omega
              have h8 : ((H.2.1 72 5).toInt + 1 - -1).toNat * 11 ^ (7 - (xk.toInt.toNat + 1)) ≤ 10 * 11 ^ (7 - (xk.toInt.toNat + 1)) := Nat.mul_le_mul_right _ (by omega)
              rw [h9]
              omega
            · intro j hj
              rw [g98 j (by omega), g5]
              by_cases h9 : (j : Int) = xk.toInt
              · rw [show j = xk.toInt.toNat by omega]
                omega
              · exact (klow j (by omega)).2
            · intro h1 h2
              have g2 : (zw_I K 98 (xk + Int32.ofInt 1).toInt.toNat (zp_nar 0 (Int32.ofInt (-1)))).2.1 98 (xk + Int32.ofInt 1).toInt.toNat = Int32.ofInt (-1) := zw_eq
              rw [g2, g5, m1]
              omega
        · refine zw_iiy (pc' := 133) rfl l3 rfl rfl hk1 ?_
          refine zw_s (pc' := 9) rfl rfl ?_
          have e2 := ek1 (by omega)
          refine ih _ ?_ K _ xk1 rfl ⟨c2, c3, ⟨by omega, by omega⟩, ?_, ?_⟩ (zw_gt l0 rfl rfl) (zw_gt l1 rfl rfl) (zw_gt l2 rfl rfl) zw_g1
          · rw [← hn]
            unfold zs_ms
            rw [k5, if_neg (by omega), if_neg (by omega), if_neg hm, if_neg hm, show (xk1.toInt + 1).toNat = xk.toInt.toNat by omega, show (xk.toInt + 1).toNat = xk.toInt.toNat + 1 by omega, km]
            have hpos : 0 < 11 ^ (7 - xk.toInt.toNat) := Nat.pow_pos (by decide)
            have h9 : zs_mu (H.2.1 98) (H.2.1 72 5).toInt (xk.toInt.toNat + 1) = zs_mu (H.2.1 98) (H.2.1 72 5).toInt xk.toInt.toNat + ((H.2.1 72 5).toInt + 1 - (H.2.1 98 xk.toInt.toNat).toInt).toNat * 11 ^ (7 - xk.toInt.toNat) := rfl
            have h8 : 1 * 11 ^ (7 - xk.toInt.toNat) ≤ ((H.2.1 72 5).toInt + 1 - (H.2.1 98 xk.toInt.toNat).toInt).toNat * 11 ^ (7 - xk.toInt.toNat) := Nat.mul_le_mul_right _ (by omega)
            omega
          · intro j hj
            exact (klow j (by omega)).2
          · intro h1 h2
            have := (klow xk1.toInt.toNat (by omega)).2
            omega
      · refine zw_s (pc' := 19) rfl rfl ?_
        refine zw_st (n := 2) (k := 4) (f := zp_isI) (pc' := 21) rfl rfl rfl rfl rfl ?_
        refine zw_s (pc' := 22) rfl rfl ?_
        refine zw_st (n := 2) (k := 5) (f := zp_isI) (pc' := 24) rfl rfl rfl rfl rfl ?_
        refine z0s_set W hm8 ?_ 8 _ _ _ (zw_gt (zw_gt l0 rfl rfl) rfl rfl) (zw_gt (zw_gt l1 rfl rfl) rfl rfl) (zw_gt (zw_gt l2 rfl rfl) rfl rfl) (zw_gt (zw_gt l3 rfl rfl) rfl rfl) (zw_gt zw_g1 rfl rfl) zw_g1 (by decide) (by show (xm.toInt - 0).toNat ≤ 8; omega)
        clear l0 l1 l2 l3
        intro lv x4 l0 l1 l2 l3 l4
        obtain ⟨K, c1, c2, c3⟩ := z0t_pilots (L := L) (σ := σ) (d := d) (y := x4) hB hp
        have WK := zR_Wd (z0R_dn c2)
        have k98 := zx_ae c3 98 (fun _ => rfl) rfl rfl
        have k5 := zx_fe c3 5 rfl rfl rfl
        refine zw_ld (n := 1) (k := 0) (f := zp_isR) (pc' := 51) rfl rfl l0 rfl rfl ?_
        refine zw_ld (n := 1) (k := 1) (f := zp_isI) (pc' := 52) rfl rfl l1 rfl rfl ?_
        refine zw_ld (n := 2) (k := 4) (f := zp_isI) (pc' := 54) rfl rfl l4 rfl rfl ?_
        refine zw_cn (pc' := 57) (zw_cv (q := 72) (Y := zm_230) W.1 rfl rfl zm_230_t rfl rfl) rfl rfl rfl rfl rfl (c1) ?_
        refine zw_ld (n := 1) (k := 0) (f := zp_isR) (pc' := 58) rfl rfl l0 rfl rfl ?_
        refine zw_gI (q := 72) (pc' := 61) WK rfl rfl rfl rfl rfl rfl ?_
        refine zw_s (pc' := 62) rfl rfl ?_
        refine zw_bne2 (g := 67) (pc' := 65) rfl rfl rfl rfl (rfl : _ = (4 : Int)) (fun he => ?_) (fun he => ?_)
        · refine zw_iiy (pc' := 70) rfl l3 rfl rfl hk1 ?_
          refine zw_s (pc' := 9) rfl rfl ?_
          have e1 := ek1 (by omega)
          refine ih _ ?_ K _ xk1 rfl ⟨c2, zk_Fr_t hF (zk_Fr_w rfl rfl c3), ⟨by omega, by omega⟩, ?_, ?_⟩ (zw_gt l0 rfl rfl) (zw_gt l1 rfl rfl) (zw_gt l2 rfl rfl) zw_g1
          · rw [← hn]
            unfold zs_ms
            rw [k98, k5, if_pos hm, if_pos hm, if_neg (by omega), if_neg (by omega), show (xk1.toInt + 1).toNat = xk.toInt.toNat by omega]
            omega
          · intro j hj
            rw [k98, k5]
            exact hlow j (by omega)
          · intro h1 h2
            rw [k98, k5]
            have := hlow xk1.toInt.toNat (by omega)
            omega
        · refine zw_s (pc' := 66) rfl rfl ?_
          refine zw_rz rfl rfl (by decide) ?_
          exact ⟨K, _, rfl, c2, zk_Fr_t hF (zk_Fr_w rfl rfl c3), Or.inr rfl⟩
theorem z0t_studies {L : Nat} {σ : Nat → Int32} {d : Nat} {H : zp_H} {xp xm : Int32} (hB : zk_Bs z0R zg zJ H) (hp : 0 ≤ xp.toInt ∧ xp.toInt ≤ 3) (hm : 0 ≤ xm.toInt ∧ xm.toInt ≤ 8) : ∃ X, zp_Call L σ (d + 10) 238 [.inr (.inr (some 73)), .inl xp, .inl xm] H X ∧ z0t_iQ H X := by
  have W := zR_Wd (z0R_dn hB)
  have S8 := zR_fr1 (z0R_dn hB) (k := 5) (r := (0, 8)) rfl rfl
  have S8 : 0 ≤ (H.2.1 72 5).toInt ∧ (H.2.1 72 5).toInt ≤ 8 := S8
  have m1 : (Int32.ofInt (-1)).toInt = -1 := rfl
  have z0 : (Int32.ofInt 0).toInt = 0 := rfl
  refine zw_met zm_238_t rfl rfl ?_
  refine zw_s (pc' := 1) rfl rfl ?_
  refine zw_st (n := 1) (k := 3) (f := zp_isI) (pc' := 2) rfl rfl rfl rfl rfl ?_
  refine zw_ld (n := 1) (k := 0) (f := zp_isR) (pc' := 3) rfl rfl (zw_gt rfl rfl rfl) rfl rfl ?_
  refine zw_gR (q := 72) (pc' := 6) W rfl rfl rfl rfl (W.2 72 76 _ rfl) rfl ?_
  refine zw_s (pc' := 7) rfl rfl ?_
  refine zw_s (pc' := 8) rfl rfl ?_
  refine zw_is (q := 98) (pc' := 9) W rfl rfl (by decide) (⟨by decide, by decide⟩) rfl ?_
  have g98t : (zw_I H 98 (Int32.ofInt 0).toInt.toNat (zp_nar 0 (Int32.ofInt (-1)))).2.1 98 (Int32.ofInt 0).toInt.toNat = Int32.ofInt (-1) := zw_eq
  have g5 : (zw_I H 98 (Int32.ofInt 0).toInt.toNat (zp_nar 0 (Int32.ofInt (-1)))).2.1 72 5 = H.2.1 72 5 := zw_ne rfl rfl
  refine z0s_head hp hm.2 _ _ _ _ rfl ⟨z0s_w hB (by decide), zk_Fr_I (zk_Fr_r H) rfl rfl, ⟨by decide, by omega⟩, fun j hj => by omega, fun _ _ => ?_⟩ (zw_gt rfl rfl rfl) (zw_gt rfl rfl rfl) (zw_gt rfl rfl rfl) zw_g1
  rw [g98t, g5, m1]
  omega
/-- as the checker takes it -/
theorem z0rc_h5 {L : Nat} {σ : Nat → Int32} : zk_Ct L σ z0R zg zJ zr_h5 := by
  intro d hd as H ha hB hp
  have hd : 24 ≤ d := hd
  obtain ⟨d0, rfl⟩ : ∃ d0, d = d0 + 10 := ⟨d - 10, by omega⟩
  match as, ha with
  | [.inr (.inr r), .inl x, .inl y], ha =>
    obtain ⟨h1, h2, h3, h4⟩ := ha
    have h1 : r = some 73 := h1
    subst h1
    obtain ⟨_, c1, H1, v, rfl, c2, c3, c4⟩ := z0t_studies (L := L) (σ := σ) (d := d0) hB h2 h3
    refine ⟨_, c1, c2, c3, _, List.mem_cons_self, ?_, fun f hf => absurd hf List.not_mem_nil, fun f hf => absurd hf List.not_mem_nil⟩
    rcases c4 with rfl | rfl
    · exact ⟨by decide, by decide⟩
    · exact ⟨by decide, by decide⟩
