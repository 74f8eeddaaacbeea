/-! ===== the reference once more, without the condition on what it reads (printed from the parts above) ===== -/
theorem z0T_dn {H : zp_H} (h : zk_Bs z0R zg zJ H) : zk_Bs zR0 zg zT H := ⟨h.1, h.2.1, h.2.2.1, h.2.2.2.1, h.2.2.2.2.1, h.2.2.2.2.2.1, fun c hc => absurd hc List.not_mem_nil, trivial⟩
theorem z0T_up {H : zp_H} (h : zk_Bs zR0 zg zT H) (hJ : zJ H) (hc : z0R_cc H) : zk_Bs z0R zg zJ H := z0R_up ⟨h.1, h.2.1, h.2.2.1, h.2.2.2.1, h.2.2.2.2.1, h.2.2.2.2.2.1, fun c hc => absurd hc List.not_mem_nil, hJ⟩ hc
theorem z0t_undo {L : Nat} {σ : Nat → Int32} {d : Nat} {H : zp_H} (hB : zk_Bs z0R zg zJ H) : ∃ X, zp_Call L σ (d + 1) 218 [.inr (.inr (some 73))] H X ∧ ∃ H1 v, X = (.inl (some (.inl v)), H1) ∧ zk_Bs z0R zg zJ H1 ∧ zk_Fr zg [(72, 0), (72, 62)] [74] H H1 := by
  have b0 := z0T_dn hB
  have hJ := hB.2.2.2.2.2.2.2
  have hcc := z0R_cn hB
  have W := zT_Wd b0
  have a0 := zt_acts b0
  refine zw_met zm_218_t rfl rfl ?_
  refine zw_ld (n := 1) (k := 0) (f := zp_isR) (pc' := 1) rfl rfl rfl rfl rfl ?_
  refine zw_s (pc' := 2) rfl rfl ?_
  refine zw_pI (q := 72) (pc' := 5) W rfl rfl rfl rfl rfl rfl ?_
  refine zw_ld (n := 1) (k := 0) (f := zp_isR) (pc' := 6) rfl rfl rfl rfl rfl ?_
  refine zw_gI (q := 72) (pc' := 9) W rfl rfl rfl rfl (zw_ne rfl rfl) rfl ?_
  refine zw_bne1 (g := 14) (pc' := 12) rfl rfl rfl rfl (fun h0 => ?_) (fun h0 => ?_)
  · have b2 := zt_B1 b0 (by omega)
    have ea : (H.2.1 72 62 - Int32.ofInt 1).toInt = (H.2.1 72 62).toInt - 1 := zw_m1 (by omega)
    have em : (Int32.ofInt 2 * (H.2.1 72 62 - Int32.ofInt 1)).toInt = 2 * ((H.2.1 72 62).toInt - 1) := by rw [zt_mul (by decide) (by omega), ea]
    have em1 : (Int32.ofInt 2 * (H.2.1 72 62 - Int32.ofInt 1) + Int32.ofInt 1).toInt = 2 * ((H.2.1 72 62).toInt - 1) + 1 := by rw [zw_p1 (by omega), em]
    obtain ⟨n, hn⟩ : ∃ n : Nat, (H.2.1 72 62).toInt = (n : Int) + 1 := ⟨((H.2.1 72 62).toInt - 1).toNat, by omega⟩
    have en : (Int32.ofInt 2 * (H.2.1 72 62 - Int32.ofInt 1)).toInt.toNat = 2 * n := by omega
    have en1 : (Int32.ofInt 2 * (H.2.1 72 62 - Int32.ofInt 1) + Int32.ofInt 1).toInt.toNat = 2 * n + 1 := by omega
    have s0 := zt_a0 b0 (k := n) (by omega)
    have v0 := zt_a1 b0 (k := n) (by omega)
    obtain ⟨s, hs⟩ : ∃ s : Nat, (H.2.1 93 (2 * n)).toInt = (s : Int) := ⟨(H.2.1 93 (2 * n)).toInt.toNat, by omega⟩
    have f4 : ∀ a : Int, 0 ≤ a ∧ a ≤ 100 → (Int32.ofInt 4 * H.2.1 93 (2 * n) + Int32.ofInt a).toInt = 4 * (s : Int) + a := fun a ha => by rw [zt_add ha (by rw [zt_mul (by decide) (by omega)]; omega), zt_mul (by decide) (by omega), hs]
    have f42 := f4 2 (by decide)
    have f43 := f4 3 (by decide)
    have g42 : (Int32.ofInt 4 * H.2.1 93 (2 * n) + Int32.ofInt 2).toInt.toNat = 4 * s + 2 := by omega
    have g43 : (Int32.ofInt 4 * H.2.1 93 (2 * n) + Int32.ofInt 3).toInt.toNat = 4 * s + 3 := by omega
    have m0 := zt_s2 b0 (k := s) (by omega)
    have hcnt := hJ.2.1
    unfold zJ_cnt at hcnt
    rw [show (H.2.1 72 62).toInt.toNat = n + 1 by omega] at hcnt
    have hmon : ∀ s' : Nat, s' < 8 → ((zr_cnt (H.2.1 93) s' n : Nat) : Int) ≤ (H.2.1 74 (4 * s' + 2)).toInt := fun s' h' => by have := hcnt s' h'; have := zt_cnt_le (act := H.2.1 93) (s := (s' : Int)) (n := n); omega
    refine zw_ld (n := 1) (k := 0) (f := zp_isR) (pc' := 15) rfl rfl rfl rfl rfl ?_
    refine zw_s (pc' := 16) rfl rfl ?_
    refine zw_gI (q := 72) (pc' := 19) W rfl rfl rfl rfl (zw_ne rfl rfl) rfl ?_
    refine zw_s (pc' := 20) rfl rfl ?_
    refine zw_isub (pc' := 21) rfl rfl ?_
    refine zw_pI (q := 72) (pc' := 24) W rfl rfl rfl rfl rfl rfl ?_
    refine zw_ld (n := 1) (k := 0) (f := zp_isR) (pc' := 25) rfl rfl rfl rfl rfl ?_
    refine zw_gR (q := 72) (pc' := 28) W rfl rfl rfl rfl (W.2 72 63 _ rfl) rfl ?_
    refine zw_s (pc' := 29) rfl rfl ?_
    refine zw_ld (n := 1) (k := 0) (f := zp_isR) (pc' := 30) rfl rfl rfl rfl rfl ?_
    refine zw_gI (q := 72) (pc' := 33) W rfl rfl rfl rfl zw_eq rfl ?_
    refine zw_imul (pc' := 34) rfl rfl ?_
    refine zw_ia (q := 93) (pc' := 35) W rfl rfl (by decide) (⟨by omega, by show _ < ((60 : Nat) : Int); omega⟩) (zw_ne (zw_ne rfl rfl) rfl) rfl ?_
    refine zw_st (n := 1) (k := 1) (f := zp_isI) (pc' := 36) rfl rfl rfl rfl rfl ?_
    refine zw_ld (n := 1) (k := 0) (f := zp_isR) (pc' := 37) rfl rfl (zw_gt rfl rfl rfl) rfl rfl ?_
    refine zw_gR (q := 72) (pc' := 40) W rfl rfl rfl rfl (W.2 72 63 _ rfl) rfl ?_
    refine zw_s (pc' := 41) rfl rfl ?_
    refine zw_ld (n := 1) (k := 0) (f := zp_isR) (pc' := 42) rfl rfl (zw_gt rfl rfl rfl) rfl rfl ?_
    refine zw_gI (q := 72) (pc' := 45) W rfl rfl rfl rfl zw_eq rfl ?_
    refine zw_imul (pc' := 46) rfl rfl ?_
    refine zw_s (pc' := 47) rfl rfl ?_
    refine zw_iadd (pc' := 48) rfl rfl ?_
    refine zw_ia (q := 93) (pc' := 49) W rfl rfl (by decide) (⟨by omega, by show _ < ((60 : Nat) : Int); omega⟩) (zw_ne (zw_ne rfl rfl) rfl) rfl ?_
    refine zw_s (pc' := 50) rfl rfl ?_
    refine zw_bne2 (g := 70) (pc' := 53) rfl rfl rfl rfl (rfl : _ = (-1 : Int)) (fun hv => ?_) (fun hv => ?_)
    · rw [en1] at hv
      rw [en]
      refine zw_ld (n := 1) (k := 0) (f := zp_isR) (pc' := 71) rfl rfl (zw_gt rfl rfl rfl) rfl rfl ?_
      refine zw_gR (q := 72) (pc' := 74) W rfl rfl rfl rfl (W.2 72 14 _ rfl) rfl ?_
      refine zw_s (pc' := 75) rfl rfl ?_
      refine zw_ld (n := 1) (k := 1) (f := zp_isI) (pc' := 76) rfl rfl zw_g1 rfl rfl ?_
      refine zw_imul (pc' := 77) rfl rfl ?_
      refine zw_s (pc' := 78) rfl rfl ?_
      refine zw_iadd (pc' := 79) rfl rfl ?_
      refine zw_ld (n := 1) (k := 0) (f := zp_isR) (pc' := 80) rfl rfl (zw_gt rfl rfl rfl) rfl rfl ?_
      refine zw_gR (q := 72) (pc' := 83) W rfl rfl rfl rfl (W.2 72 63 _ rfl) rfl ?_
      refine zw_s (pc' := 84) rfl rfl ?_
      refine zw_ld (n := 1) (k := 0) (f := zp_isR) (pc' := 85) rfl rfl (zw_gt rfl rfl rfl) rfl rfl ?_
      refine zw_gI (q := 72) (pc' := 88) W rfl rfl rfl rfl zw_eq rfl ?_
      refine zw_imul (pc' := 89) rfl rfl ?_
      refine zw_s (pc' := 90) rfl rfl ?_
      refine zw_iadd (pc' := 91) rfl rfl ?_
      refine zw_ia (q := 93) (pc' := 92) W rfl rfl (by decide) (⟨by omega, by show _ < ((60 : Nat) : Int); omega⟩) (zw_ne (zw_ne rfl rfl) rfl) rfl ?_
      refine zw_is (q := 74) (pc' := 93) W rfl rfl (by decide) (⟨by rw [f43]; omega, by rw [f43]; show _ < ((32 : Nat) : Int); omega⟩) rfl ?_
      refine zw_ld (n := 1) (k := 0) (f := zp_isR) (pc' := 94) rfl rfl (zw_gt rfl rfl rfl) rfl rfl ?_
      refine zw_gI (q := 72) (pc' := 97) W rfl rfl rfl rfl (zw_ne zw_eq rfl) rfl ?_
      refine zw_ri rfl rfl ?_
      rw [g43, en1]
      have b3 := zT_puta (p := 74) (j := 4 * s + 3) (x := zp_nar 0 (H.2.1 93 (2 * n + 1))) (t := 0) (n := 32) b2 rfl (fun r hr => by
        have hr : [((0 : Int), (63 : Int)), (-2147483648, 2147483647), (0, 8), (0, 255)][(4 * s + 3) % 4]? = some r := hr
        rw [show (4 * s + 3) % 4 = 3 by omega] at hr
        cases hr
        exact ⟨by show (0 : Int) ≤ (H.2.1 93 (2 * n + 1)).toInt; omega, by show (H.2.1 93 (2 * n + 1)).toInt ≤ (255 : Int); omega⟩) trivial
      refine ⟨_, _, rfl, z0T_up b3 (zt_J hJ rfl rfl rfl rfl rfl rfl ?_) (fun h9 => hcc h9), zk_Fr_I (zk_Fr_I (zk_Fr_I (zk_Fr_r H) rfl rfl) rfl rfl) rfl rfl⟩
      intro s' h'
      show ((zr_cnt (H.2.1 93) s' (H.2.1 72 62 - Int32.ofInt 1).toInt.toNat : Nat) : Int) ≤ ((zw_I (zt_u1 H) 74 (4 * s + 3) (H.2.1 93 (2 * n + 1))).2.1 74 (4 * s' + 2)).toInt
      rw [show (H.2.1 72 62 - Int32.ofInt 1).toInt.toNat = n by omega]
      have e : (zw_I (zt_u1 H) 74 (4 * s + 3) (H.2.1 93 (2 * n + 1))).2.1 74 (4 * s' + 2) = H.2.1 74 (4 * s' + 2) := zp_u_ne (fun h8 => by have := h8.2; omega)
      rw [e]
      exact hmon s' h'
    · rw [en1] at hv
      have h1 : 1 ≤ zr_cnt (H.2.1 93) (s : Int) (n + 1) := by
        show 1 ≤ zr_cnt (H.2.1 93) (s : Int) n + _
        rw [if_pos ⟨hs, hv⟩]
        omega
      have h2 := hcnt s (by omega)
      have em3 : (H.2.1 74 (4 * s + 2) - Int32.ofInt 1).toInt = (H.2.1 74 (4 * s + 2)).toInt - 1 := zw_m1 (by omega)
      rw [en]
      refine zw_ld (n := 1) (k := 0) (f := zp_isR) (pc' := 54) rfl rfl (zw_gt rfl rfl rfl) rfl rfl ?_
      refine zw_gR (q := 72) (pc' := 57) W rfl rfl rfl rfl (W.2 72 14 _ rfl) rfl ?_
      refine zw_s (pc' := 58) rfl rfl ?_
      refine zw_ld (n := 1) (k := 1) (f := zp_isI) (pc' := 59) rfl rfl zw_g1 rfl rfl ?_
      refine zw_imul (pc' := 60) rfl rfl ?_
      refine zw_s (pc' := 61) rfl rfl ?_
      refine zw_iadd (pc' := 62) rfl rfl ?_
      refine zw_s (pc' := 63) rfl rfl ?_
      refine zw_ia (q := 74) (pc' := 64) W rfl rfl (by decide) (⟨by rw [f42]; omega, by rw [f42]; show _ < ((32 : Nat) : Int); omega⟩) (zw_ne (zw_ne rfl rfl) rfl) rfl ?_
      refine zw_s (pc' := 65) rfl rfl ?_
      refine zw_isub (pc' := 66) rfl rfl ?_
      refine zw_is (q := 74) (pc' := 67) W rfl rfl (by decide) (⟨by rw [f42]; omega, by rw [f42]; show _ < ((32 : Nat) : Int); omega⟩) rfl ?_
      refine zw_s (pc' := 93) rfl rfl ?_
      refine zw_ld (n := 1) (k := 0) (f := zp_isR) (pc' := 94) rfl rfl (zw_gt rfl rfl rfl) rfl rfl ?_
      refine zw_gI (q := 72) (pc' := 97) W rfl rfl rfl rfl (zw_ne zw_eq rfl) rfl ?_
      refine zw_ri rfl rfl ?_
      rw [g42]
      have b3 := zT_puta (p := 74) (j := 4 * s + 2) (x := zp_nar 0 (H.2.1 74 (4 * s + 2) - Int32.ofInt 1)) (t := 0) (n := 32) b2 rfl (fun r hr => by
        have hr : [((0 : Int), (63 : Int)), (-2147483648, 2147483647), (0, 8), (0, 255)][(4 * s + 2) % 4]? = some r := hr
        rw [show (4 * s + 2) % 4 = 2 by omega] at hr
        cases hr
        exact ⟨by show (0 : Int) ≤ (H.2.1 74 (4 * s + 2) - Int32.ofInt 1).toInt; omega, by show (H.2.1 74 (4 * s + 2) - Int32.ofInt 1).toInt ≤ (8 : Int); omega⟩) trivial
      refine ⟨_, _, rfl, z0T_up b3 (zt_J hJ rfl rfl rfl rfl rfl rfl ?_) (fun h9 => hcc h9), zk_Fr_I (zk_Fr_I (zk_Fr_I (zk_Fr_r H) rfl rfl) rfl rfl) rfl rfl⟩
      intro s' h'
      show ((zr_cnt (H.2.1 93) s' (H.2.1 72 62 - Int32.ofInt 1).toInt.toNat : Nat) : Int) ≤ ((zw_I (zt_u1 H) 74 (4 * s + 2) (H.2.1 74 (4 * s + 2) - Int32.ofInt 1)).2.1 74 (4 * s' + 2)).toInt
      rw [show (H.2.1 72 62 - Int32.ofInt 1).toInt.toNat = n by omega]
      by_cases h9 : s' = s
      · subst h9
        rw [zw_eq, em3]
        have h8 : zr_cnt (H.2.1 93) (s' : Int) (n + 1) = zr_cnt (H.2.1 93) (s' : Int) n + 1 := by
          show zr_cnt (H.2.1 93) (s' : Int) n + _ = _
          rw [if_pos ⟨hs, hv⟩]
        omega
      · have e : (zw_I (zt_u1 H) 74 (4 * s + 2) (H.2.1 74 (4 * s + 2) - Int32.ofInt 1)).2.1 74 (4 * s' + 2) = H.2.1 74 (4 * s' + 2) := zp_u_ne (fun h8 => h9 (by have := h8.2; omega))
        rw [e]
        exact hmon s' h'
  · refine zw_s (pc' := 13) rfl rfl ?_
    refine zw_ri rfl rfl ?_
    have b1 := zT_putf (k := 0) (x := Int32.ofInt 0) b0 (fun r hr => by cases hr) rfl trivial
    exact ⟨_, _, rfl, z0T_up b1 (zJ_I rfl hJ) (fun h9 => hcc h9), zk_Fr_I (zk_Fr_r H) rfl rfl⟩
