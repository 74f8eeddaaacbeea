section
/-! ===== the reference once more, without the condition on what it reads (printed from the parts above) ===== -/
theorem z0rt_v : zk_chk z0R zR_fz [zr_e6] [] 5000 zr_v = true := by decide +kernel
theorem z0rt_w : zk_chk z0R zR_fz [] [] 5000 zr_w = true := by decide +kernel
theorem z0l_valueOf {L : Nat} {σ : Nat → Int32} {d : Nat} {H : zp_H} {x y z : Int32} {u : Int64} (h : zk_Bs z0R zg zJ H) (hy : 0 ≤ y.toInt ∧ y.toInt ≤ 63) : ∃ H1 v, zp_Call L σ (d + 4) 234 [.inr (.inr (some 73)), .inl x, .inl y, .inl z, .inr (.inl u)] H (.inl (some (.inl v)), H1) ∧ zk_Bs z0R zg zJ H1 ∧ zk_Fr zg [] [] H H1 := by
  have hct : zk_Ct L σ z0R zg zJ zr_v := zk_chk_ok z0R_W (List.forall_mem_cons.mpr ⟨zk_chk_ok z0R_W (fun _ h => absurd h List.not_mem_nil) z0rt_e6, fun _ h => absurd h List.not_mem_nil⟩) z0rt_v
  obtain ⟨X, x1, x2, x3, o, o1, o2, o3, o4⟩ := hct (d + 4) (Nat.le_add_left 4 d) [.inr (.inr (some 73)), .inl x, .inl y, .inl z, .inr (.inl u)] H ⟨rfl, zl_full x, hy, zl_full z, trivial, trivial⟩ h (fun f hf => absurd hf List.not_mem_nil)
  rcases List.mem_cons.mp o1 with rfl | o1
  · obtain ⟨X1, X2⟩ := X
    obtain ⟨v, e, _⟩ := zk_rv_i o2
    have e : X1 = .inl (some (.inl v)) := e
    subst e
    exact ⟨X2, v, x1, x2, x3⟩
  · exact absurd o1 List.not_mem_nil
theorem z0l_works {L : Nat} {σ : Nat → Int32} {d : Nat} {H : zp_H} {x y z : Int32} (h : zk_Bs z0R zg zJ H) : ∃ H1 v, zp_Call L σ (d + 1) 235 [.inl x, .inl y, .inl z] H (.inl (some (.inl v)), H1) ∧ zk_Bs z0R zg zJ H1 ∧ zk_Fr zg [] [] H H1 := by
  have hct : zk_Ct L σ z0R zg zJ zr_w := zk_chk_ok z0R_W (fun _ h => absurd h List.not_mem_nil) z0rt_w
  obtain ⟨X, x1, x2, x3, o, o1, o2, o3, o4⟩ := hct (d + 1) (Nat.le_add_left 1 d) [.inl x, .inl y, .inl z] H ⟨zl_full x, zl_full y, zl_full z, trivial⟩ h (fun f hf => absurd hf List.not_mem_nil)
  rcases List.mem_cons.mp o1 with rfl | o1
  · obtain ⟨X1, X2⟩ := X
    obtain ⟨v, e, _⟩ := zk_rv_i o2
    have e : X1 = .inl (some (.inl v)) := e
    subst e
    exact ⟨X2, v, x1, x2, x3⟩
  · exact absurd o1 List.not_mem_nil
/-- the pile is written -/
theorem z0l_pile {H0 H : zp_H} {j : Nat} {x : Int32} (h : zk_Bs z0R zg zJ H) (hF : zk_Fr zg [] [97] H0 H) : zk_Bs z0R zg zJ (zw_I H 97 j (zp_nar 0 x)) ∧ zk_Fr zg [] [97] H0 (zw_I H 97 j (zp_nar 0 x)) ∧ (zw_I H 97 j (zp_nar 0 x)).2.1 80 = H.2.1 80 := by
  have b0 := z0R_dn h
  have b1 := zR_puta (p := 97) (j := j) (x := zp_nar 0 x) (t := 0) (n := 800) b0 rfl (fun r hr => by
    have e : r = (-2147483648, 2147483647) := by
      have hr : [((-2147483648 : Int), (2147483647 : Int))][j % 1]? = some r := hr
      rw [Nat.mod_one] at hr
      exact (Option.some.inj hr).symm
    rw [e]
    exact ⟨Int32.le_toInt _, Int32.toInt_le _⟩) (zJ_I rfl b0.2.2.2.2.2.2.2)
  refine ⟨z0R_up b1 ?_, zk_Fr_I hF rfl rfl, funext (fun i => zw_ne rfl rfl)⟩
  have c := z0R_cn h
  intro h9
  exact c h9
set_option maxRecDepth 8000 in
set_option maxHeartbeats 300000 in
theorem z0l_rkL {L : Nat} {σ : Nat → Int32} {d b mf : Nat} {H0 : zp_H} {c80 : Nat → Int32} {xc xh : Int32} {xu : Int64} (hcell : 0 ≤ xc.toInt ∧ xc.toInt ≤ 63) (hb1 : b < 1600) (hb0 : (c80 b).toInt = 0) : ∀ (n : Nat) (H : zp_H) (lv : zp_LV) (m k : Int32), zk_Bs z0R zg zJ H → zk_Fr zg [] [97] H0 H → H.2.1 80 = c80 → zp_get lv 0 = some (.inr (.inr (some 73))) → zp_get lv 2 = some (.inl xc) → zp_get lv 3 = some (.inl xh) → zp_get lv 4 = some (.inr (.inl xu)) → zp_get lv 6 = some (.inl m) → zp_get lv 7 = some (.inl k) → 0 ≤ m.toInt ∧ 2 * m.toInt ≤ k.toInt → 0 ≤ k.toInt ∧ k.toInt ≤ b → zr_run c80 n k.toInt.toNat m.toInt.toNat = some (b, mf) → zs_Safe L σ (fun X : zp_X => ∃ H1 v, X = (.inl (some (.inl v)), H1) ∧ zk_Bs z0R zg zJ H1 ∧ zk_Fr zg [] [97] H0 H1) zm_233 [] (d + 4) (6, lv, [], H, (0, 0)) := by
  intro n
  induction n with
  | zero =>
    intro H lv m k hB hF hc l0 l2 l3 l4 l6 l7 hm hk hr
    have W := zR_Wd (z0R_dn hB)
    obtain ⟨r1, r2⟩ := Prod.mk.inj (Option.some.inj hr)
    refine zw_ld (n := 1) (k := 0) (f := zp_isR) (pc' := 7) rfl rfl l0 rfl rfl ?_
    refine zw_gR (q := 72) (pc' := 10) W rfl rfl rfl rfl (W.2 72 20 _ rfl) rfl ?_
    refine zw_ld (n := 2) (k := 7) (f := zp_isI) (pc' := 12) rfl rfl l7 rfl rfl ?_
    refine zw_ia (q := 80) (pc' := 13) W rfl rfl (by decide) (⟨hk.1, by show _ < ((1600 : Nat) : Int); omega⟩) rfl rfl ?_
    refine zw_beq1 (g := 158) (pc' := 16) rfl rfl rfl rfl (fun hb => ?_) (fun hb => ?_)
    · refine zw_ld (n := 1) (k := 0) (f := zp_isR) (pc' := 159) rfl rfl l0 rfl rfl ?_
      refine zw_gR (q := 72) (pc' := 162) W rfl rfl rfl rfl (W.2 72 75 _ rfl) rfl ?_
      refine zw_s (pc' := 163) rfl rfl ?_
      refine zw_ia (q := 97) (pc' := 164) W rfl rfl (by decide) (⟨by decide, by decide⟩) rfl rfl ?_
      refine zw_ri rfl rfl ?_
      exact ⟨H, _, rfl, hB, hF⟩
    · exact absurd (by rw [r1, hc]; exact hb0) hb
  | succ n ih =>
    intro H lv m k hB hF hc l0 l2 l3 l4 l6 l7 hm hk hr
    have W := zR_Wd (z0R_dn hB)
    unfold zr_run at hr
    split at hr
    · rename_i q hq
      have hlt := zr_stp_lt hq
      have hle := zr_run_le hr
      have hle : q.1 ≤ b := hle
      have ek : (k + Int32.ofInt 1).toInt = k.toInt + 1 := zw_p1 (by omega)
      rw [← hc] at hq
      unfold zr_stp at hq
      refine zw_ld (n := 1) (k := 0) (f := zp_isR) (pc' := 7) rfl rfl l0 rfl rfl ?_
      refine zw_gR (q := 72) (pc' := 10) W rfl rfl rfl rfl (W.2 72 20 _ rfl) rfl ?_
      refine zw_ld (n := 2) (k := 7) (f := zp_isI) (pc' := 12) rfl rfl l7 rfl rfl ?_
      refine zw_ia (q := 80) (pc' := 13) W rfl rfl (by decide) (⟨hk.1, by show _ < ((1600 : Nat) : Int); omega⟩) rfl rfl ?_
      refine zw_beq1 (g := 158) (pc' := 16) rfl rfl rfl rfl (fun hb => ?_) (fun hb => ?_)
      · rw [if_neg (by omega), if_neg (by omega), if_neg (by omega)] at hq
        cases hq
      · refine zw_ld (n := 1) (k := 0) (f := zp_isR) (pc' := 17) rfl rfl l0 rfl rfl ?_
        refine zw_gR (q := 72) (pc' := 20) W rfl rfl rfl rfl (W.2 72 20 _ rfl) rfl ?_
        refine zw_ld (n := 2) (k := 7) (f := zp_isI) (pc' := 22) rfl rfl l7 rfl rfl ?_
        refine zw_ia (q := 80) (pc' := 23) W rfl rfl (by decide) (⟨hk.1, by show _ < ((1600 : Nat) : Int); omega⟩) rfl rfl ?_
        refine zw_st (n := 2) (k := 8) (f := zp_isI) (pc' := 25) rfl rfl rfl rfl rfl ?_
        refine zw_ii (pc' := 28) rfl (zw_gt l7 rfl rfl) rfl rfl ?_
        refine zw_ld (n := 2) (k := 8) (f := zp_isI) (pc' := 30) rfl rfl (zw_gt zw_g1 rfl rfl) rfl rfl ?_
        refine zw_s (pc' := 31) rfl rfl ?_
        refine zw_beq2 (g := 40) (pc' := 34) rfl rfl rfl rfl (rfl : _ = (1 : Int)) (fun h1 => ?_) (fun h1 => ?_)
        · refine zw_ld (n := 1) (k := 0) (f := zp_isR) (pc' := 41) rfl rfl (zw_gt (zw_gt l0 rfl rfl) rfl rfl) rfl rfl ?_
          refine zw_gR (q := 72) (pc' := 44) W rfl rfl rfl rfl (W.2 72 75 _ rfl) rfl ?_
          refine zw_ld (n := 2) (k := 6) (f := zp_isI) (pc' := 46) rfl rfl (zw_gt (zw_gt l6 rfl rfl) rfl rfl) rfl rfl ?_
          refine zw_ld (n := 2) (k := 8) (f := zp_isI) (pc' := 48) rfl rfl (zw_gt zw_g1 rfl rfl) rfl rfl ?_
          refine zw_s (pc' := 49) rfl rfl ?_
          refine zw_bne2 (g := 62) (pc' := 52) rfl rfl rfl rfl (rfl : _ = (1 : Int)) (fun h3 => ?_) (fun h3 => ?_)
          · omega
          · refine zw_ld (n := 1) (k := 0) (f := zp_isR) (pc' := 53) rfl rfl (zw_gt (zw_gt l0 rfl rfl) rfl rfl) rfl rfl ?_
            refine zw_gR (q := 72) (pc' := 56) W rfl rfl rfl rfl (W.2 72 20 _ rfl) rfl ?_
            refine zw_ld (n := 2) (k := 7) (f := zp_isI) (pc' := 58) rfl rfl zw_g1 rfl rfl ?_
            refine zw_ia (q := 80) (pc' := 59) W rfl rfl (by decide) (⟨by omega, by show _ < ((1600 : Nat) : Int); omega⟩) rfl rfl ?_
            refine zw_s (pc' := 77) rfl rfl ?_
            refine zw_is (q := 97) (pc' := 78) W rfl rfl (by decide) (⟨by omega, by show _ < ((800 : Nat) : Int); omega⟩) rfl ?_
            refine zw_ii (pc' := 81) rfl zw_g1 rfl rfl ?_
            refine zw_ii (pc' := 84) rfl (zw_gt (zw_gt (zw_gt l6 rfl rfl) rfl rfl) rfl rfl) rfl rfl ?_
            refine zw_s (pc' := 155) rfl rfl ?_
            refine zw_s (pc' := 6) rfl rfl ?_
            rw [if_pos (by omega)] at hq
            have hq := Option.some.inj hq
            subst hq
            have ek2 : (k + Int32.ofInt 1 + Int32.ofInt 1).toInt = k.toInt + 2 := by rw [zw_p1 (by omega), ek]; omega
            have em : (m + Int32.ofInt 1).toInt = m.toInt + 1 := zw_p1 (by omega)
            obtain ⟨p1, p2, p3⟩ := z0l_pile (j := m.toInt.toNat) (x := H.2.1 80 (k + Int32.ofInt 1).toInt.toNat) (H0 := H0) hB hF
            refine ih _ _ (m + Int32.ofInt 1) (k + Int32.ofInt 1 + Int32.ofInt 1) p1 p2 (by rw [p3]; exact hc) (zw_gt (zw_gt (zw_gt (zw_gt l0 rfl rfl) rfl rfl) rfl rfl) rfl rfl) (zw_gt (zw_gt (zw_gt (zw_gt l2 rfl rfl) rfl rfl) rfl rfl) rfl rfl) (zw_gt (zw_gt (zw_gt (zw_gt l3 rfl rfl) rfl rfl) rfl rfl) rfl rfl) (zw_gt (zw_gt (zw_gt (zw_gt l4 rfl rfl) rfl rfl) rfl rfl) rfl rfl) zw_g1 (zw_gt zw_g1 rfl rfl) ⟨by omega, by omega⟩ ⟨by omega, by omega⟩ ?_
            have e1 : (k + Int32.ofInt 1 + Int32.ofInt 1).toInt.toNat = k.toInt.toNat + 2 := by omega
            have e2 : (m + Int32.ofInt 1).toInt.toNat = m.toInt.toNat + 1 := by omega
            rw [e1, e2]
            exact hr
        · refine zw_ld (n := 2) (k := 8) (f := zp_isI) (pc' := 36) rfl rfl (zw_gt zw_g1 rfl rfl) rfl rfl ?_
          refine zw_s (pc' := 37) rfl rfl ?_
          refine zw_bne2 (g := 87) (pc' := 40) rfl rfl rfl rfl (rfl : _ = (2 : Int)) (fun h2 => ?_) (fun h2 => ?_)
          · refine zw_ld (n := 2) (k := 8) (f := zp_isI) (pc' := 89) rfl rfl (zw_gt zw_g1 rfl rfl) rfl rfl ?_
            refine zw_s (pc' := 90) rfl rfl ?_
            refine zw_bne2 (g := 122) (pc' := 93) rfl rfl rfl rfl (rfl : _ = (3 : Int)) (fun h4 => ?_) (fun h4 => ?_)
            · rw [if_neg (by omega), if_neg (by omega)] at hq
              split at hq
              · rename_i h44
                split at hq
                · rename_i hm1
                  have hq := Option.some.inj hq
                  subst hq
                  obtain ⟨m1, hm1⟩ : ∃ m1 : Int32, m + Int32.ofInt (-1) = m1 := ⟨_, rfl⟩
                  have em : m1.toInt = m.toInt - 1 := by
                    have h1 : (Int32.ofInt (-1)).toInt = -1 := rfl
                    rw [← hm1, zn_add (by omega) (by omega), h1]
                    omega
                  have em2 : (m1 - Int32.ofInt 1).toInt = m.toInt - 2 := by rw [zw_m1 (by omega), em]; omega
                  refine zw_iiy (pc' := 125) rfl (zw_gt (zw_gt l6 rfl rfl) rfl rfl) rfl rfl hm1 ?_
                  refine zw_ld (n := 1) (k := 0) (f := zp_isR) (pc' := 126) rfl rfl (zw_gt (zw_gt (zw_gt l0 rfl rfl) rfl rfl) rfl rfl) rfl rfl ?_
                  refine zw_gR (q := 72) (pc' := 129) W rfl rfl rfl rfl (W.2 72 75 _ rfl) rfl ?_
                  refine zw_ld (n := 2) (k := 6) (f := zp_isI) (pc' := 131) rfl rfl zw_g1 rfl rfl ?_
                  refine zw_s (pc' := 132) rfl rfl ?_
                  refine zw_isub (pc' := 133) rfl rfl ?_
                  refine zw_ld (n := 2) (k := 8) (f := zp_isI) (pc' := 135) rfl rfl (zw_gt (zw_gt zw_g1 rfl rfl) rfl rfl) rfl rfl ?_
                  refine zw_ld (n := 1) (k := 0) (f := zp_isR) (pc' := 136) rfl rfl (zw_gt (zw_gt (zw_gt l0 rfl rfl) rfl rfl) rfl rfl) rfl rfl ?_
                  refine zw_gR (q := 72) (pc' := 139) W rfl rfl rfl rfl (W.2 72 75 _ rfl) rfl ?_
                  refine zw_ld (n := 2) (k := 6) (f := zp_isI) (pc' := 141) rfl rfl zw_g1 rfl rfl ?_
                  refine zw_s (pc' := 142) rfl rfl ?_
                  refine zw_isub (pc' := 143) rfl rfl ?_
                  refine zw_ia (q := 97) (pc' := 144) W rfl rfl (by decide) (⟨by omega, by show _ < ((800 : Nat) : Int); omega⟩) rfl rfl ?_
                  refine zw_ld (n := 1) (k := 0) (f := zp_isR) (pc' := 145) rfl rfl (zw_gt (zw_gt (zw_gt l0 rfl rfl) rfl rfl) rfl rfl) rfl rfl ?_
                  refine zw_gR (q := 72) (pc' := 148) W rfl rfl rfl rfl (W.2 72 75 _ rfl) rfl ?_
                  refine zw_ld (n := 2) (k := 6) (f := zp_isI) (pc' := 150) rfl rfl zw_g1 rfl rfl ?_
                  refine zw_ia (q := 97) (pc' := 151) W rfl rfl (by decide) (⟨by omega, by show _ < ((800 : Nat) : Int); omega⟩) rfl rfl ?_
                  obtain ⟨K, v, c1, c2, c3⟩ := z0l_works (L := L) (σ := σ) (d := d + 3) (x := H.2.1 80 k.toInt.toNat) (y := H.2.1 97 (m1 - Int32.ofInt 1).toInt.toNat) (z := H.2.1 97 m1.toInt.toNat) hB
                  have WK := zR_Wd (z0R_dn c2)
                  have k80 := zx_ae c3 80 (fun _ => rfl) rfl rfl
                  refine zw_c (pc' := 154) (zw_cs (Y := zm_235) rfl rfl zm_235_t) rfl rfl rfl rfl rfl (c1) ?_
                  refine zw_is (q := 97) (pc' := 155) WK rfl rfl (by decide) (⟨by omega, by show _ < ((800 : Nat) : Int); omega⟩) rfl ?_
                  refine zw_s (pc' := 6) rfl rfl ?_
                  obtain ⟨p1, p2, p3⟩ := z0l_pile (j := (m1 - Int32.ofInt 1).toInt.toNat) (x := v) (H0 := H0) c2 (zk_Fr_t hF (zk_Fr_w rfl rfl c3))
                  refine ih _ _ m1 (k + Int32.ofInt 1) p1 p2 (by rw [p3, k80]; exact hc) (zw_gt (zw_gt (zw_gt l0 rfl rfl) rfl rfl) rfl rfl) (zw_gt (zw_gt (zw_gt l2 rfl rfl) rfl rfl) rfl rfl) (zw_gt (zw_gt (zw_gt l3 rfl rfl) rfl rfl) rfl rfl) (zw_gt (zw_gt (zw_gt l4 rfl rfl) rfl rfl) rfl rfl) zw_g1 (zw_gt zw_g1 rfl rfl) ⟨by omega, by omega⟩ ⟨by omega, by omega⟩ ?_
                  have e1 : (k + Int32.ofInt 1).toInt.toNat = k.toInt.toNat + 1 := by omega
                  have e2 : m1.toInt.toNat = m.toInt.toNat - 1 := by omega
                  rw [e1, e2]
                  exact hr
                · cases hq
              · cases hq
            · rw [if_neg (by omega), if_pos (by omega)] at hq
              split at hq
              · rename_i hm1
                have hq := Option.some.inj hq
                subst hq
                have em : (m - Int32.ofInt 1).toInt = m.toInt - 1 := zw_m1 (by omega)
                refine zw_ld (n := 1) (k := 0) (f := zp_isR) (pc' := 94) rfl rfl (zw_gt (zw_gt l0 rfl rfl) rfl rfl) rfl rfl ?_
                refine zw_gR (q := 72) (pc' := 97) W rfl rfl rfl rfl (W.2 72 75 _ rfl) rfl ?_
                refine zw_ld (n := 2) (k := 6) (f := zp_isI) (pc' := 99) rfl rfl (zw_gt (zw_gt l6 rfl rfl) rfl rfl) rfl rfl ?_
                refine zw_s (pc' := 100) rfl rfl ?_
                refine zw_isub (pc' := 101) rfl rfl ?_
                refine zw_ld (n := 1) (k := 0) (f := zp_isR) (pc' := 102) rfl rfl (zw_gt (zw_gt l0 rfl rfl) rfl rfl) rfl rfl ?_
                refine zw_gR (q := 72) (pc' := 105) W rfl rfl rfl rfl (W.2 72 75 _ rfl) rfl ?_
                refine zw_ld (n := 2) (k := 6) (f := zp_isI) (pc' := 107) rfl rfl (zw_gt (zw_gt l6 rfl rfl) rfl rfl) rfl rfl ?_
                refine zw_s (pc' := 108) rfl rfl ?_
                refine zw_isub (pc' := 109) rfl rfl ?_
                refine zw_ia (q := 97) (pc' := 110) W rfl rfl (by decide) (⟨by omega, by show _ < ((800 : Nat) : Int); omega⟩) rfl rfl ?_
                refine zw_bne1 (g := 117) (pc' := 113) rfl rfl rfl rfl (fun h5 => ?_) (fun h5 => ?_)
                · refine zw_s (pc' := 118) rfl rfl ?_
                  refine zw_is (q := 97) (pc' := 119) W rfl rfl (by decide) (⟨by omega, by show _ < ((800 : Nat) : Int); omega⟩) rfl ?_
                  refine zw_s (pc' := 155) rfl rfl ?_
                  refine zw_s (pc' := 6) rfl rfl ?_
                  obtain ⟨p1, p2, p3⟩ := z0l_pile (j := (m - Int32.ofInt 1).toInt.toNat) (x := Int32.ofInt 0) (H0 := H0) hB hF
                  refine ih _ _ m (k + Int32.ofInt 1) p1 p2 (by rw [p3]; exact hc) (zw_gt (zw_gt l0 rfl rfl) rfl rfl) (zw_gt (zw_gt l2 rfl rfl) rfl rfl) (zw_gt (zw_gt l3 rfl rfl) rfl rfl) (zw_gt (zw_gt l4 rfl rfl) rfl rfl) (zw_gt (zw_gt l6 rfl rfl) rfl rfl) zw_g1 ⟨by omega, by omega⟩ ⟨by omega, by omega⟩ ?_
                  have e1 : (k + Int32.ofInt 1).toInt.toNat = k.toInt.toNat + 1 := by omega
                  rw [e1]
                  exact hr
                · refine zw_s (pc' := 114) rfl rfl ?_
                  refine zw_s (pc' := 118) rfl rfl ?_
                  refine zw_is (q := 97) (pc' := 119) W rfl rfl (by decide) (⟨by omega, by show _ < ((800 : Nat) : Int); omega⟩) rfl ?_
                  refine zw_s (pc' := 155) rfl rfl ?_
                  refine zw_s (pc' := 6) rfl rfl ?_
                  obtain ⟨p1, p2, p3⟩ := z0l_pile (j := (m - Int32.ofInt 1).toInt.toNat) (x := Int32.ofInt 1) (H0 := H0) hB hF
                  refine ih _ _ m (k + Int32.ofInt 1) p1 p2 (by rw [p3]; exact hc) (zw_gt (zw_gt l0 rfl rfl) rfl rfl) (zw_gt (zw_gt l2 rfl rfl) rfl rfl) (zw_gt (zw_gt l3 rfl rfl) rfl rfl) (zw_gt (zw_gt l4 rfl rfl) rfl rfl) (zw_gt (zw_gt l6 rfl rfl) rfl rfl) zw_g1 ⟨by omega, by omega⟩ ⟨by omega, by omega⟩ ?_
                  have e1 : (k + Int32.ofInt 1).toInt.toNat = k.toInt.toNat + 1 := by omega
                  rw [e1]
                  exact hr
              · cases hq
          · refine zw_ld (n := 1) (k := 0) (f := zp_isR) (pc' := 41) rfl rfl (zw_gt (zw_gt l0 rfl rfl) rfl rfl) rfl rfl ?_
            refine zw_gR (q := 72) (pc' := 44) W rfl rfl rfl rfl (W.2 72 75 _ rfl) rfl ?_
            refine zw_ld (n := 2) (k := 6) (f := zp_isI) (pc' := 46) rfl rfl (zw_gt (zw_gt l6 rfl rfl) rfl rfl) rfl rfl ?_
            refine zw_ld (n := 2) (k := 8) (f := zp_isI) (pc' := 48) rfl rfl (zw_gt zw_g1 rfl rfl) rfl rfl ?_
            refine zw_s (pc' := 49) rfl rfl ?_
            refine zw_bne2 (g := 62) (pc' := 52) rfl rfl rfl rfl (rfl : _ = (1 : Int)) (fun h3 => ?_) (fun h3 => ?_)
            · refine zw_ld (n := 1) (k := 0) (f := zp_isR) (pc' := 63) rfl rfl (zw_gt (zw_gt l0 rfl rfl) rfl rfl) rfl rfl ?_
              refine zw_ld (n := 1) (k := 0) (f := zp_isR) (pc' := 64) rfl rfl (zw_gt (zw_gt l0 rfl rfl) rfl rfl) rfl rfl ?_
              refine zw_gR (q := 72) (pc' := 67) W rfl rfl rfl rfl (W.2 72 20 _ rfl) rfl ?_
              refine zw_ld (n := 2) (k := 7) (f := zp_isI) (pc' := 69) rfl rfl zw_g1 rfl rfl ?_
              refine zw_ia (q := 80) (pc' := 70) W rfl rfl (by decide) (⟨by omega, by show _ < ((1600 : Nat) : Int); omega⟩) rfl rfl ?_
              refine zw_ld (n := 1) (k := 2) (f := zp_isI) (pc' := 71) rfl rfl (zw_gt (zw_gt l2 rfl rfl) rfl rfl) rfl rfl ?_
              refine zw_ld (n := 1) (k := 3) (f := zp_isI) (pc' := 72) rfl rfl (zw_gt (zw_gt l3 rfl rfl) rfl rfl) rfl rfl ?_
              refine zw_ld (n := 2) (k := 4) (f := zp_isL) (pc' := 74) rfl rfl (zw_gt (zw_gt l4 rfl rfl) rfl rfl) rfl rfl ?_
              obtain ⟨K, v, c1, c2, c3⟩ := z0l_valueOf (L := L) (σ := σ) (d := d) (x := H.2.1 80 (k + Int32.ofInt 1).toInt.toNat) (y := xc) (z := xh) (u := xu) hB hcell
              have WK := zR_Wd (z0R_dn c2)
              have k80 := zx_ae c3 80 (fun _ => rfl) rfl rfl
              refine zw_c (pc' := 77) (zw_cv (q := 72) (Y := zm_234) W.1 rfl rfl zm_234_t rfl rfl) rfl rfl rfl rfl rfl (c1) ?_
              refine zw_is (q := 97) (pc' := 78) WK rfl rfl (by decide) (⟨by omega, by show _ < ((800 : Nat) : Int); omega⟩) rfl ?_
              refine zw_ii (pc' := 81) rfl zw_g1 rfl rfl ?_
              refine zw_ii (pc' := 84) rfl (zw_gt (zw_gt (zw_gt l6 rfl rfl) rfl rfl) rfl rfl) rfl rfl ?_
              refine zw_s (pc' := 155) rfl rfl ?_
              refine zw_s (pc' := 6) rfl rfl ?_
              rw [if_pos (by omega)] at hq
              have hq := Option.some.inj hq
              subst hq
              have ek2 : (k + Int32.ofInt 1 + Int32.ofInt 1).toInt = k.toInt + 2 := by rw [zw_p1 (by omega), ek]; omega
              have em : (m + Int32.ofInt 1).toInt = m.toInt + 1 := zw_p1 (by omega)
              obtain ⟨p1, p2, p3⟩ := z0l_pile (j := m.toInt.toNat) (x := v) (H0 := H0) c2 (zk_Fr_t hF (zk_Fr_w rfl rfl c3))
              refine ih _ _ (m + Int32.ofInt 1) (k + Int32.ofInt 1 + Int32.ofInt 1) p1 p2 (by rw [p3, k80]; exact hc) (zw_gt (zw_gt (zw_gt (zw_gt l0 rfl rfl) rfl rfl) rfl rfl) rfl rfl) (zw_gt (zw_gt (zw_gt (zw_gt l2 rfl rfl) rfl rfl) rfl rfl) rfl rfl) (zw_gt (zw_gt (zw_gt (zw_gt l3 rfl rfl) rfl rfl) rfl rfl) rfl rfl) (zw_gt (zw_gt (zw_gt (zw_gt l4 rfl rfl) rfl rfl) rfl rfl) rfl rfl) zw_g1 (zw_gt zw_g1 rfl rfl) ⟨by omega, by omega⟩ ⟨by omega, by omega⟩ ?_
              have e1 : (k + Int32.ofInt 1 + Int32.ofInt 1).toInt.toNat = k.toInt.toNat + 2 := by omega
              have e2 : (m + Int32.ofInt 1).toInt.toNat = m.toInt.toNat + 1 := by omega
              rw [e1, e2]
              exact hr
            · omega
    · cases hr
theorem z0l_reckons {L : Nat} {σ : Nat → Int32} {d : Nat} {H : zp_H} {x xc xh : Int32} {xu : Int64} (hB : zk_Bs z0R zg zJ H) (hcell : 0 ≤ xc.toInt ∧ xc.toInt ≤ 63) (hx : 0 ≤ x.toInt) (hr : ∃ n b m, zr_run (H.2.1 80) n x.toInt.toNat 0 = some (b, m) ∧ b < 1600 ∧ (H.2.1 80 b).toInt = 0) : ∃ X, zp_Call L σ (d + 5) 233 [.inr (.inr (some 73)), .inl x, .inl xc, .inl xh, .inr (.inl xu)] H X ∧ (fun X : zp_X => ∃ H1 v, X = (.inl (some (.inl v)), H1) ∧ zk_Bs z0R zg zJ H1 ∧ zk_Fr zg [] [97] H H1) X := by
  obtain ⟨n, b, m, r1, r2, r3⟩ := hr
  have hle := zr_run_le r1
  have hle : x.toInt.toNat ≤ b := hle
  refine zw_met zm_233_t rfl rfl ?_
  refine zw_s (pc' := 1) rfl rfl ?_
  refine zw_st (n := 2) (k := 6) (f := zp_isI) (pc' := 3) rfl rfl rfl rfl rfl ?_
  refine zw_ld (n := 1) (k := 1) (f := zp_isI) (pc' := 4) rfl rfl (zw_gt rfl rfl rfl) rfl rfl ?_
  refine zw_st (n := 2) (k := 7) (f := zp_isI) (pc' := 6) rfl rfl rfl rfl rfl ?_
  exact z0l_rkL hcell r2 r3 n H _ _ _ hB (zk_Fr_r H) rfl (zw_gt (zw_gt rfl rfl rfl) rfl rfl) (zw_gt (zw_gt rfl rfl rfl) rfl rfl) (zw_gt (zw_gt rfl rfl rfl) rfl rfl) (zw_gt (zw_gt rfl rfl rfl) rfl rfl) (zw_gt zw_g1 rfl rfl) zw_g1 ⟨by decide, by show 2 * (0 : Int) ≤ _; omega⟩ ⟨hx, by omega⟩ r1
end
section
/-! ===== the reference once more, without the condition on what it reads (printed from the parts above) ===== -/
theorem z0l_woL {L : Nat} {σ : Nat → Int32} {d : Nat} {H0 : zp_H} {xc xh : Int32} {xu : Int64} (hcell : 0 ≤ xc.toInt ∧ xc.toInt ≤ 63) : ∀ (n : Nat) (H : zp_H) (lv : zp_LV) (r : Int32), zk_Bs z0R zg zJ H → zk_Fr zg [] [97] H0 H → zp_get lv 0 = some (.inr (.inr (some 73))) → zp_get lv 1 = some (.inl xc) → zp_get lv 2 = some (.inl xh) → zp_get lv 3 = some (.inr (.inl xu)) → zp_get lv 5 = some (.inl r) → 0 ≤ r.toInt → ((H.2.1 72 8).toInt - r.toInt).toNat ≤ n → zs_Safe L σ (fun X : zp_X => ∃ H1 v, X = (.inl (some (.inl v)), H1) ∧ zk_Bs z0R zg zJ H1 ∧ zk_Fr zg [] [97] H0 H1) zm_232 [] (d + 5) (3, lv, [], H, (0, 0)) := by
  intro n
  induction n with
  | zero =>
    intro H lv r hB hF l0 l1 l2 l3 l5 hr hn
    have W := zR_Wd (z0R_dn hB)
    refine zw_ld (n := 2) (k := 5) (f := zp_isI) (pc' := 5) rfl rfl l5 rfl rfl ?_
    refine zw_ld (n := 1) (k := 0) (f := zp_isR) (pc' := 6) rfl rfl l0 rfl rfl ?_
    refine zw_gI (q := 72) (pc' := 9) W rfl rfl rfl rfl rfl rfl ?_
    refine zw_bge2 (g := 43) (pc' := 12) rfl rfl rfl rfl rfl (fun hb => ?_) (fun hb => ?_)
    · refine zw_s (pc' := 44) rfl rfl ?_
      refine zw_ri rfl rfl ?_
      exact ⟨H, _, rfl, hB, hF⟩
    · omega
  | succ n ih =>
    intro H lv r hB hF l0 l1 l2 l3 l5 hr hn
    have W := zR_Wd (z0R_dn hB)
    have r8 := zR_fr1 (z0R_dn hB) (k := 8) (r := (0, 8)) rfl rfl
    have r8 : 0 ≤ (H.2.1 72 8).toInt ∧ (H.2.1 72 8).toInt ≤ 8 := r8
    refine zw_ld (n := 2) (k := 5) (f := zp_isI) (pc' := 5) rfl rfl l5 rfl rfl ?_
    refine zw_ld (n := 1) (k := 0) (f := zp_isR) (pc' := 6) rfl rfl l0 rfl rfl ?_
    refine zw_gI (q := 72) (pc' := 9) W rfl rfl rfl rfl rfl rfl ?_
    refine zw_bge2 (g := 43) (pc' := 12) rfl rfl rfl rfl rfl (fun hb => ?_) (fun hb => ?_)
    · refine zw_s (pc' := 44) rfl rfl ?_
      refine zw_ri rfl rfl ?_
      exact ⟨H, _, rfl, hB, hF⟩
    · refine zw_ld (n := 1) (k := 0) (f := zp_isR) (pc' := 13) rfl rfl l0 rfl rfl ?_
      refine zw_ld (n := 1) (k := 0) (f := zp_isR) (pc' := 14) rfl rfl l0 rfl rfl ?_
      refine zw_gR (q := 72) (pc' := 17) W rfl rfl rfl rfl (W.2 72 18 _ rfl) rfl ?_
      refine zw_ld (n := 2) (k := 5) (f := zp_isI) (pc' := 19) rfl rfl l5 rfl rfl ?_
      refine zw_ia (q := 78) (pc' := 20) W rfl rfl (by decide) (⟨by omega, by show _ < ((8 : Nat) : Int); omega⟩) rfl rfl ?_
      refine zw_ld (n := 1) (k := 1) (f := zp_isI) (pc' := 21) rfl rfl l1 rfl rfl ?_
      refine zw_ld (n := 1) (k := 2) (f := zp_isI) (pc' := 22) rfl rfl l2 rfl rfl ?_
      refine zw_ld (n := 1) (k := 3) (f := zp_isL) (pc' := 23) rfl rfl l3 rfl rfl ?_
      have e1 : (r + Int32.ofInt 1).toInt = r.toInt + 1 := zw_p1 (by omega)
      obtain ⟨j0, j1⟩ := hB.2.2.2.2.2.2.2.1 r.toInt.toNat (by omega)
      obtain ⟨_, c1, K, v, rfl, c2, c3⟩ := z0l_reckons (L := L) (σ := σ) (d := d) (xh := xh) (xu := xu) hB hcell j0 j1
      have WK := zR_Wd (z0R_dn c2)
      have k8 := zx_fe c3 8 rfl rfl rfl
      refine zw_c (pc' := 26) (zw_cv (q := 72) (Y := zm_233) W.1 rfl rfl zm_233_t rfl rfl) rfl rfl rfl rfl rfl (c1) ?_
      refine zw_beq1 (g := 37) (pc' := 29) rfl rfl rfl rfl (fun h0 => ?_) (fun h0 => ?_)
      · refine zw_ii (pc' := 40) rfl l5 rfl rfl ?_
        refine zw_s (pc' := 3) rfl rfl ?_
        exact ih K _ _ c2 (zk_Fr_t hF c3) (zw_gt l0 rfl rfl) (zw_gt l1 rfl rfl) (zw_gt l2 rfl rfl) (zw_gt l3 rfl rfl) zw_g1 (by omega) (by omega)
      · refine zw_ld (n := 1) (k := 0) (f := zp_isR) (pc' := 30) rfl rfl l0 rfl rfl ?_
        refine zw_gR (q := 72) (pc' := 33) WK rfl rfl rfl rfl (WK.2 72 19 _ rfl) rfl ?_
        refine zw_ld (n := 2) (k := 5) (f := zp_isI) (pc' := 35) rfl rfl l5 rfl rfl ?_
        refine zw_ia (q := 79) (pc' := 36) WK rfl rfl (by decide) (⟨by omega, by show _ < ((8 : Nat) : Int); omega⟩) rfl rfl ?_
        refine zw_ri rfl rfl ?_
        exact ⟨K, _, rfl, c2, zk_Fr_t hF c3⟩
theorem z0l_wayOf {L : Nat} {σ : Nat → Int32} {d : Nat} {H : zp_H} {xc xh : Int32} {xu : Int64} (hB : zk_Bs z0R zg zJ H) (hcell : 0 ≤ xc.toInt ∧ xc.toInt ≤ 63) : ∃ X, zp_Call L σ (d + 6) 232 [.inr (.inr (some 73)), .inl xc, .inl xh, .inr (.inl xu)] H X ∧ (fun X : zp_X => ∃ H1 v, X = (.inl (some (.inl v)), H1) ∧ zk_Bs z0R zg zJ H1 ∧ zk_Fr zg [] [97] H H1) X := by
  refine zw_met zm_232_t rfl rfl ?_
  refine zw_s (pc' := 1) rfl rfl ?_
  refine zw_st (n := 2) (k := 5) (f := zp_isI) (pc' := 3) rfl rfl rfl rfl rfl ?_
  exact z0l_woL hcell _ H _ _ hB (zk_Fr_r H) (zw_gt rfl rfl rfl) (zw_gt rfl rfl rfl) (zw_gt rfl rfl rfl) (zw_gt rfl rfl rfl) zw_g1 (by decide) (Nat.le_refl _)
/-- as the checker takes it -/
theorem z0rc_h4 {L : Nat} {σ : Nat → Int32} : zk_Ct L σ z0R zg zJ zr_h4 := by
  intro d hd as H ha hB hp
  have hd : 8 ≤ d := hd
  obtain ⟨d0, rfl⟩ : ∃ d0, d = d0 + 6 := ⟨d - 6, by omega⟩
  match as, ha with
  | [.inr (.inr r), .inl x, .inl y, .inr (.inl u)], ha =>
    obtain ⟨h1, h2, h3, h4, h5⟩ := ha
    have h1 : r = some 73 := h1
    subst h1
    obtain ⟨_, c1, H1, v, rfl, c2, c3⟩ := z0l_wayOf (L := L) (σ := σ) (d := d0) (xh := y) (xu := u) hB h2
    exact ⟨_, c1, c2, c3, _, List.mem_cons_self, zl_full v, fun f hf => absurd hf List.not_mem_nil, fun f hf => absurd hf List.not_mem_nil⟩
end
section
/-! ===== the reference once more, without the condition on what it reads (printed from the parts above) ===== -/
theorem z0l_kw {L : Nat} {σ : Nat → Int32} {d : Nat} {H : zp_H} (hB : zk_Bs z0R zg zJ H) : ∃ X, zp_Call L σ (d + 3) 177 [.inr (.inr (some 73))] H X ∧ ∃ v : Int32, X = (.inl (some (.inl v)), H) ∧ v.toInt = zg H := by
  have W := zR_Wd (z0R_dn hB)
  refine zw_met zm_177_t rfl rfl ?_
  refine zw_ld (n := 1) (k := 0) (f := zp_isR) (pc' := 1) rfl rfl rfl rfl rfl ?_
  refine zw_gI (q := 72) (pc' := 4) W rfl rfl rfl rfl rfl rfl ?_
  refine zw_s (pc' := 5) rfl rfl ?_
  refine zw_bne2 (g := 17) (pc' := 8) rfl rfl rfl rfl (rfl : _ = (1 : Int)) (fun h1 => ?_) (fun h1 => ?_)
  · refine zw_s (pc' := 18) rfl rfl ?_
    refine zw_ri rfl rfl ?_
    refine ⟨_, rfl, ?_⟩
    unfold zg
    rw [if_pos (Or.inl h1)]
    rfl
  · refine zw_ld (n := 1) (k := 0) (f := zp_isR) (pc' := 9) rfl rfl rfl rfl rfl ?_
    refine zw_gI (q := 72) (pc' := 12) W rfl rfl rfl rfl rfl rfl ?_
    refine zw_s (pc' := 14) rfl rfl ?_
    refine zw_ble2 (g := 19) (pc' := 17) rfl rfl rfl rfl (rfl : _ = (7 : Int)) (fun h2 => ?_) (fun h2 => ?_)
    · refine zw_s (pc' := 20) rfl rfl ?_
      refine zw_st (n := 1) (k := 1) (f := zp_isI) (pc' := 21) rfl rfl rfl rfl rfl ?_
      have hz : zg H = zg_f (H.2.2.1 72 33) 0 (zg_l.drop 0) := by
        unfold zg
        rw [if_neg (by omega)]
        rfl
      rw [hz]
      exact zl_kwL W 21 0 _ rfl (zw_gt rfl rfl rfl) zw_g1
    · refine zw_s (pc' := 18) rfl rfl ?_
      refine zw_ri rfl rfl ?_
      refine ⟨_, rfl, ?_⟩
      unfold zg
      rw [if_pos (Or.inr h2)]
      rfl
theorem z0x_KWt {L : Nat} {σ : Nat → Int32} : z0x_KW L σ := by
  intro d H hB
  obtain ⟨_, c1, v, rfl, c2⟩ := z0l_kw (L := L) (σ := σ) (d := d + 1) hB
  exact ⟨v, c1, c2⟩
/-- as the checker takes it -/
theorem z0l_kwC {L : Nat} {σ : Nat → Int32} {pre : List (Nat × Nat × Int × Int)} {outs : List zk_Oc} (ho : ∀ (H : zp_H) (v : Int32), (∀ f ∈ pre, zk_in (zk_fv zg H f.1 f.2.1) f.2.2) → v.toInt = zg H → ∃ o ∈ outs, zk_oc zg H o (.inl (some (.inl v)), H)) : zk_Ct L σ z0R zg zJ (177, [.inr (some (some 73))], pre, [], [], outs, 4) := by
  intro d hd as H ha hB hp
  have hd : 4 ≤ d := hd
  obtain ⟨d0, rfl⟩ : ∃ d0, d = d0 + 4 := ⟨d - 4, by omega⟩
  match as, ha with
  | [.inr (.inr r)], ha =>
    have h1 : r = some 73 := ha.1
    subst h1
    obtain ⟨v, c1, c2⟩ := z0x_KWt (L := L) (σ := σ) d0 H hB
    exact ⟨_, c1, hB, zk_Fr_r H, ho H v hp c2⟩
theorem z0rc_h0 {L : Nat} {σ : Nat → Int32} : zk_Ct L σ z0R zg zJ zr_h0 := z0l_kwC (fun H v hp hv => ⟨_, List.mem_cons_self, by have h := hp _ List.mem_cons_self; show zk_in v.toInt (0, 3); rw [hv]; exact h, fun f hf => absurd hf List.not_mem_nil, fun f hf => absurd hf List.not_mem_nil⟩)
theorem z0rc_h1 {L : Nat} {σ : Nat → Int32} : zk_Ct L σ z0R zg zJ zr_h1 := z0l_kwC (fun H v hp hv => ⟨_, List.mem_cons_self, by have h := hp _ List.mem_cons_self; show zk_in v.toInt (-1, 15); rw [hv]; exact h, fun f hf => absurd hf List.not_mem_nil, fun f hf => absurd hf List.not_mem_nil⟩)
theorem z0rc_h2 {L : Nat} {σ : Nat → Int32} : zk_Ct L σ z0R zg zJ zr_h2 := z0l_kwC (fun H v hp hv => ⟨_, List.mem_cons_self, by have h := hp _ List.mem_cons_self; show zk_in v.toInt (17, 20); rw [hv]; exact h, fun f hf => absurd hf List.not_mem_nil, fun f hf => absurd hf List.not_mem_nil⟩)
theorem z0rc_h3 {L : Nat} {σ : Nat → Int32} : zk_Ct L σ z0R zg zJ zr_h3 := z0l_kwC (fun H v hp hv => by
  have h := zg_in H
  have h : -1 ≤ zg H ∧ zg H ≤ 20 := h
  have key : ∀ lo hi : Int, lo ≤ zg H ∧ zg H ≤ hi → zk_oc zg H (.inl (some (.inl (lo, hi))), [(72, 100, lo, hi)], []) (.inl (some (.inl v)), H) := by
    intro lo hi hh
    refine ⟨by show zk_in v.toInt (lo, hi); rw [hv]; exact hh, fun f hf => ?_, fun f hf => absurd hf List.not_mem_nil⟩
    rcases List.mem_cons.mp hf with rfl | hf
    · exact hh
    · exact absurd hf List.not_mem_nil
  by_cases h1 : zg H = -1
  · exact ⟨_, List.mem_cons_of_mem _ List.mem_cons_self, key (-1) (-1) ⟨by omega, by omega⟩⟩
  · by_cases h2 : zg H ≤ 3
    · exact ⟨_, List.mem_cons_self, key 0 3 ⟨by omega, by omega⟩⟩
    · exact ⟨_, List.mem_cons_of_mem _ (List.mem_cons_of_mem _ List.mem_cons_self), key 4 20 ⟨by omega, by omega⟩⟩)
end
section
/-! ===== the reference once more, without the condition on what it reads (printed from the parts above) ===== -/
theorem z0T_dn {H : zp_H} (h : zk_Bs z0R zg zJ H) : zk_Bs zR0 zg zT H := ⟨h.1, h.2.1, h.2.2.1, h.2.2.2.1, h.2.2.2.2.1, h.2.2.2.2.2.1, fun c hc => absurd hc List.not_mem_nil, trivial⟩
theorem z0T_up {H : zp_H} (h : zk_Bs zR0 zg zT H) (hJ : zJ H) (hc : z0R_cc H) : zk_Bs z0R zg zJ H := z0R_up ⟨h.1, h.2.1, h.2.2.1, h.2.2.2.1, h.2.2.2.2.1, h.2.2.2.2.2.1, fun c hc => absurd hc List.not_mem_nil, hJ⟩ hc
theorem z0t_undo {L : Nat} {σ : Nat → Int32} {d : Nat} {H : zp_H} (hB : zk_Bs z0R zg zJ H) : ∃ X, zp_Call L σ (d + 1) 218 [.inr (.inr (some 73))] H X ∧ ∃ H1 v, X = (.inl (some (.inl v)), H1) ∧ zk_Bs z0R zg zJ H1 ∧ zk_Fr zg [(72, 0), (72, 62)] [74] H H1 := by
  have b0 := z0T_dn hB
  have hJ := hB.2.2.2.2.2.2.2
  have hcc := z0R_cn hB
  have W := zT_Wd b0
  have a0 := zt_acts b0
  refine zw_met zm_218_t rfl rfl ?_
  refine zw_ld (n := 1) (k := 0) (f := zp_isR) (pc' := 1) rfl rfl rfl rfl rfl ?_
  refine zw_s (pc' := 2) rfl rfl ?_
  refine zw_pI (q := 72) (pc' := 5) W rfl rfl rfl rfl rfl rfl ?_
  refine zw_ld (n := 1) (k := 0) (f := zp_isR) (pc' := 6) rfl rfl rfl rfl rfl ?_
  refine zw_gI (q := 72) (pc' := 9) W rfl rfl rfl rfl (zw_ne rfl rfl) rfl ?_
  refine zw_bne1 (g := 14) (pc' := 12) rfl rfl rfl rfl (fun h0 => ?_) (fun h0 => ?_)
  · have b2 := zt_B1 b0 (by omega)
    have ea : (H.2.1 72 62 - Int32.ofInt 1).toInt = (H.2.1 72 62).toInt - 1 := zw_m1 (by omega)
    have em : (Int32.ofInt 2 * (H.2.1 72 62 - Int32.ofInt 1)).toInt = 2 * ((H.2.1 72 62).toInt - 1) := by rw [zt_mul (by decide) (by omega), ea]
    have em1 : (Int32.ofInt 2 * (H.2.1 72 62 - Int32.ofInt 1) + Int32.ofInt 1).toInt = 2 * ((H.2.1 72 62).toInt - 1) + 1 := by rw [zw_p1 (by omega), em]
    obtain ⟨n, hn⟩ : ∃ n : Nat, (H.2.1 72 62).toInt = (n : Int) + 1 := ⟨((H.2.1 72 62).toInt - 1).toNat, by omega⟩
    have en : (Int32.ofInt 2 * (H.2.1 72 62 - Int32.ofInt 1)).toInt.toNat = 2 * n := by omega
    have en1 : (Int32.ofInt 2 * (H.2.1 72 62 - Int32.ofInt 1) + Int32.ofInt 1).toInt.toNat = 2 * n + 1 := by omega
    have s0 := zt_a0 b0 (k := n) (by omega)
    have v0 := zt_a1 b0 (k := n) (by omega)
    obtain ⟨s, hs⟩ : ∃ s : Nat, (H.2.1 93 (2 * n)).toInt = (s : Int) := ⟨(H.2.1 93 (2 * n)).toInt.toNat, by omega⟩
    have f4 : ∀ a : Int, 0 ≤ a ∧ a ≤ 100 → (Int32.ofInt 4 * H.2.1 93 (2 * n) + Int32.ofInt a).toInt = 4 * (s : Int) + a := fun a ha => by rw [zt_add ha (by rw [zt_mul (by decide) (by omega)]; omega), zt_mul (by decide) (by omega), hs]
    have f42 := f4 2 (by decide)
    have f43 := f4 3 (by decide)
    have g42 : (Int32.ofInt 4 * H.2.1 93 (2 * n) + Int32.ofInt 2).toInt.toNat = 4 * s + 2 := by omega
    have g43 : (Int32.ofInt 4 * H.2.1 93 (2 * n) + Int32.ofInt 3).toInt.toNat = 4 * s + 3 := by omega
    have m0 := zt_s2 b0 (k := s) (by omega)
    have hcnt := hJ.2.1
    unfold zJ_cnt at hcnt
    rw [show (H.2.1 72 62).toInt.toNat = n + 1 by omega] at hcnt
    have hmon : ∀ s' : Nat, s' < 8 → ((zr_cnt (H.2.1 93) s' n : Nat) : Int) ≤ (H.2.1 74 (4 * s' + 2)).toInt := fun s' h' => by have := hcnt s' h'; have := zt_cnt_le (act := H.2.1 93) (s := (s' : Int)) (n := n); omega
    refine zw_ld (n := 1) (k := 0) (f := zp_isR) (pc' := 15) rfl rfl rfl rfl rfl ?_
    refine zw_s (pc' := 16) rfl rfl ?_
    refine zw_gI (q := 72) (pc' := 19) W rfl rfl rfl rfl (zw_ne rfl rfl) rfl ?_
    refine zw_s (pc' := 20) rfl rfl ?_
    refine zw_isub (pc' := 21) rfl rfl ?_
    refine zw_pI (q := 72) (pc' := 24) W rfl rfl rfl rfl rfl rfl ?_
    refine zw_ld (n := 1) (k := 0) (f := zp_isR) (pc' := 25) rfl rfl rfl rfl rfl ?_
    refine zw_gR (q := 72) (pc' := 28) W rfl rfl rfl rfl (W.2 72 63 _ rfl) rfl ?_
    refine zw_s (pc' := 29) rfl rfl ?_
    refine zw_ld (n := 1) (k := 0) (f := zp_isR) (pc' := 30) rfl rfl rfl rfl rfl ?_
    refine zw_gI (q := 72) (pc' := 33) W rfl rfl rfl rfl zw_eq rfl ?_
    refine zw_imul (pc' := 34) rfl rfl ?_
    refine zw_ia (q := 93) (pc' := 35) W rfl rfl (by decide) (⟨by omega, by show _ < ((60 : Nat) : Int); omega⟩) (zw_ne (zw_ne rfl rfl) rfl) rfl ?_
    refine zw_st (n := 1) (k := 1) (f := zp_isI) (pc' := 36) rfl rfl rfl rfl rfl ?_
    refine zw_ld (n := 1) (k := 0) (f := zp_isR) (pc' := 37) rfl rfl (zw_gt rfl rfl rfl) rfl rfl ?_
    refine zw_gR (q := 72) (pc' := 40) W rfl rfl rfl rfl (W.2 72 63 _ rfl) rfl ?_
    refine zw_s (pc' := 41) rfl rfl ?_
    refine zw_ld (n := 1) (k := 0) (f := zp_isR) (pc' := 42) rfl rfl (zw_gt rfl rfl rfl) rfl rfl ?_
    refine zw_gI (q := 72) (pc' := 45) W rfl rfl rfl rfl zw_eq rfl ?_
    refine zw_imul (pc' := 46) rfl rfl ?_
    refine zw_s (pc' := 47) rfl rfl ?_
    refine zw_iadd (pc' := 48) rfl rfl ?_
    refine zw_ia (q := 93) (pc' := 49) W rfl rfl (by decide) (⟨by omega, by show _ < ((60 : Nat) : Int); omega⟩) (zw_ne (zw_ne rfl rfl) rfl) rfl ?_
    refine zw_s (pc' := 50) rfl rfl ?_
    refine zw_bne2 (g := 70) (pc' := 53) rfl rfl rfl rfl (rfl : _ = (-1 : Int)) (fun hv => ?_) (fun hv => ?_)
    · rw [en1] at hv
      rw [en]
      refine zw_ld (n := 1) (k := 0) (f := zp_isR) (pc' := 71) rfl rfl (zw_gt rfl rfl rfl) rfl rfl ?_
      refine zw_gR (q := 72) (pc' := 74) W rfl rfl rfl rfl (W.2 72 14 _ rfl) rfl ?_
      refine zw_s (pc' := 75) rfl rfl ?_
      refine zw_ld (n := 1) (k := 1) (f := zp_isI) (pc' := 76) rfl rfl zw_g1 rfl rfl ?_
      refine zw_imul (pc' := 77) rfl rfl ?_
      refine zw_s (pc' := 78) rfl rfl ?_
      refine zw_iadd (pc' := 79) rfl rfl ?_
      refine zw_ld (n := 1) (k := 0) (f := zp_isR) (pc' := 80) rfl rfl (zw_gt rfl rfl rfl) rfl rfl ?_
      refine zw_gR (q := 72) (pc' := 83) W rfl rfl rfl rfl (W.2 72 63 _ rfl) rfl ?_
      refine zw_s (pc' := 84) rfl rfl ?_
      refine zw_ld (n := 1) (k := 0) (f := zp_isR) (pc' := 85) rfl rfl (zw_gt rfl rfl rfl) rfl rfl ?_
      refine zw_gI (q := 72) (pc' := 88) W rfl rfl rfl rfl zw_eq rfl ?_
      refine zw_imul (pc' := 89) rfl rfl ?_
      refine zw_s (pc' := 90) rfl rfl ?_
      refine zw_iadd (pc' := 91) rfl rfl ?_
      refine zw_ia (q := 93) (pc' := 92) W rfl rfl (by decide) (⟨by omega, by show _ < ((60 : Nat) : Int); omega⟩) (zw_ne (zw_ne rfl rfl) rfl) rfl ?_
      refine zw_is (q := 74) (pc' := 93) W rfl rfl (by decide) (⟨by rw [f43]; omega, by rw [f43]; show _ < ((32 : Nat) : Int); omega⟩) rfl ?_
      refine zw_ld (n := 1) (k := 0) (f := zp_isR) (pc' := 94) rfl rfl (zw_gt rfl rfl rfl) rfl rfl ?_
      refine zw_gI (q := 72) (pc' := 97) W rfl rfl rfl rfl (zw_ne zw_eq rfl) rfl ?_
      refine zw_ri rfl rfl ?_
      rw [g43, en1]
      have b3 := zT_puta (p := 74) (j := 4 * s + 3) (x := zp_nar 0 (H.2.1 93 (2 * n + 1))) (t := 0) (n := 32) b2 rfl (fun r hr => by
        have hr : [((0 : Int), (63 : Int)), (-2147483648, 2147483647), (0, 8), (0, 255)][(4 * s + 3) % 4]? = some r := hr
        rw [show (4 * s + 3) % 4 = 3 by omega] at hr
        cases hr
        exact ⟨by show (0 : Int) ≤ (H.2.1 93 (2 * n + 1)).toInt; omega, by show (H.2.1 93 (2 * n + 1)).toInt ≤ (255 : Int); omega⟩) trivial
      refine ⟨_, _, rfl, z0T_up b3 (zt_J hJ rfl rfl rfl rfl rfl rfl ?_) (fun h9 => hcc h9), zk_Fr_I (zk_Fr_I (zk_Fr_I (zk_Fr_r H) rfl rfl) rfl rfl) rfl rfl⟩
      intro s' h'
      show ((zr_cnt (H.2.1 93) s' (H.2.1 72 62 - Int32.ofInt 1).toInt.toNat : Nat) : Int) ≤ ((zw_I (zt_u1 H) 74 (4 * s + 3) (H.2.1 93 (2 * n + 1))).2.1 74 (4 * s' + 2)).toInt
      rw [show (H.2.1 72 62 - Int32.ofInt 1).toInt.toNat = n by omega]
      have e : (zw_I (zt_u1 H) 74 (4 * s + 3) (H.2.1 93 (2 * n + 1))).2.1 74 (4 * s' + 2) = H.2.1 74 (4 * s' + 2) := zp_u_ne (fun h8 => by have := h8.2; omega)
      rw [e]
      exact hmon s' h'
    · rw [en1] at hv
      have h1 : 1 ≤ zr_cnt (H.2.1 93) (s : Int) (n + 1) := by
        show 1 ≤ zr_cnt (H.2.1 93) (s : Int) n + _
        rw [if_pos ⟨hs, hv⟩]
        omega
      have h2 := hcnt s (by omega)
      have em3 : (H.2.1 74 (4 * s + 2) - Int32.ofInt 1).toInt = (H.2.1 74 (4 * s + 2)).toInt - 1 := zw_m1 (by omega)
      rw [en]
      refine zw_ld (n := 1) (k := 0) (f := zp_isR) (pc' := 54) rfl rfl (zw_gt rfl rfl rfl) rfl rfl ?_
      refine zw_gR (q := 72) (pc' := 57) W rfl rfl rfl rfl (W.2 72 14 _ rfl) rfl ?_
      refine zw_s (pc' := 58) rfl rfl ?_
      refine zw_ld (n := 1) (k := 1) (f := zp_isI) (pc' := 59) rfl rfl zw_g1 rfl rfl ?_
      refine zw_imul (pc' := 60) rfl rfl ?_
      refine zw_s (pc' := 61) rfl rfl ?_
      refine zw_iadd (pc' := 62) rfl rfl ?_
      refine zw_s (pc' := 63) rfl rfl ?_
      refine zw_ia (q := 74) (pc' := 64) W rfl rfl (by decide) (⟨by rw [f42]; omega, by rw [f42]; show _ < ((32 : Nat) : Int); omega⟩) (zw_ne (zw_ne rfl rfl) rfl) rfl ?_
      refine zw_s (pc' := 65) rfl rfl ?_
      refine zw_isub (pc' := 66) rfl rfl ?_
      refine zw_is (q := 74) (pc' := 67) W rfl rfl (by decide) (⟨by rw [f42]; omega, by rw [f42]; show _ < ((32 : Nat) : Int); omega⟩) rfl ?_
      refine zw_s (pc' := 93) rfl rfl ?_
      refine zw_ld (n := 1) (k := 0) (f := zp_isR) (pc' := 94) rfl rfl (zw_gt rfl rfl rfl) rfl rfl ?_
      refine zw_gI (q := 72) (pc' := 97) W rfl rfl rfl rfl (zw_ne zw_eq rfl) rfl ?_
      refine zw_ri rfl rfl ?_
      rw [g42]
      have b3 := zT_puta (p := 74) (j := 4 * s + 2) (x := zp_nar 0 (H.2.1 74 (4 * s + 2) - Int32.ofInt 1)) (t := 0) (n := 32) b2 rfl (fun r hr => by
        have hr : [((0 : Int), (63 : Int)), (-2147483648, 2147483647), (0, 8), (0, 255)][(4 * s + 2) % 4]? = some r := hr
        rw [show (4 * s + 2) % 4 = 2 by omega] at hr
        cases hr
        exact ⟨by show (0 : Int) ≤ (H.2.1 74 (4 * s + 2) - Int32.ofInt 1).toInt; omega, by show (H.2.1 74 (4 * s + 2) - Int32.ofInt 1).toInt ≤ (8 : Int); omega⟩) trivial
      refine ⟨_, _, rfl, z0T_up b3 (zt_J hJ rfl rfl rfl rfl rfl rfl ?_) (fun h9 => hcc h9), zk_Fr_I (zk_Fr_I (zk_Fr_I (zk_Fr_r H) rfl rfl) rfl rfl) rfl rfl⟩
      intro s' h'
      show ((zr_cnt (H.2.1 93) s' (H.2.1 72 62 - Int32.ofInt 1).toInt.toNat : Nat) : Int) ≤ ((zw_I (zt_u1 H) 74 (4 * s + 2) (H.2.1 74 (4 * s + 2) - Int32.ofInt 1)).2.1 74 (4 * s' + 2)).toInt
      rw [show (H.2.1 72 62 - Int32.ofInt 1).toInt.toNat = n by omega]
      by_cases h9 : s' = s
      · subst h9
        rw [zw_eq, em3]
        have h8 : zr_cnt (H.2.1 93) (s' : Int) (n + 1) = zr_cnt (H.2.1 93) (s' : Int) n + 1 := by
          show zr_cnt (H.2.1 93) (s' : Int) n + _ = _
          rw [if_pos ⟨hs, hv⟩]
        omega
      · have e : (zw_I (zt_u1 H) 74 (4 * s + 2) (H.2.1 74 (4 * s + 2) - Int32.ofInt 1)).2.1 74 (4 * s' + 2) = H.2.1 74 (4 * s' + 2) := zp_u_ne (fun h8 => h9 (by have := h8.2; omega))
        rw [e]
        exact hmon s' h'
  · refine zw_s (pc' := 13) rfl rfl ?_
    refine zw_ri rfl rfl ?_
    have b1 := zT_putf (k := 0) (x := Int32.ofInt 0) b0 (fun r hr => by cases hr) rfl trivial
    exact ⟨_, _, rfl, z0T_up b1 (zJ_I rfl hJ) (fun h9 => hcc h9), zk_Fr_I (zk_Fr_r H) rfl rfl⟩
end
section
/-! ===== the reference once more, without the condition on what it reads (printed from the parts above) ===== -/
def z0t_P (H : zp_H) (X : zp_X) : Prop := ∃ H1 v, X = (.inl (some (.inl v)), H1) ∧ zk_Bs z0R zg zJ H1 ∧ zk_Fr zg zt_wM zt_wA H H1
theorem z0t_thr {H : zp_H} {x : Int32} (hB : zk_Bs z0R zg zJ H) : zk_Bs z0R zg zJ (zw_I H 72 0 x) := z0R_up (zR_putf (k := 0) (x := x) (z0R_dn hB) (fun r hr => by cases hr) rfl (zJ_I rfl hB.2.2.2.2.2.2.2)) (fun h9 => z0R_cn (H := H) hB h9)
theorem z0t_ref {H : zp_H} {x : Int32} (hB : zk_Bs z0R zg zJ H) : zk_Bs z0R zg zJ (zw_I H 82 1 x) := z0R_up (zR_puta (p := 82) (j := 1) (x := x) (t := 0) (n := 2) (z0R_dn hB) rfl (fun r hr => by cases hr; exact ⟨Int32.le_toInt _, Int32.toInt_le _⟩) (zJ_I rfl hB.2.2.2.2.2.2.2)) (fun h9 => z0R_cn (H := H) hB h9)
set_option maxRecDepth 4000 in
set_option maxHeartbeats 1000000 in
theorem z0t_write {L : Nat} {σ : Nat → Int32} {d : Nat} {H : zp_H} {xs xw xt : Int32} (hB : zk_Bs z0R zg zJ H) : ∃ X, zp_Call L σ (d + 3) 213 [.inr (.inr (some 73)), .inl xs, .inl xw, .inl xt] H X ∧ z0t_P H X := by
  have W := zR_Wd (z0R_dn hB)
  have hJ := hB.2.2.2.2.2.2.2
  have hcc := z0R_cn hB
  have sl := zR_fr1 (z0R_dn hB) (k := 5) (r := (0, 8)) rfl rfl
  have sl : 0 ≤ (H.2.1 72 5).toInt ∧ (H.2.1 72 5).toInt ≤ 8 := sl
  have B1 := z0t_thr (x := Int32.ofInt 0) hB
  have F1 : zk_Fr zg zt_wM zt_wA H (zw_I H 72 0 (Int32.ofInt 0)) := zk_Fr_I (zk_Fr_r H) rfl rfl
  have t1 : (zw_I H 72 0 (Int32.ofInt 0)).2.1 72 0 = Int32.ofInt 0 := zw_eq
  have h0 : ((zw_I H 72 0 (Int32.ofInt 0)).2.1 72 0).toInt = 0 := by rw [t1]; rfl
  refine zw_met zm_213_t rfl rfl ?_
  refine zw_ld (n := 1) (k := 0) (f := zp_isR) (pc' := 1) rfl rfl rfl rfl rfl ?_
  refine zw_s (pc' := 2) rfl rfl ?_
  refine zw_pI (q := 72) (pc' := 5) W rfl rfl rfl rfl rfl rfl ?_
  refine zw_ld (n := 1) (k := 0) (f := zp_isR) (pc' := 6) rfl rfl rfl rfl rfl ?_
  refine zw_ld (n := 1) (k := 1) (f := zp_isI) (pc' := 7) rfl rfl rfl rfl rfl ?_
  by_cases hs : 0 ≤ xs.toInt ∧ xs.toInt < (H.2.1 72 5).toInt
  · refine zw_c (pc' := 10) (zw_cv (q := 72) (Y := zm_210) W.1 rfl rfl zm_210_t rfl rfl) rfl rfl rfl rfl rfl (zq_slate1 (H := zw_I H 72 0 (Int32.ofInt 0)) W h0 hs) ?_
    refine zw_bne1 (g := 15) (pc' := 13) rfl rfl rfl (rfl : _ = (1 : Int)) (fun hb => ?_) (fun h9 => absurd h9 (by decide))
    refine zw_ld (n := 1) (k := 0) (f := zp_isR) (pc' := 16) rfl rfl rfl rfl rfl ?_
    refine zw_ld (n := 1) (k := 1) (f := zp_isI) (pc' := 17) rfl rfl rfl rfl rfl ?_
    refine zw_c (pc' := 20) (zw_cv (q := 72) (Y := zm_212) W.1 rfl rfl zm_212_t rfl rfl) rfl rfl rfl rfl rfl (zq_marks (H := zw_I H 72 0 (Int32.ofInt 0)) W (by omega)) ?_
    obtain ⟨s, hss⟩ : ∃ s : Nat, xs.toInt.toNat = s := ⟨_, rfl⟩
    have hs1 : xs.toInt = (s : Int) := by omega
    rw [hss]
    have m74 : (zw_I H 72 0 (Int32.ofInt 0)).2.1 74 (4 * s + 2) = H.2.1 74 (4 * s + 2) := zw_ne rfl rfl
    rw [m74]
    have m0 := zt_s2 (z0T_dn hB) (k := s) (by omega)
    generalize hm : H.2.1 74 (4 * s + 2) = m at m0
    refine zw_st (n := 2) (k := 4) (f := zp_isI) (pc' := 22) rfl rfl rfl rfl rfl ?_
    refine zw_ld (n := 2) (k := 4) (f := zp_isI) (pc' := 24) rfl rfl zw_g1 rfl rfl ?_
    refine zw_s (pc' := 26) rfl rfl ?_
    refine zw_beq2 (g := 48) (pc' := 29) rfl rfl rfl rfl (rfl : _ = (8 : Int)) (fun h8 => ?_) (fun h8 => ?_)
    · refine zw_ld (n := 1) (k := 0) (f := zp_isR) (pc' := 49) rfl rfl (zw_gt rfl rfl rfl) rfl rfl ?_
      refine zw_c (pc' := 52) (zw_cv (q := 72) (Y := zm_214) W.1 rfl rfl zm_214_t rfl rfl) rfl rfl rfl rfl rfl (zq_refuses (H := zw_I H 72 0 (Int32.ofInt 0)) W) ?_
      refine zw_ri rfl rfl ?_
      exact ⟨_, _, rfl, z0t_ref B1, zk_Fr_I F1 rfl rfl⟩
    · refine zw_ld (n := 1) (k := 2) (f := zp_isI) (pc' := 30) rfl rfl (zw_gt rfl rfl rfl) rfl rfl ?_
      refine zw_s (pc' := 31) rfl rfl ?_
      refine zw_s (pc' := 32) rfl rfl ?_
      by_cases hw : (Int32.ofInt 0).toInt ≤ xw.toInt ∧ xw.toInt ≤ (Int32.ofInt 3).toInt
      · refine zw_c (pc' := 35) (zw_cs (Y := zm_185) rfl rfl zm_185_t) rfl rfl rfl rfl rfl (zq_within1 hw) ?_
        refine zw_beq1 (g := 48) (pc' := 38) rfl rfl rfl (rfl : _ = (1 : Int)) (fun h9 => absurd h9 (by decide)) (fun hb => ?_)
        refine zw_ld (n := 1) (k := 3) (f := zp_isI) (pc' := 39) rfl rfl (zw_gt rfl rfl rfl) rfl rfl ?_
        refine zw_s (pc' := 40) rfl rfl ?_
        refine zw_s (pc' := 42) rfl rfl ?_
        by_cases ht : (Int32.ofInt 1).toInt ≤ xt.toInt ∧ xt.toInt ≤ (Int32.ofInt 9).toInt
        · refine zw_c (pc' := 45) (zw_cs (Y := zm_185) rfl rfl zm_185_t) rfl rfl rfl rfl rfl (zq_within1 ht) ?_
          refine zw_bne1 (g := 53) (pc' := 48) rfl rfl rfl (rfl : _ = (1 : Int)) (fun hb => ?_) (fun h9 => absurd h9 (by decide))
          have i0 : (Int32.ofInt 0).toInt = 0 := rfl
          have i3 : (Int32.ofInt 3).toInt = 3 := rfl
          have a1 : (Int32.ofInt 16 * xs).toInt = 16 * xs.toInt := zt_mul (by decide) (by omega)
          have a2 : (Int32.ofInt 2 * m).toInt = 2 * m.toInt := zt_mul (by decide) (by omega)
          have a3 : (Int32.ofInt 16 * xs + Int32.ofInt 2 * m).toInt = 16 * xs.toInt + 2 * m.toInt := by rw [zn_add (by omega) (by omega), a1, a2]
          have a4 : (Int32.ofInt 16 * xs + Int32.ofInt 2 * m + Int32.ofInt 1).toInt = 16 * xs.toInt + 2 * m.toInt + 1 := by rw [zw_p1 (by omega), a3]
          have a5 : (Int32.ofInt 4 * xs).toInt = 4 * xs.toInt := zt_mul (by decide) (by omega)
          have a6 : (Int32.ofInt 4 * xs + Int32.ofInt 2).toInt = 4 * xs.toInt + 2 := by rw [zt_add (by decide) (by omega), a5]
          have a7 : (m + Int32.ofInt 1).toInt = m.toInt + 1 := zw_p1 (by omega)
          obtain ⟨q, hq⟩ : ∃ q : Nat, m.toInt = (q : Int) := ⟨m.toInt.toNat, by omega⟩
          have c3 : (Int32.ofInt 16 * xs + Int32.ofInt 2 * m).toInt.toNat = 16 * s + 2 * q := by omega
          have c4 : (Int32.ofInt 16 * xs + Int32.ofInt 2 * m + Int32.ofInt 1).toInt.toNat = 16 * s + 2 * q + 1 := by omega
          have c6 : (Int32.ofInt 4 * xs + Int32.ofInt 2).toInt.toNat = 4 * s + 2 := by omega
          have b1 := z0T_dn B1
          have b2 := zT_puta (p := 75) (j := 16 * s + 2 * q) (x := zp_nar 0 xw) (t := 0) (n := 128) b1 rfl (fun r hr => by
            have hr : [((0 : Int), (3 : Int)), (-2147483648, 2147483647)][(16 * s + 2 * q) % 2]? = some r := hr
            rw [show (16 * s + 2 * q) % 2 = 0 by omega] at hr
            cases hr
            exact ⟨by show (0 : Int) ≤ xw.toInt; omega, by show xw.toInt ≤ (3 : Int); omega⟩) trivial
          have b3 := zT_puta (p := 75) (j := 16 * s + 2 * q + 1) (x := zp_nar 0 xt) (t := 0) (n := 128) b2 rfl (fun r hr => by
            have hr : [((0 : Int), (3 : Int)), (-2147483648, 2147483647)][(16 * s + 2 * q + 1) % 2]? = some r := hr
            rw [show (16 * s + 2 * q + 1) % 2 = 1 by omega] at hr
            cases hr
            exact ⟨Int32.le_toInt _, Int32.toInt_le _⟩) trivial
          have b4 := zT_puta (p := 74) (j := 4 * s + 2) (x := zp_nar 0 (m + Int32.ofInt 1)) (t := 0) (n := 32) b3 rfl (fun r hr => by
            have hr : [((0 : Int), (63 : Int)), (-2147483648, 2147483647), (0, 8), (0, 255)][(4 * s + 2) % 4]? = some r := hr
            rw [show (4 * s + 2) % 4 = 2 by omega] at hr
            cases hr
            exact ⟨by show (0 : Int) ≤ (m + Int32.ofInt 1).toInt; omega, by show (m + Int32.ofInt 1).toInt ≤ (8 : Int); omega⟩) trivial
          have F4 : zk_Fr zg zt_wM zt_wA H (zw_I (zw_I (zw_I (zw_I H 72 0 (Int32.ofInt 0)) 75 (16 * s + 2 * q) (zp_nar 0 xw)) 75 (16 * s + 2 * q + 1) (zp_nar 0 xt)) 74 (4 * s + 2) (zp_nar 0 (m + Int32.ofInt 1))) := zk_Fr_I (zk_Fr_I (zk_Fr_I F1 rfl rfl) rfl rfl) rfl rfl
          have hkC : zt_kC (zw_I (zw_I (zw_I (zw_I H 72 0 (Int32.ofInt 0)) 75 (16 * s + 2 * q) (zp_nar 0 xw)) 75 (16 * s + 2 * q + 1) (zp_nar 0 xt)) 74 (4 * s + 2) (zp_nar 0 (m + Int32.ofInt 1))) xs.toInt (Int32.ofInt (-1)).toInt := by
            intro s' h'
            have hc := hJ.2.1 s' h'
            have e93 : (zw_I (zw_I (zw_I (zw_I H 72 0 (Int32.ofInt 0)) 75 (16 * s + 2 * q) (zp_nar 0 xw)) 75 (16 * s + 2 * q + 1) (zp_nar 0 xt)) 74 (4 * s + 2) (zp_nar 0 (m + Int32.ofInt 1))).2.1 93 = H.2.1 93 := funext (fun i => zw_ne (zw_ne (zw_ne (zw_ne rfl rfl) rfl) rfl) rfl)
            have e62 : (zw_I (zw_I (zw_I (zw_I H 72 0 (Int32.ofInt 0)) 75 (16 * s + 2 * q) (zp_nar 0 xw)) 75 (16 * s + 2 * q + 1) (zp_nar 0 xt)) 74 (4 * s + 2) (zp_nar 0 (m + Int32.ofInt 1))).2.1 72 62 = H.2.1 72 62 := zw_ne (zw_ne (zw_ne (zw_ne rfl rfl) rfl) rfl) rfl
            rw [e93, e62]
            by_cases h9 : s' = s
            · have e : (zw_I (zw_I (zw_I (zw_I H 72 0 (Int32.ofInt 0)) 75 (16 * s + 2 * q) (zp_nar 0 xw)) 75 (16 * s + 2 * q + 1) (zp_nar 0 xt)) 74 (4 * s + 2) (zp_nar 0 (m + Int32.ofInt 1))).2.1 74 (4 * s' + 2) = m + Int32.ofInt 1 := by rw [h9]; exact zw_eq
              rw [e, a7]
              rw [h9, hm] at hc
              rw [if_pos ⟨by omega, rfl⟩, h9]
              omega
            · have e : (zw_I (zw_I (zw_I (zw_I H 72 0 (Int32.ofInt 0)) 75 (16 * s + 2 * q) (zp_nar 0 xw)) 75 (16 * s + 2 * q + 1) (zp_nar 0 xt)) 74 (4 * s + 2) (zp_nar 0 (m + Int32.ofInt 1))).2.1 74 (4 * s' + 2) = H.2.1 74 (4 * s' + 2) := (zp_u_ne (fun h8 => h9 (by have := h8.2; omega))).trans (zw_ne (zw_ne (zw_ne rfl rfl) rfl) rfl)
              rw [e, if_neg (fun h8 => h9 (by have := h8.1; omega))]
              omega
          have J4 : ∀ p k, zR_fz p k = true → p ≠ 74 → (zw_I (zw_I (zw_I (zw_I H 72 0 (Int32.ofInt 0)) 75 (16 * s + 2 * q) (zp_nar 0 xw)) 75 (16 * s + 2 * q + 1) (zp_nar 0 xt)) 74 (4 * s + 2) (zp_nar 0 (m + Int32.ofInt 1))).2.1 p k = H.2.1 p k := fun p k hf hp => (zp_u_ne (fun h8 => hp h8.1)).trans ((zp_u_ne (fun h8 => by rw [h8.1] at hf; cases hf)).trans ((zp_u_ne (fun h8 => by rw [h8.1] at hf; cases hf)).trans (zp_u_ne (fun h8 => by rw [h8.1, h8.2] at hf; cases hf))))
          obtain ⟨_, k1, K, rfl, k2, k3, k4⟩ := zt_keeps (L := L) (σ := σ) (d := d + 1) (xs := xs) (xv := Int32.ofInt (-1)) (by omega) (by decide) b4 hkC
          refine zw_ld (n := 1) (k := 0) (f := zp_isR) (pc' := 54) rfl rfl (zw_gt rfl rfl rfl) rfl rfl ?_
          refine zw_gR (q := 72) (pc' := 57) W rfl rfl rfl rfl (W.2 72 15 _ rfl) rfl ?_
          refine zw_s (pc' := 59) rfl rfl ?_
          refine zw_ld (n := 1) (k := 1) (f := zp_isI) (pc' := 60) rfl rfl (zw_gt rfl rfl rfl) rfl rfl ?_
          refine zw_imul (pc' := 61) rfl rfl ?_
          refine zw_s (pc' := 62) rfl rfl ?_
          refine zw_ld (n := 2) (k := 4) (f := zp_isI) (pc' := 64) rfl rfl zw_g1 rfl rfl ?_
          refine zw_imul (pc' := 65) rfl rfl ?_
          refine zw_iadd (pc' := 66) rfl rfl ?_
          refine zw_ld (n := 1) (k := 2) (f := zp_isI) (pc' := 67) rfl rfl (zw_gt rfl rfl rfl) rfl rfl ?_
          refine zw_is (q := 75) (pc' := 68) W rfl rfl (by decide) (⟨by omega, by show _ < ((128 : Nat) : Int); omega⟩) rfl ?_
          refine zw_ld (n := 1) (k := 0) (f := zp_isR) (pc' := 69) rfl rfl (zw_gt rfl rfl rfl) rfl rfl ?_
          refine zw_gR (q := 72) (pc' := 72) W rfl rfl rfl rfl (W.2 72 15 _ rfl) rfl ?_
          refine zw_s (pc' := 74) rfl rfl ?_
          refine zw_ld (n := 1) (k := 1) (f := zp_isI) (pc' := 75) rfl rfl (zw_gt rfl rfl rfl) rfl rfl ?_
          refine zw_imul (pc' := 76) rfl rfl ?_
          refine zw_s (pc' := 77) rfl rfl ?_
          refine zw_ld (n := 2) (k := 4) (f := zp_isI) (pc' := 79) rfl rfl zw_g1 rfl rfl ?_
          refine zw_imul (pc' := 80) rfl rfl ?_
          refine zw_iadd (pc' := 81) rfl rfl ?_
          refine zw_s (pc' := 82) rfl rfl ?_
          refine zw_iadd (pc' := 83) rfl rfl ?_
          refine zw_ld (n := 1) (k := 3) (f := zp_isI) (pc' := 84) rfl rfl (zw_gt rfl rfl rfl) rfl rfl ?_
          refine zw_is (q := 75) (pc' := 85) W rfl rfl (by decide) (⟨by omega, by show _ < ((128 : Nat) : Int); omega⟩) rfl ?_
          refine zw_ld (n := 1) (k := 0) (f := zp_isR) (pc' := 86) rfl rfl (zw_gt rfl rfl rfl) rfl rfl ?_
          refine zw_gR (q := 72) (pc' := 89) W rfl rfl rfl rfl (W.2 72 14 _ rfl) rfl ?_
          refine zw_s (pc' := 90) rfl rfl ?_
          refine zw_ld (n := 1) (k := 1) (f := zp_isI) (pc' := 91) rfl rfl (zw_gt rfl rfl rfl) rfl rfl ?_
          refine zw_imul (pc' := 92) rfl rfl ?_
          refine zw_s (pc' := 93) rfl rfl ?_
          refine zw_iadd (pc' := 94) rfl rfl ?_
          refine zw_ld (n := 2) (k := 4) (f := zp_isI) (pc' := 96) rfl rfl zw_g1 rfl rfl ?_
          refine zw_s (pc' := 97) rfl rfl ?_
          refine zw_iadd (pc' := 98) rfl rfl ?_
          refine zw_is (q := 74) (pc' := 99) W rfl rfl (by decide) (⟨by omega, by show _ < ((32 : Nat) : Int); omega⟩) rfl ?_
          rw [c3, c4, c6]
          refine zw_ld (n := 1) (k := 0) (f := zp_isR) (pc' := 100) rfl rfl (zw_gt rfl rfl rfl) rfl rfl ?_
          refine zw_ld (n := 1) (k := 1) (f := zp_isI) (pc' := 101) rfl rfl (zw_gt rfl rfl rfl) rfl rfl ?_
          refine zw_s (pc' := 102) rfl rfl ?_
          refine zw_cn (pc' := 105) (zw_cv (q := 72) (Y := zm_215) W.1 rfl rfl zm_215_t rfl rfl) rfl rfl rfl rfl rfl (k1) ?_
          refine zw_ld (n := 2) (k := 4) (f := zp_isI) (pc' := 107) rfl rfl zw_g1 rfl rfl ?_
          refine zw_s (pc' := 108) rfl rfl ?_
          refine zw_iadd (pc' := 109) rfl rfl ?_
          refine zw_ri rfl rfl ?_
          refine ⟨K, _, rfl, z0T_up k2 (zt_J hJ ?_ ?_ ?_ ?_ ?_ ?_ k3) ?_, zk_Fr_t F4 (zk_Fr_w rfl rfl k4)⟩
          · rw [zx_fe k4 8 rfl rfl rfl, J4 72 8 rfl (by decide)]
          · rw [zx_ae k4 78 (fun _ => rfl) rfl rfl]; exact funext (fun i => J4 78 i rfl (by decide))
          · rw [zx_ae k4 80 (fun _ => rfl) rfl rfl]; exact funext (fun i => J4 80 i rfl (by decide))
          · rw [zx_fe k4 81 rfl rfl rfl, J4 72 81 rfl (by decide)]
          · rw [zx_ae k4 101 (fun _ => rfl) rfl rfl]; exact funext (fun i => J4 101 i rfl (by decide))
          · rw [zx_ae k4 103 (fun _ => rfl) rfl rfl]; exact funext (fun i => J4 103 i rfl (by decide))
          · unfold z0R_cc
            rw [zx_fe k4 23 rfl rfl rfl, zx_fe k4 34 rfl rfl rfl, zx_fe k4 35 rfl rfl rfl]
            exact fun h9 => hcc h9
        · refine zw_c (pc' := 45) (zw_cs (Y := zm_185) rfl rfl zm_185_t) rfl rfl rfl rfl rfl (zq_within0 ht) ?_
          refine zw_bne1 (g := 53) (pc' := 48) rfl rfl rfl (rfl : _ = (0 : Int)) (fun h9 => absurd h9 (by decide)) (fun hb => ?_)
          refine zw_ld (n := 1) (k := 0) (f := zp_isR) (pc' := 49) rfl rfl (zw_gt rfl rfl rfl) rfl rfl ?_
          refine zw_c (pc' := 52) (zw_cv (q := 72) (Y := zm_214) W.1 rfl rfl zm_214_t rfl rfl) rfl rfl rfl rfl rfl (zq_refuses (H := zw_I H 72 0 (Int32.ofInt 0)) W) ?_
          refine zw_ri rfl rfl ?_
          exact ⟨_, _, rfl, z0t_ref B1, zk_Fr_I F1 rfl rfl⟩
      · refine zw_c (pc' := 35) (zw_cs (Y := zm_185) rfl rfl zm_185_t) rfl rfl rfl rfl rfl (zq_within0 hw) ?_
        refine zw_beq1 (g := 48) (pc' := 38) rfl rfl rfl (rfl : _ = (0 : Int)) (fun hb => ?_) (fun h9 => absurd h9 (by decide))
        refine zw_ld (n := 1) (k := 0) (f := zp_isR) (pc' := 49) rfl rfl (zw_gt rfl rfl rfl) rfl rfl ?_
        refine zw_c (pc' := 52) (zw_cv (q := 72) (Y := zm_214) W.1 rfl rfl zm_214_t rfl rfl) rfl rfl rfl rfl rfl (zq_refuses (H := zw_I H 72 0 (Int32.ofInt 0)) W) ?_
        refine zw_ri rfl rfl ?_
        exact ⟨_, _, rfl, z0t_ref B1, zk_Fr_I F1 rfl rfl⟩
  · refine zw_c (pc' := 10) (zw_cv (q := 72) (Y := zm_210) W.1 rfl rfl zm_210_t rfl rfl) rfl rfl rfl rfl rfl (zq_slate0 (H := zw_I H 72 0 (Int32.ofInt 0)) W h0 hs) ?_
    refine zw_bne1 (g := 15) (pc' := 13) rfl rfl rfl (rfl : _ = (0 : Int)) (fun h9 => absurd h9 (by decide)) (fun hb => ?_)
    refine zw_s (pc' := 14) rfl rfl ?_
    refine zw_ri rfl rfl ?_
    exact ⟨_, _, rfl, z0t_thr B1, zk_Fr_I F1 rfl rfl⟩
end
section
/-! ===== the reference once more, without the condition on what it reads (printed from the parts above) ===== -/
theorem z0t_image {L : Nat} {σ : Nat → Int32} {d : Nat} {H : zp_H} (hB : zk_Bs z0R zg zJ H) : ∃ X, zp_Call L σ (d + 2) 249 [.inr (.inr (some 73))] H X ∧ ∃ H1, X = (.inl none, H1) ∧ zk_Bs z0R zg zJ H1 ∧ zk_Fr zg [(72, 0), (72, 80), (72, 81)] [101, 102, 103] H H1 := by
  have b0 := z0T_dn hB
  have hJ := hB.2.2.2.2.2.2.2
  have hcc := z0R_cn hB
  have W := zT_Wd b0
  have a0 := zt_acts b0
  refine zw_met zm_249_t rfl rfl ?_
  refine zw_ld (n := 1) (k := 0) (f := zp_isR) (pc' := 1) rfl rfl rfl rfl rfl ?_
  refine zw_s (pc' := 2) rfl rfl ?_
  refine zw_pI (q := 72) (pc' := 5) W rfl rfl rfl rfl rfl rfl ?_
  refine zw_ld (n := 1) (k := 0) (f := zp_isR) (pc' := 6) rfl rfl rfl rfl rfl ?_
  refine zw_s (pc' := 7) rfl rfl ?_
  refine zw_pI (q := 72) (pc' := 10) W rfl rfl rfl rfl (rfl) rfl ?_
  refine zw_ld (n := 1) (k := 0) (f := zp_isR) (pc' := 11) rfl rfl rfl rfl rfl ?_
  refine zw_ld (n := 1) (k := 0) (f := zp_isR) (pc' := 12) rfl rfl rfl rfl rfl ?_
  refine zw_gI (q := 72) (pc' := 15) W rfl rfl rfl rfl (zw_ne (zw_ne rfl rfl) rfl) rfl ?_
  refine zw_pI (q := 72) (pc' := 18) W rfl rfl rfl rfl rfl rfl ?_
  refine zw_ld (n := 1) (k := 0) (f := zp_isR) (pc' := 19) rfl rfl rfl rfl rfl ?_
  refine zw_ld (n := 1) (k := 0) (f := zp_isR) (pc' := 20) rfl rfl rfl rfl rfl ?_
  refine zw_gR (q := 72) (pc' := 23) W rfl rfl rfl rfl (W.2 72 14 _ rfl) rfl ?_
  refine zw_ld (n := 1) (k := 0) (f := zp_isR) (pc' := 24) rfl rfl rfl rfl rfl ?_
  refine zw_gR (q := 72) (pc' := 27) W rfl rfl rfl rfl (W.2 72 82 _ rfl) rfl ?_
  refine zw_cn (pc' := 30) (zw_cv (q := 72) (Y := zm_204) W.1 rfl rfl zm_204_t rfl rfl) rfl rfl rfl rfl rfl (zc_copies (H := zw_I (zw_I (zw_I H 72 0 (Int32.ofInt 0)) 72 80 (Int32.ofInt 1)) 72 81 (H.2.1 72 62)) (q1 := 74) (q2 := 101) (n := 32) W rfl rfl (by decide) (by decide) rfl) ?_
  refine zw_ld (n := 1) (k := 0) (f := zp_isR) (pc' := 31) rfl rfl rfl rfl rfl ?_
  refine zw_ld (n := 1) (k := 0) (f := zp_isR) (pc' := 32) rfl rfl rfl rfl rfl ?_
  refine zw_gR (q := 72) (pc' := 35) W rfl rfl rfl rfl (W.2 72 15 _ rfl) rfl ?_
  refine zw_ld (n := 1) (k := 0) (f := zp_isR) (pc' := 36) rfl rfl rfl rfl rfl ?_
  refine zw_gR (q := 72) (pc' := 39) W rfl rfl rfl rfl (W.2 72 83 _ rfl) rfl ?_
  refine zw_cn (pc' := 42) (zw_cv (q := 72) (Y := zm_204) W.1 rfl rfl zm_204_t rfl rfl) rfl rfl rfl rfl rfl (zc_copies (H := zc_k (zw_I (zw_I (zw_I H 72 0 (Int32.ofInt 0)) 72 80 (Int32.ofInt 1)) 72 81 (H.2.1 72 62)) 74 101 32) (q1 := 75) (q2 := 102) (n := 128) W rfl rfl (by decide) (by decide) rfl) ?_
  refine zw_ld (n := 1) (k := 0) (f := zp_isR) (pc' := 43) rfl rfl rfl rfl rfl ?_
  refine zw_ld (n := 1) (k := 0) (f := zp_isR) (pc' := 44) rfl rfl rfl rfl rfl ?_
  refine zw_gR (q := 72) (pc' := 47) W rfl rfl rfl rfl (W.2 72 63 _ rfl) rfl ?_
  refine zw_ld (n := 1) (k := 0) (f := zp_isR) (pc' := 48) rfl rfl rfl rfl rfl ?_
  refine zw_gR (q := 72) (pc' := 51) W rfl rfl rfl rfl (W.2 72 84 _ rfl) rfl ?_
  refine zw_cn (pc' := 54) (zw_cv (q := 72) (Y := zm_204) W.1 rfl rfl zm_204_t rfl rfl) rfl rfl rfl rfl rfl (zc_copies (H := zc_k (zc_k (zw_I (zw_I (zw_I H 72 0 (Int32.ofInt 0)) 72 80 (Int32.ofInt 1)) 72 81 (H.2.1 72 62)) 74 101 32) 75 102 128) (q1 := 93) (q2 := 103) (n := 60) W rfl rfl (by decide) (by decide) rfl) ?_
  refine zw_rn rfl rfl ?_
  have b1 := zT_putf (k := 0) (x := Int32.ofInt 0) b0 (fun r hr => by cases hr) rfl trivial
  have b2 := zT_putf (k := 80) (x := Int32.ofInt 1) b1 (fun r hr => by cases hr; exact ⟨by decide, by decide⟩) rfl trivial
  have b3 := zT_putf (k := 81) (x := H.2.1 72 62) b2 (fun r hr => by cases hr; exact a0) rfl trivial
  have b4 := zc_B (q1 := 74) (q2 := 101) (n := 32) b3 rfl rfl rfl
  have b5 := zc_B (q1 := 75) (q2 := 102) (n := 128) b4 rfl rfl rfl
  have b6 := zc_B (q1 := 93) (q2 := 103) (n := 60) b5 rfl rfl rfl
  have f : ∀ p k, p ≠ 101 → p ≠ 102 → p ≠ 103 → ¬ (p = 72 ∧ (k = 0 ∨ k = 80 ∨ k = 81)) → (zc_k (zc_k (zc_k (zw_I (zw_I (zw_I H 72 0 (Int32.ofInt 0)) 72 80 (Int32.ofInt 1)) 72 81 (H.2.1 72 62)) 74 101 32) 75 102 128) 93 103 60).2.1 p k = H.2.1 p k := fun p k h1 h2 h3 h4 => (zc_ne h3).trans ((zc_ne h2).trans ((zc_ne h1).trans ((zp_u_ne (fun h8 => h4 ⟨h8.1, Or.inr (Or.inr h8.2)⟩)).trans ((zp_u_ne (fun h8 => h4 ⟨h8.1, Or.inr (Or.inl h8.2)⟩)).trans (zp_u_ne (fun h8 => h4 ⟨h8.1, Or.inl h8.2⟩))))))
  have g101 : ∀ i, i < 32 → (zc_k (zc_k (zc_k (zw_I (zw_I (zw_I H 72 0 (Int32.ofInt 0)) 72 80 (Int32.ofInt 1)) 72 81 (H.2.1 72 62)) 74 101 32) 75 102 128) 93 103 60).2.1 101 i = H.2.1 74 i := fun i hi => (zc_ne (by decide)).trans ((zc_ne (by decide)).trans ((zc_eq hi).trans (zw_ne (zw_ne (zw_ne rfl rfl) rfl) rfl)))
  have g103 : ∀ i, i < 60 → (zc_k (zc_k (zc_k (zw_I (zw_I (zw_I H 72 0 (Int32.ofInt 0)) 72 80 (Int32.ofInt 1)) 72 81 (H.2.1 72 62)) 74 101 32) 75 102 128) 93 103 60).2.1 103 i = H.2.1 93 i := fun i hi => (zc_eq hi).trans ((zc_ne (by decide)).trans ((zc_ne (by decide)).trans (zw_ne (zw_ne (zw_ne rfl rfl) rfl) rfl)))
  have g81 : (zc_k (zc_k (zc_k (zw_I (zw_I (zw_I H 72 0 (Int32.ofInt 0)) 72 80 (Int32.ofInt 1)) 72 81 (H.2.1 72 62)) 74 101 32) 75 102 128) 93 103 60).2.1 72 81 = H.2.1 72 62 := (zc_ne (by decide)).trans ((zc_ne (by decide)).trans ((zc_ne (by decide)).trans zw_eq))
  refine ⟨_, rfl, z0T_up b6 ⟨?_, ?_, ?_⟩ ?_, zc_F (zc_F (zc_F (zk_Fr_I (zk_Fr_I (zk_Fr_I (zk_Fr_r H) rfl rfl) rfl rfl) rfl rfl) rfl rfl) rfl rfl) rfl rfl⟩
  · have h := hJ.1
    unfold zJ_code at h ⊢
    rw [f 72 8 (by decide) (by decide) (by decide) (by decide), show (zc_k (zc_k (zc_k (zw_I (zw_I (zw_I H 72 0 (Int32.ofInt 0)) 72 80 (Int32.ofInt 1)) 72 81 (H.2.1 72 62)) 74 101 32) 75 102 128) 93 103 60).2.1 78 = H.2.1 78 from funext (fun i => f 78 i (by decide) (by decide) (by decide) (fun h => by cases h.1)), show (zc_k (zc_k (zc_k (zw_I (zw_I (zw_I H 72 0 (Int32.ofInt 0)) 72 80 (Int32.ofInt 1)) 72 81 (H.2.1 72 62)) 74 101 32) 75 102 128) 93 103 60).2.1 80 = H.2.1 80 from funext (fun i => f 80 i (by decide) (by decide) (by decide) (fun h => by cases h.1))]
    exact h
  · intro s h'
    have h := hJ.2.1 s h'
    rw [f 72 62 (by decide) (by decide) (by decide) (by decide), show (zc_k (zc_k (zc_k (zw_I (zw_I (zw_I H 72 0 (Int32.ofInt 0)) 72 80 (Int32.ofInt 1)) 72 81 (H.2.1 72 62)) 74 101 32) 75 102 128) 93 103 60).2.1 93 = H.2.1 93 from funext (fun i => f 93 i (by decide) (by decide) (by decide) (fun h => by cases h.1)), f 74 (4 * s + 2) (by decide) (by decide) (by decide) (fun h => by cases h.1)]
    exact h
  · intro s h'
    have h := hJ.2.1 s h'
    rw [g81, g101 (4 * s + 2) (by omega), zt_cnt_c (fun i hi => g103 i (by omega))]
    exact h
  · unfold z0R_cc
    rw [f 72 23 (by decide) (by decide) (by decide) (by decide), f 72 34 (by decide) (by decide) (by decide) (by decide), f 72 35 (by decide) (by decide) (by decide) (by decide)]
    exact hcc
theorem z0t_restore {L : Nat} {σ : Nat → Int32} {d : Nat} {H : zp_H} (hB : zk_Bs z0R zg zJ H) : ∃ X, zp_Call L σ (d + 2) 250 [.inr (.inr (some 73))] H X ∧ ∃ H1 v, X = (.inl (some (.inl v)), H1) ∧ zk_Bs z0R zg zJ H1 ∧ zk_Fr zg [(72, 0), (72, 62)] [74, 75, 93] H H1 := by
  have b0 := z0T_dn hB
  have hJ := hB.2.2.2.2.2.2.2
  have hcc := z0R_cn hB
  have W := zT_Wd b0
  have a0 := zT_fr1 b0 (k := 81) (r := (0, 30)) rfl rfl
  have a0 : 0 ≤ (H.2.1 72 81).toInt ∧ (H.2.1 72 81).toInt ≤ 30 := a0
  refine zw_met zm_250_t rfl rfl ?_
  refine zw_ld (n := 1) (k := 0) (f := zp_isR) (pc' := 1) rfl rfl rfl rfl rfl ?_
  refine zw_s (pc' := 2) rfl rfl ?_
  refine zw_pI (q := 72) (pc' := 5) W rfl rfl rfl rfl rfl rfl ?_
  refine zw_ld (n := 1) (k := 0) (f := zp_isR) (pc' := 6) rfl rfl rfl rfl rfl ?_
  refine zw_gI (q := 72) (pc' := 9) W rfl rfl rfl rfl (zw_ne rfl rfl) rfl ?_
  refine zw_bne1 (g := 14) (pc' := 12) rfl rfl rfl rfl (fun h0 => ?_) (fun h0 => ?_)
  · refine zw_ld (n := 1) (k := 0) (f := zp_isR) (pc' := 15) rfl rfl rfl rfl rfl ?_
    refine zw_ld (n := 1) (k := 0) (f := zp_isR) (pc' := 16) rfl rfl rfl rfl rfl ?_
    refine zw_gI (q := 72) (pc' := 19) W rfl rfl rfl rfl (zw_ne rfl rfl) rfl ?_
    refine zw_pI (q := 72) (pc' := 22) W rfl rfl rfl rfl rfl rfl ?_
    refine zw_ld (n := 1) (k := 0) (f := zp_isR) (pc' := 23) rfl rfl rfl rfl rfl ?_
    refine zw_ld (n := 1) (k := 0) (f := zp_isR) (pc' := 24) rfl rfl rfl rfl rfl ?_
    refine zw_gR (q := 72) (pc' := 27) W rfl rfl rfl rfl (W.2 72 82 _ rfl) rfl ?_
    refine zw_ld (n := 1) (k := 0) (f := zp_isR) (pc' := 28) rfl rfl rfl rfl rfl ?_
    refine zw_gR (q := 72) (pc' := 31) W rfl rfl rfl rfl (W.2 72 14 _ rfl) rfl ?_
    refine zw_cn (pc' := 34) (zw_cv (q := 72) (Y := zm_204) W.1 rfl rfl zm_204_t rfl rfl) rfl rfl rfl rfl rfl (zc_copies (H := zw_I (zw_I H 72 0 (Int32.ofInt 0)) 72 62 (H.2.1 72 81)) (q1 := 101) (q2 := 74) (n := 32) W rfl rfl (by decide) (by decide) rfl) ?_
    refine zw_ld (n := 1) (k := 0) (f := zp_isR) (pc' := 35) rfl rfl rfl rfl rfl ?_
    refine zw_ld (n := 1) (k := 0) (f := zp_isR) (pc' := 36) rfl rfl rfl rfl rfl ?_
    refine zw_gR (q := 72) (pc' := 39) W rfl rfl rfl rfl (W.2 72 83 _ rfl) rfl ?_
    refine zw_ld (n := 1) (k := 0) (f := zp_isR) (pc' := 40) rfl rfl rfl rfl rfl ?_
    refine zw_gR (q := 72) (pc' := 43) W rfl rfl rfl rfl (W.2 72 15 _ rfl) rfl ?_
    refine zw_cn (pc' := 46) (zw_cv (q := 72) (Y := zm_204) W.1 rfl rfl zm_204_t rfl rfl) rfl rfl rfl rfl rfl (zc_copies (H := zc_k (zw_I (zw_I H 72 0 (Int32.ofInt 0)) 72 62 (H.2.1 72 81)) 101 74 32) (q1 := 102) (q2 := 75) (n := 128) W rfl rfl (by decide) (by decide) rfl) ?_
    refine zw_ld (n := 1) (k := 0) (f := zp_isR) (pc' := 47) rfl rfl rfl rfl rfl ?_
    refine zw_ld (n := 1) (k := 0) (f := zp_isR) (pc' := 48) rfl rfl rfl rfl rfl ?_
    refine zw_gR (q := 72) (pc' := 51) W rfl rfl rfl rfl (W.2 72 84 _ rfl) rfl ?_
    refine zw_ld (n := 1) (k := 0) (f := zp_isR) (pc' := 52) rfl rfl rfl rfl rfl ?_
    refine zw_gR (q := 72) (pc' := 55) W rfl rfl rfl rfl (W.2 72 63 _ rfl) rfl ?_
    refine zw_cn (pc' := 58) (zw_cv (q := 72) (Y := zm_204) W.1 rfl rfl zm_204_t rfl rfl) rfl rfl rfl rfl rfl (zc_copies (H := zc_k (zc_k (zw_I (zw_I H 72 0 (Int32.ofInt 0)) 72 62 (H.2.1 72 81)) 101 74 32) 102 75 128) (q1 := 103) (q2 := 93) (n := 60) W rfl rfl (by decide) (by decide) rfl) ?_
    refine zw_s (pc' := 59) rfl rfl ?_
    refine zw_rz rfl rfl (by decide) ?_
    have b1 := zT_putf (k := 0) (x := Int32.ofInt 0) b0 (fun r hr => by cases hr) rfl trivial
    have b3 := zT_putf (k := 62) (x := H.2.1 72 81) b1 (fun r hr => by cases hr; exact a0) rfl trivial
    have b4 := zc_B (q1 := 101) (q2 := 74) (n := 32) b3 rfl rfl rfl
    have b5 := zc_B (q1 := 102) (q2 := 75) (n := 128) b4 rfl rfl rfl
    have b6 := zc_B (q1 := 103) (q2 := 93) (n := 60) b5 rfl rfl rfl
    have f : ∀ p k, p ≠ 74 → p ≠ 75 → p ≠ 93 → ¬ (p = 72 ∧ (k = 0 ∨ k = 62)) → (zc_k (zc_k (zc_k (zw_I (zw_I H 72 0 (Int32.ofInt 0)) 72 62 (H.2.1 72 81)) 101 74 32) 102 75 128) 103 93 60).2.1 p k = H.2.1 p k := fun p k h1 h2 h3 h4 => (zc_ne h3).trans ((zc_ne h2).trans ((zc_ne h1).trans ((zp_u_ne (fun h8 => h4 ⟨h8.1, Or.inr h8.2⟩)).trans (zp_u_ne (fun h8 => h4 ⟨h8.1, Or.inl h8.2⟩)))))
    have g74 : ∀ i, i < 32 → (zc_k (zc_k (zc_k (zw_I (zw_I H 72 0 (Int32.ofInt 0)) 72 62 (H.2.1 72 81)) 101 74 32) 102 75 128) 103 93 60).2.1 74 i = H.2.1 101 i := fun i hi => (zc_ne (by decide)).trans ((zc_ne (by decide)).trans ((zc_eq hi).trans (zw_ne (zw_ne rfl rfl) rfl)))
    have g93 : ∀ i, i < 60 → (zc_k (zc_k (zc_k (zw_I (zw_I H 72 0 (Int32.ofInt 0)) 72 62 (H.2.1 72 81)) 101 74 32) 102 75 128) 103 93 60).2.1 93 i = H.2.1 103 i := fun i hi => (zc_eq hi).trans ((zc_ne (by decide)).trans ((zc_ne (by decide)).trans (zw_ne (zw_ne rfl rfl) rfl)))
    have g62 : (zc_k (zc_k (zc_k (zw_I (zw_I H 72 0 (Int32.ofInt 0)) 72 62 (H.2.1 72 81)) 101 74 32) 102 75 128) 103 93 60).2.1 72 62 = H.2.1 72 81 := (zc_ne (by decide)).trans ((zc_ne (by decide)).trans ((zc_ne (by decide)).trans zw_eq))
    refine ⟨_, _, rfl, z0T_up b6 ⟨?_, ?_, ?_⟩ ?_, zc_F (zc_F (zc_F (zk_Fr_I (zk_Fr_I (zk_Fr_r H) rfl rfl) rfl rfl) rfl rfl) rfl rfl) rfl rfl⟩
    · have h := hJ.1
      unfold zJ_code at h ⊢
      rw [f 72 8 (by decide) (by decide) (by decide) (by decide), show (zc_k (zc_k (zc_k (zw_I (zw_I H 72 0 (Int32.ofInt 0)) 72 62 (H.2.1 72 81)) 101 74 32) 102 75 128) 103 93 60).2.1 78 = H.2.1 78 from funext (fun i => f 78 i (by decide) (by decide) (by decide) (fun h => by cases h.1)), show (zc_k (zc_k (zc_k (zw_I (zw_I H 72 0 (Int32.ofInt 0)) 72 62 (H.2.1 72 81)) 101 74 32) 102 75 128) 103 93 60).2.1 80 = H.2.1 80 from funext (fun i => f 80 i (by decide) (by decide) (by decide) (fun h => by cases h.1))]
      exact h
    · intro s h'
      have h := hJ.2.2 s h'
      rw [g62, g74 (4 * s + 2) (by omega), zt_cnt_c (fun i hi => g93 i (by omega))]
      exact h
    · intro s h'
      have h := hJ.2.2 s h'
      rw [f 72 81 (by decide) (by decide) (by decide) (by decide), show (zc_k (zc_k (zc_k (zw_I (zw_I H 72 0 (Int32.ofInt 0)) 72 62 (H.2.1 72 81)) 101 74 32) 102 75 128) 103 93 60).2.1 103 = H.2.1 103 from funext (fun i => f 103 i (by decide) (by decide) (by decide) (fun h => by cases h.1)), f 101 (4 * s + 2) (by decide) (by decide) (by decide) (fun h => by cases h.1)]
      exact h
    · unfold z0R_cc
      rw [f 72 23 (by decide) (by decide) (by decide) (by decide), f 72 34 (by decide) (by decide) (by decide) (by decide), f 72 35 (by decide) (by decide) (by decide) (by decide)]
      exact hcc
  · refine zw_s (pc' := 13) rfl rfl ?_
    refine zw_rz rfl rfl (by decide) ?_
    exact ⟨_, _, rfl, z0t_thr hB, zk_Fr_I (zk_Fr_r H) rfl rfl⟩
end
section
/-! ===== the reference once more, without the condition on what it reads (printed from the parts above) ===== -/
theorem z0rt_b : zk_chk z0R zR_fz [] [] 5000 zr_b = true := by decide +kernel
theorem z0t_bits {L : Nat} {σ : Nat → Int32} {d : Nat} {H : zp_H} {x : Int32} (h : zk_Bs z0R zg zJ H) : ∃ H1 v, zp_Call L σ (d + 1) 217 [.inl x] H (.inl (some (.inl v)), H1) ∧ zk_Bs z0R zg zJ H1 ∧ zk_Fr zg [] [] H H1 := by
  have hct : zk_Ct L σ z0R zg zJ zr_b := zk_chk_ok z0R_W (fun _ h => absurd h List.not_mem_nil) z0rt_b
  obtain ⟨X, x1, x2, x3, o, o1, o2, o3, o4⟩ := hct (d + 1) (Nat.le_add_left 1 d) [.inl x] H ⟨zl_full x, trivial⟩ h (fun f hf => absurd hf List.not_mem_nil)
  rcases List.mem_cons.mp o1 with rfl | o1
  · obtain ⟨X1, X2⟩ := X
    obtain ⟨v, e, _⟩ := zk_rv_i o2
    have e : X1 = .inl (some (.inl v)) := e
    subst e
    exact ⟨X2, v, x1, x2, x3⟩
  · exact absurd o1 List.not_mem_nil
/-- a mark is rubbed -/
theorem z0t_rb {H : zp_H} {s : Nat} {x : Int32} (hB : zk_Bs z0R zg zJ H) (hs : s < 8) (hx : 0 ≤ x.toInt ∧ x.toInt ≤ 255) : zk_Bs z0R zg zJ (zw_I H 74 (4 * s + 3) (zp_nar 0 x)) := by
  have hJ := hB.2.2.2.2.2.2.2
  have b1 := zT_puta (p := 74) (j := 4 * s + 3) (x := zp_nar 0 x) (t := 0) (n := 32) (z0T_dn hB) rfl (fun r hr => by
    have hr : [((0 : Int), (63 : Int)), (-2147483648, 2147483647), (0, 8), (0, 255)][(4 * s + 3) % 4]? = some r := hr
    rw [show (4 * s + 3) % 4 = 3 by omega] at hr
    cases hr
    exact hx) trivial
  refine z0T_up b1 (zt_J hJ rfl rfl rfl rfl rfl rfl ?_) (fun h9 => z0R_cn (H := H) hB h9)
  intro s' h'
  have e : (zw_I H 74 (4 * s + 3) (zp_nar 0 x)).2.1 74 (4 * s' + 2) = H.2.1 74 (4 * s' + 2) := zp_u_ne (fun h8 => by have := h8.2; omega)
  rw [e]
  exact hJ.2.1 s' h'
theorem z0t_rbL {L : Nat} {σ : Nat → Int32} {d s : Nat} {H0 : zp_H} {xs xc : Int32} (hs : xs.toInt = (s : Int)) (hs8 : s < 8) : ∀ (n : Nat) (H : zp_H) (lv : zp_LV) (xi k : Int32), zk_Bs z0R zg zJ H → zk_Fr zg zt_wM zt_wA H0 H → zp_get lv 0 = some (.inr (.inr (some 73))) → zp_get lv 1 = some (.inl xs) → zp_get lv 3 = some (.inl xc) → zp_get lv 4 = some (.inl xi) → zp_get lv 5 = some (.inl k) → 0 ≤ k.toInt → (8 - k.toInt).toNat ≤ n → zs_Safe L σ (z0t_P H0) zm_216 [] (d + 2) (51, lv, [], H, (0, 0)) := by
  intro n
  induction n with
  | zero =>
    intro H lv xi k hB hF l0 l1 l3 l4 l5 hk hn
    have W := zR_Wd (z0R_dn hB)
    have m0 := zt_s2 (z0T_dn hB) (k := s) hs8
    have r0 := zt_s3 (z0T_dn hB) (k := s) hs8
    have a5 : (Int32.ofInt 4 * xs).toInt = 4 * xs.toInt := zt_mul (by decide) (by omega)
    have a6 : (Int32.ofInt 4 * xs + Int32.ofInt 3).toInt = 4 * xs.toInt + 3 := by rw [zt_add (by decide) (by omega), a5]
    have c6 : (Int32.ofInt 4 * xs + Int32.ofInt 3).toInt.toNat = 4 * s + 3 := by omega
    have em : (4 * xs.toInt.toNat + 2) = 4 * s + 2 := by omega
    refine zw_ld (n := 2) (k := 5) (f := zp_isI) (pc' := 53) rfl rfl l5 rfl rfl ?_
    refine zw_ld (n := 1) (k := 0) (f := zp_isR) (pc' := 54) rfl rfl l0 rfl rfl ?_
    refine zw_ld (n := 1) (k := 1) (f := zp_isI) (pc' := 55) rfl rfl l1 rfl rfl ?_
    refine zw_c (pc' := 58) (zw_cv (q := 72) (Y := zm_212) W.1 rfl rfl zm_212_t rfl rfl) rfl rfl rfl rfl rfl (zq_marks W (by omega)) ?_
    rw [em]
    refine zw_bge2 (g := 112) (pc' := 61) rfl rfl rfl rfl rfl (fun hb => ?_) (fun hb => ?_)
    · refine zw_ld (n := 1) (k := 0) (f := zp_isR) (pc' := 113) rfl rfl l0 rfl rfl ?_
      refine zw_gR (q := 72) (pc' := 116) W rfl rfl rfl rfl (W.2 72 14 _ rfl) rfl ?_
      refine zw_s (pc' := 117) rfl rfl ?_
      refine zw_ld (n := 1) (k := 1) (f := zp_isI) (pc' := 118) rfl rfl l1 rfl rfl ?_
      refine zw_imul (pc' := 119) rfl rfl ?_
      refine zw_s (pc' := 120) rfl rfl ?_
      refine zw_iadd (pc' := 121) rfl rfl ?_
      refine zw_ia (q := 74) (pc' := 122) W rfl rfl (by decide) (⟨by omega, by show _ < ((32 : Nat) : Int); omega⟩) rfl rfl ?_
      obtain ⟨K, v, c1, c2, c3⟩ := z0t_bits (L := L) (σ := σ) (d := d + 1) (x := H.2.1 74 (Int32.ofInt 4 * xs + Int32.ofInt 3).toInt.toNat) hB
      refine zw_c (pc' := 125) (zw_cs (Y := zm_217) rfl rfl zm_217_t) rfl rfl rfl rfl rfl (c1) ?_
      refine zw_ri rfl rfl ?_
      exact ⟨K, v, rfl, c2, zk_Fr_t hF (zk_Fr_w rfl rfl c3)⟩
    · omega
  | succ n ih =>
    intro H lv xi k hB hF l0 l1 l3 l4 l5 hk hn
    have W := zR_Wd (z0R_dn hB)
    have m0 := zt_s2 (z0T_dn hB) (k := s) hs8
    have r0 := zt_s3 (z0T_dn hB) (k := s) hs8
    have a5 : (Int32.ofInt 4 * xs).toInt = 4 * xs.toInt := zt_mul (by decide) (by omega)
    have a6 : (Int32.ofInt 4 * xs + Int32.ofInt 3).toInt = 4 * xs.toInt + 3 := by rw [zt_add (by decide) (by omega), a5]
    have c6 : (Int32.ofInt 4 * xs + Int32.ofInt 3).toInt.toNat = 4 * s + 3 := by omega
    have em : (4 * xs.toInt.toNat + 2) = 4 * s + 2 := by omega
    refine zw_ld (n := 2) (k := 5) (f := zp_isI) (pc' := 53) rfl rfl l5 rfl rfl ?_
    refine zw_ld (n := 1) (k := 0) (f := zp_isR) (pc' := 54) rfl rfl l0 rfl rfl ?_
    refine zw_ld (n := 1) (k := 1) (f := zp_isI) (pc' := 55) rfl rfl l1 rfl rfl ?_
    refine zw_c (pc' := 58) (zw_cv (q := 72) (Y := zm_212) W.1 rfl rfl zm_212_t rfl rfl) rfl rfl rfl rfl rfl (zq_marks W (by omega)) ?_
    rw [em]
    refine zw_bge2 (g := 112) (pc' := 61) rfl rfl rfl rfl rfl (fun hb => ?_) (fun hb => ?_)
    · refine zw_ld (n := 1) (k := 0) (f := zp_isR) (pc' := 113) rfl rfl l0 rfl rfl ?_
      refine zw_gR (q := 72) (pc' := 116) W rfl rfl rfl rfl (W.2 72 14 _ rfl) rfl ?_
      refine zw_s (pc' := 117) rfl rfl ?_
      refine zw_ld (n := 1) (k := 1) (f := zp_isI) (pc' := 118) rfl rfl l1 rfl rfl ?_
      refine zw_imul (pc' := 119) rfl rfl ?_
      refine zw_s (pc' := 120) rfl rfl ?_
      refine zw_iadd (pc' := 121) rfl rfl ?_
      refine zw_ia (q := 74) (pc' := 122) W rfl rfl (by decide) (⟨by omega, by show _ < ((32 : Nat) : Int); omega⟩) rfl rfl ?_
      obtain ⟨K, v, c1, c2, c3⟩ := z0t_bits (L := L) (σ := σ) (d := d + 1) (x := H.2.1 74 (Int32.ofInt 4 * xs + Int32.ofInt 3).toInt.toNat) hB
      refine zw_c (pc' := 125) (zw_cs (Y := zm_217) rfl rfl zm_217_t) rfl rfl rfl rfl rfl (c1) ?_
      refine zw_ri rfl rfl ?_
      exact ⟨K, v, rfl, c2, zk_Fr_t hF (zk_Fr_w rfl rfl c3)⟩
    · refine zw_ld (n := 2) (k := 4) (f := zp_isI) (pc' := 63) rfl rfl l4 rfl rfl ?_
      refine zw_s (pc' := 66) rfl rfl ?_
      refine zw_imul (pc' := 67) rfl rfl ?_
      refine zw_s (pc' := 70) rfl rfl ?_
      refine zw_iadd (pc' := 71) rfl rfl ?_
      refine zw_st (n := 2) (k := 4) (f := zp_isI) (pc' := 73) rfl rfl rfl rfl rfl ?_
      refine zw_ld (n := 2) (k := 4) (f := zp_isI) (pc' := 75) rfl rfl zw_g1 rfl rfl ?_
      refine zw_s (pc' := 77) rfl rfl ?_
      refine zw_ishr (pc' := 78) rfl rfl ?_
      refine zw_s (pc' := 81) rfl rfl ?_
      refine zw_iand (pc' := 82) rfl rfl ?_
      refine zw_s (pc' := 84) rfl rfl ?_
      refine zw_rem (pc' := 85) rfl (by decide) rfl ?_
      refine zw_ld (n := 1) (k := 3) (f := zp_isI) (pc' := 86) rfl rfl (zw_gt l3 rfl rfl) rfl rfl ?_
      refine zw_bge2 (g := 106) (pc' := 89) rfl rfl rfl rfl rfl (fun hc => ?_) (fun hc => ?_)
      · have e1 : (k + Int32.ofInt 1).toInt = k.toInt + 1 := zw_p1 (by omega)
        refine zw_ii (pc' := 109) rfl (zw_gt l5 rfl rfl) rfl rfl ?_
        refine zw_s (pc' := 51) rfl rfl ?_
        exact ih H _ _ _ hB hF (zw_gt (zw_gt l0 rfl rfl) rfl rfl) (zw_gt (zw_gt l1 rfl rfl) rfl rfl) (zw_gt (zw_gt l3 rfl rfl) rfl rfl) (zw_gt zw_g1 rfl rfl) zw_g1 (by omega) (by omega)
      · have e1 : (k + Int32.ofInt 1).toInt = k.toInt + 1 := zw_p1 (by omega)
        have sh : (Int32.ofInt 1 <<< (k &&& 31)).toInt = ((2 ^ k.toInt.toNat : Nat) : Int) := zn_shl (by omega) (by omega)
        have p2 : (2 ^ k.toInt.toNat : Nat) ≤ 2 ^ 7 := Nat.pow_le_pow_right (by decide) (by omega)
        have orr := zn_or (x := H.2.1 74 (4 * s + 3)) (y := Int32.ofInt 1 <<< (k &&& 31)) (k := 8) (by decide) r0.1 (by rw [sh]; exact Int.natCast_nonneg _) (by have : ((2 ^ 8 : Nat) : Int) = 256 := rfl; omega) (by rw [sh]; have : ((2 ^ 8 : Nat) : Int) = 256 := rfl; have : (2 ^ 7 : Nat) = 128 := rfl; omega)
        have o8 : ((2 ^ 8 : Nat) : Int) = 256 := rfl
        have hB2 := z0t_rb (s := s) (x := H.2.1 74 (4 * s + 3) ||| (Int32.ofInt 1 <<< (k &&& 31))) hB hs8 (by omega)
        refine zw_ld (n := 1) (k := 0) (f := zp_isR) (pc' := 90) rfl rfl (zw_gt l0 rfl rfl) rfl rfl ?_
        refine zw_gR (q := 72) (pc' := 93) W rfl rfl rfl rfl (W.2 72 14 _ rfl) rfl ?_
        refine zw_s (pc' := 94) rfl rfl ?_
        refine zw_ld (n := 1) (k := 1) (f := zp_isI) (pc' := 95) rfl rfl (zw_gt l1 rfl rfl) rfl rfl ?_
        refine zw_imul (pc' := 96) rfl rfl ?_
        refine zw_s (pc' := 97) rfl rfl ?_
        refine zw_iadd (pc' := 98) rfl rfl ?_
        refine zw_s (pc' := 99) rfl rfl ?_
        refine zw_ia (q := 74) (pc' := 100) W rfl rfl (by decide) (⟨by omega, by show _ < ((32 : Nat) : Int); omega⟩) rfl rfl ?_
        refine zw_s (pc' := 101) rfl rfl ?_
        refine zw_ld (n := 2) (k := 5) (f := zp_isI) (pc' := 103) rfl rfl (zw_gt l5 rfl rfl) rfl rfl ?_
        refine zw_ishl (pc' := 104) rfl rfl ?_
        refine zw_ior (pc' := 105) rfl rfl ?_
        refine zw_is (q := 74) (pc' := 106) W rfl rfl (by decide) (⟨by omega, by show _ < ((32 : Nat) : Int); omega⟩) rfl ?_
        rw [c6]
        refine zw_ii (pc' := 109) rfl (zw_gt l5 rfl rfl) rfl rfl ?_
        refine zw_s (pc' := 51) rfl rfl ?_
        exact ih _ _ _ _ hB2 (zk_Fr_I hF rfl rfl) (zw_gt (zw_gt l0 rfl rfl) rfl rfl) (zw_gt (zw_gt l1 rfl rfl) rfl rfl) (zw_gt (zw_gt l3 rfl rfl) rfl rfl) (zw_gt zw_g1 rfl rfl) zw_g1 (by omega) (by omega)
theorem z0t_rub {L : Nat} {σ : Nat → Int32} {d : Nat} {H : zp_H} {xs xd xc : Int32} (hB : zk_Bs z0R zg zJ H) : ∃ X, zp_Call L σ (d + 3) 216 [.inr (.inr (some 73)), .inl xs, .inl xd, .inl xc] H X ∧ z0t_P H X := by
  have W := zR_Wd (z0R_dn hB)
  have hJ := hB.2.2.2.2.2.2.2
  have hcc := z0R_cn hB
  have sl := zR_fr1 (z0R_dn hB) (k := 5) (r := (0, 8)) rfl rfl
  have sl : 0 ≤ (H.2.1 72 5).toInt ∧ (H.2.1 72 5).toInt ≤ 8 := sl
  have B1 := z0t_thr (x := Int32.ofInt 0) hB
  have F1 : zk_Fr zg zt_wM zt_wA H (zw_I H 72 0 (Int32.ofInt 0)) := zk_Fr_I (zk_Fr_r H) rfl rfl
  have t1 : (zw_I H 72 0 (Int32.ofInt 0)).2.1 72 0 = Int32.ofInt 0 := zw_eq
  have h0 : ((zw_I H 72 0 (Int32.ofInt 0)).2.1 72 0).toInt = 0 := by rw [t1]; rfl
  refine zw_met zm_216_t rfl rfl ?_
  refine zw_ld (n := 1) (k := 0) (f := zp_isR) (pc' := 1) rfl rfl rfl rfl rfl ?_
  refine zw_s (pc' := 2) rfl rfl ?_
  refine zw_pI (q := 72) (pc' := 5) W rfl rfl rfl rfl rfl rfl ?_
  refine zw_ld (n := 1) (k := 0) (f := zp_isR) (pc' := 6) rfl rfl rfl rfl rfl ?_
  refine zw_ld (n := 1) (k := 1) (f := zp_isI) (pc' := 7) rfl rfl rfl rfl rfl ?_
  by_cases hs : 0 ≤ xs.toInt ∧ xs.toInt < (H.2.1 72 5).toInt
  · refine zw_c (pc' := 10) (zw_cv (q := 72) (Y := zm_210) W.1 rfl rfl zm_210_t rfl rfl) rfl rfl rfl rfl rfl (zq_slate1 (H := zw_I H 72 0 (Int32.ofInt 0)) W h0 hs) ?_
    refine zw_bne1 (g := 15) (pc' := 13) rfl rfl rfl (rfl : _ = (1 : Int)) (fun hb => ?_) (fun h9 => absurd h9 (by decide))
    refine zw_ld (n := 1) (k := 3) (f := zp_isI) (pc' := 16) rfl rfl rfl rfl rfl ?_
    refine zw_s (pc' := 17) rfl rfl ?_
    refine zw_s (pc' := 19) rfl rfl ?_
    by_cases hc : (Int32.ofInt 0).toInt ≤ xc.toInt ∧ xc.toInt ≤ (Int32.ofInt 100).toInt
    · refine zw_c (pc' := 22) (zw_cs (Y := zm_185) rfl rfl zm_185_t) rfl rfl rfl rfl rfl (zq_within1 hc) ?_
      refine zw_bne1 (g := 30) (pc' := 25) rfl rfl rfl (rfl : _ = (1 : Int)) (fun hb => ?_) (fun h9 => absurd h9 (by decide))
      obtain ⟨s, hss⟩ : ∃ s : Nat, xs.toInt = (s : Int) := ⟨xs.toInt.toNat, by omega⟩
      have a5 : (Int32.ofInt 4 * xs).toInt = 4 * xs.toInt := zt_mul (by decide) (by omega)
      have a6 : (Int32.ofInt 4 * xs + Int32.ofInt 3).toInt = 4 * xs.toInt + 3 := by rw [zt_add (by decide) (by omega), a5]
      have c6 : (Int32.ofInt 4 * xs + Int32.ofInt 3).toInt.toNat = 4 * s + 3 := by omega
      have r0 := zt_s3 (z0T_dn hB) (k := s) (by omega)
      have hkC : zt_kC (zw_I H 72 0 (Int32.ofInt 0)) xs.toInt (H.2.1 74 (4 * s + 3)).toInt := by
        intro s' h'
        have hc := hJ.2.1 s' h'
        rw [if_neg (fun h9 => by have := h9.2; omega)]
        show ((zr_cnt (H.2.1 93) s' (H.2.1 72 62).toInt.toNat : Nat) : Int) + 0 ≤ (H.2.1 74 (4 * s' + 2)).toInt
        omega
      obtain ⟨_, k1, K, rfl, k2, k3, k4⟩ := zt_keeps (L := L) (σ := σ) (d := d + 1) (xs := xs) (xv := H.2.1 74 (4 * s + 3)) (by omega) (by omega) (z0T_dn B1) hkC
      have hBK : zk_Bs z0R zg zJ K := by
        refine z0T_up k2 (zt_J hJ ?_ ?_ ?_ ?_ ?_ ?_ k3) ?_
        · rw [zx_fe k4 8 rfl rfl rfl]; rfl
        · rw [zx_ae k4 78 (fun _ => rfl) rfl rfl]; rfl
        · rw [zx_ae k4 80 (fun _ => rfl) rfl rfl]; rfl
        · rw [zx_fe k4 81 rfl rfl rfl]; rfl
        · rw [zx_ae k4 101 (fun _ => rfl) rfl rfl]; rfl
        · rw [zx_ae k4 103 (fun _ => rfl) rfl rfl]; rfl
        · unfold z0R_cc
          rw [zx_fe k4 23 rfl rfl rfl, zx_fe k4 34 rfl rfl rfl, zx_fe k4 35 rfl rfl rfl]
          exact fun h9 => hcc h9
      refine zw_ld (n := 1) (k := 0) (f := zp_isR) (pc' := 31) rfl rfl rfl rfl rfl ?_
      refine zw_ld (n := 1) (k := 1) (f := zp_isI) (pc' := 32) rfl rfl rfl rfl rfl ?_
      refine zw_ld (n := 1) (k := 0) (f := zp_isR) (pc' := 33) rfl rfl rfl rfl rfl ?_
      refine zw_gR (q := 72) (pc' := 36) W rfl rfl rfl rfl (W.2 72 14 _ rfl) rfl ?_
      refine zw_s (pc' := 37) rfl rfl ?_
      refine zw_ld (n := 1) (k := 1) (f := zp_isI) (pc' := 38) rfl rfl rfl rfl rfl ?_
      refine zw_imul (pc' := 39) rfl rfl ?_
      refine zw_s (pc' := 40) rfl rfl ?_
      refine zw_iadd (pc' := 41) rfl rfl ?_
      refine zw_ia (q := 74) (pc' := 42) W rfl rfl (by decide) (⟨by omega, by show _ < ((32 : Nat) : Int); omega⟩) (zw_ne rfl rfl) rfl ?_
      rw [c6]
      refine zw_cn (pc' := 45) (zw_cv (q := 72) (Y := zm_215) W.1 rfl rfl zm_215_t rfl rfl) rfl rfl rfl rfl rfl (k1) ?_
      refine zw_ld (n := 1) (k := 2) (f := zp_isI) (pc' := 46) rfl rfl rfl rfl rfl ?_
      refine zw_st (n := 2) (k := 4) (f := zp_isI) (pc' := 48) rfl rfl rfl rfl rfl ?_
      refine zw_s (pc' := 49) rfl rfl ?_
      refine zw_st (n := 2) (k := 5) (f := zp_isI) (pc' := 51) rfl rfl rfl rfl rfl ?_
      exact z0t_rbL hss (by omega) 8 K _ _ _ hBK (zk_Fr_t F1 (zk_Fr_w rfl rfl k4)) (zw_gt (zw_gt rfl rfl rfl) rfl rfl) (zw_gt (zw_gt rfl rfl rfl) rfl rfl) (zw_gt (zw_gt rfl rfl rfl) rfl rfl) (zw_gt zw_g1 rfl rfl) zw_g1 (by decide) (by decide)
    · refine zw_c (pc' := 22) (zw_cs (Y := zm_185) rfl rfl zm_185_t) rfl rfl rfl rfl rfl (zq_within0 hc) ?_
      refine zw_bne1 (g := 30) (pc' := 25) rfl rfl rfl (rfl : _ = (0 : Int)) (fun h9 => absurd h9 (by decide)) (fun hb => ?_)
      refine zw_ld (n := 1) (k := 0) (f := zp_isR) (pc' := 26) rfl rfl rfl rfl rfl ?_
      refine zw_c (pc' := 29) (zw_cv (q := 72) (Y := zm_214) W.1 rfl rfl zm_214_t rfl rfl) rfl rfl rfl rfl rfl (zq_refuses (H := zw_I H 72 0 (Int32.ofInt 0)) W) ?_
      refine zw_ri rfl rfl ?_
      exact ⟨_, _, rfl, z0t_ref B1, zk_Fr_I F1 rfl rfl⟩
  · refine zw_c (pc' := 10) (zw_cv (q := 72) (Y := zm_210) W.1 rfl rfl zm_210_t rfl rfl) rfl rfl rfl rfl rfl (zq_slate0 (H := zw_I H 72 0 (Int32.ofInt 0)) W h0 hs) ?_
    refine zw_bne1 (g := 15) (pc' := 13) rfl rfl rfl (rfl : _ = (0 : Int)) (fun h9 => absurd h9 (by decide)) (fun hb => ?_)
    refine zw_s (pc' := 14) rfl rfl ?_
    refine zw_ri rfl rfl ?_
    exact ⟨_, _, rfl, z0t_thr B1, zk_Fr_I F1 rfl rfl⟩
end
