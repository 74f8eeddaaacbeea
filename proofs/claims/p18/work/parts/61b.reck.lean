/-! ===== the reference reckons a code; a pilot's way ===== -/
theorem zk_rv_i {r : Int × Int} {x : Option zp_V ⊕ Nat} (h : zk_rv (.inl (some (.inl r))) x) : ∃ v : Int32, x = .inl (some (.inl v)) ∧ zk_in v.toInt r := by
  match x, h with
  | .inl (some (.inl v)), h => exact ⟨v, rfl, h⟩
theorem zl_full (x : Int32) : zk_in x.toInt (-2147483648, 2147483647) := ⟨Int32.le_toInt _, Int32.toInt_le _⟩
theorem zl_valueOf {L : Nat} {σ : Nat → Int32} {d : Nat} {H : zp_H} {x y z : Int32} {u : Int64} (h : zk_Bs zR zg zJ H) (hy : 0 ≤ y.toInt ∧ y.toInt ≤ 63) : ∃ H1 v, zp_Call L σ (d + 4) 234 [.inr (.inr (some 73)), .inl x, .inl y, .inl z, .inr (.inl u)] H (.inl (some (.inl v)), H1) ∧ zk_Bs zR zg zJ H1 ∧ zk_Fr zg [] [] H H1 := by
  have hct : zk_Ct L σ zR zg zJ zr_v := zk_chk_ok zR_W (List.forall_mem_cons.mpr ⟨zk_chk_ok zR_W (fun _ h => absurd h List.not_mem_nil) zrt_e6, fun _ h => absurd h List.not_mem_nil⟩) zrt_v
  obtain ⟨X, x1, x2, x3, o, o1, o2, o3, o4⟩ := hct (d + 4) (Nat.le_add_left 4 d) [.inr (.inr (some 73)), .inl x, .inl y, .inl z, .inr (.inl u)] H ⟨rfl, zl_full x, hy, zl_full z, trivial, trivial⟩ h (fun f hf => absurd hf List.not_mem_nil)
  rcases List.mem_cons.mp o1 with rfl | o1
  · obtain ⟨X1, X2⟩ := X
    obtain ⟨v, e, _⟩ := zk_rv_i o2
    have e : X1 = .inl (some (.inl v)) := e
    subst e
    exact ⟨X2, v, x1, x2, x3⟩
  · exact absurd o1 List.not_mem_nil
theorem zl_works {L : Nat} {σ : Nat → Int32} {d : Nat} {H : zp_H} {x y z : Int32} (h : zk_Bs zR zg zJ H) : ∃ H1 v, zp_Call L σ (d + 1) 235 [.inl x, .inl y, .inl z] H (.inl (some (.inl v)), H1) ∧ zk_Bs zR zg zJ H1 ∧ zk_Fr zg [] [] H H1 := by
  have hct : zk_Ct L σ zR zg zJ zr_w := zk_chk_ok zR_W (fun _ h => absurd h List.not_mem_nil) zrt_w
  obtain ⟨X, x1, x2, x3, o, o1, o2, o3, o4⟩ := hct (d + 1) (Nat.le_add_left 1 d) [.inl x, .inl y, .inl z] H ⟨zl_full x, zl_full y, zl_full z, trivial⟩ h (fun f hf => absurd hf List.not_mem_nil)
  rcases List.mem_cons.mp o1 with rfl | o1
  · obtain ⟨X1, X2⟩ := X
    obtain ⟨v, e, _⟩ := zk_rv_i o2
    have e : X1 = .inl (some (.inl v)) := e
    subst e
    exact ⟨X2, v, x1, x2, x3⟩
  · exact absurd o1 List.not_mem_nil
theorem zw_iiy {L : Nat} {σ : Nat → Int32} {P : zp_X → Prop} {M : za_MI} {fs : List zs_F} {d pc pc' k : Nat} {lv : zp_LV} {st : List zp_V} {H : zp_H} {c : Nat × Nat} {x y : Int32} {dd : Int} (hi : za_fe (za_is M) pc = some (.iinc k dd)) (hv : zp_get lv k = some (.inl x)) (hk : Nat.blt k (za_nL M) = true) (hp : pc + 3 = pc') (hy : x + Int32.ofInt dd = y) (hS : zs_Safe L σ P M fs d (pc', zp_st1 lv k (.inl y), st, H, c)) : zs_Safe L σ P M fs d (pc, lv, st, H, c) := by
  subst hy
  exact zw_ii hi hv hk hp hS
/-- the pile is written -/
theorem zl_pile {H0 H : zp_H} {j : Nat} {x : Int32} (h : zk_Bs zR zg zJ H) (hF : zk_Fr zg [] [97] H0 H) : zk_Bs zR zg zJ (zw_I H 97 j (zp_nar 0 x)) ∧ zk_Fr zg [] [97] H0 (zw_I H 97 j (zp_nar 0 x)) ∧ (zw_I H 97 j (zp_nar 0 x)).2.1 80 = H.2.1 80 := by
  have b0 := zR_dn h
  have b1 := zR_puta (p := 97) (j := j) (x := zp_nar 0 x) (t := 0) (n := 800) b0 rfl (fun r hr => by
    have e : r = (-2147483648, 2147483647) := by
      have hr : [((-2147483648 : Int), (2147483647 : Int))][j % 1]? = some r := hr
      rw [Nat.mod_one] at hr
      exact (Option.some.inj hr).symm
    rw [e]
    exact ⟨Int32.le_toInt _, Int32.toInt_le _⟩) (zJ_I rfl b0.2.2.2.2.2.2.2)
  refine ⟨zR_up b1 ?_, zk_Fr_I hF rfl rfl, funext (fun i => zw_ne rfl rfl)⟩
  have c := zR_cn h
  intro h9
  exact c h9
def zm_233 : za_MI := (yX12_reckons, prog_14_method_69_code, 9, (some FieldType.int), 12, 0, 0, [], za_i233)
theorem zm_233_t : za_MT 233 = some zm_233 := rfl
def zm_234 : za_MI := (yX12_valueOf, prog_14_method_67_code, 7, (some FieldType.int), 12, 0, 0, [], za_i234)
theorem zm_234_t : za_MT 234 = some zm_234 := rfl
def zm_235 : za_MI := (yX12_works, prog_14_method_68_code, 3, (some FieldType.int), 12, 0, 0, [], za_i235)
theorem zm_235_t : za_MT 235 = some zm_235 := rfl
set_option maxRecDepth 8000 in
set_option maxHeartbeats 300000 in
theorem zl_rkL {L : Nat} {σ : Nat → Int32} {d b mf : Nat} {H0 : zp_H} {c80 : Nat → Int32} {xc xh : Int32} {xu : Int64} (hcell : 0 ≤ xc.toInt ∧ xc.toInt ≤ 63) (hb1 : b < 1600) (hb0 : (c80 b).toInt = 0) : ∀ (n : Nat) (H : zp_H) (lv : zp_LV) (m k : Int32), zk_Bs zR zg zJ H → zk_Fr zg [] [97] H0 H → H.2.1 80 = c80 → zp_get lv 0 = some (.inr (.inr (some 73))) → zp_get lv 2 = some (.inl xc) → zp_get lv 3 = some (.inl xh) → zp_get lv 4 = some (.inr (.inl xu)) → zp_get lv 6 = some (.inl m) → zp_get lv 7 = some (.inl k) → 0 ≤ m.toInt ∧ 2 * m.toInt ≤ k.toInt → 0 ≤ k.toInt ∧ k.toInt ≤ b → zr_run c80 n k.toInt.toNat m.toInt.toNat = some (b, mf) → zs_Safe L σ (fun X : zp_X => ∃ H1 v, X = (.inl (some (.inl v)), H1) ∧ zk_Bs zR zg zJ H1 ∧ zk_Fr zg [] [97] H0 H1) zm_233 [] (d + 4) (6, lv, [], H, (0, 0)) := by
  intro n
  induction n with
  | zero =>
    intro H lv m k hB hF hc l0 l2 l3 l4 l6 l7 hm hk hr
    have W := zR_Wd (zR_dn hB)
    obtain ⟨r1, r2⟩ := Prod.mk.inj (Option.some.inj hr)
    refine zw_ld (n := 1) (k := 0) (f := zp_isR) (pc' := 7) rfl rfl l0 rfl rfl ?_
    refine zw_gR (q := 72) (pc' := 10) W rfl rfl rfl rfl (W.2 72 20 _ rfl) rfl ?_
    refine zw_ld (n := 2) (k := 7) (f := zp_isI) (pc' := 12) rfl rfl l7 rfl rfl ?_
    refine zw_ia (q := 80) (pc' := 13) W rfl rfl (by decide) (⟨hk.1, by show _ < ((1600 : Nat) : Int); omega⟩) rfl rfl ?_
    refine zw_beq1 (g := 158) (pc' := 16) rfl rfl rfl rfl (fun hb => ?_) (fun hb => ?_)
    · refine zw_ld (n := 1) (k := 0) (f := zp_isR) (pc' := 159) rfl rfl l0 rfl rfl ?_
      refine zw_gR (q := 72) (pc' := 162) W rfl rfl rfl rfl (W.2 72 75 _ rfl) rfl ?_
      refine zw_s (pc' := 163) rfl rfl ?_
      refine zw_ia (q := 97) (pc' := 164) W rfl rfl (by decide) (⟨by decide, by decide⟩) rfl rfl ?_
      refine zw_ri rfl rfl ?_
      exact ⟨H, _, rfl, hB, hF⟩
    · exact absurd (by rw [r1, hc]; exact hb0) hb
  | succ n ih =>
    intro H lv m k hB hF hc l0 l2 l3 l4 l6 l7 hm hk hr
    have W := zR_Wd (zR_dn hB)
    unfold zr_run at hr
    split at hr
    · rename_i q hq
      have hlt := zr_stp_lt hq
      have hle := zr_run_le hr
      have hle : q.1 ≤ b := hle
      have ek : (k + Int32.ofInt 1).toInt = k.toInt + 1 := zw_p1 (by omega)
      rw [← hc] at hq
      unfold zr_stp at hq
      refine zw_ld (n := 1) (k := 0) (f := zp_isR) (pc' := 7) rfl rfl l0 rfl rfl ?_
      refine zw_gR (q := 72) (pc' := 10) W rfl rfl rfl rfl (W.2 72 20 _ rfl) rfl ?_
      refine zw_ld (n := 2) (k := 7) (f := zp_isI) (pc' := 12) rfl rfl l7 rfl rfl ?_
      refine zw_ia (q := 80) (pc' := 13) W rfl rfl (by decide) (⟨hk.1, by show _ < ((1600 : Nat) : Int); omega⟩) rfl rfl ?_
      refine zw_beq1 (g := 158) (pc' := 16) rfl rfl rfl rfl (fun hb => ?_) (fun hb => ?_)
      · rw [if_neg (by omega), if_neg (by omega), if_neg (by omega)] at hq
        cases hq
      · refine zw_ld (n := 1) (k := 0) (f := zp_isR) (pc' := 17) rfl rfl l0 rfl rfl ?_
        refine zw_gR (q := 72) (pc' := 20) W rfl rfl rfl rfl (W.2 72 20 _ rfl) rfl ?_
        refine zw_ld (n := 2) (k := 7) (f := zp_isI) (pc' := 22) rfl rfl l7 rfl rfl ?_
        refine zw_ia (q := 80) (pc' := 23) W rfl rfl (by decide) (⟨hk.1, by show _ < ((1600 : Nat) : Int); omega⟩) rfl rfl ?_
        refine zw_st (n := 2) (k := 8) (f := zp_isI) (pc' := 25) rfl rfl rfl rfl rfl ?_
        refine zw_ii (pc' := 28) rfl (zw_gt l7 rfl rfl) rfl rfl ?_
        refine zw_ld (n := 2) (k := 8) (f := zp_isI) (pc' := 30) rfl rfl (zw_gt zw_g1 rfl rfl) rfl rfl ?_
        refine zw_s (pc' := 31) rfl rfl ?_
        refine zw_beq2 (g := 40) (pc' := 34) rfl rfl rfl rfl (rfl : _ = (1 : Int)) (fun h1 => ?_) (fun h1 => ?_)
        · refine zw_ld (n := 1) (k := 0) (f := zp_isR) (pc' := 41) rfl rfl (zw_gt (zw_gt l0 rfl rfl) rfl rfl) rfl rfl ?_
          refine zw_gR (q := 72) (pc' := 44) W rfl rfl rfl rfl (W.2 72 75 _ rfl) rfl ?_
          refine zw_ld (n := 2) (k := 6) (f := zp_isI) (pc' := 46) rfl rfl (zw_gt (zw_gt l6 rfl rfl) rfl rfl) rfl rfl ?_
          refine zw_ld (n := 2) (k := 8) (f := zp_isI) (pc' := 48) rfl rfl (zw_gt zw_g1 rfl rfl) rfl rfl ?_
          refine zw_s (pc' := 49) rfl rfl ?_
          refine zw_bne2 (g := 62) (pc' := 52) rfl rfl rfl rfl (rfl : _ = (1 : Int)) (fun h3 => ?_) (fun h3 => ?_)
          · omega
          · refine zw_ld (n := 1) (k := 0) (f := zp_isR) (pc' := 53) rfl rfl (zw_gt (zw_gt l0 rfl rfl) rfl rfl) rfl rfl ?_
            refine zw_gR (q := 72) (pc' := 56) W rfl rfl rfl rfl (W.2 72 20 _ rfl) rfl ?_
            refine zw_ld (n := 2) (k := 7) (f := zp_isI) (pc' := 58) rfl rfl zw_g1 rfl rfl ?_
            refine zw_ia (q := 80) (pc' := 59) W rfl rfl (by decide) (⟨by omega, by show _ < ((1600 : Nat) : Int); omega⟩) rfl rfl ?_
            refine zw_s (pc' := 77) rfl rfl ?_
            refine zw_is (q := 97) (pc' := 78) W rfl rfl (by decide) (⟨by omega, by show _ < ((800 : Nat) : Int); omega⟩) rfl ?_
            refine zw_ii (pc' := 81) rfl zw_g1 rfl rfl ?_
            refine zw_ii (pc' := 84) rfl (zw_gt (zw_gt (zw_gt l6 rfl rfl) rfl rfl) rfl rfl) rfl rfl ?_
            refine zw_s (pc' := 155) rfl rfl ?_
            refine zw_s (pc' := 6) rfl rfl ?_
            rw [if_pos (by omega)] at hq
            have hq := Option.some.inj hq
            subst hq
            have ek2 : (k + Int32.ofInt 1 + Int32.ofInt 1).toInt = k.toInt + 2 := by rw [zw_p1 (by omega), ek]; omega
            have em : (m + Int32.ofInt 1).toInt = m.toInt + 1 := zw_p1 (by omega)
            obtain ⟨p1, p2, p3⟩ := zl_pile (j := m.toInt.toNat) (x := H.2.1 80 (k + Int32.ofInt 1).toInt.toNat) (H0 := H0) hB hF
            refine ih _ _ (m + Int32.ofInt 1) (k + Int32.ofInt 1 + Int32.ofInt 1) p1 p2 (by rw [p3]; exact hc) (zw_gt (zw_gt (zw_gt (zw_gt l0 rfl rfl) rfl rfl) rfl rfl) rfl rfl) (zw_gt (zw_gt (zw_gt (zw_gt l2 rfl rfl) rfl rfl) rfl rfl) rfl rfl) (zw_gt (zw_gt (zw_gt (zw_gt l3 rfl rfl) rfl rfl) rfl rfl) rfl rfl) (zw_gt (zw_gt (zw_gt (zw_gt l4 rfl rfl) rfl rfl) rfl rfl) rfl rfl) zw_g1 (zw_gt zw_g1 rfl rfl) ⟨by omega, by omega⟩ ⟨by omega, by omega⟩ ?_
            have e1 : (k + Int32.ofInt 1 + Int32.ofInt 1).toInt.toNat = k.toInt.toNat + 2 := by omega
            have e2 : (m + Int32.ofInt 1).toInt.toNat = m.toInt.toNat + 1 := by omega
            rw [e1, e2]
            exact hr
        · refine zw_ld (n := 2) (k := 8) (f := zp_isI) (pc' := 36) rfl rfl (zw_gt zw_g1 rfl rfl) rfl rfl ?_
          refine zw_s (pc' := 37) rfl rfl ?_
          refine zw_bne2 (g := 87) (pc' := 40) rfl rfl rfl rfl (rfl : _ = (2 : Int)) (fun h2 => ?_) (fun h2 => ?_)
          · refine zw_ld (n := 2) (k := 8) (f := zp_isI) (pc' := 89) rfl rfl (zw_gt zw_g1 rfl rfl) rfl rfl ?_
            refine zw_s (pc' := 90) rfl rfl ?_
            refine zw_bne2 (g := 122) (pc' := 93) rfl rfl rfl rfl (rfl : _ = (3 : Int)) (fun h4 => ?_) (fun h4 => ?_)
            · rw [if_neg (by omega), if_neg (by omega)] at hq
              split at hq
              · rename_i h44
                split at hq
                · rename_i hm1
                  have hq := Option.some.inj hq
                  subst hq
                  obtain ⟨m1, hm1⟩ : ∃ m1 : Int32, m + Int32.ofInt (-1) = m1 := ⟨_, rfl⟩
                  have em : m1.toInt = m.toInt - 1 := by
                    have h1 : (Int32.ofInt (-1)).toInt = -1 := rfl
                    rw [← hm1, zn_add (by omega) (by omega), h1]
                    omega
                  have em2 : (m1 - Int32.ofInt 1).toInt = m.toInt - 2 := by rw [zw_m1 (by omega), em]; omega
                  refine zw_iiy (pc' := 125) rfl (zw_gt (zw_gt l6 rfl rfl) rfl rfl) rfl rfl hm1 ?_
                  refine zw_ld (n := 1) (k := 0) (f := zp_isR) (pc' := 126) rfl rfl (zw_gt (zw_gt (zw_gt l0 rfl rfl) rfl rfl) rfl rfl) rfl rfl ?_
                  refine zw_gR (q := 72) (pc' := 129) W rfl rfl rfl rfl (W.2 72 75 _ rfl) rfl ?_
                  refine zw_ld (n := 2) (k := 6) (f := zp_isI) (pc' := 131) rfl rfl zw_g1 rfl rfl ?_
                  refine zw_s (pc' := 132) rfl rfl ?_
                  refine zw_isub (pc' := 133) rfl rfl ?_
                  refine zw_ld (n := 2) (k := 8) (f := zp_isI) (pc' := 135) rfl rfl (zw_gt (zw_gt zw_g1 rfl rfl) rfl rfl) rfl rfl ?_
                  refine zw_ld (n := 1) (k := 0) (f := zp_isR) (pc' := 136) rfl rfl (zw_gt (zw_gt (zw_gt l0 rfl rfl) rfl rfl) rfl rfl) rfl rfl ?_
                  refine zw_gR (q := 72) (pc' := 139) W rfl rfl rfl rfl (W.2 72 75 _ rfl) rfl ?_
                  refine zw_ld (n := 2) (k := 6) (f := zp_isI) (pc' := 141) rfl rfl zw_g1 rfl rfl ?_
                  refine zw_s (pc' := 142) rfl rfl ?_
                  refine zw_isub (pc' := 143) rfl rfl ?_
                  refine zw_ia (q := 97) (pc' := 144) W rfl rfl (by decide) (⟨by omega, by show _ < ((800 : Nat) : Int); omega⟩) rfl rfl ?_
                  refine zw_ld (n := 1) (k := 0) (f := zp_isR) (pc' := 145) rfl rfl (zw_gt (zw_gt (zw_gt l0 rfl rfl) rfl rfl) rfl rfl) rfl rfl ?_
                  refine zw_gR (q := 72) (pc' := 148) W rfl rfl rfl rfl (W.2 72 75 _ rfl) rfl ?_
                  refine zw_ld (n := 2) (k := 6) (f := zp_isI) (pc' := 150) rfl rfl zw_g1 rfl rfl ?_
                  refine zw_ia (q := 97) (pc' := 151) W rfl rfl (by decide) (⟨by omega, by show _ < ((800 : Nat) : Int); omega⟩) rfl rfl ?_
                  obtain ⟨K, v, c1, c2, c3⟩ := zl_works (L := L) (σ := σ) (d := d + 3) (x := H.2.1 80 k.toInt.toNat) (y := H.2.1 97 (m1 - Int32.ofInt 1).toInt.toNat) (z := H.2.1 97 m1.toInt.toNat) hB
                  have WK := zR_Wd (zR_dn c2)
                  have k80 := zx_ae c3 80 (fun _ => rfl) rfl rfl
                  refine zw_c (pc' := 154) (zw_cs (Y := zm_235) rfl rfl zm_235_t) rfl rfl rfl rfl rfl (c1) ?_
                  refine zw_is (q := 97) (pc' := 155) WK rfl rfl (by decide) (⟨by omega, by show _ < ((800 : Nat) : Int); omega⟩) rfl ?_
                  refine zw_s (pc' := 6) rfl rfl ?_
                  obtain ⟨p1, p2, p3⟩ := zl_pile (j := (m1 - Int32.ofInt 1).toInt.toNat) (x := v) (H0 := H0) c2 (zk_Fr_t hF (zk_Fr_w rfl rfl c3))
                  refine ih _ _ m1 (k + Int32.ofInt 1) p1 p2 (by rw [p3, k80]; exact hc) (zw_gt (zw_gt (zw_gt l0 rfl rfl) rfl rfl) rfl rfl) (zw_gt (zw_gt (zw_gt l2 rfl rfl) rfl rfl) rfl rfl) (zw_gt (zw_gt (zw_gt l3 rfl rfl) rfl rfl) rfl rfl) (zw_gt (zw_gt (zw_gt l4 rfl rfl) rfl rfl) rfl rfl) zw_g1 (zw_gt zw_g1 rfl rfl) ⟨by omega, by omega⟩ ⟨by omega, by omega⟩ ?_
                  have e1 : (k + Int32.ofInt 1).toInt.toNat = k.toInt.toNat + 1 := by omega
                  have e2 : m1.toInt.toNat = m.toInt.toNat - 1 := by omega
                  rw [e1, e2]
                  exact hr
                · cases hq
              · cases hq
            · rw [if_neg (by omega), if_pos (by omega)] at hq
              split at hq
              · rename_i hm1
                have hq := Option.some.inj hq
                subst hq
                have em : (m - Int32.ofInt 1).toInt = m.toInt - 1 := zw_m1 (by omega)
                refine zw_ld (n := 1) (k := 0) (f := zp_isR) (pc' := 94) rfl rfl (zw_gt (zw_gt l0 rfl rfl) rfl rfl) rfl rfl ?_
                refine zw_gR (q := 72) (pc' := 97) W rfl rfl rfl rfl (W.2 72 75 _ rfl) rfl ?_
                refine zw_ld (n := 2) (k := 6) (f := zp_isI) (pc' := 99) rfl rfl (zw_gt (zw_gt l6 rfl rfl) rfl rfl) rfl rfl ?_
                refine zw_s (pc' := 100) rfl rfl ?_
                refine zw_isub (pc' := 101) rfl rfl ?_
                refine zw_ld (n := 1) (k := 0) (f := zp_isR) (pc' := 102) rfl rfl (zw_gt (zw_gt l0 rfl rfl) rfl rfl) rfl rfl ?_
                refine zw_gR (q := 72) (pc' := 105) W rfl rfl rfl rfl (W.2 72 75 _ rfl) rfl ?_
                refine zw_ld (n := 2) (k := 6) (f := zp_isI) (pc' := 107) rfl rfl (zw_gt (zw_gt l6 rfl rfl) rfl rfl) rfl rfl ?_
                refine zw_s (pc' := 108) rfl rfl ?_
                refine zw_isub (pc' := 109) rfl rfl ?_
                refine zw_ia (q := 97) (pc' := 110) W rfl rfl (by decide) (⟨by omega, by show _ < ((800 : Nat) : Int); omega⟩) rfl rfl ?_
                refine zw_bne1 (g := 117) (pc' := 113) rfl rfl rfl rfl (fun h5 => ?_) (fun h5 => ?_)
                · refine zw_s (pc' := 118) rfl rfl ?_
                  refine zw_is (q := 97) (pc' := 119) W rfl rfl (by decide) (⟨by omega, by show _ < ((800 : Nat) : Int); omega⟩) rfl ?_
                  refine zw_s (pc' := 155) rfl rfl ?_
                  refine zw_s (pc' := 6) rfl rfl ?_
                  obtain ⟨p1, p2, p3⟩ := zl_pile (j := (m - Int32.ofInt 1).toInt.toNat) (x := Int32.ofInt 0) (H0 := H0) hB hF
                  refine ih _ _ m (k + Int32.ofInt 1) p1 p2 (by rw [p3]; exact hc) (zw_gt (zw_gt l0 rfl rfl) rfl rfl) (zw_gt (zw_gt l2 rfl rfl) rfl rfl) (zw_gt (zw_gt l3 rfl rfl) rfl rfl) (zw_gt (zw_gt l4 rfl rfl) rfl rfl) (zw_gt (zw_gt l6 rfl rfl) rfl rfl) zw_g1 ⟨by omega, by omega⟩ ⟨by omega, by omega⟩ ?_
                  have e1 : (k + Int32.ofInt 1).toInt.toNat = k.toInt.toNat + 1 := by omega
                  rw [e1]
                  exact hr
                · refine zw_s (pc' := 114) rfl rfl ?_
                  refine zw_s (pc' := 118) rfl rfl ?_
                  refine zw_is (q := 97) (pc' := 119) W rfl rfl (by decide) (⟨by omega, by show _ < ((800 : Nat) : Int); omega⟩) rfl ?_
                  refine zw_s (pc' := 155) rfl rfl ?_
                  refine zw_s (pc' := 6) rfl rfl ?_
                  obtain ⟨p1, p2, p3⟩ := zl_pile (j := (m - Int32.ofInt 1).toInt.toNat) (x := Int32.ofInt 1) (H0 := H0) hB hF
                  refine ih _ _ m (k + Int32.ofInt 1) p1 p2 (by rw [p3]; exact hc) (zw_gt (zw_gt l0 rfl rfl) rfl rfl) (zw_gt (zw_gt l2 rfl rfl) rfl rfl) (zw_gt (zw_gt l3 rfl rfl) rfl rfl) (zw_gt (zw_gt l4 rfl rfl) rfl rfl) (zw_gt (zw_gt l6 rfl rfl) rfl rfl) zw_g1 ⟨by omega, by omega⟩ ⟨by omega, by omega⟩ ?_
                  have e1 : (k + Int32.ofInt 1).toInt.toNat = k.toInt.toNat + 1 := by omega
                  rw [e1]
                  exact hr
              · cases hq
          · refine zw_ld (n := 1) (k := 0) (f := zp_isR) (pc' := 41) rfl rfl (zw_gt (zw_gt l0 rfl rfl) rfl rfl) rfl rfl ?_
            refine zw_gR (q := 72) (pc' := 44) W rfl rfl rfl rfl (W.2 72 75 _ rfl) rfl ?_
            refine zw_ld (n := 2) (k := 6) (f := zp_isI) (pc' := 46) rfl rfl (zw_gt (zw_gt l6 rfl rfl) rfl rfl) rfl rfl ?_
            refine zw_ld (n := 2) (k := 8) (f := zp_isI) (pc' := 48) rfl rfl (zw_gt zw_g1 rfl rfl) rfl rfl ?_
            refine zw_s (pc' := 49) rfl rfl ?_
            refine zw_bne2 (g := 62) (pc' := 52) rfl rfl rfl rfl (rfl : _ = (1 : Int)) (fun h3 => ?_) (fun h3 => ?_)
            · refine zw_ld (n := 1) (k := 0) (f := zp_isR) (pc' := 63) rfl rfl (zw_gt (zw_gt l0 rfl rfl) rfl rfl) rfl rfl ?_
              refine zw_ld (n := 1) (k := 0) (f := zp_isR) (pc' := 64) rfl rfl (zw_gt (zw_gt l0 rfl rfl) rfl rfl) rfl rfl ?_
              refine zw_gR (q := 72) (pc' := 67) W rfl rfl rfl rfl (W.2 72 20 _ rfl) rfl ?_
              refine zw_ld (n := 2) (k := 7) (f := zp_isI) (pc' := 69) rfl rfl zw_g1 rfl rfl ?_
              refine zw_ia (q := 80) (pc' := 70) W rfl rfl (by decide) (⟨by omega, by show _ < ((1600 : Nat) : Int); omega⟩) rfl rfl ?_
              refine zw_ld (n := 1) (k := 2) (f := zp_isI) (pc' := 71) rfl rfl (zw_gt (zw_gt l2 rfl rfl) rfl rfl) rfl rfl ?_
              refine zw_ld (n := 1) (k := 3) (f := zp_isI) (pc' := 72) rfl rfl (zw_gt (zw_gt l3 rfl rfl) rfl rfl) rfl rfl ?_
              refine zw_ld (n := 2) (k := 4) (f := zp_isL) (pc' := 74) rfl rfl (zw_gt (zw_gt l4 rfl rfl) rfl rfl) rfl rfl ?_
              obtain ⟨K, v, c1, c2, c3⟩ := zl_valueOf (L := L) (σ := σ) (d := d) (x := H.2.1 80 (k + Int32.ofInt 1).toInt.toNat) (y := xc) (z := xh) (u := xu) hB hcell
              have WK := zR_Wd (zR_dn c2)
              have k80 := zx_ae c3 80 (fun _ => rfl) rfl rfl
              refine zw_c (pc' := 77) (zw_cv (q := 72) (Y := zm_234) W.1 rfl rfl zm_234_t rfl rfl) rfl rfl rfl rfl rfl (c1) ?_
              refine zw_is (q := 97) (pc' := 78) WK rfl rfl (by decide) (⟨by omega, by show _ < ((800 : Nat) : Int); omega⟩) rfl ?_
              refine zw_ii (pc' := 81) rfl zw_g1 rfl rfl ?_
              refine zw_ii (pc' := 84) rfl (zw_gt (zw_gt (zw_gt l6 rfl rfl) rfl rfl) rfl rfl) rfl rfl ?_
              refine zw_s (pc' := 155) rfl rfl ?_
              refine zw_s (pc' := 6) rfl rfl ?_
              rw [if_pos (by omega)] at hq
              have hq := Option.some.inj hq
              subst hq
              have ek2 : (k + Int32.ofInt 1 + Int32.ofInt 1).toInt = k.toInt + 2 := by rw [zw_p1 (by omega), ek]; omega
              have em : (m + Int32.ofInt 1).toInt = m.toInt + 1 := zw_p1 (by omega)
              obtain ⟨p1, p2, p3⟩ := zl_pile (j := m.toInt.toNat) (x := v) (H0 := H0) c2 (zk_Fr_t hF (zk_Fr_w rfl rfl c3))
              refine ih _ _ (m + Int32.ofInt 1) (k + Int32.ofInt 1 + Int32.ofInt 1) p1 p2 (by rw [p3, k80]; exact hc) (zw_gt (zw_gt (zw_gt (zw_gt l0 rfl rfl) rfl rfl) rfl rfl) rfl rfl) (zw_gt (zw_gt (zw_gt (zw_gt l2 rfl rfl) rfl rfl) rfl rfl) rfl rfl) (zw_gt (zw_gt (zw_gt (zw_gt l3 rfl rfl) rfl rfl) rfl rfl) rfl rfl) (zw_gt (zw_gt (zw_gt (zw_gt l4 rfl rfl) rfl rfl) rfl rfl) rfl rfl) zw_g1 (zw_gt zw_g1 rfl rfl) ⟨by omega, by omega⟩ ⟨by omega, by omega⟩ ?_
              have e1 : (k + Int32.ofInt 1 + Int32.ofInt 1).toInt.toNat = k.toInt.toNat + 2 := by omega
              have e2 : (m + Int32.ofInt 1).toInt.toNat = m.toInt.toNat + 1 := by omega
              rw [e1, e2]
              exact hr
            · omega
    · cases hr

theorem zl_reckons {L : Nat} {σ : Nat → Int32} {d : Nat} {H : zp_H} {x xc xh : Int32} {xu : Int64} (hB : zk_Bs zR zg zJ H) (hcell : 0 ≤ xc.toInt ∧ xc.toInt ≤ 63) (hx : 0 ≤ x.toInt) (hr : ∃ n b m, zr_run (H.2.1 80) n x.toInt.toNat 0 = some (b, m) ∧ b < 1600 ∧ (H.2.1 80 b).toInt = 0) : ∃ X, zp_Call L σ (d + 5) 233 [.inr (.inr (some 73)), .inl x, .inl xc, .inl xh, .inr (.inl xu)] H X ∧ (fun X : zp_X => ∃ H1 v, X = (.inl (some (.inl v)), H1) ∧ zk_Bs zR zg zJ H1 ∧ zk_Fr zg [] [97] H H1) X := by
  obtain ⟨n, b, m, r1, r2, r3⟩ := hr
  have hle := zr_run_le r1
  have hle : x.toInt.toNat ≤ b := hle
  refine zw_met zm_233_t rfl rfl ?_
  refine zw_s (pc' := 1) rfl rfl ?_
  refine zw_st (n := 2) (k := 6) (f := zp_isI) (pc' := 3) rfl rfl rfl rfl rfl ?_
  refine zw_ld (n := 1) (k := 1) (f := zp_isI) (pc' := 4) rfl rfl (zw_gt rfl rfl rfl) rfl rfl ?_
  refine zw_st (n := 2) (k := 7) (f := zp_isI) (pc' := 6) rfl rfl rfl rfl rfl ?_
  exact zl_rkL hcell r2 r3 n H _ _ _ hB (zk_Fr_r H) rfl (zw_gt (zw_gt rfl rfl rfl) rfl rfl) (zw_gt (zw_gt rfl rfl rfl) rfl rfl) (zw_gt (zw_gt rfl rfl rfl) rfl rfl) (zw_gt (zw_gt rfl rfl rfl) rfl rfl) (zw_gt zw_g1 rfl rfl) zw_g1 ⟨by decide, by show 2 * (0 : Int) ≤ _; omega⟩ ⟨hx, by omega⟩ r1
