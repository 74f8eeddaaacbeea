/-! ===== the class reads a hand, exactly, with data ===== -/
def zm_79 : za_MI := (yX7_readHand, prog_9_method_16_code, 6, (some FieldType.boolean), 7, 0, 0, [], za_i79)
theorem zm_79_t : za_MT 79 = some zm_79 := rfl
set_option maxRecDepth 8000 in
theorem yc_handL2 {L : Nat} {σ : Nat → Int32} {dd : Nat} {T : Nat → Int} {n : Nat} {s0 : yL} {cp : Nat} (hcp : cp = 13 ∨ cp = 33) : ∀ (m : Nat) (H : zp_H) (lv9 : zp_LV) (i r : Int32) (q k : Nat) (a : Int) (d : yLD), d.1 5 < 5 → 4 - k ≤ m → zp_get lv9 0 = some (.inr (.inr (some 52))) → zp_get lv9 1 = some (.inr (.inr (some 3))) → zp_get lv9 2 = some (.inl r) → zp_get lv9 3 = some (.inl i) → i.toInt = k → k ≤ 4 → r.toInt = a → (k < 4 → 12 - 12 * (k : Int) ≤ a) ∧ a ≤ 12 ∧ -100 ≤ a → yE T n q H → yDd 2 cp d H → yR2 T n s0 (if k < 4 then (13, [], (k : Int), a, 0, d, q) else (50, [], 0, 0, 0, (yU d.1 5 (d.1 5 + 1), d.2), q)) → s0.2.2.2.2.2.2 ≤ q → zs_Safe L σ (yRL T n 2 cp s0) zm_79 [] (dd + 4) (5, lv9, [], H, (0, 0)) := by
  intro m
  induction m with
  | zero =>
    intro H lv9 i r q k a d h5 hm l0 l1 l2 l3 hi hk hr ha h hDd hR hsq
    obtain ⟨hD, hX⟩ := hDd
    have hwc : yWC 2 cp := ⟨by decide, hcp⟩
    have W := zB_Wd h.1.1
    have hha : (H.2.1 2 7).toInt = d.1 5 := hD.2.2.2.1
    have r7 := zB_fr1 h.1.1 (p := 2) (k := 7) (r := (0, 5)) rfl
    have r7 : 0 ≤ (H.2.1 2 7).toInt ∧ (H.2.1 2 7).toInt ≤ 5 := r7
    refine zw_ld (n := 1) (k := 3) (f := zp_isI) (pc' := 6) rfl rfl l3 rfl rfl ?_
    refine zw_s (pc' := 7) rfl rfl ?_
    refine zw_bge2 (g := 83) (pc' := 10) rfl rfl rfl rfl (rfl : _ = (4 : Int)) (fun h7 => ?_) (fun h7 => ?_)
    · obtain rfl : k = 4 := by omega
      rw [if_neg (by omega)] at hR
      have e7 : (H.2.1 2 7 + Int32.ofInt 1).toInt = (H.2.1 2 7).toInt + 1 := zw_p1 (by omega)
      have b1 := zB_putf (p := 2) (k := 7) (x := H.2.1 2 7 + Int32.ofInt 1) h.1.1 rfl (fun r hr => by cases hr; exact ⟨by show (0 : Int) ≤ _; omega, by show _ ≤ (5 : Int); omega⟩) (zJc_I rfl h.1.1.2.2.2.2.2.2.2)
      refine zw_ld (n := 1) (k := 1) (f := zp_isR) (pc' := 84) rfl rfl l1 rfl rfl ?_
      refine zw_s (pc' := 85) rfl rfl ?_
      refine zw_gI (q := 2) (pc' := 88) W rfl rfl rfl rfl rfl rfl ?_
      refine zw_s (pc' := 89) rfl rfl ?_
      refine zw_iadd (pc' := 90) rfl rfl ?_
      refine zw_pI (q := 2) (pc' := 93) W rfl rfl rfl rfl rfl rfl ?_
      refine zw_s (pc' := 94) rfl rfl ?_
      refine zw_rz rfl rfl (by decide) ?_
      refine yRL_1 (yE_I h b1 rfl) ⟨?_, yXd_k (by decide) (yXd_o (by rcases hcp with rfl | rfl <;> decide) hX)⟩ hR hsq
      obtain ⟨g1, g2, g3, g4, g5, g6, g7, g8, g9, g10⟩ := hD
      have e : ∀ q k, ((Nat.beq q 2).and (Nat.beq k 7)) = false → ((zw_I H 2 7 (H.2.1 2 7 + Int32.ofInt 1)).2.1 q k).toInt = (H.2.1 q k).toInt := fun q k h1 => congrArg Int32.toInt (zw_ne rfl h1)
      exact ⟨(e 2 0 rfl).trans g1, (e 2 1 rfl).trans g2, (e cp 0 (by rcases hcp with rfl | rfl <;> rfl)).trans g3, (congrArg Int32.toInt zw_eq).trans (by rw [e7, hha]; rfl), (e 2 12 rfl).trans g5, (e 2 16 rfl).trans g6, (e 51 2 rfl).trans g7, (e 51 3 rfl).trans g8, g9, g10⟩
    · omega
  | succ m ih =>
    intro H lv9 i r q k a d h5 hm l0 l1 l2 l3 hi hk hr ha h hDd hR hsq
    obtain ⟨hD, hX⟩ := hDd
    have hwc : yWC 2 cp := ⟨by decide, hcp⟩
    have W := zB_Wd h.1.1
    have hha : (H.2.1 2 7).toInt = d.1 5 := hD.2.2.2.1
    have r7 := zB_fr1 h.1.1 (p := 2) (k := 7) (r := (0, 5)) rfl
    have r7 : 0 ≤ (H.2.1 2 7).toInt ∧ (H.2.1 2 7).toInt ≤ 5 := r7
    refine zw_ld (n := 1) (k := 3) (f := zp_isI) (pc' := 6) rfl rfl l3 rfl rfl ?_
    refine zw_s (pc' := 7) rfl rfl ?_
    refine zw_bge2 (g := 83) (pc' := 10) rfl rfl rfl rfl (rfl : _ = (4 : Int)) (fun h7 => ?_) (fun h7 => ?_)
    · obtain rfl : k = 4 := by omega
      rw [if_neg (by omega)] at hR
      have e7 : (H.2.1 2 7 + Int32.ofInt 1).toInt = (H.2.1 2 7).toInt + 1 := zw_p1 (by omega)
      have b1 := zB_putf (p := 2) (k := 7) (x := H.2.1 2 7 + Int32.ofInt 1) h.1.1 rfl (fun r hr => by cases hr; exact ⟨by show (0 : Int) ≤ _; omega, by show _ ≤ (5 : Int); omega⟩) (zJc_I rfl h.1.1.2.2.2.2.2.2.2)
      refine zw_ld (n := 1) (k := 1) (f := zp_isR) (pc' := 84) rfl rfl l1 rfl rfl ?_
      refine zw_s (pc' := 85) rfl rfl ?_
      refine zw_gI (q := 2) (pc' := 88) W rfl rfl rfl rfl rfl rfl ?_
      refine zw_s (pc' := 89) rfl rfl ?_
      refine zw_iadd (pc' := 90) rfl rfl ?_
      refine zw_pI (q := 2) (pc' := 93) W rfl rfl rfl rfl rfl rfl ?_
      refine zw_s (pc' := 94) rfl rfl ?_
      refine zw_rz rfl rfl (by decide) ?_
      refine yRL_1 (yE_I h b1 rfl) ⟨?_, yXd_k (by decide) (yXd_o (by rcases hcp with rfl | rfl <;> decide) hX)⟩ hR hsq
      obtain ⟨g1, g2, g3, g4, g5, g6, g7, g8, g9, g10⟩ := hD
      have e : ∀ q k, ((Nat.beq q 2).and (Nat.beq k 7)) = false → ((zw_I H 2 7 (H.2.1 2 7 + Int32.ofInt 1)).2.1 q k).toInt = (H.2.1 q k).toInt := fun q k h1 => congrArg Int32.toInt (zw_ne rfl h1)
      exact ⟨(e 2 0 rfl).trans g1, (e 2 1 rfl).trans g2, (e cp 0 (by rcases hcp with rfl | rfl <;> rfl)).trans g3, (congrArg Int32.toInt zw_eq).trans (by rw [e7, hha]; rfl), (e 2 12 rfl).trans g5, (e 2 16 rfl).trans g6, (e 51 2 rfl).trans g7, (e 51 3 rfl).trans g8, g9, g10⟩
    · rw [if_pos (by omega)] at hR
      refine zw_ld (n := 1) (k := 3) (f := zp_isI) (pc' := 11) rfl rfl l3 rfl rfl ?_
      refine zw_s (pc' := 12) rfl rfl ?_
      refine zw_bne2 (g := 19) (pc' := 15) rfl rfl rfl rfl (rfl : _ = (3 : Int)) (fun h3 => ?_) (fun h3 => ?_)
      · refine zw_s (pc' := 20) rfl rfl ?_
        refine zw_st (n := 2) (k := 4) (f := zp_isI) (pc' := 22) rfl rfl rfl rfl rfl ?_
        refine zw_ld (n := 1) (k := 0) (f := zp_isR) (pc' := 23) rfl rfl (zw_gt l0 rfl rfl) rfl rfl ?_
        refine zw_ld (n := 2) (k := 4) (f := zp_isI) (pc' := 25) rfl rfl zw_g1 rfl rfl ?_
        refine zw_beq1 (g := 32) (pc' := 28) rfl rfl rfl (rfl : _ = (0 : Int)) (fun h9 => ?_) (fun h9 => absurd h9 (by decide))
        refine zw_s (pc' := 33) rfl rfl ?_
        refine zw_ld (n := 2) (k := 4) (f := zp_isI) (pc' := 35) rfl rfl zw_g1 rfl rfl ?_
        refine zw_beq1 (g := 42) (pc' := 38) rfl rfl rfl (rfl : _ = (0 : Int)) (fun h9 => ?_) (fun h9 => absurd h9 (by decide))
        refine zw_s (pc' := 44) rfl rfl ?_
        obtain ⟨_, c1, v, H1, rfl, c2, c3⟩ := yc_num (L := L) (σ := σ) (d := dd) (x := Int32.ofInt 0) (y := Int32.ofInt 12) (lo := 0) (hi := 12) rfl rfl h
        refine zw_c (pc' := 47) (zw_cv (q := 51) (Y := zm_65) W.1 rfl rfl zm_65_t rfl rfl) rfl rfl rfl rfl rfl (c1) ?_
        refine zw_st (n := 2) (k := 5) (f := zp_isI) (pc' := 49) rfl rfl rfl rfl rfl ?_
        refine zw_ld (n := 2) (k := 5) (f := zp_isI) (pc' := 51) rfl rfl zw_g1 rfl rfl ?_
        refine zw_s (pc' := 52) rfl rfl ?_
        refine zw_bne2 (g := 57) (pc' := 55) rfl rfl rfl rfl (rfl : _ = (-1 : Int)) (fun h4 => ?_) (fun h4 => ?_)
        · rcases c3 with ⟨k1, k2, k3, k4, k5, k6, k7⟩ | ⟨k1, _⟩
          rotate_left
          · omega
          have W1 := zB_Wd k7.1.1
          have hD1 : yDc 2 cp d H1 := yDc_F c2 (by rcases hcp with rfl | rfl <;> rfl) hD
          have hX1 := yXd_F hwc c2 (by rcases hcp with rfl | rfl <;> rfl) hX
          have hha1 : (H1.2.1 2 7).toInt = d.1 5 := hD1.2.2.2.1
          have em : (H1.2.1 2 7 * Int32.ofInt 4).toInt = (H1.2.1 2 7).toInt * 4 := zq_mul rfl (by omega) (by omega)
          have ej : (H1.2.1 2 7 * Int32.ofInt 4 + i).toInt = (H1.2.1 2 7).toInt * 4 + i.toInt := by
            rw [zq_add (by rw [em]; omega) (by rw [em]; omega), em]
          have er : (r - v).toInt = r.toInt - v.toInt := zq_sub (by omega) (by omega)
          have ei : (i + Int32.ofInt 1).toInt = i.toInt + 1 := zw_p1 (by omega)
          have b1 := zB_puta (p := 6) (j := (H1.2.1 2 7 * Int32.ofInt 4 + i).toInt.toNat) (x := v) (t := 0) (n := 20) k7.1.1 rfl (fun r hr => by
            have hr : [((-2147483648 : Int), (2147483647 : Int))][(H1.2.1 2 7 * Int32.ofInt 4 + i).toInt.toNat % 1]? = some r := hr
            rw [Nat.mod_one] at hr
            cases hr
            exact ⟨Int32.le_toInt _, Int32.toInt_le _⟩) (zJc_I rfl k7.1.1.2.2.2.2.2.2.2) (fun k r hr => by cases hr)
          have hD9 : yDc 2 cp d (zw_I H1 6 (H1.2.1 2 7 * Int32.ofInt 4 + i).toInt.toNat v) := by
            obtain ⟨g1, g2, g3, g4, g5, g6, g7, g8, g9, g10⟩ := hD1
            have e : ∀ q k, Nat.beq q 6 = false → ((zw_I H1 6 (H1.2.1 2 7 * Int32.ofInt 4 + i).toInt.toNat v).2.1 q k).toInt = (H1.2.1 q k).toInt := fun q k h1 => congrArg Int32.toInt (zw_ne rfl (by rw [h1]; rfl))
            exact ⟨(e 2 0 rfl).trans g1, (e 2 1 rfl).trans g2, (e cp 0 (by rcases hcp with rfl | rfl <;> rfl)).trans g3, (e 2 7 rfl).trans g4, (e 2 12 rfl).trans g5, (e 2 16 rfl).trans g6, (e 51 2 rfl).trans g7, (e 51 3 rfl).trans g8, g9, g10⟩
          have hloc : yLc 2 cp (500 + (4 * (d.1 5).toNat + ((k : Nat) : Int).toNat)) = (6, (H1.2.1 2 7 * Int32.ofInt 4 + i).toInt.toNat) := by
            rw [yL_500 (by omega), ej]
            exact congrArg (Prod.mk _) (by omega)
          have hX9 := yXd_wD (v := ys_vl T n q) (yLc_inj hwc) (by omega) hloc k1 hX1
          have hD8 := yDc_W (i := 500 + (4 * (d.1 5).toNat + ((k : Nat) : Int).toNat)) (v := ys_vl T n q) (by omega) hD9
          have e5 : (yW d (500 + (4 * (d.1 5).toNat + ((k : Nat) : Int).toNat)) (ys_vl T n q)).1 5 = d.1 5 := yW_n (by omega)
          refine zw_ld (n := 1) (k := 1) (f := zp_isR) (pc' := 58) rfl rfl (zw_gt (zw_gt l1 rfl rfl) rfl rfl) rfl rfl ?_
          refine zw_gR (q := 2) (pc' := 61) W1 rfl rfl rfl rfl (W1.2 2 8 _ rfl) rfl ?_
          refine zw_ld (n := 1) (k := 1) (f := zp_isR) (pc' := 62) rfl rfl (zw_gt (zw_gt l1 rfl rfl) rfl rfl) rfl rfl ?_
          refine zw_gI (q := 2) (pc' := 65) W1 rfl rfl rfl rfl rfl rfl ?_
          refine zw_s (pc' := 66) rfl rfl ?_
          refine zw_imul (pc' := 67) rfl rfl ?_
          refine zw_ld (n := 1) (k := 3) (f := zp_isI) (pc' := 68) rfl rfl (zw_gt (zw_gt l3 rfl rfl) rfl rfl) rfl rfl ?_
          refine zw_iadd (pc' := 69) rfl rfl ?_
          refine zw_ld (n := 2) (k := 5) (f := zp_isI) (pc' := 71) rfl rfl zw_g1 rfl rfl ?_
          refine zw_is (q := 6) (pc' := 72) W1 rfl rfl (by decide) (⟨by rw [ej]; omega, by rw [ej]; show _ < ((20 : Nat) : Int); omega⟩) rfl ?_
          refine zw_ld (n := 1) (k := 2) (f := zp_isI) (pc' := 73) rfl rfl (zw_gt (zw_gt l2 rfl rfl) rfl rfl) rfl rfl ?_
          refine zw_ld (n := 2) (k := 5) (f := zp_isI) (pc' := 75) rfl rfl zw_g1 rfl rfl ?_
          refine zw_isub (pc' := 76) rfl rfl ?_
          refine zw_st (n := 1) (k := 2) (f := zp_isI) (pc' := 77) rfl rfl rfl rfl rfl ?_
          refine zw_ii (pc' := 80) rfl (zw_gt (zw_gt (zw_gt l3 rfl rfl) rfl rfl) rfl rfl) rfl rfl ?_
          refine zw_s (pc' := 5) rfl rfl ?_
          refine ih _ _ _ _ _ (k + 1) (a - ys_vl T n q) (yW d (500 + (4 * (d.1 5).toNat + ((k : Nat) : Int).toNat)) (ys_vl T n q)) (by rw [e5]; exact h5) (by omega) (zw_gt (zw_gt (zw_gt (zw_gt l0 rfl rfl) rfl rfl) rfl rfl) rfl rfl) (zw_gt (zw_gt (zw_gt (zw_gt l1 rfl rfl) rfl rfl) rfl rfl) rfl rfl) (zw_gt zw_g1 rfl rfl) zw_g1 (by omega) (by omega) (by omega) (by omega) (yE_I k7 b1 rfl) ⟨hD8, hX9⟩ ?_ (Nat.le_trans hsq (ys_le1 h.2.2))
          rw [if_pos (by omega)]
          exact yR2_t hR (yR2_s ((yN2_13.trans (if_pos (show (k : Int) < 3 by omega))).trans (k6 _)))
        · refine zw_s (pc' := 56) rfl rfl ?_
          refine zw_rz rfl rfl (by decide) ?_
          rcases c3 with ⟨k1, k2, k3, k4, _⟩ | ⟨_, k9, k1, k2, k3, k4, k5⟩
          · omega
          · exact yRL_0 k5 k3 (yR2_a hR (yA2_done ((yN2_13.trans (if_pos (show (k : Int) < 3 by omega))).trans (k4 _)))) ⟨k1, k2⟩
      · refine zw_s (pc' := 16) rfl rfl ?_
        refine zw_s (pc' := 20) rfl rfl ?_
        refine zw_st (n := 2) (k := 4) (f := zp_isI) (pc' := 22) rfl rfl rfl rfl rfl ?_
        refine zw_ld (n := 1) (k := 0) (f := zp_isR) (pc' := 23) rfl rfl (zw_gt l0 rfl rfl) rfl rfl ?_
        refine zw_ld (n := 2) (k := 4) (f := zp_isI) (pc' := 25) rfl rfl zw_g1 rfl rfl ?_
        refine zw_beq1 (g := 32) (pc' := 28) rfl rfl rfl (rfl : _ = (1 : Int)) (fun h9 => absurd h9 (by decide)) (fun h9 => ?_)
        refine zw_ld (n := 1) (k := 2) (f := zp_isI) (pc' := 29) rfl rfl (zw_gt l2 rfl rfl) rfl rfl ?_
        refine zw_s (pc' := 33) rfl rfl ?_
        refine zw_ld (n := 2) (k := 4) (f := zp_isI) (pc' := 35) rfl rfl zw_g1 rfl rfl ?_
        refine zw_beq1 (g := 42) (pc' := 38) rfl rfl rfl (rfl : _ = (1 : Int)) (fun h9 => absurd h9 (by decide)) (fun h9 => ?_)
        refine zw_ld (n := 1) (k := 2) (f := zp_isI) (pc' := 39) rfl rfl (zw_gt l2 rfl rfl) rfl rfl ?_
        refine zw_s (pc' := 44) rfl rfl ?_
        obtain rfl : k = 3 := by omega
        obtain ⟨_, c1, v, H1, rfl, c2, c3⟩ := yc_num (L := L) (σ := σ) (d := dd) (x := r) (y := r) (lo := a) (hi := a) hr hr h
        refine zw_c (pc' := 47) (zw_cv (q := 51) (Y := zm_65) W.1 rfl rfl zm_65_t rfl rfl) rfl rfl rfl rfl rfl (c1) ?_
        refine zw_st (n := 2) (k := 5) (f := zp_isI) (pc' := 49) rfl rfl rfl rfl rfl ?_
        refine zw_ld (n := 2) (k := 5) (f := zp_isI) (pc' := 51) rfl rfl zw_g1 rfl rfl ?_
        refine zw_s (pc' := 52) rfl rfl ?_
        refine zw_bne2 (g := 57) (pc' := 55) rfl rfl rfl rfl (rfl : _ = (-1 : Int)) (fun h4 => ?_) (fun h4 => ?_)
        · rcases c3 with ⟨k1, k2, k3, k4, k5, k6, k7⟩ | ⟨k1, _⟩
          rotate_left
          · omega
          have W1 := zB_Wd k7.1.1
          have hD1 : yDc 2 cp d H1 := yDc_F c2 (by rcases hcp with rfl | rfl <;> rfl) hD
          have hX1 := yXd_F hwc c2 (by rcases hcp with rfl | rfl <;> rfl) hX
          have hha1 : (H1.2.1 2 7).toInt = d.1 5 := hD1.2.2.2.1
          have em : (H1.2.1 2 7 * Int32.ofInt 4).toInt = (H1.2.1 2 7).toInt * 4 := zq_mul rfl (by omega) (by omega)
          have ej : (H1.2.1 2 7 * Int32.ofInt 4 + i).toInt = (H1.2.1 2 7).toInt * 4 + i.toInt := by
            rw [zq_add (by rw [em]; omega) (by rw [em]; omega), em]
          have er : (r - v).toInt = r.toInt - v.toInt := zq_sub (by omega) (by omega)
          have ei : (i + Int32.ofInt 1).toInt = i.toInt + 1 := zw_p1 (by omega)
          have b1 := zB_puta (p := 6) (j := (H1.2.1 2 7 * Int32.ofInt 4 + i).toInt.toNat) (x := v) (t := 0) (n := 20) k7.1.1 rfl (fun r hr => by
            have hr : [((-2147483648 : Int), (2147483647 : Int))][(H1.2.1 2 7 * Int32.ofInt 4 + i).toInt.toNat % 1]? = some r := hr
            rw [Nat.mod_one] at hr
            cases hr
            exact ⟨Int32.le_toInt _, Int32.toInt_le _⟩) (zJc_I rfl k7.1.1.2.2.2.2.2.2.2) (fun k r hr => by cases hr)
          have hD9 : yDc 2 cp d (zw_I H1 6 (H1.2.1 2 7 * Int32.ofInt 4 + i).toInt.toNat v) := by
            obtain ⟨g1, g2, g3, g4, g5, g6, g7, g8, g9, g10⟩ := hD1
            have e : ∀ q k, Nat.beq q 6 = false → ((zw_I H1 6 (H1.2.1 2 7 * Int32.ofInt 4 + i).toInt.toNat v).2.1 q k).toInt = (H1.2.1 q k).toInt := fun q k h1 => congrArg Int32.toInt (zw_ne rfl (by rw [h1]; rfl))
            exact ⟨(e 2 0 rfl).trans g1, (e 2 1 rfl).trans g2, (e cp 0 (by rcases hcp with rfl | rfl <;> rfl)).trans g3, (e 2 7 rfl).trans g4, (e 2 12 rfl).trans g5, (e 2 16 rfl).trans g6, (e 51 2 rfl).trans g7, (e 51 3 rfl).trans g8, g9, g10⟩
          have hloc : yLc 2 cp (500 + (4 * (d.1 5).toNat + ((3 : Nat) : Int).toNat)) = (6, (H1.2.1 2 7 * Int32.ofInt 4 + i).toInt.toNat) := by
            rw [yL_500 (by omega), ej]
            exact congrArg (Prod.mk _) (by omega)
          have hX9 := yXd_wD (v := ys_vl T n q) (yLc_inj hwc) (by omega) hloc k1 hX1
          have hD8 := yDc_W (i := 500 + (4 * (d.1 5).toNat + ((3 : Nat) : Int).toNat)) (v := ys_vl T n q) (by omega) hD9
          have e5 : (yW d (500 + (4 * (d.1 5).toNat + ((3 : Nat) : Int).toNat)) (ys_vl T n q)).1 5 = d.1 5 := yW_n (by omega)
          refine zw_ld (n := 1) (k := 1) (f := zp_isR) (pc' := 58) rfl rfl (zw_gt (zw_gt l1 rfl rfl) rfl rfl) rfl rfl ?_
          refine zw_gR (q := 2) (pc' := 61) W1 rfl rfl rfl rfl (W1.2 2 8 _ rfl) rfl ?_
          refine zw_ld (n := 1) (k := 1) (f := zp_isR) (pc' := 62) rfl rfl (zw_gt (zw_gt l1 rfl rfl) rfl rfl) rfl rfl ?_
          refine zw_gI (q := 2) (pc' := 65) W1 rfl rfl rfl rfl rfl rfl ?_
          refine zw_s (pc' := 66) rfl rfl ?_
          refine zw_imul (pc' := 67) rfl rfl ?_
          refine zw_ld (n := 1) (k := 3) (f := zp_isI) (pc' := 68) rfl rfl (zw_gt (zw_gt l3 rfl rfl) rfl rfl) rfl rfl ?_
          refine zw_iadd (pc' := 69) rfl rfl ?_
          refine zw_ld (n := 2) (k := 5) (f := zp_isI) (pc' := 71) rfl rfl zw_g1 rfl rfl ?_
          refine zw_is (q := 6) (pc' := 72) W1 rfl rfl (by decide) (⟨by rw [ej]; omega, by rw [ej]; show _ < ((20 : Nat) : Int); omega⟩) rfl ?_
          refine zw_ld (n := 1) (k := 2) (f := zp_isI) (pc' := 73) rfl rfl (zw_gt (zw_gt l2 rfl rfl) rfl rfl) rfl rfl ?_
          refine zw_ld (n := 2) (k := 5) (f := zp_isI) (pc' := 75) rfl rfl zw_g1 rfl rfl ?_
          refine zw_isub (pc' := 76) rfl rfl ?_
          refine zw_st (n := 1) (k := 2) (f := zp_isI) (pc' := 77) rfl rfl rfl rfl rfl ?_
          refine zw_ii (pc' := 80) rfl (zw_gt (zw_gt (zw_gt l3 rfl rfl) rfl rfl) rfl rfl) rfl rfl ?_
          refine zw_s (pc' := 5) rfl rfl ?_
          refine ih _ _ _ _ _ 4 (a - ys_vl T n q) (yW d (500 + (4 * (d.1 5).toNat + 3)) (ys_vl T n q)) (by rw [show (yW d (500 + (4 * (d.1 5).toNat + 3)) (ys_vl T n q)).1 5 = d.1 5 from e5]; exact h5) (by omega) (zw_gt (zw_gt (zw_gt (zw_gt l0 rfl rfl) rfl rfl) rfl rfl) rfl rfl) (zw_gt (zw_gt (zw_gt (zw_gt l1 rfl rfl) rfl rfl) rfl rfl) rfl rfl) (zw_gt zw_g1 rfl rfl) zw_g1 (by omega) (by omega) (by omega) (by omega) (yE_I k7 b1 rfl) ⟨hD8, hX9⟩ ?_ (Nat.le_trans hsq (ys_le1 h.2.2))
          rw [if_neg (by omega)]
          exact yR2_t hR (yR2_s ((yN2_13.trans (if_neg (show ¬ ((3 : Nat) : Int) < 3 by decide))).trans (k6 _)))
        · refine zw_s (pc' := 56) rfl rfl ?_
          refine zw_rz rfl rfl (by decide) ?_
          rcases c3 with ⟨k1, k2, k3, k4, _⟩ | ⟨_, k9, k1, k2, k3, k4, k5⟩
          · omega
          · exact yRL_0 k5 k3 (yR2_a hR (yA2_done ((yN2_13.trans (if_neg (show ¬ ((3 : Nat) : Int) < 3 by decide))).trans (k4 _)))) ⟨k1, k2⟩

set_option maxRecDepth 8000 in
theorem yc_hand2 {L : Nat} {σ : Nat → Int32} {dd : Nat} {T : Nat → Int} {n p : Nat} {d : yLD} {cp : Nat} {H : zp_H} (hcp : cp = 13 ∨ cp = 33) (h5 : d.1 5 < 5) (h : yE T n p H) (hD : yDd 2 cp d H) : ∃ X, zp_Call L σ (dd + 5) 79 [.inr (.inr (some 52)), .inr (.inr (some 3))] H X ∧ yRL T n 2 cp (13, [], 0, 12, 0, d, p) X := by
  refine zw_met zm_79_t rfl rfl ?_
  refine zw_s (pc' := 2) rfl rfl ?_
  refine zw_st (n := 1) (k := 2) (f := zp_isI) (pc' := 3) rfl rfl rfl rfl rfl ?_
  refine zw_s (pc' := 4) rfl rfl ?_
  refine zw_st (n := 1) (k := 3) (f := zp_isI) (pc' := 5) rfl rfl rfl rfl rfl ?_
  exact yc_handL2 hcp _ H _ _ _ p 0 12 d h5 (Nat.le_refl _) (zw_gt (zw_gt rfl rfl rfl) rfl rfl) (zw_gt (zw_gt rfl rfl rfl) rfl rfl) (zw_gt zw_g1 rfl rfl) zw_g1 rfl (by decide) rfl ⟨fun _ => by decide, by decide, by decide⟩ h hD (by rw [if_pos (by decide)]; exact yR2_r) (Nat.le_refl _)

set_option maxRecDepth 8000 in
theorem yc_handL22 {L : Nat} {σ : Nat → Int32} {dd : Nat} {T : Nat → Int} {n : Nat} {s0 : yL} {cp : Nat} (hcp : cp = 13 ∨ cp = 33) : ∀ (m : Nat) (H : zp_H) (lv9 : zp_LV) (i r : Int32) (q k : Nat) (a : Int) (d : yLD), d.1 5 < 5 → 4 - k ≤ m → zp_get lv9 0 = some (.inr (.inr (some 52))) → zp_get lv9 1 = some (.inr (.inr (some 23))) → zp_get lv9 2 = some (.inl r) → zp_get lv9 3 = some (.inl i) → i.toInt = k → k ≤ 4 → r.toInt = a → (k < 4 → 12 - 12 * (k : Int) ≤ a) ∧ a ≤ 12 ∧ -100 ≤ a → yE T n q H → yDd 22 cp d H → yR2 T n s0 (if k < 4 then (13, [], (k : Int), a, 0, d, q) else (50, [], 0, 0, 0, (yU d.1 5 (d.1 5 + 1), d.2), q)) → s0.2.2.2.2.2.2 ≤ q → zs_Safe L σ (yRL T n 22 cp s0) zm_79 [] (dd + 4) (5, lv9, [], H, (0, 0)) := by
  intro m
  induction m with
  | zero =>
    intro H lv9 i r q k a d h5 hm l0 l1 l2 l3 hi hk hr ha h hDd hR hsq
    obtain ⟨hD, hX⟩ := hDd
    have hwc : yWC 22 cp := ⟨by decide, hcp⟩
    have W := zB_Wd h.1.1
    have hha : (H.2.1 22 7).toInt = d.1 5 := hD.2.2.2.1
    have r7 := zB_fr1 h.1.1 (p := 22) (k := 7) (r := (0, 5)) rfl
    have r7 : 0 ≤ (H.2.1 22 7).toInt ∧ (H.2.1 22 7).toInt ≤ 5 := r7
    refine zw_ld (n := 1) (k := 3) (f := zp_isI) (pc' := 6) rfl rfl l3 rfl rfl ?_
    refine zw_s (pc' := 7) rfl rfl ?_
    refine zw_bge2 (g := 83) (pc' := 10) rfl rfl rfl rfl (rfl : _ = (4 : Int)) (fun h7 => ?_) (fun h7 => ?_)
    · obtain rfl : k = 4 := by omega
      rw [if_neg (by omega)] at hR
      have e7 : (H.2.1 22 7 + Int32.ofInt 1).toInt = (H.2.1 22 7).toInt + 1 := zw_p1 (by omega)
      have b1 := zB_putf (p := 22) (k := 7) (x := H.2.1 22 7 + Int32.ofInt 1) h.1.1 rfl (fun r hr => by cases hr; exact ⟨by show (0 : Int) ≤ _; omega, by show _ ≤ (5 : Int); omega⟩) (zJc_I rfl h.1.1.2.2.2.2.2.2.2)
      refine zw_ld (n := 1) (k := 1) (f := zp_isR) (pc' := 84) rfl rfl l1 rfl rfl ?_
      refine zw_s (pc' := 85) rfl rfl ?_
      refine zw_gI (q := 22) (pc' := 88) W rfl rfl rfl rfl rfl rfl ?_
      refine zw_s (pc' := 89) rfl rfl ?_
      refine zw_iadd (pc' := 90) rfl rfl ?_
      refine zw_pI (q := 22) (pc' := 93) W rfl rfl rfl rfl rfl rfl ?_
      refine zw_s (pc' := 94) rfl rfl ?_
      refine zw_rz rfl rfl (by decide) ?_
      refine yRL_1 (yE_I h b1 rfl) ⟨?_, yXd_k (by decide) (yXd_o (by rcases hcp with rfl | rfl <;> decide) hX)⟩ hR hsq
      obtain ⟨g1, g2, g3, g4, g5, g6, g7, g8, g9, g10⟩ := hD
      have e : ∀ q k, ((Nat.beq q 22).and (Nat.beq k 7)) = false → ((zw_I H 22 7 (H.2.1 22 7 + Int32.ofInt 1)).2.1 q k).toInt = (H.2.1 q k).toInt := fun q k h1 => congrArg Int32.toInt (zw_ne rfl h1)
      exact ⟨(e 22 0 rfl).trans g1, (e 22 1 rfl).trans g2, (e cp 0 (by rcases hcp with rfl | rfl <;> rfl)).trans g3, (congrArg Int32.toInt zw_eq).trans (by rw [e7, hha]; rfl), (e 22 12 rfl).trans g5, (e 22 16 rfl).trans g6, (e 51 2 rfl).trans g7, (e 51 3 rfl).trans g8, g9, g10⟩
    · omega
  | succ m ih =>
    intro H lv9 i r q k a d h5 hm l0 l1 l2 l3 hi hk hr ha h hDd hR hsq
    obtain ⟨hD, hX⟩ := hDd
    have hwc : yWC 22 cp := ⟨by decide, hcp⟩
    have W := zB_Wd h.1.1
    have hha : (H.2.1 22 7).toInt = d.1 5 := hD.2.2.2.1
    have r7 := zB_fr1 h.1.1 (p := 22) (k := 7) (r := (0, 5)) rfl
    have r7 : 0 ≤ (H.2.1 22 7).toInt ∧ (H.2.1 22 7).toInt ≤ 5 := r7
    refine zw_ld (n := 1) (k := 3) (f := zp_isI) (pc' := 6) rfl rfl l3 rfl rfl ?_
    refine zw_s (pc' := 7) rfl rfl ?_
    refine zw_bge2 (g := 83) (pc' := 10) rfl rfl rfl rfl (rfl : _ = (4 : Int)) (fun h7 => ?_) (fun h7 => ?_)
    · obtain rfl : k = 4 := by omega
      rw [if_neg (by omega)] at hR
      have e7 : (H.2.1 22 7 + Int32.ofInt 1).toInt = (H.2.1 22 7).toInt + 1 := zw_p1 (by omega)
      have b1 := zB_putf (p := 22) (k := 7) (x := H.2.1 22 7 + Int32.ofInt 1) h.1.1 rfl (fun r hr => by cases hr; exact ⟨by show (0 : Int) ≤ _; omega, by show _ ≤ (5 : Int); omega⟩) (zJc_I rfl h.1.1.2.2.2.2.2.2.2)
      refine zw_ld (n := 1) (k := 1) (f := zp_isR) (pc' := 84) rfl rfl l1 rfl rfl ?_
      refine zw_s (pc' := 85) rfl rfl ?_
      refine zw_gI (q := 22) (pc' := 88) W rfl rfl rfl rfl rfl rfl ?_
      refine zw_s (pc' := 89) rfl rfl ?_
      refine zw_iadd (pc' := 90) rfl rfl ?_
      refine zw_pI (q := 22) (pc' := 93) W rfl rfl rfl rfl rfl rfl ?_
      refine zw_s (pc' := 94) rfl rfl ?_
      refine zw_rz rfl rfl (by decide) ?_
      refine yRL_1 (yE_I h b1 rfl) ⟨?_, yXd_k (by decide) (yXd_o (by rcases hcp with rfl | rfl <;> decide) hX)⟩ hR hsq
      obtain ⟨g1, g2, g3, g4, g5, g6, g7, g8, g9, g10⟩ := hD
      have e : ∀ q k, ((Nat.beq q 22).and (Nat.beq k 7)) = false → ((zw_I H 22 7 (H.2.1 22 7 + Int32.ofInt 1)).2.1 q k).toInt = (H.2.1 q k).toInt := fun q k h1 => congrArg Int32.toInt (zw_ne rfl h1)
      exact ⟨(e 22 0 rfl).trans g1, (e 22 1 rfl).trans g2, (e cp 0 (by rcases hcp with rfl | rfl <;> rfl)).trans g3, (congrArg Int32.toInt zw_eq).trans (by rw [e7, hha]; rfl), (e 22 12 rfl).trans g5, (e 22 16 rfl).trans g6, (e 51 2 rfl).trans g7, (e 51 3 rfl).trans g8, g9, g10⟩
    · rw [if_pos (by omega)] at hR
      refine zw_ld (n := 1) (k := 3) (f := zp_isI) (pc' := 11) rfl rfl l3 rfl rfl ?_
      refine zw_s (pc' := 12) rfl rfl ?_
      refine zw_bne2 (g := 19) (pc' := 15) rfl rfl rfl rfl (rfl : _ = (3 : Int)) (fun h3 => ?_) (fun h3 => ?_)
      · refine zw_s (pc' := 20) rfl rfl ?_
        refine zw_st (n := 2) (k := 4) (f := zp_isI) (pc' := 22) rfl rfl rfl rfl rfl ?_
        refine zw_ld (n := 1) (k := 0) (f := zp_isR) (pc' := 23) rfl rfl (zw_gt l0 rfl rfl) rfl rfl ?_
        refine zw_ld (n := 2) (k := 4) (f := zp_isI) (pc' := 25) rfl rfl zw_g1 rfl rfl ?_
        refine zw_beq1 (g := 32) (pc' := 28) rfl rfl rfl (rfl : _ = (0 : Int)) (fun h9 => ?_) (fun h9 => absurd h9 (by decide))
        refine zw_s (pc' := 33) rfl rfl ?_
        refine zw_ld (n := 2) (k := 4) (f := zp_isI) (pc' := 35) rfl rfl zw_g1 rfl rfl ?_
        refine zw_beq1 (g := 42) (pc' := 38) rfl rfl rfl (rfl : _ = (0 : Int)) (fun h9 => ?_) (fun h9 => absurd h9 (by decide))
        refine zw_s (pc' := 44) rfl rfl ?_
        obtain ⟨_, c1, v, H1, rfl, c2, c3⟩ := yc_num (L := L) (σ := σ) (d := dd) (x := Int32.ofInt 0) (y := Int32.ofInt 12) (lo := 0) (hi := 12) rfl rfl h
        refine zw_c (pc' := 47) (zw_cv (q := 51) (Y := zm_65) W.1 rfl rfl zm_65_t rfl rfl) rfl rfl rfl rfl rfl (c1) ?_
        refine zw_st (n := 2) (k := 5) (f := zp_isI) (pc' := 49) rfl rfl rfl rfl rfl ?_
        refine zw_ld (n := 2) (k := 5) (f := zp_isI) (pc' := 51) rfl rfl zw_g1 rfl rfl ?_
        refine zw_s (pc' := 52) rfl rfl ?_
        refine zw_bne2 (g := 57) (pc' := 55) rfl rfl rfl rfl (rfl : _ = (-1 : Int)) (fun h4 => ?_) (fun h4 => ?_)
        · rcases c3 with ⟨k1, k2, k3, k4, k5, k6, k7⟩ | ⟨k1, _⟩
          rotate_left
          · omega
          have W1 := zB_Wd k7.1.1
          have hD1 : yDc 22 cp d H1 := yDc_F c2 (by rcases hcp with rfl | rfl <;> rfl) hD
          have hX1 := yXd_F hwc c2 (by rcases hcp with rfl | rfl <;> rfl) hX
          have hha1 : (H1.2.1 22 7).toInt = d.1 5 := hD1.2.2.2.1
          have em : (H1.2.1 22 7 * Int32.ofInt 4).toInt = (H1.2.1 22 7).toInt * 4 := zq_mul rfl (by omega) (by omega)
          have ej : (H1.2.1 22 7 * Int32.ofInt 4 + i).toInt = (H1.2.1 22 7).toInt * 4 + i.toInt := by
            rw [zq_add (by rw [em]; omega) (by rw [em]; omega), em]
          have er : (r - v).toInt = r.toInt - v.toInt := zq_sub (by omega) (by omega)
          have ei : (i + Int32.ofInt 1).toInt = i.toInt + 1 := zw_p1 (by omega)
          have b1 := zB_puta (p := 26) (j := (H1.2.1 22 7 * Int32.ofInt 4 + i).toInt.toNat) (x := v) (t := 0) (n := 20) k7.1.1 rfl (fun r hr => by
            have hr : [((-2147483648 : Int), (2147483647 : Int))][(H1.2.1 22 7 * Int32.ofInt 4 + i).toInt.toNat % 1]? = some r := hr
            rw [Nat.mod_one] at hr
            cases hr
            exact ⟨Int32.le_toInt _, Int32.toInt_le _⟩) (zJc_I rfl k7.1.1.2.2.2.2.2.2.2) (fun k r hr => by cases hr)
          have hD9 : yDc 22 cp d (zw_I H1 26 (H1.2.1 22 7 * Int32.ofInt 4 + i).toInt.toNat v) := by
            obtain ⟨g1, g2, g3, g4, g5, g6, g7, g8, g9, g10⟩ := hD1
            have e : ∀ q k, Nat.beq q 26 = false → ((zw_I H1 26 (H1.2.1 22 7 * Int32.ofInt 4 + i).toInt.toNat v).2.1 q k).toInt = (H1.2.1 q k).toInt := fun q k h1 => congrArg Int32.toInt (zw_ne rfl (by rw [h1]; rfl))
            exact ⟨(e 22 0 rfl).trans g1, (e 22 1 rfl).trans g2, (e cp 0 (by rcases hcp with rfl | rfl <;> rfl)).trans g3, (e 22 7 rfl).trans g4, (e 22 12 rfl).trans g5, (e 22 16 rfl).trans g6, (e 51 2 rfl).trans g7, (e 51 3 rfl).trans g8, g9, g10⟩
          have hloc : yLc 22 cp (500 + (4 * (d.1 5).toNat + ((k : Nat) : Int).toNat)) = (26, (H1.2.1 22 7 * Int32.ofInt 4 + i).toInt.toNat) := by
            rw [yL_500 (by omega), ej]
            exact congrArg (Prod.mk _) (by omega)
          have hX9 := yXd_wD (v := ys_vl T n q) (yLc_inj hwc) (by omega) hloc k1 hX1
          have hD8 := yDc_W (i := 500 + (4 * (d.1 5).toNat + ((k : Nat) : Int).toNat)) (v := ys_vl T n q) (by omega) hD9
          have e5 : (yW d (500 + (4 * (d.1 5).toNat + ((k : Nat) : Int).toNat)) (ys_vl T n q)).1 5 = d.1 5 := yW_n (by omega)
          refine zw_ld (n := 1) (k := 1) (f := zp_isR) (pc' := 58) rfl rfl (zw_gt (zw_gt l1 rfl rfl) rfl rfl) rfl rfl ?_
          refine zw_gR (q := 22) (pc' := 61) W1 rfl rfl rfl rfl (W1.2 22 8 _ rfl) rfl ?_
          refine zw_ld (n := 1) (k := 1) (f := zp_isR) (pc' := 62) rfl rfl (zw_gt (zw_gt l1 rfl rfl) rfl rfl) rfl rfl ?_
          refine zw_gI (q := 22) (pc' := 65) W1 rfl rfl rfl rfl rfl rfl ?_
          refine zw_s (pc' := 66) rfl rfl ?_
          refine zw_imul (pc' := 67) rfl rfl ?_
          refine zw_ld (n := 1) (k := 3) (f := zp_isI) (pc' := 68) rfl rfl (zw_gt (zw_gt l3 rfl rfl) rfl rfl) rfl rfl ?_
          refine zw_iadd (pc' := 69) rfl rfl ?_
          refine zw_ld (n := 2) (k := 5) (f := zp_isI) (pc' := 71) rfl rfl zw_g1 rfl rfl ?_
          refine zw_is (q := 26) (pc' := 72) W1 rfl rfl (by decide) (⟨by rw [ej]; omega, by rw [ej]; show _ < ((20 : Nat) : Int); omega⟩) rfl ?_
          refine zw_ld (n := 1) (k := 2) (f := zp_isI) (pc' := 73) rfl rfl (zw_gt (zw_gt l2 rfl rfl) rfl rfl) rfl rfl ?_
          refine zw_ld (n := 2) (k := 5) (f := zp_isI) (pc' := 75) rfl rfl zw_g1 rfl rfl ?_
          refine zw_isub (pc' := 76) rfl rfl ?_
          refine zw_st (n := 1) (k := 2) (f := zp_isI) (pc' := 77) rfl rfl rfl rfl rfl ?_
          refine zw_ii (pc' := 80) rfl (zw_gt (zw_gt (zw_gt l3 rfl rfl) rfl rfl) rfl rfl) rfl rfl ?_
          refine zw_s (pc' := 5) rfl rfl ?_
          refine ih _ _ _ _ _ (k + 1) (a - ys_vl T n q) (yW d (500 + (4 * (d.1 5).toNat + ((k : Nat) : Int).toNat)) (ys_vl T n q)) (by rw [e5]; exact h5) (by omega) (zw_gt (zw_gt (zw_gt (zw_gt l0 rfl rfl) rfl rfl) rfl rfl) rfl rfl) (zw_gt (zw_gt (zw_gt (zw_gt l1 rfl rfl) rfl rfl) rfl rfl) rfl rfl) (zw_gt zw_g1 rfl rfl) zw_g1 (by omega) (by omega) (by omega) (by omega) (yE_I k7 b1 rfl) ⟨hD8, hX9⟩ ?_ (Nat.le_trans hsq (ys_le1 h.2.2))
          rw [if_pos (by omega)]
          exact yR2_t hR (yR2_s ((yN2_13.trans (if_pos (show (k : Int) < 3 by omega))).trans (k6 _)))
        · refine zw_s (pc' := 56) rfl rfl ?_
          refine zw_rz rfl rfl (by decide) ?_
          rcases c3 with ⟨k1, k2, k3, k4, _⟩ | ⟨_, k9, k1, k2, k3, k4, k5⟩
          · omega
          · exact yRL_0 k5 k3 (yR2_a hR (yA2_done ((yN2_13.trans (if_pos (show (k : Int) < 3 by omega))).trans (k4 _)))) ⟨k1, k2⟩
      · refine zw_s (pc' := 16) rfl rfl ?_
        refine zw_s (pc' := 20) rfl rfl ?_
        refine zw_st (n := 2) (k := 4) (f := zp_isI) (pc' := 22) rfl rfl rfl rfl rfl ?_
        refine zw_ld (n := 1) (k := 0) (f := zp_isR) (pc' := 23) rfl rfl (zw_gt l0 rfl rfl) rfl rfl ?_
        refine zw_ld (n := 2) (k := 4) (f := zp_isI) (pc' := 25) rfl rfl zw_g1 rfl rfl ?_
        refine zw_beq1 (g := 32) (pc' := 28) rfl rfl rfl (rfl : _ = (1 : Int)) (fun h9 => absurd h9 (by decide)) (fun h9 => ?_)
        refine zw_ld (n := 1) (k := 2) (f := zp_isI) (pc' := 29) rfl rfl (zw_gt l2 rfl rfl) rfl rfl ?_
        refine zw_s (pc' := 33) rfl rfl ?_
        refine zw_ld (n := 2) (k := 4) (f := zp_isI) (pc' := 35) rfl rfl zw_g1 rfl rfl ?_
        refine zw_beq1 (g := 42) (pc' := 38) rfl rfl rfl (rfl : _ = (1 : Int)) (fun h9 => absurd h9 (by decide)) (fun h9 => ?_)
        refine zw_ld (n := 1) (k := 2) (f := zp_isI) (pc' := 39) rfl rfl (zw_gt l2 rfl rfl) rfl rfl ?_
        refine zw_s (pc' := 44) rfl rfl ?_
        obtain rfl : k = 3 := by omega
        obtain ⟨_, c1, v, H1, rfl, c2, c3⟩ := yc_num (L := L) (σ := σ) (d := dd) (x := r) (y := r) (lo := a) (hi := a) hr hr h
        refine zw_c (pc' := 47) (zw_cv (q := 51) (Y := zm_65) W.1 rfl rfl zm_65_t rfl rfl) rfl rfl rfl rfl rfl (c1) ?_
        refine zw_st (n := 2) (k := 5) (f := zp_isI) (pc' := 49) rfl rfl rfl rfl rfl ?_
        refine zw_ld (n := 2) (k := 5) (f := zp_isI) (pc' := 51) rfl rfl zw_g1 rfl rfl ?_
        refine zw_s (pc' := 52) rfl rfl ?_
        refine zw_bne2 (g := 57) (pc' := 55) rfl rfl rfl rfl (rfl : _ = (-1 : Int)) (fun h4 => ?_) (fun h4 => ?_)
        · rcases c3 with ⟨k1, k2, k3, k4, k5, k6, k7⟩ | ⟨k1, _⟩
          rotate_left
          · omega
          have W1 := zB_Wd k7.1.1
          have hD1 : yDc 22 cp d H1 := yDc_F c2 (by rcases hcp with rfl | rfl <;> rfl) hD
          have hX1 := yXd_F hwc c2 (by rcases hcp with rfl | rfl <;> rfl) hX
          have hha1 : (H1.2.1 22 7).toInt = d.1 5 := hD1.2.2.2.1
          have em : (H1.2.1 22 7 * Int32.ofInt 4).toInt = (H1.2.1 22 7).toInt * 4 := zq_mul rfl (by omega) (by omega)
          have ej : (H1.2.1 22 7 * Int32.ofInt 4 + i).toInt = (H1.2.1 22 7).toInt * 4 + i.toInt := by
            rw [zq_add (by rw [em]; omega) (by rw [em]; omega), em]
          have er : (r - v).toInt = r.toInt - v.toInt := zq_sub (by omega) (by omega)
          have ei : (i + Int32.ofInt 1).toInt = i.toInt + 1 := zw_p1 (by omega)
          have b1 := zB_puta (p := 26) (j := (H1.2.1 22 7 * Int32.ofInt 4 + i).toInt.toNat) (x := v) (t := 0) (n := 20) k7.1.1 rfl (fun r hr => by
            have hr : [((-2147483648 : Int), (2147483647 : Int))][(H1.2.1 22 7 * Int32.ofInt 4 + i).toInt.toNat % 1]? = some r := hr
            rw [Nat.mod_one] at hr
            cases hr
            exact ⟨Int32.le_toInt _, Int32.toInt_le _⟩) (zJc_I rfl k7.1.1.2.2.2.2.2.2.2) (fun k r hr => by cases hr)
          have hD9 : yDc 22 cp d (zw_I H1 26 (H1.2.1 22 7 * Int32.ofInt 4 + i).toInt.toNat v) := by
            obtain ⟨g1, g2, g3, g4, g5, g6, g7, g8, g9, g10⟩ := hD1
            have e : ∀ q k, Nat.beq q 26 = false → ((zw_I H1 26 (H1.2.1 22 7 * Int32.ofInt 4 + i).toInt.toNat v).2.1 q k).toInt = (H1.2.1 q k).toInt := fun q k h1 => congrArg Int32.toInt (zw_ne rfl (by rw [h1]; rfl))
            exact ⟨(e 22 0 rfl).trans g1, (e 22 1 rfl).trans g2, (e cp 0 (by rcases hcp with rfl | rfl <;> rfl)).trans g3, (e 22 7 rfl).trans g4, (e 22 12 rfl).trans g5, (e 22 16 rfl).trans g6, (e 51 2 rfl).trans g7, (e 51 3 rfl).trans g8, g9, g10⟩
          have hloc : yLc 22 cp (500 + (4 * (d.1 5).toNat + ((3 : Nat) : Int).toNat)) = (26, (H1.2.1 22 7 * Int32.ofInt 4 + i).toInt.toNat) := by
            rw [yL_500 (by omega), ej]
            exact congrArg (Prod.mk _) (by omega)
          have hX9 := yXd_wD (v := ys_vl T n q) (yLc_inj hwc) (by omega) hloc k1 hX1
          have hD8 := yDc_W (i := 500 + (4 * (d.1 5).toNat + ((3 : Nat) : Int).toNat)) (v := ys_vl T n q) (by omega) hD9
          have e5 : (yW d (500 + (4 * (d.1 5).toNat + ((3 : Nat) : Int).toNat)) (ys_vl T n q)).1 5 = d.1 5 := yW_n (by omega)
          refine zw_ld (n := 1) (k := 1) (f := zp_isR) (pc' := 58) rfl rfl (zw_gt (zw_gt l1 rfl rfl) rfl rfl) rfl rfl ?_
          refine zw_gR (q := 22) (pc' := 61) W1 rfl rfl rfl rfl (W1.2 22 8 _ rfl) rfl ?_
          refine zw_ld (n := 1) (k := 1) (f := zp_isR) (pc' := 62) rfl rfl (zw_gt (zw_gt l1 rfl rfl) rfl rfl) rfl rfl ?_
          refine zw_gI (q := 22) (pc' := 65) W1 rfl rfl rfl rfl rfl rfl ?_
          refine zw_s (pc' := 66) rfl rfl ?_
          refine zw_imul (pc' := 67) rfl rfl ?_
          refine zw_ld (n := 1) (k := 3) (f := zp_isI) (pc' := 68) rfl rfl (zw_gt (zw_gt l3 rfl rfl) rfl rfl) rfl rfl ?_
          refine zw_iadd (pc' := 69) rfl rfl ?_
          refine zw_ld (n := 2) (k := 5) (f := zp_isI) (pc' := 71) rfl rfl zw_g1 rfl rfl ?_
          refine zw_is (q := 26) (pc' := 72) W1 rfl rfl (by decide) (⟨by rw [ej]; omega, by rw [ej]; show _ < ((20 : Nat) : Int); omega⟩) rfl ?_
          refine zw_ld (n := 1) (k := 2) (f := zp_isI) (pc' := 73) rfl rfl (zw_gt (zw_gt l2 rfl rfl) rfl rfl) rfl rfl ?_
          refine zw_ld (n := 2) (k := 5) (f := zp_isI) (pc' := 75) rfl rfl zw_g1 rfl rfl ?_
          refine zw_isub (pc' := 76) rfl rfl ?_
          refine zw_st (n := 1) (k := 2) (f := zp_isI) (pc' := 77) rfl rfl rfl rfl rfl ?_
          refine zw_ii (pc' := 80) rfl (zw_gt (zw_gt (zw_gt l3 rfl rfl) rfl rfl) rfl rfl) rfl rfl ?_
          refine zw_s (pc' := 5) rfl rfl ?_
          refine ih _ _ _ _ _ 4 (a - ys_vl T n q) (yW d (500 + (4 * (d.1 5).toNat + 3)) (ys_vl T n q)) (by rw [show (yW d (500 + (4 * (d.1 5).toNat + 3)) (ys_vl T n q)).1 5 = d.1 5 from e5]; exact h5) (by omega) (zw_gt (zw_gt (zw_gt (zw_gt l0 rfl rfl) rfl rfl) rfl rfl) rfl rfl) (zw_gt (zw_gt (zw_gt (zw_gt l1 rfl rfl) rfl rfl) rfl rfl) rfl rfl) (zw_gt zw_g1 rfl rfl) zw_g1 (by omega) (by omega) (by omega) (by omega) (yE_I k7 b1 rfl) ⟨hD8, hX9⟩ ?_ (Nat.le_trans hsq (ys_le1 h.2.2))
          rw [if_neg (by omega)]
          exact yR2_t hR (yR2_s ((yN2_13.trans (if_neg (show ¬ ((3 : Nat) : Int) < 3 by decide))).trans (k6 _)))
        · refine zw_s (pc' := 56) rfl rfl ?_
          refine zw_rz rfl rfl (by decide) ?_
          rcases c3 with ⟨k1, k2, k3, k4, _⟩ | ⟨_, k9, k1, k2, k3, k4, k5⟩
          · omega
          · exact yRL_0 k5 k3 (yR2_a hR (yA2_done ((yN2_13.trans (if_neg (show ¬ ((3 : Nat) : Int) < 3 by decide))).trans (k4 _)))) ⟨k1, k2⟩

set_option maxRecDepth 8000 in
theorem yc_hand22 {L : Nat} {σ : Nat → Int32} {dd : Nat} {T : Nat → Int} {n p : Nat} {d : yLD} {cp : Nat} {H : zp_H} (hcp : cp = 13 ∨ cp = 33) (h5 : d.1 5 < 5) (h : yE T n p H) (hD : yDd 22 cp d H) : ∃ X, zp_Call L σ (dd + 5) 79 [.inr (.inr (some 52)), .inr (.inr (some 23))] H X ∧ yRL T n 22 cp (13, [], 0, 12, 0, d, p) X := by
  refine zw_met zm_79_t rfl rfl ?_
  refine zw_s (pc' := 2) rfl rfl ?_
  refine zw_st (n := 1) (k := 2) (f := zp_isI) (pc' := 3) rfl rfl rfl rfl rfl ?_
  refine zw_s (pc' := 4) rfl rfl ?_
  refine zw_st (n := 1) (k := 3) (f := zp_isI) (pc' := 5) rfl rfl rfl rfl rfl ?_
  exact yc_handL22 hcp _ H _ _ _ p 0 12 d h5 (Nat.le_refl _) (zw_gt (zw_gt rfl rfl rfl) rfl rfl) (zw_gt (zw_gt rfl rfl rfl) rfl rfl) (zw_gt zw_g1 rfl rfl) zw_g1 rfl (by decide) rfl ⟨fun _ => by decide, by decide, by decide⟩ h hD (by rw [if_pos (by decide)]; exact yR2_r) (Nat.le_refl _)
