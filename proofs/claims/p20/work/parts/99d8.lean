/-! ===== the class reads a pilot, exactly, with data ===== -/
def zm_82 : za_MI := (yX7_readPilot, prog_9_method_19_code, 8, (some FieldType.boolean), 7, 0, 0, [], za_i82)
theorem zm_82_t : za_MT 82 = some zm_82 := rfl
def zm_83 : za_MI := (yX7_readRead, prog_9_method_20_code, 4, (some FieldType.int), 7, 0, 0, [], za_i83)
theorem zm_83_t : za_MT 83 = some zm_83 := rfl
def yPc (r : Nat) : Nat := (List.range 8).countP (fun s => Nat.testBit r s)
def yPt (r s : Nat) : Bool := (decide (Int32.ofNat r >>> (Int32.ofInt (s : Nat) &&& 31) &&& Int32.ofInt 1 ≠ Int32.ofInt 0)).or ((decide (Int32.ofNat r ||| Int32.ofInt 1 <<< (Int32.ofInt (s : Nat) &&& 31) = Int32.ofNat (r ||| 2 ^ s))).and ((Nat.blt (r ||| 2 ^ s) 256).and (Nat.beq (yPc (r ||| 2 ^ s)) (yPc r + 1))))
theorem yPt_t : (List.range 256).all (fun r => (List.range 8).all (fun s => yPt r s)) = true := by decide +kernel
theorem yPc_8 (r : Nat) : yPc r ≤ 8 := by
  have := List.countP_le_length (p := fun s => Nat.testBit r s) (l := List.range 8)
  exact this
theorem yPt_u {r s : Nat} (hr : r < 256) (hs : s < 8) (h : ¬ (Int32.ofNat r >>> (Int32.ofInt (s : Nat) &&& 31) &&& Int32.ofInt 1 ≠ Int32.ofInt 0)) : Int32.ofNat r ||| Int32.ofInt 1 <<< (Int32.ofInt (s : Nat) &&& 31) = Int32.ofNat (r ||| 2 ^ s) ∧ r ||| 2 ^ s < 256 ∧ yPc (r ||| 2 ^ s) = yPc r + 1 := by
  have t := List.all_eq_true.mp (List.all_eq_true.mp yPt_t r (List.mem_range.mpr hr)) s (List.mem_range.mpr hs)
  unfold yPt at t
  rw [decide_eq_false h] at t
  obtain ⟨t1, t2⟩ := Bool.and_eq_true_iff.mp t
  obtain ⟨t2, t3⟩ := Bool.and_eq_true_iff.mp t2
  exact ⟨of_decide_eq_true t1, za_blt t2, za_beq t3⟩

set_option maxRecDepth 8000 in
theorem yc_rr13 {L : Nat} {σ : Nat → Int32} {dd : Nat} {T : Nat → Int} {n p : Nat} {d : yLD} {H : zp_H} {y : Int32} {xx aa : Int} (hk : ys_kd T n p = 2) (h : yE T n p H) (hD : (H.2.1 13 0).toInt = d.1 4) : ∃ X, zp_Call L σ (dd + 4) 83 [.inr (.inr (some 52)), .inr (.inr (some 14)), .inl y] H X ∧ ∃ v H1, X = (.inl (some (.inl v)), H1) ∧ zk_Fr zg yl_m [] H H1 ∧ ((v.toInt = ys_vl T n p ∧ 0 ≤ ys_vl T n p ∧ (ys_vl T n p ≤ 9999 ∧ ys_vl T n p < d.1 4) ∧ (¬ (y >>> (Int32.ofInt (ys_vl T n p) &&& 31) &&& Int32.ofInt 1 ≠ Int32.ofInt 0)) ∧ yE T n (ys_nx T n p) H1) ∨ (v.toInt = -1 ∧ ∃ k : Int, 1 ≤ k ∧ k ≤ 5 ∧ yFc T n (k, p) H1 ∧ yE T n p H1 ∧ yN2 T n (22, [], xx, aa, y, d, p) = .inr (k, p))) := by
  have W := zB_Wd h.1.1
  have hv0 := ys_vl_n0 h.2.2 hk
  obtain ⟨_, c1, v, H1, rfl, c2, c3⟩ := yc_look (L := L) (σ := σ) (d := dd + 1) (x := Int32.ofInt 0) (y := Int32.ofInt 9999) (lo := 0) (hi := 9999) rfl rfl h
  refine zw_met zm_83_t rfl rfl ?_
  refine zw_ld (n := 1) (k := 0) (f := zp_isR) (pc' := 1) rfl rfl rfl rfl rfl ?_
  refine zw_s (pc' := 2) rfl rfl ?_
  refine zw_s (pc' := 5) rfl rfl ?_
  refine zw_c (pc' := 8) (zw_cv (q := 51) (Y := zm_66) W.1 rfl rfl zm_66_t rfl rfl) rfl rfl rfl rfl rfl (c1) ?_
  refine zw_st (n := 1) (k := 3) (f := zp_isI) (pc' := 9) rfl rfl rfl rfl rfl ?_
  refine zw_ld (n := 1) (k := 3) (f := zp_isI) (pc' := 10) rfl rfl zw_g1 rfl rfl ?_
  refine zw_s (pc' := 11) rfl rfl ?_
  refine zw_bne2 (g := 16) (pc' := 14) rfl rfl rfl rfl (rfl : _ = (-1 : Int)) (fun h1 => ?_) (fun h1 => ?_)
  · rcases c3 with ⟨k1, k2, k3, k4, k5, k6, k7⟩ | ⟨k1, _⟩
    rotate_left
    · omega
    have W1 := zB_Wd k7.1.1
    have f0 : (H1.2.1 13 0).toInt = d.1 4 := by rw [zx_ae c2 13 (fun k => rfl) rfl rfl]; exact hD
    have ev : Int32.ofInt (ys_vl T n p) = v := by rw [← k1, Int32.ofInt_toInt]
    refine zw_ld (n := 1) (k := 3) (f := zp_isI) (pc' := 17) rfl rfl zw_g1 rfl rfl ?_
    refine zw_ld (n := 1) (k := 1) (f := zp_isR) (pc' := 18) rfl rfl (zw_gt rfl rfl rfl) rfl rfl ?_
    refine zw_gI (q := 13) (pc' := 21) W1 rfl rfl rfl rfl rfl rfl ?_
    refine zw_blt2 (g := 32) (pc' := 24) rfl rfl rfl rfl rfl (fun h2 => ?_) (fun h2 => ?_)
    · refine zw_ld (n := 1) (k := 2) (f := zp_isI) (pc' := 33) rfl rfl (zw_gt rfl rfl rfl) rfl rfl ?_
      refine zw_ld (n := 1) (k := 3) (f := zp_isI) (pc' := 34) rfl rfl zw_g1 rfl rfl ?_
      refine zw_ishr (pc' := 35) rfl rfl ?_
      refine zw_s (pc' := 36) rfl rfl ?_
      refine zw_iand (pc' := 37) rfl rfl ?_
      refine zw_beq1 (g := 48) (pc' := 40) rfl rfl rfl rfl (fun h3 => ?_) (fun h3 => ?_)
      · obtain ⟨K, a1, a2, a3⟩ := yc_ad2 (L := L) (σ := σ) (d := dd) k7
        refine zw_ld (n := 1) (k := 0) (f := zp_isR) (pc' := 49) rfl rfl (zw_gt rfl rfl rfl) rfl rfl ?_
        refine zw_gR (q := 51) (pc' := 52) W1 rfl rfl rfl rfl (W1.2 51 0 _ rfl) rfl ?_
        refine zw_cn (pc' := 55) (zw_cv (q := 52) (Y := zm_55) W1.1 rfl rfl zm_55_t rfl rfl) rfl rfl rfl rfl rfl (a1) ?_
        refine zw_ld (n := 1) (k := 3) (f := zp_isI) (pc' := 56) rfl rfl zw_g1 rfl rfl ?_
        refine zw_ri rfl rfl ?_
        refine ⟨_, K, rfl, zk_Fr_t c2 a3, Or.inl ⟨k1, by omega, by omega, ?_, a2⟩⟩
        rw [ev]
        exact fun h9 => h9 (Int32.toInt_inj.mp h3)
      · refine zw_ld (n := 1) (k := 0) (f := zp_isR) (pc' := 41) rfl rfl (zw_gt rfl rfl rfl) rfl rfl ?_
        refine zw_s (pc' := 42) rfl rfl ?_
        obtain ⟨K, e1, e2, e3, e4⟩ := yc_ref (L := L) (σ := σ) (d := dd + 2) (x := Int32.ofInt 4) k7
        refine zw_c (pc' := 45) (zw_cv (q := 51) (Y := zm_62) W1.1 rfl rfl zm_62_t rfl rfl) rfl rfl rfl rfl rfl (e1) ?_
        refine zw_s (pc' := 46) rfl rfl ?_
        refine zw_s (pc' := 47) rfl rfl ?_
        refine zw_ri rfl rfl ?_
        refine ⟨_, K, rfl, zk_Fr_t c2 e3, Or.inr ⟨rfl, 4, by decide, by decide, e4, e2, ?_⟩⟩
        rw [yN2_22, if_pos hk, if_neg (by omega), if_neg (by omega), ev, if_pos (fun h9 => h3 (by rw [h9]; rfl))]
    · refine zw_ld (n := 1) (k := 0) (f := zp_isR) (pc' := 25) rfl rfl (zw_gt rfl rfl rfl) rfl rfl ?_
      refine zw_s (pc' := 26) rfl rfl ?_
      obtain ⟨K, e1, e2, e3, e4⟩ := yc_ref (L := L) (σ := σ) (d := dd + 2) (x := Int32.ofInt 3) k7
      refine zw_c (pc' := 29) (zw_cv (q := 51) (Y := zm_62) W1.1 rfl rfl zm_62_t rfl rfl) rfl rfl rfl rfl rfl (e1) ?_
      refine zw_s (pc' := 30) rfl rfl ?_
      refine zw_s (pc' := 31) rfl rfl ?_
      refine zw_ri rfl rfl ?_
      refine ⟨_, K, rfl, zk_Fr_t c2 e3, Or.inr ⟨rfl, 3, by decide, by decide, e4, e2, ?_⟩⟩
      rw [yN2_22, if_pos hk, if_neg (by omega), if_pos (by omega)]
  · refine zw_s (pc' := 15) rfl rfl ?_
    refine zw_ri rfl rfl ?_
    rcases c3 with ⟨k1, k2, k3, k4, _⟩ | ⟨_, k, k1, k2, k3, k4, k5⟩
    · omega
    · refine ⟨_, H1, rfl, c2, Or.inr ⟨rfl, k, k1, k2, k3, k5, ?_⟩⟩
      have k4 := k4 (fun _ => (0, [], 0, 0, 0, (fun _ => 0, 0, fun _ => false), 0))
      unfold yNu at k4
      rw [if_pos hk] at k4
      by_cases h9 : 0 ≤ ys_vl T n p ∧ ys_vl T n p ≤ 9999
      · rw [if_pos h9] at k4
        cases k4
      · rw [if_neg h9] at k4
        have e : (2, p) = (k, p) := Sum.inr.inj k4
        rw [yN2_22, if_pos hk, if_pos (by omega), e]

set_option maxRecDepth 8000 in
theorem yc_rr33 {L : Nat} {σ : Nat → Int32} {dd : Nat} {T : Nat → Int} {n p : Nat} {d : yLD} {H : zp_H} {y : Int32} {xx aa : Int} (hk : ys_kd T n p = 2) (h : yE T n p H) (hD : (H.2.1 33 0).toInt = d.1 4) : ∃ X, zp_Call L σ (dd + 4) 83 [.inr (.inr (some 52)), .inr (.inr (some 34)), .inl y] H X ∧ ∃ v H1, X = (.inl (some (.inl v)), H1) ∧ zk_Fr zg yl_m [] H H1 ∧ ((v.toInt = ys_vl T n p ∧ 0 ≤ ys_vl T n p ∧ (ys_vl T n p ≤ 9999 ∧ ys_vl T n p < d.1 4) ∧ (¬ (y >>> (Int32.ofInt (ys_vl T n p) &&& 31) &&& Int32.ofInt 1 ≠ Int32.ofInt 0)) ∧ yE T n (ys_nx T n p) H1) ∨ (v.toInt = -1 ∧ ∃ k : Int, 1 ≤ k ∧ k ≤ 5 ∧ yFc T n (k, p) H1 ∧ yE T n p H1 ∧ yN2 T n (22, [], xx, aa, y, d, p) = .inr (k, p))) := by
  have W := zB_Wd h.1.1
  have hv0 := ys_vl_n0 h.2.2 hk
  obtain ⟨_, c1, v, H1, rfl, c2, c3⟩ := yc_look (L := L) (σ := σ) (d := dd + 1) (x := Int32.ofInt 0) (y := Int32.ofInt 9999) (lo := 0) (hi := 9999) rfl rfl h
  refine zw_met zm_83_t rfl rfl ?_
  refine zw_ld (n := 1) (k := 0) (f := zp_isR) (pc' := 1) rfl rfl rfl rfl rfl ?_
  refine zw_s (pc' := 2) rfl rfl ?_
  refine zw_s (pc' := 5) rfl rfl ?_
  refine zw_c (pc' := 8) (zw_cv (q := 51) (Y := zm_66) W.1 rfl rfl zm_66_t rfl rfl) rfl rfl rfl rfl rfl (c1) ?_
  refine zw_st (n := 1) (k := 3) (f := zp_isI) (pc' := 9) rfl rfl rfl rfl rfl ?_
  refine zw_ld (n := 1) (k := 3) (f := zp_isI) (pc' := 10) rfl rfl zw_g1 rfl rfl ?_
  refine zw_s (pc' := 11) rfl rfl ?_
  refine zw_bne2 (g := 16) (pc' := 14) rfl rfl rfl rfl (rfl : _ = (-1 : Int)) (fun h1 => ?_) (fun h1 => ?_)
  · rcases c3 with ⟨k1, k2, k3, k4, k5, k6, k7⟩ | ⟨k1, _⟩
    rotate_left
    · omega
    have W1 := zB_Wd k7.1.1
    have f0 : (H1.2.1 33 0).toInt = d.1 4 := by rw [zx_ae c2 33 (fun k => rfl) rfl rfl]; exact hD
    have ev : Int32.ofInt (ys_vl T n p) = v := by rw [← k1, Int32.ofInt_toInt]
    refine zw_ld (n := 1) (k := 3) (f := zp_isI) (pc' := 17) rfl rfl zw_g1 rfl rfl ?_
    refine zw_ld (n := 1) (k := 1) (f := zp_isR) (pc' := 18) rfl rfl (zw_gt rfl rfl rfl) rfl rfl ?_
    refine zw_gI (q := 33) (pc' := 21) W1 rfl rfl rfl rfl rfl rfl ?_
    refine zw_blt2 (g := 32) (pc' := 24) rfl rfl rfl rfl rfl (fun h2 => ?_) (fun h2 => ?_)
    · refine zw_ld (n := 1) (k := 2) (f := zp_isI) (pc' := 33) rfl rfl (zw_gt rfl rfl rfl) rfl rfl ?_
      refine zw_ld (n := 1) (k := 3) (f := zp_isI) (pc' := 34) rfl rfl zw_g1 rfl rfl ?_
      refine zw_ishr (pc' := 35) rfl rfl ?_
      refine zw_s (pc' := 36) rfl rfl ?_
      refine zw_iand (pc' := 37) rfl rfl ?_
      refine zw_beq1 (g := 48) (pc' := 40) rfl rfl rfl rfl (fun h3 => ?_) (fun h3 => ?_)
      · obtain ⟨K, a1, a2, a3⟩ := yc_ad2 (L := L) (σ := σ) (d := dd) k7
        refine zw_ld (n := 1) (k := 0) (f := zp_isR) (pc' := 49) rfl rfl (zw_gt rfl rfl rfl) rfl rfl ?_
        refine zw_gR (q := 51) (pc' := 52) W1 rfl rfl rfl rfl (W1.2 51 0 _ rfl) rfl ?_
        refine zw_cn (pc' := 55) (zw_cv (q := 52) (Y := zm_55) W1.1 rfl rfl zm_55_t rfl rfl) rfl rfl rfl rfl rfl (a1) ?_
        refine zw_ld (n := 1) (k := 3) (f := zp_isI) (pc' := 56) rfl rfl zw_g1 rfl rfl ?_
        refine zw_ri rfl rfl ?_
        refine ⟨_, K, rfl, zk_Fr_t c2 a3, Or.inl ⟨k1, by omega, by omega, ?_, a2⟩⟩
        rw [ev]
        exact fun h9 => h9 (Int32.toInt_inj.mp h3)
      · refine zw_ld (n := 1) (k := 0) (f := zp_isR) (pc' := 41) rfl rfl (zw_gt rfl rfl rfl) rfl rfl ?_
        refine zw_s (pc' := 42) rfl rfl ?_
        obtain ⟨K, e1, e2, e3, e4⟩ := yc_ref (L := L) (σ := σ) (d := dd + 2) (x := Int32.ofInt 4) k7
        refine zw_c (pc' := 45) (zw_cv (q := 51) (Y := zm_62) W1.1 rfl rfl zm_62_t rfl rfl) rfl rfl rfl rfl rfl (e1) ?_
        refine zw_s (pc' := 46) rfl rfl ?_
        refine zw_s (pc' := 47) rfl rfl ?_
        refine zw_ri rfl rfl ?_
        refine ⟨_, K, rfl, zk_Fr_t c2 e3, Or.inr ⟨rfl, 4, by decide, by decide, e4, e2, ?_⟩⟩
        rw [yN2_22, if_pos hk, if_neg (by omega), if_neg (by omega), ev, if_pos (fun h9 => h3 (by rw [h9]; rfl))]
    · refine zw_ld (n := 1) (k := 0) (f := zp_isR) (pc' := 25) rfl rfl (zw_gt rfl rfl rfl) rfl rfl ?_
      refine zw_s (pc' := 26) rfl rfl ?_
      obtain ⟨K, e1, e2, e3, e4⟩ := yc_ref (L := L) (σ := σ) (d := dd + 2) (x := Int32.ofInt 3) k7
      refine zw_c (pc' := 29) (zw_cv (q := 51) (Y := zm_62) W1.1 rfl rfl zm_62_t rfl rfl) rfl rfl rfl rfl rfl (e1) ?_
      refine zw_s (pc' := 30) rfl rfl ?_
      refine zw_s (pc' := 31) rfl rfl ?_
      refine zw_ri rfl rfl ?_
      refine ⟨_, K, rfl, zk_Fr_t c2 e3, Or.inr ⟨rfl, 3, by decide, by decide, e4, e2, ?_⟩⟩
      rw [yN2_22, if_pos hk, if_neg (by omega), if_pos (by omega)]
  · refine zw_s (pc' := 15) rfl rfl ?_
    refine zw_ri rfl rfl ?_
    rcases c3 with ⟨k1, k2, k3, k4, _⟩ | ⟨_, k, k1, k2, k3, k4, k5⟩
    · omega
    · refine ⟨_, H1, rfl, c2, Or.inr ⟨rfl, k, k1, k2, k3, k5, ?_⟩⟩
      have k4 := k4 (fun _ => (0, [], 0, 0, 0, (fun _ => 0, 0, fun _ => false), 0))
      unfold yNu at k4
      rw [if_pos hk] at k4
      by_cases h9 : 0 ≤ ys_vl T n p ∧ ys_vl T n p ≤ 9999
      · rw [if_pos h9] at k4
        cases k4
      · rw [if_neg h9] at k4
        have e : (2, p) = (k, p) := Sum.inr.inj k4
        rw [yN2_22, if_pos hk, if_pos (by omega), e]

set_option maxRecDepth 8000 in
theorem yc_piL2_13 {L : Nat} {σ : Nat → Int32} {dd : Nat} {T : Nat → Int} {n : Nat} {s0 : yL} {d : yLD} {xc xh : Int32} (hc : 0 ≤ xc.toInt ∧ xc.toInt ≤ 63) (h4 : d.1 6 < 4) : ∀ (m : Nat) (H : zp_H) (lv9 : zp_LV) (i y : Int32) (q r : Nat), 8 - yPc r ≤ m → zp_get lv9 0 = some (.inr (.inr (some 52))) → zp_get lv9 1 = some (.inr (.inr (some 3))) → zp_get lv9 2 = some (.inr (.inr (some 14))) → zp_get lv9 3 = some (.inl xc) → zp_get lv9 4 = some (.inl xh) → zp_get lv9 5 = some (.inl y) → zp_get lv9 6 = some (.inl i) → y = Int32.ofNat r → r < 256 → i.toInt = yPc r → yE T n q H → yDd 2 13 d H → yR2 T n s0 (22, [], xc.toInt, xh.toInt, y, d, q) → s0.2.2.2.2.2.2 ≤ q → zs_Safe L σ (yRL T n 2 13 s0) zm_82 [] (dd + 4) (39, lv9, [], H, (0, 0)) := by
  intro m
  induction m with
  | zero =>
    intro H lv9 i y q r hm l0 l1 l2 l3 l4 l5 l6 hy hr hi h hDd hR hsq
    obtain ⟨hD, hX⟩ := hDd
    have hwc : yWC 2 13 := ⟨by decide, by decide⟩
    have W := zB_Wd h.1.1
    have h4k := yE_4 h
    have h8 := yPc_8 r
    have r12 := zB_fr1 h.1.1 (p := 2) (k := 12) (r := (0, 4)) rfl
    have r12 : 0 ≤ (H.2.1 2 12).toInt ∧ (H.2.1 2 12).toInt ≤ 4 := r12
    have hpl : (H.2.1 2 12).toInt = d.1 6 := hD.2.2.2.2.1
    have rsl := zB_fr1 h.1.1 (p := 13) (k := 0) (r := (0, 8)) rfl
    have rsl : 0 ≤ (H.2.1 13 0).toInt ∧ (H.2.1 13 0).toInt ≤ 8 := rsl
    have hsl : (H.2.1 13 0).toInt = d.1 4 := hD.2.2.1
    refine zw_ld (n := 2) (k := 6) (f := zp_isI) (pc' := 41) rfl rfl l6 rfl rfl ?_
    refine zw_s (pc' := 43) rfl rfl ?_
    refine zw_bgt2 (g := 89) (pc' := 46) rfl rfl rfl rfl (rfl : _ = (8 : Int)) (fun h7 => ?_) (fun h7 => ?_)
    · omega
    · refine zw_ld (n := 1) (k := 0) (f := zp_isR) (pc' := 47) rfl rfl l0 rfl rfl ?_
      refine zw_gR (q := 51) (pc' := 50) W rfl rfl rfl rfl (W.2 51 0 _ rfl) rfl ?_
      refine zw_gI (q := 52) (pc' := 53) W rfl rfl rfl rfl rfl rfl ?_
      refine zw_s (pc' := 54) rfl rfl ?_
      refine zw_bne2 (g := 89) (pc' := 57) rfl rfl rfl rfl (rfl : _ = (2 : Int)) (fun h2 => ?_) (fun h2 => ?_)
      · have e12 : (H.2.1 2 12 + Int32.ofInt 1).toInt = (H.2.1 2 12).toInt + 1 := zw_p1 (by omega)
        have b1 := zB_puta (p := 7) (j := (H.2.1 2 12).toInt.toNat) (x := xc) (t := 0) (n := 4) h.1.1 rfl (fun r hr => by
          have hr : [((0 : Int), (63 : Int))][(H.2.1 2 12).toInt.toNat % 1]? = some r := hr
          rw [Nat.mod_one] at hr
          cases hr
          exact hc) (zJc_I rfl h.1.1.2.2.2.2.2.2.2) (fun k r hr => by cases hr)
        have b2 := zB_puta (p := 8) (j := (H.2.1 2 12).toInt.toNat) (x := xh) (t := 0) (n := 4) b1 rfl (fun r hr => by
          have hr : [((-2147483648 : Int), (2147483647 : Int))][(H.2.1 2 12).toInt.toNat % 1]? = some r := hr
          rw [Nat.mod_one] at hr
          cases hr
          exact ⟨Int32.le_toInt _, Int32.toInt_le _⟩) (zJc_I rfl b1.2.2.2.2.2.2.2) (fun k r hr => by cases hr)
        have b3 := zB_puta (p := 9) (j := (H.2.1 2 12).toInt.toNat) (x := y) (t := 0) (n := 4) b2 rfl (fun r hr => by
          have hr : [((-2147483648 : Int), (2147483647 : Int))][(H.2.1 2 12).toInt.toNat % 1]? = some r := hr
          rw [Nat.mod_one] at hr
          cases hr
          exact ⟨Int32.le_toInt _, Int32.toInt_le _⟩) (zJc_I rfl b2.2.2.2.2.2.2.2) (fun k r hr => by cases hr)
        have b4 := zB_putf (p := 2) (k := 12) (x := H.2.1 2 12 + Int32.ofInt 1) b3 rfl (fun r hr => by cases hr; exact ⟨by show (0 : Int) ≤ _; omega, by show _ ≤ (4 : Int); omega⟩) (zJc_I rfl b3.2.2.2.2.2.2.2)
        have hn2 : ¬ ys_kd T n q = 2 := by omega
        refine zw_ld (n := 1) (k := 1) (f := zp_isR) (pc' := 90) rfl rfl l1 rfl rfl ?_
        refine zw_gR (q := 2) (pc' := 93) W rfl rfl rfl rfl (W.2 2 13 _ rfl) rfl ?_
        refine zw_ld (n := 1) (k := 1) (f := zp_isR) (pc' := 94) rfl rfl l1 rfl rfl ?_
        refine zw_gI (q := 2) (pc' := 97) W rfl rfl rfl rfl rfl rfl ?_
        refine zw_ld (n := 1) (k := 3) (f := zp_isI) (pc' := 98) rfl rfl l3 rfl rfl ?_
        refine zw_is (q := 7) (pc' := 99) W rfl rfl (by decide) (⟨r12.1, by show _ < ((4 : Nat) : Int); omega⟩) rfl ?_
        refine zw_ld (n := 1) (k := 1) (f := zp_isR) (pc' := 100) rfl rfl l1 rfl rfl ?_
        refine zw_gR (q := 2) (pc' := 103) W rfl rfl rfl rfl (W.2 2 14 _ rfl) rfl ?_
        refine zw_ld (n := 1) (k := 1) (f := zp_isR) (pc' := 104) rfl rfl l1 rfl rfl ?_
        refine zw_gI (q := 2) (pc' := 107) W rfl rfl rfl rfl (zw_ne rfl rfl) rfl ?_
        refine zw_ld (n := 2) (k := 4) (f := zp_isI) (pc' := 109) rfl rfl l4 rfl rfl ?_
        refine zw_is (q := 8) (pc' := 110) W rfl rfl (by decide) (⟨r12.1, by show _ < ((4 : Nat) : Int); omega⟩) rfl ?_
        refine zw_ld (n := 1) (k := 1) (f := zp_isR) (pc' := 111) rfl rfl l1 rfl rfl ?_
        refine zw_gR (q := 2) (pc' := 114) W rfl rfl rfl rfl (W.2 2 15 _ rfl) rfl ?_
        refine zw_ld (n := 1) (k := 1) (f := zp_isR) (pc' := 115) rfl rfl l1 rfl rfl ?_
        refine zw_gI (q := 2) (pc' := 118) W rfl rfl rfl rfl (zw_ne (zw_ne rfl rfl) rfl) rfl ?_
        refine zw_ld (n := 2) (k := 5) (f := zp_isI) (pc' := 120) rfl rfl l5 rfl rfl ?_
        refine zw_is (q := 9) (pc' := 121) W rfl rfl (by decide) (⟨r12.1, by show _ < ((4 : Nat) : Int); omega⟩) rfl ?_
        refine zw_ld (n := 1) (k := 1) (f := zp_isR) (pc' := 122) rfl rfl l1 rfl rfl ?_
        refine zw_s (pc' := 123) rfl rfl ?_
        refine zw_gI (q := 2) (pc' := 126) W rfl rfl rfl rfl (zw_ne (zw_ne (zw_ne rfl rfl) rfl) rfl) rfl ?_
        refine zw_s (pc' := 127) rfl rfl ?_
        refine zw_iadd (pc' := 128) rfl rfl ?_
        refine zw_pI (q := 2) (pc' := 131) W rfl rfl rfl rfl rfl rfl ?_
        refine zw_s (pc' := 132) rfl rfl ?_
        refine zw_rz rfl rfl (by decide) ?_
        refine yRL_1 (yE_I (yE_I (yE_I (yE_I h b1 rfl) b2 rfl) b3 rfl) b4 rfl) (d' := yWpi d xc.toInt xh.toInt y) ⟨yDc_W (by omega) (yDc_W (by omega) (yDc_W (by omega) ?_)), yXd_o (by decide) (yXd_wD (yLc_inj hwc) (by omega) (by rw [yL_620 (by omega), hpl]) rfl (yXd_wD (yLc_inj hwc) (by omega) (by rw [yL_610 (by omega), hpl]) rfl (yXd_wD (yLc_inj hwc) (by omega) (by rw [yL_600 (by omega), hpl]) rfl (yXd_k (by decide) hX))))⟩ (yR2_t hR (yR2_s (yN2_22.trans (if_neg hn2)))) hsq
        obtain ⟨g1, g2, g3, g4, g5, g6, g7, g8, g9, g10⟩ := hD
        have e : ∀ q k, ((Nat.beq q 2).and (Nat.beq k 12)) = false → Nat.beq q 7 = false → Nat.beq q 8 = false → Nat.beq q 9 = false → ((zw_I (zw_I (zw_I (zw_I H 7 (H.2.1 2 12).toInt.toNat xc) 8 (H.2.1 2 12).toInt.toNat xh) 9 (H.2.1 2 12).toInt.toNat y) 2 12 (H.2.1 2 12 + Int32.ofInt 1)).2.1 q k).toInt = (H.2.1 q k).toInt := fun q k h1 h2 h3 h4 => congrArg Int32.toInt (zw_ne (zw_ne (zw_ne (zw_ne rfl (by rw [h2]; rfl)) (by rw [h3]; rfl)) (by rw [h4]; rfl)) h1)
        exact ⟨(e 2 0 rfl rfl rfl rfl).trans g1, (e 2 1 rfl rfl rfl rfl).trans g2, (e 13 0 rfl rfl rfl rfl).trans g3, (e 2 7 rfl rfl rfl rfl).trans g4, (congrArg Int32.toInt zw_eq).trans (by rw [e12, hpl]; rfl), (e 2 16 rfl rfl rfl rfl).trans g6, (e 51 2 rfl rfl rfl rfl).trans g7, (e 51 3 rfl rfl rfl rfl).trans g8, g9, g10⟩
      · have hk2 : ys_kd T n q = 2 := by omega
        obtain ⟨_, c1, v, H1, rfl, c2, c3⟩ := yc_rr13 (L := L) (σ := σ) (dd := dd) (d := d) (y := y) (xx := xc.toInt) (aa := xh.toInt) hk2 h hD.2.2.1
        refine zw_ld (n := 1) (k := 0) (f := zp_isR) (pc' := 58) rfl rfl l0 rfl rfl ?_
        refine zw_ld (n := 1) (k := 2) (f := zp_isR) (pc' := 59) rfl rfl l2 rfl rfl ?_
        refine zw_ld (n := 2) (k := 5) (f := zp_isI) (pc' := 61) rfl rfl l5 rfl rfl ?_
        refine zw_c (pc' := 64) (zw_cv (q := 51) (Y := zm_83) W.1 rfl rfl zm_83_t rfl rfl) rfl rfl rfl rfl rfl (c1) ?_
        refine zw_st (n := 2) (k := 7) (f := zp_isI) (pc' := 66) rfl rfl rfl rfl rfl ?_
        refine zw_ld (n := 2) (k := 7) (f := zp_isI) (pc' := 68) rfl rfl zw_g1 rfl rfl ?_
        refine zw_s (pc' := 69) rfl rfl ?_
        refine zw_bne2 (g := 74) (pc' := 72) rfl rfl rfl rfl (rfl : _ = (-1 : Int)) (fun h6 => ?_) (fun h6 => ?_)
        · rcases c3 with ⟨k1, k2, k3, k4, k5⟩ | ⟨k1, _⟩
          rotate_left
          · omega
          have W1 := zB_Wd k5.1.1
          have hD1 : yDd 2 13 d H1 := yDd_F hwc c2 rfl rfl ⟨hD, hX⟩
          obtain ⟨s, hs, es⟩ : ∃ s : Nat, s < 8 ∧ ys_vl T n q = (s : Int) := ⟨(ys_vl T n q).toNat, by omega, by omega⟩
          have ev : v = Int32.ofInt (ys_vl T n q) := by rw [← k1, Int32.ofInt_toInt]
          have hN : yN2 T n (22, [], xc.toInt, xh.toInt, y, d, q) = .inl (22, [], xc.toInt, xh.toInt, y ||| Int32.ofInt 1 <<< (Int32.ofInt (ys_vl T n q) &&& 31), d, ys_nx T n q) := by
            rw [yN2_22, if_pos hk2, if_neg (by omega), if_neg (by omega), if_neg k4]
          have k4 := k4
          rw [es, hy] at k4
          obtain ⟨u1, u2, u3⟩ := yPt_u hr hs k4
          have ei : (i + Int32.ofInt 1).toInt = i.toInt + 1 := zw_p1 (by omega)
          refine zw_ld (n := 2) (k := 5) (f := zp_isI) (pc' := 76) rfl rfl (zw_gt l5 rfl rfl) rfl rfl ?_
          refine zw_s (pc' := 77) rfl rfl ?_
          refine zw_ld (n := 2) (k := 7) (f := zp_isI) (pc' := 79) rfl rfl zw_g1 rfl rfl ?_
          refine zw_ishl (pc' := 80) rfl rfl ?_
          refine zw_ior (pc' := 81) rfl rfl ?_
          refine zw_st (n := 2) (k := 5) (f := zp_isI) (pc' := 83) rfl rfl rfl rfl rfl ?_
          refine zw_ii (pc' := 86) rfl (zw_gt (zw_gt l6 rfl rfl) rfl rfl) rfl rfl ?_
          refine zw_s (pc' := 39) rfl rfl ?_
          exfalso
          have := yPc_8 (r ||| 2 ^ s)
          omega
        · refine zw_s (pc' := 73) rfl rfl ?_
          refine zw_rz rfl rfl (by decide) ?_
          rcases c3 with ⟨k1, k2, _⟩ | ⟨_, k, k1, k2, k3, k4, k5⟩
          · omega
          · exact yRL_0 k4 k3 (yR2_a hR (yA2_done k5)) ⟨k1, k2⟩
  | succ m ih =>
    intro H lv9 i y q r hm l0 l1 l2 l3 l4 l5 l6 hy hr hi h hDd hR hsq
    obtain ⟨hD, hX⟩ := hDd
    have hwc : yWC 2 13 := ⟨by decide, by decide⟩
    have W := zB_Wd h.1.1
    have h4k := yE_4 h
    have h8 := yPc_8 r
    have r12 := zB_fr1 h.1.1 (p := 2) (k := 12) (r := (0, 4)) rfl
    have r12 : 0 ≤ (H.2.1 2 12).toInt ∧ (H.2.1 2 12).toInt ≤ 4 := r12
    have hpl : (H.2.1 2 12).toInt = d.1 6 := hD.2.2.2.2.1
    have rsl := zB_fr1 h.1.1 (p := 13) (k := 0) (r := (0, 8)) rfl
    have rsl : 0 ≤ (H.2.1 13 0).toInt ∧ (H.2.1 13 0).toInt ≤ 8 := rsl
    have hsl : (H.2.1 13 0).toInt = d.1 4 := hD.2.2.1
    refine zw_ld (n := 2) (k := 6) (f := zp_isI) (pc' := 41) rfl rfl l6 rfl rfl ?_
    refine zw_s (pc' := 43) rfl rfl ?_
    refine zw_bgt2 (g := 89) (pc' := 46) rfl rfl rfl rfl (rfl : _ = (8 : Int)) (fun h7 => ?_) (fun h7 => ?_)
    · omega
    · refine zw_ld (n := 1) (k := 0) (f := zp_isR) (pc' := 47) rfl rfl l0 rfl rfl ?_
      refine zw_gR (q := 51) (pc' := 50) W rfl rfl rfl rfl (W.2 51 0 _ rfl) rfl ?_
      refine zw_gI (q := 52) (pc' := 53) W rfl rfl rfl rfl rfl rfl ?_
      refine zw_s (pc' := 54) rfl rfl ?_
      refine zw_bne2 (g := 89) (pc' := 57) rfl rfl rfl rfl (rfl : _ = (2 : Int)) (fun h2 => ?_) (fun h2 => ?_)
      · have e12 : (H.2.1 2 12 + Int32.ofInt 1).toInt = (H.2.1 2 12).toInt + 1 := zw_p1 (by omega)
        have b1 := zB_puta (p := 7) (j := (H.2.1 2 12).toInt.toNat) (x := xc) (t := 0) (n := 4) h.1.1 rfl (fun r hr => by
          have hr : [((0 : Int), (63 : Int))][(H.2.1 2 12).toInt.toNat % 1]? = some r := hr
          rw [Nat.mod_one] at hr
          cases hr
          exact hc) (zJc_I rfl h.1.1.2.2.2.2.2.2.2) (fun k r hr => by cases hr)
        have b2 := zB_puta (p := 8) (j := (H.2.1 2 12).toInt.toNat) (x := xh) (t := 0) (n := 4) b1 rfl (fun r hr => by
          have hr : [((-2147483648 : Int), (2147483647 : Int))][(H.2.1 2 12).toInt.toNat % 1]? = some r := hr
          rw [Nat.mod_one] at hr
          cases hr
          exact ⟨Int32.le_toInt _, Int32.toInt_le _⟩) (zJc_I rfl b1.2.2.2.2.2.2.2) (fun k r hr => by cases hr)
        have b3 := zB_puta (p := 9) (j := (H.2.1 2 12).toInt.toNat) (x := y) (t := 0) (n := 4) b2 rfl (fun r hr => by
          have hr : [((-2147483648 : Int), (2147483647 : Int))][(H.2.1 2 12).toInt.toNat % 1]? = some r := hr
          rw [Nat.mod_one] at hr
          cases hr
          exact ⟨Int32.le_toInt _, Int32.toInt_le _⟩) (zJc_I rfl b2.2.2.2.2.2.2.2) (fun k r hr => by cases hr)
        have b4 := zB_putf (p := 2) (k := 12) (x := H.2.1 2 12 + Int32.ofInt 1) b3 rfl (fun r hr => by cases hr; exact ⟨by show (0 : Int) ≤ _; omega, by show _ ≤ (4 : Int); omega⟩) (zJc_I rfl b3.2.2.2.2.2.2.2)
        have hn2 : ¬ ys_kd T n q = 2 := by omega
        refine zw_ld (n := 1) (k := 1) (f := zp_isR) (pc' := 90) rfl rfl l1 rfl rfl ?_
        refine zw_gR (q := 2) (pc' := 93) W rfl rfl rfl rfl (W.2 2 13 _ rfl) rfl ?_
        refine zw_ld (n := 1) (k := 1) (f := zp_isR) (pc' := 94) rfl rfl l1 rfl rfl ?_
        refine zw_gI (q := 2) (pc' := 97) W rfl rfl rfl rfl rfl rfl ?_
        refine zw_ld (n := 1) (k := 3) (f := zp_isI) (pc' := 98) rfl rfl l3 rfl rfl ?_
        refine zw_is (q := 7) (pc' := 99) W rfl rfl (by decide) (⟨r12.1, by show _ < ((4 : Nat) : Int); omega⟩) rfl ?_
        refine zw_ld (n := 1) (k := 1) (f := zp_isR) (pc' := 100) rfl rfl l1 rfl rfl ?_
        refine zw_gR (q := 2) (pc' := 103) W rfl rfl rfl rfl (W.2 2 14 _ rfl) rfl ?_
        refine zw_ld (n := 1) (k := 1) (f := zp_isR) (pc' := 104) rfl rfl l1 rfl rfl ?_
        refine zw_gI (q := 2) (pc' := 107) W rfl rfl rfl rfl (zw_ne rfl rfl) rfl ?_
        refine zw_ld (n := 2) (k := 4) (f := zp_isI) (pc' := 109) rfl rfl l4 rfl rfl ?_
        refine zw_is (q := 8) (pc' := 110) W rfl rfl (by decide) (⟨r12.1, by show _ < ((4 : Nat) : Int); omega⟩) rfl ?_
        refine zw_ld (n := 1) (k := 1) (f := zp_isR) (pc' := 111) rfl rfl l1 rfl rfl ?_
        refine zw_gR (q := 2) (pc' := 114) W rfl rfl rfl rfl (W.2 2 15 _ rfl) rfl ?_
        refine zw_ld (n := 1) (k := 1) (f := zp_isR) (pc' := 115) rfl rfl l1 rfl rfl ?_
        refine zw_gI (q := 2) (pc' := 118) W rfl rfl rfl rfl (zw_ne (zw_ne rfl rfl) rfl) rfl ?_
        refine zw_ld (n := 2) (k := 5) (f := zp_isI) (pc' := 120) rfl rfl l5 rfl rfl ?_
        refine zw_is (q := 9) (pc' := 121) W rfl rfl (by decide) (⟨r12.1, by show _ < ((4 : Nat) : Int); omega⟩) rfl ?_
        refine zw_ld (n := 1) (k := 1) (f := zp_isR) (pc' := 122) rfl rfl l1 rfl rfl ?_
        refine zw_s (pc' := 123) rfl rfl ?_
        refine zw_gI (q := 2) (pc' := 126) W rfl rfl rfl rfl (zw_ne (zw_ne (zw_ne rfl rfl) rfl) rfl) rfl ?_
        refine zw_s (pc' := 127) rfl rfl ?_
        refine zw_iadd (pc' := 128) rfl rfl ?_
        refine zw_pI (q := 2) (pc' := 131) W rfl rfl rfl rfl rfl rfl ?_
        refine zw_s (pc' := 132) rfl rfl ?_
        refine zw_rz rfl rfl (by decide) ?_
        refine yRL_1 (yE_I (yE_I (yE_I (yE_I h b1 rfl) b2 rfl) b3 rfl) b4 rfl) (d' := yWpi d xc.toInt xh.toInt y) ⟨yDc_W (by omega) (yDc_W (by omega) (yDc_W (by omega) ?_)), yXd_o (by decide) (yXd_wD (yLc_inj hwc) (by omega) (by rw [yL_620 (by omega), hpl]) rfl (yXd_wD (yLc_inj hwc) (by omega) (by rw [yL_610 (by omega), hpl]) rfl (yXd_wD (yLc_inj hwc) (by omega) (by rw [yL_600 (by omega), hpl]) rfl (yXd_k (by decide) hX))))⟩ (yR2_t hR (yR2_s (yN2_22.trans (if_neg hn2)))) hsq
        obtain ⟨g1, g2, g3, g4, g5, g6, g7, g8, g9, g10⟩ := hD
        have e : ∀ q k, ((Nat.beq q 2).and (Nat.beq k 12)) = false → Nat.beq q 7 = false → Nat.beq q 8 = false → Nat.beq q 9 = false → ((zw_I (zw_I (zw_I (zw_I H 7 (H.2.1 2 12).toInt.toNat xc) 8 (H.2.1 2 12).toInt.toNat xh) 9 (H.2.1 2 12).toInt.toNat y) 2 12 (H.2.1 2 12 + Int32.ofInt 1)).2.1 q k).toInt = (H.2.1 q k).toInt := fun q k h1 h2 h3 h4 => congrArg Int32.toInt (zw_ne (zw_ne (zw_ne (zw_ne rfl (by rw [h2]; rfl)) (by rw [h3]; rfl)) (by rw [h4]; rfl)) h1)
        exact ⟨(e 2 0 rfl rfl rfl rfl).trans g1, (e 2 1 rfl rfl rfl rfl).trans g2, (e 13 0 rfl rfl rfl rfl).trans g3, (e 2 7 rfl rfl rfl rfl).trans g4, (congrArg Int32.toInt zw_eq).trans (by rw [e12, hpl]; rfl), (e 2 16 rfl rfl rfl rfl).trans g6, (e 51 2 rfl rfl rfl rfl).trans g7, (e 51 3 rfl rfl rfl rfl).trans g8, g9, g10⟩
      · have hk2 : ys_kd T n q = 2 := by omega
        obtain ⟨_, c1, v, H1, rfl, c2, c3⟩ := yc_rr13 (L := L) (σ := σ) (dd := dd) (d := d) (y := y) (xx := xc.toInt) (aa := xh.toInt) hk2 h hD.2.2.1
        refine zw_ld (n := 1) (k := 0) (f := zp_isR) (pc' := 58) rfl rfl l0 rfl rfl ?_
        refine zw_ld (n := 1) (k := 2) (f := zp_isR) (pc' := 59) rfl rfl l2 rfl rfl ?_
        refine zw_ld (n := 2) (k := 5) (f := zp_isI) (pc' := 61) rfl rfl l5 rfl rfl ?_
        refine zw_c (pc' := 64) (zw_cv (q := 51) (Y := zm_83) W.1 rfl rfl zm_83_t rfl rfl) rfl rfl rfl rfl rfl (c1) ?_
        refine zw_st (n := 2) (k := 7) (f := zp_isI) (pc' := 66) rfl rfl rfl rfl rfl ?_
        refine zw_ld (n := 2) (k := 7) (f := zp_isI) (pc' := 68) rfl rfl zw_g1 rfl rfl ?_
        refine zw_s (pc' := 69) rfl rfl ?_
        refine zw_bne2 (g := 74) (pc' := 72) rfl rfl rfl rfl (rfl : _ = (-1 : Int)) (fun h6 => ?_) (fun h6 => ?_)
        · rcases c3 with ⟨k1, k2, k3, k4, k5⟩ | ⟨k1, _⟩
          rotate_left
          · omega
          have W1 := zB_Wd k5.1.1
          have hD1 : yDd 2 13 d H1 := yDd_F hwc c2 rfl rfl ⟨hD, hX⟩
          obtain ⟨s, hs, es⟩ : ∃ s : Nat, s < 8 ∧ ys_vl T n q = (s : Int) := ⟨(ys_vl T n q).toNat, by omega, by omega⟩
          have ev : v = Int32.ofInt (ys_vl T n q) := by rw [← k1, Int32.ofInt_toInt]
          have hN : yN2 T n (22, [], xc.toInt, xh.toInt, y, d, q) = .inl (22, [], xc.toInt, xh.toInt, y ||| Int32.ofInt 1 <<< (Int32.ofInt (ys_vl T n q) &&& 31), d, ys_nx T n q) := by
            rw [yN2_22, if_pos hk2, if_neg (by omega), if_neg (by omega), if_neg k4]
          have k4 := k4
          rw [es, hy] at k4
          obtain ⟨u1, u2, u3⟩ := yPt_u hr hs k4
          have ei : (i + Int32.ofInt 1).toInt = i.toInt + 1 := zw_p1 (by omega)
          refine zw_ld (n := 2) (k := 5) (f := zp_isI) (pc' := 76) rfl rfl (zw_gt l5 rfl rfl) rfl rfl ?_
          refine zw_s (pc' := 77) rfl rfl ?_
          refine zw_ld (n := 2) (k := 7) (f := zp_isI) (pc' := 79) rfl rfl zw_g1 rfl rfl ?_
          refine zw_ishl (pc' := 80) rfl rfl ?_
          refine zw_ior (pc' := 81) rfl rfl ?_
          refine zw_st (n := 2) (k := 5) (f := zp_isI) (pc' := 83) rfl rfl rfl rfl rfl ?_
          refine zw_ii (pc' := 86) rfl (zw_gt (zw_gt l6 rfl rfl) rfl rfl) rfl rfl ?_
          refine zw_s (pc' := 39) rfl rfl ?_
          refine ih _ _ _ _ _ (r ||| 2 ^ s) (by omega) (zw_gt (zw_gt (zw_gt l0 rfl rfl) rfl rfl) rfl rfl) (zw_gt (zw_gt (zw_gt l1 rfl rfl) rfl rfl) rfl rfl) (zw_gt (zw_gt (zw_gt l2 rfl rfl) rfl rfl) rfl rfl) (zw_gt (zw_gt (zw_gt l3 rfl rfl) rfl rfl) rfl rfl) (zw_gt (zw_gt (zw_gt l4 rfl rfl) rfl rfl) rfl rfl) (zw_gt zw_g1 rfl rfl) zw_g1 ?_ u2 (by omega) k5 hD1 ?_ (Nat.le_trans hsq (ys_le1 h.2.2))
          · rw [ev, es, hy]
            exact u1
          · rw [ev]
            exact yR2_t hR (yR2_s hN)
        · refine zw_s (pc' := 73) rfl rfl ?_
          refine zw_rz rfl rfl (by decide) ?_
          rcases c3 with ⟨k1, k2, _⟩ | ⟨_, k, k1, k2, k3, k4, k5⟩
          · omega
          · exact yRL_0 k4 k3 (yR2_a hR (yA2_done k5)) ⟨k1, k2⟩

set_option maxRecDepth 8000 in
theorem yc_pilot2_13 {L : Nat} {σ : Nat → Int32} {dd : Nat} {T : Nat → Int} {n p : Nat} {d : yLD} {H : zp_H} (h4 : d.1 6 < 4) (h : yE T n p H) (hDd : yDd 2 13 d H) : ∃ X, zp_Call L σ (dd + 5) 82 [.inr (.inr (some 52)), .inr (.inr (some 3)), .inr (.inr (some 14))] H X ∧ yRL T n 2 13 (19, [], 0, 0, 0, d, p) X := by
  obtain ⟨hD, hX⟩ := hDd
  have hwc : yWC 2 13 := ⟨by decide, by decide⟩
  have W := zB_Wd h.1.1
  obtain ⟨_, c1, v, H1, rfl, c2, c3⟩ := yc_cell2 (L := L) (σ := σ) (d := dd) (taken := Int64.ofNat 0) hD.1 hD.2.1 h
  refine zw_met zm_82_t rfl rfl ?_
  refine zw_ld (n := 1) (k := 0) (f := zp_isR) (pc' := 1) rfl rfl rfl rfl rfl ?_
  refine zw_ld (n := 1) (k := 1) (f := zp_isR) (pc' := 2) rfl rfl rfl rfl rfl ?_
  refine zw_s (pc' := 3) rfl rfl ?_
  refine zw_c (pc' := 6) (zw_cv (q := 51) (Y := zm_70) W.1 rfl rfl zm_70_t rfl rfl) rfl rfl rfl rfl rfl (c1) ?_
  refine zw_st (n := 1) (k := 3) (f := zp_isI) (pc' := 7) rfl rfl rfl rfl rfl ?_
  refine zw_ld (n := 1) (k := 3) (f := zp_isI) (pc' := 8) rfl rfl zw_g1 rfl rfl ?_
  refine zw_s (pc' := 9) rfl rfl ?_
  refine zw_bne2 (g := 16) (pc' := 12) rfl rfl rfl rfl (rfl : _ = (-1 : Int)) (fun h1 => ?_) (fun h1 => ?_)
  · rcases c3 with ⟨k1, k2, k3, k4, k5, k6⟩ | ⟨k1, _⟩
    rotate_left
    · omega
    have W1 := zB_Wd k6.1.1
    have hD1 : yDd 2 13 d H1 := yDd_F hwc c2 rfl rfl ⟨hD, hX⟩
    obtain ⟨_, d1, v2, H2, rfl, d2, d3⟩ := yc_num (L := L) (σ := σ) (d := dd) (x := Int32.ofInt 0) (y := Int32.ofInt 99) (lo := 0) (hi := 99) rfl rfl k6
    refine zw_ld (n := 1) (k := 0) (f := zp_isR) (pc' := 17) rfl rfl (zw_gt rfl rfl rfl) rfl rfl ?_
    refine zw_s (pc' := 18) rfl rfl ?_
    refine zw_s (pc' := 20) rfl rfl ?_
    refine zw_c (pc' := 23) (zw_cv (q := 51) (Y := zm_65) W1.1 rfl rfl zm_65_t rfl rfl) rfl rfl rfl rfl rfl (d1) ?_
    refine zw_st (n := 2) (k := 4) (f := zp_isI) (pc' := 25) rfl rfl rfl rfl rfl ?_
    refine zw_ld (n := 2) (k := 4) (f := zp_isI) (pc' := 27) rfl rfl zw_g1 rfl rfl ?_
    refine zw_s (pc' := 28) rfl rfl ?_
    refine zw_bne2 (g := 33) (pc' := 31) rfl rfl rfl rfl (rfl : _ = (-1 : Int)) (fun h2 => ?_) (fun h2 => ?_)
    · rcases d3 with ⟨m1, m2, m3, m4, m5, m6, m7⟩ | ⟨m1, _⟩
      rotate_left
      · omega
      have W2 := zB_Wd m7.1.1
      have hD2 : yDd 2 13 d H2 := yDd_F hwc d2 rfl rfl hD1
      refine zw_s (pc' := 34) rfl rfl ?_
      refine zw_st (n := 2) (k := 5) (f := zp_isI) (pc' := 36) rfl rfl rfl rfl rfl ?_
      refine zw_s (pc' := 37) rfl rfl ?_
      refine zw_st (n := 2) (k := 6) (f := zp_isI) (pc' := 39) rfl rfl rfl rfl rfl ?_
      exact yc_piL2_13 k4 h4 _ H2 _ _ _ _ 0 (Nat.le_refl _) (zw_gt (zw_gt (zw_gt (zw_gt rfl rfl rfl) rfl rfl) rfl rfl) rfl rfl) (zw_gt (zw_gt (zw_gt (zw_gt rfl rfl rfl) rfl rfl) rfl rfl) rfl rfl) (zw_gt (zw_gt (zw_gt (zw_gt rfl rfl rfl) rfl rfl) rfl rfl) rfl rfl) (zw_gt (zw_gt (zw_gt zw_g1 rfl rfl) rfl rfl) rfl rfl) (zw_gt (zw_gt zw_g1 rfl rfl) rfl rfl) (zw_gt zw_g1 rfl rfl) zw_g1 rfl (by decide) rfl m7 hD2 (by rw [k1, m1]; exact yR2_t (yR2_s (yN2_19.trans (k2 _))) (yR2_t (yR2_s (yN2_20.trans (k3 _))) (yR2_s (yN2_21.trans (m6 _))))) (ys_le3 h.2.2)
    · refine zw_s (pc' := 32) rfl rfl ?_
      refine zw_rz rfl rfl (by decide) ?_
      rcases d3 with ⟨m1, m2, m3, m4, _⟩ | ⟨_, k, m1, m2, m3, m4, m5⟩
      · omega
      · exact yRL_0 m5 m3 (yA2_step (yN2_19.trans (k2 _)) (yA2_step (yN2_20.trans (k3 _)) (yA2_done (yN2_21.trans (m4 _))))) ⟨m1, m2⟩
  · refine zw_s (pc' := 13) rfl rfl ?_
    refine zw_s (pc' := 23) rfl rfl ?_
    refine zw_st (n := 2) (k := 4) (f := zp_isI) (pc' := 25) rfl rfl rfl rfl rfl ?_
    refine zw_ld (n := 2) (k := 4) (f := zp_isI) (pc' := 27) rfl rfl zw_g1 rfl rfl ?_
    refine zw_s (pc' := 28) rfl rfl ?_
    refine zw_bne2 (g := 33) (pc' := 31) rfl rfl rfl (rfl : _ = (-1 : Int)) (rfl : _ = (-1 : Int)) (fun h9 => absurd h9 (by decide)) (fun h2 => ?_)
    refine zw_s (pc' := 32) rfl rfl ?_
    refine zw_rz rfl rfl (by decide) ?_
    rcases c3 with ⟨_, _, _, k4, _⟩ | ⟨_, k, q, k1, k2, k3, k5, k6⟩
    · omega
    · refine yRL_0 k5 k3 ?_ ⟨k1, k2⟩
      rcases k6 with ⟨rfl, m1⟩ | ⟨rfl, m1, m2⟩ | ⟨_, rfl, m1, m2, m3⟩
      · exact yA2_done (yN2_19.trans (m1 _))
      · exact yA2_step (yN2_19.trans (m1 _)) (yA2_done (yN2_20.trans (m2 _)))
      · exact absurd Int64.zero_and m3

set_option maxRecDepth 8000 in
theorem yc_piL2_33 {L : Nat} {σ : Nat → Int32} {dd : Nat} {T : Nat → Int} {n : Nat} {s0 : yL} {d : yLD} {xc xh : Int32} (hc : 0 ≤ xc.toInt ∧ xc.toInt ≤ 63) (h4 : d.1 6 < 4) : ∀ (m : Nat) (H : zp_H) (lv9 : zp_LV) (i y : Int32) (q r : Nat), 8 - yPc r ≤ m → zp_get lv9 0 = some (.inr (.inr (some 52))) → zp_get lv9 1 = some (.inr (.inr (some 3))) → zp_get lv9 2 = some (.inr (.inr (some 34))) → zp_get lv9 3 = some (.inl xc) → zp_get lv9 4 = some (.inl xh) → zp_get lv9 5 = some (.inl y) → zp_get lv9 6 = some (.inl i) → y = Int32.ofNat r → r < 256 → i.toInt = yPc r → yE T n q H → yDd 2 33 d H → yR2 T n s0 (22, [], xc.toInt, xh.toInt, y, d, q) → s0.2.2.2.2.2.2 ≤ q → zs_Safe L σ (yRL T n 2 33 s0) zm_82 [] (dd + 4) (39, lv9, [], H, (0, 0)) := by
  intro m
  induction m with
  | zero =>
    intro H lv9 i y q r hm l0 l1 l2 l3 l4 l5 l6 hy hr hi h hDd hR hsq
    obtain ⟨hD, hX⟩ := hDd
    have hwc : yWC 2 33 := ⟨by decide, by decide⟩
    have W := zB_Wd h.1.1
    have h4k := yE_4 h
    have h8 := yPc_8 r
    have r12 := zB_fr1 h.1.1 (p := 2) (k := 12) (r := (0, 4)) rfl
    have r12 : 0 ≤ (H.2.1 2 12).toInt ∧ (H.2.1 2 12).toInt ≤ 4 := r12
    have hpl : (H.2.1 2 12).toInt = d.1 6 := hD.2.2.2.2.1
    have rsl := zB_fr1 h.1.1 (p := 33) (k := 0) (r := (0, 8)) rfl
    have rsl : 0 ≤ (H.2.1 33 0).toInt ∧ (H.2.1 33 0).toInt ≤ 8 := rsl
    have hsl : (H.2.1 33 0).toInt = d.1 4 := hD.2.2.1
    refine zw_ld (n := 2) (k := 6) (f := zp_isI) (pc' := 41) rfl rfl l6 rfl rfl ?_
    refine zw_s (pc' := 43) rfl rfl ?_
    refine zw_bgt2 (g := 89) (pc' := 46) rfl rfl rfl rfl (rfl : _ = (8 : Int)) (fun h7 => ?_) (fun h7 => ?_)
    · omega
    · refine zw_ld (n := 1) (k := 0) (f := zp_isR) (pc' := 47) rfl rfl l0 rfl rfl ?_
      refine zw_gR (q := 51) (pc' := 50) W rfl rfl rfl rfl (W.2 51 0 _ rfl) rfl ?_
      refine zw_gI (q := 52) (pc' := 53) W rfl rfl rfl rfl rfl rfl ?_
      refine zw_s (pc' := 54) rfl rfl ?_
      refine zw_bne2 (g := 89) (pc' := 57) rfl rfl rfl rfl (rfl : _ = (2 : Int)) (fun h2 => ?_) (fun h2 => ?_)
      · have e12 : (H.2.1 2 12 + Int32.ofInt 1).toInt = (H.2.1 2 12).toInt + 1 := zw_p1 (by omega)
        have b1 := zB_puta (p := 7) (j := (H.2.1 2 12).toInt.toNat) (x := xc) (t := 0) (n := 4) h.1.1 rfl (fun r hr => by
          have hr : [((0 : Int), (63 : Int))][(H.2.1 2 12).toInt.toNat % 1]? = some r := hr
          rw [Nat.mod_one] at hr
          cases hr
          exact hc) (zJc_I rfl h.1.1.2.2.2.2.2.2.2) (fun k r hr => by cases hr)
        have b2 := zB_puta (p := 8) (j := (H.2.1 2 12).toInt.toNat) (x := xh) (t := 0) (n := 4) b1 rfl (fun r hr => by
          have hr : [((-2147483648 : Int), (2147483647 : Int))][(H.2.1 2 12).toInt.toNat % 1]? = some r := hr
          rw [Nat.mod_one] at hr
          cases hr
          exact ⟨Int32.le_toInt _, Int32.toInt_le _⟩) (zJc_I rfl b1.2.2.2.2.2.2.2) (fun k r hr => by cases hr)
        have b3 := zB_puta (p := 9) (j := (H.2.1 2 12).toInt.toNat) (x := y) (t := 0) (n := 4) b2 rfl (fun r hr => by
          have hr : [((-2147483648 : Int), (2147483647 : Int))][(H.2.1 2 12).toInt.toNat % 1]? = some r := hr
          rw [Nat.mod_one] at hr
          cases hr
          exact ⟨Int32.le_toInt _, Int32.toInt_le _⟩) (zJc_I rfl b2.2.2.2.2.2.2.2) (fun k r hr => by cases hr)
        have b4 := zB_putf (p := 2) (k := 12) (x := H.2.1 2 12 + Int32.ofInt 1) b3 rfl (fun r hr => by cases hr; exact ⟨by show (0 : Int) ≤ _; omega, by show _ ≤ (4 : Int); omega⟩) (zJc_I rfl b3.2.2.2.2.2.2.2)
        have hn2 : ¬ ys_kd T n q = 2 := by omega
        refine zw_ld (n := 1) (k := 1) (f := zp_isR) (pc' := 90) rfl rfl l1 rfl rfl ?_
        refine zw_gR (q := 2) (pc' := 93) W rfl rfl rfl rfl (W.2 2 13 _ rfl) rfl ?_
        refine zw_ld (n := 1) (k := 1) (f := zp_isR) (pc' := 94) rfl rfl l1 rfl rfl ?_
        refine zw_gI (q := 2) (pc' := 97) W rfl rfl rfl rfl rfl rfl ?_
        refine zw_ld (n := 1) (k := 3) (f := zp_isI) (pc' := 98) rfl rfl l3 rfl rfl ?_
        refine zw_is (q := 7) (pc' := 99) W rfl rfl (by decide) (⟨r12.1, by show _ < ((4 : Nat) : Int); omega⟩) rfl ?_
        refine zw_ld (n := 1) (k := 1) (f := zp_isR) (pc' := 100) rfl rfl l1 rfl rfl ?_
        refine zw_gR (q := 2) (pc' := 103) W rfl rfl rfl rfl (W.2 2 14 _ rfl) rfl ?_
        refine zw_ld (n := 1) (k := 1) (f := zp_isR) (pc' := 104) rfl rfl l1 rfl rfl ?_
        refine zw_gI (q := 2) (pc' := 107) W rfl rfl rfl rfl (zw_ne rfl rfl) rfl ?_
        refine zw_ld (n := 2) (k := 4) (f := zp_isI) (pc' := 109) rfl rfl l4 rfl rfl ?_
        refine zw_is (q := 8) (pc' := 110) W rfl rfl (by decide) (⟨r12.1, by show _ < ((4 : Nat) : Int); omega⟩) rfl ?_
        refine zw_ld (n := 1) (k := 1) (f := zp_isR) (pc' := 111) rfl rfl l1 rfl rfl ?_
        refine zw_gR (q := 2) (pc' := 114) W rfl rfl rfl rfl (W.2 2 15 _ rfl) rfl ?_
        refine zw_ld (n := 1) (k := 1) (f := zp_isR) (pc' := 115) rfl rfl l1 rfl rfl ?_
        refine zw_gI (q := 2) (pc' := 118) W rfl rfl rfl rfl (zw_ne (zw_ne rfl rfl) rfl) rfl ?_
        refine zw_ld (n := 2) (k := 5) (f := zp_isI) (pc' := 120) rfl rfl l5 rfl rfl ?_
        refine zw_is (q := 9) (pc' := 121) W rfl rfl (by decide) (⟨r12.1, by show _ < ((4 : Nat) : Int); omega⟩) rfl ?_
        refine zw_ld (n := 1) (k := 1) (f := zp_isR) (pc' := 122) rfl rfl l1 rfl rfl ?_
        refine zw_s (pc' := 123) rfl rfl ?_
        refine zw_gI (q := 2) (pc' := 126) W rfl rfl rfl rfl (zw_ne (zw_ne (zw_ne rfl rfl) rfl) rfl) rfl ?_
        refine zw_s (pc' := 127) rfl rfl ?_
        refine zw_iadd (pc' := 128) rfl rfl ?_
        refine zw_pI (q := 2) (pc' := 131) W rfl rfl rfl rfl rfl rfl ?_
        refine zw_s (pc' := 132) rfl rfl ?_
        refine zw_rz rfl rfl (by decide) ?_
        refine yRL_1 (yE_I (yE_I (yE_I (yE_I h b1 rfl) b2 rfl) b3 rfl) b4 rfl) (d' := yWpi d xc.toInt xh.toInt y) ⟨yDc_W (by omega) (yDc_W (by omega) (yDc_W (by omega) ?_)), yXd_o (by decide) (yXd_wD (yLc_inj hwc) (by omega) (by rw [yL_620 (by omega), hpl]) rfl (yXd_wD (yLc_inj hwc) (by omega) (by rw [yL_610 (by omega), hpl]) rfl (yXd_wD (yLc_inj hwc) (by omega) (by rw [yL_600 (by omega), hpl]) rfl (yXd_k (by decide) hX))))⟩ (yR2_t hR (yR2_s (yN2_22.trans (if_neg hn2)))) hsq
        obtain ⟨g1, g2, g3, g4, g5, g6, g7, g8, g9, g10⟩ := hD
        have e : ∀ q k, ((Nat.beq q 2).and (Nat.beq k 12)) = false → Nat.beq q 7 = false → Nat.beq q 8 = false → Nat.beq q 9 = false → ((zw_I (zw_I (zw_I (zw_I H 7 (H.2.1 2 12).toInt.toNat xc) 8 (H.2.1 2 12).toInt.toNat xh) 9 (H.2.1 2 12).toInt.toNat y) 2 12 (H.2.1 2 12 + Int32.ofInt 1)).2.1 q k).toInt = (H.2.1 q k).toInt := fun q k h1 h2 h3 h4 => congrArg Int32.toInt (zw_ne (zw_ne (zw_ne (zw_ne rfl (by rw [h2]; rfl)) (by rw [h3]; rfl)) (by rw [h4]; rfl)) h1)
        exact ⟨(e 2 0 rfl rfl rfl rfl).trans g1, (e 2 1 rfl rfl rfl rfl).trans g2, (e 33 0 rfl rfl rfl rfl).trans g3, (e 2 7 rfl rfl rfl rfl).trans g4, (congrArg Int32.toInt zw_eq).trans (by rw [e12, hpl]; rfl), (e 2 16 rfl rfl rfl rfl).trans g6, (e 51 2 rfl rfl rfl rfl).trans g7, (e 51 3 rfl rfl rfl rfl).trans g8, g9, g10⟩
      · have hk2 : ys_kd T n q = 2 := by omega
        obtain ⟨_, c1, v, H1, rfl, c2, c3⟩ := yc_rr33 (L := L) (σ := σ) (dd := dd) (d := d) (y := y) (xx := xc.toInt) (aa := xh.toInt) hk2 h hD.2.2.1
        refine zw_ld (n := 1) (k := 0) (f := zp_isR) (pc' := 58) rfl rfl l0 rfl rfl ?_
        refine zw_ld (n := 1) (k := 2) (f := zp_isR) (pc' := 59) rfl rfl l2 rfl rfl ?_
        refine zw_ld (n := 2) (k := 5) (f := zp_isI) (pc' := 61) rfl rfl l5 rfl rfl ?_
        refine zw_c (pc' := 64) (zw_cv (q := 51) (Y := zm_83) W.1 rfl rfl zm_83_t rfl rfl) rfl rfl rfl rfl rfl (c1) ?_
        refine zw_st (n := 2) (k := 7) (f := zp_isI) (pc' := 66) rfl rfl rfl rfl rfl ?_
        refine zw_ld (n := 2) (k := 7) (f := zp_isI) (pc' := 68) rfl rfl zw_g1 rfl rfl ?_
        refine zw_s (pc' := 69) rfl rfl ?_
        refine zw_bne2 (g := 74) (pc' := 72) rfl rfl rfl rfl (rfl : _ = (-1 : Int)) (fun h6 => ?_) (fun h6 => ?_)
        · rcases c3 with ⟨k1, k2, k3, k4, k5⟩ | ⟨k1, _⟩
          rotate_left
          · omega
          have W1 := zB_Wd k5.1.1
          have hD1 : yDd 2 33 d H1 := yDd_F hwc c2 rfl rfl ⟨hD, hX⟩
          obtain ⟨s, hs, es⟩ : ∃ s : Nat, s < 8 ∧ ys_vl T n q = (s : Int) := ⟨(ys_vl T n q).toNat, by omega, by omega⟩
          have ev : v = Int32.ofInt (ys_vl T n q) := by rw [← k1, Int32.ofInt_toInt]
          have hN : yN2 T n (22, [], xc.toInt, xh.toInt, y, d, q) = .inl (22, [], xc.toInt, xh.toInt, y ||| Int32.ofInt 1 <<< (Int32.ofInt (ys_vl T n q) &&& 31), d, ys_nx T n q) := by
            rw [yN2_22, if_pos hk2, if_neg (by omega), if_neg (by omega), if_neg k4]
          have k4 := k4
          rw [es, hy] at k4
          obtain ⟨u1, u2, u3⟩ := yPt_u hr hs k4
          have ei : (i + Int32.ofInt 1).toInt = i.toInt + 1 := zw_p1 (by omega)
          refine zw_ld (n := 2) (k := 5) (f := zp_isI) (pc' := 76) rfl rfl (zw_gt l5 rfl rfl) rfl rfl ?_
          refine zw_s (pc' := 77) rfl rfl ?_
          refine zw_ld (n := 2) (k := 7) (f := zp_isI) (pc' := 79) rfl rfl zw_g1 rfl rfl ?_
          refine zw_ishl (pc' := 80) rfl rfl ?_
          refine zw_ior (pc' := 81) rfl rfl ?_
          refine zw_st (n := 2) (k := 5) (f := zp_isI) (pc' := 83) rfl rfl rfl rfl rfl ?_
          refine zw_ii (pc' := 86) rfl (zw_gt (zw_gt l6 rfl rfl) rfl rfl) rfl rfl ?_
          refine zw_s (pc' := 39) rfl rfl ?_
          exfalso
          have := yPc_8 (r ||| 2 ^ s)
          omega
        · refine zw_s (pc' := 73) rfl rfl ?_
          refine zw_rz rfl rfl (by decide) ?_
          rcases c3 with ⟨k1, k2, _⟩ | ⟨_, k, k1, k2, k3, k4, k5⟩
          · omega
          · exact yRL_0 k4 k3 (yR2_a hR (yA2_done k5)) ⟨k1, k2⟩
  | succ m ih =>
    intro H lv9 i y q r hm l0 l1 l2 l3 l4 l5 l6 hy hr hi h hDd hR hsq
    obtain ⟨hD, hX⟩ := hDd
    have hwc : yWC 2 33 := ⟨by decide, by decide⟩
    have W := zB_Wd h.1.1
    have h4k := yE_4 h
    have h8 := yPc_8 r
    have r12 := zB_fr1 h.1.1 (p := 2) (k := 12) (r := (0, 4)) rfl
    have r12 : 0 ≤ (H.2.1 2 12).toInt ∧ (H.2.1 2 12).toInt ≤ 4 := r12
    have hpl : (H.2.1 2 12).toInt = d.1 6 := hD.2.2.2.2.1
    have rsl := zB_fr1 h.1.1 (p := 33) (k := 0) (r := (0, 8)) rfl
    have rsl : 0 ≤ (H.2.1 33 0).toInt ∧ (H.2.1 33 0).toInt ≤ 8 := rsl
    have hsl : (H.2.1 33 0).toInt = d.1 4 := hD.2.2.1
    refine zw_ld (n := 2) (k := 6) (f := zp_isI) (pc' := 41) rfl rfl l6 rfl rfl ?_
    refine zw_s (pc' := 43) rfl rfl ?_
    refine zw_bgt2 (g := 89) (pc' := 46) rfl rfl rfl rfl (rfl : _ = (8 : Int)) (fun h7 => ?_) (fun h7 => ?_)
    · omega
    · refine zw_ld (n := 1) (k := 0) (f := zp_isR) (pc' := 47) rfl rfl l0 rfl rfl ?_
      refine zw_gR (q := 51) (pc' := 50) W rfl rfl rfl rfl (W.2 51 0 _ rfl) rfl ?_
      refine zw_gI (q := 52) (pc' := 53) W rfl rfl rfl rfl rfl rfl ?_
      refine zw_s (pc' := 54) rfl rfl ?_
      refine zw_bne2 (g := 89) (pc' := 57) rfl rfl rfl rfl (rfl : _ = (2 : Int)) (fun h2 => ?_) (fun h2 => ?_)
      · have e12 : (H.2.1 2 12 + Int32.ofInt 1).toInt = (H.2.1 2 12).toInt + 1 := zw_p1 (by omega)
        have b1 := zB_puta (p := 7) (j := (H.2.1 2 12).toInt.toNat) (x := xc) (t := 0) (n := 4) h.1.1 rfl (fun r hr => by
          have hr : [((0 : Int), (63 : Int))][(H.2.1 2 12).toInt.toNat % 1]? = some r := hr
          rw [Nat.mod_one] at hr
          cases hr
          exact hc) (zJc_I rfl h.1.1.2.2.2.2.2.2.2) (fun k r hr => by cases hr)
        have b2 := zB_puta (p := 8) (j := (H.2.1 2 12).toInt.toNat) (x := xh) (t := 0) (n := 4) b1 rfl (fun r hr => by
          have hr : [((-2147483648 : Int), (2147483647 : Int))][(H.2.1 2 12).toInt.toNat % 1]? = some r := hr
          rw [Nat.mod_one] at hr
          cases hr
          exact ⟨Int32.le_toInt _, Int32.toInt_le _⟩) (zJc_I rfl b1.2.2.2.2.2.2.2) (fun k r hr => by cases hr)
        have b3 := zB_puta (p := 9) (j := (H.2.1 2 12).toInt.toNat) (x := y) (t := 0) (n := 4) b2 rfl (fun r hr => by
          have hr : [((-2147483648 : Int), (2147483647 : Int))][(H.2.1 2 12).toInt.toNat % 1]? = some r := hr
          rw [Nat.mod_one] at hr
          cases hr
          exact ⟨Int32.le_toInt _, Int32.toInt_le _⟩) (zJc_I rfl b2.2.2.2.2.2.2.2) (fun k r hr => by cases hr)
        have b4 := zB_putf (p := 2) (k := 12) (x := H.2.1 2 12 + Int32.ofInt 1) b3 rfl (fun r hr => by cases hr; exact ⟨by show (0 : Int) ≤ _; omega, by show _ ≤ (4 : Int); omega⟩) (zJc_I rfl b3.2.2.2.2.2.2.2)
        have hn2 : ¬ ys_kd T n q = 2 := by omega
        refine zw_ld (n := 1) (k := 1) (f := zp_isR) (pc' := 90) rfl rfl l1 rfl rfl ?_
        refine zw_gR (q := 2) (pc' := 93) W rfl rfl rfl rfl (W.2 2 13 _ rfl) rfl ?_
        refine zw_ld (n := 1) (k := 1) (f := zp_isR) (pc' := 94) rfl rfl l1 rfl rfl ?_
        refine zw_gI (q := 2) (pc' := 97) W rfl rfl rfl rfl rfl rfl ?_
        refine zw_ld (n := 1) (k := 3) (f := zp_isI) (pc' := 98) rfl rfl l3 rfl rfl ?_
        refine zw_is (q := 7) (pc' := 99) W rfl rfl (by decide) (⟨r12.1, by show _ < ((4 : Nat) : Int); omega⟩) rfl ?_
        refine zw_ld (n := 1) (k := 1) (f := zp_isR) (pc' := 100) rfl rfl l1 rfl rfl ?_
        refine zw_gR (q := 2) (pc' := 103) W rfl rfl rfl rfl (W.2 2 14 _ rfl) rfl ?_
        refine zw_ld (n := 1) (k := 1) (f := zp_isR) (pc' := 104) rfl rfl l1 rfl rfl ?_
        refine zw_gI (q := 2) (pc' := 107) W rfl rfl rfl rfl (zw_ne rfl rfl) rfl ?_
        refine zw_ld (n := 2) (k := 4) (f := zp_isI) (pc' := 109) rfl rfl l4 rfl rfl ?_
        refine zw_is (q := 8) (pc' := 110) W rfl rfl (by decide) (⟨r12.1, by show _ < ((4 : Nat) : Int); omega⟩) rfl ?_
        refine zw_ld (n := 1) (k := 1) (f := zp_isR) (pc' := 111) rfl rfl l1 rfl rfl ?_
        refine zw_gR (q := 2) (pc' := 114) W rfl rfl rfl rfl (W.2 2 15 _ rfl) rfl ?_
        refine zw_ld (n := 1) (k := 1) (f := zp_isR) (pc' := 115) rfl rfl l1 rfl rfl ?_
        refine zw_gI (q := 2) (pc' := 118) W rfl rfl rfl rfl (zw_ne (zw_ne rfl rfl) rfl) rfl ?_
        refine zw_ld (n := 2) (k := 5) (f := zp_isI) (pc' := 120) rfl rfl l5 rfl rfl ?_
        refine zw_is (q := 9) (pc' := 121) W rfl rfl (by decide) (⟨r12.1, by show _ < ((4 : Nat) : Int); omega⟩) rfl ?_
        refine zw_ld (n := 1) (k := 1) (f := zp_isR) (pc' := 122) rfl rfl l1 rfl rfl ?_
        refine zw_s (pc' := 123) rfl rfl ?_
        refine zw_gI (q := 2) (pc' := 126) W rfl rfl rfl rfl (zw_ne (zw_ne (zw_ne rfl rfl) rfl) rfl) rfl ?_
        refine zw_s (pc' := 127) rfl rfl ?_
        refine zw_iadd (pc' := 128) rfl rfl ?_
        refine zw_pI (q := 2) (pc' := 131) W rfl rfl rfl rfl rfl rfl ?_
        refine zw_s (pc' := 132) rfl rfl ?_
        refine zw_rz rfl rfl (by decide) ?_
        refine yRL_1 (yE_I (yE_I (yE_I (yE_I h b1 rfl) b2 rfl) b3 rfl) b4 rfl) (d' := yWpi d xc.toInt xh.toInt y) ⟨yDc_W (by omega) (yDc_W (by omega) (yDc_W (by omega) ?_)), yXd_o (by decide) (yXd_wD (yLc_inj hwc) (by omega) (by rw [yL_620 (by omega), hpl]) rfl (yXd_wD (yLc_inj hwc) (by omega) (by rw [yL_610 (by omega), hpl]) rfl (yXd_wD (yLc_inj hwc) (by omega) (by rw [yL_600 (by omega), hpl]) rfl (yXd_k (by decide) hX))))⟩ (yR2_t hR (yR2_s (yN2_22.trans (if_neg hn2)))) hsq
        obtain ⟨g1, g2, g3, g4, g5, g6, g7, g8, g9, g10⟩ := hD
        have e : ∀ q k, ((Nat.beq q 2).and (Nat.beq k 12)) = false → Nat.beq q 7 = false → Nat.beq q 8 = false → Nat.beq q 9 = false → ((zw_I (zw_I (zw_I (zw_I H 7 (H.2.1 2 12).toInt.toNat xc) 8 (H.2.1 2 12).toInt.toNat xh) 9 (H.2.1 2 12).toInt.toNat y) 2 12 (H.2.1 2 12 + Int32.ofInt 1)).2.1 q k).toInt = (H.2.1 q k).toInt := fun q k h1 h2 h3 h4 => congrArg Int32.toInt (zw_ne (zw_ne (zw_ne (zw_ne rfl (by rw [h2]; rfl)) (by rw [h3]; rfl)) (by rw [h4]; rfl)) h1)
        exact ⟨(e 2 0 rfl rfl rfl rfl).trans g1, (e 2 1 rfl rfl rfl rfl).trans g2, (e 33 0 rfl rfl rfl rfl).trans g3, (e 2 7 rfl rfl rfl rfl).trans g4, (congrArg Int32.toInt zw_eq).trans (by rw [e12, hpl]; rfl), (e 2 16 rfl rfl rfl rfl).trans g6, (e 51 2 rfl rfl rfl rfl).trans g7, (e 51 3 rfl rfl rfl rfl).trans g8, g9, g10⟩
      · have hk2 : ys_kd T n q = 2 := by omega
        obtain ⟨_, c1, v, H1, rfl, c2, c3⟩ := yc_rr33 (L := L) (σ := σ) (dd := dd) (d := d) (y := y) (xx := xc.toInt) (aa := xh.toInt) hk2 h hD.2.2.1
        refine zw_ld (n := 1) (k := 0) (f := zp_isR) (pc' := 58) rfl rfl l0 rfl rfl ?_
        refine zw_ld (n := 1) (k := 2) (f := zp_isR) (pc' := 59) rfl rfl l2 rfl rfl ?_
        refine zw_ld (n := 2) (k := 5) (f := zp_isI) (pc' := 61) rfl rfl l5 rfl rfl ?_
        refine zw_c (pc' := 64) (zw_cv (q := 51) (Y := zm_83) W.1 rfl rfl zm_83_t rfl rfl) rfl rfl rfl rfl rfl (c1) ?_
        refine zw_st (n := 2) (k := 7) (f := zp_isI) (pc' := 66) rfl rfl rfl rfl rfl ?_
        refine zw_ld (n := 2) (k := 7) (f := zp_isI) (pc' := 68) rfl rfl zw_g1 rfl rfl ?_
        refine zw_s (pc' := 69) rfl rfl ?_
        refine zw_bne2 (g := 74) (pc' := 72) rfl rfl rfl rfl (rfl : _ = (-1 : Int)) (fun h6 => ?_) (fun h6 => ?_)
        · rcases c3 with ⟨k1, k2, k3, k4, k5⟩ | ⟨k1, _⟩
          rotate_left
          · omega
          have W1 := zB_Wd k5.1.1
          have hD1 : yDd 2 33 d H1 := yDd_F hwc c2 rfl rfl ⟨hD, hX⟩
          obtain ⟨s, hs, es⟩ : ∃ s : Nat, s < 8 ∧ ys_vl T n q = (s : Int) := ⟨(ys_vl T n q).toNat, by omega, by omega⟩
          have ev : v = Int32.ofInt (ys_vl T n q) := by rw [← k1, Int32.ofInt_toInt]
          have hN : yN2 T n (22, [], xc.toInt, xh.toInt, y, d, q) = .inl (22, [], xc.toInt, xh.toInt, y ||| Int32.ofInt 1 <<< (Int32.ofInt (ys_vl T n q) &&& 31), d, ys_nx T n q) := by
            rw [yN2_22, if_pos hk2, if_neg (by omega), if_neg (by omega), if_neg k4]
          have k4 := k4
          rw [es, hy] at k4
          obtain ⟨u1, u2, u3⟩ := yPt_u hr hs k4
          have ei : (i + Int32.ofInt 1).toInt = i.toInt + 1 := zw_p1 (by omega)
          refine zw_ld (n := 2) (k := 5) (f := zp_isI) (pc' := 76) rfl rfl (zw_gt l5 rfl rfl) rfl rfl ?_
          refine zw_s (pc' := 77) rfl rfl ?_
          refine zw_ld (n := 2) (k := 7) (f := zp_isI) (pc' := 79) rfl rfl zw_g1 rfl rfl ?_
          refine zw_ishl (pc' := 80) rfl rfl ?_
          refine zw_ior (pc' := 81) rfl rfl ?_
          refine zw_st (n := 2) (k := 5) (f := zp_isI) (pc' := 83) rfl rfl rfl rfl rfl ?_
          refine zw_ii (pc' := 86) rfl (zw_gt (zw_gt l6 rfl rfl) rfl rfl) rfl rfl ?_
          refine zw_s (pc' := 39) rfl rfl ?_
          refine ih _ _ _ _ _ (r ||| 2 ^ s) (by omega) (zw_gt (zw_gt (zw_gt l0 rfl rfl) rfl rfl) rfl rfl) (zw_gt (zw_gt (zw_gt l1 rfl rfl) rfl rfl) rfl rfl) (zw_gt (zw_gt (zw_gt l2 rfl rfl) rfl rfl) rfl rfl) (zw_gt (zw_gt (zw_gt l3 rfl rfl) rfl rfl) rfl rfl) (zw_gt (zw_gt (zw_gt l4 rfl rfl) rfl rfl) rfl rfl) (zw_gt zw_g1 rfl rfl) zw_g1 ?_ u2 (by omega) k5 hD1 ?_ (Nat.le_trans hsq (ys_le1 h.2.2))
          · rw [ev, es, hy]
            exact u1
          · rw [ev]
            exact yR2_t hR (yR2_s hN)
        · refine zw_s (pc' := 73) rfl rfl ?_
          refine zw_rz rfl rfl (by decide) ?_
          rcases c3 with ⟨k1, k2, _⟩ | ⟨_, k, k1, k2, k3, k4, k5⟩
          · omega
          · exact yRL_0 k4 k3 (yR2_a hR (yA2_done k5)) ⟨k1, k2⟩

set_option maxRecDepth 8000 in
theorem yc_pilot2_33 {L : Nat} {σ : Nat → Int32} {dd : Nat} {T : Nat → Int} {n p : Nat} {d : yLD} {H : zp_H} (h4 : d.1 6 < 4) (h : yE T n p H) (hDd : yDd 2 33 d H) : ∃ X, zp_Call L σ (dd + 5) 82 [.inr (.inr (some 52)), .inr (.inr (some 3)), .inr (.inr (some 34))] H X ∧ yRL T n 2 33 (19, [], 0, 0, 0, d, p) X := by
  obtain ⟨hD, hX⟩ := hDd
  have hwc : yWC 2 33 := ⟨by decide, by decide⟩
  have W := zB_Wd h.1.1
  obtain ⟨_, c1, v, H1, rfl, c2, c3⟩ := yc_cell2 (L := L) (σ := σ) (d := dd) (taken := Int64.ofNat 0) hD.1 hD.2.1 h
  refine zw_met zm_82_t rfl rfl ?_
  refine zw_ld (n := 1) (k := 0) (f := zp_isR) (pc' := 1) rfl rfl rfl rfl rfl ?_
  refine zw_ld (n := 1) (k := 1) (f := zp_isR) (pc' := 2) rfl rfl rfl rfl rfl ?_
  refine zw_s (pc' := 3) rfl rfl ?_
  refine zw_c (pc' := 6) (zw_cv (q := 51) (Y := zm_70) W.1 rfl rfl zm_70_t rfl rfl) rfl rfl rfl rfl rfl (c1) ?_
  refine zw_st (n := 1) (k := 3) (f := zp_isI) (pc' := 7) rfl rfl rfl rfl rfl ?_
  refine zw_ld (n := 1) (k := 3) (f := zp_isI) (pc' := 8) rfl rfl zw_g1 rfl rfl ?_
  refine zw_s (pc' := 9) rfl rfl ?_
  refine zw_bne2 (g := 16) (pc' := 12) rfl rfl rfl rfl (rfl : _ = (-1 : Int)) (fun h1 => ?_) (fun h1 => ?_)
  · rcases c3 with ⟨k1, k2, k3, k4, k5, k6⟩ | ⟨k1, _⟩
    rotate_left
    · omega
    have W1 := zB_Wd k6.1.1
    have hD1 : yDd 2 33 d H1 := yDd_F hwc c2 rfl rfl ⟨hD, hX⟩
    obtain ⟨_, d1, v2, H2, rfl, d2, d3⟩ := yc_num (L := L) (σ := σ) (d := dd) (x := Int32.ofInt 0) (y := Int32.ofInt 99) (lo := 0) (hi := 99) rfl rfl k6
    refine zw_ld (n := 1) (k := 0) (f := zp_isR) (pc' := 17) rfl rfl (zw_gt rfl rfl rfl) rfl rfl ?_
    refine zw_s (pc' := 18) rfl rfl ?_
    refine zw_s (pc' := 20) rfl rfl ?_
    refine zw_c (pc' := 23) (zw_cv (q := 51) (Y := zm_65) W1.1 rfl rfl zm_65_t rfl rfl) rfl rfl rfl rfl rfl (d1) ?_
    refine zw_st (n := 2) (k := 4) (f := zp_isI) (pc' := 25) rfl rfl rfl rfl rfl ?_
    refine zw_ld (n := 2) (k := 4) (f := zp_isI) (pc' := 27) rfl rfl zw_g1 rfl rfl ?_
    refine zw_s (pc' := 28) rfl rfl ?_
    refine zw_bne2 (g := 33) (pc' := 31) rfl rfl rfl rfl (rfl : _ = (-1 : Int)) (fun h2 => ?_) (fun h2 => ?_)
    · rcases d3 with ⟨m1, m2, m3, m4, m5, m6, m7⟩ | ⟨m1, _⟩
      rotate_left
      · omega
      have W2 := zB_Wd m7.1.1
      have hD2 : yDd 2 33 d H2 := yDd_F hwc d2 rfl rfl hD1
      refine zw_s (pc' := 34) rfl rfl ?_
      refine zw_st (n := 2) (k := 5) (f := zp_isI) (pc' := 36) rfl rfl rfl rfl rfl ?_
      refine zw_s (pc' := 37) rfl rfl ?_
      refine zw_st (n := 2) (k := 6) (f := zp_isI) (pc' := 39) rfl rfl rfl rfl rfl ?_
      exact yc_piL2_33 k4 h4 _ H2 _ _ _ _ 0 (Nat.le_refl _) (zw_gt (zw_gt (zw_gt (zw_gt rfl rfl rfl) rfl rfl) rfl rfl) rfl rfl) (zw_gt (zw_gt (zw_gt (zw_gt rfl rfl rfl) rfl rfl) rfl rfl) rfl rfl) (zw_gt (zw_gt (zw_gt (zw_gt rfl rfl rfl) rfl rfl) rfl rfl) rfl rfl) (zw_gt (zw_gt (zw_gt zw_g1 rfl rfl) rfl rfl) rfl rfl) (zw_gt (zw_gt zw_g1 rfl rfl) rfl rfl) (zw_gt zw_g1 rfl rfl) zw_g1 rfl (by decide) rfl m7 hD2 (by rw [k1, m1]; exact yR2_t (yR2_s (yN2_19.trans (k2 _))) (yR2_t (yR2_s (yN2_20.trans (k3 _))) (yR2_s (yN2_21.trans (m6 _))))) (ys_le3 h.2.2)
    · refine zw_s (pc' := 32) rfl rfl ?_
      refine zw_rz rfl rfl (by decide) ?_
      rcases d3 with ⟨m1, m2, m3, m4, _⟩ | ⟨_, k, m1, m2, m3, m4, m5⟩
      · omega
      · exact yRL_0 m5 m3 (yA2_step (yN2_19.trans (k2 _)) (yA2_step (yN2_20.trans (k3 _)) (yA2_done (yN2_21.trans (m4 _))))) ⟨m1, m2⟩
  · refine zw_s (pc' := 13) rfl rfl ?_
    refine zw_s (pc' := 23) rfl rfl ?_
    refine zw_st (n := 2) (k := 4) (f := zp_isI) (pc' := 25) rfl rfl rfl rfl rfl ?_
    refine zw_ld (n := 2) (k := 4) (f := zp_isI) (pc' := 27) rfl rfl zw_g1 rfl rfl ?_
    refine zw_s (pc' := 28) rfl rfl ?_
    refine zw_bne2 (g := 33) (pc' := 31) rfl rfl rfl (rfl : _ = (-1 : Int)) (rfl : _ = (-1 : Int)) (fun h9 => absurd h9 (by decide)) (fun h2 => ?_)
    refine zw_s (pc' := 32) rfl rfl ?_
    refine zw_rz rfl rfl (by decide) ?_
    rcases c3 with ⟨_, _, _, k4, _⟩ | ⟨_, k, q, k1, k2, k3, k5, k6⟩
    · omega
    · refine yRL_0 k5 k3 ?_ ⟨k1, k2⟩
      rcases k6 with ⟨rfl, m1⟩ | ⟨rfl, m1, m2⟩ | ⟨_, rfl, m1, m2, m3⟩
      · exact yA2_done (yN2_19.trans (m1 _))
      · exact yA2_step (yN2_19.trans (m1 _)) (yA2_done (yN2_20.trans (m2 _)))
      · exact absurd Int64.zero_and m3

set_option maxRecDepth 8000 in
theorem yc_piL22_13 {L : Nat} {σ : Nat → Int32} {dd : Nat} {T : Nat → Int} {n : Nat} {s0 : yL} {d : yLD} {xc xh : Int32} (hc : 0 ≤ xc.toInt ∧ xc.toInt ≤ 63) (h4 : d.1 6 < 4) : ∀ (m : Nat) (H : zp_H) (lv9 : zp_LV) (i y : Int32) (q r : Nat), 8 - yPc r ≤ m → zp_get lv9 0 = some (.inr (.inr (some 52))) → zp_get lv9 1 = some (.inr (.inr (some 23))) → zp_get lv9 2 = some (.inr (.inr (some 14))) → zp_get lv9 3 = some (.inl xc) → zp_get lv9 4 = some (.inl xh) → zp_get lv9 5 = some (.inl y) → zp_get lv9 6 = some (.inl i) → y = Int32.ofNat r → r < 256 → i.toInt = yPc r → yE T n q H → yDd 22 13 d H → yR2 T n s0 (22, [], xc.toInt, xh.toInt, y, d, q) → s0.2.2.2.2.2.2 ≤ q → zs_Safe L σ (yRL T n 22 13 s0) zm_82 [] (dd + 4) (39, lv9, [], H, (0, 0)) := by
  intro m
  induction m with
  | zero =>
    intro H lv9 i y q r hm l0 l1 l2 l3 l4 l5 l6 hy hr hi h hDd hR hsq
    obtain ⟨hD, hX⟩ := hDd
    have hwc : yWC 22 13 := ⟨by decide, by decide⟩
    have W := zB_Wd h.1.1
    have h4k := yE_4 h
    have h8 := yPc_8 r
    have r12 := zB_fr1 h.1.1 (p := 22) (k := 12) (r := (0, 4)) rfl
    have r12 : 0 ≤ (H.2.1 22 12).toInt ∧ (H.2.1 22 12).toInt ≤ 4 := r12
    have hpl : (H.2.1 22 12).toInt = d.1 6 := hD.2.2.2.2.1
    have rsl := zB_fr1 h.1.1 (p := 13) (k := 0) (r := (0, 8)) rfl
    have rsl : 0 ≤ (H.2.1 13 0).toInt ∧ (H.2.1 13 0).toInt ≤ 8 := rsl
    have hsl : (H.2.1 13 0).toInt = d.1 4 := hD.2.2.1
    refine zw_ld (n := 2) (k := 6) (f := zp_isI) (pc' := 41) rfl rfl l6 rfl rfl ?_
    refine zw_s (pc' := 43) rfl rfl ?_
    refine zw_bgt2 (g := 89) (pc' := 46) rfl rfl rfl rfl (rfl : _ = (8 : Int)) (fun h7 => ?_) (fun h7 => ?_)
    · omega
    · refine zw_ld (n := 1) (k := 0) (f := zp_isR) (pc' := 47) rfl rfl l0 rfl rfl ?_
      refine zw_gR (q := 51) (pc' := 50) W rfl rfl rfl rfl (W.2 51 0 _ rfl) rfl ?_
      refine zw_gI (q := 52) (pc' := 53) W rfl rfl rfl rfl rfl rfl ?_
      refine zw_s (pc' := 54) rfl rfl ?_
      refine zw_bne2 (g := 89) (pc' := 57) rfl rfl rfl rfl (rfl : _ = (2 : Int)) (fun h2 => ?_) (fun h2 => ?_)
      · have e12 : (H.2.1 22 12 + Int32.ofInt 1).toInt = (H.2.1 22 12).toInt + 1 := zw_p1 (by omega)
        have b1 := zB_puta (p := 27) (j := (H.2.1 22 12).toInt.toNat) (x := xc) (t := 0) (n := 4) h.1.1 rfl (fun r hr => by
          have hr : [((0 : Int), (63 : Int))][(H.2.1 22 12).toInt.toNat % 1]? = some r := hr
          rw [Nat.mod_one] at hr
          cases hr
          exact hc) (zJc_I rfl h.1.1.2.2.2.2.2.2.2) (fun k r hr => by cases hr)
        have b2 := zB_puta (p := 28) (j := (H.2.1 22 12).toInt.toNat) (x := xh) (t := 0) (n := 4) b1 rfl (fun r hr => by
          have hr : [((-2147483648 : Int), (2147483647 : Int))][(H.2.1 22 12).toInt.toNat % 1]? = some r := hr
          rw [Nat.mod_one] at hr
          cases hr
          exact ⟨Int32.le_toInt _, Int32.toInt_le _⟩) (zJc_I rfl b1.2.2.2.2.2.2.2) (fun k r hr => by cases hr)
        have b3 := zB_puta (p := 29) (j := (H.2.1 22 12).toInt.toNat) (x := y) (t := 0) (n := 4) b2 rfl (fun r hr => by
          have hr : [((-2147483648 : Int), (2147483647 : Int))][(H.2.1 22 12).toInt.toNat % 1]? = some r := hr
          rw [Nat.mod_one] at hr
          cases hr
          exact ⟨Int32.le_toInt _, Int32.toInt_le _⟩) (zJc_I rfl b2.2.2.2.2.2.2.2) (fun k r hr => by cases hr)
        have b4 := zB_putf (p := 22) (k := 12) (x := H.2.1 22 12 + Int32.ofInt 1) b3 rfl (fun r hr => by cases hr; exact ⟨by show (0 : Int) ≤ _; omega, by show _ ≤ (4 : Int); omega⟩) (zJc_I rfl b3.2.2.2.2.2.2.2)
        have hn2 : ¬ ys_kd T n q = 2 := by omega
        refine zw_ld (n := 1) (k := 1) (f := zp_isR) (pc' := 90) rfl rfl l1 rfl rfl ?_
        refine zw_gR (q := 22) (pc' := 93) W rfl rfl rfl rfl (W.2 22 13 _ rfl) rfl ?_
        refine zw_ld (n := 1) (k := 1) (f := zp_isR) (pc' := 94) rfl rfl l1 rfl rfl ?_
        refine zw_gI (q := 22) (pc' := 97) W rfl rfl rfl rfl rfl rfl ?_
        refine zw_ld (n := 1) (k := 3) (f := zp_isI) (pc' := 98) rfl rfl l3 rfl rfl ?_
        refine zw_is (q := 27) (pc' := 99) W rfl rfl (by decide) (⟨r12.1, by show _ < ((4 : Nat) : Int); omega⟩) rfl ?_
        refine zw_ld (n := 1) (k := 1) (f := zp_isR) (pc' := 100) rfl rfl l1 rfl rfl ?_
        refine zw_gR (q := 22) (pc' := 103) W rfl rfl rfl rfl (W.2 22 14 _ rfl) rfl ?_
        refine zw_ld (n := 1) (k := 1) (f := zp_isR) (pc' := 104) rfl rfl l1 rfl rfl ?_
        refine zw_gI (q := 22) (pc' := 107) W rfl rfl rfl rfl (zw_ne rfl rfl) rfl ?_
        refine zw_ld (n := 2) (k := 4) (f := zp_isI) (pc' := 109) rfl rfl l4 rfl rfl ?_
        refine zw_is (q := 28) (pc' := 110) W rfl rfl (by decide) (⟨r12.1, by show _ < ((4 : Nat) : Int); omega⟩) rfl ?_
        refine zw_ld (n := 1) (k := 1) (f := zp_isR) (pc' := 111) rfl rfl l1 rfl rfl ?_
        refine zw_gR (q := 22) (pc' := 114) W rfl rfl rfl rfl (W.2 22 15 _ rfl) rfl ?_
        refine zw_ld (n := 1) (k := 1) (f := zp_isR) (pc' := 115) rfl rfl l1 rfl rfl ?_
        refine zw_gI (q := 22) (pc' := 118) W rfl rfl rfl rfl (zw_ne (zw_ne rfl rfl) rfl) rfl ?_
        refine zw_ld (n := 2) (k := 5) (f := zp_isI) (pc' := 120) rfl rfl l5 rfl rfl ?_
        refine zw_is (q := 29) (pc' := 121) W rfl rfl (by decide) (⟨r12.1, by show _ < ((4 : Nat) : Int); omega⟩) rfl ?_
        refine zw_ld (n := 1) (k := 1) (f := zp_isR) (pc' := 122) rfl rfl l1 rfl rfl ?_
        refine zw_s (pc' := 123) rfl rfl ?_
        refine zw_gI (q := 22) (pc' := 126) W rfl rfl rfl rfl (zw_ne (zw_ne (zw_ne rfl rfl) rfl) rfl) rfl ?_
        refine zw_s (pc' := 127) rfl rfl ?_
        refine zw_iadd (pc' := 128) rfl rfl ?_
        refine zw_pI (q := 22) (pc' := 131) W rfl rfl rfl rfl rfl rfl ?_
        refine zw_s (pc' := 132) rfl rfl ?_
        refine zw_rz rfl rfl (by decide) ?_
        refine yRL_1 (yE_I (yE_I (yE_I (yE_I h b1 rfl) b2 rfl) b3 rfl) b4 rfl) (d' := yWpi d xc.toInt xh.toInt y) ⟨yDc_W (by omega) (yDc_W (by omega) (yDc_W (by omega) ?_)), yXd_o (by decide) (yXd_wD (yLc_inj hwc) (by omega) (by rw [yL_620 (by omega), hpl]) rfl (yXd_wD (yLc_inj hwc) (by omega) (by rw [yL_610 (by omega), hpl]) rfl (yXd_wD (yLc_inj hwc) (by omega) (by rw [yL_600 (by omega), hpl]) rfl (yXd_k (by decide) hX))))⟩ (yR2_t hR (yR2_s (yN2_22.trans (if_neg hn2)))) hsq
        obtain ⟨g1, g2, g3, g4, g5, g6, g7, g8, g9, g10⟩ := hD
        have e : ∀ q k, ((Nat.beq q 22).and (Nat.beq k 12)) = false → Nat.beq q 27 = false → Nat.beq q 28 = false → Nat.beq q 29 = false → ((zw_I (zw_I (zw_I (zw_I H 27 (H.2.1 22 12).toInt.toNat xc) 28 (H.2.1 22 12).toInt.toNat xh) 29 (H.2.1 22 12).toInt.toNat y) 22 12 (H.2.1 22 12 + Int32.ofInt 1)).2.1 q k).toInt = (H.2.1 q k).toInt := fun q k h1 h2 h3 h4 => congrArg Int32.toInt (zw_ne (zw_ne (zw_ne (zw_ne rfl (by rw [h2]; rfl)) (by rw [h3]; rfl)) (by rw [h4]; rfl)) h1)
        exact ⟨(e 22 0 rfl rfl rfl rfl).trans g1, (e 22 1 rfl rfl rfl rfl).trans g2, (e 13 0 rfl rfl rfl rfl).trans g3, (e 22 7 rfl rfl rfl rfl).trans g4, (congrArg Int32.toInt zw_eq).trans (by rw [e12, hpl]; rfl), (e 22 16 rfl rfl rfl rfl).trans g6, (e 51 2 rfl rfl rfl rfl).trans g7, (e 51 3 rfl rfl rfl rfl).trans g8, g9, g10⟩
      · have hk2 : ys_kd T n q = 2 := by omega
        obtain ⟨_, c1, v, H1, rfl, c2, c3⟩ := yc_rr13 (L := L) (σ := σ) (dd := dd) (d := d) (y := y) (xx := xc.toInt) (aa := xh.toInt) hk2 h hD.2.2.1
        refine zw_ld (n := 1) (k := 0) (f := zp_isR) (pc' := 58) rfl rfl l0 rfl rfl ?_
        refine zw_ld (n := 1) (k := 2) (f := zp_isR) (pc' := 59) rfl rfl l2 rfl rfl ?_
        refine zw_ld (n := 2) (k := 5) (f := zp_isI) (pc' := 61) rfl rfl l5 rfl rfl ?_
        refine zw_c (pc' := 64) (zw_cv (q := 51) (Y := zm_83) W.1 rfl rfl zm_83_t rfl rfl) rfl rfl rfl rfl rfl (c1) ?_
        refine zw_st (n := 2) (k := 7) (f := zp_isI) (pc' := 66) rfl rfl rfl rfl rfl ?_
        refine zw_ld (n := 2) (k := 7) (f := zp_isI) (pc' := 68) rfl rfl zw_g1 rfl rfl ?_
        refine zw_s (pc' := 69) rfl rfl ?_
        refine zw_bne2 (g := 74) (pc' := 72) rfl rfl rfl rfl (rfl : _ = (-1 : Int)) (fun h6 => ?_) (fun h6 => ?_)
        · rcases c3 with ⟨k1, k2, k3, k4, k5⟩ | ⟨k1, _⟩
          rotate_left
          · omega
          have W1 := zB_Wd k5.1.1
          have hD1 : yDd 22 13 d H1 := yDd_F hwc c2 rfl rfl ⟨hD, hX⟩
          obtain ⟨s, hs, es⟩ : ∃ s : Nat, s < 8 ∧ ys_vl T n q = (s : Int) := ⟨(ys_vl T n q).toNat, by omega, by omega⟩
          have ev : v = Int32.ofInt (ys_vl T n q) := by rw [← k1, Int32.ofInt_toInt]
          have hN : yN2 T n (22, [], xc.toInt, xh.toInt, y, d, q) = .inl (22, [], xc.toInt, xh.toInt, y ||| Int32.ofInt 1 <<< (Int32.ofInt (ys_vl T n q) &&& 31), d, ys_nx T n q) := by
            rw [yN2_22, if_pos hk2, if_neg (by omega), if_neg (by omega), if_neg k4]
          have k4 := k4
          rw [es, hy] at k4
          obtain ⟨u1, u2, u3⟩ := yPt_u hr hs k4
          have ei : (i + Int32.ofInt 1).toInt = i.toInt + 1 := zw_p1 (by omega)
          refine zw_ld (n := 2) (k := 5) (f := zp_isI) (pc' := 76) rfl rfl (zw_gt l5 rfl rfl) rfl rfl ?_
          refine zw_s (pc' := 77) rfl rfl ?_
          refine zw_ld (n := 2) (k := 7) (f := zp_isI) (pc' := 79) rfl rfl zw_g1 rfl rfl ?_
          refine zw_ishl (pc' := 80) rfl rfl ?_
          refine zw_ior (pc' := 81) rfl rfl ?_
          refine zw_st (n := 2) (k := 5) (f := zp_isI) (pc' := 83) rfl rfl rfl rfl rfl ?_
          refine zw_ii (pc' := 86) rfl (zw_gt (zw_gt l6 rfl rfl) rfl rfl) rfl rfl ?_
          refine zw_s (pc' := 39) rfl rfl ?_
          exfalso
          have := yPc_8 (r ||| 2 ^ s)
          omega
        · refine zw_s (pc' := 73) rfl rfl ?_
          refine zw_rz rfl rfl (by decide) ?_
          rcases c3 with ⟨k1, k2, _⟩ | ⟨_, k, k1, k2, k3, k4, k5⟩
          · omega
          · exact yRL_0 k4 k3 (yR2_a hR (yA2_done k5)) ⟨k1, k2⟩
  | succ m ih =>
    intro H lv9 i y q r hm l0 l1 l2 l3 l4 l5 l6 hy hr hi h hDd hR hsq
    obtain ⟨hD, hX⟩ := hDd
    have hwc : yWC 22 13 := ⟨by decide, by decide⟩
    have W := zB_Wd h.1.1
    have h4k := yE_4 h
    have h8 := yPc_8 r
    have r12 := zB_fr1 h.1.1 (p := 22) (k := 12) (r := (0, 4)) rfl
    have r12 : 0 ≤ (H.2.1 22 12).toInt ∧ (H.2.1 22 12).toInt ≤ 4 := r12
    have hpl : (H.2.1 22 12).toInt = d.1 6 := hD.2.2.2.2.1
    have rsl := zB_fr1 h.1.1 (p := 13) (k := 0) (r := (0, 8)) rfl
    have rsl : 0 ≤ (H.2.1 13 0).toInt ∧ (H.2.1 13 0).toInt ≤ 8 := rsl
    have hsl : (H.2.1 13 0).toInt = d.1 4 := hD.2.2.1
    refine zw_ld (n := 2) (k := 6) (f := zp_isI) (pc' := 41) rfl rfl l6 rfl rfl ?_
    refine zw_s (pc' := 43) rfl rfl ?_
    refine zw_bgt2 (g := 89) (pc' := 46) rfl rfl rfl rfl (rfl : _ = (8 : Int)) (fun h7 => ?_) (fun h7 => ?_)
    · omega
    · refine zw_ld (n := 1) (k := 0) (f := zp_isR) (pc' := 47) rfl rfl l0 rfl rfl ?_
      refine zw_gR (q := 51) (pc' := 50) W rfl rfl rfl rfl (W.2 51 0 _ rfl) rfl ?_
      refine zw_gI (q := 52) (pc' := 53) W rfl rfl rfl rfl rfl rfl ?_
      refine zw_s (pc' := 54) rfl rfl ?_
      refine zw_bne2 (g := 89) (pc' := 57) rfl rfl rfl rfl (rfl : _ = (2 : Int)) (fun h2 => ?_) (fun h2 => ?_)
      · have e12 : (H.2.1 22 12 + Int32.ofInt 1).toInt = (H.2.1 22 12).toInt + 1 := zw_p1 (by omega)
        have b1 := zB_puta (p := 27) (j := (H.2.1 22 12).toInt.toNat) (x := xc) (t := 0) (n := 4) h.1.1 rfl (fun r hr => by
          have hr : [((0 : Int), (63 : Int))][(H.2.1 22 12).toInt.toNat % 1]? = some r := hr
          rw [Nat.mod_one] at hr
          cases hr
          exact hc) (zJc_I rfl h.1.1.2.2.2.2.2.2.2) (fun k r hr => by cases hr)
        have b2 := zB_puta (p := 28) (j := (H.2.1 22 12).toInt.toNat) (x := xh) (t := 0) (n := 4) b1 rfl (fun r hr => by
          have hr : [((-2147483648 : Int), (2147483647 : Int))][(H.2.1 22 12).toInt.toNat % 1]? = some r := hr
          rw [Nat.mod_one] at hr
          cases hr
          exact ⟨Int32.le_toInt _, Int32.toInt_le _⟩) (zJc_I rfl b1.2.2.2.2.2.2.2) (fun k r hr => by cases hr)
        have b3 := zB_puta (p := 29) (j := (H.2.1 22 12).toInt.toNat) (x := y) (t := 0) (n := 4) b2 rfl (fun r hr => by
          have hr : [((-2147483648 : Int), (2147483647 : Int))][(H.2.1 22 12).toInt.toNat % 1]? = some r := hr
          rw [Nat.mod_one] at hr
          cases hr
          exact ⟨Int32.le_toInt _, Int32.toInt_le _⟩) (zJc_I rfl b2.2.2.2.2.2.2.2) (fun k r hr => by cases hr)
        have b4 := zB_putf (p := 22) (k := 12) (x := H.2.1 22 12 + Int32.ofInt 1) b3 rfl (fun r hr => by cases hr; exact ⟨by show (0 : Int) ≤ _; omega, by show _ ≤ (4 : Int); omega⟩) (zJc_I rfl b3.2.2.2.2.2.2.2)
        have hn2 : ¬ ys_kd T n q = 2 := by omega
        refine zw_ld (n := 1) (k := 1) (f := zp_isR) (pc' := 90) rfl rfl l1 rfl rfl ?_
        refine zw_gR (q := 22) (pc' := 93) W rfl rfl rfl rfl (W.2 22 13 _ rfl) rfl ?_
        refine zw_ld (n := 1) (k := 1) (f := zp_isR) (pc' := 94) rfl rfl l1 rfl rfl ?_
        refine zw_gI (q := 22) (pc' := 97) W rfl rfl rfl rfl rfl rfl ?_
        refine zw_ld (n := 1) (k := 3) (f := zp_isI) (pc' := 98) rfl rfl l3 rfl rfl ?_
        refine zw_is (q := 27) (pc' := 99) W rfl rfl (by decide) (⟨r12.1, by show _ < ((4 : Nat) : Int); omega⟩) rfl ?_
        refine zw_ld (n := 1) (k := 1) (f := zp_isR) (pc' := 100) rfl rfl l1 rfl rfl ?_
        refine zw_gR (q := 22) (pc' := 103) W rfl rfl rfl rfl (W.2 22 14 _ rfl) rfl ?_
        refine zw_ld (n := 1) (k := 1) (f := zp_isR) (pc' := 104) rfl rfl l1 rfl rfl ?_
        refine zw_gI (q := 22) (pc' := 107) W rfl rfl rfl rfl (zw_ne rfl rfl) rfl ?_
        refine zw_ld (n := 2) (k := 4) (f := zp_isI) (pc' := 109) rfl rfl l4 rfl rfl ?_
        refine zw_is (q := 28) (pc' := 110) W rfl rfl (by decide) (⟨r12.1, by show _ < ((4 : Nat) : Int); omega⟩) rfl ?_
        refine zw_ld (n := 1) (k := 1) (f := zp_isR) (pc' := 111) rfl rfl l1 rfl rfl ?_
        refine zw_gR (q := 22) (pc' := 114) W rfl rfl rfl rfl (W.2 22 15 _ rfl) rfl ?_
        refine zw_ld (n := 1) (k := 1) (f := zp_isR) (pc' := 115) rfl rfl l1 rfl rfl ?_
        refine zw_gI (q := 22) (pc' := 118) W rfl rfl rfl rfl (zw_ne (zw_ne rfl rfl) rfl) rfl ?_
        refine zw_ld (n := 2) (k := 5) (f := zp_isI) (pc' := 120) rfl rfl l5 rfl rfl ?_
        refine zw_is (q := 29) (pc' := 121) W rfl rfl (by decide) (⟨r12.1, by show _ < ((4 : Nat) : Int); omega⟩) rfl ?_
        refine zw_ld (n := 1) (k := 1) (f := zp_isR) (pc' := 122) rfl rfl l1 rfl rfl ?_
        refine zw_s (pc' := 123) rfl rfl ?_
        refine zw_gI (q := 22) (pc' := 126) W rfl rfl rfl rfl (zw_ne (zw_ne (zw_ne rfl rfl) rfl) rfl) rfl ?_
        refine zw_s (pc' := 127) rfl rfl ?_
        refine zw_iadd (pc' := 128) rfl rfl ?_
        refine zw_pI (q := 22) (pc' := 131) W rfl rfl rfl rfl rfl rfl ?_
        refine zw_s (pc' := 132) rfl rfl ?_
        refine zw_rz rfl rfl (by decide) ?_
        refine yRL_1 (yE_I (yE_I (yE_I (yE_I h b1 rfl) b2 rfl) b3 rfl) b4 rfl) (d' := yWpi d xc.toInt xh.toInt y) ⟨yDc_W (by omega) (yDc_W (by omega) (yDc_W (by omega) ?_)), yXd_o (by decide) (yXd_wD (yLc_inj hwc) (by omega) (by rw [yL_620 (by omega), hpl]) rfl (yXd_wD (yLc_inj hwc) (by omega) (by rw [yL_610 (by omega), hpl]) rfl (yXd_wD (yLc_inj hwc) (by omega) (by rw [yL_600 (by omega), hpl]) rfl (yXd_k (by decide) hX))))⟩ (yR2_t hR (yR2_s (yN2_22.trans (if_neg hn2)))) hsq
        obtain ⟨g1, g2, g3, g4, g5, g6, g7, g8, g9, g10⟩ := hD
        have e : ∀ q k, ((Nat.beq q 22).and (Nat.beq k 12)) = false → Nat.beq q 27 = false → Nat.beq q 28 = false → Nat.beq q 29 = false → ((zw_I (zw_I (zw_I (zw_I H 27 (H.2.1 22 12).toInt.toNat xc) 28 (H.2.1 22 12).toInt.toNat xh) 29 (H.2.1 22 12).toInt.toNat y) 22 12 (H.2.1 22 12 + Int32.ofInt 1)).2.1 q k).toInt = (H.2.1 q k).toInt := fun q k h1 h2 h3 h4 => congrArg Int32.toInt (zw_ne (zw_ne (zw_ne (zw_ne rfl (by rw [h2]; rfl)) (by rw [h3]; rfl)) (by rw [h4]; rfl)) h1)
        exact ⟨(e 22 0 rfl rfl rfl rfl).trans g1, (e 22 1 rfl rfl rfl rfl).trans g2, (e 13 0 rfl rfl rfl rfl).trans g3, (e 22 7 rfl rfl rfl rfl).trans g4, (congrArg Int32.toInt zw_eq).trans (by rw [e12, hpl]; rfl), (e 22 16 rfl rfl rfl rfl).trans g6, (e 51 2 rfl rfl rfl rfl).trans g7, (e 51 3 rfl rfl rfl rfl).trans g8, g9, g10⟩
      · have hk2 : ys_kd T n q = 2 := by omega
        obtain ⟨_, c1, v, H1, rfl, c2, c3⟩ := yc_rr13 (L := L) (σ := σ) (dd := dd) (d := d) (y := y) (xx := xc.toInt) (aa := xh.toInt) hk2 h hD.2.2.1
        refine zw_ld (n := 1) (k := 0) (f := zp_isR) (pc' := 58) rfl rfl l0 rfl rfl ?_
        refine zw_ld (n := 1) (k := 2) (f := zp_isR) (pc' := 59) rfl rfl l2 rfl rfl ?_
        refine zw_ld (n := 2) (k := 5) (f := zp_isI) (pc' := 61) rfl rfl l5 rfl rfl ?_
        refine zw_c (pc' := 64) (zw_cv (q := 51) (Y := zm_83) W.1 rfl rfl zm_83_t rfl rfl) rfl rfl rfl rfl rfl (c1) ?_
        refine zw_st (n := 2) (k := 7) (f := zp_isI) (pc' := 66) rfl rfl rfl rfl rfl ?_
        refine zw_ld (n := 2) (k := 7) (f := zp_isI) (pc' := 68) rfl rfl zw_g1 rfl rfl ?_
        refine zw_s (pc' := 69) rfl rfl ?_
        refine zw_bne2 (g := 74) (pc' := 72) rfl rfl rfl rfl (rfl : _ = (-1 : Int)) (fun h6 => ?_) (fun h6 => ?_)
        · rcases c3 with ⟨k1, k2, k3, k4, k5⟩ | ⟨k1, _⟩
          rotate_left
          · omega
          have W1 := zB_Wd k5.1.1
          have hD1 : yDd 22 13 d H1 := yDd_F hwc c2 rfl rfl ⟨hD, hX⟩
          obtain ⟨s, hs, es⟩ : ∃ s : Nat, s < 8 ∧ ys_vl T n q = (s : Int) := ⟨(ys_vl T n q).toNat, by omega, by omega⟩
          have ev : v = Int32.ofInt (ys_vl T n q) := by rw [← k1, Int32.ofInt_toInt]
          have hN : yN2 T n (22, [], xc.toInt, xh.toInt, y, d, q) = .inl (22, [], xc.toInt, xh.toInt, y ||| Int32.ofInt 1 <<< (Int32.ofInt (ys_vl T n q) &&& 31), d, ys_nx T n q) := by
            rw [yN2_22, if_pos hk2, if_neg (by omega), if_neg (by omega), if_neg k4]
          have k4 := k4
          rw [es, hy] at k4
          obtain ⟨u1, u2, u3⟩ := yPt_u hr hs k4
          have ei : (i + Int32.ofInt 1).toInt = i.toInt + 1 := zw_p1 (by omega)
          refine zw_ld (n := 2) (k := 5) (f := zp_isI) (pc' := 76) rfl rfl (zw_gt l5 rfl rfl) rfl rfl ?_
          refine zw_s (pc' := 77) rfl rfl ?_
          refine zw_ld (n := 2) (k := 7) (f := zp_isI) (pc' := 79) rfl rfl zw_g1 rfl rfl ?_
          refine zw_ishl (pc' := 80) rfl rfl ?_
          refine zw_ior (pc' := 81) rfl rfl ?_
          refine zw_st (n := 2) (k := 5) (f := zp_isI) (pc' := 83) rfl rfl rfl rfl rfl ?_
          refine zw_ii (pc' := 86) rfl (zw_gt (zw_gt l6 rfl rfl) rfl rfl) rfl rfl ?_
          refine zw_s (pc' := 39) rfl rfl ?_
          refine ih _ _ _ _ _ (r ||| 2 ^ s) (by omega) (zw_gt (zw_gt (zw_gt l0 rfl rfl) rfl rfl) rfl rfl) (zw_gt (zw_gt (zw_gt l1 rfl rfl) rfl rfl) rfl rfl) (zw_gt (zw_gt (zw_gt l2 rfl rfl) rfl rfl) rfl rfl) (zw_gt (zw_gt (zw_gt l3 rfl rfl) rfl rfl) rfl rfl) (zw_gt (zw_gt (zw_gt l4 rfl rfl) rfl rfl) rfl rfl) (zw_gt zw_g1 rfl rfl) zw_g1 ?_ u2 (by omega) k5 hD1 ?_ (Nat.le_trans hsq (ys_le1 h.2.2))
          · rw [ev, es, hy]
            exact u1
          · rw [ev]
            exact yR2_t hR (yR2_s hN)
        · refine zw_s (pc' := 73) rfl rfl ?_
          refine zw_rz rfl rfl (by decide) ?_
          rcases c3 with ⟨k1, k2, _⟩ | ⟨_, k, k1, k2, k3, k4, k5⟩
          · omega
          · exact yRL_0 k4 k3 (yR2_a hR (yA2_done k5)) ⟨k1, k2⟩

set_option maxRecDepth 8000 in
theorem yc_pilot22_13 {L : Nat} {σ : Nat → Int32} {dd : Nat} {T : Nat → Int} {n p : Nat} {d : yLD} {H : zp_H} (h4 : d.1 6 < 4) (h : yE T n p H) (hDd : yDd 22 13 d H) : ∃ X, zp_Call L σ (dd + 5) 82 [.inr (.inr (some 52)), .inr (.inr (some 23)), .inr (.inr (some 14))] H X ∧ yRL T n 22 13 (19, [], 0, 0, 0, d, p) X := by
  obtain ⟨hD, hX⟩ := hDd
  have hwc : yWC 22 13 := ⟨by decide, by decide⟩
  have W := zB_Wd h.1.1
  obtain ⟨_, c1, v, H1, rfl, c2, c3⟩ := yc_cell22 (L := L) (σ := σ) (d := dd) (taken := Int64.ofNat 0) hD.1 hD.2.1 h
  refine zw_met zm_82_t rfl rfl ?_
  refine zw_ld (n := 1) (k := 0) (f := zp_isR) (pc' := 1) rfl rfl rfl rfl rfl ?_
  refine zw_ld (n := 1) (k := 1) (f := zp_isR) (pc' := 2) rfl rfl rfl rfl rfl ?_
  refine zw_s (pc' := 3) rfl rfl ?_
  refine zw_c (pc' := 6) (zw_cv (q := 51) (Y := zm_70) W.1 rfl rfl zm_70_t rfl rfl) rfl rfl rfl rfl rfl (c1) ?_
  refine zw_st (n := 1) (k := 3) (f := zp_isI) (pc' := 7) rfl rfl rfl rfl rfl ?_
  refine zw_ld (n := 1) (k := 3) (f := zp_isI) (pc' := 8) rfl rfl zw_g1 rfl rfl ?_
  refine zw_s (pc' := 9) rfl rfl ?_
  refine zw_bne2 (g := 16) (pc' := 12) rfl rfl rfl rfl (rfl : _ = (-1 : Int)) (fun h1 => ?_) (fun h1 => ?_)
  · rcases c3 with ⟨k1, k2, k3, k4, k5, k6⟩ | ⟨k1, _⟩
    rotate_left
    · omega
    have W1 := zB_Wd k6.1.1
    have hD1 : yDd 22 13 d H1 := yDd_F hwc c2 rfl rfl ⟨hD, hX⟩
    obtain ⟨_, d1, v2, H2, rfl, d2, d3⟩ := yc_num (L := L) (σ := σ) (d := dd) (x := Int32.ofInt 0) (y := Int32.ofInt 99) (lo := 0) (hi := 99) rfl rfl k6
    refine zw_ld (n := 1) (k := 0) (f := zp_isR) (pc' := 17) rfl rfl (zw_gt rfl rfl rfl) rfl rfl ?_
    refine zw_s (pc' := 18) rfl rfl ?_
    refine zw_s (pc' := 20) rfl rfl ?_
    refine zw_c (pc' := 23) (zw_cv (q := 51) (Y := zm_65) W1.1 rfl rfl zm_65_t rfl rfl) rfl rfl rfl rfl rfl (d1) ?_
    refine zw_st (n := 2) (k := 4) (f := zp_isI) (pc' := 25) rfl rfl rfl rfl rfl ?_
    refine zw_ld (n := 2) (k := 4) (f := zp_isI) (pc' := 27) rfl rfl zw_g1 rfl rfl ?_
    refine zw_s (pc' := 28) rfl rfl ?_
    refine zw_bne2 (g := 33) (pc' := 31) rfl rfl rfl rfl (rfl : _ = (-1 : Int)) (fun h2 => ?_) (fun h2 => ?_)
    · rcases d3 with ⟨m1, m2, m3, m4, m5, m6, m7⟩ | ⟨m1, _⟩
      rotate_left
      · omega
      have W2 := zB_Wd m7.1.1
      have hD2 : yDd 22 13 d H2 := yDd_F hwc d2 rfl rfl hD1
      refine zw_s (pc' := 34) rfl rfl ?_
      refine zw_st (n := 2) (k := 5) (f := zp_isI) (pc' := 36) rfl rfl rfl rfl rfl ?_
      refine zw_s (pc' := 37) rfl rfl ?_
      refine zw_st (n := 2) (k := 6) (f := zp_isI) (pc' := 39) rfl rfl rfl rfl rfl ?_
      exact yc_piL22_13 k4 h4 _ H2 _ _ _ _ 0 (Nat.le_refl _) (zw_gt (zw_gt (zw_gt (zw_gt rfl rfl rfl) rfl rfl) rfl rfl) rfl rfl) (zw_gt (zw_gt (zw_gt (zw_gt rfl rfl rfl) rfl rfl) rfl rfl) rfl rfl) (zw_gt (zw_gt (zw_gt (zw_gt rfl rfl rfl) rfl rfl) rfl rfl) rfl rfl) (zw_gt (zw_gt (zw_gt zw_g1 rfl rfl) rfl rfl) rfl rfl) (zw_gt (zw_gt zw_g1 rfl rfl) rfl rfl) (zw_gt zw_g1 rfl rfl) zw_g1 rfl (by decide) rfl m7 hD2 (by rw [k1, m1]; exact yR2_t (yR2_s (yN2_19.trans (k2 _))) (yR2_t (yR2_s (yN2_20.trans (k3 _))) (yR2_s (yN2_21.trans (m6 _))))) (ys_le3 h.2.2)
    · refine zw_s (pc' := 32) rfl rfl ?_
      refine zw_rz rfl rfl (by decide) ?_
      rcases d3 with ⟨m1, m2, m3, m4, _⟩ | ⟨_, k, m1, m2, m3, m4, m5⟩
      · omega
      · exact yRL_0 m5 m3 (yA2_step (yN2_19.trans (k2 _)) (yA2_step (yN2_20.trans (k3 _)) (yA2_done (yN2_21.trans (m4 _))))) ⟨m1, m2⟩
  · refine zw_s (pc' := 13) rfl rfl ?_
    refine zw_s (pc' := 23) rfl rfl ?_
    refine zw_st (n := 2) (k := 4) (f := zp_isI) (pc' := 25) rfl rfl rfl rfl rfl ?_
    refine zw_ld (n := 2) (k := 4) (f := zp_isI) (pc' := 27) rfl rfl zw_g1 rfl rfl ?_
    refine zw_s (pc' := 28) rfl rfl ?_
    refine zw_bne2 (g := 33) (pc' := 31) rfl rfl rfl (rfl : _ = (-1 : Int)) (rfl : _ = (-1 : Int)) (fun h9 => absurd h9 (by decide)) (fun h2 => ?_)
    refine zw_s (pc' := 32) rfl rfl ?_
    refine zw_rz rfl rfl (by decide) ?_
    rcases c3 with ⟨_, _, _, k4, _⟩ | ⟨_, k, q, k1, k2, k3, k5, k6⟩
    · omega
    · refine yRL_0 k5 k3 ?_ ⟨k1, k2⟩
      rcases k6 with ⟨rfl, m1⟩ | ⟨rfl, m1, m2⟩ | ⟨_, rfl, m1, m2, m3⟩
      · exact yA2_done (yN2_19.trans (m1 _))
      · exact yA2_step (yN2_19.trans (m1 _)) (yA2_done (yN2_20.trans (m2 _)))
      · exact absurd Int64.zero_and m3

set_option maxRecDepth 8000 in
theorem yc_piL22_33 {L : Nat} {σ : Nat → Int32} {dd : Nat} {T : Nat → Int} {n : Nat} {s0 : yL} {d : yLD} {xc xh : Int32} (hc : 0 ≤ xc.toInt ∧ xc.toInt ≤ 63) (h4 : d.1 6 < 4) : ∀ (m : Nat) (H : zp_H) (lv9 : zp_LV) (i y : Int32) (q r : Nat), 8 - yPc r ≤ m → zp_get lv9 0 = some (.inr (.inr (some 52))) → zp_get lv9 1 = some (.inr (.inr (some 23))) → zp_get lv9 2 = some (.inr (.inr (some 34))) → zp_get lv9 3 = some (.inl xc) → zp_get lv9 4 = some (.inl xh) → zp_get lv9 5 = some (.inl y) → zp_get lv9 6 = some (.inl i) → y = Int32.ofNat r → r < 256 → i.toInt = yPc r → yE T n q H → yDd 22 33 d H → yR2 T n s0 (22, [], xc.toInt, xh.toInt, y, d, q) → s0.2.2.2.2.2.2 ≤ q → zs_Safe L σ (yRL T n 22 33 s0) zm_82 [] (dd + 4) (39, lv9, [], H, (0, 0)) := by
  intro m
  induction m with
  | zero =>
    intro H lv9 i y q r hm l0 l1 l2 l3 l4 l5 l6 hy hr hi h hDd hR hsq
    obtain ⟨hD, hX⟩ := hDd
    have hwc : yWC 22 33 := ⟨by decide, by decide⟩
    have W := zB_Wd h.1.1
    have h4k := yE_4 h
    have h8 := yPc_8 r
    have r12 := zB_fr1 h.1.1 (p := 22) (k := 12) (r := (0, 4)) rfl
    have r12 : 0 ≤ (H.2.1 22 12).toInt ∧ (H.2.1 22 12).toInt ≤ 4 := r12
    have hpl : (H.2.1 22 12).toInt = d.1 6 := hD.2.2.2.2.1
    have rsl := zB_fr1 h.1.1 (p := 33) (k := 0) (r := (0, 8)) rfl
    have rsl : 0 ≤ (H.2.1 33 0).toInt ∧ (H.2.1 33 0).toInt ≤ 8 := rsl
    have hsl : (H.2.1 33 0).toInt = d.1 4 := hD.2.2.1
    refine zw_ld (n := 2) (k := 6) (f := zp_isI) (pc' := 41) rfl rfl l6 rfl rfl ?_
    refine zw_s (pc' := 43) rfl rfl ?_
    refine zw_bgt2 (g := 89) (pc' := 46) rfl rfl rfl rfl (rfl : _ = (8 : Int)) (fun h7 => ?_) (fun h7 => ?_)
    · omega
    · refine zw_ld (n := 1) (k := 0) (f := zp_isR) (pc' := 47) rfl rfl l0 rfl rfl ?_
      refine zw_gR (q := 51) (pc' := 50) W rfl rfl rfl rfl (W.2 51 0 _ rfl) rfl ?_
      refine zw_gI (q := 52) (pc' := 53) W rfl rfl rfl rfl rfl rfl ?_
      refine zw_s (pc' := 54) rfl rfl ?_
      refine zw_bne2 (g := 89) (pc' := 57) rfl rfl rfl rfl (rfl : _ = (2 : Int)) (fun h2 => ?_) (fun h2 => ?_)
      · have e12 : (H.2.1 22 12 + Int32.ofInt 1).toInt = (H.2.1 22 12).toInt + 1 := zw_p1 (by omega)
        have b1 := zB_puta (p := 27) (j := (H.2.1 22 12).toInt.toNat) (x := xc) (t := 0) (n := 4) h.1.1 rfl (fun r hr => by
          have hr : [((0 : Int), (63 : Int))][(H.2.1 22 12).toInt.toNat % 1]? = some r := hr
          rw [Nat.mod_one] at hr
          cases hr
          exact hc) (zJc_I rfl h.1.1.2.2.2.2.2.2.2) (fun k r hr => by cases hr)
        have b2 := zB_puta (p := 28) (j := (H.2.1 22 12).toInt.toNat) (x := xh) (t := 0) (n := 4) b1 rfl (fun r hr => by
          have hr : [((-2147483648 : Int), (2147483647 : Int))][(H.2.1 22 12).toInt.toNat % 1]? = some r := hr
          rw [Nat.mod_one] at hr
          cases hr
          exact ⟨Int32.le_toInt _, Int32.toInt_le _⟩) (zJc_I rfl b1.2.2.2.2.2.2.2) (fun k r hr => by cases hr)
        have b3 := zB_puta (p := 29) (j := (H.2.1 22 12).toInt.toNat) (x := y) (t := 0) (n := 4) b2 rfl (fun r hr => by
          have hr : [((-2147483648 : Int), (2147483647 : Int))][(H.2.1 22 12).toInt.toNat % 1]? = some r := hr
          rw [Nat.mod_one] at hr
          cases hr
          exact ⟨Int32.le_toInt _, Int32.toInt_le _⟩) (zJc_I rfl b2.2.2.2.2.2.2.2) (fun k r hr => by cases hr)
        have b4 := zB_putf (p := 22) (k := 12) (x := H.2.1 22 12 + Int32.ofInt 1) b3 rfl (fun r hr => by cases hr; exact ⟨by show (0 : Int) ≤ _; omega, by show _ ≤ (4 : Int); omega⟩) (zJc_I rfl b3.2.2.2.2.2.2.2)
        have hn2 : ¬ ys_kd T n q = 2 := by omega
        refine zw_ld (n := 1) (k := 1) (f := zp_isR) (pc' := 90) rfl rfl l1 rfl rfl ?_
        refine zw_gR (q := 22) (pc' := 93) W rfl rfl rfl rfl (W.2 22 13 _ rfl) rfl ?_
        refine zw_ld (n := 1) (k := 1) (f := zp_isR) (pc' := 94) rfl rfl l1 rfl rfl ?_
        refine zw_gI (q := 22) (pc' := 97) W rfl rfl rfl rfl rfl rfl ?_
        refine zw_ld (n := 1) (k := 3) (f := zp_isI) (pc' := 98) rfl rfl l3 rfl rfl ?_
        refine zw_is (q := 27) (pc' := 99) W rfl rfl (by decide) (⟨r12.1, by show _ < ((4 : Nat) : Int); omega⟩) rfl ?_
        refine zw_ld (n := 1) (k := 1) (f := zp_isR) (pc' := 100) rfl rfl l1 rfl rfl ?_
        refine zw_gR (q := 22) (pc' := 103) W rfl rfl rfl rfl (W.2 22 14 _ rfl) rfl ?_
        refine zw_ld (n := 1) (k := 1) (f := zp_isR) (pc' := 104) rfl rfl l1 rfl rfl ?_
        refine zw_gI (q := 22) (pc' := 107) W rfl rfl rfl rfl (zw_ne rfl rfl) rfl ?_
        refine zw_ld (n := 2) (k := 4) (f := zp_isI) (pc' := 109) rfl rfl l4 rfl rfl ?_
        refine zw_is (q := 28) (pc' := 110) W rfl rfl (by decide) (⟨r12.1, by show _ < ((4 : Nat) : Int); omega⟩) rfl ?_
        refine zw_ld (n := 1) (k := 1) (f := zp_isR) (pc' := 111) rfl rfl l1 rfl rfl ?_
        refine zw_gR (q := 22) (pc' := 114) W rfl rfl rfl rfl (W.2 22 15 _ rfl) rfl ?_
        refine zw_ld (n := 1) (k := 1) (f := zp_isR) (pc' := 115) rfl rfl l1 rfl rfl ?_
        refine zw_gI (q := 22) (pc' := 118) W rfl rfl rfl rfl (zw_ne (zw_ne rfl rfl) rfl) rfl ?_
        refine zw_ld (n := 2) (k := 5) (f := zp_isI) (pc' := 120) rfl rfl l5 rfl rfl ?_
        refine zw_is (q := 29) (pc' := 121) W rfl rfl (by decide) (⟨r12.1, by show _ < ((4 : Nat) : Int); omega⟩) rfl ?_
        refine zw_ld (n := 1) (k := 1) (f := zp_isR) (pc' := 122) rfl rfl l1 rfl rfl ?_
        refine zw_s (pc' := 123) rfl rfl ?_
        refine zw_gI (q := 22) (pc' := 126) W rfl rfl rfl rfl (zw_ne (zw_ne (zw_ne rfl rfl) rfl) rfl) rfl ?_
        refine zw_s (pc' := 127) rfl rfl ?_
        refine zw_iadd (pc' := 128) rfl rfl ?_
        refine zw_pI (q := 22) (pc' := 131) W rfl rfl rfl rfl rfl rfl ?_
        refine zw_s (pc' := 132) rfl rfl ?_
        refine zw_rz rfl rfl (by decide) ?_
        refine yRL_1 (yE_I (yE_I (yE_I (yE_I h b1 rfl) b2 rfl) b3 rfl) b4 rfl) (d' := yWpi d xc.toInt xh.toInt y) ⟨yDc_W (by omega) (yDc_W (by omega) (yDc_W (by omega) ?_)), yXd_o (by decide) (yXd_wD (yLc_inj hwc) (by omega) (by rw [yL_620 (by omega), hpl]) rfl (yXd_wD (yLc_inj hwc) (by omega) (by rw [yL_610 (by omega), hpl]) rfl (yXd_wD (yLc_inj hwc) (by omega) (by rw [yL_600 (by omega), hpl]) rfl (yXd_k (by decide) hX))))⟩ (yR2_t hR (yR2_s (yN2_22.trans (if_neg hn2)))) hsq
        obtain ⟨g1, g2, g3, g4, g5, g6, g7, g8, g9, g10⟩ := hD
        have e : ∀ q k, ((Nat.beq q 22).and (Nat.beq k 12)) = false → Nat.beq q 27 = false → Nat.beq q 28 = false → Nat.beq q 29 = false → ((zw_I (zw_I (zw_I (zw_I H 27 (H.2.1 22 12).toInt.toNat xc) 28 (H.2.1 22 12).toInt.toNat xh) 29 (H.2.1 22 12).toInt.toNat y) 22 12 (H.2.1 22 12 + Int32.ofInt 1)).2.1 q k).toInt = (H.2.1 q k).toInt := fun q k h1 h2 h3 h4 => congrArg Int32.toInt (zw_ne (zw_ne (zw_ne (zw_ne rfl (by rw [h2]; rfl)) (by rw [h3]; rfl)) (by rw [h4]; rfl)) h1)
        exact ⟨(e 22 0 rfl rfl rfl rfl).trans g1, (e 22 1 rfl rfl rfl rfl).trans g2, (e 33 0 rfl rfl rfl rfl).trans g3, (e 22 7 rfl rfl rfl rfl).trans g4, (congrArg Int32.toInt zw_eq).trans (by rw [e12, hpl]; rfl), (e 22 16 rfl rfl rfl rfl).trans g6, (e 51 2 rfl rfl rfl rfl).trans g7, (e 51 3 rfl rfl rfl rfl).trans g8, g9, g10⟩
      · have hk2 : ys_kd T n q = 2 := by omega
        obtain ⟨_, c1, v, H1, rfl, c2, c3⟩ := yc_rr33 (L := L) (σ := σ) (dd := dd) (d := d) (y := y) (xx := xc.toInt) (aa := xh.toInt) hk2 h hD.2.2.1
        refine zw_ld (n := 1) (k := 0) (f := zp_isR) (pc' := 58) rfl rfl l0 rfl rfl ?_
        refine zw_ld (n := 1) (k := 2) (f := zp_isR) (pc' := 59) rfl rfl l2 rfl rfl ?_
        refine zw_ld (n := 2) (k := 5) (f := zp_isI) (pc' := 61) rfl rfl l5 rfl rfl ?_
        refine zw_c (pc' := 64) (zw_cv (q := 51) (Y := zm_83) W.1 rfl rfl zm_83_t rfl rfl) rfl rfl rfl rfl rfl (c1) ?_
        refine zw_st (n := 2) (k := 7) (f := zp_isI) (pc' := 66) rfl rfl rfl rfl rfl ?_
        refine zw_ld (n := 2) (k := 7) (f := zp_isI) (pc' := 68) rfl rfl zw_g1 rfl rfl ?_
        refine zw_s (pc' := 69) rfl rfl ?_
        refine zw_bne2 (g := 74) (pc' := 72) rfl rfl rfl rfl (rfl : _ = (-1 : Int)) (fun h6 => ?_) (fun h6 => ?_)
        · rcases c3 with ⟨k1, k2, k3, k4, k5⟩ | ⟨k1, _⟩
          rotate_left
          · omega
          have W1 := zB_Wd k5.1.1
          have hD1 : yDd 22 33 d H1 := yDd_F hwc c2 rfl rfl ⟨hD, hX⟩
          obtain ⟨s, hs, es⟩ : ∃ s : Nat, s < 8 ∧ ys_vl T n q = (s : Int) := ⟨(ys_vl T n q).toNat, by omega, by omega⟩
          have ev : v = Int32.ofInt (ys_vl T n q) := by rw [← k1, Int32.ofInt_toInt]
          have hN : yN2 T n (22, [], xc.toInt, xh.toInt, y, d, q) = .inl (22, [], xc.toInt, xh.toInt, y ||| Int32.ofInt 1 <<< (Int32.ofInt (ys_vl T n q) &&& 31), d, ys_nx T n q) := by
            rw [yN2_22, if_pos hk2, if_neg (by omega), if_neg (by omega), if_neg k4]
          have k4 := k4
          rw [es, hy] at k4
          obtain ⟨u1, u2, u3⟩ := yPt_u hr hs k4
          have ei : (i + Int32.ofInt 1).toInt = i.toInt + 1 := zw_p1 (by omega)
          refine zw_ld (n := 2) (k := 5) (f := zp_isI) (pc' := 76) rfl rfl (zw_gt l5 rfl rfl) rfl rfl ?_
          refine zw_s (pc' := 77) rfl rfl ?_
          refine zw_ld (n := 2) (k := 7) (f := zp_isI) (pc' := 79) rfl rfl zw_g1 rfl rfl ?_
          refine zw_ishl (pc' := 80) rfl rfl ?_
          refine zw_ior (pc' := 81) rfl rfl ?_
          refine zw_st (n := 2) (k := 5) (f := zp_isI) (pc' := 83) rfl rfl rfl rfl rfl ?_
          refine zw_ii (pc' := 86) rfl (zw_gt (zw_gt l6 rfl rfl) rfl rfl) rfl rfl ?_
          refine zw_s (pc' := 39) rfl rfl ?_
          exfalso
          have := yPc_8 (r ||| 2 ^ s)
          omega
        · refine zw_s (pc' := 73) rfl rfl ?_
          refine zw_rz rfl rfl (by decide) ?_
          rcases c3 with ⟨k1, k2, _⟩ | ⟨_, k, k1, k2, k3, k4, k5⟩
          · omega
          · exact yRL_0 k4 k3 (yR2_a hR (yA2_done k5)) ⟨k1, k2⟩
  | succ m ih =>
    intro H lv9 i y q r hm l0 l1 l2 l3 l4 l5 l6 hy hr hi h hDd hR hsq
    obtain ⟨hD, hX⟩ := hDd
    have hwc : yWC 22 33 := ⟨by decide, by decide⟩
    have W := zB_Wd h.1.1
    have h4k := yE_4 h
    have h8 := yPc_8 r
    have r12 := zB_fr1 h.1.1 (p := 22) (k := 12) (r := (0, 4)) rfl
    have r12 : 0 ≤ (H.2.1 22 12).toInt ∧ (H.2.1 22 12).toInt ≤ 4 := r12
    have hpl : (H.2.1 22 12).toInt = d.1 6 := hD.2.2.2.2.1
    have rsl := zB_fr1 h.1.1 (p := 33) (k := 0) (r := (0, 8)) rfl
    have rsl : 0 ≤ (H.2.1 33 0).toInt ∧ (H.2.1 33 0).toInt ≤ 8 := rsl
    have hsl : (H.2.1 33 0).toInt = d.1 4 := hD.2.2.1
    refine zw_ld (n := 2) (k := 6) (f := zp_isI) (pc' := 41) rfl rfl l6 rfl rfl ?_
    refine zw_s (pc' := 43) rfl rfl ?_
    refine zw_bgt2 (g := 89) (pc' := 46) rfl rfl rfl rfl (rfl : _ = (8 : Int)) (fun h7 => ?_) (fun h7 => ?_)
    · omega
    · refine zw_ld (n := 1) (k := 0) (f := zp_isR) (pc' := 47) rfl rfl l0 rfl rfl ?_
      refine zw_gR (q := 51) (pc' := 50) W rfl rfl rfl rfl (W.2 51 0 _ rfl) rfl ?_
      refine zw_gI (q := 52) (pc' := 53) W rfl rfl rfl rfl rfl rfl ?_
      refine zw_s (pc' := 54) rfl rfl ?_
      refine zw_bne2 (g := 89) (pc' := 57) rfl rfl rfl rfl (rfl : _ = (2 : Int)) (fun h2 => ?_) (fun h2 => ?_)
      · have e12 : (H.2.1 22 12 + Int32.ofInt 1).toInt = (H.2.1 22 12).toInt + 1 := zw_p1 (by omega)
        have b1 := zB_puta (p := 27) (j := (H.2.1 22 12).toInt.toNat) (x := xc) (t := 0) (n := 4) h.1.1 rfl (fun r hr => by
          have hr : [((0 : Int), (63 : Int))][(H.2.1 22 12).toInt.toNat % 1]? = some r := hr
          rw [Nat.mod_one] at hr
          cases hr
          exact hc) (zJc_I rfl h.1.1.2.2.2.2.2.2.2) (fun k r hr => by cases hr)
        have b2 := zB_puta (p := 28) (j := (H.2.1 22 12).toInt.toNat) (x := xh) (t := 0) (n := 4) b1 rfl (fun r hr => by
          have hr : [((-2147483648 : Int), (2147483647 : Int))][(H.2.1 22 12).toInt.toNat % 1]? = some r := hr
          rw [Nat.mod_one] at hr
          cases hr
          exact ⟨Int32.le_toInt _, Int32.toInt_le _⟩) (zJc_I rfl b1.2.2.2.2.2.2.2) (fun k r hr => by cases hr)
        have b3 := zB_puta (p := 29) (j := (H.2.1 22 12).toInt.toNat) (x := y) (t := 0) (n := 4) b2 rfl (fun r hr => by
          have hr : [((-2147483648 : Int), (2147483647 : Int))][(H.2.1 22 12).toInt.toNat % 1]? = some r := hr
          rw [Nat.mod_one] at hr
          cases hr
          exact ⟨Int32.le_toInt _, Int32.toInt_le _⟩) (zJc_I rfl b2.2.2.2.2.2.2.2) (fun k r hr => by cases hr)
        have b4 := zB_putf (p := 22) (k := 12) (x := H.2.1 22 12 + Int32.ofInt 1) b3 rfl (fun r hr => by cases hr; exact ⟨by show (0 : Int) ≤ _; omega, by show _ ≤ (4 : Int); omega⟩) (zJc_I rfl b3.2.2.2.2.2.2.2)
        have hn2 : ¬ ys_kd T n q = 2 := by omega
        refine zw_ld (n := 1) (k := 1) (f := zp_isR) (pc' := 90) rfl rfl l1 rfl rfl ?_
        refine zw_gR (q := 22) (pc' := 93) W rfl rfl rfl rfl (W.2 22 13 _ rfl) rfl ?_
        refine zw_ld (n := 1) (k := 1) (f := zp_isR) (pc' := 94) rfl rfl l1 rfl rfl ?_
        refine zw_gI (q := 22) (pc' := 97) W rfl rfl rfl rfl rfl rfl ?_
        refine zw_ld (n := 1) (k := 3) (f := zp_isI) (pc' := 98) rfl rfl l3 rfl rfl ?_
        refine zw_is (q := 27) (pc' := 99) W rfl rfl (by decide) (⟨r12.1, by show _ < ((4 : Nat) : Int); omega⟩) rfl ?_
        refine zw_ld (n := 1) (k := 1) (f := zp_isR) (pc' := 100) rfl rfl l1 rfl rfl ?_
        refine zw_gR (q := 22) (pc' := 103) W rfl rfl rfl rfl (W.2 22 14 _ rfl) rfl ?_
        refine zw_ld (n := 1) (k := 1) (f := zp_isR) (pc' := 104) rfl rfl l1 rfl rfl ?_
        refine zw_gI (q := 22) (pc' := 107) W rfl rfl rfl rfl (zw_ne rfl rfl) rfl ?_
        refine zw_ld (n := 2) (k := 4) (f := zp_isI) (pc' := 109) rfl rfl l4 rfl rfl ?_
        refine zw_is (q := 28) (pc' := 110) W rfl rfl (by decide) (⟨r12.1, by show _ < ((4 : Nat) : Int); omega⟩) rfl ?_
        refine zw_ld (n := 1) (k := 1) (f := zp_isR) (pc' := 111) rfl rfl l1 rfl rfl ?_
        refine zw_gR (q := 22) (pc' := 114) W rfl rfl rfl rfl (W.2 22 15 _ rfl) rfl ?_
        refine zw_ld (n := 1) (k := 1) (f := zp_isR) (pc' := 115) rfl rfl l1 rfl rfl ?_
        refine zw_gI (q := 22) (pc' := 118) W rfl rfl rfl rfl (zw_ne (zw_ne rfl rfl) rfl) rfl ?_
        refine zw_ld (n := 2) (k := 5) (f := zp_isI) (pc' := 120) rfl rfl l5 rfl rfl ?_
        refine zw_is (q := 29) (pc' := 121) W rfl rfl (by decide) (⟨r12.1, by show _ < ((4 : Nat) : Int); omega⟩) rfl ?_
        refine zw_ld (n := 1) (k := 1) (f := zp_isR) (pc' := 122) rfl rfl l1 rfl rfl ?_
        refine zw_s (pc' := 123) rfl rfl ?_
        refine zw_gI (q := 22) (pc' := 126) W rfl rfl rfl rfl (zw_ne (zw_ne (zw_ne rfl rfl) rfl) rfl) rfl ?_
        refine zw_s (pc' := 127) rfl rfl ?_
        refine zw_iadd (pc' := 128) rfl rfl ?_
        refine zw_pI (q := 22) (pc' := 131) W rfl rfl rfl rfl rfl rfl ?_
        refine zw_s (pc' := 132) rfl rfl ?_
        refine zw_rz rfl rfl (by decide) ?_
        refine yRL_1 (yE_I (yE_I (yE_I (yE_I h b1 rfl) b2 rfl) b3 rfl) b4 rfl) (d' := yWpi d xc.toInt xh.toInt y) ⟨yDc_W (by omega) (yDc_W (by omega) (yDc_W (by omega) ?_)), yXd_o (by decide) (yXd_wD (yLc_inj hwc) (by omega) (by rw [yL_620 (by omega), hpl]) rfl (yXd_wD (yLc_inj hwc) (by omega) (by rw [yL_610 (by omega), hpl]) rfl (yXd_wD (yLc_inj hwc) (by omega) (by rw [yL_600 (by omega), hpl]) rfl (yXd_k (by decide) hX))))⟩ (yR2_t hR (yR2_s (yN2_22.trans (if_neg hn2)))) hsq
        obtain ⟨g1, g2, g3, g4, g5, g6, g7, g8, g9, g10⟩ := hD
        have e : ∀ q k, ((Nat.beq q 22).and (Nat.beq k 12)) = false → Nat.beq q 27 = false → Nat.beq q 28 = false → Nat.beq q 29 = false → ((zw_I (zw_I (zw_I (zw_I H 27 (H.2.1 22 12).toInt.toNat xc) 28 (H.2.1 22 12).toInt.toNat xh) 29 (H.2.1 22 12).toInt.toNat y) 22 12 (H.2.1 22 12 + Int32.ofInt 1)).2.1 q k).toInt = (H.2.1 q k).toInt := fun q k h1 h2 h3 h4 => congrArg Int32.toInt (zw_ne (zw_ne (zw_ne (zw_ne rfl (by rw [h2]; rfl)) (by rw [h3]; rfl)) (by rw [h4]; rfl)) h1)
        exact ⟨(e 22 0 rfl rfl rfl rfl).trans g1, (e 22 1 rfl rfl rfl rfl).trans g2, (e 33 0 rfl rfl rfl rfl).trans g3, (e 22 7 rfl rfl rfl rfl).trans g4, (congrArg Int32.toInt zw_eq).trans (by rw [e12, hpl]; rfl), (e 22 16 rfl rfl rfl rfl).trans g6, (e 51 2 rfl rfl rfl rfl).trans g7, (e 51 3 rfl rfl rfl rfl).trans g8, g9, g10⟩
      · have hk2 : ys_kd T n q = 2 := by omega
        obtain ⟨_, c1, v, H1, rfl, c2, c3⟩ := yc_rr33 (L := L) (σ := σ) (dd := dd) (d := d) (y := y) (xx := xc.toInt) (aa := xh.toInt) hk2 h hD.2.2.1
        refine zw_ld (n := 1) (k := 0) (f := zp_isR) (pc' := 58) rfl rfl l0 rfl rfl ?_
        refine zw_ld (n := 1) (k := 2) (f := zp_isR) (pc' := 59) rfl rfl l2 rfl rfl ?_
        refine zw_ld (n := 2) (k := 5) (f := zp_isI) (pc' := 61) rfl rfl l5 rfl rfl ?_
        refine zw_c (pc' := 64) (zw_cv (q := 51) (Y := zm_83) W.1 rfl rfl zm_83_t rfl rfl) rfl rfl rfl rfl rfl (c1) ?_
        refine zw_st (n := 2) (k := 7) (f := zp_isI) (pc' := 66) rfl rfl rfl rfl rfl ?_
        refine zw_ld (n := 2) (k := 7) (f := zp_isI) (pc' := 68) rfl rfl zw_g1 rfl rfl ?_
        refine zw_s (pc' := 69) rfl rfl ?_
        refine zw_bne2 (g := 74) (pc' := 72) rfl rfl rfl rfl (rfl : _ = (-1 : Int)) (fun h6 => ?_) (fun h6 => ?_)
        · rcases c3 with ⟨k1, k2, k3, k4, k5⟩ | ⟨k1, _⟩
          rotate_left
          · omega
          have W1 := zB_Wd k5.1.1
          have hD1 : yDd 22 33 d H1 := yDd_F hwc c2 rfl rfl ⟨hD, hX⟩
          obtain ⟨s, hs, es⟩ : ∃ s : Nat, s < 8 ∧ ys_vl T n q = (s : Int) := ⟨(ys_vl T n q).toNat, by omega, by omega⟩
          have ev : v = Int32.ofInt (ys_vl T n q) := by rw [← k1, Int32.ofInt_toInt]
          have hN : yN2 T n (22, [], xc.toInt, xh.toInt, y, d, q) = .inl (22, [], xc.toInt, xh.toInt, y ||| Int32.ofInt 1 <<< (Int32.ofInt (ys_vl T n q) &&& 31), d, ys_nx T n q) := by
            rw [yN2_22, if_pos hk2, if_neg (by omega), if_neg (by omega), if_neg k4]
          have k4 := k4
          rw [es, hy] at k4
          obtain ⟨u1, u2, u3⟩ := yPt_u hr hs k4
          have ei : (i + Int32.ofInt 1).toInt = i.toInt + 1 := zw_p1 (by omega)
          refine zw_ld (n := 2) (k := 5) (f := zp_isI) (pc' := 76) rfl rfl (zw_gt l5 rfl rfl) rfl rfl ?_
          refine zw_s (pc' := 77) rfl rfl ?_
          refine zw_ld (n := 2) (k := 7) (f := zp_isI) (pc' := 79) rfl rfl zw_g1 rfl rfl ?_
          refine zw_ishl (pc' := 80) rfl rfl ?_
          refine zw_ior (pc' := 81) rfl rfl ?_
          refine zw_st (n := 2) (k := 5) (f := zp_isI) (pc' := 83) rfl rfl rfl rfl rfl ?_
          refine zw_ii (pc' := 86) rfl (zw_gt (zw_gt l6 rfl rfl) rfl rfl) rfl rfl ?_
          refine zw_s (pc' := 39) rfl rfl ?_
          refine ih _ _ _ _ _ (r ||| 2 ^ s) (by omega) (zw_gt (zw_gt (zw_gt l0 rfl rfl) rfl rfl) rfl rfl) (zw_gt (zw_gt (zw_gt l1 rfl rfl) rfl rfl) rfl rfl) (zw_gt (zw_gt (zw_gt l2 rfl rfl) rfl rfl) rfl rfl) (zw_gt (zw_gt (zw_gt l3 rfl rfl) rfl rfl) rfl rfl) (zw_gt (zw_gt (zw_gt l4 rfl rfl) rfl rfl) rfl rfl) (zw_gt zw_g1 rfl rfl) zw_g1 ?_ u2 (by omega) k5 hD1 ?_ (Nat.le_trans hsq (ys_le1 h.2.2))
          · rw [ev, es, hy]
            exact u1
          · rw [ev]
            exact yR2_t hR (yR2_s hN)
        · refine zw_s (pc' := 73) rfl rfl ?_
          refine zw_rz rfl rfl (by decide) ?_
          rcases c3 with ⟨k1, k2, _⟩ | ⟨_, k, k1, k2, k3, k4, k5⟩
          · omega
          · exact yRL_0 k4 k3 (yR2_a hR (yA2_done k5)) ⟨k1, k2⟩

set_option maxRecDepth 8000 in
theorem yc_pilot22_33 {L : Nat} {σ : Nat → Int32} {dd : Nat} {T : Nat → Int} {n p : Nat} {d : yLD} {H : zp_H} (h4 : d.1 6 < 4) (h : yE T n p H) (hDd : yDd 22 33 d H) : ∃ X, zp_Call L σ (dd + 5) 82 [.inr (.inr (some 52)), .inr (.inr (some 23)), .inr (.inr (some 34))] H X ∧ yRL T n 22 33 (19, [], 0, 0, 0, d, p) X := by
  obtain ⟨hD, hX⟩ := hDd
  have hwc : yWC 22 33 := ⟨by decide, by decide⟩
  have W := zB_Wd h.1.1
  obtain ⟨_, c1, v, H1, rfl, c2, c3⟩ := yc_cell22 (L := L) (σ := σ) (d := dd) (taken := Int64.ofNat 0) hD.1 hD.2.1 h
  refine zw_met zm_82_t rfl rfl ?_
  refine zw_ld (n := 1) (k := 0) (f := zp_isR) (pc' := 1) rfl rfl rfl rfl rfl ?_
  refine zw_ld (n := 1) (k := 1) (f := zp_isR) (pc' := 2) rfl rfl rfl rfl rfl ?_
  refine zw_s (pc' := 3) rfl rfl ?_
  refine zw_c (pc' := 6) (zw_cv (q := 51) (Y := zm_70) W.1 rfl rfl zm_70_t rfl rfl) rfl rfl rfl rfl rfl (c1) ?_
  refine zw_st (n := 1) (k := 3) (f := zp_isI) (pc' := 7) rfl rfl rfl rfl rfl ?_
  refine zw_ld (n := 1) (k := 3) (f := zp_isI) (pc' := 8) rfl rfl zw_g1 rfl rfl ?_
  refine zw_s (pc' := 9) rfl rfl ?_
  refine zw_bne2 (g := 16) (pc' := 12) rfl rfl rfl rfl (rfl : _ = (-1 : Int)) (fun h1 => ?_) (fun h1 => ?_)
  · rcases c3 with ⟨k1, k2, k3, k4, k5, k6⟩ | ⟨k1, _⟩
    rotate_left
    · omega
    have W1 := zB_Wd k6.1.1
    have hD1 : yDd 22 33 d H1 := yDd_F hwc c2 rfl rfl ⟨hD, hX⟩
    obtain ⟨_, d1, v2, H2, rfl, d2, d3⟩ := yc_num (L := L) (σ := σ) (d := dd) (x := Int32.ofInt 0) (y := Int32.ofInt 99) (lo := 0) (hi := 99) rfl rfl k6
    refine zw_ld (n := 1) (k := 0) (f := zp_isR) (pc' := 17) rfl rfl (zw_gt rfl rfl rfl) rfl rfl ?_
    refine zw_s (pc' := 18) rfl rfl ?_
    refine zw_s (pc' := 20) rfl rfl ?_
    refine zw_c (pc' := 23) (zw_cv (q := 51) (Y := zm_65) W1.1 rfl rfl zm_65_t rfl rfl) rfl rfl rfl rfl rfl (d1) ?_
    refine zw_st (n := 2) (k := 4) (f := zp_isI) (pc' := 25) rfl rfl rfl rfl rfl ?_
    refine zw_ld (n := 2) (k := 4) (f := zp_isI) (pc' := 27) rfl rfl zw_g1 rfl rfl ?_
    refine zw_s (pc' := 28) rfl rfl ?_
    refine zw_bne2 (g := 33) (pc' := 31) rfl rfl rfl rfl (rfl : _ = (-1 : Int)) (fun h2 => ?_) (fun h2 => ?_)
    · rcases d3 with ⟨m1, m2, m3, m4, m5, m6, m7⟩ | ⟨m1, _⟩
      rotate_left
      · omega
      have W2 := zB_Wd m7.1.1
      have hD2 : yDd 22 33 d H2 := yDd_F hwc d2 rfl rfl hD1
      refine zw_s (pc' := 34) rfl rfl ?_
      refine zw_st (n := 2) (k := 5) (f := zp_isI) (pc' := 36) rfl rfl rfl rfl rfl ?_
      refine zw_s (pc' := 37) rfl rfl ?_
      refine zw_st (n := 2) (k := 6) (f := zp_isI) (pc' := 39) rfl rfl rfl rfl rfl ?_
      exact yc_piL22_33 k4 h4 _ H2 _ _ _ _ 0 (Nat.le_refl _) (zw_gt (zw_gt (zw_gt (zw_gt rfl rfl rfl) rfl rfl) rfl rfl) rfl rfl) (zw_gt (zw_gt (zw_gt (zw_gt rfl rfl rfl) rfl rfl) rfl rfl) rfl rfl) (zw_gt (zw_gt (zw_gt (zw_gt rfl rfl rfl) rfl rfl) rfl rfl) rfl rfl) (zw_gt (zw_gt (zw_gt zw_g1 rfl rfl) rfl rfl) rfl rfl) (zw_gt (zw_gt zw_g1 rfl rfl) rfl rfl) (zw_gt zw_g1 rfl rfl) zw_g1 rfl (by decide) rfl m7 hD2 (by rw [k1, m1]; exact yR2_t (yR2_s (yN2_19.trans (k2 _))) (yR2_t (yR2_s (yN2_20.trans (k3 _))) (yR2_s (yN2_21.trans (m6 _))))) (ys_le3 h.2.2)
    · refine zw_s (pc' := 32) rfl rfl ?_
      refine zw_rz rfl rfl (by decide) ?_
      rcases d3 with ⟨m1, m2, m3, m4, _⟩ | ⟨_, k, m1, m2, m3, m4, m5⟩
      · omega
      · exact yRL_0 m5 m3 (yA2_step (yN2_19.trans (k2 _)) (yA2_step (yN2_20.trans (k3 _)) (yA2_done (yN2_21.trans (m4 _))))) ⟨m1, m2⟩
  · refine zw_s (pc' := 13) rfl rfl ?_
    refine zw_s (pc' := 23) rfl rfl ?_
    refine zw_st (n := 2) (k := 4) (f := zp_isI) (pc' := 25) rfl rfl rfl rfl rfl ?_
    refine zw_ld (n := 2) (k := 4) (f := zp_isI) (pc' := 27) rfl rfl zw_g1 rfl rfl ?_
    refine zw_s (pc' := 28) rfl rfl ?_
    refine zw_bne2 (g := 33) (pc' := 31) rfl rfl rfl (rfl : _ = (-1 : Int)) (rfl : _ = (-1 : Int)) (fun h9 => absurd h9 (by decide)) (fun h2 => ?_)
    refine zw_s (pc' := 32) rfl rfl ?_
    refine zw_rz rfl rfl (by decide) ?_
    rcases c3 with ⟨_, _, _, k4, _⟩ | ⟨_, k, q, k1, k2, k3, k5, k6⟩
    · omega
    · refine yRL_0 k5 k3 ?_ ⟨k1, k2⟩
      rcases k6 with ⟨rfl, m1⟩ | ⟨rfl, m1, m2⟩ | ⟨_, rfl, m1, m2, m3⟩
      · exact yA2_done (yN2_19.trans (m1 _))
      · exact yA2_step (yN2_19.trans (m1 _)) (yA2_done (yN2_20.trans (m2 _)))
      · exact absurd Int64.zero_and m3
