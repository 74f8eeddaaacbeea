/-! ===== the class reads a line, exactly, with data ===== -/
def zm_61 : za_MI := (yX7_readLine, prog_9_method_5_code, 4, (some FieldType.boolean), 7, 0, 0, [], za_i61)
theorem zm_61_t : za_MT 61 = some zm_61 := rfl
def zm_67 : za_MI := (yJ13_bitCount_95d88, prog_21_method_50_code, 2, (some FieldType.int), 15, 0, 0, [], za_i67)
theorem zm_67_t : za_MT 67 = some zm_67 := rfl
set_option maxRecDepth 8000 in
theorem yRL_R {T : Nat → Int} {n wp cp : Nat} {s s' : yL} {X : zp_X} (hR : yR2 T n s s') (h : yRL T n wp cp s' X) (hq : s.2.2.2.2.2.2 ≤ s'.2.2.2.2.2.2) : yRL T n wp cp s X := by
  obtain ⟨v, H1, h1, h2⟩ := h
  refine ⟨v, H1, h1, ?_⟩
  rcases h2 with ⟨a, d', q, b, c, e, g⟩ | ⟨a, r, b, c, e, f⟩
  · exact Or.inl ⟨a, d', q, b, c, yR2_t hR e, Nat.le_trans hq g⟩
  · exact Or.inr ⟨a, r, b, c, yR2_a hR e, f⟩

set_option maxRecDepth 8000 in
theorem yc_bc {L : Nat} {σ : Nat → Int32} {d : Nat} {H : zp_H} {u : Int64} : zp_Call L σ (d + 1) 67 [.inr (.inl u)] H (.inl (some (.inl (yBC u))), H) := by
  refine zw_ex (zw_met zm_67_t rfl rfl ?_)
  refine zw_ld (n := 1) (k := 0) (f := zp_isL) (pc' := 1) rfl rfl rfl rfl rfl ?_
  refine zw_ld (n := 1) (k := 0) (f := zp_isL) (pc' := 2) rfl rfl rfl rfl rfl ?_
  refine zw_s (pc' := 3) rfl rfl ?_
  refine zw_lushr (pc' := 4) rfl rfl ?_
  refine zw_s (pc' := 7) rfl rfl ?_
  refine zw_land (pc' := 8) rfl rfl ?_
  refine zw_lsub (pc' := 9) rfl rfl ?_
  refine zw_sl (n := 1) (k := 0) (pc' := 10) rfl rfl rfl rfl ?_
  refine zw_ld (n := 1) (k := 0) (f := zp_isL) (pc' := 11) rfl rfl zw_g2 rfl rfl ?_
  refine zw_s (pc' := 14) rfl rfl ?_
  refine zw_land (pc' := 15) rfl rfl ?_
  refine zw_ld (n := 1) (k := 0) (f := zp_isL) (pc' := 16) rfl rfl zw_g2 rfl rfl ?_
  refine zw_s (pc' := 17) rfl rfl ?_
  refine zw_lushr (pc' := 18) rfl rfl ?_
  refine zw_s (pc' := 21) rfl rfl ?_
  refine zw_land (pc' := 22) rfl rfl ?_
  refine zw_ladd (pc' := 23) rfl rfl ?_
  refine zw_sl (n := 1) (k := 0) (pc' := 24) rfl rfl rfl rfl ?_
  refine zw_ld (n := 1) (k := 0) (f := zp_isL) (pc' := 25) rfl rfl zw_g2 rfl rfl ?_
  refine zw_ld (n := 1) (k := 0) (f := zp_isL) (pc' := 26) rfl rfl zw_g2 rfl rfl ?_
  refine zw_s (pc' := 27) rfl rfl ?_
  refine zw_lushr (pc' := 28) rfl rfl ?_
  refine zw_ladd (pc' := 29) rfl rfl ?_
  refine zw_s (pc' := 32) rfl rfl ?_
  refine zw_land (pc' := 33) rfl rfl ?_
  refine zw_sl (n := 1) (k := 0) (pc' := 34) rfl rfl rfl rfl ?_
  refine zw_ld (n := 1) (k := 0) (f := zp_isL) (pc' := 35) rfl rfl zw_g2 rfl rfl ?_
  refine zw_ld (n := 1) (k := 0) (f := zp_isL) (pc' := 36) rfl rfl zw_g2 rfl rfl ?_
  refine zw_s (pc' := 38) rfl rfl ?_
  refine zw_lushr (pc' := 39) rfl rfl ?_
  refine zw_ladd (pc' := 40) rfl rfl ?_
  refine zw_sl (n := 1) (k := 0) (pc' := 41) rfl rfl rfl rfl ?_
  refine zw_ld (n := 1) (k := 0) (f := zp_isL) (pc' := 42) rfl rfl zw_g2 rfl rfl ?_
  refine zw_ld (n := 1) (k := 0) (f := zp_isL) (pc' := 43) rfl rfl zw_g2 rfl rfl ?_
  refine zw_s (pc' := 45) rfl rfl ?_
  refine zw_lushr (pc' := 46) rfl rfl ?_
  refine zw_ladd (pc' := 47) rfl rfl ?_
  refine zw_sl (n := 1) (k := 0) (pc' := 48) rfl rfl rfl rfl ?_
  refine zw_ld (n := 1) (k := 0) (f := zp_isL) (pc' := 49) rfl rfl zw_g2 rfl rfl ?_
  refine zw_ld (n := 1) (k := 0) (f := zp_isL) (pc' := 50) rfl rfl zw_g2 rfl rfl ?_
  refine zw_s (pc' := 52) rfl rfl ?_
  refine zw_lushr (pc' := 53) rfl rfl ?_
  refine zw_ladd (pc' := 54) rfl rfl ?_
  refine zw_sl (n := 1) (k := 0) (pc' := 55) rfl rfl rfl rfl ?_
  refine zw_ld (n := 1) (k := 0) (f := zp_isL) (pc' := 56) rfl rfl zw_g2 rfl rfl ?_
  refine zw_s (pc' := 57) rfl rfl ?_
  refine zw_s (pc' := 59) rfl rfl ?_
  refine zw_iand (pc' := 60) rfl rfl ?_
  refine zw_ri rfl rfl ?_
  rfl

set_option maxRecDepth 8000 in
theorem y0_12 {T : Nat → Int} {n p : Nat} {d : yLD} (hk : ys_kd T n p = 3) (hv : ys_vl T n p = 12) : y0 T n d p = if d.1 0 ≠ 0 then .inl (1, [], 0, 0, 0, d, ys_nx T n p) else .inr (5, p) := by
  unfold y0
  rw [if_neg (by omega), if_neg (by omega), if_pos hv]
set_option maxRecDepth 8000 in
theorem y0_13 {T : Nat → Int} {n p : Nat} {d : yLD} (hk : ys_kd T n p = 3) (hv : ys_vl T n p = 13) : y0 T n d p = if d.1 3 < 20 then .inl (3, [], 0, 0, 0, d, ys_nx T n p) else .inr (2, p) := by
  unfold y0
  rw [if_neg (by omega), if_neg (by omega), if_neg (by omega), if_pos hv]
set_option maxRecDepth 8000 in
theorem y0_14 {T : Nat → Int} {n p : Nat} {d : yLD} (hk : ys_kd T n p = 3) (hv : ys_vl T n p = 14) : y0 T n d p = .inl (5, [], 0, 0, 0, d, ys_nx T n p) := by
  unfold y0
  rw [if_neg (by omega), if_neg (by omega), if_neg (by omega), if_neg (by omega), if_pos hv]
set_option maxRecDepth 8000 in
theorem y0_15 {T : Nat → Int} {n p : Nat} {d : yLD} (hk : ys_kd T n p = 3) (hv : ys_vl T n p = 15) : y0 T n d p = if d.1 4 < 8 then .inl (8, [], 0, 0, 0, d, ys_nx T n p) else .inr (2, p) := by
  unfold y0
  rw [if_neg (by omega), if_neg (by omega), if_neg (by omega), if_neg (by omega), if_neg (by omega), if_pos hv]
set_option maxRecDepth 8000 in
theorem y0_16 {T : Nat → Int} {n p : Nat} {d : yLD} (hk : ys_kd T n p = 3) (hv : ys_vl T n p = 16) : y0 T n d p = if d.1 5 < 5 then .inl (13, [], 0, 12, 0, d, ys_nx T n p) else .inr (2, p) := by
  unfold y0
  rw [if_neg (by omega), if_neg (by omega), if_neg (by omega), if_neg (by omega), if_neg (by omega), if_neg (by omega), if_pos hv]
set_option maxRecDepth 8000 in
theorem y0_17 {T : Nat → Int} {n p : Nat} {d : yLD} (hk : ys_kd T n p = 3) (hv : ys_vl T n p = 17) : y0 T n d p = if d.1 8 = 0 then .inl (15, [], 0, 0, 0, d, ys_nx T n p) else .inr (5, p) := by
  unfold y0
  rw [if_neg (by omega), if_neg (by omega), if_neg (by omega), if_neg (by omega), if_neg (by omega), if_neg (by omega), if_neg (by omega), if_pos hv]
set_option maxRecDepth 8000 in
theorem y0_18 {T : Nat → Int} {n p : Nat} {d : yLD} (hk : ys_kd T n p = 3) (hv : ys_vl T n p = 18) : y0 T n d p = if d.1 9 = 0 then .inl (18, [], 0, 0, 0, d, ys_nx T n p) else .inr (5, p) := by
  unfold y0
  rw [if_neg (by omega), if_neg (by omega), if_neg (by omega), if_neg (by omega), if_neg (by omega), if_neg (by omega), if_neg (by omega), if_neg (by omega), if_pos hv]
set_option maxRecDepth 8000 in
theorem y0_19 {T : Nat → Int} {n p : Nat} {d : yLD} (hk : ys_kd T n p = 3) (hv : ys_vl T n p = 19) : y0 T n d p = if d.1 6 < 4 then .inl (19, [], 0, 0, 0, d, ys_nx T n p) else .inr (2, p) := by
  unfold y0
  rw [if_neg (by omega), if_neg (by omega), if_neg (by omega), if_neg (by omega), if_neg (by omega), if_neg (by omega), if_neg (by omega), if_neg (by omega), if_neg (by omega), if_pos hv]
set_option maxRecDepth 8000 in
theorem y0_20 {T : Nat → Int} {n p : Nat} {d : yLD} (hk : ys_kd T n p = 3) (hv : ys_vl T n p = 20) : y0 T n d p = if d.1 7 < 8 then .inl (102, [false], 0, 0, 0, d, ys_nx T n p) else .inr (2, p) := by
  unfold y0
  rw [if_neg (by omega), if_neg (by omega), if_neg (by omega), if_neg (by omega), if_neg (by omega), if_neg (by omega), if_neg (by omega), if_neg (by omega), if_neg (by omega), if_neg (by omega), if_pos hv]
set_option maxRecDepth 8000 in
theorem y0_x {T : Nat → Int} {n p : Nat} {d : yLD} (hk : ys_kd T n p = 3) (hv : ys_vl T n p < 12 ∨ 20 < ys_vl T n p) : y0 T n d p = .inr (1, p) := by
  unfold y0
  rw [if_neg (by omega), if_neg (by omega), if_neg (by omega), if_neg (by omega), if_neg (by omega), if_neg (by omega), if_neg (by omega), if_neg (by omega), if_neg (by omega), if_neg (by omega), if_neg (by omega)]
set_option maxRecDepth 8000 in
theorem y0_n {T : Nat → Int} {n p : Nat} {d : yLD} (hk : ys_kd T n p ≠ 3) (h0 : ys_kd T n p ≠ 0) : y0 T n d p = .inr (1, p) := by
  unfold y0
  rw [if_neg h0, if_pos hk]
set_option maxHeartbeats 4000000 in
set_option maxRecDepth 8000 in
theorem yc_line2_13 {L : Nat} {σ : Nat → Int32} {dd : Nat} {T : Nat → Int} {n p : Nat} {d : yLD} {H : zp_H} {f : Int32} (hf : f.toInt = d.1 0) (hbu : yBCu) (h0 : ys_kd T n p ≠ 0) (h : yE T n p H) (hDd : yDd 2 13 d H) : ∃ X, zp_Call L σ (dd + 65) 61 [.inr (.inr (some 52)), .inl f, .inr (.inr (some 3)), .inr (.inr (some 14))] H X ∧ yRL T n 2 13 (0, [], 0, 0, 0, d, p) X := by
  obtain ⟨hD, hX⟩ := hDd
  have hwc : yWC 2 13 := ⟨by decide, by decide⟩
  have W := zB_Wd h.1.1
  have h4 := yE_4 h
  have h5 : ys_kd T n p ≠ 0 → _ := yE_5 h
  refine zw_met zm_61_t rfl rfl ?_
  refine zw_ld (n := 1) (k := 0) (f := zp_isR) (pc' := 1) rfl rfl rfl rfl rfl ?_
  refine zw_gR (q := 51) (pc' := 4) W rfl rfl rfl rfl (W.2 51 0 _ rfl) rfl ?_
  refine zw_gI (q := 52) (pc' := 7) W rfl rfl rfl rfl rfl rfl ?_
  refine zw_s (pc' := 8) rfl rfl ?_
  refine zw_beq2 (g := 17) (pc' := 11) rfl rfl rfl rfl (rfl : _ = (3 : Int)) (fun h1 => ?_) (fun h1 => ?_)
  · have hk : ys_kd T n p = 3 := by omega
    have hv := h5 (by omega)
    have hvb := ys_vl_b hk
    refine zw_ld (n := 1) (k := 0) (f := zp_isR) (pc' := 18) rfl rfl rfl rfl rfl ?_
    refine zw_gR (q := 51) (pc' := 21) W rfl rfl rfl rfl (W.2 51 0 _ rfl) rfl ?_
    refine zw_gI (q := 52) (pc' := 24) W rfl rfl rfl rfl rfl rfl ?_
    rcases (show ys_vl T n p = 0 ∨ ys_vl T n p = 1 ∨ ys_vl T n p = 2 ∨ ys_vl T n p = 3 ∨ ys_vl T n p = 4 ∨ ys_vl T n p = 5 ∨ ys_vl T n p = 6 ∨ ys_vl T n p = 7 ∨ ys_vl T n p = 8 ∨ ys_vl T n p = 9 ∨ ys_vl T n p = 10 ∨ ys_vl T n p = 11 ∨ ys_vl T n p = 12 ∨ ys_vl T n p = 13 ∨ ys_vl T n p = 14 ∨ ys_vl T n p = 15 ∨ ys_vl T n p = 16 ∨ ys_vl T n p = 17 ∨ ys_vl T n p = 18 ∨ ys_vl T n p = 19 ∨ ys_vl T n p = 20 ∨ ys_vl T n p = 21 by omega) with h9 | h9 | h9 | h9 | h9 | h9 | h9 | h9 | h9 | h9 | h9 | h9 | h9 | h9 | h9 | h9 | h9 | h9 | h9 | h9 | h9 | h9
    · have ev : H.2.1 52 5 = Int32.ofInt 0 := Int32.toInt_inj.mp (hv.trans h9)
      rw [ev]
      refine zw_s (pc' := 324) rfl rfl ?_
      refine zw_ld (n := 1) (k := 0) (f := zp_isR) (pc' := 325) rfl rfl rfl rfl rfl ?_
      refine zw_s (pc' := 326) rfl rfl ?_
      obtain ⟨K, e1, e2, e3, e4⟩ := yc_ref (L := L) (σ := σ) (d := dd + 63) (x := Int32.ofInt 1) h
      refine zw_c (pc' := 329) (zw_cv (q := 51) (Y := zm_62) W.1 rfl rfl zm_62_t rfl rfl) rfl rfl rfl rfl rfl (e1) ?_
      refine zw_rz rfl rfl (by decide) ?_
      exact yRL_0 e2 e4 (yA2_done (yN2_0.trans (y0_x hk (by omega)))) (show 1 ≤ (1 : Int) ∧ (1 : Int) ≤ 5 from by decide)
    · have ev : H.2.1 52 5 = Int32.ofInt 1 := Int32.toInt_inj.mp (hv.trans h9)
      rw [ev]
      refine zw_s (pc' := 324) rfl rfl ?_
      refine zw_ld (n := 1) (k := 0) (f := zp_isR) (pc' := 325) rfl rfl rfl rfl rfl ?_
      refine zw_s (pc' := 326) rfl rfl ?_
      obtain ⟨K, e1, e2, e3, e4⟩ := yc_ref (L := L) (σ := σ) (d := dd + 63) (x := Int32.ofInt 1) h
      refine zw_c (pc' := 329) (zw_cv (q := 51) (Y := zm_62) W.1 rfl rfl zm_62_t rfl rfl) rfl rfl rfl rfl rfl (e1) ?_
      refine zw_rz rfl rfl (by decide) ?_
      exact yRL_0 e2 e4 (yA2_done (yN2_0.trans (y0_x hk (by omega)))) (show 1 ≤ (1 : Int) ∧ (1 : Int) ≤ 5 from by decide)
    · have ev : H.2.1 52 5 = Int32.ofInt 2 := Int32.toInt_inj.mp (hv.trans h9)
      rw [ev]
      refine zw_s (pc' := 324) rfl rfl ?_
      refine zw_ld (n := 1) (k := 0) (f := zp_isR) (pc' := 325) rfl rfl rfl rfl rfl ?_
      refine zw_s (pc' := 326) rfl rfl ?_
      obtain ⟨K, e1, e2, e3, e4⟩ := yc_ref (L := L) (σ := σ) (d := dd + 63) (x := Int32.ofInt 1) h
      refine zw_c (pc' := 329) (zw_cv (q := 51) (Y := zm_62) W.1 rfl rfl zm_62_t rfl rfl) rfl rfl rfl rfl rfl (e1) ?_
      refine zw_rz rfl rfl (by decide) ?_
      exact yRL_0 e2 e4 (yA2_done (yN2_0.trans (y0_x hk (by omega)))) (show 1 ≤ (1 : Int) ∧ (1 : Int) ≤ 5 from by decide)
    · have ev : H.2.1 52 5 = Int32.ofInt 3 := Int32.toInt_inj.mp (hv.trans h9)
      rw [ev]
      refine zw_s (pc' := 324) rfl rfl ?_
      refine zw_ld (n := 1) (k := 0) (f := zp_isR) (pc' := 325) rfl rfl rfl rfl rfl ?_
      refine zw_s (pc' := 326) rfl rfl ?_
      obtain ⟨K, e1, e2, e3, e4⟩ := yc_ref (L := L) (σ := σ) (d := dd + 63) (x := Int32.ofInt 1) h
      refine zw_c (pc' := 329) (zw_cv (q := 51) (Y := zm_62) W.1 rfl rfl zm_62_t rfl rfl) rfl rfl rfl rfl rfl (e1) ?_
      refine zw_rz rfl rfl (by decide) ?_
      exact yRL_0 e2 e4 (yA2_done (yN2_0.trans (y0_x hk (by omega)))) (show 1 ≤ (1 : Int) ∧ (1 : Int) ≤ 5 from by decide)
    · have ev : H.2.1 52 5 = Int32.ofInt 4 := Int32.toInt_inj.mp (hv.trans h9)
      rw [ev]
      refine zw_s (pc' := 324) rfl rfl ?_
      refine zw_ld (n := 1) (k := 0) (f := zp_isR) (pc' := 325) rfl rfl rfl rfl rfl ?_
      refine zw_s (pc' := 326) rfl rfl ?_
      obtain ⟨K, e1, e2, e3, e4⟩ := yc_ref (L := L) (σ := σ) (d := dd + 63) (x := Int32.ofInt 1) h
      refine zw_c (pc' := 329) (zw_cv (q := 51) (Y := zm_62) W.1 rfl rfl zm_62_t rfl rfl) rfl rfl rfl rfl rfl (e1) ?_
      refine zw_rz rfl rfl (by decide) ?_
      exact yRL_0 e2 e4 (yA2_done (yN2_0.trans (y0_x hk (by omega)))) (show 1 ≤ (1 : Int) ∧ (1 : Int) ≤ 5 from by decide)
    · have ev : H.2.1 52 5 = Int32.ofInt 5 := Int32.toInt_inj.mp (hv.trans h9)
      rw [ev]
      refine zw_s (pc' := 324) rfl rfl ?_
      refine zw_ld (n := 1) (k := 0) (f := zp_isR) (pc' := 325) rfl rfl rfl rfl rfl ?_
      refine zw_s (pc' := 326) rfl rfl ?_
      obtain ⟨K, e1, e2, e3, e4⟩ := yc_ref (L := L) (σ := σ) (d := dd + 63) (x := Int32.ofInt 1) h
      refine zw_c (pc' := 329) (zw_cv (q := 51) (Y := zm_62) W.1 rfl rfl zm_62_t rfl rfl) rfl rfl rfl rfl rfl (e1) ?_
      refine zw_rz rfl rfl (by decide) ?_
      exact yRL_0 e2 e4 (yA2_done (yN2_0.trans (y0_x hk (by omega)))) (show 1 ≤ (1 : Int) ∧ (1 : Int) ≤ 5 from by decide)
    · have ev : H.2.1 52 5 = Int32.ofInt 6 := Int32.toInt_inj.mp (hv.trans h9)
      rw [ev]
      refine zw_s (pc' := 324) rfl rfl ?_
      refine zw_ld (n := 1) (k := 0) (f := zp_isR) (pc' := 325) rfl rfl rfl rfl rfl ?_
      refine zw_s (pc' := 326) rfl rfl ?_
      obtain ⟨K, e1, e2, e3, e4⟩ := yc_ref (L := L) (σ := σ) (d := dd + 63) (x := Int32.ofInt 1) h
      refine zw_c (pc' := 329) (zw_cv (q := 51) (Y := zm_62) W.1 rfl rfl zm_62_t rfl rfl) rfl rfl rfl rfl rfl (e1) ?_
      refine zw_rz rfl rfl (by decide) ?_
      exact yRL_0 e2 e4 (yA2_done (yN2_0.trans (y0_x hk (by omega)))) (show 1 ≤ (1 : Int) ∧ (1 : Int) ≤ 5 from by decide)
    · have ev : H.2.1 52 5 = Int32.ofInt 7 := Int32.toInt_inj.mp (hv.trans h9)
      rw [ev]
      refine zw_s (pc' := 324) rfl rfl ?_
      refine zw_ld (n := 1) (k := 0) (f := zp_isR) (pc' := 325) rfl rfl rfl rfl rfl ?_
      refine zw_s (pc' := 326) rfl rfl ?_
      obtain ⟨K, e1, e2, e3, e4⟩ := yc_ref (L := L) (σ := σ) (d := dd + 63) (x := Int32.ofInt 1) h
      refine zw_c (pc' := 329) (zw_cv (q := 51) (Y := zm_62) W.1 rfl rfl zm_62_t rfl rfl) rfl rfl rfl rfl rfl (e1) ?_
      refine zw_rz rfl rfl (by decide) ?_
      exact yRL_0 e2 e4 (yA2_done (yN2_0.trans (y0_x hk (by omega)))) (show 1 ≤ (1 : Int) ∧ (1 : Int) ≤ 5 from by decide)
    · have ev : H.2.1 52 5 = Int32.ofInt 8 := Int32.toInt_inj.mp (hv.trans h9)
      rw [ev]
      refine zw_s (pc' := 324) rfl rfl ?_
      refine zw_ld (n := 1) (k := 0) (f := zp_isR) (pc' := 325) rfl rfl rfl rfl rfl ?_
      refine zw_s (pc' := 326) rfl rfl ?_
      obtain ⟨K, e1, e2, e3, e4⟩ := yc_ref (L := L) (σ := σ) (d := dd + 63) (x := Int32.ofInt 1) h
      refine zw_c (pc' := 329) (zw_cv (q := 51) (Y := zm_62) W.1 rfl rfl zm_62_t rfl rfl) rfl rfl rfl rfl rfl (e1) ?_
      refine zw_rz rfl rfl (by decide) ?_
      exact yRL_0 e2 e4 (yA2_done (yN2_0.trans (y0_x hk (by omega)))) (show 1 ≤ (1 : Int) ∧ (1 : Int) ≤ 5 from by decide)
    · have ev : H.2.1 52 5 = Int32.ofInt 9 := Int32.toInt_inj.mp (hv.trans h9)
      rw [ev]
      refine zw_s (pc' := 324) rfl rfl ?_
      refine zw_ld (n := 1) (k := 0) (f := zp_isR) (pc' := 325) rfl rfl rfl rfl rfl ?_
      refine zw_s (pc' := 326) rfl rfl ?_
      obtain ⟨K, e1, e2, e3, e4⟩ := yc_ref (L := L) (σ := σ) (d := dd + 63) (x := Int32.ofInt 1) h
      refine zw_c (pc' := 329) (zw_cv (q := 51) (Y := zm_62) W.1 rfl rfl zm_62_t rfl rfl) rfl rfl rfl rfl rfl (e1) ?_
      refine zw_rz rfl rfl (by decide) ?_
      exact yRL_0 e2 e4 (yA2_done (yN2_0.trans (y0_x hk (by omega)))) (show 1 ≤ (1 : Int) ∧ (1 : Int) ≤ 5 from by decide)
    · have ev : H.2.1 52 5 = Int32.ofInt 10 := Int32.toInt_inj.mp (hv.trans h9)
      rw [ev]
      refine zw_s (pc' := 324) rfl rfl ?_
      refine zw_ld (n := 1) (k := 0) (f := zp_isR) (pc' := 325) rfl rfl rfl rfl rfl ?_
      refine zw_s (pc' := 326) rfl rfl ?_
      obtain ⟨K, e1, e2, e3, e4⟩ := yc_ref (L := L) (σ := σ) (d := dd + 63) (x := Int32.ofInt 1) h
      refine zw_c (pc' := 329) (zw_cv (q := 51) (Y := zm_62) W.1 rfl rfl zm_62_t rfl rfl) rfl rfl rfl rfl rfl (e1) ?_
      refine zw_rz rfl rfl (by decide) ?_
      exact yRL_0 e2 e4 (yA2_done (yN2_0.trans (y0_x hk (by omega)))) (show 1 ≤ (1 : Int) ∧ (1 : Int) ≤ 5 from by decide)
    · have ev : H.2.1 52 5 = Int32.ofInt 11 := Int32.toInt_inj.mp (hv.trans h9)
      rw [ev]
      refine zw_s (pc' := 324) rfl rfl ?_
      refine zw_ld (n := 1) (k := 0) (f := zp_isR) (pc' := 325) rfl rfl rfl rfl rfl ?_
      refine zw_s (pc' := 326) rfl rfl ?_
      obtain ⟨K, e1, e2, e3, e4⟩ := yc_ref (L := L) (σ := σ) (d := dd + 63) (x := Int32.ofInt 1) h
      refine zw_c (pc' := 329) (zw_cv (q := 51) (Y := zm_62) W.1 rfl rfl zm_62_t rfl rfl) rfl rfl rfl rfl rfl (e1) ?_
      refine zw_rz rfl rfl (by decide) ?_
      exact yRL_0 e2 e4 (yA2_done (yN2_0.trans (y0_x hk (by omega)))) (show 1 ≤ (1 : Int) ∧ (1 : Int) ≤ 5 from by decide)
    · have ev : H.2.1 52 5 = Int32.ofInt 12 := Int32.toInt_inj.mp (hv.trans h9)
      rw [ev]
      refine zw_s (pc' := 76) rfl rfl ?_
      refine zw_ld (n := 1) (k := 0) (f := zp_isR) (pc' := 77) rfl rfl rfl rfl rfl ?_
      refine zw_ld (n := 1) (k := 1) (f := zp_isI) (pc' := 78) rfl rfl rfl rfl rfl ?_
      obtain ⟨_, c1, v, H1, rfl, c2, c3⟩ := yc_hd (L := L) (σ := σ) (d := dd + 60) (x := f) h
      refine zw_c (pc' := 81) (zw_cv (q := 51) (Y := zm_63) W.1 rfl rfl zm_63_t rfl rfl) rfl rfl rfl rfl rfl (c1) ?_
      refine zw_beq1 (g := 96) (pc' := 84) rfl rfl rfl rfl (fun hz => ?_) (fun hz => ?_)
      · refine zw_s (pc' := 97) rfl rfl ?_
        refine zw_rz rfl rfl (by decide) ?_
        rcases c3 with ⟨k1, _⟩ | ⟨_, k2, k3, k4⟩
        · omega
        · exact yRL_0 k4 k3 (yA2_done ((yN2_0.trans (y0_12 hk h9)).trans (if_neg (by omega)))) (show 1 ≤ (5 : Int) ∧ (5 : Int) ≤ 5 from by decide)
      · rcases c3 with ⟨_, k2, k3⟩ | ⟨k1, _⟩
        rotate_left
        · omega
        have W1 := zB_Wd k3.1.1
        have hD1 : yDd 2 13 d H1 := yDd_F hwc c2 rfl rfl ⟨hD, hX⟩
        obtain ⟨_, d1, d2⟩ := yc_size2 (L := L) (σ := σ) (dd := dd + 59) (cp := 13) (Or.inl rfl) k3 hD1
        have d2 := yRL_R (s := (0, [], 0, 0, 0, d, p)) (yR2_s ((yN2_0.trans (y0_12 hk h9)).trans (if_pos (by omega)))) d2 (ys_le1 h.2.2)
        obtain ⟨v2, H2, rfl, d3⟩ := d2
        refine zw_ld (n := 1) (k := 0) (f := zp_isR) (pc' := 85) rfl rfl rfl rfl rfl ?_
        refine zw_ld (n := 1) (k := 2) (f := zp_isR) (pc' := 86) rfl rfl rfl rfl rfl ?_
        refine zw_c (pc' := 89) (zw_cv (q := 51) (Y := zm_64) W1.1 rfl rfl zm_64_t rfl rfl) rfl rfl rfl rfl rfl (d1) ?_
        refine zw_beq1 (g := 96) (pc' := 92) rfl rfl rfl rfl (fun hy => ?_) (fun hy => ?_)
        · refine zw_s (pc' := 97) rfl rfl ?_
          refine zw_rz rfl rfl (by decide) ?_
          have ez : v2 = Int32.ofInt 0 := Int32.toInt_inj.mp hy
          exact ⟨_, H2, rfl, by rw [← ez]; exact d3⟩
        · refine zw_s (pc' := 93) rfl rfl ?_
          refine zw_s (pc' := 97) rfl rfl ?_
          refine zw_rz rfl rfl (by decide) ?_
          have ez : v2 = Int32.ofInt 1 := by
            rcases d3 with ⟨d3, _⟩ | ⟨d3, _⟩
            · exact Int32.toInt_inj.mp d3
            · exact absurd d3 hy
          exact ⟨_, H2, rfl, by rw [← ez]; exact d3⟩
    · have ev : H.2.1 52 5 = Int32.ofInt 13 := Int32.toInt_inj.mp (hv.trans h9)
      rw [ev]
      refine zw_s (pc' := 98) rfl rfl ?_
      refine zw_ld (n := 1) (k := 0) (f := zp_isR) (pc' := 99) rfl rfl rfl rfl rfl ?_
      refine zw_ld (n := 1) (k := 2) (f := zp_isR) (pc' := 100) rfl rfl rfl rfl rfl ?_
      refine zw_gL (q := 2) (pc' := 103) W rfl rfl rfl rfl rfl ?_
      refine zw_c (pc' := 106) (zw_cs (Y := zm_67) rfl rfl zm_67_t) rfl rfl rfl rfl rfl (yc_bc) ?_
      refine zw_s (pc' := 108) rfl rfl ?_
      have hcnt : (yBC (H.2.2.1 2 3)).toInt = d.1 3 := by rw [hD.2.2.2.2.2.2.2.2.1]; exact hD.2.2.2.2.2.2.2.2.2.2
      have hmo : (Int32.ofInt 20).toInt = 20 := rfl
      obtain ⟨_, c1, v, H1, rfl, c2, c3⟩ := yc_hc (L := L) (σ := σ) (d := dd + 60) (x := yBC (H.2.2.1 2 3)) (y := Int32.ofInt 20) h
      refine zw_c (pc' := 111) (zw_cv (q := 51) (Y := zm_68) W.1 rfl rfl zm_68_t rfl rfl) rfl rfl rfl rfl rfl (c1) ?_
      refine zw_beq1 (g := 126) (pc' := 114) rfl rfl rfl rfl (fun hz => ?_) (fun hz => ?_)
      · refine zw_s (pc' := 127) rfl rfl ?_
        refine zw_rz rfl rfl (by decide) ?_
        rcases c3 with ⟨k1, _⟩ | ⟨_, k2, k3, k4⟩
        · omega
        · exact yRL_0 k4 k3 (yA2_done ((yN2_0.trans (y0_13 hk h9)).trans (if_neg (by omega)))) (show 1 ≤ (2 : Int) ∧ (2 : Int) ≤ 5 from by decide)
      · rcases c3 with ⟨_, k2, k3⟩ | ⟨k1, _⟩
        rotate_left
        · omega
        have W1 := zB_Wd k3.1.1
        have hD1 : yDd 2 13 d H1 := yDd_F hwc c2 rfl rfl ⟨hD, hX⟩
        obtain ⟨_, d1, d2⟩ := yc_rock2 (L := L) (σ := σ) (dd := dd + 59) (cp := 13) (Or.inl rfl) hbu k3 hD1
        have d2 := yRL_R (s := (0, [], 0, 0, 0, d, p)) (yR2_s ((yN2_0.trans (y0_13 hk h9)).trans (if_pos (by omega)))) d2 (ys_le1 h.2.2)
        obtain ⟨v2, H2, rfl, d3⟩ := d2
        refine zw_ld (n := 1) (k := 0) (f := zp_isR) (pc' := 115) rfl rfl rfl rfl rfl ?_
        refine zw_ld (n := 1) (k := 2) (f := zp_isR) (pc' := 116) rfl rfl rfl rfl rfl ?_
        refine zw_c (pc' := 119) (zw_cv (q := 51) (Y := zm_69) W1.1 rfl rfl zm_69_t rfl rfl) rfl rfl rfl rfl rfl (d1) ?_
        refine zw_beq1 (g := 126) (pc' := 122) rfl rfl rfl rfl (fun hy => ?_) (fun hy => ?_)
        · refine zw_s (pc' := 127) rfl rfl ?_
          refine zw_rz rfl rfl (by decide) ?_
          have ez : v2 = Int32.ofInt 0 := Int32.toInt_inj.mp hy
          exact ⟨_, H2, rfl, by rw [← ez]; exact d3⟩
        · refine zw_s (pc' := 123) rfl rfl ?_
          refine zw_s (pc' := 127) rfl rfl ?_
          refine zw_rz rfl rfl (by decide) ?_
          have ez : v2 = Int32.ofInt 1 := by
            rcases d3 with ⟨d3, _⟩ | ⟨d3, _⟩
            · exact Int32.toInt_inj.mp d3
            · exact absurd d3 hy
          exact ⟨_, H2, rfl, by rw [← ez]; exact d3⟩
    · have ev : H.2.1 52 5 = Int32.ofInt 14 := Int32.toInt_inj.mp (hv.trans h9)
      rw [ev]
      refine zw_s (pc' := 128) rfl rfl ?_
      refine zw_ld (n := 1) (k := 0) (f := zp_isR) (pc' := 129) rfl rfl rfl rfl rfl ?_
      refine zw_s (pc' := 130) rfl rfl ?_
      obtain ⟨_, c1, v, H1, rfl, c2, c3⟩ := yc_hd (L := L) (σ := σ) (d := dd + 60) (x := Int32.ofInt 1) h
      refine zw_c (pc' := 133) (zw_cv (q := 51) (Y := zm_63) W.1 rfl rfl zm_63_t rfl rfl) rfl rfl rfl rfl rfl (c1) ?_
      refine zw_beq1 (g := 148) (pc' := 136) rfl rfl rfl rfl (fun hz => ?_) (fun hz => ?_)
      · refine zw_s (pc' := 149) rfl rfl ?_
        refine zw_rz rfl rfl (by decide) ?_
        rcases c3 with ⟨k1, _⟩ | ⟨_, k2, _⟩
        · omega
        · exact absurd (by decide) k2
      · rcases c3 with ⟨_, k2, k3⟩ | ⟨k1, _⟩
        rotate_left
        · omega
        have W1 := zB_Wd k3.1.1
        have hD1 : yDd 2 13 d H1 := yDd_F hwc c2 rfl rfl ⟨hD, hX⟩
        obtain ⟨_, d1, d2⟩ := yc_curr2 (L := L) (σ := σ) (dd := dd + 59) (cp := 13) (Or.inl rfl) k3 hD1
        have d2 := yRL_R (s := (0, [], 0, 0, 0, d, p)) (yR2_s (yN2_0.trans (y0_14 hk h9))) d2 (ys_le1 h.2.2)
        obtain ⟨v2, H2, rfl, d3⟩ := d2
        refine zw_ld (n := 1) (k := 0) (f := zp_isR) (pc' := 137) rfl rfl rfl rfl rfl ?_
        refine zw_ld (n := 1) (k := 2) (f := zp_isR) (pc' := 138) rfl rfl rfl rfl rfl ?_
        refine zw_c (pc' := 141) (zw_cv (q := 51) (Y := zm_71) W1.1 rfl rfl zm_71_t rfl rfl) rfl rfl rfl rfl rfl (d1) ?_
        refine zw_beq1 (g := 148) (pc' := 144) rfl rfl rfl rfl (fun hy => ?_) (fun hy => ?_)
        · refine zw_s (pc' := 149) rfl rfl ?_
          refine zw_rz rfl rfl (by decide) ?_
          have ez : v2 = Int32.ofInt 0 := Int32.toInt_inj.mp hy
          exact ⟨_, H2, rfl, by rw [← ez]; exact d3⟩
        · refine zw_s (pc' := 145) rfl rfl ?_
          refine zw_s (pc' := 149) rfl rfl ?_
          refine zw_rz rfl rfl (by decide) ?_
          have ez : v2 = Int32.ofInt 1 := by
            rcases d3 with ⟨d3, _⟩ | ⟨d3, _⟩
            · exact Int32.toInt_inj.mp d3
            · exact absurd d3 hy
          exact ⟨_, H2, rfl, by rw [← ez]; exact d3⟩
    · have ev : H.2.1 52 5 = Int32.ofInt 15 := Int32.toInt_inj.mp (hv.trans h9)
      rw [ev]
      refine zw_s (pc' := 150) rfl rfl ?_
      refine zw_ld (n := 1) (k := 0) (f := zp_isR) (pc' := 151) rfl rfl rfl rfl rfl ?_
      refine zw_ld (n := 1) (k := 3) (f := zp_isR) (pc' := 152) rfl rfl rfl rfl rfl ?_
      refine zw_gI (q := 13) (pc' := 155) W rfl rfl rfl rfl rfl rfl ?_
      refine zw_s (pc' := 157) rfl rfl ?_
      have hcnt : (H.2.1 13 0).toInt = d.1 4 := hD.2.2.1
      have hmo : (Int32.ofInt 8).toInt = 8 := rfl
      obtain ⟨_, c1, v, H1, rfl, c2, c3⟩ := yc_hc (L := L) (σ := σ) (d := dd + 60) (x := H.2.1 13 0) (y := Int32.ofInt 8) h
      refine zw_c (pc' := 160) (zw_cv (q := 51) (Y := zm_68) W.1 rfl rfl zm_68_t rfl rfl) rfl rfl rfl rfl rfl (c1) ?_
      refine zw_beq1 (g := 176) (pc' := 163) rfl rfl rfl rfl (fun hz => ?_) (fun hz => ?_)
      · refine zw_s (pc' := 177) rfl rfl ?_
        refine zw_rz rfl rfl (by decide) ?_
        rcases c3 with ⟨k1, _⟩ | ⟨_, k2, k3, k4⟩
        · omega
        · exact yRL_0 k4 k3 (yA2_done ((yN2_0.trans (y0_15 hk h9)).trans (if_neg (by omega)))) (show 1 ≤ (2 : Int) ∧ (2 : Int) ≤ 5 from by decide)
      · rcases c3 with ⟨_, k2, k3⟩ | ⟨k1, _⟩
        rotate_left
        · omega
        have W1 := zB_Wd k3.1.1
        have hD1 : yDd 2 13 d H1 := yDd_F hwc c2 rfl rfl ⟨hD, hX⟩
        obtain ⟨_, d1, d2⟩ := yc_slate2_13 (L := L) (σ := σ) (dd := dd + 59) (by omega) k3 hD1
        have d2 := yRL_R (s := (0, [], 0, 0, 0, d, p)) (yR2_s ((yN2_0.trans (y0_15 hk h9)).trans (if_pos (by omega)))) d2 (ys_le1 h.2.2)
        obtain ⟨v2, H2, rfl, d3⟩ := d2
        refine zw_ld (n := 1) (k := 0) (f := zp_isR) (pc' := 164) rfl rfl rfl rfl rfl ?_
        refine zw_ld (n := 1) (k := 2) (f := zp_isR) (pc' := 165) rfl rfl rfl rfl rfl ?_
        refine zw_ld (n := 1) (k := 3) (f := zp_isR) (pc' := 166) rfl rfl rfl rfl rfl ?_
        refine zw_c (pc' := 169) (zw_cv (q := 51) (Y := zm_76) W1.1 rfl rfl zm_76_t rfl rfl) rfl rfl rfl rfl rfl (d1) ?_
        refine zw_beq1 (g := 176) (pc' := 172) rfl rfl rfl rfl (fun hy => ?_) (fun hy => ?_)
        · refine zw_s (pc' := 177) rfl rfl ?_
          refine zw_rz rfl rfl (by decide) ?_
          have ez : v2 = Int32.ofInt 0 := Int32.toInt_inj.mp hy
          exact ⟨_, H2, rfl, by rw [← ez]; exact d3⟩
        · refine zw_s (pc' := 173) rfl rfl ?_
          refine zw_s (pc' := 177) rfl rfl ?_
          refine zw_rz rfl rfl (by decide) ?_
          have ez : v2 = Int32.ofInt 1 := by
            rcases d3 with ⟨d3, _⟩ | ⟨d3, _⟩
            · exact Int32.toInt_inj.mp d3
            · exact absurd d3 hy
          exact ⟨_, H2, rfl, by rw [← ez]; exact d3⟩
    · have ev : H.2.1 52 5 = Int32.ofInt 16 := Int32.toInt_inj.mp (hv.trans h9)
      rw [ev]
      refine zw_s (pc' := 178) rfl rfl ?_
      refine zw_ld (n := 1) (k := 0) (f := zp_isR) (pc' := 179) rfl rfl rfl rfl rfl ?_
      refine zw_ld (n := 1) (k := 2) (f := zp_isR) (pc' := 180) rfl rfl rfl rfl rfl ?_
      refine zw_gI (q := 2) (pc' := 183) W rfl rfl rfl rfl rfl rfl ?_
      refine zw_s (pc' := 184) rfl rfl ?_
      have hcnt : (H.2.1 2 7).toInt = d.1 5 := hD.2.2.2.1
      have hmo : (Int32.ofInt 5).toInt = 5 := rfl
      obtain ⟨_, c1, v, H1, rfl, c2, c3⟩ := yc_hc (L := L) (σ := σ) (d := dd + 60) (x := H.2.1 2 7) (y := Int32.ofInt 5) h
      refine zw_c (pc' := 187) (zw_cv (q := 51) (Y := zm_68) W.1 rfl rfl zm_68_t rfl rfl) rfl rfl rfl rfl rfl (c1) ?_
      refine zw_beq1 (g := 202) (pc' := 190) rfl rfl rfl rfl (fun hz => ?_) (fun hz => ?_)
      · refine zw_s (pc' := 203) rfl rfl ?_
        refine zw_rz rfl rfl (by decide) ?_
        rcases c3 with ⟨k1, _⟩ | ⟨_, k2, k3, k4⟩
        · omega
        · exact yRL_0 k4 k3 (yA2_done ((yN2_0.trans (y0_16 hk h9)).trans (if_neg (by omega)))) (show 1 ≤ (2 : Int) ∧ (2 : Int) ≤ 5 from by decide)
      · rcases c3 with ⟨_, k2, k3⟩ | ⟨k1, _⟩
        rotate_left
        · omega
        have W1 := zB_Wd k3.1.1
        have hD1 : yDd 2 13 d H1 := yDd_F hwc c2 rfl rfl ⟨hD, hX⟩
        obtain ⟨_, d1, d2⟩ := yc_hand2 (L := L) (σ := σ) (dd := dd + 59) (cp := 13) (Or.inl rfl) (by omega) k3 hD1
        have d2 := yRL_R (s := (0, [], 0, 0, 0, d, p)) (yR2_s ((yN2_0.trans (y0_16 hk h9)).trans (if_pos (by omega)))) d2 (ys_le1 h.2.2)
        obtain ⟨v2, H2, rfl, d3⟩ := d2
        refine zw_ld (n := 1) (k := 0) (f := zp_isR) (pc' := 191) rfl rfl rfl rfl rfl ?_
        refine zw_ld (n := 1) (k := 2) (f := zp_isR) (pc' := 192) rfl rfl rfl rfl rfl ?_
        refine zw_c (pc' := 195) (zw_cv (q := 51) (Y := zm_79) W1.1 rfl rfl zm_79_t rfl rfl) rfl rfl rfl rfl rfl (d1) ?_
        refine zw_beq1 (g := 202) (pc' := 198) rfl rfl rfl rfl (fun hy => ?_) (fun hy => ?_)
        · refine zw_s (pc' := 203) rfl rfl ?_
          refine zw_rz rfl rfl (by decide) ?_
          have ez : v2 = Int32.ofInt 0 := Int32.toInt_inj.mp hy
          exact ⟨_, H2, rfl, by rw [← ez]; exact d3⟩
        · refine zw_s (pc' := 199) rfl rfl ?_
          refine zw_s (pc' := 203) rfl rfl ?_
          refine zw_rz rfl rfl (by decide) ?_
          have ez : v2 = Int32.ofInt 1 := by
            rcases d3 with ⟨d3, _⟩ | ⟨d3, _⟩
            · exact Int32.toInt_inj.mp d3
            · exact absurd d3 hy
          exact ⟨_, H2, rfl, by rw [← ez]; exact d3⟩
    · have ev : H.2.1 52 5 = Int32.ofInt 17 := Int32.toInt_inj.mp (hv.trans h9)
      rw [ev]
      refine zw_s (pc' := 204) rfl rfl ?_
      refine zw_ld (n := 1) (k := 0) (f := zp_isR) (pc' := 205) rfl rfl rfl rfl rfl ?_
      refine zw_ld (n := 1) (k := 0) (f := zp_isR) (pc' := 206) rfl rfl rfl rfl rfl ?_
      refine zw_gI (q := 51) (pc' := 209) W rfl rfl rfl rfl rfl rfl ?_
      have hs : (H.2.1 51 2).toInt = d.1 8 := hD.2.2.2.2.2.2.1
      refine zw_bne1 (g := 216) (pc' := 212) rfl rfl rfl rfl (fun hfl => ?_) (fun hfl => ?_)
      · obtain ⟨_, c1, v, H1, rfl, c2, c3⟩ := yc_hd (L := L) (σ := σ) (d := dd + 60) (x := Int32.ofInt 0) h
        refine zw_s (pc' := 217) rfl rfl ?_
        refine zw_c (pc' := 220) (zw_cv (q := 51) (Y := zm_63) W.1 rfl rfl zm_63_t rfl rfl) rfl rfl rfl rfl rfl (c1) ?_
        refine zw_beq1 (g := 235) (pc' := 223) rfl rfl rfl rfl (fun hz => ?_) (fun hz => ?_)
        · refine zw_s (pc' := 236) rfl rfl ?_
          refine zw_rz rfl rfl (by decide) ?_
          rcases c3 with ⟨k1, _⟩ | ⟨_, k2, k3, k4⟩
          · omega
          · exact yRL_0 k4 k3 (yA2_done ((yN2_0.trans (y0_17 hk h9)).trans (if_neg (by omega)))) (show 1 ≤ (5 : Int) ∧ (5 : Int) ≤ 5 from by decide)
        · rcases c3 with ⟨_, k2, k3⟩ | ⟨k1, _⟩
          · exact absurd rfl k2
          · omega
      · obtain ⟨_, c1, v, H1, rfl, c2, c3⟩ := yc_hd (L := L) (σ := σ) (d := dd + 60) (x := Int32.ofInt 1) h
        refine zw_s (pc' := 213) rfl rfl ?_
        refine zw_s (pc' := 217) rfl rfl ?_
        refine zw_c (pc' := 220) (zw_cv (q := 51) (Y := zm_63) W.1 rfl rfl zm_63_t rfl rfl) rfl rfl rfl rfl rfl (c1) ?_
        refine zw_beq1 (g := 235) (pc' := 223) rfl rfl rfl rfl (fun hz => ?_) (fun hz => ?_)
        · refine zw_s (pc' := 236) rfl rfl ?_
          refine zw_rz rfl rfl (by decide) ?_
          rcases c3 with ⟨k1, _⟩ | ⟨_, k2, k3, k4⟩
          · omega
          · exact yRL_0 k4 k3 (yA2_done ((yN2_0.trans (y0_17 hk h9)).trans (if_neg (fun _ => k2 (by decide))))) (show 1 ≤ (5 : Int) ∧ (5 : Int) ≤ 5 from by decide)
        · rcases c3 with ⟨_, k2, k3⟩ | ⟨k1, _⟩
          rotate_left
          · omega
          have W1 := zB_Wd k3.1.1
          have hD1 : yDd 2 13 d H1 := yDd_F hwc c2 rfl rfl ⟨hD, hX⟩
          obtain ⟨_, d1, d2⟩ := yc_school2 (L := L) (σ := σ) (dd := dd + 59) (cp := 13) (Or.inl rfl) k3 hD1
          have d2 := yRL_R (s := (0, [], 0, 0, 0, d, p)) (yR2_s ((yN2_0.trans (y0_17 hk h9)).trans (if_pos (by omega)))) d2 (ys_le1 h.2.2)
          obtain ⟨v2, H2, rfl, d3⟩ := d2
          refine zw_ld (n := 1) (k := 0) (f := zp_isR) (pc' := 224) rfl rfl rfl rfl rfl ?_
          refine zw_ld (n := 1) (k := 2) (f := zp_isR) (pc' := 225) rfl rfl rfl rfl rfl ?_
          refine zw_c (pc' := 228) (zw_cv (q := 51) (Y := zm_80) W1.1 rfl rfl zm_80_t rfl rfl) rfl rfl rfl rfl rfl (d1) ?_
          refine zw_beq1 (g := 235) (pc' := 231) rfl rfl rfl rfl (fun hy => ?_) (fun hy => ?_)
          · refine zw_s (pc' := 236) rfl rfl ?_
            refine zw_rz rfl rfl (by decide) ?_
            have ez : v2 = Int32.ofInt 0 := Int32.toInt_inj.mp hy
            exact ⟨_, H2, rfl, by rw [← ez]; exact d3⟩
          · refine zw_s (pc' := 232) rfl rfl ?_
            refine zw_s (pc' := 236) rfl rfl ?_
            refine zw_rz rfl rfl (by decide) ?_
            have ez : v2 = Int32.ofInt 1 := by
              rcases d3 with ⟨d3, _⟩ | ⟨d3, _⟩
              · exact Int32.toInt_inj.mp d3
              · exact absurd d3 hy
            exact ⟨_, H2, rfl, by rw [← ez]; exact d3⟩
    · have ev : H.2.1 52 5 = Int32.ofInt 18 := Int32.toInt_inj.mp (hv.trans h9)
      rw [ev]
      refine zw_s (pc' := 237) rfl rfl ?_
      refine zw_ld (n := 1) (k := 0) (f := zp_isR) (pc' := 238) rfl rfl rfl rfl rfl ?_
      refine zw_ld (n := 1) (k := 0) (f := zp_isR) (pc' := 239) rfl rfl rfl rfl rfl ?_
      refine zw_gI (q := 51) (pc' := 242) W rfl rfl rfl rfl rfl rfl ?_
      have hs : (H.2.1 51 3).toInt = d.1 9 := hD.2.2.2.2.2.2.2.1
      refine zw_bne1 (g := 249) (pc' := 245) rfl rfl rfl rfl (fun hfl => ?_) (fun hfl => ?_)
      · obtain ⟨_, c1, v, H1, rfl, c2, c3⟩ := yc_hd (L := L) (σ := σ) (d := dd + 60) (x := Int32.ofInt 0) h
        refine zw_s (pc' := 250) rfl rfl ?_
        refine zw_c (pc' := 253) (zw_cv (q := 51) (Y := zm_63) W.1 rfl rfl zm_63_t rfl rfl) rfl rfl rfl rfl rfl (c1) ?_
        refine zw_beq1 (g := 268) (pc' := 256) rfl rfl rfl rfl (fun hz => ?_) (fun hz => ?_)
        · refine zw_s (pc' := 269) rfl rfl ?_
          refine zw_rz rfl rfl (by decide) ?_
          rcases c3 with ⟨k1, _⟩ | ⟨_, k2, k3, k4⟩
          · omega
          · exact yRL_0 k4 k3 (yA2_done ((yN2_0.trans (y0_18 hk h9)).trans (if_neg (by omega)))) (show 1 ≤ (5 : Int) ∧ (5 : Int) ≤ 5 from by decide)
        · rcases c3 with ⟨_, k2, k3⟩ | ⟨k1, _⟩
          · exact absurd rfl k2
          · omega
      · obtain ⟨_, c1, v, H1, rfl, c2, c3⟩ := yc_hd (L := L) (σ := σ) (d := dd + 60) (x := Int32.ofInt 1) h
        refine zw_s (pc' := 246) rfl rfl ?_
        refine zw_s (pc' := 250) rfl rfl ?_
        refine zw_c (pc' := 253) (zw_cv (q := 51) (Y := zm_63) W.1 rfl rfl zm_63_t rfl rfl) rfl rfl rfl rfl rfl (c1) ?_
        refine zw_beq1 (g := 268) (pc' := 256) rfl rfl rfl rfl (fun hz => ?_) (fun hz => ?_)
        · refine zw_s (pc' := 269) rfl rfl ?_
          refine zw_rz rfl rfl (by decide) ?_
          rcases c3 with ⟨k1, _⟩ | ⟨_, k2, k3, k4⟩
          · omega
          · exact yRL_0 k4 k3 (yA2_done ((yN2_0.trans (y0_18 hk h9)).trans (if_neg (fun _ => k2 (by decide))))) (show 1 ≤ (5 : Int) ∧ (5 : Int) ≤ 5 from by decide)
        · rcases c3 with ⟨_, k2, k3⟩ | ⟨k1, _⟩
          rotate_left
          · omega
          have W1 := zB_Wd k3.1.1
          have hD1 : yDd 2 13 d H1 := yDd_F hwc c2 rfl rfl ⟨hD, hX⟩
          obtain ⟨_, d1, d2⟩ := yc_goal2 (L := L) (σ := σ) (dd := dd + 59) (cp := 13) (Or.inl rfl) k3 hD1
          have d2 := yRL_R (s := (0, [], 0, 0, 0, d, p)) (yR2_s ((yN2_0.trans (y0_18 hk h9)).trans (if_pos (by omega)))) d2 (ys_le1 h.2.2)
          obtain ⟨v2, H2, rfl, d3⟩ := d2
          refine zw_ld (n := 1) (k := 0) (f := zp_isR) (pc' := 257) rfl rfl rfl rfl rfl ?_
          refine zw_ld (n := 1) (k := 2) (f := zp_isR) (pc' := 258) rfl rfl rfl rfl rfl ?_
          refine zw_c (pc' := 261) (zw_cv (q := 51) (Y := zm_81) W1.1 rfl rfl zm_81_t rfl rfl) rfl rfl rfl rfl rfl (d1) ?_
          refine zw_beq1 (g := 268) (pc' := 264) rfl rfl rfl rfl (fun hy => ?_) (fun hy => ?_)
          · refine zw_s (pc' := 269) rfl rfl ?_
            refine zw_rz rfl rfl (by decide) ?_
            have ez : v2 = Int32.ofInt 0 := Int32.toInt_inj.mp hy
            exact ⟨_, H2, rfl, by rw [← ez]; exact d3⟩
          · refine zw_s (pc' := 265) rfl rfl ?_
            refine zw_s (pc' := 269) rfl rfl ?_
            refine zw_rz rfl rfl (by decide) ?_
            have ez : v2 = Int32.ofInt 1 := by
              rcases d3 with ⟨d3, _⟩ | ⟨d3, _⟩
              · exact Int32.toInt_inj.mp d3
              · exact absurd d3 hy
            exact ⟨_, H2, rfl, by rw [← ez]; exact d3⟩
    · have ev : H.2.1 52 5 = Int32.ofInt 19 := Int32.toInt_inj.mp (hv.trans h9)
      rw [ev]
      refine zw_s (pc' := 270) rfl rfl ?_
      refine zw_ld (n := 1) (k := 0) (f := zp_isR) (pc' := 271) rfl rfl rfl rfl rfl ?_
      refine zw_ld (n := 1) (k := 2) (f := zp_isR) (pc' := 272) rfl rfl rfl rfl rfl ?_
      refine zw_gI (q := 2) (pc' := 275) W rfl rfl rfl rfl rfl rfl ?_
      refine zw_s (pc' := 276) rfl rfl ?_
      have hcnt : (H.2.1 2 12).toInt = d.1 6 := hD.2.2.2.2.1
      have hmo : (Int32.ofInt 4).toInt = 4 := rfl
      obtain ⟨_, c1, v, H1, rfl, c2, c3⟩ := yc_hc (L := L) (σ := σ) (d := dd + 60) (x := H.2.1 2 12) (y := Int32.ofInt 4) h
      refine zw_c (pc' := 279) (zw_cv (q := 51) (Y := zm_68) W.1 rfl rfl zm_68_t rfl rfl) rfl rfl rfl rfl rfl (c1) ?_
      refine zw_beq1 (g := 295) (pc' := 282) rfl rfl rfl rfl (fun hz => ?_) (fun hz => ?_)
      · refine zw_s (pc' := 296) rfl rfl ?_
        refine zw_rz rfl rfl (by decide) ?_
        rcases c3 with ⟨k1, _⟩ | ⟨_, k2, k3, k4⟩
        · omega
        · exact yRL_0 k4 k3 (yA2_done ((yN2_0.trans (y0_19 hk h9)).trans (if_neg (by omega)))) (show 1 ≤ (2 : Int) ∧ (2 : Int) ≤ 5 from by decide)
      · rcases c3 with ⟨_, k2, k3⟩ | ⟨k1, _⟩
        rotate_left
        · omega
        have W1 := zB_Wd k3.1.1
        have hD1 : yDd 2 13 d H1 := yDd_F hwc c2 rfl rfl ⟨hD, hX⟩
        obtain ⟨_, d1, d2⟩ := yc_pilot2_13 (L := L) (σ := σ) (dd := dd + 59) (by omega) k3 hD1
        have d2 := yRL_R (s := (0, [], 0, 0, 0, d, p)) (yR2_s ((yN2_0.trans (y0_19 hk h9)).trans (if_pos (by omega)))) d2 (ys_le1 h.2.2)
        obtain ⟨v2, H2, rfl, d3⟩ := d2
        refine zw_ld (n := 1) (k := 0) (f := zp_isR) (pc' := 283) rfl rfl rfl rfl rfl ?_
        refine zw_ld (n := 1) (k := 2) (f := zp_isR) (pc' := 284) rfl rfl rfl rfl rfl ?_
        refine zw_ld (n := 1) (k := 3) (f := zp_isR) (pc' := 285) rfl rfl rfl rfl rfl ?_
        refine zw_c (pc' := 288) (zw_cv (q := 51) (Y := zm_82) W1.1 rfl rfl zm_82_t rfl rfl) rfl rfl rfl rfl rfl (d1) ?_
        refine zw_beq1 (g := 295) (pc' := 291) rfl rfl rfl rfl (fun hy => ?_) (fun hy => ?_)
        · refine zw_s (pc' := 296) rfl rfl ?_
          refine zw_rz rfl rfl (by decide) ?_
          have ez : v2 = Int32.ofInt 0 := Int32.toInt_inj.mp hy
          exact ⟨_, H2, rfl, by rw [← ez]; exact d3⟩
        · refine zw_s (pc' := 292) rfl rfl ?_
          refine zw_s (pc' := 296) rfl rfl ?_
          refine zw_rz rfl rfl (by decide) ?_
          have ez : v2 = Int32.ofInt 1 := by
            rcases d3 with ⟨d3, _⟩ | ⟨d3, _⟩
            · exact Int32.toInt_inj.mp d3
            · exact absurd d3 hy
          exact ⟨_, H2, rfl, by rw [← ez]; exact d3⟩
    · have ev : H.2.1 52 5 = Int32.ofInt 20 := Int32.toInt_inj.mp (hv.trans h9)
      rw [ev]
      refine zw_s (pc' := 297) rfl rfl ?_
      refine zw_ld (n := 1) (k := 0) (f := zp_isR) (pc' := 298) rfl rfl rfl rfl rfl ?_
      refine zw_ld (n := 1) (k := 2) (f := zp_isR) (pc' := 299) rfl rfl rfl rfl rfl ?_
      refine zw_gI (q := 2) (pc' := 302) W rfl rfl rfl rfl rfl rfl ?_
      refine zw_s (pc' := 304) rfl rfl ?_
      have hcnt : (H.2.1 2 16).toInt = d.1 7 := hD.2.2.2.2.2.1
      have hmo : (Int32.ofInt 8).toInt = 8 := rfl
      obtain ⟨_, c1, v, H1, rfl, c2, c3⟩ := yc_hc (L := L) (σ := σ) (d := dd + 60) (x := H.2.1 2 16) (y := Int32.ofInt 8) h
      refine zw_c (pc' := 307) (zw_cv (q := 51) (Y := zm_68) W.1 rfl rfl zm_68_t rfl rfl) rfl rfl rfl rfl rfl (c1) ?_
      refine zw_beq1 (g := 322) (pc' := 310) rfl rfl rfl rfl (fun hz => ?_) (fun hz => ?_)
      · refine zw_s (pc' := 323) rfl rfl ?_
        refine zw_rz rfl rfl (by decide) ?_
        rcases c3 with ⟨k1, _⟩ | ⟨_, k2, k3, k4⟩
        · omega
        · exact yRL_0 k4 k3 (yA2_done ((yN2_0.trans (y0_20 hk h9)).trans (if_neg (by omega)))) (show 1 ≤ (2 : Int) ∧ (2 : Int) ≤ 5 from by decide)
      · rcases c3 with ⟨_, k2, k3⟩ | ⟨k1, _⟩
        rotate_left
        · omega
        have W1 := zB_Wd k3.1.1
        have hD1 : yDd 2 13 d H1 := yDd_F hwc c2 rfl rfl ⟨hD, hX⟩
        obtain ⟨_, d1, d2⟩ := yc_rule2 (L := L) (σ := σ) (dd := dd + 1) (cp := 13) (Or.inl rfl) k3 hD1 (by omega)
        have d2 := yRL_R (s := (0, [], 0, 0, 0, d, p)) (yR2_s ((yN2_0.trans (y0_20 hk h9)).trans (if_pos (by omega)))) d2 (ys_le1 h.2.2)
        obtain ⟨v2, H2, rfl, d3⟩ := d2
        refine zw_ld (n := 1) (k := 0) (f := zp_isR) (pc' := 311) rfl rfl rfl rfl rfl ?_
        refine zw_ld (n := 1) (k := 2) (f := zp_isR) (pc' := 312) rfl rfl rfl rfl rfl ?_
        refine zw_c (pc' := 315) (zw_cv (q := 51) (Y := zm_84) W1.1 rfl rfl zm_84_t rfl rfl) rfl rfl rfl rfl rfl (d1) ?_
        refine zw_beq1 (g := 322) (pc' := 318) rfl rfl rfl rfl (fun hy => ?_) (fun hy => ?_)
        · refine zw_s (pc' := 323) rfl rfl ?_
          refine zw_rz rfl rfl (by decide) ?_
          have ez : v2 = Int32.ofInt 0 := Int32.toInt_inj.mp hy
          exact ⟨_, H2, rfl, by rw [← ez]; exact d3⟩
        · refine zw_s (pc' := 319) rfl rfl ?_
          refine zw_s (pc' := 323) rfl rfl ?_
          refine zw_rz rfl rfl (by decide) ?_
          have ez : v2 = Int32.ofInt 1 := by
            rcases d3 with ⟨d3, _⟩ | ⟨d3, _⟩
            · exact Int32.toInt_inj.mp d3
            · exact absurd d3 hy
          exact ⟨_, H2, rfl, by rw [← ez]; exact d3⟩
    · have ev : H.2.1 52 5 = Int32.ofInt 21 := Int32.toInt_inj.mp (hv.trans h9)
      rw [ev]
      refine zw_s (pc' := 324) rfl rfl ?_
      refine zw_ld (n := 1) (k := 0) (f := zp_isR) (pc' := 325) rfl rfl rfl rfl rfl ?_
      refine zw_s (pc' := 326) rfl rfl ?_
      obtain ⟨K, e1, e2, e3, e4⟩ := yc_ref (L := L) (σ := σ) (d := dd + 63) (x := Int32.ofInt 1) h
      refine zw_c (pc' := 329) (zw_cv (q := 51) (Y := zm_62) W.1 rfl rfl zm_62_t rfl rfl) rfl rfl rfl rfl rfl (e1) ?_
      refine zw_rz rfl rfl (by decide) ?_
      exact yRL_0 e2 e4 (yA2_done (yN2_0.trans (y0_x hk (by omega)))) (show 1 ≤ (1 : Int) ∧ (1 : Int) ≤ 5 from by decide)
  · have hk3 : ys_kd T n p ≠ 3 := by omega
    refine zw_ld (n := 1) (k := 0) (f := zp_isR) (pc' := 12) rfl rfl rfl rfl rfl ?_
    refine zw_s (pc' := 13) rfl rfl ?_
    obtain ⟨K, e1, e2, e3, e4⟩ := yc_ref (L := L) (σ := σ) (d := dd + 63) (x := Int32.ofInt 1) h
    refine zw_c (pc' := 16) (zw_cv (q := 51) (Y := zm_62) W.1 rfl rfl zm_62_t rfl rfl) rfl rfl rfl rfl rfl (e1) ?_
    refine zw_rz rfl rfl (by decide) ?_
    exact yRL_0 e2 e4 (yA2_done (yN2_0.trans (y0_n hk3 h0))) (show 1 ≤ (1 : Int) ∧ (1 : Int) ≤ 5 from by decide)

set_option maxHeartbeats 4000000 in
set_option maxRecDepth 8000 in
theorem yc_line2_33 {L : Nat} {σ : Nat → Int32} {dd : Nat} {T : Nat → Int} {n p : Nat} {d : yLD} {H : zp_H} {f : Int32} (hf : f.toInt = d.1 0) (hbu : yBCu) (h0 : ys_kd T n p ≠ 0) (h : yE T n p H) (hDd : yDd 2 33 d H) : ∃ X, zp_Call L σ (dd + 65) 61 [.inr (.inr (some 52)), .inl f, .inr (.inr (some 3)), .inr (.inr (some 34))] H X ∧ yRL T n 2 33 (0, [], 0, 0, 0, d, p) X := by
  obtain ⟨hD, hX⟩ := hDd
  have hwc : yWC 2 33 := ⟨by decide, by decide⟩
  have W := zB_Wd h.1.1
  have h4 := yE_4 h
  have h5 : ys_kd T n p ≠ 0 → _ := yE_5 h
  refine zw_met zm_61_t rfl rfl ?_
  refine zw_ld (n := 1) (k := 0) (f := zp_isR) (pc' := 1) rfl rfl rfl rfl rfl ?_
  refine zw_gR (q := 51) (pc' := 4) W rfl rfl rfl rfl (W.2 51 0 _ rfl) rfl ?_
  refine zw_gI (q := 52) (pc' := 7) W rfl rfl rfl rfl rfl rfl ?_
  refine zw_s (pc' := 8) rfl rfl ?_
  refine zw_beq2 (g := 17) (pc' := 11) rfl rfl rfl rfl (rfl : _ = (3 : Int)) (fun h1 => ?_) (fun h1 => ?_)
  · have hk : ys_kd T n p = 3 := by omega
    have hv := h5 (by omega)
    have hvb := ys_vl_b hk
    refine zw_ld (n := 1) (k := 0) (f := zp_isR) (pc' := 18) rfl rfl rfl rfl rfl ?_
    refine zw_gR (q := 51) (pc' := 21) W rfl rfl rfl rfl (W.2 51 0 _ rfl) rfl ?_
    refine zw_gI (q := 52) (pc' := 24) W rfl rfl rfl rfl rfl rfl ?_
    rcases (show ys_vl T n p = 0 ∨ ys_vl T n p = 1 ∨ ys_vl T n p = 2 ∨ ys_vl T n p = 3 ∨ ys_vl T n p = 4 ∨ ys_vl T n p = 5 ∨ ys_vl T n p = 6 ∨ ys_vl T n p = 7 ∨ ys_vl T n p = 8 ∨ ys_vl T n p = 9 ∨ ys_vl T n p = 10 ∨ ys_vl T n p = 11 ∨ ys_vl T n p = 12 ∨ ys_vl T n p = 13 ∨ ys_vl T n p = 14 ∨ ys_vl T n p = 15 ∨ ys_vl T n p = 16 ∨ ys_vl T n p = 17 ∨ ys_vl T n p = 18 ∨ ys_vl T n p = 19 ∨ ys_vl T n p = 20 ∨ ys_vl T n p = 21 by omega) with h9 | h9 | h9 | h9 | h9 | h9 | h9 | h9 | h9 | h9 | h9 | h9 | h9 | h9 | h9 | h9 | h9 | h9 | h9 | h9 | h9 | h9
    · have ev : H.2.1 52 5 = Int32.ofInt 0 := Int32.toInt_inj.mp (hv.trans h9)
      rw [ev]
      refine zw_s (pc' := 324) rfl rfl ?_
      refine zw_ld (n := 1) (k := 0) (f := zp_isR) (pc' := 325) rfl rfl rfl rfl rfl ?_
      refine zw_s (pc' := 326) rfl rfl ?_
      obtain ⟨K, e1, e2, e3, e4⟩ := yc_ref (L := L) (σ := σ) (d := dd + 63) (x := Int32.ofInt 1) h
      refine zw_c (pc' := 329) (zw_cv (q := 51) (Y := zm_62) W.1 rfl rfl zm_62_t rfl rfl) rfl rfl rfl rfl rfl (e1) ?_
      refine zw_rz rfl rfl (by decide) ?_
      exact yRL_0 e2 e4 (yA2_done (yN2_0.trans (y0_x hk (by omega)))) (show 1 ≤ (1 : Int) ∧ (1 : Int) ≤ 5 from by decide)
    · have ev : H.2.1 52 5 = Int32.ofInt 1 := Int32.toInt_inj.mp (hv.trans h9)
      rw [ev]
      refine zw_s (pc' := 324) rfl rfl ?_
      refine zw_ld (n := 1) (k := 0) (f := zp_isR) (pc' := 325) rfl rfl rfl rfl rfl ?_
      refine zw_s (pc' := 326) rfl rfl ?_
      obtain ⟨K, e1, e2, e3, e4⟩ := yc_ref (L := L) (σ := σ) (d := dd + 63) (x := Int32.ofInt 1) h
      refine zw_c (pc' := 329) (zw_cv (q := 51) (Y := zm_62) W.1 rfl rfl zm_62_t rfl rfl) rfl rfl rfl rfl rfl (e1) ?_
      refine zw_rz rfl rfl (by decide) ?_
      exact yRL_0 e2 e4 (yA2_done (yN2_0.trans (y0_x hk (by omega)))) (show 1 ≤ (1 : Int) ∧ (1 : Int) ≤ 5 from by decide)
    · have ev : H.2.1 52 5 = Int32.ofInt 2 := Int32.toInt_inj.mp (hv.trans h9)
      rw [ev]
      refine zw_s (pc' := 324) rfl rfl ?_
      refine zw_ld (n := 1) (k := 0) (f := zp_isR) (pc' := 325) rfl rfl rfl rfl rfl ?_
      refine zw_s (pc' := 326) rfl rfl ?_
      obtain ⟨K, e1, e2, e3, e4⟩ := yc_ref (L := L) (σ := σ) (d := dd + 63) (x := Int32.ofInt 1) h
      refine zw_c (pc' := 329) (zw_cv (q := 51) (Y := zm_62) W.1 rfl rfl zm_62_t rfl rfl) rfl rfl rfl rfl rfl (e1) ?_
      refine zw_rz rfl rfl (by decide) ?_
      exact yRL_0 e2 e4 (yA2_done (yN2_0.trans (y0_x hk (by omega)))) (show 1 ≤ (1 : Int) ∧ (1 : Int) ≤ 5 from by decide)
    · have ev : H.2.1 52 5 = Int32.ofInt 3 := Int32.toInt_inj.mp (hv.trans h9)
      rw [ev]
      refine zw_s (pc' := 324) rfl rfl ?_
      refine zw_ld (n := 1) (k := 0) (f := zp_isR) (pc' := 325) rfl rfl rfl rfl rfl ?_
      refine zw_s (pc' := 326) rfl rfl ?_
      obtain ⟨K, e1, e2, e3, e4⟩ := yc_ref (L := L) (σ := σ) (d := dd + 63) (x := Int32.ofInt 1) h
      refine zw_c (pc' := 329) (zw_cv (q := 51) (Y := zm_62) W.1 rfl rfl zm_62_t rfl rfl) rfl rfl rfl rfl rfl (e1) ?_
      refine zw_rz rfl rfl (by decide) ?_
      exact yRL_0 e2 e4 (yA2_done (yN2_0.trans (y0_x hk (by omega)))) (show 1 ≤ (1 : Int) ∧ (1 : Int) ≤ 5 from by decide)
    · have ev : H.2.1 52 5 = Int32.ofInt 4 := Int32.toInt_inj.mp (hv.trans h9)
      rw [ev]
      refine zw_s (pc' := 324) rfl rfl ?_
      refine zw_ld (n := 1) (k := 0) (f := zp_isR) (pc' := 325) rfl rfl rfl rfl rfl ?_
      refine zw_s (pc' := 326) rfl rfl ?_
      obtain ⟨K, e1, e2, e3, e4⟩ := yc_ref (L := L) (σ := σ) (d := dd + 63) (x := Int32.ofInt 1) h
      refine zw_c (pc' := 329) (zw_cv (q := 51) (Y := zm_62) W.1 rfl rfl zm_62_t rfl rfl) rfl rfl rfl rfl rfl (e1) ?_
      refine zw_rz rfl rfl (by decide) ?_
      exact yRL_0 e2 e4 (yA2_done (yN2_0.trans (y0_x hk (by omega)))) (show 1 ≤ (1 : Int) ∧ (1 : Int) ≤ 5 from by decide)
    · have ev : H.2.1 52 5 = Int32.ofInt 5 := Int32.toInt_inj.mp (hv.trans h9)
      rw [ev]
      refine zw_s (pc' := 324) rfl rfl ?_
      refine zw_ld (n := 1) (k := 0) (f := zp_isR) (pc' := 325) rfl rfl rfl rfl rfl ?_
      refine zw_s (pc' := 326) rfl rfl ?_
      obtain ⟨K, e1, e2, e3, e4⟩ := yc_ref (L := L) (σ := σ) (d := dd + 63) (x := Int32.ofInt 1) h
      refine zw_c (pc' := 329) (zw_cv (q := 51) (Y := zm_62) W.1 rfl rfl zm_62_t rfl rfl) rfl rfl rfl rfl rfl (e1) ?_
      refine zw_rz rfl rfl (by decide) ?_
      exact yRL_0 e2 e4 (yA2_done (yN2_0.trans (y0_x hk (by omega)))) (show 1 ≤ (1 : Int) ∧ (1 : Int) ≤ 5 from by decide)
    · have ev : H.2.1 52 5 = Int32.ofInt 6 := Int32.toInt_inj.mp (hv.trans h9)
      rw [ev]
      refine zw_s (pc' := 324) rfl rfl ?_
      refine zw_ld (n := 1) (k := 0) (f := zp_isR) (pc' := 325) rfl rfl rfl rfl rfl ?_
      refine zw_s (pc' := 326) rfl rfl ?_
      obtain ⟨K, e1, e2, e3, e4⟩ := yc_ref (L := L) (σ := σ) (d := dd + 63) (x := Int32.ofInt 1) h
      refine zw_c (pc' := 329) (zw_cv (q := 51) (Y := zm_62) W.1 rfl rfl zm_62_t rfl rfl) rfl rfl rfl rfl rfl (e1) ?_
      refine zw_rz rfl rfl (by decide) ?_
      exact yRL_0 e2 e4 (yA2_done (yN2_0.trans (y0_x hk (by omega)))) (show 1 ≤ (1 : Int) ∧ (1 : Int) ≤ 5 from by decide)
    · have ev : H.2.1 52 5 = Int32.ofInt 7 := Int32.toInt_inj.mp (hv.trans h9)
      rw [ev]
      refine zw_s (pc' := 324) rfl rfl ?_
      refine zw_ld (n := 1) (k := 0) (f := zp_isR) (pc' := 325) rfl rfl rfl rfl rfl ?_
      refine zw_s (pc' := 326) rfl rfl ?_
      obtain ⟨K, e1, e2, e3, e4⟩ := yc_ref (L := L) (σ := σ) (d := dd + 63) (x := Int32.ofInt 1) h
      refine zw_c (pc' := 329) (zw_cv (q := 51) (Y := zm_62) W.1 rfl rfl zm_62_t rfl rfl) rfl rfl rfl rfl rfl (e1) ?_
      refine zw_rz rfl rfl (by decide) ?_
      exact yRL_0 e2 e4 (yA2_done (yN2_0.trans (y0_x hk (by omega)))) (show 1 ≤ (1 : Int) ∧ (1 : Int) ≤ 5 from by decide)
    · have ev : H.2.1 52 5 = Int32.ofInt 8 := Int32.toInt_inj.mp (hv.trans h9)
      rw [ev]
      refine zw_s (pc' := 324) rfl rfl ?_
      refine zw_ld (n := 1) (k := 0) (f := zp_isR) (pc' := 325) rfl rfl rfl rfl rfl ?_
      refine zw_s (pc' := 326) rfl rfl ?_
      obtain ⟨K, e1, e2, e3, e4⟩ := yc_ref (L := L) (σ := σ) (d := dd + 63) (x := Int32.ofInt 1) h
      refine zw_c (pc' := 329) (zw_cv (q := 51) (Y := zm_62) W.1 rfl rfl zm_62_t rfl rfl) rfl rfl rfl rfl rfl (e1) ?_
      refine zw_rz rfl rfl (by decide) ?_
      exact yRL_0 e2 e4 (yA2_done (yN2_0.trans (y0_x hk (by omega)))) (show 1 ≤ (1 : Int) ∧ (1 : Int) ≤ 5 from by decide)
    · have ev : H.2.1 52 5 = Int32.ofInt 9 := Int32.toInt_inj.mp (hv.trans h9)
      rw [ev]
      refine zw_s (pc' := 324) rfl rfl ?_
      refine zw_ld (n := 1) (k := 0) (f := zp_isR) (pc' := 325) rfl rfl rfl rfl rfl ?_
      refine zw_s (pc' := 326) rfl rfl ?_
      obtain ⟨K, e1, e2, e3, e4⟩ := yc_ref (L := L) (σ := σ) (d := dd + 63) (x := Int32.ofInt 1) h
      refine zw_c (pc' := 329) (zw_cv (q := 51) (Y := zm_62) W.1 rfl rfl zm_62_t rfl rfl) rfl rfl rfl rfl rfl (e1) ?_
      refine zw_rz rfl rfl (by decide) ?_
      exact yRL_0 e2 e4 (yA2_done (yN2_0.trans (y0_x hk (by omega)))) (show 1 ≤ (1 : Int) ∧ (1 : Int) ≤ 5 from by decide)
    · have ev : H.2.1 52 5 = Int32.ofInt 10 := Int32.toInt_inj.mp (hv.trans h9)
      rw [ev]
      refine zw_s (pc' := 324) rfl rfl ?_
      refine zw_ld (n := 1) (k := 0) (f := zp_isR) (pc' := 325) rfl rfl rfl rfl rfl ?_
      refine zw_s (pc' := 326) rfl rfl ?_
      obtain ⟨K, e1, e2, e3, e4⟩ := yc_ref (L := L) (σ := σ) (d := dd + 63) (x := Int32.ofInt 1) h
      refine zw_c (pc' := 329) (zw_cv (q := 51) (Y := zm_62) W.1 rfl rfl zm_62_t rfl rfl) rfl rfl rfl rfl rfl (e1) ?_
      refine zw_rz rfl rfl (by decide) ?_
      exact yRL_0 e2 e4 (yA2_done (yN2_0.trans (y0_x hk (by omega)))) (show 1 ≤ (1 : Int) ∧ (1 : Int) ≤ 5 from by decide)
    · have ev : H.2.1 52 5 = Int32.ofInt 11 := Int32.toInt_inj.mp (hv.trans h9)
      rw [ev]
      refine zw_s (pc' := 324) rfl rfl ?_
      refine zw_ld (n := 1) (k := 0) (f := zp_isR) (pc' := 325) rfl rfl rfl rfl rfl ?_
      refine zw_s (pc' := 326) rfl rfl ?_
      obtain ⟨K, e1, e2, e3, e4⟩ := yc_ref (L := L) (σ := σ) (d := dd + 63) (x := Int32.ofInt 1) h
      refine zw_c (pc' := 329) (zw_cv (q := 51) (Y := zm_62) W.1 rfl rfl zm_62_t rfl rfl) rfl rfl rfl rfl rfl (e1) ?_
      refine zw_rz rfl rfl (by decide) ?_
      exact yRL_0 e2 e4 (yA2_done (yN2_0.trans (y0_x hk (by omega)))) (show 1 ≤ (1 : Int) ∧ (1 : Int) ≤ 5 from by decide)
    · have ev : H.2.1 52 5 = Int32.ofInt 12 := Int32.toInt_inj.mp (hv.trans h9)
      rw [ev]
      refine zw_s (pc' := 76) rfl rfl ?_
      refine zw_ld (n := 1) (k := 0) (f := zp_isR) (pc' := 77) rfl rfl rfl rfl rfl ?_
      refine zw_ld (n := 1) (k := 1) (f := zp_isI) (pc' := 78) rfl rfl rfl rfl rfl ?_
      obtain ⟨_, c1, v, H1, rfl, c2, c3⟩ := yc_hd (L := L) (σ := σ) (d := dd + 60) (x := f) h
      refine zw_c (pc' := 81) (zw_cv (q := 51) (Y := zm_63) W.1 rfl rfl zm_63_t rfl rfl) rfl rfl rfl rfl rfl (c1) ?_
      refine zw_beq1 (g := 96) (pc' := 84) rfl rfl rfl rfl (fun hz => ?_) (fun hz => ?_)
      · refine zw_s (pc' := 97) rfl rfl ?_
        refine zw_rz rfl rfl (by decide) ?_
        rcases c3 with ⟨k1, _⟩ | ⟨_, k2, k3, k4⟩
        · omega
        · exact yRL_0 k4 k3 (yA2_done ((yN2_0.trans (y0_12 hk h9)).trans (if_neg (by omega)))) (show 1 ≤ (5 : Int) ∧ (5 : Int) ≤ 5 from by decide)
      · rcases c3 with ⟨_, k2, k3⟩ | ⟨k1, _⟩
        rotate_left
        · omega
        have W1 := zB_Wd k3.1.1
        have hD1 : yDd 2 33 d H1 := yDd_F hwc c2 rfl rfl ⟨hD, hX⟩
        obtain ⟨_, d1, d2⟩ := yc_size2 (L := L) (σ := σ) (dd := dd + 59) (cp := 33) (Or.inr rfl) k3 hD1
        have d2 := yRL_R (s := (0, [], 0, 0, 0, d, p)) (yR2_s ((yN2_0.trans (y0_12 hk h9)).trans (if_pos (by omega)))) d2 (ys_le1 h.2.2)
        obtain ⟨v2, H2, rfl, d3⟩ := d2
        refine zw_ld (n := 1) (k := 0) (f := zp_isR) (pc' := 85) rfl rfl rfl rfl rfl ?_
        refine zw_ld (n := 1) (k := 2) (f := zp_isR) (pc' := 86) rfl rfl rfl rfl rfl ?_
        refine zw_c (pc' := 89) (zw_cv (q := 51) (Y := zm_64) W1.1 rfl rfl zm_64_t rfl rfl) rfl rfl rfl rfl rfl (d1) ?_
        refine zw_beq1 (g := 96) (pc' := 92) rfl rfl rfl rfl (fun hy => ?_) (fun hy => ?_)
        · refine zw_s (pc' := 97) rfl rfl ?_
          refine zw_rz rfl rfl (by decide) ?_
          have ez : v2 = Int32.ofInt 0 := Int32.toInt_inj.mp hy
          exact ⟨_, H2, rfl, by rw [← ez]; exact d3⟩
        · refine zw_s (pc' := 93) rfl rfl ?_
          refine zw_s (pc' := 97) rfl rfl ?_
          refine zw_rz rfl rfl (by decide) ?_
          have ez : v2 = Int32.ofInt 1 := by
            rcases d3 with ⟨d3, _⟩ | ⟨d3, _⟩
            · exact Int32.toInt_inj.mp d3
            · exact absurd d3 hy
          exact ⟨_, H2, rfl, by rw [← ez]; exact d3⟩
    · have ev : H.2.1 52 5 = Int32.ofInt 13 := Int32.toInt_inj.mp (hv.trans h9)
      rw [ev]
      refine zw_s (pc' := 98) rfl rfl ?_
      refine zw_ld (n := 1) (k := 0) (f := zp_isR) (pc' := 99) rfl rfl rfl rfl rfl ?_
      refine zw_ld (n := 1) (k := 2) (f := zp_isR) (pc' := 100) rfl rfl rfl rfl rfl ?_
      refine zw_gL (q := 2) (pc' := 103) W rfl rfl rfl rfl rfl ?_
      refine zw_c (pc' := 106) (zw_cs (Y := zm_67) rfl rfl zm_67_t) rfl rfl rfl rfl rfl (yc_bc) ?_
      refine zw_s (pc' := 108) rfl rfl ?_
      have hcnt : (yBC (H.2.2.1 2 3)).toInt = d.1 3 := by rw [hD.2.2.2.2.2.2.2.2.1]; exact hD.2.2.2.2.2.2.2.2.2.2
      have hmo : (Int32.ofInt 20).toInt = 20 := rfl
      obtain ⟨_, c1, v, H1, rfl, c2, c3⟩ := yc_hc (L := L) (σ := σ) (d := dd + 60) (x := yBC (H.2.2.1 2 3)) (y := Int32.ofInt 20) h
      refine zw_c (pc' := 111) (zw_cv (q := 51) (Y := zm_68) W.1 rfl rfl zm_68_t rfl rfl) rfl rfl rfl rfl rfl (c1) ?_
      refine zw_beq1 (g := 126) (pc' := 114) rfl rfl rfl rfl (fun hz => ?_) (fun hz => ?_)
      · refine zw_s (pc' := 127) rfl rfl ?_
        refine zw_rz rfl rfl (by decide) ?_
        rcases c3 with ⟨k1, _⟩ | ⟨_, k2, k3, k4⟩
        · omega
        · exact yRL_0 k4 k3 (yA2_done ((yN2_0.trans (y0_13 hk h9)).trans (if_neg (by omega)))) (show 1 ≤ (2 : Int) ∧ (2 : Int) ≤ 5 from by decide)
      · rcases c3 with ⟨_, k2, k3⟩ | ⟨k1, _⟩
        rotate_left
        · omega
        have W1 := zB_Wd k3.1.1
        have hD1 : yDd 2 33 d H1 := yDd_F hwc c2 rfl rfl ⟨hD, hX⟩
        obtain ⟨_, d1, d2⟩ := yc_rock2 (L := L) (σ := σ) (dd := dd + 59) (cp := 33) (Or.inr rfl) hbu k3 hD1
        have d2 := yRL_R (s := (0, [], 0, 0, 0, d, p)) (yR2_s ((yN2_0.trans (y0_13 hk h9)).trans (if_pos (by omega)))) d2 (ys_le1 h.2.2)
        obtain ⟨v2, H2, rfl, d3⟩ := d2
        refine zw_ld (n := 1) (k := 0) (f := zp_isR) (pc' := 115) rfl rfl rfl rfl rfl ?_
        refine zw_ld (n := 1) (k := 2) (f := zp_isR) (pc' := 116) rfl rfl rfl rfl rfl ?_
        refine zw_c (pc' := 119) (zw_cv (q := 51) (Y := zm_69) W1.1 rfl rfl zm_69_t rfl rfl) rfl rfl rfl rfl rfl (d1) ?_
        refine zw_beq1 (g := 126) (pc' := 122) rfl rfl rfl rfl (fun hy => ?_) (fun hy => ?_)
        · refine zw_s (pc' := 127) rfl rfl ?_
          refine zw_rz rfl rfl (by decide) ?_
          have ez : v2 = Int32.ofInt 0 := Int32.toInt_inj.mp hy
          exact ⟨_, H2, rfl, by rw [← ez]; exact d3⟩
        · refine zw_s (pc' := 123) rfl rfl ?_
          refine zw_s (pc' := 127) rfl rfl ?_
          refine zw_rz rfl rfl (by decide) ?_
          have ez : v2 = Int32.ofInt 1 := by
            rcases d3 with ⟨d3, _⟩ | ⟨d3, _⟩
            · exact Int32.toInt_inj.mp d3
            · exact absurd d3 hy
          exact ⟨_, H2, rfl, by rw [← ez]; exact d3⟩
    · have ev : H.2.1 52 5 = Int32.ofInt 14 := Int32.toInt_inj.mp (hv.trans h9)
      rw [ev]
      refine zw_s (pc' := 128) rfl rfl ?_
      refine zw_ld (n := 1) (k := 0) (f := zp_isR) (pc' := 129) rfl rfl rfl rfl rfl ?_
      refine zw_s (pc' := 130) rfl rfl ?_
      obtain ⟨_, c1, v, H1, rfl, c2, c3⟩ := yc_hd (L := L) (σ := σ) (d := dd + 60) (x := Int32.ofInt 1) h
      refine zw_c (pc' := 133) (zw_cv (q := 51) (Y := zm_63) W.1 rfl rfl zm_63_t rfl rfl) rfl rfl rfl rfl rfl (c1) ?_
      refine zw_beq1 (g := 148) (pc' := 136) rfl rfl rfl rfl (fun hz => ?_) (fun hz => ?_)
      · refine zw_s (pc' := 149) rfl rfl ?_
        refine zw_rz rfl rfl (by decide) ?_
        rcases c3 with ⟨k1, _⟩ | ⟨_, k2, _⟩
        · omega
        · exact absurd (by decide) k2
      · rcases c3 with ⟨_, k2, k3⟩ | ⟨k1, _⟩
        rotate_left
        · omega
        have W1 := zB_Wd k3.1.1
        have hD1 : yDd 2 33 d H1 := yDd_F hwc c2 rfl rfl ⟨hD, hX⟩
        obtain ⟨_, d1, d2⟩ := yc_curr2 (L := L) (σ := σ) (dd := dd + 59) (cp := 33) (Or.inr rfl) k3 hD1
        have d2 := yRL_R (s := (0, [], 0, 0, 0, d, p)) (yR2_s (yN2_0.trans (y0_14 hk h9))) d2 (ys_le1 h.2.2)
        obtain ⟨v2, H2, rfl, d3⟩ := d2
        refine zw_ld (n := 1) (k := 0) (f := zp_isR) (pc' := 137) rfl rfl rfl rfl rfl ?_
        refine zw_ld (n := 1) (k := 2) (f := zp_isR) (pc' := 138) rfl rfl rfl rfl rfl ?_
        refine zw_c (pc' := 141) (zw_cv (q := 51) (Y := zm_71) W1.1 rfl rfl zm_71_t rfl rfl) rfl rfl rfl rfl rfl (d1) ?_
        refine zw_beq1 (g := 148) (pc' := 144) rfl rfl rfl rfl (fun hy => ?_) (fun hy => ?_)
        · refine zw_s (pc' := 149) rfl rfl ?_
          refine zw_rz rfl rfl (by decide) ?_
          have ez : v2 = Int32.ofInt 0 := Int32.toInt_inj.mp hy
          exact ⟨_, H2, rfl, by rw [← ez]; exact d3⟩
        · refine zw_s (pc' := 145) rfl rfl ?_
          refine zw_s (pc' := 149) rfl rfl ?_
          refine zw_rz rfl rfl (by decide) ?_
          have ez : v2 = Int32.ofInt 1 := by
            rcases d3 with ⟨d3, _⟩ | ⟨d3, _⟩
            · exact Int32.toInt_inj.mp d3
            · exact absurd d3 hy
          exact ⟨_, H2, rfl, by rw [← ez]; exact d3⟩
    · have ev : H.2.1 52 5 = Int32.ofInt 15 := Int32.toInt_inj.mp (hv.trans h9)
      rw [ev]
      refine zw_s (pc' := 150) rfl rfl ?_
      refine zw_ld (n := 1) (k := 0) (f := zp_isR) (pc' := 151) rfl rfl rfl rfl rfl ?_
      refine zw_ld (n := 1) (k := 3) (f := zp_isR) (pc' := 152) rfl rfl rfl rfl rfl ?_
      refine zw_gI (q := 33) (pc' := 155) W rfl rfl rfl rfl rfl rfl ?_
      refine zw_s (pc' := 157) rfl rfl ?_
      have hcnt : (H.2.1 33 0).toInt = d.1 4 := hD.2.2.1
      have hmo : (Int32.ofInt 8).toInt = 8 := rfl
      obtain ⟨_, c1, v, H1, rfl, c2, c3⟩ := yc_hc (L := L) (σ := σ) (d := dd + 60) (x := H.2.1 33 0) (y := Int32.ofInt 8) h
      refine zw_c (pc' := 160) (zw_cv (q := 51) (Y := zm_68) W.1 rfl rfl zm_68_t rfl rfl) rfl rfl rfl rfl rfl (c1) ?_
      refine zw_beq1 (g := 176) (pc' := 163) rfl rfl rfl rfl (fun hz => ?_) (fun hz => ?_)
      · refine zw_s (pc' := 177) rfl rfl ?_
        refine zw_rz rfl rfl (by decide) ?_
        rcases c3 with ⟨k1, _⟩ | ⟨_, k2, k3, k4⟩
        · omega
        · exact yRL_0 k4 k3 (yA2_done ((yN2_0.trans (y0_15 hk h9)).trans (if_neg (by omega)))) (show 1 ≤ (2 : Int) ∧ (2 : Int) ≤ 5 from by decide)
      · rcases c3 with ⟨_, k2, k3⟩ | ⟨k1, _⟩
        rotate_left
        · omega
        have W1 := zB_Wd k3.1.1
        have hD1 : yDd 2 33 d H1 := yDd_F hwc c2 rfl rfl ⟨hD, hX⟩
        obtain ⟨_, d1, d2⟩ := yc_slate2_33 (L := L) (σ := σ) (dd := dd + 59) (by omega) k3 hD1
        have d2 := yRL_R (s := (0, [], 0, 0, 0, d, p)) (yR2_s ((yN2_0.trans (y0_15 hk h9)).trans (if_pos (by omega)))) d2 (ys_le1 h.2.2)
        obtain ⟨v2, H2, rfl, d3⟩ := d2
        refine zw_ld (n := 1) (k := 0) (f := zp_isR) (pc' := 164) rfl rfl rfl rfl rfl ?_
        refine zw_ld (n := 1) (k := 2) (f := zp_isR) (pc' := 165) rfl rfl rfl rfl rfl ?_
        refine zw_ld (n := 1) (k := 3) (f := zp_isR) (pc' := 166) rfl rfl rfl rfl rfl ?_
        refine zw_c (pc' := 169) (zw_cv (q := 51) (Y := zm_76) W1.1 rfl rfl zm_76_t rfl rfl) rfl rfl rfl rfl rfl (d1) ?_
        refine zw_beq1 (g := 176) (pc' := 172) rfl rfl rfl rfl (fun hy => ?_) (fun hy => ?_)
        · refine zw_s (pc' := 177) rfl rfl ?_
          refine zw_rz rfl rfl (by decide) ?_
          have ez : v2 = Int32.ofInt 0 := Int32.toInt_inj.mp hy
          exact ⟨_, H2, rfl, by rw [← ez]; exact d3⟩
        · refine zw_s (pc' := 173) rfl rfl ?_
          refine zw_s (pc' := 177) rfl rfl ?_
          refine zw_rz rfl rfl (by decide) ?_
          have ez : v2 = Int32.ofInt 1 := by
            rcases d3 with ⟨d3, _⟩ | ⟨d3, _⟩
            · exact Int32.toInt_inj.mp d3
            · exact absurd d3 hy
          exact ⟨_, H2, rfl, by rw [← ez]; exact d3⟩
    · have ev : H.2.1 52 5 = Int32.ofInt 16 := Int32.toInt_inj.mp (hv.trans h9)
      rw [ev]
      refine zw_s (pc' := 178) rfl rfl ?_
      refine zw_ld (n := 1) (k := 0) (f := zp_isR) (pc' := 179) rfl rfl rfl rfl rfl ?_
      refine zw_ld (n := 1) (k := 2) (f := zp_isR) (pc' := 180) rfl rfl rfl rfl rfl ?_
      refine zw_gI (q := 2) (pc' := 183) W rfl rfl rfl rfl rfl rfl ?_
      refine zw_s (pc' := 184) rfl rfl ?_
      have hcnt : (H.2.1 2 7).toInt = d.1 5 := hD.2.2.2.1
      have hmo : (Int32.ofInt 5).toInt = 5 := rfl
      obtain ⟨_, c1, v, H1, rfl, c2, c3⟩ := yc_hc (L := L) (σ := σ) (d := dd + 60) (x := H.2.1 2 7) (y := Int32.ofInt 5) h
      refine zw_c (pc' := 187) (zw_cv (q := 51) (Y := zm_68) W.1 rfl rfl zm_68_t rfl rfl) rfl rfl rfl rfl rfl (c1) ?_
      refine zw_beq1 (g := 202) (pc' := 190) rfl rfl rfl rfl (fun hz => ?_) (fun hz => ?_)
      · refine zw_s (pc' := 203) rfl rfl ?_
        refine zw_rz rfl rfl (by decide) ?_
        rcases c3 with ⟨k1, _⟩ | ⟨_, k2, k3, k4⟩
        · omega
        · exact yRL_0 k4 k3 (yA2_done ((yN2_0.trans (y0_16 hk h9)).trans (if_neg (by omega)))) (show 1 ≤ (2 : Int) ∧ (2 : Int) ≤ 5 from by decide)
      · rcases c3 with ⟨_, k2, k3⟩ | ⟨k1, _⟩
        rotate_left
        · omega
        have W1 := zB_Wd k3.1.1
        have hD1 : yDd 2 33 d H1 := yDd_F hwc c2 rfl rfl ⟨hD, hX⟩
        obtain ⟨_, d1, d2⟩ := yc_hand2 (L := L) (σ := σ) (dd := dd + 59) (cp := 33) (Or.inr rfl) (by omega) k3 hD1
        have d2 := yRL_R (s := (0, [], 0, 0, 0, d, p)) (yR2_s ((yN2_0.trans (y0_16 hk h9)).trans (if_pos (by omega)))) d2 (ys_le1 h.2.2)
        obtain ⟨v2, H2, rfl, d3⟩ := d2
        refine zw_ld (n := 1) (k := 0) (f := zp_isR) (pc' := 191) rfl rfl rfl rfl rfl ?_
        refine zw_ld (n := 1) (k := 2) (f := zp_isR) (pc' := 192) rfl rfl rfl rfl rfl ?_
        refine zw_c (pc' := 195) (zw_cv (q := 51) (Y := zm_79) W1.1 rfl rfl zm_79_t rfl rfl) rfl rfl rfl rfl rfl (d1) ?_
        refine zw_beq1 (g := 202) (pc' := 198) rfl rfl rfl rfl (fun hy => ?_) (fun hy => ?_)
        · refine zw_s (pc' := 203) rfl rfl ?_
          refine zw_rz rfl rfl (by decide) ?_
          have ez : v2 = Int32.ofInt 0 := Int32.toInt_inj.mp hy
          exact ⟨_, H2, rfl, by rw [← ez]; exact d3⟩
        · refine zw_s (pc' := 199) rfl rfl ?_
          refine zw_s (pc' := 203) rfl rfl ?_
          refine zw_rz rfl rfl (by decide) ?_
          have ez : v2 = Int32.ofInt 1 := by
            rcases d3 with ⟨d3, _⟩ | ⟨d3, _⟩
            · exact Int32.toInt_inj.mp d3
            · exact absurd d3 hy
          exact ⟨_, H2, rfl, by rw [← ez]; exact d3⟩
    · have ev : H.2.1 52 5 = Int32.ofInt 17 := Int32.toInt_inj.mp (hv.trans h9)
      rw [ev]
      refine zw_s (pc' := 204) rfl rfl ?_
      refine zw_ld (n := 1) (k := 0) (f := zp_isR) (pc' := 205) rfl rfl rfl rfl rfl ?_
      refine zw_ld (n := 1) (k := 0) (f := zp_isR) (pc' := 206) rfl rfl rfl rfl rfl ?_
      refine zw_gI (q := 51) (pc' := 209) W rfl rfl rfl rfl rfl rfl ?_
      have hs : (H.2.1 51 2).toInt = d.1 8 := hD.2.2.2.2.2.2.1
      refine zw_bne1 (g := 216) (pc' := 212) rfl rfl rfl rfl (fun hfl => ?_) (fun hfl => ?_)
      · obtain ⟨_, c1, v, H1, rfl, c2, c3⟩ := yc_hd (L := L) (σ := σ) (d := dd + 60) (x := Int32.ofInt 0) h
        refine zw_s (pc' := 217) rfl rfl ?_
        refine zw_c (pc' := 220) (zw_cv (q := 51) (Y := zm_63) W.1 rfl rfl zm_63_t rfl rfl) rfl rfl rfl rfl rfl (c1) ?_
        refine zw_beq1 (g := 235) (pc' := 223) rfl rfl rfl rfl (fun hz => ?_) (fun hz => ?_)
        · refine zw_s (pc' := 236) rfl rfl ?_
          refine zw_rz rfl rfl (by decide) ?_
          rcases c3 with ⟨k1, _⟩ | ⟨_, k2, k3, k4⟩
          · omega
          · exact yRL_0 k4 k3 (yA2_done ((yN2_0.trans (y0_17 hk h9)).trans (if_neg (by omega)))) (show 1 ≤ (5 : Int) ∧ (5 : Int) ≤ 5 from by decide)
        · rcases c3 with ⟨_, k2, k3⟩ | ⟨k1, _⟩
          · exact absurd rfl k2
          · omega
      · obtain ⟨_, c1, v, H1, rfl, c2, c3⟩ := yc_hd (L := L) (σ := σ) (d := dd + 60) (x := Int32.ofInt 1) h
        refine zw_s (pc' := 213) rfl rfl ?_
        refine zw_s (pc' := 217) rfl rfl ?_
        refine zw_c (pc' := 220) (zw_cv (q := 51) (Y := zm_63) W.1 rfl rfl zm_63_t rfl rfl) rfl rfl rfl rfl rfl (c1) ?_
        refine zw_beq1 (g := 235) (pc' := 223) rfl rfl rfl rfl (fun hz => ?_) (fun hz => ?_)
        · refine zw_s (pc' := 236) rfl rfl ?_
          refine zw_rz rfl rfl (by decide) ?_
          rcases c3 with ⟨k1, _⟩ | ⟨_, k2, k3, k4⟩
          · omega
          · exact yRL_0 k4 k3 (yA2_done ((yN2_0.trans (y0_17 hk h9)).trans (if_neg (fun _ => k2 (by decide))))) (show 1 ≤ (5 : Int) ∧ (5 : Int) ≤ 5 from by decide)
        · rcases c3 with ⟨_, k2, k3⟩ | ⟨k1, _⟩
          rotate_left
          · omega
          have W1 := zB_Wd k3.1.1
          have hD1 : yDd 2 33 d H1 := yDd_F hwc c2 rfl rfl ⟨hD, hX⟩
          obtain ⟨_, d1, d2⟩ := yc_school2 (L := L) (σ := σ) (dd := dd + 59) (cp := 33) (Or.inr rfl) k3 hD1
          have d2 := yRL_R (s := (0, [], 0, 0, 0, d, p)) (yR2_s ((yN2_0.trans (y0_17 hk h9)).trans (if_pos (by omega)))) d2 (ys_le1 h.2.2)
          obtain ⟨v2, H2, rfl, d3⟩ := d2
          refine zw_ld (n := 1) (k := 0) (f := zp_isR) (pc' := 224) rfl rfl rfl rfl rfl ?_
          refine zw_ld (n := 1) (k := 2) (f := zp_isR) (pc' := 225) rfl rfl rfl rfl rfl ?_
          refine zw_c (pc' := 228) (zw_cv (q := 51) (Y := zm_80) W1.1 rfl rfl zm_80_t rfl rfl) rfl rfl rfl rfl rfl (d1) ?_
          refine zw_beq1 (g := 235) (pc' := 231) rfl rfl rfl rfl (fun hy => ?_) (fun hy => ?_)
          · refine zw_s (pc' := 236) rfl rfl ?_
            refine zw_rz rfl rfl (by decide) ?_
            have ez : v2 = Int32.ofInt 0 := Int32.toInt_inj.mp hy
            exact ⟨_, H2, rfl, by rw [← ez]; exact d3⟩
          · refine zw_s (pc' := 232) rfl rfl ?_
            refine zw_s (pc' := 236) rfl rfl ?_
            refine zw_rz rfl rfl (by decide) ?_
            have ez : v2 = Int32.ofInt 1 := by
              rcases d3 with ⟨d3, _⟩ | ⟨d3, _⟩
              · exact Int32.toInt_inj.mp d3
              · exact absurd d3 hy
            exact ⟨_, H2, rfl, by rw [← ez]; exact d3⟩
    · have ev : H.2.1 52 5 = Int32.ofInt 18 := Int32.toInt_inj.mp (hv.trans h9)
      rw [ev]
      refine zw_s (pc' := 237) rfl rfl ?_
      refine zw_ld (n := 1) (k := 0) (f := zp_isR) (pc' := 238) rfl rfl rfl rfl rfl ?_
      refine zw_ld (n := 1) (k := 0) (f := zp_isR) (pc' := 239) rfl rfl rfl rfl rfl ?_
      refine zw_gI (q := 51) (pc' := 242) W rfl rfl rfl rfl rfl rfl ?_
      have hs : (H.2.1 51 3).toInt = d.1 9 := hD.2.2.2.2.2.2.2.1
      refine zw_bne1 (g := 249) (pc' := 245) rfl rfl rfl rfl (fun hfl => ?_) (fun hfl => ?_)
      · obtain ⟨_, c1, v, H1, rfl, c2, c3⟩ := yc_hd (L := L) (σ := σ) (d := dd + 60) (x := Int32.ofInt 0) h
        refine zw_s (pc' := 250) rfl rfl ?_
        refine zw_c (pc' := 253) (zw_cv (q := 51) (Y := zm_63) W.1 rfl rfl zm_63_t rfl rfl) rfl rfl rfl rfl rfl (c1) ?_
        refine zw_beq1 (g := 268) (pc' := 256) rfl rfl rfl rfl (fun hz => ?_) (fun hz => ?_)
        · refine zw_s (pc' := 269) rfl rfl ?_
          refine zw_rz rfl rfl (by decide) ?_
          rcases c3 with ⟨k1, _⟩ | ⟨_, k2, k3, k4⟩
          · omega
          · exact yRL_0 k4 k3 (yA2_done ((yN2_0.trans (y0_18 hk h9)).trans (if_neg (by omega)))) (show 1 ≤ (5 : Int) ∧ (5 : Int) ≤ 5 from by decide)
        · rcases c3 with ⟨_, k2, k3⟩ | ⟨k1, _⟩
          · exact absurd rfl k2
          · omega
      · obtain ⟨_, c1, v, H1, rfl, c2, c3⟩ := yc_hd (L := L) (σ := σ) (d := dd + 60) (x := Int32.ofInt 1) h
        refine zw_s (pc' := 246) rfl rfl ?_
        refine zw_s (pc' := 250) rfl rfl ?_
        refine zw_c (pc' := 253) (zw_cv (q := 51) (Y := zm_63) W.1 rfl rfl zm_63_t rfl rfl) rfl rfl rfl rfl rfl (c1) ?_
        refine zw_beq1 (g := 268) (pc' := 256) rfl rfl rfl rfl (fun hz => ?_) (fun hz => ?_)
        · refine zw_s (pc' := 269) rfl rfl ?_
          refine zw_rz rfl rfl (by decide) ?_
          rcases c3 with ⟨k1, _⟩ | ⟨_, k2, k3, k4⟩
          · omega
          · exact yRL_0 k4 k3 (yA2_done ((yN2_0.trans (y0_18 hk h9)).trans (if_neg (fun _ => k2 (by decide))))) (show 1 ≤ (5 : Int) ∧ (5 : Int) ≤ 5 from by decide)
        · rcases c3 with ⟨_, k2, k3⟩ | ⟨k1, _⟩
          rotate_left
          · omega
          have W1 := zB_Wd k3.1.1
          have hD1 : yDd 2 33 d H1 := yDd_F hwc c2 rfl rfl ⟨hD, hX⟩
          obtain ⟨_, d1, d2⟩ := yc_goal2 (L := L) (σ := σ) (dd := dd + 59) (cp := 33) (Or.inr rfl) k3 hD1
          have d2 := yRL_R (s := (0, [], 0, 0, 0, d, p)) (yR2_s ((yN2_0.trans (y0_18 hk h9)).trans (if_pos (by omega)))) d2 (ys_le1 h.2.2)
          obtain ⟨v2, H2, rfl, d3⟩ := d2
          refine zw_ld (n := 1) (k := 0) (f := zp_isR) (pc' := 257) rfl rfl rfl rfl rfl ?_
          refine zw_ld (n := 1) (k := 2) (f := zp_isR) (pc' := 258) rfl rfl rfl rfl rfl ?_
          refine zw_c (pc' := 261) (zw_cv (q := 51) (Y := zm_81) W1.1 rfl rfl zm_81_t rfl rfl) rfl rfl rfl rfl rfl (d1) ?_
          refine zw_beq1 (g := 268) (pc' := 264) rfl rfl rfl rfl (fun hy => ?_) (fun hy => ?_)
          · refine zw_s (pc' := 269) rfl rfl ?_
            refine zw_rz rfl rfl (by decide) ?_
            have ez : v2 = Int32.ofInt 0 := Int32.toInt_inj.mp hy
            exact ⟨_, H2, rfl, by rw [← ez]; exact d3⟩
          · refine zw_s (pc' := 265) rfl rfl ?_
            refine zw_s (pc' := 269) rfl rfl ?_
            refine zw_rz rfl rfl (by decide) ?_
            have ez : v2 = Int32.ofInt 1 := by
              rcases d3 with ⟨d3, _⟩ | ⟨d3, _⟩
              · exact Int32.toInt_inj.mp d3
              · exact absurd d3 hy
            exact ⟨_, H2, rfl, by rw [← ez]; exact d3⟩
    · have ev : H.2.1 52 5 = Int32.ofInt 19 := Int32.toInt_inj.mp (hv.trans h9)
      rw [ev]
      refine zw_s (pc' := 270) rfl rfl ?_
      refine zw_ld (n := 1) (k := 0) (f := zp_isR) (pc' := 271) rfl rfl rfl rfl rfl ?_
      refine zw_ld (n := 1) (k := 2) (f := zp_isR) (pc' := 272) rfl rfl rfl rfl rfl ?_
      refine zw_gI (q := 2) (pc' := 275) W rfl rfl rfl rfl rfl rfl ?_
      refine zw_s (pc' := 276) rfl rfl ?_
      have hcnt : (H.2.1 2 12).toInt = d.1 6 := hD.2.2.2.2.1
      have hmo : (Int32.ofInt 4).toInt = 4 := rfl
      obtain ⟨_, c1, v, H1, rfl, c2, c3⟩ := yc_hc (L := L) (σ := σ) (d := dd + 60) (x := H.2.1 2 12) (y := Int32.ofInt 4) h
      refine zw_c (pc' := 279) (zw_cv (q := 51) (Y := zm_68) W.1 rfl rfl zm_68_t rfl rfl) rfl rfl rfl rfl rfl (c1) ?_
      refine zw_beq1 (g := 295) (pc' := 282) rfl rfl rfl rfl (fun hz => ?_) (fun hz => ?_)
      · refine zw_s (pc' := 296) rfl rfl ?_
        refine zw_rz rfl rfl (by decide) ?_
        rcases c3 with ⟨k1, _⟩ | ⟨_, k2, k3, k4⟩
        · omega
        · exact yRL_0 k4 k3 (yA2_done ((yN2_0.trans (y0_19 hk h9)).trans (if_neg (by omega)))) (show 1 ≤ (2 : Int) ∧ (2 : Int) ≤ 5 from by decide)
      · rcases c3 with ⟨_, k2, k3⟩ | ⟨k1, _⟩
        rotate_left
        · omega
        have W1 := zB_Wd k3.1.1
        have hD1 : yDd 2 33 d H1 := yDd_F hwc c2 rfl rfl ⟨hD, hX⟩
        obtain ⟨_, d1, d2⟩ := yc_pilot2_33 (L := L) (σ := σ) (dd := dd + 59) (by omega) k3 hD1
        have d2 := yRL_R (s := (0, [], 0, 0, 0, d, p)) (yR2_s ((yN2_0.trans (y0_19 hk h9)).trans (if_pos (by omega)))) d2 (ys_le1 h.2.2)
        obtain ⟨v2, H2, rfl, d3⟩ := d2
        refine zw_ld (n := 1) (k := 0) (f := zp_isR) (pc' := 283) rfl rfl rfl rfl rfl ?_
        refine zw_ld (n := 1) (k := 2) (f := zp_isR) (pc' := 284) rfl rfl rfl rfl rfl ?_
        refine zw_ld (n := 1) (k := 3) (f := zp_isR) (pc' := 285) rfl rfl rfl rfl rfl ?_
        refine zw_c (pc' := 288) (zw_cv (q := 51) (Y := zm_82) W1.1 rfl rfl zm_82_t rfl rfl) rfl rfl rfl rfl rfl (d1) ?_
        refine zw_beq1 (g := 295) (pc' := 291) rfl rfl rfl rfl (fun hy => ?_) (fun hy => ?_)
        · refine zw_s (pc' := 296) rfl rfl ?_
          refine zw_rz rfl rfl (by decide) ?_
          have ez : v2 = Int32.ofInt 0 := Int32.toInt_inj.mp hy
          exact ⟨_, H2, rfl, by rw [← ez]; exact d3⟩
        · refine zw_s (pc' := 292) rfl rfl ?_
          refine zw_s (pc' := 296) rfl rfl ?_
          refine zw_rz rfl rfl (by decide) ?_
          have ez : v2 = Int32.ofInt 1 := by
            rcases d3 with ⟨d3, _⟩ | ⟨d3, _⟩
            · exact Int32.toInt_inj.mp d3
            · exact absurd d3 hy
          exact ⟨_, H2, rfl, by rw [← ez]; exact d3⟩
    · have ev : H.2.1 52 5 = Int32.ofInt 20 := Int32.toInt_inj.mp (hv.trans h9)
      rw [ev]
      refine zw_s (pc' := 297) rfl rfl ?_
      refine zw_ld (n := 1) (k := 0) (f := zp_isR) (pc' := 298) rfl rfl rfl rfl rfl ?_
      refine zw_ld (n := 1) (k := 2) (f := zp_isR) (pc' := 299) rfl rfl rfl rfl rfl ?_
      refine zw_gI (q := 2) (pc' := 302) W rfl rfl rfl rfl rfl rfl ?_
      refine zw_s (pc' := 304) rfl rfl ?_
      have hcnt : (H.2.1 2 16).toInt = d.1 7 := hD.2.2.2.2.2.1
      have hmo : (Int32.ofInt 8).toInt = 8 := rfl
      obtain ⟨_, c1, v, H1, rfl, c2, c3⟩ := yc_hc (L := L) (σ := σ) (d := dd + 60) (x := H.2.1 2 16) (y := Int32.ofInt 8) h
      refine zw_c (pc' := 307) (zw_cv (q := 51) (Y := zm_68) W.1 rfl rfl zm_68_t rfl rfl) rfl rfl rfl rfl rfl (c1) ?_
      refine zw_beq1 (g := 322) (pc' := 310) rfl rfl rfl rfl (fun hz => ?_) (fun hz => ?_)
      · refine zw_s (pc' := 323) rfl rfl ?_
        refine zw_rz rfl rfl (by decide) ?_
        rcases c3 with ⟨k1, _⟩ | ⟨_, k2, k3, k4⟩
        · omega
        · exact yRL_0 k4 k3 (yA2_done ((yN2_0.trans (y0_20 hk h9)).trans (if_neg (by omega)))) (show 1 ≤ (2 : Int) ∧ (2 : Int) ≤ 5 from by decide)
      · rcases c3 with ⟨_, k2, k3⟩ | ⟨k1, _⟩
        rotate_left
        · omega
        have W1 := zB_Wd k3.1.1
        have hD1 : yDd 2 33 d H1 := yDd_F hwc c2 rfl rfl ⟨hD, hX⟩
        obtain ⟨_, d1, d2⟩ := yc_rule2 (L := L) (σ := σ) (dd := dd + 1) (cp := 33) (Or.inr rfl) k3 hD1 (by omega)
        have d2 := yRL_R (s := (0, [], 0, 0, 0, d, p)) (yR2_s ((yN2_0.trans (y0_20 hk h9)).trans (if_pos (by omega)))) d2 (ys_le1 h.2.2)
        obtain ⟨v2, H2, rfl, d3⟩ := d2
        refine zw_ld (n := 1) (k := 0) (f := zp_isR) (pc' := 311) rfl rfl rfl rfl rfl ?_
        refine zw_ld (n := 1) (k := 2) (f := zp_isR) (pc' := 312) rfl rfl rfl rfl rfl ?_
        refine zw_c (pc' := 315) (zw_cv (q := 51) (Y := zm_84) W1.1 rfl rfl zm_84_t rfl rfl) rfl rfl rfl rfl rfl (d1) ?_
        refine zw_beq1 (g := 322) (pc' := 318) rfl rfl rfl rfl (fun hy => ?_) (fun hy => ?_)
        · refine zw_s (pc' := 323) rfl rfl ?_
          refine zw_rz rfl rfl (by decide) ?_
          have ez : v2 = Int32.ofInt 0 := Int32.toInt_inj.mp hy
          exact ⟨_, H2, rfl, by rw [← ez]; exact d3⟩
        · refine zw_s (pc' := 319) rfl rfl ?_
          refine zw_s (pc' := 323) rfl rfl ?_
          refine zw_rz rfl rfl (by decide) ?_
          have ez : v2 = Int32.ofInt 1 := by
            rcases d3 with ⟨d3, _⟩ | ⟨d3, _⟩
            · exact Int32.toInt_inj.mp d3
            · exact absurd d3 hy
          exact ⟨_, H2, rfl, by rw [← ez]; exact d3⟩
    · have ev : H.2.1 52 5 = Int32.ofInt 21 := Int32.toInt_inj.mp (hv.trans h9)
      rw [ev]
      refine zw_s (pc' := 324) rfl rfl ?_
      refine zw_ld (n := 1) (k := 0) (f := zp_isR) (pc' := 325) rfl rfl rfl rfl rfl ?_
      refine zw_s (pc' := 326) rfl rfl ?_
      obtain ⟨K, e1, e2, e3, e4⟩ := yc_ref (L := L) (σ := σ) (d := dd + 63) (x := Int32.ofInt 1) h
      refine zw_c (pc' := 329) (zw_cv (q := 51) (Y := zm_62) W.1 rfl rfl zm_62_t rfl rfl) rfl rfl rfl rfl rfl (e1) ?_
      refine zw_rz rfl rfl (by decide) ?_
      exact yRL_0 e2 e4 (yA2_done (yN2_0.trans (y0_x hk (by omega)))) (show 1 ≤ (1 : Int) ∧ (1 : Int) ≤ 5 from by decide)
  · have hk3 : ys_kd T n p ≠ 3 := by omega
    refine zw_ld (n := 1) (k := 0) (f := zp_isR) (pc' := 12) rfl rfl rfl rfl rfl ?_
    refine zw_s (pc' := 13) rfl rfl ?_
    obtain ⟨K, e1, e2, e3, e4⟩ := yc_ref (L := L) (σ := σ) (d := dd + 63) (x := Int32.ofInt 1) h
    refine zw_c (pc' := 16) (zw_cv (q := 51) (Y := zm_62) W.1 rfl rfl zm_62_t rfl rfl) rfl rfl rfl rfl rfl (e1) ?_
    refine zw_rz rfl rfl (by decide) ?_
    exact yRL_0 e2 e4 (yA2_done (yN2_0.trans (y0_n hk3 h0))) (show 1 ≤ (1 : Int) ∧ (1 : Int) ≤ 5 from by decide)

set_option maxHeartbeats 4000000 in
set_option maxRecDepth 8000 in
theorem yc_line22_13 {L : Nat} {σ : Nat → Int32} {dd : Nat} {T : Nat → Int} {n p : Nat} {d : yLD} {H : zp_H} {f : Int32} (hf : f.toInt = d.1 0) (hbu : yBCu) (h0 : ys_kd T n p ≠ 0) (h : yE T n p H) (hDd : yDd 22 13 d H) : ∃ X, zp_Call L σ (dd + 65) 61 [.inr (.inr (some 52)), .inl f, .inr (.inr (some 23)), .inr (.inr (some 14))] H X ∧ yRL T n 22 13 (0, [], 0, 0, 0, d, p) X := by
  obtain ⟨hD, hX⟩ := hDd
  have hwc : yWC 22 13 := ⟨by decide, by decide⟩
  have W := zB_Wd h.1.1
  have h4 := yE_4 h
  have h5 : ys_kd T n p ≠ 0 → _ := yE_5 h
  refine zw_met zm_61_t rfl rfl ?_
  refine zw_ld (n := 1) (k := 0) (f := zp_isR) (pc' := 1) rfl rfl rfl rfl rfl ?_
  refine zw_gR (q := 51) (pc' := 4) W rfl rfl rfl rfl (W.2 51 0 _ rfl) rfl ?_
  refine zw_gI (q := 52) (pc' := 7) W rfl rfl rfl rfl rfl rfl ?_
  refine zw_s (pc' := 8) rfl rfl ?_
  refine zw_beq2 (g := 17) (pc' := 11) rfl rfl rfl rfl (rfl : _ = (3 : Int)) (fun h1 => ?_) (fun h1 => ?_)
  · have hk : ys_kd T n p = 3 := by omega
    have hv := h5 (by omega)
    have hvb := ys_vl_b hk
    refine zw_ld (n := 1) (k := 0) (f := zp_isR) (pc' := 18) rfl rfl rfl rfl rfl ?_
    refine zw_gR (q := 51) (pc' := 21) W rfl rfl rfl rfl (W.2 51 0 _ rfl) rfl ?_
    refine zw_gI (q := 52) (pc' := 24) W rfl rfl rfl rfl rfl rfl ?_
    rcases (show ys_vl T n p = 0 ∨ ys_vl T n p = 1 ∨ ys_vl T n p = 2 ∨ ys_vl T n p = 3 ∨ ys_vl T n p = 4 ∨ ys_vl T n p = 5 ∨ ys_vl T n p = 6 ∨ ys_vl T n p = 7 ∨ ys_vl T n p = 8 ∨ ys_vl T n p = 9 ∨ ys_vl T n p = 10 ∨ ys_vl T n p = 11 ∨ ys_vl T n p = 12 ∨ ys_vl T n p = 13 ∨ ys_vl T n p = 14 ∨ ys_vl T n p = 15 ∨ ys_vl T n p = 16 ∨ ys_vl T n p = 17 ∨ ys_vl T n p = 18 ∨ ys_vl T n p = 19 ∨ ys_vl T n p = 20 ∨ ys_vl T n p = 21 by omega) with h9 | h9 | h9 | h9 | h9 | h9 | h9 | h9 | h9 | h9 | h9 | h9 | h9 | h9 | h9 | h9 | h9 | h9 | h9 | h9 | h9 | h9
    · have ev : H.2.1 52 5 = Int32.ofInt 0 := Int32.toInt_inj.mp (hv.trans h9)
      rw [ev]
      refine zw_s (pc' := 324) rfl rfl ?_
      refine zw_ld (n := 1) (k := 0) (f := zp_isR) (pc' := 325) rfl rfl rfl rfl rfl ?_
      refine zw_s (pc' := 326) rfl rfl ?_
      obtain ⟨K, e1, e2, e3, e4⟩ := yc_ref (L := L) (σ := σ) (d := dd + 63) (x := Int32.ofInt 1) h
      refine zw_c (pc' := 329) (zw_cv (q := 51) (Y := zm_62) W.1 rfl rfl zm_62_t rfl rfl) rfl rfl rfl rfl rfl (e1) ?_
      refine zw_rz rfl rfl (by decide) ?_
      exact yRL_0 e2 e4 (yA2_done (yN2_0.trans (y0_x hk (by omega)))) (show 1 ≤ (1 : Int) ∧ (1 : Int) ≤ 5 from by decide)
    · have ev : H.2.1 52 5 = Int32.ofInt 1 := Int32.toInt_inj.mp (hv.trans h9)
      rw [ev]
      refine zw_s (pc' := 324) rfl rfl ?_
      refine zw_ld (n := 1) (k := 0) (f := zp_isR) (pc' := 325) rfl rfl rfl rfl rfl ?_
      refine zw_s (pc' := 326) rfl rfl ?_
      obtain ⟨K, e1, e2, e3, e4⟩ := yc_ref (L := L) (σ := σ) (d := dd + 63) (x := Int32.ofInt 1) h
      refine zw_c (pc' := 329) (zw_cv (q := 51) (Y := zm_62) W.1 rfl rfl zm_62_t rfl rfl) rfl rfl rfl rfl rfl (e1) ?_
      refine zw_rz rfl rfl (by decide) ?_
      exact yRL_0 e2 e4 (yA2_done (yN2_0.trans (y0_x hk (by omega)))) (show 1 ≤ (1 : Int) ∧ (1 : Int) ≤ 5 from by decide)
    · have ev : H.2.1 52 5 = Int32.ofInt 2 := Int32.toInt_inj.mp (hv.trans h9)
      rw [ev]
      refine zw_s (pc' := 324) rfl rfl ?_
      refine zw_ld (n := 1) (k := 0) (f := zp_isR) (pc' := 325) rfl rfl rfl rfl rfl ?_
      refine zw_s (pc' := 326) rfl rfl ?_
      obtain ⟨K, e1, e2, e3, e4⟩ := yc_ref (L := L) (σ := σ) (d := dd + 63) (x := Int32.ofInt 1) h
      refine zw_c (pc' := 329) (zw_cv (q := 51) (Y := zm_62) W.1 rfl rfl zm_62_t rfl rfl) rfl rfl rfl rfl rfl (e1) ?_
      refine zw_rz rfl rfl (by decide) ?_
      exact yRL_0 e2 e4 (yA2_done (yN2_0.trans (y0_x hk (by omega)))) (show 1 ≤ (1 : Int) ∧ (1 : Int) ≤ 5 from by decide)
    · have ev : H.2.1 52 5 = Int32.ofInt 3 := Int32.toInt_inj.mp (hv.trans h9)
      rw [ev]
      refine zw_s (pc' := 324) rfl rfl ?_
      refine zw_ld (n := 1) (k := 0) (f := zp_isR) (pc' := 325) rfl rfl rfl rfl rfl ?_
      refine zw_s (pc' := 326) rfl rfl ?_
      obtain ⟨K, e1, e2, e3, e4⟩ := yc_ref (L := L) (σ := σ) (d := dd + 63) (x := Int32.ofInt 1) h
      refine zw_c (pc' := 329) (zw_cv (q := 51) (Y := zm_62) W.1 rfl rfl zm_62_t rfl rfl) rfl rfl rfl rfl rfl (e1) ?_
      refine zw_rz rfl rfl (by decide) ?_
      exact yRL_0 e2 e4 (yA2_done (yN2_0.trans (y0_x hk (by omega)))) (show 1 ≤ (1 : Int) ∧ (1 : Int) ≤ 5 from by decide)
    · have ev : H.2.1 52 5 = Int32.ofInt 4 := Int32.toInt_inj.mp (hv.trans h9)
      rw [ev]
      refine zw_s (pc' := 324) rfl rfl ?_
      refine zw_ld (n := 1) (k := 0) (f := zp_isR) (pc' := 325) rfl rfl rfl rfl rfl ?_
      refine zw_s (pc' := 326) rfl rfl ?_
      obtain ⟨K, e1, e2, e3, e4⟩ := yc_ref (L := L) (σ := σ) (d := dd + 63) (x := Int32.ofInt 1) h
      refine zw_c (pc' := 329) (zw_cv (q := 51) (Y := zm_62) W.1 rfl rfl zm_62_t rfl rfl) rfl rfl rfl rfl rfl (e1) ?_
      refine zw_rz rfl rfl (by decide) ?_
      exact yRL_0 e2 e4 (yA2_done (yN2_0.trans (y0_x hk (by omega)))) (show 1 ≤ (1 : Int) ∧ (1 : Int) ≤ 5 from by decide)
    · have ev : H.2.1 52 5 = Int32.ofInt 5 := Int32.toInt_inj.mp (hv.trans h9)
      rw [ev]
      refine zw_s (pc' := 324) rfl rfl ?_
      refine zw_ld (n := 1) (k := 0) (f := zp_isR) (pc' := 325) rfl rfl rfl rfl rfl ?_
      refine zw_s (pc' := 326) rfl rfl ?_
      obtain ⟨K, e1, e2, e3, e4⟩ := yc_ref (L := L) (σ := σ) (d := dd + 63) (x := Int32.ofInt 1) h
      refine zw_c (pc' := 329) (zw_cv (q := 51) (Y := zm_62) W.1 rfl rfl zm_62_t rfl rfl) rfl rfl rfl rfl rfl (e1) ?_
      refine zw_rz rfl rfl (by decide) ?_
      exact yRL_0 e2 e4 (yA2_done (yN2_0.trans (y0_x hk (by omega)))) (show 1 ≤ (1 : Int) ∧ (1 : Int) ≤ 5 from by decide)
    · have ev : H.2.1 52 5 = Int32.ofInt 6 := Int32.toInt_inj.mp (hv.trans h9)
      rw [ev]
      refine zw_s (pc' := 324) rfl rfl ?_
      refine zw_ld (n := 1) (k := 0) (f := zp_isR) (pc' := 325) rfl rfl rfl rfl rfl ?_
      refine zw_s (pc' := 326) rfl rfl ?_
      obtain ⟨K, e1, e2, e3, e4⟩ := yc_ref (L := L) (σ := σ) (d := dd + 63) (x := Int32.ofInt 1) h
      refine zw_c (pc' := 329) (zw_cv (q := 51) (Y := zm_62) W.1 rfl rfl zm_62_t rfl rfl) rfl rfl rfl rfl rfl (e1) ?_
      refine zw_rz rfl rfl (by decide) ?_
      exact yRL_0 e2 e4 (yA2_done (yN2_0.trans (y0_x hk (by omega)))) (show 1 ≤ (1 : Int) ∧ (1 : Int) ≤ 5 from by decide)
    · have ev : H.2.1 52 5 = Int32.ofInt 7 := Int32.toInt_inj.mp (hv.trans h9)
      rw [ev]
      refine zw_s (pc' := 324) rfl rfl ?_
      refine zw_ld (n := 1) (k := 0) (f := zp_isR) (pc' := 325) rfl rfl rfl rfl rfl ?_
      refine zw_s (pc' := 326) rfl rfl ?_
      obtain ⟨K, e1, e2, e3, e4⟩ := yc_ref (L := L) (σ := σ) (d := dd + 63) (x := Int32.ofInt 1) h
      refine zw_c (pc' := 329) (zw_cv (q := 51) (Y := zm_62) W.1 rfl rfl zm_62_t rfl rfl) rfl rfl rfl rfl rfl (e1) ?_
      refine zw_rz rfl rfl (by decide) ?_
      exact yRL_0 e2 e4 (yA2_done (yN2_0.trans (y0_x hk (by omega)))) (show 1 ≤ (1 : Int) ∧ (1 : Int) ≤ 5 from by decide)
    · have ev : H.2.1 52 5 = Int32.ofInt 8 := Int32.toInt_inj.mp (hv.trans h9)
      rw [ev]
      refine zw_s (pc' := 324) rfl rfl ?_
      refine zw_ld (n := 1) (k := 0) (f := zp_isR) (pc' := 325) rfl rfl rfl rfl rfl ?_
      refine zw_s (pc' := 326) rfl rfl ?_
      obtain ⟨K, e1, e2, e3, e4⟩ := yc_ref (L := L) (σ := σ) (d := dd + 63) (x := Int32.ofInt 1) h
      refine zw_c (pc' := 329) (zw_cv (q := 51) (Y := zm_62) W.1 rfl rfl zm_62_t rfl rfl) rfl rfl rfl rfl rfl (e1) ?_
      refine zw_rz rfl rfl (by decide) ?_
      exact yRL_0 e2 e4 (yA2_done (yN2_0.trans (y0_x hk (by omega)))) (show 1 ≤ (1 : Int) ∧ (1 : Int) ≤ 5 from by decide)
    · have ev : H.2.1 52 5 = Int32.ofInt 9 := Int32.toInt_inj.mp (hv.trans h9)
      rw [ev]
      refine zw_s (pc' := 324) rfl rfl ?_
      refine zw_ld (n := 1) (k := 0) (f := zp_isR) (pc' := 325) rfl rfl rfl rfl rfl ?_
      refine zw_s (pc' := 326) rfl rfl ?_
      obtain ⟨K, e1, e2, e3, e4⟩ := yc_ref (L := L) (σ := σ) (d := dd + 63) (x := Int32.ofInt 1) h
      refine zw_c (pc' := 329) (zw_cv (q := 51) (Y := zm_62) W.1 rfl rfl zm_62_t rfl rfl) rfl rfl rfl rfl rfl (e1) ?_
      refine zw_rz rfl rfl (by decide) ?_
      exact yRL_0 e2 e4 (yA2_done (yN2_0.trans (y0_x hk (by omega)))) (show 1 ≤ (1 : Int) ∧ (1 : Int) ≤ 5 from by decide)
    · have ev : H.2.1 52 5 = Int32.ofInt 10 := Int32.toInt_inj.mp (hv.trans h9)
      rw [ev]
      refine zw_s (pc' := 324) rfl rfl ?_
      refine zw_ld (n := 1) (k := 0) (f := zp_isR) (pc' := 325) rfl rfl rfl rfl rfl ?_
      refine zw_s (pc' := 326) rfl rfl ?_
      obtain ⟨K, e1, e2, e3, e4⟩ := yc_ref (L := L) (σ := σ) (d := dd + 63) (x := Int32.ofInt 1) h
      refine zw_c (pc' := 329) (zw_cv (q := 51) (Y := zm_62) W.1 rfl rfl zm_62_t rfl rfl) rfl rfl rfl rfl rfl (e1) ?_
      refine zw_rz rfl rfl (by decide) ?_
      exact yRL_0 e2 e4 (yA2_done (yN2_0.trans (y0_x hk (by omega)))) (show 1 ≤ (1 : Int) ∧ (1 : Int) ≤ 5 from by decide)
    · have ev : H.2.1 52 5 = Int32.ofInt 11 := Int32.toInt_inj.mp (hv.trans h9)
      rw [ev]
      refine zw_s (pc' := 324) rfl rfl ?_
      refine zw_ld (n := 1) (k := 0) (f := zp_isR) (pc' := 325) rfl rfl rfl rfl rfl ?_
      refine zw_s (pc' := 326) rfl rfl ?_
      obtain ⟨K, e1, e2, e3, e4⟩ := yc_ref (L := L) (σ := σ) (d := dd + 63) (x := Int32.ofInt 1) h
      refine zw_c (pc' := 329) (zw_cv (q := 51) (Y := zm_62) W.1 rfl rfl zm_62_t rfl rfl) rfl rfl rfl rfl rfl (e1) ?_
      refine zw_rz rfl rfl (by decide) ?_
      exact yRL_0 e2 e4 (yA2_done (yN2_0.trans (y0_x hk (by omega)))) (show 1 ≤ (1 : Int) ∧ (1 : Int) ≤ 5 from by decide)
    · have ev : H.2.1 52 5 = Int32.ofInt 12 := Int32.toInt_inj.mp (hv.trans h9)
      rw [ev]
      refine zw_s (pc' := 76) rfl rfl ?_
      refine zw_ld (n := 1) (k := 0) (f := zp_isR) (pc' := 77) rfl rfl rfl rfl rfl ?_
      refine zw_ld (n := 1) (k := 1) (f := zp_isI) (pc' := 78) rfl rfl rfl rfl rfl ?_
      obtain ⟨_, c1, v, H1, rfl, c2, c3⟩ := yc_hd (L := L) (σ := σ) (d := dd + 60) (x := f) h
      refine zw_c (pc' := 81) (zw_cv (q := 51) (Y := zm_63) W.1 rfl rfl zm_63_t rfl rfl) rfl rfl rfl rfl rfl (c1) ?_
      refine zw_beq1 (g := 96) (pc' := 84) rfl rfl rfl rfl (fun hz => ?_) (fun hz => ?_)
      · refine zw_s (pc' := 97) rfl rfl ?_
        refine zw_rz rfl rfl (by decide) ?_
        rcases c3 with ⟨k1, _⟩ | ⟨_, k2, k3, k4⟩
        · omega
        · exact yRL_0 k4 k3 (yA2_done ((yN2_0.trans (y0_12 hk h9)).trans (if_neg (by omega)))) (show 1 ≤ (5 : Int) ∧ (5 : Int) ≤ 5 from by decide)
      · rcases c3 with ⟨_, k2, k3⟩ | ⟨k1, _⟩
        rotate_left
        · omega
        have W1 := zB_Wd k3.1.1
        have hD1 : yDd 22 13 d H1 := yDd_F hwc c2 rfl rfl ⟨hD, hX⟩
        obtain ⟨_, d1, d2⟩ := yc_size22 (L := L) (σ := σ) (dd := dd + 59) (cp := 13) (Or.inl rfl) k3 hD1
        have d2 := yRL_R (s := (0, [], 0, 0, 0, d, p)) (yR2_s ((yN2_0.trans (y0_12 hk h9)).trans (if_pos (by omega)))) d2 (ys_le1 h.2.2)
        obtain ⟨v2, H2, rfl, d3⟩ := d2
        refine zw_ld (n := 1) (k := 0) (f := zp_isR) (pc' := 85) rfl rfl rfl rfl rfl ?_
        refine zw_ld (n := 1) (k := 2) (f := zp_isR) (pc' := 86) rfl rfl rfl rfl rfl ?_
        refine zw_c (pc' := 89) (zw_cv (q := 51) (Y := zm_64) W1.1 rfl rfl zm_64_t rfl rfl) rfl rfl rfl rfl rfl (d1) ?_
        refine zw_beq1 (g := 96) (pc' := 92) rfl rfl rfl rfl (fun hy => ?_) (fun hy => ?_)
        · refine zw_s (pc' := 97) rfl rfl ?_
          refine zw_rz rfl rfl (by decide) ?_
          have ez : v2 = Int32.ofInt 0 := Int32.toInt_inj.mp hy
          exact ⟨_, H2, rfl, by rw [← ez]; exact d3⟩
        · refine zw_s (pc' := 93) rfl rfl ?_
          refine zw_s (pc' := 97) rfl rfl ?_
          refine zw_rz rfl rfl (by decide) ?_
          have ez : v2 = Int32.ofInt 1 := by
            rcases d3 with ⟨d3, _⟩ | ⟨d3, _⟩
            · exact Int32.toInt_inj.mp d3
            · exact absurd d3 hy
          exact ⟨_, H2, rfl, by rw [← ez]; exact d3⟩
    · have ev : H.2.1 52 5 = Int32.ofInt 13 := Int32.toInt_inj.mp (hv.trans h9)
      rw [ev]
      refine zw_s (pc' := 98) rfl rfl ?_
      refine zw_ld (n := 1) (k := 0) (f := zp_isR) (pc' := 99) rfl rfl rfl rfl rfl ?_
      refine zw_ld (n := 1) (k := 2) (f := zp_isR) (pc' := 100) rfl rfl rfl rfl rfl ?_
      refine zw_gL (q := 22) (pc' := 103) W rfl rfl rfl rfl rfl ?_
      refine zw_c (pc' := 106) (zw_cs (Y := zm_67) rfl rfl zm_67_t) rfl rfl rfl rfl rfl (yc_bc) ?_
      refine zw_s (pc' := 108) rfl rfl ?_
      have hcnt : (yBC (H.2.2.1 22 3)).toInt = d.1 3 := by rw [hD.2.2.2.2.2.2.2.2.1]; exact hD.2.2.2.2.2.2.2.2.2.2
      have hmo : (Int32.ofInt 20).toInt = 20 := rfl
      obtain ⟨_, c1, v, H1, rfl, c2, c3⟩ := yc_hc (L := L) (σ := σ) (d := dd + 60) (x := yBC (H.2.2.1 22 3)) (y := Int32.ofInt 20) h
      refine zw_c (pc' := 111) (zw_cv (q := 51) (Y := zm_68) W.1 rfl rfl zm_68_t rfl rfl) rfl rfl rfl rfl rfl (c1) ?_
      refine zw_beq1 (g := 126) (pc' := 114) rfl rfl rfl rfl (fun hz => ?_) (fun hz => ?_)
      · refine zw_s (pc' := 127) rfl rfl ?_
        refine zw_rz rfl rfl (by decide) ?_
        rcases c3 with ⟨k1, _⟩ | ⟨_, k2, k3, k4⟩
        · omega
        · exact yRL_0 k4 k3 (yA2_done ((yN2_0.trans (y0_13 hk h9)).trans (if_neg (by omega)))) (show 1 ≤ (2 : Int) ∧ (2 : Int) ≤ 5 from by decide)
      · rcases c3 with ⟨_, k2, k3⟩ | ⟨k1, _⟩
        rotate_left
        · omega
        have W1 := zB_Wd k3.1.1
        have hD1 : yDd 22 13 d H1 := yDd_F hwc c2 rfl rfl ⟨hD, hX⟩
        obtain ⟨_, d1, d2⟩ := yc_rock22 (L := L) (σ := σ) (dd := dd + 59) (cp := 13) (Or.inl rfl) hbu k3 hD1
        have d2 := yRL_R (s := (0, [], 0, 0, 0, d, p)) (yR2_s ((yN2_0.trans (y0_13 hk h9)).trans (if_pos (by omega)))) d2 (ys_le1 h.2.2)
        obtain ⟨v2, H2, rfl, d3⟩ := d2
        refine zw_ld (n := 1) (k := 0) (f := zp_isR) (pc' := 115) rfl rfl rfl rfl rfl ?_
        refine zw_ld (n := 1) (k := 2) (f := zp_isR) (pc' := 116) rfl rfl rfl rfl rfl ?_
        refine zw_c (pc' := 119) (zw_cv (q := 51) (Y := zm_69) W1.1 rfl rfl zm_69_t rfl rfl) rfl rfl rfl rfl rfl (d1) ?_
        refine zw_beq1 (g := 126) (pc' := 122) rfl rfl rfl rfl (fun hy => ?_) (fun hy => ?_)
        · refine zw_s (pc' := 127) rfl rfl ?_
          refine zw_rz rfl rfl (by decide) ?_
          have ez : v2 = Int32.ofInt 0 := Int32.toInt_inj.mp hy
          exact ⟨_, H2, rfl, by rw [← ez]; exact d3⟩
        · refine zw_s (pc' := 123) rfl rfl ?_
          refine zw_s (pc' := 127) rfl rfl ?_
          refine zw_rz rfl rfl (by decide) ?_
          have ez : v2 = Int32.ofInt 1 := by
            rcases d3 with ⟨d3, _⟩ | ⟨d3, _⟩
            · exact Int32.toInt_inj.mp d3
            · exact absurd d3 hy
          exact ⟨_, H2, rfl, by rw [← ez]; exact d3⟩
    · have ev : H.2.1 52 5 = Int32.ofInt 14 := Int32.toInt_inj.mp (hv.trans h9)
      rw [ev]
      refine zw_s (pc' := 128) rfl rfl ?_
      refine zw_ld (n := 1) (k := 0) (f := zp_isR) (pc' := 129) rfl rfl rfl rfl rfl ?_
      refine zw_s (pc' := 130) rfl rfl ?_
      obtain ⟨_, c1, v, H1, rfl, c2, c3⟩ := yc_hd (L := L) (σ := σ) (d := dd + 60) (x := Int32.ofInt 1) h
      refine zw_c (pc' := 133) (zw_cv (q := 51) (Y := zm_63) W.1 rfl rfl zm_63_t rfl rfl) rfl rfl rfl rfl rfl (c1) ?_
      refine zw_beq1 (g := 148) (pc' := 136) rfl rfl rfl rfl (fun hz => ?_) (fun hz => ?_)
      · refine zw_s (pc' := 149) rfl rfl ?_
        refine zw_rz rfl rfl (by decide) ?_
        rcases c3 with ⟨k1, _⟩ | ⟨_, k2, _⟩
        · omega
        · exact absurd (by decide) k2
      · rcases c3 with ⟨_, k2, k3⟩ | ⟨k1, _⟩
        rotate_left
        · omega
        have W1 := zB_Wd k3.1.1
        have hD1 : yDd 22 13 d H1 := yDd_F hwc c2 rfl rfl ⟨hD, hX⟩
        obtain ⟨_, d1, d2⟩ := yc_curr22 (L := L) (σ := σ) (dd := dd + 59) (cp := 13) (Or.inl rfl) k3 hD1
        have d2 := yRL_R (s := (0, [], 0, 0, 0, d, p)) (yR2_s (yN2_0.trans (y0_14 hk h9))) d2 (ys_le1 h.2.2)
        obtain ⟨v2, H2, rfl, d3⟩ := d2
        refine zw_ld (n := 1) (k := 0) (f := zp_isR) (pc' := 137) rfl rfl rfl rfl rfl ?_
        refine zw_ld (n := 1) (k := 2) (f := zp_isR) (pc' := 138) rfl rfl rfl rfl rfl ?_
        refine zw_c (pc' := 141) (zw_cv (q := 51) (Y := zm_71) W1.1 rfl rfl zm_71_t rfl rfl) rfl rfl rfl rfl rfl (d1) ?_
        refine zw_beq1 (g := 148) (pc' := 144) rfl rfl rfl rfl (fun hy => ?_) (fun hy => ?_)
        · refine zw_s (pc' := 149) rfl rfl ?_
          refine zw_rz rfl rfl (by decide) ?_
          have ez : v2 = Int32.ofInt 0 := Int32.toInt_inj.mp hy
          exact ⟨_, H2, rfl, by rw [← ez]; exact d3⟩
        · refine zw_s (pc' := 145) rfl rfl ?_
          refine zw_s (pc' := 149) rfl rfl ?_
          refine zw_rz rfl rfl (by decide) ?_
          have ez : v2 = Int32.ofInt 1 := by
            rcases d3 with ⟨d3, _⟩ | ⟨d3, _⟩
            · exact Int32.toInt_inj.mp d3
            · exact absurd d3 hy
          exact ⟨_, H2, rfl, by rw [← ez]; exact d3⟩
    · have ev : H.2.1 52 5 = Int32.ofInt 15 := Int32.toInt_inj.mp (hv.trans h9)
      rw [ev]
      refine zw_s (pc' := 150) rfl rfl ?_
      refine zw_ld (n := 1) (k := 0) (f := zp_isR) (pc' := 151) rfl rfl rfl rfl rfl ?_
      refine zw_ld (n := 1) (k := 3) (f := zp_isR) (pc' := 152) rfl rfl rfl rfl rfl ?_
      refine zw_gI (q := 13) (pc' := 155) W rfl rfl rfl rfl rfl rfl ?_
      refine zw_s (pc' := 157) rfl rfl ?_
      have hcnt : (H.2.1 13 0).toInt = d.1 4 := hD.2.2.1
      have hmo : (Int32.ofInt 8).toInt = 8 := rfl
      obtain ⟨_, c1, v, H1, rfl, c2, c3⟩ := yc_hc (L := L) (σ := σ) (d := dd + 60) (x := H.2.1 13 0) (y := Int32.ofInt 8) h
      refine zw_c (pc' := 160) (zw_cv (q := 51) (Y := zm_68) W.1 rfl rfl zm_68_t rfl rfl) rfl rfl rfl rfl rfl (c1) ?_
      refine zw_beq1 (g := 176) (pc' := 163) rfl rfl rfl rfl (fun hz => ?_) (fun hz => ?_)
      · refine zw_s (pc' := 177) rfl rfl ?_
        refine zw_rz rfl rfl (by decide) ?_
        rcases c3 with ⟨k1, _⟩ | ⟨_, k2, k3, k4⟩
        · omega
        · exact yRL_0 k4 k3 (yA2_done ((yN2_0.trans (y0_15 hk h9)).trans (if_neg (by omega)))) (show 1 ≤ (2 : Int) ∧ (2 : Int) ≤ 5 from by decide)
      · rcases c3 with ⟨_, k2, k3⟩ | ⟨k1, _⟩
        rotate_left
        · omega
        have W1 := zB_Wd k3.1.1
        have hD1 : yDd 22 13 d H1 := yDd_F hwc c2 rfl rfl ⟨hD, hX⟩
        obtain ⟨_, d1, d2⟩ := yc_slate22_13 (L := L) (σ := σ) (dd := dd + 59) (by omega) k3 hD1
        have d2 := yRL_R (s := (0, [], 0, 0, 0, d, p)) (yR2_s ((yN2_0.trans (y0_15 hk h9)).trans (if_pos (by omega)))) d2 (ys_le1 h.2.2)
        obtain ⟨v2, H2, rfl, d3⟩ := d2
        refine zw_ld (n := 1) (k := 0) (f := zp_isR) (pc' := 164) rfl rfl rfl rfl rfl ?_
        refine zw_ld (n := 1) (k := 2) (f := zp_isR) (pc' := 165) rfl rfl rfl rfl rfl ?_
        refine zw_ld (n := 1) (k := 3) (f := zp_isR) (pc' := 166) rfl rfl rfl rfl rfl ?_
        refine zw_c (pc' := 169) (zw_cv (q := 51) (Y := zm_76) W1.1 rfl rfl zm_76_t rfl rfl) rfl rfl rfl rfl rfl (d1) ?_
        refine zw_beq1 (g := 176) (pc' := 172) rfl rfl rfl rfl (fun hy => ?_) (fun hy => ?_)
        · refine zw_s (pc' := 177) rfl rfl ?_
          refine zw_rz rfl rfl (by decide) ?_
          have ez : v2 = Int32.ofInt 0 := Int32.toInt_inj.mp hy
          exact ⟨_, H2, rfl, by rw [← ez]; exact d3⟩
        · refine zw_s (pc' := 173) rfl rfl ?_
          refine zw_s (pc' := 177) rfl rfl ?_
          refine zw_rz rfl rfl (by decide) ?_
          have ez : v2 = Int32.ofInt 1 := by
            rcases d3 with ⟨d3, _⟩ | ⟨d3, _⟩
            · exact Int32.toInt_inj.mp d3
            · exact absurd d3 hy
          exact ⟨_, H2, rfl, by rw [← ez]; exact d3⟩
    · have ev : H.2.1 52 5 = Int32.ofInt 16 := Int32.toInt_inj.mp (hv.trans h9)
      rw [ev]
      refine zw_s (pc' := 178) rfl rfl ?_
      refine zw_ld (n := 1) (k := 0) (f := zp_isR) (pc' := 179) rfl rfl rfl rfl rfl ?_
      refine zw_ld (n := 1) (k := 2) (f := zp_isR) (pc' := 180) rfl rfl rfl rfl rfl ?_
      refine zw_gI (q := 22) (pc' := 183) W rfl rfl rfl rfl rfl rfl ?_
      refine zw_s (pc' := 184) rfl rfl ?_
      have hcnt : (H.2.1 22 7).toInt = d.1 5 := hD.2.2.2.1
      have hmo : (Int32.ofInt 5).toInt = 5 := rfl
      obtain ⟨_, c1, v, H1, rfl, c2, c3⟩ := yc_hc (L := L) (σ := σ) (d := dd + 60) (x := H.2.1 22 7) (y := Int32.ofInt 5) h
      refine zw_c (pc' := 187) (zw_cv (q := 51) (Y := zm_68) W.1 rfl rfl zm_68_t rfl rfl) rfl rfl rfl rfl rfl (c1) ?_
      refine zw_beq1 (g := 202) (pc' := 190) rfl rfl rfl rfl (fun hz => ?_) (fun hz => ?_)
      · refine zw_s (pc' := 203) rfl rfl ?_
        refine zw_rz rfl rfl (by decide) ?_
        rcases c3 with ⟨k1, _⟩ | ⟨_, k2, k3, k4⟩
        · omega
        · exact yRL_0 k4 k3 (yA2_done ((yN2_0.trans (y0_16 hk h9)).trans (if_neg (by omega)))) (show 1 ≤ (2 : Int) ∧ (2 : Int) ≤ 5 from by decide)
      · rcases c3 with ⟨_, k2, k3⟩ | ⟨k1, _⟩
        rotate_left
        · omega
        have W1 := zB_Wd k3.1.1
        have hD1 : yDd 22 13 d H1 := yDd_F hwc c2 rfl rfl ⟨hD, hX⟩
        obtain ⟨_, d1, d2⟩ := yc_hand22 (L := L) (σ := σ) (dd := dd + 59) (cp := 13) (Or.inl rfl) (by omega) k3 hD1
        have d2 := yRL_R (s := (0, [], 0, 0, 0, d, p)) (yR2_s ((yN2_0.trans (y0_16 hk h9)).trans (if_pos (by omega)))) d2 (ys_le1 h.2.2)
        obtain ⟨v2, H2, rfl, d3⟩ := d2
        refine zw_ld (n := 1) (k := 0) (f := zp_isR) (pc' := 191) rfl rfl rfl rfl rfl ?_
        refine zw_ld (n := 1) (k := 2) (f := zp_isR) (pc' := 192) rfl rfl rfl rfl rfl ?_
        refine zw_c (pc' := 195) (zw_cv (q := 51) (Y := zm_79) W1.1 rfl rfl zm_79_t rfl rfl) rfl rfl rfl rfl rfl (d1) ?_
        refine zw_beq1 (g := 202) (pc' := 198) rfl rfl rfl rfl (fun hy => ?_) (fun hy => ?_)
        · refine zw_s (pc' := 203) rfl rfl ?_
          refine zw_rz rfl rfl (by decide) ?_
          have ez : v2 = Int32.ofInt 0 := Int32.toInt_inj.mp hy
          exact ⟨_, H2, rfl, by rw [← ez]; exact d3⟩
        · refine zw_s (pc' := 199) rfl rfl ?_
          refine zw_s (pc' := 203) rfl rfl ?_
          refine zw_rz rfl rfl (by decide) ?_
          have ez : v2 = Int32.ofInt 1 := by
            rcases d3 with ⟨d3, _⟩ | ⟨d3, _⟩
            · exact Int32.toInt_inj.mp d3
            · exact absurd d3 hy
          exact ⟨_, H2, rfl, by rw [← ez]; exact d3⟩
    · have ev : H.2.1 52 5 = Int32.ofInt 17 := Int32.toInt_inj.mp (hv.trans h9)
      rw [ev]
      refine zw_s (pc' := 204) rfl rfl ?_
      refine zw_ld (n := 1) (k := 0) (f := zp_isR) (pc' := 205) rfl rfl rfl rfl rfl ?_
      refine zw_ld (n := 1) (k := 0) (f := zp_isR) (pc' := 206) rfl rfl rfl rfl rfl ?_
      refine zw_gI (q := 51) (pc' := 209) W rfl rfl rfl rfl rfl rfl ?_
      have hs : (H.2.1 51 2).toInt = d.1 8 := hD.2.2.2.2.2.2.1
      refine zw_bne1 (g := 216) (pc' := 212) rfl rfl rfl rfl (fun hfl => ?_) (fun hfl => ?_)
      · obtain ⟨_, c1, v, H1, rfl, c2, c3⟩ := yc_hd (L := L) (σ := σ) (d := dd + 60) (x := Int32.ofInt 0) h
        refine zw_s (pc' := 217) rfl rfl ?_
        refine zw_c (pc' := 220) (zw_cv (q := 51) (Y := zm_63) W.1 rfl rfl zm_63_t rfl rfl) rfl rfl rfl rfl rfl (c1) ?_
        refine zw_beq1 (g := 235) (pc' := 223) rfl rfl rfl rfl (fun hz => ?_) (fun hz => ?_)
        · refine zw_s (pc' := 236) rfl rfl ?_
          refine zw_rz rfl rfl (by decide) ?_
          rcases c3 with ⟨k1, _⟩ | ⟨_, k2, k3, k4⟩
          · omega
          · exact yRL_0 k4 k3 (yA2_done ((yN2_0.trans (y0_17 hk h9)).trans (if_neg (by omega)))) (show 1 ≤ (5 : Int) ∧ (5 : Int) ≤ 5 from by decide)
        · rcases c3 with ⟨_, k2, k3⟩ | ⟨k1, _⟩
          · exact absurd rfl k2
          · omega
      · obtain ⟨_, c1, v, H1, rfl, c2, c3⟩ := yc_hd (L := L) (σ := σ) (d := dd + 60) (x := Int32.ofInt 1) h
        refine zw_s (pc' := 213) rfl rfl ?_
        refine zw_s (pc' := 217) rfl rfl ?_
        refine zw_c (pc' := 220) (zw_cv (q := 51) (Y := zm_63) W.1 rfl rfl zm_63_t rfl rfl) rfl rfl rfl rfl rfl (c1) ?_
        refine zw_beq1 (g := 235) (pc' := 223) rfl rfl rfl rfl (fun hz => ?_) (fun hz => ?_)
        · refine zw_s (pc' := 236) rfl rfl ?_
          refine zw_rz rfl rfl (by decide) ?_
          rcases c3 with ⟨k1, _⟩ | ⟨_, k2, k3, k4⟩
          · omega
          · exact yRL_0 k4 k3 (yA2_done ((yN2_0.trans (y0_17 hk h9)).trans (if_neg (fun _ => k2 (by decide))))) (show 1 ≤ (5 : Int) ∧ (5 : Int) ≤ 5 from by decide)
        · rcases c3 with ⟨_, k2, k3⟩ | ⟨k1, _⟩
          rotate_left
          · omega
          have W1 := zB_Wd k3.1.1
          have hD1 : yDd 22 13 d H1 := yDd_F hwc c2 rfl rfl ⟨hD, hX⟩
          obtain ⟨_, d1, d2⟩ := yc_school22 (L := L) (σ := σ) (dd := dd + 59) (cp := 13) (Or.inl rfl) k3 hD1
          have d2 := yRL_R (s := (0, [], 0, 0, 0, d, p)) (yR2_s ((yN2_0.trans (y0_17 hk h9)).trans (if_pos (by omega)))) d2 (ys_le1 h.2.2)
          obtain ⟨v2, H2, rfl, d3⟩ := d2
          refine zw_ld (n := 1) (k := 0) (f := zp_isR) (pc' := 224) rfl rfl rfl rfl rfl ?_
          refine zw_ld (n := 1) (k := 2) (f := zp_isR) (pc' := 225) rfl rfl rfl rfl rfl ?_
          refine zw_c (pc' := 228) (zw_cv (q := 51) (Y := zm_80) W1.1 rfl rfl zm_80_t rfl rfl) rfl rfl rfl rfl rfl (d1) ?_
          refine zw_beq1 (g := 235) (pc' := 231) rfl rfl rfl rfl (fun hy => ?_) (fun hy => ?_)
          · refine zw_s (pc' := 236) rfl rfl ?_
            refine zw_rz rfl rfl (by decide) ?_
            have ez : v2 = Int32.ofInt 0 := Int32.toInt_inj.mp hy
            exact ⟨_, H2, rfl, by rw [← ez]; exact d3⟩
          · refine zw_s (pc' := 232) rfl rfl ?_
            refine zw_s (pc' := 236) rfl rfl ?_
            refine zw_rz rfl rfl (by decide) ?_
            have ez : v2 = Int32.ofInt 1 := by
              rcases d3 with ⟨d3, _⟩ | ⟨d3, _⟩
              · exact Int32.toInt_inj.mp d3
              · exact absurd d3 hy
            exact ⟨_, H2, rfl, by rw [← ez]; exact d3⟩
    · have ev : H.2.1 52 5 = Int32.ofInt 18 := Int32.toInt_inj.mp (hv.trans h9)
      rw [ev]
      refine zw_s (pc' := 237) rfl rfl ?_
      refine zw_ld (n := 1) (k := 0) (f := zp_isR) (pc' := 238) rfl rfl rfl rfl rfl ?_
      refine zw_ld (n := 1) (k := 0) (f := zp_isR) (pc' := 239) rfl rfl rfl rfl rfl ?_
      refine zw_gI (q := 51) (pc' := 242) W rfl rfl rfl rfl rfl rfl ?_
      have hs : (H.2.1 51 3).toInt = d.1 9 := hD.2.2.2.2.2.2.2.1
      refine zw_bne1 (g := 249) (pc' := 245) rfl rfl rfl rfl (fun hfl => ?_) (fun hfl => ?_)
      · obtain ⟨_, c1, v, H1, rfl, c2, c3⟩ := yc_hd (L := L) (σ := σ) (d := dd + 60) (x := Int32.ofInt 0) h
        refine zw_s (pc' := 250) rfl rfl ?_
        refine zw_c (pc' := 253) (zw_cv (q := 51) (Y := zm_63) W.1 rfl rfl zm_63_t rfl rfl) rfl rfl rfl rfl rfl (c1) ?_
        refine zw_beq1 (g := 268) (pc' := 256) rfl rfl rfl rfl (fun hz => ?_) (fun hz => ?_)
        · refine zw_s (pc' := 269) rfl rfl ?_
          refine zw_rz rfl rfl (by decide) ?_
          rcases c3 with ⟨k1, _⟩ | ⟨_, k2, k3, k4⟩
          · omega
          · exact yRL_0 k4 k3 (yA2_done ((yN2_0.trans (y0_18 hk h9)).trans (if_neg (by omega)))) (show 1 ≤ (5 : Int) ∧ (5 : Int) ≤ 5 from by decide)
        · rcases c3 with ⟨_, k2, k3⟩ | ⟨k1, _⟩
          · exact absurd rfl k2
          · omega
      · obtain ⟨_, c1, v, H1, rfl, c2, c3⟩ := yc_hd (L := L) (σ := σ) (d := dd + 60) (x := Int32.ofInt 1) h
        refine zw_s (pc' := 246) rfl rfl ?_
        refine zw_s (pc' := 250) rfl rfl ?_
        refine zw_c (pc' := 253) (zw_cv (q := 51) (Y := zm_63) W.1 rfl rfl zm_63_t rfl rfl) rfl rfl rfl rfl rfl (c1) ?_
        refine zw_beq1 (g := 268) (pc' := 256) rfl rfl rfl rfl (fun hz => ?_) (fun hz => ?_)
        · refine zw_s (pc' := 269) rfl rfl ?_
          refine zw_rz rfl rfl (by decide) ?_
          rcases c3 with ⟨k1, _⟩ | ⟨_, k2, k3, k4⟩
          · omega
          · exact yRL_0 k4 k3 (yA2_done ((yN2_0.trans (y0_18 hk h9)).trans (if_neg (fun _ => k2 (by decide))))) (show 1 ≤ (5 : Int) ∧ (5 : Int) ≤ 5 from by decide)
        · rcases c3 with ⟨_, k2, k3⟩ | ⟨k1, _⟩
          rotate_left
          · omega
          have W1 := zB_Wd k3.1.1
          have hD1 : yDd 22 13 d H1 := yDd_F hwc c2 rfl rfl ⟨hD, hX⟩
          obtain ⟨_, d1, d2⟩ := yc_goal22 (L := L) (σ := σ) (dd := dd + 59) (cp := 13) (Or.inl rfl) k3 hD1
          have d2 := yRL_R (s := (0, [], 0, 0, 0, d, p)) (yR2_s ((yN2_0.trans (y0_18 hk h9)).trans (if_pos (by omega)))) d2 (ys_le1 h.2.2)
          obtain ⟨v2, H2, rfl, d3⟩ := d2
          refine zw_ld (n := 1) (k := 0) (f := zp_isR) (pc' := 257) rfl rfl rfl rfl rfl ?_
          refine zw_ld (n := 1) (k := 2) (f := zp_isR) (pc' := 258) rfl rfl rfl rfl rfl ?_
          refine zw_c (pc' := 261) (zw_cv (q := 51) (Y := zm_81) W1.1 rfl rfl zm_81_t rfl rfl) rfl rfl rfl rfl rfl (d1) ?_
          refine zw_beq1 (g := 268) (pc' := 264) rfl rfl rfl rfl (fun hy => ?_) (fun hy => ?_)
          · refine zw_s (pc' := 269) rfl rfl ?_
            refine zw_rz rfl rfl (by decide) ?_
            have ez : v2 = Int32.ofInt 0 := Int32.toInt_inj.mp hy
            exact ⟨_, H2, rfl, by rw [← ez]; exact d3⟩
          · refine zw_s (pc' := 265) rfl rfl ?_
            refine zw_s (pc' := 269) rfl rfl ?_
            refine zw_rz rfl rfl (by decide) ?_
            have ez : v2 = Int32.ofInt 1 := by
              rcases d3 with ⟨d3, _⟩ | ⟨d3, _⟩
              · exact Int32.toInt_inj.mp d3
              · exact absurd d3 hy
            exact ⟨_, H2, rfl, by rw [← ez]; exact d3⟩
    · have ev : H.2.1 52 5 = Int32.ofInt 19 := Int32.toInt_inj.mp (hv.trans h9)
      rw [ev]
      refine zw_s (pc' := 270) rfl rfl ?_
      refine zw_ld (n := 1) (k := 0) (f := zp_isR) (pc' := 271) rfl rfl rfl rfl rfl ?_
      refine zw_ld (n := 1) (k := 2) (f := zp_isR) (pc' := 272) rfl rfl rfl rfl rfl ?_
      refine zw_gI (q := 22) (pc' := 275) W rfl rfl rfl rfl rfl rfl ?_
      refine zw_s (pc' := 276) rfl rfl ?_
      have hcnt : (H.2.1 22 12).toInt = d.1 6 := hD.2.2.2.2.1
      have hmo : (Int32.ofInt 4).toInt = 4 := rfl
      obtain ⟨_, c1, v, H1, rfl, c2, c3⟩ := yc_hc (L := L) (σ := σ) (d := dd + 60) (x := H.2.1 22 12) (y := Int32.ofInt 4) h
      refine zw_c (pc' := 279) (zw_cv (q := 51) (Y := zm_68) W.1 rfl rfl zm_68_t rfl rfl) rfl rfl rfl rfl rfl (c1) ?_
      refine zw_beq1 (g := 295) (pc' := 282) rfl rfl rfl rfl (fun hz => ?_) (fun hz => ?_)
      · refine zw_s (pc' := 296) rfl rfl ?_
        refine zw_rz rfl rfl (by decide) ?_
        rcases c3 with ⟨k1, _⟩ | ⟨_, k2, k3, k4⟩
        · omega
        · exact yRL_0 k4 k3 (yA2_done ((yN2_0.trans (y0_19 hk h9)).trans (if_neg (by omega)))) (show 1 ≤ (2 : Int) ∧ (2 : Int) ≤ 5 from by decide)
      · rcases c3 with ⟨_, k2, k3⟩ | ⟨k1, _⟩
        rotate_left
        · omega
        have W1 := zB_Wd k3.1.1
        have hD1 : yDd 22 13 d H1 := yDd_F hwc c2 rfl rfl ⟨hD, hX⟩
        obtain ⟨_, d1, d2⟩ := yc_pilot22_13 (L := L) (σ := σ) (dd := dd + 59) (by omega) k3 hD1
        have d2 := yRL_R (s := (0, [], 0, 0, 0, d, p)) (yR2_s ((yN2_0.trans (y0_19 hk h9)).trans (if_pos (by omega)))) d2 (ys_le1 h.2.2)
        obtain ⟨v2, H2, rfl, d3⟩ := d2
        refine zw_ld (n := 1) (k := 0) (f := zp_isR) (pc' := 283) rfl rfl rfl rfl rfl ?_
        refine zw_ld (n := 1) (k := 2) (f := zp_isR) (pc' := 284) rfl rfl rfl rfl rfl ?_
        refine zw_ld (n := 1) (k := 3) (f := zp_isR) (pc' := 285) rfl rfl rfl rfl rfl ?_
        refine zw_c (pc' := 288) (zw_cv (q := 51) (Y := zm_82) W1.1 rfl rfl zm_82_t rfl rfl) rfl rfl rfl rfl rfl (d1) ?_
        refine zw_beq1 (g := 295) (pc' := 291) rfl rfl rfl rfl (fun hy => ?_) (fun hy => ?_)
        · refine zw_s (pc' := 296) rfl rfl ?_
          refine zw_rz rfl rfl (by decide) ?_
          have ez : v2 = Int32.ofInt 0 := Int32.toInt_inj.mp hy
          exact ⟨_, H2, rfl, by rw [← ez]; exact d3⟩
        · refine zw_s (pc' := 292) rfl rfl ?_
          refine zw_s (pc' := 296) rfl rfl ?_
          refine zw_rz rfl rfl (by decide) ?_
          have ez : v2 = Int32.ofInt 1 := by
            rcases d3 with ⟨d3, _⟩ | ⟨d3, _⟩
            · exact Int32.toInt_inj.mp d3
            · exact absurd d3 hy
          exact ⟨_, H2, rfl, by rw [← ez]; exact d3⟩
    · have ev : H.2.1 52 5 = Int32.ofInt 20 := Int32.toInt_inj.mp (hv.trans h9)
      rw [ev]
      refine zw_s (pc' := 297) rfl rfl ?_
      refine zw_ld (n := 1) (k := 0) (f := zp_isR) (pc' := 298) rfl rfl rfl rfl rfl ?_
      refine zw_ld (n := 1) (k := 2) (f := zp_isR) (pc' := 299) rfl rfl rfl rfl rfl ?_
      refine zw_gI (q := 22) (pc' := 302) W rfl rfl rfl rfl rfl rfl ?_
      refine zw_s (pc' := 304) rfl rfl ?_
      have hcnt : (H.2.1 22 16).toInt = d.1 7 := hD.2.2.2.2.2.1
      have hmo : (Int32.ofInt 8).toInt = 8 := rfl
      obtain ⟨_, c1, v, H1, rfl, c2, c3⟩ := yc_hc (L := L) (σ := σ) (d := dd + 60) (x := H.2.1 22 16) (y := Int32.ofInt 8) h
      refine zw_c (pc' := 307) (zw_cv (q := 51) (Y := zm_68) W.1 rfl rfl zm_68_t rfl rfl) rfl rfl rfl rfl rfl (c1) ?_
      refine zw_beq1 (g := 322) (pc' := 310) rfl rfl rfl rfl (fun hz => ?_) (fun hz => ?_)
      · refine zw_s (pc' := 323) rfl rfl ?_
        refine zw_rz rfl rfl (by decide) ?_
        rcases c3 with ⟨k1, _⟩ | ⟨_, k2, k3, k4⟩
        · omega
        · exact yRL_0 k4 k3 (yA2_done ((yN2_0.trans (y0_20 hk h9)).trans (if_neg (by omega)))) (show 1 ≤ (2 : Int) ∧ (2 : Int) ≤ 5 from by decide)
      · rcases c3 with ⟨_, k2, k3⟩ | ⟨k1, _⟩
        rotate_left
        · omega
        have W1 := zB_Wd k3.1.1
        have hD1 : yDd 22 13 d H1 := yDd_F hwc c2 rfl rfl ⟨hD, hX⟩
        obtain ⟨_, d1, d2⟩ := yc_rule22 (L := L) (σ := σ) (dd := dd + 1) (cp := 13) (Or.inl rfl) k3 hD1 (by omega)
        have d2 := yRL_R (s := (0, [], 0, 0, 0, d, p)) (yR2_s ((yN2_0.trans (y0_20 hk h9)).trans (if_pos (by omega)))) d2 (ys_le1 h.2.2)
        obtain ⟨v2, H2, rfl, d3⟩ := d2
        refine zw_ld (n := 1) (k := 0) (f := zp_isR) (pc' := 311) rfl rfl rfl rfl rfl ?_
        refine zw_ld (n := 1) (k := 2) (f := zp_isR) (pc' := 312) rfl rfl rfl rfl rfl ?_
        refine zw_c (pc' := 315) (zw_cv (q := 51) (Y := zm_84) W1.1 rfl rfl zm_84_t rfl rfl) rfl rfl rfl rfl rfl (d1) ?_
        refine zw_beq1 (g := 322) (pc' := 318) rfl rfl rfl rfl (fun hy => ?_) (fun hy => ?_)
        · refine zw_s (pc' := 323) rfl rfl ?_
          refine zw_rz rfl rfl (by decide) ?_
          have ez : v2 = Int32.ofInt 0 := Int32.toInt_inj.mp hy
          exact ⟨_, H2, rfl, by rw [← ez]; exact d3⟩
        · refine zw_s (pc' := 319) rfl rfl ?_
          refine zw_s (pc' := 323) rfl rfl ?_
          refine zw_rz rfl rfl (by decide) ?_
          have ez : v2 = Int32.ofInt 1 := by
            rcases d3 with ⟨d3, _⟩ | ⟨d3, _⟩
            · exact Int32.toInt_inj.mp d3
            · exact absurd d3 hy
          exact ⟨_, H2, rfl, by rw [← ez]; exact d3⟩
    · have ev : H.2.1 52 5 = Int32.ofInt 21 := Int32.toInt_inj.mp (hv.trans h9)
      rw [ev]
      refine zw_s (pc' := 324) rfl rfl ?_
      refine zw_ld (n := 1) (k := 0) (f := zp_isR) (pc' := 325) rfl rfl rfl rfl rfl ?_
      refine zw_s (pc' := 326) rfl rfl ?_
      obtain ⟨K, e1, e2, e3, e4⟩ := yc_ref (L := L) (σ := σ) (d := dd + 63) (x := Int32.ofInt 1) h
      refine zw_c (pc' := 329) (zw_cv (q := 51) (Y := zm_62) W.1 rfl rfl zm_62_t rfl rfl) rfl rfl rfl rfl rfl (e1) ?_
      refine zw_rz rfl rfl (by decide) ?_
      exact yRL_0 e2 e4 (yA2_done (yN2_0.trans (y0_x hk (by omega)))) (show 1 ≤ (1 : Int) ∧ (1 : Int) ≤ 5 from by decide)
  · have hk3 : ys_kd T n p ≠ 3 := by omega
    refine zw_ld (n := 1) (k := 0) (f := zp_isR) (pc' := 12) rfl rfl rfl rfl rfl ?_
    refine zw_s (pc' := 13) rfl rfl ?_
    obtain ⟨K, e1, e2, e3, e4⟩ := yc_ref (L := L) (σ := σ) (d := dd + 63) (x := Int32.ofInt 1) h
    refine zw_c (pc' := 16) (zw_cv (q := 51) (Y := zm_62) W.1 rfl rfl zm_62_t rfl rfl) rfl rfl rfl rfl rfl (e1) ?_
    refine zw_rz rfl rfl (by decide) ?_
    exact yRL_0 e2 e4 (yA2_done (yN2_0.trans (y0_n hk3 h0))) (show 1 ≤ (1 : Int) ∧ (1 : Int) ≤ 5 from by decide)

set_option maxHeartbeats 4000000 in
set_option maxRecDepth 8000 in
theorem yc_line22_33 {L : Nat} {σ : Nat → Int32} {dd : Nat} {T : Nat → Int} {n p : Nat} {d : yLD} {H : zp_H} {f : Int32} (hf : f.toInt = d.1 0) (hbu : yBCu) (h0 : ys_kd T n p ≠ 0) (h : yE T n p H) (hDd : yDd 22 33 d H) : ∃ X, zp_Call L σ (dd + 65) 61 [.inr (.inr (some 52)), .inl f, .inr (.inr (some 23)), .inr (.inr (some 34))] H X ∧ yRL T n 22 33 (0, [], 0, 0, 0, d, p) X := by
  obtain ⟨hD, hX⟩ := hDd
  have hwc : yWC 22 33 := ⟨by decide, by decide⟩
  have W := zB_Wd h.1.1
  have h4 := yE_4 h
  have h5 : ys_kd T n p ≠ 0 → _ := yE_5 h
  refine zw_met zm_61_t rfl rfl ?_
  refine zw_ld (n := 1) (k := 0) (f := zp_isR) (pc' := 1) rfl rfl rfl rfl rfl ?_
  refine zw_gR (q := 51) (pc' := 4) W rfl rfl rfl rfl (W.2 51 0 _ rfl) rfl ?_
  refine zw_gI (q := 52) (pc' := 7) W rfl rfl rfl rfl rfl rfl ?_
  refine zw_s (pc' := 8) rfl rfl ?_
  refine zw_beq2 (g := 17) (pc' := 11) rfl rfl rfl rfl (rfl : _ = (3 : Int)) (fun h1 => ?_) (fun h1 => ?_)
  · have hk : ys_kd T n p = 3 := by omega
    have hv := h5 (by omega)
    have hvb := ys_vl_b hk
    refine zw_ld (n := 1) (k := 0) (f := zp_isR) (pc' := 18) rfl rfl rfl rfl rfl ?_
    refine zw_gR (q := 51) (pc' := 21) W rfl rfl rfl rfl (W.2 51 0 _ rfl) rfl ?_
    refine zw_gI (q := 52) (pc' := 24) W rfl rfl rfl rfl rfl rfl ?_
    rcases (show ys_vl T n p = 0 ∨ ys_vl T n p = 1 ∨ ys_vl T n p = 2 ∨ ys_vl T n p = 3 ∨ ys_vl T n p = 4 ∨ ys_vl T n p = 5 ∨ ys_vl T n p = 6 ∨ ys_vl T n p = 7 ∨ ys_vl T n p = 8 ∨ ys_vl T n p = 9 ∨ ys_vl T n p = 10 ∨ ys_vl T n p = 11 ∨ ys_vl T n p = 12 ∨ ys_vl T n p = 13 ∨ ys_vl T n p = 14 ∨ ys_vl T n p = 15 ∨ ys_vl T n p = 16 ∨ ys_vl T n p = 17 ∨ ys_vl T n p = 18 ∨ ys_vl T n p = 19 ∨ ys_vl T n p = 20 ∨ ys_vl T n p = 21 by omega) with h9 | h9 | h9 | h9 | h9 | h9 | h9 | h9 | h9 | h9 | h9 | h9 | h9 | h9 | h9 | h9 | h9 | h9 | h9 | h9 | h9 | h9
    · have ev : H.2.1 52 5 = Int32.ofInt 0 := Int32.toInt_inj.mp (hv.trans h9)
      rw [ev]
      refine zw_s (pc' := 324) rfl rfl ?_
      refine zw_ld (n := 1) (k := 0) (f := zp_isR) (pc' := 325) rfl rfl rfl rfl rfl ?_
      refine zw_s (pc' := 326) rfl rfl ?_
      obtain ⟨K, e1, e2, e3, e4⟩ := yc_ref (L := L) (σ := σ) (d := dd + 63) (x := Int32.ofInt 1) h
      refine zw_c (pc' := 329) (zw_cv (q := 51) (Y := zm_62) W.1 rfl rfl zm_62_t rfl rfl) rfl rfl rfl rfl rfl (e1) ?_
      refine zw_rz rfl rfl (by decide) ?_
      exact yRL_0 e2 e4 (yA2_done (yN2_0.trans (y0_x hk (by omega)))) (show 1 ≤ (1 : Int) ∧ (1 : Int) ≤ 5 from by decide)
    · have ev : H.2.1 52 5 = Int32.ofInt 1 := Int32.toInt_inj.mp (hv.trans h9)
      rw [ev]
      refine zw_s (pc' := 324) rfl rfl ?_
      refine zw_ld (n := 1) (k := 0) (f := zp_isR) (pc' := 325) rfl rfl rfl rfl rfl ?_
      refine zw_s (pc' := 326) rfl rfl ?_
      obtain ⟨K, e1, e2, e3, e4⟩ := yc_ref (L := L) (σ := σ) (d := dd + 63) (x := Int32.ofInt 1) h
      refine zw_c (pc' := 329) (zw_cv (q := 51) (Y := zm_62) W.1 rfl rfl zm_62_t rfl rfl) rfl rfl rfl rfl rfl (e1) ?_
      refine zw_rz rfl rfl (by decide) ?_
      exact yRL_0 e2 e4 (yA2_done (yN2_0.trans (y0_x hk (by omega)))) (show 1 ≤ (1 : Int) ∧ (1 : Int) ≤ 5 from by decide)
    · have ev : H.2.1 52 5 = Int32.ofInt 2 := Int32.toInt_inj.mp (hv.trans h9)
      rw [ev]
      refine zw_s (pc' := 324) rfl rfl ?_
      refine zw_ld (n := 1) (k := 0) (f := zp_isR) (pc' := 325) rfl rfl rfl rfl rfl ?_
      refine zw_s (pc' := 326) rfl rfl ?_
      obtain ⟨K, e1, e2, e3, e4⟩ := yc_ref (L := L) (σ := σ) (d := dd + 63) (x := Int32.ofInt 1) h
      refine zw_c (pc' := 329) (zw_cv (q := 51) (Y := zm_62) W.1 rfl rfl zm_62_t rfl rfl) rfl rfl rfl rfl rfl (e1) ?_
      refine zw_rz rfl rfl (by decide) ?_
      exact yRL_0 e2 e4 (yA2_done (yN2_0.trans (y0_x hk (by omega)))) (show 1 ≤ (1 : Int) ∧ (1 : Int) ≤ 5 from by decide)
    · have ev : H.2.1 52 5 = Int32.ofInt 3 := Int32.toInt_inj.mp (hv.trans h9)
      rw [ev]
      refine zw_s (pc' := 324) rfl rfl ?_
      refine zw_ld (n := 1) (k := 0) (f := zp_isR) (pc' := 325) rfl rfl rfl rfl rfl ?_
      refine zw_s (pc' := 326) rfl rfl ?_
      obtain ⟨K, e1, e2, e3, e4⟩ := yc_ref (L := L) (σ := σ) (d := dd + 63) (x := Int32.ofInt 1) h
      refine zw_c (pc' := 329) (zw_cv (q := 51) (Y := zm_62) W.1 rfl rfl zm_62_t rfl rfl) rfl rfl rfl rfl rfl (e1) ?_
      refine zw_rz rfl rfl (by decide) ?_
      exact yRL_0 e2 e4 (yA2_done (yN2_0.trans (y0_x hk (by omega)))) (show 1 ≤ (1 : Int) ∧ (1 : Int) ≤ 5 from by decide)
    · have ev : H.2.1 52 5 = Int32.ofInt 4 := Int32.toInt_inj.mp (hv.trans h9)
      rw [ev]
      refine zw_s (pc' := 324) rfl rfl ?_
      refine zw_ld (n := 1) (k := 0) (f := zp_isR) (pc' := 325) rfl rfl rfl rfl rfl ?_
      refine zw_s (pc' := 326) rfl rfl ?_
      obtain ⟨K, e1, e2, e3, e4⟩ := yc_ref (L := L) (σ := σ) (d := dd + 63) (x := Int32.ofInt 1) h
      refine zw_c (pc' := 329) (zw_cv (q := 51) (Y := zm_62) W.1 rfl rfl zm_62_t rfl rfl) rfl rfl rfl rfl rfl (e1) ?_
      refine zw_rz rfl rfl (by decide) ?_
      exact yRL_0 e2 e4 (yA2_done (yN2_0.trans (y0_x hk (by omega)))) (show 1 ≤ (1 : Int) ∧ (1 : Int) ≤ 5 from by decide)
    · have ev : H.2.1 52 5 = Int32.ofInt 5 := Int32.toInt_inj.mp (hv.trans h9)
      rw [ev]
      refine zw_s (pc' := 324) rfl rfl ?_
      refine zw_ld (n := 1) (k := 0) (f := zp_isR) (pc' := 325) rfl rfl rfl rfl rfl ?_
      refine zw_s (pc' := 326) rfl rfl ?_
      obtain ⟨K, e1, e2, e3, e4⟩ := yc_ref (L := L) (σ := σ) (d := dd + 63) (x := Int32.ofInt 1) h
      refine zw_c (pc' := 329) (zw_cv (q := 51) (Y := zm_62) W.1 rfl rfl zm_62_t rfl rfl) rfl rfl rfl rfl rfl (e1) ?_
      refine zw_rz rfl rfl (by decide) ?_
      exact yRL_0 e2 e4 (yA2_done (yN2_0.trans (y0_x hk (by omega)))) (show 1 ≤ (1 : Int) ∧ (1 : Int) ≤ 5 from by decide)
    · have ev : H.2.1 52 5 = Int32.ofInt 6 := Int32.toInt_inj.mp (hv.trans h9)
      rw [ev]
      refine zw_s (pc' := 324) rfl rfl ?_
      refine zw_ld (n := 1) (k := 0) (f := zp_isR) (pc' := 325) rfl rfl rfl rfl rfl ?_
      refine zw_s (pc' := 326) rfl rfl ?_
      obtain ⟨K, e1, e2, e3, e4⟩ := yc_ref (L := L) (σ := σ) (d := dd + 63) (x := Int32.ofInt 1) h
      refine zw_c (pc' := 329) (zw_cv (q := 51) (Y := zm_62) W.1 rfl rfl zm_62_t rfl rfl) rfl rfl rfl rfl rfl (e1) ?_
      refine zw_rz rfl rfl (by decide) ?_
      exact yRL_0 e2 e4 (yA2_done (yN2_0.trans (y0_x hk (by omega)))) (show 1 ≤ (1 : Int) ∧ (1 : Int) ≤ 5 from by decide)
    · have ev : H.2.1 52 5 = Int32.ofInt 7 := Int32.toInt_inj.mp (hv.trans h9)
      rw [ev]
      refine zw_s (pc' := 324) rfl rfl ?_
      refine zw_ld (n := 1) (k := 0) (f := zp_isR) (pc' := 325) rfl rfl rfl rfl rfl ?_
      refine zw_s (pc' := 326) rfl rfl ?_
      obtain ⟨K, e1, e2, e3, e4⟩ := yc_ref (L := L) (σ := σ) (d := dd + 63) (x := Int32.ofInt 1) h
      refine zw_c (pc' := 329) (zw_cv (q := 51) (Y := zm_62) W.1 rfl rfl zm_62_t rfl rfl) rfl rfl rfl rfl rfl (e1) ?_
      refine zw_rz rfl rfl (by decide) ?_
      exact yRL_0 e2 e4 (yA2_done (yN2_0.trans (y0_x hk (by omega)))) (show 1 ≤ (1 : Int) ∧ (1 : Int) ≤ 5 from by decide)
    · have ev : H.2.1 52 5 = Int32.ofInt 8 := Int32.toInt_inj.mp (hv.trans h9)
      rw [ev]
      refine zw_s (pc' := 324) rfl rfl ?_
      refine zw_ld (n := 1) (k := 0) (f := zp_isR) (pc' := 325) rfl rfl rfl rfl rfl ?_
      refine zw_s (pc' := 326) rfl rfl ?_
      obtain ⟨K, e1, e2, e3, e4⟩ := yc_ref (L := L) (σ := σ) (d := dd + 63) (x := Int32.ofInt 1) h
      refine zw_c (pc' := 329) (zw_cv (q := 51) (Y := zm_62) W.1 rfl rfl zm_62_t rfl rfl) rfl rfl rfl rfl rfl (e1) ?_
      refine zw_rz rfl rfl (by decide) ?_
      exact yRL_0 e2 e4 (yA2_done (yN2_0.trans (y0_x hk (by omega)))) (show 1 ≤ (1 : Int) ∧ (1 : Int) ≤ 5 from by decide)
    · have ev : H.2.1 52 5 = Int32.ofInt 9 := Int32.toInt_inj.mp (hv.trans h9)
      rw [ev]
      refine zw_s (pc' := 324) rfl rfl ?_
      refine zw_ld (n := 1) (k := 0) (f := zp_isR) (pc' := 325) rfl rfl rfl rfl rfl ?_
      refine zw_s (pc' := 326) rfl rfl ?_
      obtain ⟨K, e1, e2, e3, e4⟩ := yc_ref (L := L) (σ := σ) (d := dd + 63) (x := Int32.ofInt 1) h
      refine zw_c (pc' := 329) (zw_cv (q := 51) (Y := zm_62) W.1 rfl rfl zm_62_t rfl rfl) rfl rfl rfl rfl rfl (e1) ?_
      refine zw_rz rfl rfl (by decide) ?_
      exact yRL_0 e2 e4 (yA2_done (yN2_0.trans (y0_x hk (by omega)))) (show 1 ≤ (1 : Int) ∧ (1 : Int) ≤ 5 from by decide)
    · have ev : H.2.1 52 5 = Int32.ofInt 10 := Int32.toInt_inj.mp (hv.trans h9)
      rw [ev]
      refine zw_s (pc' := 324) rfl rfl ?_
      refine zw_ld (n := 1) (k := 0) (f := zp_isR) (pc' := 325) rfl rfl rfl rfl rfl ?_
      refine zw_s (pc' := 326) rfl rfl ?_
      obtain ⟨K, e1, e2, e3, e4⟩ := yc_ref (L := L) (σ := σ) (d := dd + 63) (x := Int32.ofInt 1) h
      refine zw_c (pc' := 329) (zw_cv (q := 51) (Y := zm_62) W.1 rfl rfl zm_62_t rfl rfl) rfl rfl rfl rfl rfl (e1) ?_
      refine zw_rz rfl rfl (by decide) ?_
      exact yRL_0 e2 e4 (yA2_done (yN2_0.trans (y0_x hk (by omega)))) (show 1 ≤ (1 : Int) ∧ (1 : Int) ≤ 5 from by decide)
    · have ev : H.2.1 52 5 = Int32.ofInt 11 := Int32.toInt_inj.mp (hv.trans h9)
      rw [ev]
      refine zw_s (pc' := 324) rfl rfl ?_
      refine zw_ld (n := 1) (k := 0) (f := zp_isR) (pc' := 325) rfl rfl rfl rfl rfl ?_
      refine zw_s (pc' := 326) rfl rfl ?_
      obtain ⟨K, e1, e2, e3, e4⟩ := yc_ref (L := L) (σ := σ) (d := dd + 63) (x := Int32.ofInt 1) h
      refine zw_c (pc' := 329) (zw_cv (q := 51) (Y := zm_62) W.1 rfl rfl zm_62_t rfl rfl) rfl rfl rfl rfl rfl (e1) ?_
      refine zw_rz rfl rfl (by decide) ?_
      exact yRL_0 e2 e4 (yA2_done (yN2_0.trans (y0_x hk (by omega)))) (show 1 ≤ (1 : Int) ∧ (1 : Int) ≤ 5 from by decide)
    · have ev : H.2.1 52 5 = Int32.ofInt 12 := Int32.toInt_inj.mp (hv.trans h9)
      rw [ev]
      refine zw_s (pc' := 76) rfl rfl ?_
      refine zw_ld (n := 1) (k := 0) (f := zp_isR) (pc' := 77) rfl rfl rfl rfl rfl ?_
      refine zw_ld (n := 1) (k := 1) (f := zp_isI) (pc' := 78) rfl rfl rfl rfl rfl ?_
      obtain ⟨_, c1, v, H1, rfl, c2, c3⟩ := yc_hd (L := L) (σ := σ) (d := dd + 60) (x := f) h
      refine zw_c (pc' := 81) (zw_cv (q := 51) (Y := zm_63) W.1 rfl rfl zm_63_t rfl rfl) rfl rfl rfl rfl rfl (c1) ?_
      refine zw_beq1 (g := 96) (pc' := 84) rfl rfl rfl rfl (fun hz => ?_) (fun hz => ?_)
      · refine zw_s (pc' := 97) rfl rfl ?_
        refine zw_rz rfl rfl (by decide) ?_
        rcases c3 with ⟨k1, _⟩ | ⟨_, k2, k3, k4⟩
        · omega
        · exact yRL_0 k4 k3 (yA2_done ((yN2_0.trans (y0_12 hk h9)).trans (if_neg (by omega)))) (show 1 ≤ (5 : Int) ∧ (5 : Int) ≤ 5 from by decide)
      · rcases c3 with ⟨_, k2, k3⟩ | ⟨k1, _⟩
        rotate_left
        · omega
        have W1 := zB_Wd k3.1.1
        have hD1 : yDd 22 33 d H1 := yDd_F hwc c2 rfl rfl ⟨hD, hX⟩
        obtain ⟨_, d1, d2⟩ := yc_size22 (L := L) (σ := σ) (dd := dd + 59) (cp := 33) (Or.inr rfl) k3 hD1
        have d2 := yRL_R (s := (0, [], 0, 0, 0, d, p)) (yR2_s ((yN2_0.trans (y0_12 hk h9)).trans (if_pos (by omega)))) d2 (ys_le1 h.2.2)
        obtain ⟨v2, H2, rfl, d3⟩ := d2
        refine zw_ld (n := 1) (k := 0) (f := zp_isR) (pc' := 85) rfl rfl rfl rfl rfl ?_
        refine zw_ld (n := 1) (k := 2) (f := zp_isR) (pc' := 86) rfl rfl rfl rfl rfl ?_
        refine zw_c (pc' := 89) (zw_cv (q := 51) (Y := zm_64) W1.1 rfl rfl zm_64_t rfl rfl) rfl rfl rfl rfl rfl (d1) ?_
        refine zw_beq1 (g := 96) (pc' := 92) rfl rfl rfl rfl (fun hy => ?_) (fun hy => ?_)
        · refine zw_s (pc' := 97) rfl rfl ?_
          refine zw_rz rfl rfl (by decide) ?_
          have ez : v2 = Int32.ofInt 0 := Int32.toInt_inj.mp hy
          exact ⟨_, H2, rfl, by rw [← ez]; exact d3⟩
        · refine zw_s (pc' := 93) rfl rfl ?_
          refine zw_s (pc' := 97) rfl rfl ?_
          refine zw_rz rfl rfl (by decide) ?_
          have ez : v2 = Int32.ofInt 1 := by
            rcases d3 with ⟨d3, _⟩ | ⟨d3, _⟩
            · exact Int32.toInt_inj.mp d3
            · exact absurd d3 hy
          exact ⟨_, H2, rfl, by rw [← ez]; exact d3⟩
    · have ev : H.2.1 52 5 = Int32.ofInt 13 := Int32.toInt_inj.mp (hv.trans h9)
      rw [ev]
      refine zw_s (pc' := 98) rfl rfl ?_
      refine zw_ld (n := 1) (k := 0) (f := zp_isR) (pc' := 99) rfl rfl rfl rfl rfl ?_
      refine zw_ld (n := 1) (k := 2) (f := zp_isR) (pc' := 100) rfl rfl rfl rfl rfl ?_
      refine zw_gL (q := 22) (pc' := 103) W rfl rfl rfl rfl rfl ?_
      refine zw_c (pc' := 106) (zw_cs (Y := zm_67) rfl rfl zm_67_t) rfl rfl rfl rfl rfl (yc_bc) ?_
      refine zw_s (pc' := 108) rfl rfl ?_
      have hcnt : (yBC (H.2.2.1 22 3)).toInt = d.1 3 := by rw [hD.2.2.2.2.2.2.2.2.1]; exact hD.2.2.2.2.2.2.2.2.2.2
      have hmo : (Int32.ofInt 20).toInt = 20 := rfl
      obtain ⟨_, c1, v, H1, rfl, c2, c3⟩ := yc_hc (L := L) (σ := σ) (d := dd + 60) (x := yBC (H.2.2.1 22 3)) (y := Int32.ofInt 20) h
      refine zw_c (pc' := 111) (zw_cv (q := 51) (Y := zm_68) W.1 rfl rfl zm_68_t rfl rfl) rfl rfl rfl rfl rfl (c1) ?_
      refine zw_beq1 (g := 126) (pc' := 114) rfl rfl rfl rfl (fun hz => ?_) (fun hz => ?_)
      · refine zw_s (pc' := 127) rfl rfl ?_
        refine zw_rz rfl rfl (by decide) ?_
        rcases c3 with ⟨k1, _⟩ | ⟨_, k2, k3, k4⟩
        · omega
        · exact yRL_0 k4 k3 (yA2_done ((yN2_0.trans (y0_13 hk h9)).trans (if_neg (by omega)))) (show 1 ≤ (2 : Int) ∧ (2 : Int) ≤ 5 from by decide)
      · rcases c3 with ⟨_, k2, k3⟩ | ⟨k1, _⟩
        rotate_left
        · omega
        have W1 := zB_Wd k3.1.1
        have hD1 : yDd 22 33 d H1 := yDd_F hwc c2 rfl rfl ⟨hD, hX⟩
        obtain ⟨_, d1, d2⟩ := yc_rock22 (L := L) (σ := σ) (dd := dd + 59) (cp := 33) (Or.inr rfl) hbu k3 hD1
        have d2 := yRL_R (s := (0, [], 0, 0, 0, d, p)) (yR2_s ((yN2_0.trans (y0_13 hk h9)).trans (if_pos (by omega)))) d2 (ys_le1 h.2.2)
        obtain ⟨v2, H2, rfl, d3⟩ := d2
        refine zw_ld (n := 1) (k := 0) (f := zp_isR) (pc' := 115) rfl rfl rfl rfl rfl ?_
        refine zw_ld (n := 1) (k := 2) (f := zp_isR) (pc' := 116) rfl rfl rfl rfl rfl ?_
        refine zw_c (pc' := 119) (zw_cv (q := 51) (Y := zm_69) W1.1 rfl rfl zm_69_t rfl rfl) rfl rfl rfl rfl rfl (d1) ?_
        refine zw_beq1 (g := 126) (pc' := 122) rfl rfl rfl rfl (fun hy => ?_) (fun hy => ?_)
        · refine zw_s (pc' := 127) rfl rfl ?_
          refine zw_rz rfl rfl (by decide) ?_
          have ez : v2 = Int32.ofInt 0 := Int32.toInt_inj.mp hy
          exact ⟨_, H2, rfl, by rw [← ez]; exact d3⟩
        · refine zw_s (pc' := 123) rfl rfl ?_
          refine zw_s (pc' := 127) rfl rfl ?_
          refine zw_rz rfl rfl (by decide) ?_
          have ez : v2 = Int32.ofInt 1 := by
            rcases d3 with ⟨d3, _⟩ | ⟨d3, _⟩
            · exact Int32.toInt_inj.mp d3
            · exact absurd d3 hy
          exact ⟨_, H2, rfl, by rw [← ez]; exact d3⟩
    · have ev : H.2.1 52 5 = Int32.ofInt 14 := Int32.toInt_inj.mp (hv.trans h9)
      rw [ev]
      refine zw_s (pc' := 128) rfl rfl ?_
      refine zw_ld (n := 1) (k := 0) (f := zp_isR) (pc' := 129) rfl rfl rfl rfl rfl ?_
      refine zw_s (pc' := 130) rfl rfl ?_
      obtain ⟨_, c1, v, H1, rfl, c2, c3⟩ := yc_hd (L := L) (σ := σ) (d := dd + 60) (x := Int32.ofInt 1) h
      refine zw_c (pc' := 133) (zw_cv (q := 51) (Y := zm_63) W.1 rfl rfl zm_63_t rfl rfl) rfl rfl rfl rfl rfl (c1) ?_
      refine zw_beq1 (g := 148) (pc' := 136) rfl rfl rfl rfl (fun hz => ?_) (fun hz => ?_)
      · refine zw_s (pc' := 149) rfl rfl ?_
        refine zw_rz rfl rfl (by decide) ?_
        rcases c3 with ⟨k1, _⟩ | ⟨_, k2, _⟩
        · omega
        · exact absurd (by decide) k2
      · rcases c3 with ⟨_, k2, k3⟩ | ⟨k1, _⟩
        rotate_left
        · omega
        have W1 := zB_Wd k3.1.1
        have hD1 : yDd 22 33 d H1 := yDd_F hwc c2 rfl rfl ⟨hD, hX⟩
        obtain ⟨_, d1, d2⟩ := yc_curr22 (L := L) (σ := σ) (dd := dd + 59) (cp := 33) (Or.inr rfl) k3 hD1
        have d2 := yRL_R (s := (0, [], 0, 0, 0, d, p)) (yR2_s (yN2_0.trans (y0_14 hk h9))) d2 (ys_le1 h.2.2)
        obtain ⟨v2, H2, rfl, d3⟩ := d2
        refine zw_ld (n := 1) (k := 0) (f := zp_isR) (pc' := 137) rfl rfl rfl rfl rfl ?_
        refine zw_ld (n := 1) (k := 2) (f := zp_isR) (pc' := 138) rfl rfl rfl rfl rfl ?_
        refine zw_c (pc' := 141) (zw_cv (q := 51) (Y := zm_71) W1.1 rfl rfl zm_71_t rfl rfl) rfl rfl rfl rfl rfl (d1) ?_
        refine zw_beq1 (g := 148) (pc' := 144) rfl rfl rfl rfl (fun hy => ?_) (fun hy => ?_)
        · refine zw_s (pc' := 149) rfl rfl ?_
          refine zw_rz rfl rfl (by decide) ?_
          have ez : v2 = Int32.ofInt 0 := Int32.toInt_inj.mp hy
          exact ⟨_, H2, rfl, by rw [← ez]; exact d3⟩
        · refine zw_s (pc' := 145) rfl rfl ?_
          refine zw_s (pc' := 149) rfl rfl ?_
          refine zw_rz rfl rfl (by decide) ?_
          have ez : v2 = Int32.ofInt 1 := by
            rcases d3 with ⟨d3, _⟩ | ⟨d3, _⟩
            · exact Int32.toInt_inj.mp d3
            · exact absurd d3 hy
          exact ⟨_, H2, rfl, by rw [← ez]; exact d3⟩
    · have ev : H.2.1 52 5 = Int32.ofInt 15 := Int32.toInt_inj.mp (hv.trans h9)
      rw [ev]
      refine zw_s (pc' := 150) rfl rfl ?_
      refine zw_ld (n := 1) (k := 0) (f := zp_isR) (pc' := 151) rfl rfl rfl rfl rfl ?_
      refine zw_ld (n := 1) (k := 3) (f := zp_isR) (pc' := 152) rfl rfl rfl rfl rfl ?_
      refine zw_gI (q := 33) (pc' := 155) W rfl rfl rfl rfl rfl rfl ?_
      refine zw_s (pc' := 157) rfl rfl ?_
      have hcnt : (H.2.1 33 0).toInt = d.1 4 := hD.2.2.1
      have hmo : (Int32.ofInt 8).toInt = 8 := rfl
      obtain ⟨_, c1, v, H1, rfl, c2, c3⟩ := yc_hc (L := L) (σ := σ) (d := dd + 60) (x := H.2.1 33 0) (y := Int32.ofInt 8) h
      refine zw_c (pc' := 160) (zw_cv (q := 51) (Y := zm_68) W.1 rfl rfl zm_68_t rfl rfl) rfl rfl rfl rfl rfl (c1) ?_
      refine zw_beq1 (g := 176) (pc' := 163) rfl rfl rfl rfl (fun hz => ?_) (fun hz => ?_)
      · refine zw_s (pc' := 177) rfl rfl ?_
        refine zw_rz rfl rfl (by decide) ?_
        rcases c3 with ⟨k1, _⟩ | ⟨_, k2, k3, k4⟩
        · omega
        · exact yRL_0 k4 k3 (yA2_done ((yN2_0.trans (y0_15 hk h9)).trans (if_neg (by omega)))) (show 1 ≤ (2 : Int) ∧ (2 : Int) ≤ 5 from by decide)
      · rcases c3 with ⟨_, k2, k3⟩ | ⟨k1, _⟩
        rotate_left
        · omega
        have W1 := zB_Wd k3.1.1
        have hD1 : yDd 22 33 d H1 := yDd_F hwc c2 rfl rfl ⟨hD, hX⟩
        obtain ⟨_, d1, d2⟩ := yc_slate22_33 (L := L) (σ := σ) (dd := dd + 59) (by omega) k3 hD1
        have d2 := yRL_R (s := (0, [], 0, 0, 0, d, p)) (yR2_s ((yN2_0.trans (y0_15 hk h9)).trans (if_pos (by omega)))) d2 (ys_le1 h.2.2)
        obtain ⟨v2, H2, rfl, d3⟩ := d2
        refine zw_ld (n := 1) (k := 0) (f := zp_isR) (pc' := 164) rfl rfl rfl rfl rfl ?_
        refine zw_ld (n := 1) (k := 2) (f := zp_isR) (pc' := 165) rfl rfl rfl rfl rfl ?_
        refine zw_ld (n := 1) (k := 3) (f := zp_isR) (pc' := 166) rfl rfl rfl rfl rfl ?_
        refine zw_c (pc' := 169) (zw_cv (q := 51) (Y := zm_76) W1.1 rfl rfl zm_76_t rfl rfl) rfl rfl rfl rfl rfl (d1) ?_
        refine zw_beq1 (g := 176) (pc' := 172) rfl rfl rfl rfl (fun hy => ?_) (fun hy => ?_)
        · refine zw_s (pc' := 177) rfl rfl ?_
          refine zw_rz rfl rfl (by decide) ?_
          have ez : v2 = Int32.ofInt 0 := Int32.toInt_inj.mp hy
          exact ⟨_, H2, rfl, by rw [← ez]; exact d3⟩
        · refine zw_s (pc' := 173) rfl rfl ?_
          refine zw_s (pc' := 177) rfl rfl ?_
          refine zw_rz rfl rfl (by decide) ?_
          have ez : v2 = Int32.ofInt 1 := by
            rcases d3 with ⟨d3, _⟩ | ⟨d3, _⟩
            · exact Int32.toInt_inj.mp d3
            · exact absurd d3 hy
          exact ⟨_, H2, rfl, by rw [← ez]; exact d3⟩
    · have ev : H.2.1 52 5 = Int32.ofInt 16 := Int32.toInt_inj.mp (hv.trans h9)
      rw [ev]
      refine zw_s (pc' := 178) rfl rfl ?_
      refine zw_ld (n := 1) (k := 0) (f := zp_isR) (pc' := 179) rfl rfl rfl rfl rfl ?_
      refine zw_ld (n := 1) (k := 2) (f := zp_isR) (pc' := 180) rfl rfl rfl rfl rfl ?_
      refine zw_gI (q := 22) (pc' := 183) W rfl rfl rfl rfl rfl rfl ?_
      refine zw_s (pc' := 184) rfl rfl ?_
      have hcnt : (H.2.1 22 7).toInt = d.1 5 := hD.2.2.2.1
      have hmo : (Int32.ofInt 5).toInt = 5 := rfl
      obtain ⟨_, c1, v, H1, rfl, c2, c3⟩ := yc_hc (L := L) (σ := σ) (d := dd + 60) (x := H.2.1 22 7) (y := Int32.ofInt 5) h
      refine zw_c (pc' := 187) (zw_cv (q := 51) (Y := zm_68) W.1 rfl rfl zm_68_t rfl rfl) rfl rfl rfl rfl rfl (c1) ?_
      refine zw_beq1 (g := 202) (pc' := 190) rfl rfl rfl rfl (fun hz => ?_) (fun hz => ?_)
      · refine zw_s (pc' := 203) rfl rfl ?_
        refine zw_rz rfl rfl (by decide) ?_
        rcases c3 with ⟨k1, _⟩ | ⟨_, k2, k3, k4⟩
        · omega
        · exact yRL_0 k4 k3 (yA2_done ((yN2_0.trans (y0_16 hk h9)).trans (if_neg (by omega)))) (show 1 ≤ (2 : Int) ∧ (2 : Int) ≤ 5 from by decide)
      · rcases c3 with ⟨_, k2, k3⟩ | ⟨k1, _⟩
        rotate_left
        · omega
        have W1 := zB_Wd k3.1.1
        have hD1 : yDd 22 33 d H1 := yDd_F hwc c2 rfl rfl ⟨hD, hX⟩
        obtain ⟨_, d1, d2⟩ := yc_hand22 (L := L) (σ := σ) (dd := dd + 59) (cp := 33) (Or.inr rfl) (by omega) k3 hD1
        have d2 := yRL_R (s := (0, [], 0, 0, 0, d, p)) (yR2_s ((yN2_0.trans (y0_16 hk h9)).trans (if_pos (by omega)))) d2 (ys_le1 h.2.2)
        obtain ⟨v2, H2, rfl, d3⟩ := d2
        refine zw_ld (n := 1) (k := 0) (f := zp_isR) (pc' := 191) rfl rfl rfl rfl rfl ?_
        refine zw_ld (n := 1) (k := 2) (f := zp_isR) (pc' := 192) rfl rfl rfl rfl rfl ?_
        refine zw_c (pc' := 195) (zw_cv (q := 51) (Y := zm_79) W1.1 rfl rfl zm_79_t rfl rfl) rfl rfl rfl rfl rfl (d1) ?_
        refine zw_beq1 (g := 202) (pc' := 198) rfl rfl rfl rfl (fun hy => ?_) (fun hy => ?_)
        · refine zw_s (pc' := 203) rfl rfl ?_
          refine zw_rz rfl rfl (by decide) ?_
          have ez : v2 = Int32.ofInt 0 := Int32.toInt_inj.mp hy
          exact ⟨_, H2, rfl, by rw [← ez]; exact d3⟩
        · refine zw_s (pc' := 199) rfl rfl ?_
          refine zw_s (pc' := 203) rfl rfl ?_
          refine zw_rz rfl rfl (by decide) ?_
          have ez : v2 = Int32.ofInt 1 := by
            rcases d3 with ⟨d3, _⟩ | ⟨d3, _⟩
            · exact Int32.toInt_inj.mp d3
            · exact absurd d3 hy
          exact ⟨_, H2, rfl, by rw [← ez]; exact d3⟩
    · have ev : H.2.1 52 5 = Int32.ofInt 17 := Int32.toInt_inj.mp (hv.trans h9)
      rw [ev]
      refine zw_s (pc' := 204) rfl rfl ?_
      refine zw_ld (n := 1) (k := 0) (f := zp_isR) (pc' := 205) rfl rfl rfl rfl rfl ?_
      refine zw_ld (n := 1) (k := 0) (f := zp_isR) (pc' := 206) rfl rfl rfl rfl rfl ?_
      refine zw_gI (q := 51) (pc' := 209) W rfl rfl rfl rfl rfl rfl ?_
      have hs : (H.2.1 51 2).toInt = d.1 8 := hD.2.2.2.2.2.2.1
      refine zw_bne1 (g := 216) (pc' := 212) rfl rfl rfl rfl (fun hfl => ?_) (fun hfl => ?_)
      · obtain ⟨_, c1, v, H1, rfl, c2, c3⟩ := yc_hd (L := L) (σ := σ) (d := dd + 60) (x := Int32.ofInt 0) h
        refine zw_s (pc' := 217) rfl rfl ?_
        refine zw_c (pc' := 220) (zw_cv (q := 51) (Y := zm_63) W.1 rfl rfl zm_63_t rfl rfl) rfl rfl rfl rfl rfl (c1) ?_
        refine zw_beq1 (g := 235) (pc' := 223) rfl rfl rfl rfl (fun hz => ?_) (fun hz => ?_)
        · refine zw_s (pc' := 236) rfl rfl ?_
          refine zw_rz rfl rfl (by decide) ?_
          rcases c3 with ⟨k1, _⟩ | ⟨_, k2, k3, k4⟩
          · omega
          · exact yRL_0 k4 k3 (yA2_done ((yN2_0.trans (y0_17 hk h9)).trans (if_neg (by omega)))) (show 1 ≤ (5 : Int) ∧ (5 : Int) ≤ 5 from by decide)
        · rcases c3 with ⟨_, k2, k3⟩ | ⟨k1, _⟩
          · exact absurd rfl k2
          · omega
      · obtain ⟨_, c1, v, H1, rfl, c2, c3⟩ := yc_hd (L := L) (σ := σ) (d := dd + 60) (x := Int32.ofInt 1) h
        refine zw_s (pc' := 213) rfl rfl ?_
        refine zw_s (pc' := 217) rfl rfl ?_
        refine zw_c (pc' := 220) (zw_cv (q := 51) (Y := zm_63) W.1 rfl rfl zm_63_t rfl rfl) rfl rfl rfl rfl rfl (c1) ?_
        refine zw_beq1 (g := 235) (pc' := 223) rfl rfl rfl rfl (fun hz => ?_) (fun hz => ?_)
        · refine zw_s (pc' := 236) rfl rfl ?_
          refine zw_rz rfl rfl (by decide) ?_
          rcases c3 with ⟨k1, _⟩ | ⟨_, k2, k3, k4⟩
          · omega
          · exact yRL_0 k4 k3 (yA2_done ((yN2_0.trans (y0_17 hk h9)).trans (if_neg (fun _ => k2 (by decide))))) (show 1 ≤ (5 : Int) ∧ (5 : Int) ≤ 5 from by decide)
        · rcases c3 with ⟨_, k2, k3⟩ | ⟨k1, _⟩
          rotate_left
          · omega
          have W1 := zB_Wd k3.1.1
          have hD1 : yDd 22 33 d H1 := yDd_F hwc c2 rfl rfl ⟨hD, hX⟩
          obtain ⟨_, d1, d2⟩ := yc_school22 (L := L) (σ := σ) (dd := dd + 59) (cp := 33) (Or.inr rfl) k3 hD1
          have d2 := yRL_R (s := (0, [], 0, 0, 0, d, p)) (yR2_s ((yN2_0.trans (y0_17 hk h9)).trans (if_pos (by omega)))) d2 (ys_le1 h.2.2)
          obtain ⟨v2, H2, rfl, d3⟩ := d2
          refine zw_ld (n := 1) (k := 0) (f := zp_isR) (pc' := 224) rfl rfl rfl rfl rfl ?_
          refine zw_ld (n := 1) (k := 2) (f := zp_isR) (pc' := 225) rfl rfl rfl rfl rfl ?_
          refine zw_c (pc' := 228) (zw_cv (q := 51) (Y := zm_80) W1.1 rfl rfl zm_80_t rfl rfl) rfl rfl rfl rfl rfl (d1) ?_
          refine zw_beq1 (g := 235) (pc' := 231) rfl rfl rfl rfl (fun hy => ?_) (fun hy => ?_)
          · refine zw_s (pc' := 236) rfl rfl ?_
            refine zw_rz rfl rfl (by decide) ?_
            have ez : v2 = Int32.ofInt 0 := Int32.toInt_inj.mp hy
            exact ⟨_, H2, rfl, by rw [← ez]; exact d3⟩
          · refine zw_s (pc' := 232) rfl rfl ?_
            refine zw_s (pc' := 236) rfl rfl ?_
            refine zw_rz rfl rfl (by decide) ?_
            have ez : v2 = Int32.ofInt 1 := by
              rcases d3 with ⟨d3, _⟩ | ⟨d3, _⟩
              · exact Int32.toInt_inj.mp d3
              · exact absurd d3 hy
            exact ⟨_, H2, rfl, by rw [← ez]; exact d3⟩
    · have ev : H.2.1 52 5 = Int32.ofInt 18 := Int32.toInt_inj.mp (hv.trans h9)
      rw [ev]
      refine zw_s (pc' := 237) rfl rfl ?_
      refine zw_ld (n := 1) (k := 0) (f := zp_isR) (pc' := 238) rfl rfl rfl rfl rfl ?_
      refine zw_ld (n := 1) (k := 0) (f := zp_isR) (pc' := 239) rfl rfl rfl rfl rfl ?_
      refine zw_gI (q := 51) (pc' := 242) W rfl rfl rfl rfl rfl rfl ?_
      have hs : (H.2.1 51 3).toInt = d.1 9 := hD.2.2.2.2.2.2.2.1
      refine zw_bne1 (g := 249) (pc' := 245) rfl rfl rfl rfl (fun hfl => ?_) (fun hfl => ?_)
      · obtain ⟨_, c1, v, H1, rfl, c2, c3⟩ := yc_hd (L := L) (σ := σ) (d := dd + 60) (x := Int32.ofInt 0) h
        refine zw_s (pc' := 250) rfl rfl ?_
        refine zw_c (pc' := 253) (zw_cv (q := 51) (Y := zm_63) W.1 rfl rfl zm_63_t rfl rfl) rfl rfl rfl rfl rfl (c1) ?_
        refine zw_beq1 (g := 268) (pc' := 256) rfl rfl rfl rfl (fun hz => ?_) (fun hz => ?_)
        · refine zw_s (pc' := 269) rfl rfl ?_
          refine zw_rz rfl rfl (by decide) ?_
          rcases c3 with ⟨k1, _⟩ | ⟨_, k2, k3, k4⟩
          · omega
          · exact yRL_0 k4 k3 (yA2_done ((yN2_0.trans (y0_18 hk h9)).trans (if_neg (by omega)))) (show 1 ≤ (5 : Int) ∧ (5 : Int) ≤ 5 from by decide)
        · rcases c3 with ⟨_, k2, k3⟩ | ⟨k1, _⟩
          · exact absurd rfl k2
          · omega
      · obtain ⟨_, c1, v, H1, rfl, c2, c3⟩ := yc_hd (L := L) (σ := σ) (d := dd + 60) (x := Int32.ofInt 1) h
        refine zw_s (pc' := 246) rfl rfl ?_
        refine zw_s (pc' := 250) rfl rfl ?_
        refine zw_c (pc' := 253) (zw_cv (q := 51) (Y := zm_63) W.1 rfl rfl zm_63_t rfl rfl) rfl rfl rfl rfl rfl (c1) ?_
        refine zw_beq1 (g := 268) (pc' := 256) rfl rfl rfl rfl (fun hz => ?_) (fun hz => ?_)
        · refine zw_s (pc' := 269) rfl rfl ?_
          refine zw_rz rfl rfl (by decide) ?_
          rcases c3 with ⟨k1, _⟩ | ⟨_, k2, k3, k4⟩
          · omega
          · exact yRL_0 k4 k3 (yA2_done ((yN2_0.trans (y0_18 hk h9)).trans (if_neg (fun _ => k2 (by decide))))) (show 1 ≤ (5 : Int) ∧ (5 : Int) ≤ 5 from by decide)
        · rcases c3 with ⟨_, k2, k3⟩ | ⟨k1, _⟩
          rotate_left
          · omega
          have W1 := zB_Wd k3.1.1
          have hD1 : yDd 22 33 d H1 := yDd_F hwc c2 rfl rfl ⟨hD, hX⟩
          obtain ⟨_, d1, d2⟩ := yc_goal22 (L := L) (σ := σ) (dd := dd + 59) (cp := 33) (Or.inr rfl) k3 hD1
          have d2 := yRL_R (s := (0, [], 0, 0, 0, d, p)) (yR2_s ((yN2_0.trans (y0_18 hk h9)).trans (if_pos (by omega)))) d2 (ys_le1 h.2.2)
          obtain ⟨v2, H2, rfl, d3⟩ := d2
          refine zw_ld (n := 1) (k := 0) (f := zp_isR) (pc' := 257) rfl rfl rfl rfl rfl ?_
          refine zw_ld (n := 1) (k := 2) (f := zp_isR) (pc' := 258) rfl rfl rfl rfl rfl ?_
          refine zw_c (pc' := 261) (zw_cv (q := 51) (Y := zm_81) W1.1 rfl rfl zm_81_t rfl rfl) rfl rfl rfl rfl rfl (d1) ?_
          refine zw_beq1 (g := 268) (pc' := 264) rfl rfl rfl rfl (fun hy => ?_) (fun hy => ?_)
          · refine zw_s (pc' := 269) rfl rfl ?_
            refine zw_rz rfl rfl (by decide) ?_
            have ez : v2 = Int32.ofInt 0 := Int32.toInt_inj.mp hy
            exact ⟨_, H2, rfl, by rw [← ez]; exact d3⟩
          · refine zw_s (pc' := 265) rfl rfl ?_
            refine zw_s (pc' := 269) rfl rfl ?_
            refine zw_rz rfl rfl (by decide) ?_
            have ez : v2 = Int32.ofInt 1 := by
              rcases d3 with ⟨d3, _⟩ | ⟨d3, _⟩
              · exact Int32.toInt_inj.mp d3
              · exact absurd d3 hy
            exact ⟨_, H2, rfl, by rw [← ez]; exact d3⟩
    · have ev : H.2.1 52 5 = Int32.ofInt 19 := Int32.toInt_inj.mp (hv.trans h9)
      rw [ev]
      refine zw_s (pc' := 270) rfl rfl ?_
      refine zw_ld (n := 1) (k := 0) (f := zp_isR) (pc' := 271) rfl rfl rfl rfl rfl ?_
      refine zw_ld (n := 1) (k := 2) (f := zp_isR) (pc' := 272) rfl rfl rfl rfl rfl ?_
      refine zw_gI (q := 22) (pc' := 275) W rfl rfl rfl rfl rfl rfl ?_
      refine zw_s (pc' := 276) rfl rfl ?_
      have hcnt : (H.2.1 22 12).toInt = d.1 6 := hD.2.2.2.2.1
      have hmo : (Int32.ofInt 4).toInt = 4 := rfl
      obtain ⟨_, c1, v, H1, rfl, c2, c3⟩ := yc_hc (L := L) (σ := σ) (d := dd + 60) (x := H.2.1 22 12) (y := Int32.ofInt 4) h
      refine zw_c (pc' := 279) (zw_cv (q := 51) (Y := zm_68) W.1 rfl rfl zm_68_t rfl rfl) rfl rfl rfl rfl rfl (c1) ?_
      refine zw_beq1 (g := 295) (pc' := 282) rfl rfl rfl rfl (fun hz => ?_) (fun hz => ?_)
      · refine zw_s (pc' := 296) rfl rfl ?_
        refine zw_rz rfl rfl (by decide) ?_
        rcases c3 with ⟨k1, _⟩ | ⟨_, k2, k3, k4⟩
        · omega
        · exact yRL_0 k4 k3 (yA2_done ((yN2_0.trans (y0_19 hk h9)).trans (if_neg (by omega)))) (show 1 ≤ (2 : Int) ∧ (2 : Int) ≤ 5 from by decide)
      · rcases c3 with ⟨_, k2, k3⟩ | ⟨k1, _⟩
        rotate_left
        · omega
        have W1 := zB_Wd k3.1.1
        have hD1 : yDd 22 33 d H1 := yDd_F hwc c2 rfl rfl ⟨hD, hX⟩
        obtain ⟨_, d1, d2⟩ := yc_pilot22_33 (L := L) (σ := σ) (dd := dd + 59) (by omega) k3 hD1
        have d2 := yRL_R (s := (0, [], 0, 0, 0, d, p)) (yR2_s ((yN2_0.trans (y0_19 hk h9)).trans (if_pos (by omega)))) d2 (ys_le1 h.2.2)
        obtain ⟨v2, H2, rfl, d3⟩ := d2
        refine zw_ld (n := 1) (k := 0) (f := zp_isR) (pc' := 283) rfl rfl rfl rfl rfl ?_
        refine zw_ld (n := 1) (k := 2) (f := zp_isR) (pc' := 284) rfl rfl rfl rfl rfl ?_
        refine zw_ld (n := 1) (k := 3) (f := zp_isR) (pc' := 285) rfl rfl rfl rfl rfl ?_
        refine zw_c (pc' := 288) (zw_cv (q := 51) (Y := zm_82) W1.1 rfl rfl zm_82_t rfl rfl) rfl rfl rfl rfl rfl (d1) ?_
        refine zw_beq1 (g := 295) (pc' := 291) rfl rfl rfl rfl (fun hy => ?_) (fun hy => ?_)
        · refine zw_s (pc' := 296) rfl rfl ?_
          refine zw_rz rfl rfl (by decide) ?_
          have ez : v2 = Int32.ofInt 0 := Int32.toInt_inj.mp hy
          exact ⟨_, H2, rfl, by rw [← ez]; exact d3⟩
        · refine zw_s (pc' := 292) rfl rfl ?_
          refine zw_s (pc' := 296) rfl rfl ?_
          refine zw_rz rfl rfl (by decide) ?_
          have ez : v2 = Int32.ofInt 1 := by
            rcases d3 with ⟨d3, _⟩ | ⟨d3, _⟩
            · exact Int32.toInt_inj.mp d3
            · exact absurd d3 hy
          exact ⟨_, H2, rfl, by rw [← ez]; exact d3⟩
    · have ev : H.2.1 52 5 = Int32.ofInt 20 := Int32.toInt_inj.mp (hv.trans h9)
      rw [ev]
      refine zw_s (pc' := 297) rfl rfl ?_
      refine zw_ld (n := 1) (k := 0) (f := zp_isR) (pc' := 298) rfl rfl rfl rfl rfl ?_
      refine zw_ld (n := 1) (k := 2) (f := zp_isR) (pc' := 299) rfl rfl rfl rfl rfl ?_
      refine zw_gI (q := 22) (pc' := 302) W rfl rfl rfl rfl rfl rfl ?_
      refine zw_s (pc' := 304) rfl rfl ?_
      have hcnt : (H.2.1 22 16).toInt = d.1 7 := hD.2.2.2.2.2.1
      have hmo : (Int32.ofInt 8).toInt = 8 := rfl
      obtain ⟨_, c1, v, H1, rfl, c2, c3⟩ := yc_hc (L := L) (σ := σ) (d := dd + 60) (x := H.2.1 22 16) (y := Int32.ofInt 8) h
      refine zw_c (pc' := 307) (zw_cv (q := 51) (Y := zm_68) W.1 rfl rfl zm_68_t rfl rfl) rfl rfl rfl rfl rfl (c1) ?_
      refine zw_beq1 (g := 322) (pc' := 310) rfl rfl rfl rfl (fun hz => ?_) (fun hz => ?_)
      · refine zw_s (pc' := 323) rfl rfl ?_
        refine zw_rz rfl rfl (by decide) ?_
        rcases c3 with ⟨k1, _⟩ | ⟨_, k2, k3, k4⟩
        · omega
        · exact yRL_0 k4 k3 (yA2_done ((yN2_0.trans (y0_20 hk h9)).trans (if_neg (by omega)))) (show 1 ≤ (2 : Int) ∧ (2 : Int) ≤ 5 from by decide)
      · rcases c3 with ⟨_, k2, k3⟩ | ⟨k1, _⟩
        rotate_left
        · omega
        have W1 := zB_Wd k3.1.1
        have hD1 : yDd 22 33 d H1 := yDd_F hwc c2 rfl rfl ⟨hD, hX⟩
        obtain ⟨_, d1, d2⟩ := yc_rule22 (L := L) (σ := σ) (dd := dd + 1) (cp := 33) (Or.inr rfl) k3 hD1 (by omega)
        have d2 := yRL_R (s := (0, [], 0, 0, 0, d, p)) (yR2_s ((yN2_0.trans (y0_20 hk h9)).trans (if_pos (by omega)))) d2 (ys_le1 h.2.2)
        obtain ⟨v2, H2, rfl, d3⟩ := d2
        refine zw_ld (n := 1) (k := 0) (f := zp_isR) (pc' := 311) rfl rfl rfl rfl rfl ?_
        refine zw_ld (n := 1) (k := 2) (f := zp_isR) (pc' := 312) rfl rfl rfl rfl rfl ?_
        refine zw_c (pc' := 315) (zw_cv (q := 51) (Y := zm_84) W1.1 rfl rfl zm_84_t rfl rfl) rfl rfl rfl rfl rfl (d1) ?_
        refine zw_beq1 (g := 322) (pc' := 318) rfl rfl rfl rfl (fun hy => ?_) (fun hy => ?_)
        · refine zw_s (pc' := 323) rfl rfl ?_
          refine zw_rz rfl rfl (by decide) ?_
          have ez : v2 = Int32.ofInt 0 := Int32.toInt_inj.mp hy
          exact ⟨_, H2, rfl, by rw [← ez]; exact d3⟩
        · refine zw_s (pc' := 319) rfl rfl ?_
          refine zw_s (pc' := 323) rfl rfl ?_
          refine zw_rz rfl rfl (by decide) ?_
          have ez : v2 = Int32.ofInt 1 := by
            rcases d3 with ⟨d3, _⟩ | ⟨d3, _⟩
            · exact Int32.toInt_inj.mp d3
            · exact absurd d3 hy
          exact ⟨_, H2, rfl, by rw [← ez]; exact d3⟩
    · have ev : H.2.1 52 5 = Int32.ofInt 21 := Int32.toInt_inj.mp (hv.trans h9)
      rw [ev]
      refine zw_s (pc' := 324) rfl rfl ?_
      refine zw_ld (n := 1) (k := 0) (f := zp_isR) (pc' := 325) rfl rfl rfl rfl rfl ?_
      refine zw_s (pc' := 326) rfl rfl ?_
      obtain ⟨K, e1, e2, e3, e4⟩ := yc_ref (L := L) (σ := σ) (d := dd + 63) (x := Int32.ofInt 1) h
      refine zw_c (pc' := 329) (zw_cv (q := 51) (Y := zm_62) W.1 rfl rfl zm_62_t rfl rfl) rfl rfl rfl rfl rfl (e1) ?_
      refine zw_rz rfl rfl (by decide) ?_
      exact yRL_0 e2 e4 (yA2_done (yN2_0.trans (y0_x hk (by omega)))) (show 1 ≤ (1 : Int) ∧ (1 : Int) ≤ 5 from by decide)
  · have hk3 : ys_kd T n p ≠ 3 := by omega
    refine zw_ld (n := 1) (k := 0) (f := zp_isR) (pc' := 12) rfl rfl rfl rfl rfl ?_
    refine zw_s (pc' := 13) rfl rfl ?_
    obtain ⟨K, e1, e2, e3, e4⟩ := yc_ref (L := L) (σ := σ) (d := dd + 63) (x := Int32.ofInt 1) h
    refine zw_c (pc' := 16) (zw_cv (q := 51) (Y := zm_62) W.1 rfl rfl zm_62_t rfl rfl) rfl rfl rfl rfl rfl (e1) ?_
    refine zw_rz rfl rfl (by decide) ?_
    exact yRL_0 e2 e4 (yA2_done (yN2_0.trans (y0_n hk3 h0))) (show 1 ≤ (1 : Int) ∧ (1 : Int) ≤ 5 from by decide)
