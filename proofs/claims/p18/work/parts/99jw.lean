/-! ===== voyage ===== -/
def zm_118 : za_MI := (yL_voyage, method_10_code, 5, (some FieldType.int), 13, 2, 12, [(0, 10, 13, 18)], za_i118)
theorem zm_118_t : za_MT 118 = some zm_118 := rfl
def zm_119 : za_MI := (yX11_voyage, prog_1_method_14_code, 3, (some FieldType.int), 11, 2, 12, [], za_i119)
theorem zm_119_t : za_MT 119 = some zm_119 := rfl
def zm_219 : za_MI := (yX12_voyage, prog_14_method_61_code, 3, (some FieldType.int), 12, 0, 0, [], za_i219)
theorem zm_219_t : za_MT 219 = some zm_219 := rfl
theorem xFv_W {q : Nat} {H H1 : zp_H} (h : xFv q H H1) (W : zw_W H) : zw_W H1 := ⟨h.1.trans W.1, fun p k r hr => (congrFun (congrFun h.2.1 p) k).trans (W.2 p k r hr)⟩
theorem xFs_W {a b : Nat} {H H1 : zp_H} (h : xFs a b H H1) (W : zw_W H) : zw_W H1 := ⟨h.1.trans W.1, fun p k r hr => (congrFun (congrFun h.2.1 p) k).trans (W.2 p k r hr)⟩
/-- the sea that both sides hold -/
def xSo (H : zp_H) : xSea := ((H.2.1 72 1).toInt, (H.2.1 72 2).toInt, H.2.2.1 72 12, fun k => if k < 64 then (H.2.1 73 k).toInt else -1)
theorem xSR_o (H : zp_H) : xSR H (xSo H) := ⟨rfl, rfl, rfl, fun k hk => (show _ = (if k < 64 then (H.2.1 73 k).toInt else -1) from (if_pos hk).symm)⟩
theorem xSR_0 {H : zp_H} {S : xSea} {x : Int32} (h : xSR H S) : xSR (zw_I H 72 0 x) S := ⟨(congrArg Int32.toInt (zw_ne rfl rfl)).trans h.1, (congrArg Int32.toInt (zw_ne rfl rfl)).trans h.2.1, h.2.2.1, fun k hk => (congrArg Int32.toInt (zw_ne rfl rfl)).trans (h.2.2.2 k hk)⟩
theorem xSR_J {H : zp_H} {S : xSea} {u : Int64} (h : xSR H S) : xSR (zw_J H 104 0 u) S := ⟨h.1, h.2.1, (show (zw_J H 104 0 u).2.2.1 72 12 = H.2.2.1 72 12 from by first | exact zp_u_ne (show ¬ ((72 : Nat) = 104 ∧ (12 : Nat) = 0) by decide) | rfl).trans h.2.2.1, h.2.2.2⟩
theorem xSR_v {q : Nat} {H H1 : zp_H} {S : xSea} (h : xFv q H H1) (hq : q < 72) (hR : xSR H S) : xSR H1 S := ⟨(congrArg Int32.toInt (h.2.2.1 72 1 (by omega))).trans hR.1, (congrArg Int32.toInt (h.2.2.1 72 2 (by omega))).trans hR.2.1, (h.2.2.2 72 12 (by omega)).trans hR.2.2.1, fun k hk => (congrArg Int32.toInt (h.2.2.1 73 k (by omega))).trans (hR.2.2.2 k hk)⟩

theorem xJ_S0 {t : Nat} {H : zp_H} (hJ : yJ 0 t H) : xOk (xSo H) ∧ xSC 2 H (xSo H) := by
  have hB := hJ.1.1.1
  obtain ⟨-, q2, q3, -, q5, -⟩ := hJ.1.2.2
  have e0 : H.2.1 2 0 = H.2.1 72 1 := q2 (0, 1) (by decide)
  have e1 : H.2.1 2 1 = H.2.1 72 2 := q2 (1, 2) (by decide)
  have e3 : H.2.2.1 2 3 = H.2.2.1 72 12 := q3
  have e5 : ∀ i, i < 64 → H.2.1 4 i = H.2.1 73 i := q5
  have b0 := zB_fr1 (zB_dn (zB_Bc hB)) (p := 2) (k := 0) (r := (2, 8)) rfl
  have b0 : 2 ≤ (H.2.1 2 0).toInt ∧ (H.2.1 2 0).toInt ≤ 8 := b0
  have b1 := zB_fr1 (zB_dn (zB_Bc hB)) (p := 2) (k := 1) (r := (2, 8)) rfl
  have b1 : 2 ≤ (H.2.1 2 1).toInt ∧ (H.2.1 2 1).toInt ≤ 8 := b1
  have hQ := hB.2.2.2.2.2.2.2
  refine ⟨⟨by show 2 ≤ (H.2.1 72 1).toInt ∧ (H.2.1 72 1).toInt ≤ 8; rw [← e0]; exact b0, by show 2 ≤ (H.2.1 72 2).toInt ∧ (H.2.1 72 2).toInt ≤ 8; rw [← e1]; exact b1, fun k => ?_⟩, congrArg Int32.toInt e0, congrArg Int32.toInt e1, e3, fun k hk => ?_, fun k hk => ?_⟩
  · show -1 ≤ (if k < 64 then (H.2.1 73 k).toInt else -1) ∧ (if k < 64 then (H.2.1 73 k).toInt else -1) ≤ 3
    by_cases hk : k < 64
    · rw [if_pos hk, ← e5 k hk]
      have b := zB_ar1 (zB_dn (zB_Bc hB)) (p := 4) (t := 0) (n := 64) (i := k) (r := (-1, 3)) rfl hk (by rw [show (zB_al zB_ar 4).1 = 1 from rfl, Nat.mod_one]; rfl)
      exact b
    · rw [if_neg hk]
      exact ⟨by decide, by decide⟩
  · show (H.2.1 4 k).toInt = (if k < 64 then (H.2.1 73 k).toInt else -1)
    rw [if_pos hk, e5 k hk]
  · exact hQ.1.2 k hk

theorem xJ_S3 {t : Nat} {H : zp_H} (hJ : yJ 3 t H) : xOk (xSo H) ∧ xSC 22 H (xSo H) := by
  have hB := hJ.1.1.1
  obtain ⟨-, q2, q3, -, q5, -⟩ := hJ.1.2.2
  have e0 : H.2.1 22 0 = H.2.1 72 1 := q2 (0, 1) (by decide)
  have e1 : H.2.1 22 1 = H.2.1 72 2 := q2 (1, 2) (by decide)
  have e3 : H.2.2.1 22 3 = H.2.2.1 72 12 := q3
  have e5 : ∀ i, i < 64 → H.2.1 24 i = H.2.1 73 i := q5
  have b0 := zB_fr1 (zB_dn (zB_Bc hB)) (p := 22) (k := 0) (r := (2, 8)) rfl
  have b0 : 2 ≤ (H.2.1 22 0).toInt ∧ (H.2.1 22 0).toInt ≤ 8 := b0
  have b1 := zB_fr1 (zB_dn (zB_Bc hB)) (p := 22) (k := 1) (r := (2, 8)) rfl
  have b1 : 2 ≤ (H.2.1 22 1).toInt ∧ (H.2.1 22 1).toInt ≤ 8 := b1
  have hQ := hB.2.2.2.2.2.2.2
  refine ⟨⟨by show 2 ≤ (H.2.1 72 1).toInt ∧ (H.2.1 72 1).toInt ≤ 8; rw [← e0]; exact b0, by show 2 ≤ (H.2.1 72 2).toInt ∧ (H.2.1 72 2).toInt ≤ 8; rw [← e1]; exact b1, fun k => ?_⟩, congrArg Int32.toInt e0, congrArg Int32.toInt e1, e3, fun k hk => ?_, fun k hk => ?_⟩
  · show -1 ≤ (if k < 64 then (H.2.1 73 k).toInt else -1) ∧ (if k < 64 then (H.2.1 73 k).toInt else -1) ≤ 3
    by_cases hk : k < 64
    · rw [if_pos hk, ← e5 k hk]
      have b := zB_ar1 (zB_dn (zB_Bc hB)) (p := 24) (t := 0) (n := 64) (i := k) (r := (-1, 3)) rfl hk (by rw [show (zB_al zB_ar 24).1 = 1 from rfl, Nat.mod_one]; rfl)
      exact b
    · rw [if_neg hk]
      exact ⟨by decide, by decide⟩
  · show (H.2.1 24 k).toInt = (if k < 64 then (H.2.1 73 k).toInt else -1)
    rw [if_pos hk, e5 k hk]
  · exact hQ.2.2 k hk

theorem yc_vo0_0 {L : Nat} {σ : Nat → Int32} {d : Nat} {H : zp_H} {x1 : Int32} (hB : zk_Bs (zB_c 0) zg zJc H) {S : xSea} (hS : xOk S) (hC : xSC 2 H S) (hs : 0 ≤ x1.toInt ∧ x1.toInt < (H.2.1 13 0).toInt) (hm : 0 ≤ (H.2.1 16 x1.toInt.toNat).toInt ∧ (H.2.1 16 x1.toInt.toNat).toInt ≤ 8) (hw : ∀ j, j < (H.2.1 16 x1.toInt.toNat).toInt.toNat → -1 ≤ (H.2.1 18 (8 * x1.toInt.toNat + j)).toInt ∧ (H.2.1 18 (8 * x1.toInt.toNat + j)).toInt ≤ 3) (hc : xIn S (H.2.1 14 x1.toInt.toNat).toInt) : ∃ X, zp_Call L σ (d + 6) 119 [.inr (.inr (some 1)), .inl x1, .inl (Int32.ofInt 0)] H X ∧ ∃ H1, X = (.inl (some (.inl ((xVy S (fun j => H.2.1 18 (8 * x1.toInt.toNat + j)) (fun j => H.2.1 19 (8 * x1.toInt.toNat + j)) (H.2.1 16 x1.toInt.toNat).toInt.toNat (Int32.ofInt 0) (H.2.1 14 x1.toInt.toNat) (H.2.1 15 x1.toInt.toNat)).2.2.1))), H1) ∧ xFv 54 H H1 := by
  have W := zB_Wd (zB_dn (zB_Bc hB))
  have g5 : H.2.2.2 0 5 = some 3 := hB.2.1 0 5 _ rfl
  have g6 : H.2.2.2 0 6 = some 14 := hB.2.1 0 6 _ rfl
  have g7 : H.2.2.2 0 7 = some 23 := hB.2.1 0 7 _ rfl
  have g8 : H.2.2.2 0 8 = some 34 := hB.2.1 0 8 _ rfl
  have r13_0 := zB_fr1 (zB_dn (zB_Bc hB)) (p := 13) (k := 0) (r := (0, 8)) rfl
  have r13_0 : 0 ≤ (H.2.1 13 0).toInt ∧ (H.2.1 13 0).toInt ≤ 8 := r13_0
  obtain ⟨_, q1, H1, rfl, W1, q2, r0, r1, r2, r4, r3, -⟩ := xc_fo2 (L := L) (σ := σ) (d := d) (s := x1) W hS hC ⟨hs.1, by omega⟩ hm hw hc
  refine zw_met zm_119_t rfl rfl ?_
  refine zw_ld (n := 1) (k := 0) (f := zp_isR) (pc' := 1) rfl rfl rfl rfl rfl ?_
  refine zw_ld (n := 1) (k := 1) (f := zp_isI) (pc' := 2) rfl rfl rfl rfl rfl ?_
  refine zw_ctn (pc' := 5) (c' := (1, 6)) (zw_cv (q := 0) (Y := zm_108) W.1 rfl rfl zm_108_t rfl rfl) (zw_pb_ok rfl) rfl rfl rfl rfl (yc_ns1_0 hB hs) ?_
  refine zw_ld (n := 1) (k := 2) (f := zp_isI) (pc' := 6) rfl rfl rfl rfl rfl ?_
  refine zw_s (pc' := 7) rfl rfl ?_
  refine zw_ctn (pc' := 10) (c' := (2, 12)) (zw_cs (Y := zm_104) rfl rfl zm_104_t) (zw_pb_ok rfl) rfl rfl rfl rfl (yc_nw1 ⟨by decide, by decide⟩) ?_
  refine zw_ld (n := 1) (k := 0) (f := zp_isR) (pc' := 11) rfl rfl rfl rfl rfl ?_
  refine zw_gR (q := 0) (pc' := 14) W rfl rfl rfl rfl (W.2 0 12 _ rfl) rfl ?_
  refine zw_ld (n := 1) (k := 0) (f := zp_isR) (pc' := 15) rfl rfl rfl rfl rfl ?_
  refine zw_gR (q := 0) (pc' := 18) W rfl rfl rfl rfl g5 rfl ?_
  refine zw_ld (n := 1) (k := 0) (f := zp_isR) (pc' := 19) rfl rfl rfl rfl rfl ?_
  refine zw_gR (q := 0) (pc' := 22) W rfl rfl rfl rfl g6 rfl ?_
  refine zw_ld (n := 1) (k := 1) (f := zp_isI) (pc' := 23) rfl rfl rfl rfl rfl ?_
  refine zw_cn (pc' := 26) (zw_cv (q := 54) (Y := zm_24) W.1 rfl rfl zm_24_t rfl rfl) rfl rfl rfl rfl rfl (q1) ?_
  refine zw_ld (n := 1) (k := 2) (f := zp_isI) (pc' := 27) rfl rfl rfl rfl rfl ?_
  refine zw_s (pc' := 56) rfl rfl ?_
  refine zw_ld (n := 1) (k := 0) (f := zp_isR) (pc' := 57) rfl rfl rfl rfl rfl ?_
  refine zw_gR (q := 0) (pc' := 60) W1 rfl rfl rfl rfl (W1.2 0 12 _ rfl) rfl ?_
  refine zw_gI (q := 54) (pc' := 63) W1 rfl rfl rfl rfl rfl rfl ?_
  refine zw_rig rfl rfl ⟨by decide, by decide⟩ ?_
  exact ⟨H1, x_rv r2, q2⟩

theorem yl_vo0_0 {L : Nat} {σ : Nat → Int32} {d : Nat} {H : zp_H} {x1 : Int32} (hB : zk_Bs (zB_c 0) zg zJc H) {S : xSea} (hS : xOk S) (hC : xSC 2 H S) (hs : 0 ≤ x1.toInt ∧ x1.toInt < (H.2.1 13 0).toInt) (hm : 0 ≤ (H.2.1 16 x1.toInt.toNat).toInt ∧ (H.2.1 16 x1.toInt.toNat).toInt ≤ 8) (hw : ∀ j, j < (H.2.1 16 x1.toInt.toNat).toInt.toNat → -1 ≤ (H.2.1 18 (8 * x1.toInt.toNat + j)).toInt ∧ (H.2.1 18 (8 * x1.toInt.toNat + j)).toInt ≤ 3) (hc : xIn S (H.2.1 14 x1.toInt.toNat).toInt) : ∃ H1, zp_Call L σ (d + 7) 118 [.inr (.inr (some 1)), .inl x1, .inl (Int32.ofInt 0), .inr (.inr (some 105))] H (.inl (some (.inl (Int32.ofInt 0))), zw_J H1 104 0 ((xVy S (fun j => H.2.1 18 (8 * x1.toInt.toNat + j)) (fun j => H.2.1 19 (8 * x1.toInt.toNat + j)) (H.2.1 16 x1.toInt.toNat).toInt.toNat (Int32.ofInt 0) (H.2.1 14 x1.toInt.toNat) (H.2.1 15 x1.toInt.toNat)).2.2.1).toInt64) ∧ xFv 54 H H1 := by
  obtain ⟨_, q1, H1, rfl, q2⟩ := yc_vo0_0 (L := L) (σ := σ) (d := d) hB hS hC hs hm hw hc
  have W := zB_Wd (zB_dn (zB_Bc hB))
  have W1 := xFv_W q2 W
  refine ⟨H1, zw_ex (zw_met zm_118_t rfl rfl ?_), q2⟩
  refine zw_ld (n := 1) (k := 3) (f := zp_isR) (pc' := 1) rfl rfl rfl rfl rfl ?_
  refine zw_s (pc' := 2) rfl rfl ?_
  refine zw_ld (n := 1) (k := 0) (f := zp_isR) (pc' := 3) rfl rfl rfl rfl rfl ?_
  refine zw_ld (n := 1) (k := 1) (f := zp_isI) (pc' := 4) rfl rfl rfl rfl rfl ?_
  refine zw_ld (n := 1) (k := 2) (f := zp_isI) (pc' := 5) rfl rfl rfl rfl rfl ?_
  refine zw_ct (pc' := 8) (c' := (2, 12)) (zw_cv (q := 0) (Y := zm_119) W.1 rfl rfl zm_119_t rfl rfl) (zw_pb_ok rfl) rfl rfl rfl rfl (q1) ?_
  refine zw_s (pc' := 9) rfl rfl ?_
  refine zw_ls (q := 104) (pc' := 10) W1 rfl rfl (⟨by decide, by decide⟩) rfl ?_
  refine zw_s (pc' := 17) rfl rfl ?_
  refine zw_s (pc' := 18) rfl rfl ?_
  refine zw_rig rfl rfl ⟨by decide, by decide⟩ ?_
  rfl

theorem yc_vo0_1 {L : Nat} {σ : Nat → Int32} {d : Nat} {H : zp_H} {x1 : Int32} (hB : zk_Bs (zB_c 0) zg zJc H) {S : xSea} (hS : xOk S) (hC : xSC 2 H S) (hs : 0 ≤ x1.toInt ∧ x1.toInt < (H.2.1 13 0).toInt) (hm : 0 ≤ (H.2.1 16 x1.toInt.toNat).toInt ∧ (H.2.1 16 x1.toInt.toNat).toInt ≤ 8) (hw : ∀ j, j < (H.2.1 16 x1.toInt.toNat).toInt.toNat → -1 ≤ (H.2.1 18 (8 * x1.toInt.toNat + j)).toInt ∧ (H.2.1 18 (8 * x1.toInt.toNat + j)).toInt ≤ 3) (hc : xIn S (H.2.1 14 x1.toInt.toNat).toInt) : ∃ X, zp_Call L σ (d + 6) 119 [.inr (.inr (some 1)), .inl x1, .inl (Int32.ofInt 1)] H X ∧ ∃ H1, X = (.inl (some (.inl ((xVy S (fun j => H.2.1 18 (8 * x1.toInt.toNat + j)) (fun j => H.2.1 19 (8 * x1.toInt.toNat + j)) (H.2.1 16 x1.toInt.toNat).toInt.toNat (Int32.ofInt 0) (H.2.1 14 x1.toInt.toNat) (H.2.1 15 x1.toInt.toNat)).1))), H1) ∧ xFv 54 H H1 := by
  have W := zB_Wd (zB_dn (zB_Bc hB))
  have g5 : H.2.2.2 0 5 = some 3 := hB.2.1 0 5 _ rfl
  have g6 : H.2.2.2 0 6 = some 14 := hB.2.1 0 6 _ rfl
  have g7 : H.2.2.2 0 7 = some 23 := hB.2.1 0 7 _ rfl
  have g8 : H.2.2.2 0 8 = some 34 := hB.2.1 0 8 _ rfl
  have r13_0 := zB_fr1 (zB_dn (zB_Bc hB)) (p := 13) (k := 0) (r := (0, 8)) rfl
  have r13_0 : 0 ≤ (H.2.1 13 0).toInt ∧ (H.2.1 13 0).toInt ≤ 8 := r13_0
  obtain ⟨_, q1, H1, rfl, W1, q2, r0, r1, r2, r4, r3, -⟩ := xc_fo2 (L := L) (σ := σ) (d := d) (s := x1) W hS hC ⟨hs.1, by omega⟩ hm hw hc
  refine zw_met zm_119_t rfl rfl ?_
  refine zw_ld (n := 1) (k := 0) (f := zp_isR) (pc' := 1) rfl rfl rfl rfl rfl ?_
  refine zw_ld (n := 1) (k := 1) (f := zp_isI) (pc' := 2) rfl rfl rfl rfl rfl ?_
  refine zw_ctn (pc' := 5) (c' := (1, 6)) (zw_cv (q := 0) (Y := zm_108) W.1 rfl rfl zm_108_t rfl rfl) (zw_pb_ok rfl) rfl rfl rfl rfl (yc_ns1_0 hB hs) ?_
  refine zw_ld (n := 1) (k := 2) (f := zp_isI) (pc' := 6) rfl rfl rfl rfl rfl ?_
  refine zw_s (pc' := 7) rfl rfl ?_
  refine zw_ctn (pc' := 10) (c' := (2, 12)) (zw_cs (Y := zm_104) rfl rfl zm_104_t) (zw_pb_ok rfl) rfl rfl rfl rfl (yc_nw1 ⟨by decide, by decide⟩) ?_
  refine zw_ld (n := 1) (k := 0) (f := zp_isR) (pc' := 11) rfl rfl rfl rfl rfl ?_
  refine zw_gR (q := 0) (pc' := 14) W rfl rfl rfl rfl (W.2 0 12 _ rfl) rfl ?_
  refine zw_ld (n := 1) (k := 0) (f := zp_isR) (pc' := 15) rfl rfl rfl rfl rfl ?_
  refine zw_gR (q := 0) (pc' := 18) W rfl rfl rfl rfl g5 rfl ?_
  refine zw_ld (n := 1) (k := 0) (f := zp_isR) (pc' := 19) rfl rfl rfl rfl rfl ?_
  refine zw_gR (q := 0) (pc' := 22) W rfl rfl rfl rfl g6 rfl ?_
  refine zw_ld (n := 1) (k := 1) (f := zp_isI) (pc' := 23) rfl rfl rfl rfl rfl ?_
  refine zw_cn (pc' := 26) (zw_cv (q := 54) (Y := zm_24) W.1 rfl rfl zm_24_t rfl rfl) rfl rfl rfl rfl rfl (q1) ?_
  refine zw_ld (n := 1) (k := 2) (f := zp_isI) (pc' := 27) rfl rfl rfl rfl rfl ?_
  refine zw_s (pc' := 64) rfl rfl ?_
  refine zw_ld (n := 1) (k := 0) (f := zp_isR) (pc' := 65) rfl rfl rfl rfl rfl ?_
  refine zw_gR (q := 0) (pc' := 68) W1 rfl rfl rfl rfl (W1.2 0 12 _ rfl) rfl ?_
  refine zw_gI (q := 54) (pc' := 71) W1 rfl rfl rfl rfl rfl rfl ?_
  refine zw_rig rfl rfl ⟨by decide, by decide⟩ ?_
  exact ⟨H1, x_rv r0, q2⟩

theorem yl_vo0_1 {L : Nat} {σ : Nat → Int32} {d : Nat} {H : zp_H} {x1 : Int32} (hB : zk_Bs (zB_c 0) zg zJc H) {S : xSea} (hS : xOk S) (hC : xSC 2 H S) (hs : 0 ≤ x1.toInt ∧ x1.toInt < (H.2.1 13 0).toInt) (hm : 0 ≤ (H.2.1 16 x1.toInt.toNat).toInt ∧ (H.2.1 16 x1.toInt.toNat).toInt ≤ 8) (hw : ∀ j, j < (H.2.1 16 x1.toInt.toNat).toInt.toNat → -1 ≤ (H.2.1 18 (8 * x1.toInt.toNat + j)).toInt ∧ (H.2.1 18 (8 * x1.toInt.toNat + j)).toInt ≤ 3) (hc : xIn S (H.2.1 14 x1.toInt.toNat).toInt) : ∃ H1, zp_Call L σ (d + 7) 118 [.inr (.inr (some 1)), .inl x1, .inl (Int32.ofInt 1), .inr (.inr (some 105))] H (.inl (some (.inl (Int32.ofInt 0))), zw_J H1 104 0 ((xVy S (fun j => H.2.1 18 (8 * x1.toInt.toNat + j)) (fun j => H.2.1 19 (8 * x1.toInt.toNat + j)) (H.2.1 16 x1.toInt.toNat).toInt.toNat (Int32.ofInt 0) (H.2.1 14 x1.toInt.toNat) (H.2.1 15 x1.toInt.toNat)).1).toInt64) ∧ xFv 54 H H1 := by
  obtain ⟨_, q1, H1, rfl, q2⟩ := yc_vo0_1 (L := L) (σ := σ) (d := d) hB hS hC hs hm hw hc
  have W := zB_Wd (zB_dn (zB_Bc hB))
  have W1 := xFv_W q2 W
  refine ⟨H1, zw_ex (zw_met zm_118_t rfl rfl ?_), q2⟩
  refine zw_ld (n := 1) (k := 3) (f := zp_isR) (pc' := 1) rfl rfl rfl rfl rfl ?_
  refine zw_s (pc' := 2) rfl rfl ?_
  refine zw_ld (n := 1) (k := 0) (f := zp_isR) (pc' := 3) rfl rfl rfl rfl rfl ?_
  refine zw_ld (n := 1) (k := 1) (f := zp_isI) (pc' := 4) rfl rfl rfl rfl rfl ?_
  refine zw_ld (n := 1) (k := 2) (f := zp_isI) (pc' := 5) rfl rfl rfl rfl rfl ?_
  refine zw_ct (pc' := 8) (c' := (2, 12)) (zw_cv (q := 0) (Y := zm_119) W.1 rfl rfl zm_119_t rfl rfl) (zw_pb_ok rfl) rfl rfl rfl rfl (q1) ?_
  refine zw_s (pc' := 9) rfl rfl ?_
  refine zw_ls (q := 104) (pc' := 10) W1 rfl rfl (⟨by decide, by decide⟩) rfl ?_
  refine zw_s (pc' := 17) rfl rfl ?_
  refine zw_s (pc' := 18) rfl rfl ?_
  refine zw_rig rfl rfl ⟨by decide, by decide⟩ ?_
  rfl

theorem yc_vo0_2 {L : Nat} {σ : Nat → Int32} {d : Nat} {H : zp_H} {x1 : Int32} (hB : zk_Bs (zB_c 0) zg zJc H) {S : xSea} (hS : xOk S) (hC : xSC 2 H S) (hs : 0 ≤ x1.toInt ∧ x1.toInt < (H.2.1 13 0).toInt) (hm : 0 ≤ (H.2.1 16 x1.toInt.toNat).toInt ∧ (H.2.1 16 x1.toInt.toNat).toInt ≤ 8) (hw : ∀ j, j < (H.2.1 16 x1.toInt.toNat).toInt.toNat → -1 ≤ (H.2.1 18 (8 * x1.toInt.toNat + j)).toInt ∧ (H.2.1 18 (8 * x1.toInt.toNat + j)).toInt ≤ 3) (hc : xIn S (H.2.1 14 x1.toInt.toNat).toInt) : ∃ X, zp_Call L σ (d + 6) 119 [.inr (.inr (some 1)), .inl x1, .inl (Int32.ofInt 2)] H X ∧ ∃ H1, X = (.inl (some (.inl ((xVy S (fun j => H.2.1 18 (8 * x1.toInt.toNat + j)) (fun j => H.2.1 19 (8 * x1.toInt.toNat + j)) (H.2.1 16 x1.toInt.toNat).toInt.toNat (Int32.ofInt 0) (H.2.1 14 x1.toInt.toNat) (H.2.1 15 x1.toInt.toNat)).2.2.2.2.1))), H1) ∧ xFv 54 H H1 := by
  have W := zB_Wd (zB_dn (zB_Bc hB))
  have g5 : H.2.2.2 0 5 = some 3 := hB.2.1 0 5 _ rfl
  have g6 : H.2.2.2 0 6 = some 14 := hB.2.1 0 6 _ rfl
  have g7 : H.2.2.2 0 7 = some 23 := hB.2.1 0 7 _ rfl
  have g8 : H.2.2.2 0 8 = some 34 := hB.2.1 0 8 _ rfl
  have r13_0 := zB_fr1 (zB_dn (zB_Bc hB)) (p := 13) (k := 0) (r := (0, 8)) rfl
  have r13_0 : 0 ≤ (H.2.1 13 0).toInt ∧ (H.2.1 13 0).toInt ≤ 8 := r13_0
  obtain ⟨_, q1, H1, rfl, W1, q2, r0, r1, r2, r4, r3, -⟩ := xc_fo2 (L := L) (σ := σ) (d := d) (s := x1) W hS hC ⟨hs.1, by omega⟩ hm hw hc
  refine zw_met zm_119_t rfl rfl ?_
  refine zw_ld (n := 1) (k := 0) (f := zp_isR) (pc' := 1) rfl rfl rfl rfl rfl ?_
  refine zw_ld (n := 1) (k := 1) (f := zp_isI) (pc' := 2) rfl rfl rfl rfl rfl ?_
  refine zw_ctn (pc' := 5) (c' := (1, 6)) (zw_cv (q := 0) (Y := zm_108) W.1 rfl rfl zm_108_t rfl rfl) (zw_pb_ok rfl) rfl rfl rfl rfl (yc_ns1_0 hB hs) ?_
  refine zw_ld (n := 1) (k := 2) (f := zp_isI) (pc' := 6) rfl rfl rfl rfl rfl ?_
  refine zw_s (pc' := 7) rfl rfl ?_
  refine zw_ctn (pc' := 10) (c' := (2, 12)) (zw_cs (Y := zm_104) rfl rfl zm_104_t) (zw_pb_ok rfl) rfl rfl rfl rfl (yc_nw1 ⟨by decide, by decide⟩) ?_
  refine zw_ld (n := 1) (k := 0) (f := zp_isR) (pc' := 11) rfl rfl rfl rfl rfl ?_
  refine zw_gR (q := 0) (pc' := 14) W rfl rfl rfl rfl (W.2 0 12 _ rfl) rfl ?_
  refine zw_ld (n := 1) (k := 0) (f := zp_isR) (pc' := 15) rfl rfl rfl rfl rfl ?_
  refine zw_gR (q := 0) (pc' := 18) W rfl rfl rfl rfl g5 rfl ?_
  refine zw_ld (n := 1) (k := 0) (f := zp_isR) (pc' := 19) rfl rfl rfl rfl rfl ?_
  refine zw_gR (q := 0) (pc' := 22) W rfl rfl rfl rfl g6 rfl ?_
  refine zw_ld (n := 1) (k := 1) (f := zp_isI) (pc' := 23) rfl rfl rfl rfl rfl ?_
  refine zw_cn (pc' := 26) (zw_cv (q := 54) (Y := zm_24) W.1 rfl rfl zm_24_t rfl rfl) rfl rfl rfl rfl rfl (q1) ?_
  refine zw_ld (n := 1) (k := 2) (f := zp_isI) (pc' := 27) rfl rfl rfl rfl rfl ?_
  refine zw_s (pc' := 72) rfl rfl ?_
  refine zw_ld (n := 1) (k := 0) (f := zp_isR) (pc' := 73) rfl rfl rfl rfl rfl ?_
  refine zw_gR (q := 0) (pc' := 76) W1 rfl rfl rfl rfl (W1.2 0 12 _ rfl) rfl ?_
  refine zw_gI (q := 54) (pc' := 79) W1 rfl rfl rfl rfl rfl rfl ?_
  refine zw_rig rfl rfl ⟨by decide, by decide⟩ ?_
  exact ⟨H1, x_rv r3, q2⟩

theorem yl_vo0_2 {L : Nat} {σ : Nat → Int32} {d : Nat} {H : zp_H} {x1 : Int32} (hB : zk_Bs (zB_c 0) zg zJc H) {S : xSea} (hS : xOk S) (hC : xSC 2 H S) (hs : 0 ≤ x1.toInt ∧ x1.toInt < (H.2.1 13 0).toInt) (hm : 0 ≤ (H.2.1 16 x1.toInt.toNat).toInt ∧ (H.2.1 16 x1.toInt.toNat).toInt ≤ 8) (hw : ∀ j, j < (H.2.1 16 x1.toInt.toNat).toInt.toNat → -1 ≤ (H.2.1 18 (8 * x1.toInt.toNat + j)).toInt ∧ (H.2.1 18 (8 * x1.toInt.toNat + j)).toInt ≤ 3) (hc : xIn S (H.2.1 14 x1.toInt.toNat).toInt) : ∃ H1, zp_Call L σ (d + 7) 118 [.inr (.inr (some 1)), .inl x1, .inl (Int32.ofInt 2), .inr (.inr (some 105))] H (.inl (some (.inl (Int32.ofInt 0))), zw_J H1 104 0 ((xVy S (fun j => H.2.1 18 (8 * x1.toInt.toNat + j)) (fun j => H.2.1 19 (8 * x1.toInt.toNat + j)) (H.2.1 16 x1.toInt.toNat).toInt.toNat (Int32.ofInt 0) (H.2.1 14 x1.toInt.toNat) (H.2.1 15 x1.toInt.toNat)).2.2.2.2.1).toInt64) ∧ xFv 54 H H1 := by
  obtain ⟨_, q1, H1, rfl, q2⟩ := yc_vo0_2 (L := L) (σ := σ) (d := d) hB hS hC hs hm hw hc
  have W := zB_Wd (zB_dn (zB_Bc hB))
  have W1 := xFv_W q2 W
  refine ⟨H1, zw_ex (zw_met zm_118_t rfl rfl ?_), q2⟩
  refine zw_ld (n := 1) (k := 3) (f := zp_isR) (pc' := 1) rfl rfl rfl rfl rfl ?_
  refine zw_s (pc' := 2) rfl rfl ?_
  refine zw_ld (n := 1) (k := 0) (f := zp_isR) (pc' := 3) rfl rfl rfl rfl rfl ?_
  refine zw_ld (n := 1) (k := 1) (f := zp_isI) (pc' := 4) rfl rfl rfl rfl rfl ?_
  refine zw_ld (n := 1) (k := 2) (f := zp_isI) (pc' := 5) rfl rfl rfl rfl rfl ?_
  refine zw_ct (pc' := 8) (c' := (2, 12)) (zw_cv (q := 0) (Y := zm_119) W.1 rfl rfl zm_119_t rfl rfl) (zw_pb_ok rfl) rfl rfl rfl rfl (q1) ?_
  refine zw_s (pc' := 9) rfl rfl ?_
  refine zw_ls (q := 104) (pc' := 10) W1 rfl rfl (⟨by decide, by decide⟩) rfl ?_
  refine zw_s (pc' := 17) rfl rfl ?_
  refine zw_s (pc' := 18) rfl rfl ?_
  refine zw_rig rfl rfl ⟨by decide, by decide⟩ ?_
  rfl

theorem yc_vo0_3 {L : Nat} {σ : Nat → Int32} {d : Nat} {H : zp_H} {x1 : Int32} (hB : zk_Bs (zB_c 0) zg zJc H) {S : xSea} (hS : xOk S) (hC : xSC 2 H S) (hs : 0 ≤ x1.toInt ∧ x1.toInt < (H.2.1 13 0).toInt) (hm : 0 ≤ (H.2.1 16 x1.toInt.toNat).toInt ∧ (H.2.1 16 x1.toInt.toNat).toInt ≤ 8) (hw : ∀ j, j < (H.2.1 16 x1.toInt.toNat).toInt.toNat → -1 ≤ (H.2.1 18 (8 * x1.toInt.toNat + j)).toInt ∧ (H.2.1 18 (8 * x1.toInt.toNat + j)).toInt ≤ 3) (hc : xIn S (H.2.1 14 x1.toInt.toNat).toInt) : ∃ X, zp_Call L σ (d + 6) 119 [.inr (.inr (some 1)), .inl x1, .inl (Int32.ofInt 3)] H X ∧ ∃ H1, X = (.inl (some (.inl ((xVy S (fun j => H.2.1 18 (8 * x1.toInt.toNat + j)) (fun j => H.2.1 19 (8 * x1.toInt.toNat + j)) (H.2.1 16 x1.toInt.toNat).toInt.toNat (Int32.ofInt 0) (H.2.1 14 x1.toInt.toNat) (H.2.1 15 x1.toInt.toNat)).2.2.2.1))), H1) ∧ xFv 54 H H1 := by
  have W := zB_Wd (zB_dn (zB_Bc hB))
  have g5 : H.2.2.2 0 5 = some 3 := hB.2.1 0 5 _ rfl
  have g6 : H.2.2.2 0 6 = some 14 := hB.2.1 0 6 _ rfl
  have g7 : H.2.2.2 0 7 = some 23 := hB.2.1 0 7 _ rfl
  have g8 : H.2.2.2 0 8 = some 34 := hB.2.1 0 8 _ rfl
  have r13_0 := zB_fr1 (zB_dn (zB_Bc hB)) (p := 13) (k := 0) (r := (0, 8)) rfl
  have r13_0 : 0 ≤ (H.2.1 13 0).toInt ∧ (H.2.1 13 0).toInt ≤ 8 := r13_0
  obtain ⟨_, q1, H1, rfl, W1, q2, r0, r1, r2, r4, r3, -⟩ := xc_fo2 (L := L) (σ := σ) (d := d) (s := x1) W hS hC ⟨hs.1, by omega⟩ hm hw hc
  refine zw_met zm_119_t rfl rfl ?_
  refine zw_ld (n := 1) (k := 0) (f := zp_isR) (pc' := 1) rfl rfl rfl rfl rfl ?_
  refine zw_ld (n := 1) (k := 1) (f := zp_isI) (pc' := 2) rfl rfl rfl rfl rfl ?_
  refine zw_ctn (pc' := 5) (c' := (1, 6)) (zw_cv (q := 0) (Y := zm_108) W.1 rfl rfl zm_108_t rfl rfl) (zw_pb_ok rfl) rfl rfl rfl rfl (yc_ns1_0 hB hs) ?_
  refine zw_ld (n := 1) (k := 2) (f := zp_isI) (pc' := 6) rfl rfl rfl rfl rfl ?_
  refine zw_s (pc' := 7) rfl rfl ?_
  refine zw_ctn (pc' := 10) (c' := (2, 12)) (zw_cs (Y := zm_104) rfl rfl zm_104_t) (zw_pb_ok rfl) rfl rfl rfl rfl (yc_nw1 ⟨by decide, by decide⟩) ?_
  refine zw_ld (n := 1) (k := 0) (f := zp_isR) (pc' := 11) rfl rfl rfl rfl rfl ?_
  refine zw_gR (q := 0) (pc' := 14) W rfl rfl rfl rfl (W.2 0 12 _ rfl) rfl ?_
  refine zw_ld (n := 1) (k := 0) (f := zp_isR) (pc' := 15) rfl rfl rfl rfl rfl ?_
  refine zw_gR (q := 0) (pc' := 18) W rfl rfl rfl rfl g5 rfl ?_
  refine zw_ld (n := 1) (k := 0) (f := zp_isR) (pc' := 19) rfl rfl rfl rfl rfl ?_
  refine zw_gR (q := 0) (pc' := 22) W rfl rfl rfl rfl g6 rfl ?_
  refine zw_ld (n := 1) (k := 1) (f := zp_isI) (pc' := 23) rfl rfl rfl rfl rfl ?_
  refine zw_cn (pc' := 26) (zw_cv (q := 54) (Y := zm_24) W.1 rfl rfl zm_24_t rfl rfl) rfl rfl rfl rfl rfl (q1) ?_
  refine zw_ld (n := 1) (k := 2) (f := zp_isI) (pc' := 27) rfl rfl rfl rfl rfl ?_
  refine zw_s (pc' := 80) rfl rfl ?_
  refine zw_ld (n := 1) (k := 0) (f := zp_isR) (pc' := 81) rfl rfl rfl rfl rfl ?_
  refine zw_gR (q := 0) (pc' := 84) W1 rfl rfl rfl rfl (W1.2 0 12 _ rfl) rfl ?_
  refine zw_gI (q := 54) (pc' := 87) W1 rfl rfl rfl rfl rfl rfl ?_
  refine zw_rig rfl rfl ⟨by decide, by decide⟩ ?_
  exact ⟨H1, x_rv r4, q2⟩

theorem yl_vo0_3 {L : Nat} {σ : Nat → Int32} {d : Nat} {H : zp_H} {x1 : Int32} (hB : zk_Bs (zB_c 0) zg zJc H) {S : xSea} (hS : xOk S) (hC : xSC 2 H S) (hs : 0 ≤ x1.toInt ∧ x1.toInt < (H.2.1 13 0).toInt) (hm : 0 ≤ (H.2.1 16 x1.toInt.toNat).toInt ∧ (H.2.1 16 x1.toInt.toNat).toInt ≤ 8) (hw : ∀ j, j < (H.2.1 16 x1.toInt.toNat).toInt.toNat → -1 ≤ (H.2.1 18 (8 * x1.toInt.toNat + j)).toInt ∧ (H.2.1 18 (8 * x1.toInt.toNat + j)).toInt ≤ 3) (hc : xIn S (H.2.1 14 x1.toInt.toNat).toInt) : ∃ H1, zp_Call L σ (d + 7) 118 [.inr (.inr (some 1)), .inl x1, .inl (Int32.ofInt 3), .inr (.inr (some 105))] H (.inl (some (.inl (Int32.ofInt 0))), zw_J H1 104 0 ((xVy S (fun j => H.2.1 18 (8 * x1.toInt.toNat + j)) (fun j => H.2.1 19 (8 * x1.toInt.toNat + j)) (H.2.1 16 x1.toInt.toNat).toInt.toNat (Int32.ofInt 0) (H.2.1 14 x1.toInt.toNat) (H.2.1 15 x1.toInt.toNat)).2.2.2.1).toInt64) ∧ xFv 54 H H1 := by
  obtain ⟨_, q1, H1, rfl, q2⟩ := yc_vo0_3 (L := L) (σ := σ) (d := d) hB hS hC hs hm hw hc
  have W := zB_Wd (zB_dn (zB_Bc hB))
  have W1 := xFv_W q2 W
  refine ⟨H1, zw_ex (zw_met zm_118_t rfl rfl ?_), q2⟩
  refine zw_ld (n := 1) (k := 3) (f := zp_isR) (pc' := 1) rfl rfl rfl rfl rfl ?_
  refine zw_s (pc' := 2) rfl rfl ?_
  refine zw_ld (n := 1) (k := 0) (f := zp_isR) (pc' := 3) rfl rfl rfl rfl rfl ?_
  refine zw_ld (n := 1) (k := 1) (f := zp_isI) (pc' := 4) rfl rfl rfl rfl rfl ?_
  refine zw_ld (n := 1) (k := 2) (f := zp_isI) (pc' := 5) rfl rfl rfl rfl rfl ?_
  refine zw_ct (pc' := 8) (c' := (2, 12)) (zw_cv (q := 0) (Y := zm_119) W.1 rfl rfl zm_119_t rfl rfl) (zw_pb_ok rfl) rfl rfl rfl rfl (q1) ?_
  refine zw_s (pc' := 9) rfl rfl ?_
  refine zw_ls (q := 104) (pc' := 10) W1 rfl rfl (⟨by decide, by decide⟩) rfl ?_
  refine zw_s (pc' := 17) rfl rfl ?_
  refine zw_s (pc' := 18) rfl rfl ?_
  refine zw_rig rfl rfl ⟨by decide, by decide⟩ ?_
  rfl

theorem yc_vo0_4 {L : Nat} {σ : Nat → Int32} {d : Nat} {H : zp_H} {x1 : Int32} (hB : zk_Bs (zB_c 0) zg zJc H) {S : xSea} (hS : xOk S) (hC : xSC 2 H S) (hs : 0 ≤ x1.toInt ∧ x1.toInt < (H.2.1 13 0).toInt) (hm : 0 ≤ (H.2.1 16 x1.toInt.toNat).toInt ∧ (H.2.1 16 x1.toInt.toNat).toInt ≤ 8) (hw : ∀ j, j < (H.2.1 16 x1.toInt.toNat).toInt.toNat → -1 ≤ (H.2.1 18 (8 * x1.toInt.toNat + j)).toInt ∧ (H.2.1 18 (8 * x1.toInt.toNat + j)).toInt ≤ 3) (hc : xIn S (H.2.1 14 x1.toInt.toNat).toInt) : ∃ X, zp_Call L σ (d + 6) 119 [.inr (.inr (some 1)), .inl x1, .inl (Int32.ofInt 4)] H X ∧ ∃ H1, X = (.inl (some (.inl ((xVy S (fun j => H.2.1 18 (8 * x1.toInt.toNat + j)) (fun j => H.2.1 19 (8 * x1.toInt.toNat + j)) (H.2.1 16 x1.toInt.toNat).toInt.toNat (Int32.ofInt 0) (H.2.1 14 x1.toInt.toNat) (H.2.1 15 x1.toInt.toNat)).2.1))), H1) ∧ xFv 54 H H1 := by
  have W := zB_Wd (zB_dn (zB_Bc hB))
  have g5 : H.2.2.2 0 5 = some 3 := hB.2.1 0 5 _ rfl
  have g6 : H.2.2.2 0 6 = some 14 := hB.2.1 0 6 _ rfl
  have g7 : H.2.2.2 0 7 = some 23 := hB.2.1 0 7 _ rfl
  have g8 : H.2.2.2 0 8 = some 34 := hB.2.1 0 8 _ rfl
  have r13_0 := zB_fr1 (zB_dn (zB_Bc hB)) (p := 13) (k := 0) (r := (0, 8)) rfl
  have r13_0 : 0 ≤ (H.2.1 13 0).toInt ∧ (H.2.1 13 0).toInt ≤ 8 := r13_0
  obtain ⟨_, q1, H1, rfl, W1, q2, r0, r1, r2, r4, r3, -⟩ := xc_fo2 (L := L) (σ := σ) (d := d) (s := x1) W hS hC ⟨hs.1, by omega⟩ hm hw hc
  refine zw_met zm_119_t rfl rfl ?_
  refine zw_ld (n := 1) (k := 0) (f := zp_isR) (pc' := 1) rfl rfl rfl rfl rfl ?_
  refine zw_ld (n := 1) (k := 1) (f := zp_isI) (pc' := 2) rfl rfl rfl rfl rfl ?_
  refine zw_ctn (pc' := 5) (c' := (1, 6)) (zw_cv (q := 0) (Y := zm_108) W.1 rfl rfl zm_108_t rfl rfl) (zw_pb_ok rfl) rfl rfl rfl rfl (yc_ns1_0 hB hs) ?_
  refine zw_ld (n := 1) (k := 2) (f := zp_isI) (pc' := 6) rfl rfl rfl rfl rfl ?_
  refine zw_s (pc' := 7) rfl rfl ?_
  refine zw_ctn (pc' := 10) (c' := (2, 12)) (zw_cs (Y := zm_104) rfl rfl zm_104_t) (zw_pb_ok rfl) rfl rfl rfl rfl (yc_nw1 ⟨by decide, by decide⟩) ?_
  refine zw_ld (n := 1) (k := 0) (f := zp_isR) (pc' := 11) rfl rfl rfl rfl rfl ?_
  refine zw_gR (q := 0) (pc' := 14) W rfl rfl rfl rfl (W.2 0 12 _ rfl) rfl ?_
  refine zw_ld (n := 1) (k := 0) (f := zp_isR) (pc' := 15) rfl rfl rfl rfl rfl ?_
  refine zw_gR (q := 0) (pc' := 18) W rfl rfl rfl rfl g5 rfl ?_
  refine zw_ld (n := 1) (k := 0) (f := zp_isR) (pc' := 19) rfl rfl rfl rfl rfl ?_
  refine zw_gR (q := 0) (pc' := 22) W rfl rfl rfl rfl g6 rfl ?_
  refine zw_ld (n := 1) (k := 1) (f := zp_isI) (pc' := 23) rfl rfl rfl rfl rfl ?_
  refine zw_cn (pc' := 26) (zw_cv (q := 54) (Y := zm_24) W.1 rfl rfl zm_24_t rfl rfl) rfl rfl rfl rfl rfl (q1) ?_
  refine zw_ld (n := 1) (k := 2) (f := zp_isI) (pc' := 27) rfl rfl rfl rfl rfl ?_
  refine zw_s (pc' := 88) rfl rfl ?_
  refine zw_ld (n := 1) (k := 0) (f := zp_isR) (pc' := 89) rfl rfl rfl rfl rfl ?_
  refine zw_gR (q := 0) (pc' := 92) W1 rfl rfl rfl rfl (W1.2 0 12 _ rfl) rfl ?_
  refine zw_gI (q := 54) (pc' := 95) W1 rfl rfl rfl rfl rfl rfl ?_
  refine zw_rig rfl rfl ⟨by decide, by decide⟩ ?_
  exact ⟨H1, x_rv r1, q2⟩

theorem yl_vo0_4 {L : Nat} {σ : Nat → Int32} {d : Nat} {H : zp_H} {x1 : Int32} (hB : zk_Bs (zB_c 0) zg zJc H) {S : xSea} (hS : xOk S) (hC : xSC 2 H S) (hs : 0 ≤ x1.toInt ∧ x1.toInt < (H.2.1 13 0).toInt) (hm : 0 ≤ (H.2.1 16 x1.toInt.toNat).toInt ∧ (H.2.1 16 x1.toInt.toNat).toInt ≤ 8) (hw : ∀ j, j < (H.2.1 16 x1.toInt.toNat).toInt.toNat → -1 ≤ (H.2.1 18 (8 * x1.toInt.toNat + j)).toInt ∧ (H.2.1 18 (8 * x1.toInt.toNat + j)).toInt ≤ 3) (hc : xIn S (H.2.1 14 x1.toInt.toNat).toInt) : ∃ H1, zp_Call L σ (d + 7) 118 [.inr (.inr (some 1)), .inl x1, .inl (Int32.ofInt 4), .inr (.inr (some 105))] H (.inl (some (.inl (Int32.ofInt 0))), zw_J H1 104 0 ((xVy S (fun j => H.2.1 18 (8 * x1.toInt.toNat + j)) (fun j => H.2.1 19 (8 * x1.toInt.toNat + j)) (H.2.1 16 x1.toInt.toNat).toInt.toNat (Int32.ofInt 0) (H.2.1 14 x1.toInt.toNat) (H.2.1 15 x1.toInt.toNat)).2.1).toInt64) ∧ xFv 54 H H1 := by
  obtain ⟨_, q1, H1, rfl, q2⟩ := yc_vo0_4 (L := L) (σ := σ) (d := d) hB hS hC hs hm hw hc
  have W := zB_Wd (zB_dn (zB_Bc hB))
  have W1 := xFv_W q2 W
  refine ⟨H1, zw_ex (zw_met zm_118_t rfl rfl ?_), q2⟩
  refine zw_ld (n := 1) (k := 3) (f := zp_isR) (pc' := 1) rfl rfl rfl rfl rfl ?_
  refine zw_s (pc' := 2) rfl rfl ?_
  refine zw_ld (n := 1) (k := 0) (f := zp_isR) (pc' := 3) rfl rfl rfl rfl rfl ?_
  refine zw_ld (n := 1) (k := 1) (f := zp_isI) (pc' := 4) rfl rfl rfl rfl rfl ?_
  refine zw_ld (n := 1) (k := 2) (f := zp_isI) (pc' := 5) rfl rfl rfl rfl rfl ?_
  refine zw_ct (pc' := 8) (c' := (2, 12)) (zw_cv (q := 0) (Y := zm_119) W.1 rfl rfl zm_119_t rfl rfl) (zw_pb_ok rfl) rfl rfl rfl rfl (q1) ?_
  refine zw_s (pc' := 9) rfl rfl ?_
  refine zw_ls (q := 104) (pc' := 10) W1 rfl rfl (⟨by decide, by decide⟩) rfl ?_
  refine zw_s (pc' := 17) rfl rfl ?_
  refine zw_s (pc' := 18) rfl rfl ?_
  refine zw_rig rfl rfl ⟨by decide, by decide⟩ ?_
  rfl

theorem yc_von0 {L : Nat} {σ : Nat → Int32} {d : Nat} {H : zp_H} {x1 x2 : Int32} (hB : zk_Bs (zB_c 0) zg zJc H) (h : ¬ ((0 ≤ x1.toInt ∧ x1.toInt < (H.2.1 13 0).toInt) ∧ 0 ≤ x2.toInt ∧ x2.toInt ≤ (Int32.ofInt 4).toInt)) : zp_Call L σ (d + 2) 119 [.inr (.inr (some 1)), .inl x1, .inl x2] H (.inr 0, H) := by
  have W := zB_Wd (zB_dn (zB_Bc hB))
  have g5 : H.2.2.2 0 5 = some 3 := hB.2.1 0 5 _ rfl
  have g6 : H.2.2.2 0 6 = some 14 := hB.2.1 0 6 _ rfl
  have g7 : H.2.2.2 0 7 = some 23 := hB.2.1 0 7 _ rfl
  have g8 : H.2.2.2 0 8 = some 34 := hB.2.1 0 8 _ rfl
  refine zw_ex (zw_met zm_119_t rfl rfl ?_)
  refine zw_ld (n := 1) (k := 0) (f := zp_isR) (pc' := 1) rfl rfl rfl rfl rfl ?_
  refine zw_ld (n := 1) (k := 1) (f := zp_isI) (pc' := 2) rfl rfl rfl rfl rfl ?_
  by_cases hp : 0 ≤ x1.toInt ∧ x1.toInt < (H.2.1 13 0).toInt
  · refine zw_ctn (pc' := 5) (c' := (1, 6)) (zw_cv (q := 0) (Y := zm_108) W.1 rfl rfl zm_108_t rfl rfl) (zw_pb_ok rfl) rfl rfl rfl rfl (yc_ns1_0 hB hp) ?_
    refine zw_ld (n := 1) (k := 2) (f := zp_isI) (pc' := 6) rfl rfl rfl rfl rfl ?_
    refine zw_s (pc' := 7) rfl rfl ?_
    refine zw_cthr (ex := 0) (zw_cs (Y := zm_104) rfl rfl zm_104_t) (zw_pb_ok rfl) rfl rfl (yc_nw0 (fun h9 => h ⟨hp, h9⟩)) ?_
    rfl
  · refine zw_cthr (ex := 0) (zw_cv (q := 0) (Y := zm_108) W.1 rfl rfl zm_108_t rfl rfl) (zw_pb_ok rfl) rfl rfl (yc_ns0_0 hB hp) ?_
    rfl

theorem yl_von0 {L : Nat} {σ : Nat → Int32} {d : Nat} {H : zp_H} {x1 x2 : Int32} (hB : zk_Bs (zB_c 0) zg zJc H) (h : ¬ ((0 ≤ x1.toInt ∧ x1.toInt < (H.2.1 13 0).toInt) ∧ 0 ≤ x2.toInt ∧ x2.toInt ≤ (Int32.ofInt 4).toInt)) : zp_Call L σ (d + 3) 118 [.inr (.inr (some 1)), .inl x1, .inl x2, .inr (.inr (some 105))] H (.inl (some (.inl (Int32.ofInt 1))), H) := by
  have W := zB_Wd (zB_dn (zB_Bc hB))
  refine zw_ex (zw_met zm_118_t rfl rfl ?_)
  refine zw_ld (n := 1) (k := 3) (f := zp_isR) (pc' := 1) rfl rfl rfl rfl rfl ?_
  refine zw_s (pc' := 2) rfl rfl ?_
  refine zw_ld (n := 1) (k := 0) (f := zp_isR) (pc' := 3) rfl rfl rfl rfl rfl ?_
  refine zw_ld (n := 1) (k := 1) (f := zp_isI) (pc' := 4) rfl rfl rfl rfl rfl ?_
  refine zw_ld (n := 1) (k := 2) (f := zp_isI) (pc' := 5) rfl rfl rfl rfl rfl ?_
  refine zw_cexw (ex := 0) (hp9 := 13) (k9 := 4) (pc' := 15) (c' := (2, 12)) (zw_cv (q := 0) (Y := zm_119) W.1 rfl rfl zm_119_t rfl rfl) (zw_pb_ok rfl) rfl rfl rfl rfl rfl rfl rfl (yc_von0 hB h) ?_
  refine zw_s (pc' := 16) rfl rfl ?_
  refine zw_rig rfl rfl ⟨by decide, by decide⟩ ?_
  rfl

theorem yc_vo3_0 {L : Nat} {σ : Nat → Int32} {d : Nat} {H : zp_H} {x1 : Int32} (hB : zk_Bs (zB_c 3) zg zJc H) {S : xSea} (hS : xOk S) (hC : xSC 22 H S) (hs : 0 ≤ x1.toInt ∧ x1.toInt < (H.2.1 33 0).toInt) (hm : 0 ≤ (H.2.1 36 x1.toInt.toNat).toInt ∧ (H.2.1 36 x1.toInt.toNat).toInt ≤ 8) (hw : ∀ j, j < (H.2.1 36 x1.toInt.toNat).toInt.toNat → -1 ≤ (H.2.1 38 (8 * x1.toInt.toNat + j)).toInt ∧ (H.2.1 38 (8 * x1.toInt.toNat + j)).toInt ≤ 3) (hc : xIn S (H.2.1 34 x1.toInt.toNat).toInt) : ∃ X, zp_Call L σ (d + 6) 119 [.inr (.inr (some 1)), .inl x1, .inl (Int32.ofInt 0)] H X ∧ ∃ H1, X = (.inl (some (.inl ((xVy S (fun j => H.2.1 38 (8 * x1.toInt.toNat + j)) (fun j => H.2.1 39 (8 * x1.toInt.toNat + j)) (H.2.1 36 x1.toInt.toNat).toInt.toNat (Int32.ofInt 0) (H.2.1 34 x1.toInt.toNat) (H.2.1 35 x1.toInt.toNat)).2.2.1))), H1) ∧ xFv 54 H H1 := by
  have W := zB_Wd (zB_dn (zB_Bc hB))
  have g5 : H.2.2.2 0 5 = some 23 := hB.2.1 0 5 _ rfl
  have g6 : H.2.2.2 0 6 = some 34 := hB.2.1 0 6 _ rfl
  have g7 : H.2.2.2 0 7 = some 3 := hB.2.1 0 7 _ rfl
  have g8 : H.2.2.2 0 8 = some 14 := hB.2.1 0 8 _ rfl
  have r33_0 := zB_fr1 (zB_dn (zB_Bc hB)) (p := 33) (k := 0) (r := (0, 8)) rfl
  have r33_0 : 0 ≤ (H.2.1 33 0).toInt ∧ (H.2.1 33 0).toInt ≤ 8 := r33_0
  obtain ⟨_, q1, H1, rfl, W1, q2, r0, r1, r2, r4, r3, -⟩ := xc_fo22 (L := L) (σ := σ) (d := d) (s := x1) W hS hC ⟨hs.1, by omega⟩ hm hw hc
  refine zw_met zm_119_t rfl rfl ?_
  refine zw_ld (n := 1) (k := 0) (f := zp_isR) (pc' := 1) rfl rfl rfl rfl rfl ?_
  refine zw_ld (n := 1) (k := 1) (f := zp_isI) (pc' := 2) rfl rfl rfl rfl rfl ?_
  refine zw_ctn (pc' := 5) (c' := (1, 6)) (zw_cv (q := 0) (Y := zm_108) W.1 rfl rfl zm_108_t rfl rfl) (zw_pb_ok rfl) rfl rfl rfl rfl (yc_ns1_3 hB hs) ?_
  refine zw_ld (n := 1) (k := 2) (f := zp_isI) (pc' := 6) rfl rfl rfl rfl rfl ?_
  refine zw_s (pc' := 7) rfl rfl ?_
  refine zw_ctn (pc' := 10) (c' := (2, 12)) (zw_cs (Y := zm_104) rfl rfl zm_104_t) (zw_pb_ok rfl) rfl rfl rfl rfl (yc_nw1 ⟨by decide, by decide⟩) ?_
  refine zw_ld (n := 1) (k := 0) (f := zp_isR) (pc' := 11) rfl rfl rfl rfl rfl ?_
  refine zw_gR (q := 0) (pc' := 14) W rfl rfl rfl rfl (W.2 0 12 _ rfl) rfl ?_
  refine zw_ld (n := 1) (k := 0) (f := zp_isR) (pc' := 15) rfl rfl rfl rfl rfl ?_
  refine zw_gR (q := 0) (pc' := 18) W rfl rfl rfl rfl g5 rfl ?_
  refine zw_ld (n := 1) (k := 0) (f := zp_isR) (pc' := 19) rfl rfl rfl rfl rfl ?_
  refine zw_gR (q := 0) (pc' := 22) W rfl rfl rfl rfl g6 rfl ?_
  refine zw_ld (n := 1) (k := 1) (f := zp_isI) (pc' := 23) rfl rfl rfl rfl rfl ?_
  refine zw_cn (pc' := 26) (zw_cv (q := 54) (Y := zm_24) W.1 rfl rfl zm_24_t rfl rfl) rfl rfl rfl rfl rfl (q1) ?_
  refine zw_ld (n := 1) (k := 2) (f := zp_isI) (pc' := 27) rfl rfl rfl rfl rfl ?_
  refine zw_s (pc' := 56) rfl rfl ?_
  refine zw_ld (n := 1) (k := 0) (f := zp_isR) (pc' := 57) rfl rfl rfl rfl rfl ?_
  refine zw_gR (q := 0) (pc' := 60) W1 rfl rfl rfl rfl (W1.2 0 12 _ rfl) rfl ?_
  refine zw_gI (q := 54) (pc' := 63) W1 rfl rfl rfl rfl rfl rfl ?_
  refine zw_rig rfl rfl ⟨by decide, by decide⟩ ?_
  exact ⟨H1, x_rv r2, q2⟩

theorem yl_vo3_0 {L : Nat} {σ : Nat → Int32} {d : Nat} {H : zp_H} {x1 : Int32} (hB : zk_Bs (zB_c 3) zg zJc H) {S : xSea} (hS : xOk S) (hC : xSC 22 H S) (hs : 0 ≤ x1.toInt ∧ x1.toInt < (H.2.1 33 0).toInt) (hm : 0 ≤ (H.2.1 36 x1.toInt.toNat).toInt ∧ (H.2.1 36 x1.toInt.toNat).toInt ≤ 8) (hw : ∀ j, j < (H.2.1 36 x1.toInt.toNat).toInt.toNat → -1 ≤ (H.2.1 38 (8 * x1.toInt.toNat + j)).toInt ∧ (H.2.1 38 (8 * x1.toInt.toNat + j)).toInt ≤ 3) (hc : xIn S (H.2.1 34 x1.toInt.toNat).toInt) : ∃ H1, zp_Call L σ (d + 7) 118 [.inr (.inr (some 1)), .inl x1, .inl (Int32.ofInt 0), .inr (.inr (some 105))] H (.inl (some (.inl (Int32.ofInt 0))), zw_J H1 104 0 ((xVy S (fun j => H.2.1 38 (8 * x1.toInt.toNat + j)) (fun j => H.2.1 39 (8 * x1.toInt.toNat + j)) (H.2.1 36 x1.toInt.toNat).toInt.toNat (Int32.ofInt 0) (H.2.1 34 x1.toInt.toNat) (H.2.1 35 x1.toInt.toNat)).2.2.1).toInt64) ∧ xFv 54 H H1 := by
  obtain ⟨_, q1, H1, rfl, q2⟩ := yc_vo3_0 (L := L) (σ := σ) (d := d) hB hS hC hs hm hw hc
  have W := zB_Wd (zB_dn (zB_Bc hB))
  have W1 := xFv_W q2 W
  refine ⟨H1, zw_ex (zw_met zm_118_t rfl rfl ?_), q2⟩
  refine zw_ld (n := 1) (k := 3) (f := zp_isR) (pc' := 1) rfl rfl rfl rfl rfl ?_
  refine zw_s (pc' := 2) rfl rfl ?_
  refine zw_ld (n := 1) (k := 0) (f := zp_isR) (pc' := 3) rfl rfl rfl rfl rfl ?_
  refine zw_ld (n := 1) (k := 1) (f := zp_isI) (pc' := 4) rfl rfl rfl rfl rfl ?_
  refine zw_ld (n := 1) (k := 2) (f := zp_isI) (pc' := 5) rfl rfl rfl rfl rfl ?_
  refine zw_ct (pc' := 8) (c' := (2, 12)) (zw_cv (q := 0) (Y := zm_119) W.1 rfl rfl zm_119_t rfl rfl) (zw_pb_ok rfl) rfl rfl rfl rfl (q1) ?_
  refine zw_s (pc' := 9) rfl rfl ?_
  refine zw_ls (q := 104) (pc' := 10) W1 rfl rfl (⟨by decide, by decide⟩) rfl ?_
  refine zw_s (pc' := 17) rfl rfl ?_
  refine zw_s (pc' := 18) rfl rfl ?_
  refine zw_rig rfl rfl ⟨by decide, by decide⟩ ?_
  rfl

theorem yc_vo3_1 {L : Nat} {σ : Nat → Int32} {d : Nat} {H : zp_H} {x1 : Int32} (hB : zk_Bs (zB_c 3) zg zJc H) {S : xSea} (hS : xOk S) (hC : xSC 22 H S) (hs : 0 ≤ x1.toInt ∧ x1.toInt < (H.2.1 33 0).toInt) (hm : 0 ≤ (H.2.1 36 x1.toInt.toNat).toInt ∧ (H.2.1 36 x1.toInt.toNat).toInt ≤ 8) (hw : ∀ j, j < (H.2.1 36 x1.toInt.toNat).toInt.toNat → -1 ≤ (H.2.1 38 (8 * x1.toInt.toNat + j)).toInt ∧ (H.2.1 38 (8 * x1.toInt.toNat + j)).toInt ≤ 3) (hc : xIn S (H.2.1 34 x1.toInt.toNat).toInt) : ∃ X, zp_Call L σ (d + 6) 119 [.inr (.inr (some 1)), .inl x1, .inl (Int32.ofInt 1)] H X ∧ ∃ H1, X = (.inl (some (.inl ((xVy S (fun j => H.2.1 38 (8 * x1.toInt.toNat + j)) (fun j => H.2.1 39 (8 * x1.toInt.toNat + j)) (H.2.1 36 x1.toInt.toNat).toInt.toNat (Int32.ofInt 0) (H.2.1 34 x1.toInt.toNat) (H.2.1 35 x1.toInt.toNat)).1))), H1) ∧ xFv 54 H H1 := by
  have W := zB_Wd (zB_dn (zB_Bc hB))
  have g5 : H.2.2.2 0 5 = some 23 := hB.2.1 0 5 _ rfl
  have g6 : H.2.2.2 0 6 = some 34 := hB.2.1 0 6 _ rfl
  have g7 : H.2.2.2 0 7 = some 3 := hB.2.1 0 7 _ rfl
  have g8 : H.2.2.2 0 8 = some 14 := hB.2.1 0 8 _ rfl
  have r33_0 := zB_fr1 (zB_dn (zB_Bc hB)) (p := 33) (k := 0) (r := (0, 8)) rfl
  have r33_0 : 0 ≤ (H.2.1 33 0).toInt ∧ (H.2.1 33 0).toInt ≤ 8 := r33_0
  obtain ⟨_, q1, H1, rfl, W1, q2, r0, r1, r2, r4, r3, -⟩ := xc_fo22 (L := L) (σ := σ) (d := d) (s := x1) W hS hC ⟨hs.1, by omega⟩ hm hw hc
  refine zw_met zm_119_t rfl rfl ?_
  refine zw_ld (n := 1) (k := 0) (f := zp_isR) (pc' := 1) rfl rfl rfl rfl rfl ?_
  refine zw_ld (n := 1) (k := 1) (f := zp_isI) (pc' := 2) rfl rfl rfl rfl rfl ?_
  refine zw_ctn (pc' := 5) (c' := (1, 6)) (zw_cv (q := 0) (Y := zm_108) W.1 rfl rfl zm_108_t rfl rfl) (zw_pb_ok rfl) rfl rfl rfl rfl (yc_ns1_3 hB hs) ?_
  refine zw_ld (n := 1) (k := 2) (f := zp_isI) (pc' := 6) rfl rfl rfl rfl rfl ?_
  refine zw_s (pc' := 7) rfl rfl ?_
  refine zw_ctn (pc' := 10) (c' := (2, 12)) (zw_cs (Y := zm_104) rfl rfl zm_104_t) (zw_pb_ok rfl) rfl rfl rfl rfl (yc_nw1 ⟨by decide, by decide⟩) ?_
  refine zw_ld (n := 1) (k := 0) (f := zp_isR) (pc' := 11) rfl rfl rfl rfl rfl ?_
  refine zw_gR (q := 0) (pc' := 14) W rfl rfl rfl rfl (W.2 0 12 _ rfl) rfl ?_
  refine zw_ld (n := 1) (k := 0) (f := zp_isR) (pc' := 15) rfl rfl rfl rfl rfl ?_
  refine zw_gR (q := 0) (pc' := 18) W rfl rfl rfl rfl g5 rfl ?_
  refine zw_ld (n := 1) (k := 0) (f := zp_isR) (pc' := 19) rfl rfl rfl rfl rfl ?_
  refine zw_gR (q := 0) (pc' := 22) W rfl rfl rfl rfl g6 rfl ?_
  refine zw_ld (n := 1) (k := 1) (f := zp_isI) (pc' := 23) rfl rfl rfl rfl rfl ?_
  refine zw_cn (pc' := 26) (zw_cv (q := 54) (Y := zm_24) W.1 rfl rfl zm_24_t rfl rfl) rfl rfl rfl rfl rfl (q1) ?_
  refine zw_ld (n := 1) (k := 2) (f := zp_isI) (pc' := 27) rfl rfl rfl rfl rfl ?_
  refine zw_s (pc' := 64) rfl rfl ?_
  refine zw_ld (n := 1) (k := 0) (f := zp_isR) (pc' := 65) rfl rfl rfl rfl rfl ?_
  refine zw_gR (q := 0) (pc' := 68) W1 rfl rfl rfl rfl (W1.2 0 12 _ rfl) rfl ?_
  refine zw_gI (q := 54) (pc' := 71) W1 rfl rfl rfl rfl rfl rfl ?_
  refine zw_rig rfl rfl ⟨by decide, by decide⟩ ?_
  exact ⟨H1, x_rv r0, q2⟩

theorem yl_vo3_1 {L : Nat} {σ : Nat → Int32} {d : Nat} {H : zp_H} {x1 : Int32} (hB : zk_Bs (zB_c 3) zg zJc H) {S : xSea} (hS : xOk S) (hC : xSC 22 H S) (hs : 0 ≤ x1.toInt ∧ x1.toInt < (H.2.1 33 0).toInt) (hm : 0 ≤ (H.2.1 36 x1.toInt.toNat).toInt ∧ (H.2.1 36 x1.toInt.toNat).toInt ≤ 8) (hw : ∀ j, j < (H.2.1 36 x1.toInt.toNat).toInt.toNat → -1 ≤ (H.2.1 38 (8 * x1.toInt.toNat + j)).toInt ∧ (H.2.1 38 (8 * x1.toInt.toNat + j)).toInt ≤ 3) (hc : xIn S (H.2.1 34 x1.toInt.toNat).toInt) : ∃ H1, zp_Call L σ (d + 7) 118 [.inr (.inr (some 1)), .inl x1, .inl (Int32.ofInt 1), .inr (.inr (some 105))] H (.inl (some (.inl (Int32.ofInt 0))), zw_J H1 104 0 ((xVy S (fun j => H.2.1 38 (8 * x1.toInt.toNat + j)) (fun j => H.2.1 39 (8 * x1.toInt.toNat + j)) (H.2.1 36 x1.toInt.toNat).toInt.toNat (Int32.ofInt 0) (H.2.1 34 x1.toInt.toNat) (H.2.1 35 x1.toInt.toNat)).1).toInt64) ∧ xFv 54 H H1 := by
  obtain ⟨_, q1, H1, rfl, q2⟩ := yc_vo3_1 (L := L) (σ := σ) (d := d) hB hS hC hs hm hw hc
  have W := zB_Wd (zB_dn (zB_Bc hB))
  have W1 := xFv_W q2 W
  refine ⟨H1, zw_ex (zw_met zm_118_t rfl rfl ?_), q2⟩
  refine zw_ld (n := 1) (k := 3) (f := zp_isR) (pc' := 1) rfl rfl rfl rfl rfl ?_
  refine zw_s (pc' := 2) rfl rfl ?_
  refine zw_ld (n := 1) (k := 0) (f := zp_isR) (pc' := 3) rfl rfl rfl rfl rfl ?_
  refine zw_ld (n := 1) (k := 1) (f := zp_isI) (pc' := 4) rfl rfl rfl rfl rfl ?_
  refine zw_ld (n := 1) (k := 2) (f := zp_isI) (pc' := 5) rfl rfl rfl rfl rfl ?_
  refine zw_ct (pc' := 8) (c' := (2, 12)) (zw_cv (q := 0) (Y := zm_119) W.1 rfl rfl zm_119_t rfl rfl) (zw_pb_ok rfl) rfl rfl rfl rfl (q1) ?_
  refine zw_s (pc' := 9) rfl rfl ?_
  refine zw_ls (q := 104) (pc' := 10) W1 rfl rfl (⟨by decide, by decide⟩) rfl ?_
  refine zw_s (pc' := 17) rfl rfl ?_
  refine zw_s (pc' := 18) rfl rfl ?_
  refine zw_rig rfl rfl ⟨by decide, by decide⟩ ?_
  rfl

theorem yc_vo3_2 {L : Nat} {σ : Nat → Int32} {d : Nat} {H : zp_H} {x1 : Int32} (hB : zk_Bs (zB_c 3) zg zJc H) {S : xSea} (hS : xOk S) (hC : xSC 22 H S) (hs : 0 ≤ x1.toInt ∧ x1.toInt < (H.2.1 33 0).toInt) (hm : 0 ≤ (H.2.1 36 x1.toInt.toNat).toInt ∧ (H.2.1 36 x1.toInt.toNat).toInt ≤ 8) (hw : ∀ j, j < (H.2.1 36 x1.toInt.toNat).toInt.toNat → -1 ≤ (H.2.1 38 (8 * x1.toInt.toNat + j)).toInt ∧ (H.2.1 38 (8 * x1.toInt.toNat + j)).toInt ≤ 3) (hc : xIn S (H.2.1 34 x1.toInt.toNat).toInt) : ∃ X, zp_Call L σ (d + 6) 119 [.inr (.inr (some 1)), .inl x1, .inl (Int32.ofInt 2)] H X ∧ ∃ H1, X = (.inl (some (.inl ((xVy S (fun j => H.2.1 38 (8 * x1.toInt.toNat + j)) (fun j => H.2.1 39 (8 * x1.toInt.toNat + j)) (H.2.1 36 x1.toInt.toNat).toInt.toNat (Int32.ofInt 0) (H.2.1 34 x1.toInt.toNat) (H.2.1 35 x1.toInt.toNat)).2.2.2.2.1))), H1) ∧ xFv 54 H H1 := by
  have W := zB_Wd (zB_dn (zB_Bc hB))
  have g5 : H.2.2.2 0 5 = some 23 := hB.2.1 0 5 _ rfl
  have g6 : H.2.2.2 0 6 = some 34 := hB.2.1 0 6 _ rfl
  have g7 : H.2.2.2 0 7 = some 3 := hB.2.1 0 7 _ rfl
  have g8 : H.2.2.2 0 8 = some 14 := hB.2.1 0 8 _ rfl
  have r33_0 := zB_fr1 (zB_dn (zB_Bc hB)) (p := 33) (k := 0) (r := (0, 8)) rfl
  have r33_0 : 0 ≤ (H.2.1 33 0).toInt ∧ (H.2.1 33 0).toInt ≤ 8 := r33_0
  obtain ⟨_, q1, H1, rfl, W1, q2, r0, r1, r2, r4, r3, -⟩ := xc_fo22 (L := L) (σ := σ) (d := d) (s := x1) W hS hC ⟨hs.1, by omega⟩ hm hw hc
  refine zw_met zm_119_t rfl rfl ?_
  refine zw_ld (n := 1) (k := 0) (f := zp_isR) (pc' := 1) rfl rfl rfl rfl rfl ?_
  refine zw_ld (n := 1) (k := 1) (f := zp_isI) (pc' := 2) rfl rfl rfl rfl rfl ?_
  refine zw_ctn (pc' := 5) (c' := (1, 6)) (zw_cv (q := 0) (Y := zm_108) W.1 rfl rfl zm_108_t rfl rfl) (zw_pb_ok rfl) rfl rfl rfl rfl (yc_ns1_3 hB hs) ?_
  refine zw_ld (n := 1) (k := 2) (f := zp_isI) (pc' := 6) rfl rfl rfl rfl rfl ?_
  refine zw_s (pc' := 7) rfl rfl ?_
  refine zw_ctn (pc' := 10) (c' := (2, 12)) (zw_cs (Y := zm_104) rfl rfl zm_104_t) (zw_pb_ok rfl) rfl rfl rfl rfl (yc_nw1 ⟨by decide, by decide⟩) ?_
  refine zw_ld (n := 1) (k := 0) (f := zp_isR) (pc' := 11) rfl rfl rfl rfl rfl ?_
  refine zw_gR (q := 0) (pc' := 14) W rfl rfl rfl rfl (W.2 0 12 _ rfl) rfl ?_
  refine zw_ld (n := 1) (k := 0) (f := zp_isR) (pc' := 15) rfl rfl rfl rfl rfl ?_
  refine zw_gR (q := 0) (pc' := 18) W rfl rfl rfl rfl g5 rfl ?_
  refine zw_ld (n := 1) (k := 0) (f := zp_isR) (pc' := 19) rfl rfl rfl rfl rfl ?_
  refine zw_gR (q := 0) (pc' := 22) W rfl rfl rfl rfl g6 rfl ?_
  refine zw_ld (n := 1) (k := 1) (f := zp_isI) (pc' := 23) rfl rfl rfl rfl rfl ?_
  refine zw_cn (pc' := 26) (zw_cv (q := 54) (Y := zm_24) W.1 rfl rfl zm_24_t rfl rfl) rfl rfl rfl rfl rfl (q1) ?_
  refine zw_ld (n := 1) (k := 2) (f := zp_isI) (pc' := 27) rfl rfl rfl rfl rfl ?_
  refine zw_s (pc' := 72) rfl rfl ?_
  refine zw_ld (n := 1) (k := 0) (f := zp_isR) (pc' := 73) rfl rfl rfl rfl rfl ?_
  refine zw_gR (q := 0) (pc' := 76) W1 rfl rfl rfl rfl (W1.2 0 12 _ rfl) rfl ?_
  refine zw_gI (q := 54) (pc' := 79) W1 rfl rfl rfl rfl rfl rfl ?_
  refine zw_rig rfl rfl ⟨by decide, by decide⟩ ?_
  exact ⟨H1, x_rv r3, q2⟩

theorem yl_vo3_2 {L : Nat} {σ : Nat → Int32} {d : Nat} {H : zp_H} {x1 : Int32} (hB : zk_Bs (zB_c 3) zg zJc H) {S : xSea} (hS : xOk S) (hC : xSC 22 H S) (hs : 0 ≤ x1.toInt ∧ x1.toInt < (H.2.1 33 0).toInt) (hm : 0 ≤ (H.2.1 36 x1.toInt.toNat).toInt ∧ (H.2.1 36 x1.toInt.toNat).toInt ≤ 8) (hw : ∀ j, j < (H.2.1 36 x1.toInt.toNat).toInt.toNat → -1 ≤ (H.2.1 38 (8 * x1.toInt.toNat + j)).toInt ∧ (H.2.1 38 (8 * x1.toInt.toNat + j)).toInt ≤ 3) (hc : xIn S (H.2.1 34 x1.toInt.toNat).toInt) : ∃ H1, zp_Call L σ (d + 7) 118 [.inr (.inr (some 1)), .inl x1, .inl (Int32.ofInt 2), .inr (.inr (some 105))] H (.inl (some (.inl (Int32.ofInt 0))), zw_J H1 104 0 ((xVy S (fun j => H.2.1 38 (8 * x1.toInt.toNat + j)) (fun j => H.2.1 39 (8 * x1.toInt.toNat + j)) (H.2.1 36 x1.toInt.toNat).toInt.toNat (Int32.ofInt 0) (H.2.1 34 x1.toInt.toNat) (H.2.1 35 x1.toInt.toNat)).2.2.2.2.1).toInt64) ∧ xFv 54 H H1 := by
  obtain ⟨_, q1, H1, rfl, q2⟩ := yc_vo3_2 (L := L) (σ := σ) (d := d) hB hS hC hs hm hw hc
  have W := zB_Wd (zB_dn (zB_Bc hB))
  have W1 := xFv_W q2 W
  refine ⟨H1, zw_ex (zw_met zm_118_t rfl rfl ?_), q2⟩
  refine zw_ld (n := 1) (k := 3) (f := zp_isR) (pc' := 1) rfl rfl rfl rfl rfl ?_
  refine zw_s (pc' := 2) rfl rfl ?_
  refine zw_ld (n := 1) (k := 0) (f := zp_isR) (pc' := 3) rfl rfl rfl rfl rfl ?_
  refine zw_ld (n := 1) (k := 1) (f := zp_isI) (pc' := 4) rfl rfl rfl rfl rfl ?_
  refine zw_ld (n := 1) (k := 2) (f := zp_isI) (pc' := 5) rfl rfl rfl rfl rfl ?_
  refine zw_ct (pc' := 8) (c' := (2, 12)) (zw_cv (q := 0) (Y := zm_119) W.1 rfl rfl zm_119_t rfl rfl) (zw_pb_ok rfl) rfl rfl rfl rfl (q1) ?_
  refine zw_s (pc' := 9) rfl rfl ?_
  refine zw_ls (q := 104) (pc' := 10) W1 rfl rfl (⟨by decide, by decide⟩) rfl ?_
  refine zw_s (pc' := 17) rfl rfl ?_
  refine zw_s (pc' := 18) rfl rfl ?_
  refine zw_rig rfl rfl ⟨by decide, by decide⟩ ?_
  rfl

theorem yc_vo3_3 {L : Nat} {σ : Nat → Int32} {d : Nat} {H : zp_H} {x1 : Int32} (hB : zk_Bs (zB_c 3) zg zJc H) {S : xSea} (hS : xOk S) (hC : xSC 22 H S) (hs : 0 ≤ x1.toInt ∧ x1.toInt < (H.2.1 33 0).toInt) (hm : 0 ≤ (H.2.1 36 x1.toInt.toNat).toInt ∧ (H.2.1 36 x1.toInt.toNat).toInt ≤ 8) (hw : ∀ j, j < (H.2.1 36 x1.toInt.toNat).toInt.toNat → -1 ≤ (H.2.1 38 (8 * x1.toInt.toNat + j)).toInt ∧ (H.2.1 38 (8 * x1.toInt.toNat + j)).toInt ≤ 3) (hc : xIn S (H.2.1 34 x1.toInt.toNat).toInt) : ∃ X, zp_Call L σ (d + 6) 119 [.inr (.inr (some 1)), .inl x1, .inl (Int32.ofInt 3)] H X ∧ ∃ H1, X = (.inl (some (.inl ((xVy S (fun j => H.2.1 38 (8 * x1.toInt.toNat + j)) (fun j => H.2.1 39 (8 * x1.toInt.toNat + j)) (H.2.1 36 x1.toInt.toNat).toInt.toNat (Int32.ofInt 0) (H.2.1 34 x1.toInt.toNat) (H.2.1 35 x1.toInt.toNat)).2.2.2.1))), H1) ∧ xFv 54 H H1 := by
  have W := zB_Wd (zB_dn (zB_Bc hB))
  have g5 : H.2.2.2 0 5 = some 23 := hB.2.1 0 5 _ rfl
  have g6 : H.2.2.2 0 6 = some 34 := hB.2.1 0 6 _ rfl
  have g7 : H.2.2.2 0 7 = some 3 := hB.2.1 0 7 _ rfl
  have g8 : H.2.2.2 0 8 = some 14 := hB.2.1 0 8 _ rfl
  have r33_0 := zB_fr1 (zB_dn (zB_Bc hB)) (p := 33) (k := 0) (r := (0, 8)) rfl
  have r33_0 : 0 ≤ (H.2.1 33 0).toInt ∧ (H.2.1 33 0).toInt ≤ 8 := r33_0
  obtain ⟨_, q1, H1, rfl, W1, q2, r0, r1, r2, r4, r3, -⟩ := xc_fo22 (L := L) (σ := σ) (d := d) (s := x1) W hS hC ⟨hs.1, by omega⟩ hm hw hc
  refine zw_met zm_119_t rfl rfl ?_
  refine zw_ld (n := 1) (k := 0) (f := zp_isR) (pc' := 1) rfl rfl rfl rfl rfl ?_
  refine zw_ld (n := 1) (k := 1) (f := zp_isI) (pc' := 2) rfl rfl rfl rfl rfl ?_
  refine zw_ctn (pc' := 5) (c' := (1, 6)) (zw_cv (q := 0) (Y := zm_108) W.1 rfl rfl zm_108_t rfl rfl) (zw_pb_ok rfl) rfl rfl rfl rfl (yc_ns1_3 hB hs) ?_
  refine zw_ld (n := 1) (k := 2) (f := zp_isI) (pc' := 6) rfl rfl rfl rfl rfl ?_
  refine zw_s (pc' := 7) rfl rfl ?_
  refine zw_ctn (pc' := 10) (c' := (2, 12)) (zw_cs (Y := zm_104) rfl rfl zm_104_t) (zw_pb_ok rfl) rfl rfl rfl rfl (yc_nw1 ⟨by decide, by decide⟩) ?_
  refine zw_ld (n := 1) (k := 0) (f := zp_isR) (pc' := 11) rfl rfl rfl rfl rfl ?_
  refine zw_gR (q := 0) (pc' := 14) W rfl rfl rfl rfl (W.2 0 12 _ rfl) rfl ?_
  refine zw_ld (n := 1) (k := 0) (f := zp_isR) (pc' := 15) rfl rfl rfl rfl rfl ?_
  refine zw_gR (q := 0) (pc' := 18) W rfl rfl rfl rfl g5 rfl ?_
  refine zw_ld (n := 1) (k := 0) (f := zp_isR) (pc' := 19) rfl rfl rfl rfl rfl ?_
  refine zw_gR (q := 0) (pc' := 22) W rfl rfl rfl rfl g6 rfl ?_
  refine zw_ld (n := 1) (k := 1) (f := zp_isI) (pc' := 23) rfl rfl rfl rfl rfl ?_
  refine zw_cn (pc' := 26) (zw_cv (q := 54) (Y := zm_24) W.1 rfl rfl zm_24_t rfl rfl) rfl rfl rfl rfl rfl (q1) ?_
  refine zw_ld (n := 1) (k := 2) (f := zp_isI) (pc' := 27) rfl rfl rfl rfl rfl ?_
  refine zw_s (pc' := 80) rfl rfl ?_
  refine zw_ld (n := 1) (k := 0) (f := zp_isR) (pc' := 81) rfl rfl rfl rfl rfl ?_
  refine zw_gR (q := 0) (pc' := 84) W1 rfl rfl rfl rfl (W1.2 0 12 _ rfl) rfl ?_
  refine zw_gI (q := 54) (pc' := 87) W1 rfl rfl rfl rfl rfl rfl ?_
  refine zw_rig rfl rfl ⟨by decide, by decide⟩ ?_
  exact ⟨H1, x_rv r4, q2⟩

theorem yl_vo3_3 {L : Nat} {σ : Nat → Int32} {d : Nat} {H : zp_H} {x1 : Int32} (hB : zk_Bs (zB_c 3) zg zJc H) {S : xSea} (hS : xOk S) (hC : xSC 22 H S) (hs : 0 ≤ x1.toInt ∧ x1.toInt < (H.2.1 33 0).toInt) (hm : 0 ≤ (H.2.1 36 x1.toInt.toNat).toInt ∧ (H.2.1 36 x1.toInt.toNat).toInt ≤ 8) (hw : ∀ j, j < (H.2.1 36 x1.toInt.toNat).toInt.toNat → -1 ≤ (H.2.1 38 (8 * x1.toInt.toNat + j)).toInt ∧ (H.2.1 38 (8 * x1.toInt.toNat + j)).toInt ≤ 3) (hc : xIn S (H.2.1 34 x1.toInt.toNat).toInt) : ∃ H1, zp_Call L σ (d + 7) 118 [.inr (.inr (some 1)), .inl x1, .inl (Int32.ofInt 3), .inr (.inr (some 105))] H (.inl (some (.inl (Int32.ofInt 0))), zw_J H1 104 0 ((xVy S (fun j => H.2.1 38 (8 * x1.toInt.toNat + j)) (fun j => H.2.1 39 (8 * x1.toInt.toNat + j)) (H.2.1 36 x1.toInt.toNat).toInt.toNat (Int32.ofInt 0) (H.2.1 34 x1.toInt.toNat) (H.2.1 35 x1.toInt.toNat)).2.2.2.1).toInt64) ∧ xFv 54 H H1 := by
  obtain ⟨_, q1, H1, rfl, q2⟩ := yc_vo3_3 (L := L) (σ := σ) (d := d) hB hS hC hs hm hw hc
  have W := zB_Wd (zB_dn (zB_Bc hB))
  have W1 := xFv_W q2 W
  refine ⟨H1, zw_ex (zw_met zm_118_t rfl rfl ?_), q2⟩
  refine zw_ld (n := 1) (k := 3) (f := zp_isR) (pc' := 1) rfl rfl rfl rfl rfl ?_
  refine zw_s (pc' := 2) rfl rfl ?_
  refine zw_ld (n := 1) (k := 0) (f := zp_isR) (pc' := 3) rfl rfl rfl rfl rfl ?_
  refine zw_ld (n := 1) (k := 1) (f := zp_isI) (pc' := 4) rfl rfl rfl rfl rfl ?_
  refine zw_ld (n := 1) (k := 2) (f := zp_isI) (pc' := 5) rfl rfl rfl rfl rfl ?_
  refine zw_ct (pc' := 8) (c' := (2, 12)) (zw_cv (q := 0) (Y := zm_119) W.1 rfl rfl zm_119_t rfl rfl) (zw_pb_ok rfl) rfl rfl rfl rfl (q1) ?_
  refine zw_s (pc' := 9) rfl rfl ?_
  refine zw_ls (q := 104) (pc' := 10) W1 rfl rfl (⟨by decide, by decide⟩) rfl ?_
  refine zw_s (pc' := 17) rfl rfl ?_
  refine zw_s (pc' := 18) rfl rfl ?_
  refine zw_rig rfl rfl ⟨by decide, by decide⟩ ?_
  rfl

theorem yc_vo3_4 {L : Nat} {σ : Nat → Int32} {d : Nat} {H : zp_H} {x1 : Int32} (hB : zk_Bs (zB_c 3) zg zJc H) {S : xSea} (hS : xOk S) (hC : xSC 22 H S) (hs : 0 ≤ x1.toInt ∧ x1.toInt < (H.2.1 33 0).toInt) (hm : 0 ≤ (H.2.1 36 x1.toInt.toNat).toInt ∧ (H.2.1 36 x1.toInt.toNat).toInt ≤ 8) (hw : ∀ j, j < (H.2.1 36 x1.toInt.toNat).toInt.toNat → -1 ≤ (H.2.1 38 (8 * x1.toInt.toNat + j)).toInt ∧ (H.2.1 38 (8 * x1.toInt.toNat + j)).toInt ≤ 3) (hc : xIn S (H.2.1 34 x1.toInt.toNat).toInt) : ∃ X, zp_Call L σ (d + 6) 119 [.inr (.inr (some 1)), .inl x1, .inl (Int32.ofInt 4)] H X ∧ ∃ H1, X = (.inl (some (.inl ((xVy S (fun j => H.2.1 38 (8 * x1.toInt.toNat + j)) (fun j => H.2.1 39 (8 * x1.toInt.toNat + j)) (H.2.1 36 x1.toInt.toNat).toInt.toNat (Int32.ofInt 0) (H.2.1 34 x1.toInt.toNat) (H.2.1 35 x1.toInt.toNat)).2.1))), H1) ∧ xFv 54 H H1 := by
  have W := zB_Wd (zB_dn (zB_Bc hB))
  have g5 : H.2.2.2 0 5 = some 23 := hB.2.1 0 5 _ rfl
  have g6 : H.2.2.2 0 6 = some 34 := hB.2.1 0 6 _ rfl
  have g7 : H.2.2.2 0 7 = some 3 := hB.2.1 0 7 _ rfl
  have g8 : H.2.2.2 0 8 = some 14 := hB.2.1 0 8 _ rfl
  have r33_0 := zB_fr1 (zB_dn (zB_Bc hB)) (p := 33) (k := 0) (r := (0, 8)) rfl
  have r33_0 : 0 ≤ (H.2.1 33 0).toInt ∧ (H.2.1 33 0).toInt ≤ 8 := r33_0
  obtain ⟨_, q1, H1, rfl, W1, q2, r0, r1, r2, r4, r3, -⟩ := xc_fo22 (L := L) (σ := σ) (d := d) (s := x1) W hS hC ⟨hs.1, by omega⟩ hm hw hc
  refine zw_met zm_119_t rfl rfl ?_
  refine zw_ld (n := 1) (k := 0) (f := zp_isR) (pc' := 1) rfl rfl rfl rfl rfl ?_
  refine zw_ld (n := 1) (k := 1) (f := zp_isI) (pc' := 2) rfl rfl rfl rfl rfl ?_
  refine zw_ctn (pc' := 5) (c' := (1, 6)) (zw_cv (q := 0) (Y := zm_108) W.1 rfl rfl zm_108_t rfl rfl) (zw_pb_ok rfl) rfl rfl rfl rfl (yc_ns1_3 hB hs) ?_
  refine zw_ld (n := 1) (k := 2) (f := zp_isI) (pc' := 6) rfl rfl rfl rfl rfl ?_
  refine zw_s (pc' := 7) rfl rfl ?_
  refine zw_ctn (pc' := 10) (c' := (2, 12)) (zw_cs (Y := zm_104) rfl rfl zm_104_t) (zw_pb_ok rfl) rfl rfl rfl rfl (yc_nw1 ⟨by decide, by decide⟩) ?_
  refine zw_ld (n := 1) (k := 0) (f := zp_isR) (pc' := 11) rfl rfl rfl rfl rfl ?_
  refine zw_gR (q := 0) (pc' := 14) W rfl rfl rfl rfl (W.2 0 12 _ rfl) rfl ?_
  refine zw_ld (n := 1) (k := 0) (f := zp_isR) (pc' := 15) rfl rfl rfl rfl rfl ?_
  refine zw_gR (q := 0) (pc' := 18) W rfl rfl rfl rfl g5 rfl ?_
  refine zw_ld (n := 1) (k := 0) (f := zp_isR) (pc' := 19) rfl rfl rfl rfl rfl ?_
  refine zw_gR (q := 0) (pc' := 22) W rfl rfl rfl rfl g6 rfl ?_
  refine zw_ld (n := 1) (k := 1) (f := zp_isI) (pc' := 23) rfl rfl rfl rfl rfl ?_
  refine zw_cn (pc' := 26) (zw_cv (q := 54) (Y := zm_24) W.1 rfl rfl zm_24_t rfl rfl) rfl rfl rfl rfl rfl (q1) ?_
  refine zw_ld (n := 1) (k := 2) (f := zp_isI) (pc' := 27) rfl rfl rfl rfl rfl ?_
  refine zw_s (pc' := 88) rfl rfl ?_
  refine zw_ld (n := 1) (k := 0) (f := zp_isR) (pc' := 89) rfl rfl rfl rfl rfl ?_
  refine zw_gR (q := 0) (pc' := 92) W1 rfl rfl rfl rfl (W1.2 0 12 _ rfl) rfl ?_
  refine zw_gI (q := 54) (pc' := 95) W1 rfl rfl rfl rfl rfl rfl ?_
  refine zw_rig rfl rfl ⟨by decide, by decide⟩ ?_
  exact ⟨H1, x_rv r1, q2⟩

theorem yl_vo3_4 {L : Nat} {σ : Nat → Int32} {d : Nat} {H : zp_H} {x1 : Int32} (hB : zk_Bs (zB_c 3) zg zJc H) {S : xSea} (hS : xOk S) (hC : xSC 22 H S) (hs : 0 ≤ x1.toInt ∧ x1.toInt < (H.2.1 33 0).toInt) (hm : 0 ≤ (H.2.1 36 x1.toInt.toNat).toInt ∧ (H.2.1 36 x1.toInt.toNat).toInt ≤ 8) (hw : ∀ j, j < (H.2.1 36 x1.toInt.toNat).toInt.toNat → -1 ≤ (H.2.1 38 (8 * x1.toInt.toNat + j)).toInt ∧ (H.2.1 38 (8 * x1.toInt.toNat + j)).toInt ≤ 3) (hc : xIn S (H.2.1 34 x1.toInt.toNat).toInt) : ∃ H1, zp_Call L σ (d + 7) 118 [.inr (.inr (some 1)), .inl x1, .inl (Int32.ofInt 4), .inr (.inr (some 105))] H (.inl (some (.inl (Int32.ofInt 0))), zw_J H1 104 0 ((xVy S (fun j => H.2.1 38 (8 * x1.toInt.toNat + j)) (fun j => H.2.1 39 (8 * x1.toInt.toNat + j)) (H.2.1 36 x1.toInt.toNat).toInt.toNat (Int32.ofInt 0) (H.2.1 34 x1.toInt.toNat) (H.2.1 35 x1.toInt.toNat)).2.1).toInt64) ∧ xFv 54 H H1 := by
  obtain ⟨_, q1, H1, rfl, q2⟩ := yc_vo3_4 (L := L) (σ := σ) (d := d) hB hS hC hs hm hw hc
  have W := zB_Wd (zB_dn (zB_Bc hB))
  have W1 := xFv_W q2 W
  refine ⟨H1, zw_ex (zw_met zm_118_t rfl rfl ?_), q2⟩
  refine zw_ld (n := 1) (k := 3) (f := zp_isR) (pc' := 1) rfl rfl rfl rfl rfl ?_
  refine zw_s (pc' := 2) rfl rfl ?_
  refine zw_ld (n := 1) (k := 0) (f := zp_isR) (pc' := 3) rfl rfl rfl rfl rfl ?_
  refine zw_ld (n := 1) (k := 1) (f := zp_isI) (pc' := 4) rfl rfl rfl rfl rfl ?_
  refine zw_ld (n := 1) (k := 2) (f := zp_isI) (pc' := 5) rfl rfl rfl rfl rfl ?_
  refine zw_ct (pc' := 8) (c' := (2, 12)) (zw_cv (q := 0) (Y := zm_119) W.1 rfl rfl zm_119_t rfl rfl) (zw_pb_ok rfl) rfl rfl rfl rfl (q1) ?_
  refine zw_s (pc' := 9) rfl rfl ?_
  refine zw_ls (q := 104) (pc' := 10) W1 rfl rfl (⟨by decide, by decide⟩) rfl ?_
  refine zw_s (pc' := 17) rfl rfl ?_
  refine zw_s (pc' := 18) rfl rfl ?_
  refine zw_rig rfl rfl ⟨by decide, by decide⟩ ?_
  rfl

theorem yc_von3 {L : Nat} {σ : Nat → Int32} {d : Nat} {H : zp_H} {x1 x2 : Int32} (hB : zk_Bs (zB_c 3) zg zJc H) (h : ¬ ((0 ≤ x1.toInt ∧ x1.toInt < (H.2.1 33 0).toInt) ∧ 0 ≤ x2.toInt ∧ x2.toInt ≤ (Int32.ofInt 4).toInt)) : zp_Call L σ (d + 2) 119 [.inr (.inr (some 1)), .inl x1, .inl x2] H (.inr 0, H) := by
  have W := zB_Wd (zB_dn (zB_Bc hB))
  have g5 : H.2.2.2 0 5 = some 23 := hB.2.1 0 5 _ rfl
  have g6 : H.2.2.2 0 6 = some 34 := hB.2.1 0 6 _ rfl
  have g7 : H.2.2.2 0 7 = some 3 := hB.2.1 0 7 _ rfl
  have g8 : H.2.2.2 0 8 = some 14 := hB.2.1 0 8 _ rfl
  refine zw_ex (zw_met zm_119_t rfl rfl ?_)
  refine zw_ld (n := 1) (k := 0) (f := zp_isR) (pc' := 1) rfl rfl rfl rfl rfl ?_
  refine zw_ld (n := 1) (k := 1) (f := zp_isI) (pc' := 2) rfl rfl rfl rfl rfl ?_
  by_cases hp : 0 ≤ x1.toInt ∧ x1.toInt < (H.2.1 33 0).toInt
  · refine zw_ctn (pc' := 5) (c' := (1, 6)) (zw_cv (q := 0) (Y := zm_108) W.1 rfl rfl zm_108_t rfl rfl) (zw_pb_ok rfl) rfl rfl rfl rfl (yc_ns1_3 hB hp) ?_
    refine zw_ld (n := 1) (k := 2) (f := zp_isI) (pc' := 6) rfl rfl rfl rfl rfl ?_
    refine zw_s (pc' := 7) rfl rfl ?_
    refine zw_cthr (ex := 0) (zw_cs (Y := zm_104) rfl rfl zm_104_t) (zw_pb_ok rfl) rfl rfl (yc_nw0 (fun h9 => h ⟨hp, h9⟩)) ?_
    rfl
  · refine zw_cthr (ex := 0) (zw_cv (q := 0) (Y := zm_108) W.1 rfl rfl zm_108_t rfl rfl) (zw_pb_ok rfl) rfl rfl (yc_ns0_3 hB hp) ?_
    rfl

theorem yl_von3 {L : Nat} {σ : Nat → Int32} {d : Nat} {H : zp_H} {x1 x2 : Int32} (hB : zk_Bs (zB_c 3) zg zJc H) (h : ¬ ((0 ≤ x1.toInt ∧ x1.toInt < (H.2.1 33 0).toInt) ∧ 0 ≤ x2.toInt ∧ x2.toInt ≤ (Int32.ofInt 4).toInt)) : zp_Call L σ (d + 3) 118 [.inr (.inr (some 1)), .inl x1, .inl x2, .inr (.inr (some 105))] H (.inl (some (.inl (Int32.ofInt 1))), H) := by
  have W := zB_Wd (zB_dn (zB_Bc hB))
  refine zw_ex (zw_met zm_118_t rfl rfl ?_)
  refine zw_ld (n := 1) (k := 3) (f := zp_isR) (pc' := 1) rfl rfl rfl rfl rfl ?_
  refine zw_s (pc' := 2) rfl rfl ?_
  refine zw_ld (n := 1) (k := 0) (f := zp_isR) (pc' := 3) rfl rfl rfl rfl rfl ?_
  refine zw_ld (n := 1) (k := 1) (f := zp_isI) (pc' := 4) rfl rfl rfl rfl rfl ?_
  refine zw_ld (n := 1) (k := 2) (f := zp_isI) (pc' := 5) rfl rfl rfl rfl rfl ?_
  refine zw_cexw (ex := 0) (hp9 := 13) (k9 := 4) (pc' := 15) (c' := (2, 12)) (zw_cv (q := 0) (Y := zm_119) W.1 rfl rfl zm_119_t rfl rfl) (zw_pb_ok rfl) rfl rfl rfl rfl rfl rfl rfl (yc_von3 hB h) ?_
  refine zw_s (pc' := 16) rfl rfl ?_
  refine zw_rig rfl rfl ⟨by decide, by decide⟩ ?_
  rfl

theorem yr_vo0 {L : Nat} {σ : Nat → Int32} {d : Nat} {H : zp_H} {S : xSea} {x1 : Int32} (W : zw_W H) (hS : xOk S) (hR : xSR H S) (hx : 0 ≤ x1.toInt ∧ x1.toInt < (H.2.1 72 5).toInt) (h8 : x1.toInt < 8) (hm : 0 ≤ ((zw_I H 72 0 (Int32.ofInt 0)).2.1 74 (4 * x1.toInt.toNat + 2)).toInt ∧ ((zw_I H 72 0 (Int32.ofInt 0)).2.1 74 (4 * x1.toInt.toNat + 2)).toInt ≤ 8) (hc : xIn S ((zw_I H 72 0 (Int32.ofInt 0)).2.1 74 (4 * x1.toInt.toNat)).toInt) : ∃ X, zp_Call L σ (d + 4) 219 [.inr (.inr (some 73)), .inl x1, .inl (Int32.ofInt 0)] H X ∧ ∃ H1, X = (.inl (some (.inl ((xVy S (fun j => (zw_I H 72 0 (Int32.ofInt 0)).2.1 75 (16 * x1.toInt.toNat + 2 * j)) (fun j => (zw_I H 72 0 (Int32.ofInt 0)).2.1 75 (16 * x1.toInt.toNat + 2 * j + 1)) ((zw_I H 72 0 (Int32.ofInt 0)).2.1 74 (4 * x1.toInt.toNat + 2)).toInt.toNat (Int32.ofInt 0) ((zw_I H 72 0 (Int32.ofInt 0)).2.1 74 (4 * x1.toInt.toNat)) ((zw_I H 72 0 (Int32.ofInt 0)).2.1 74 (4 * x1.toInt.toNat + 1))).2.2.1))), H1) ∧ xFs 64 71 (zw_I H 72 0 (Int32.ofInt 0)) H1 := by
  have h0 : ((zw_I H 72 0 (Int32.ofInt 0)).2.1 72 0).toInt = 0 := congrArg Int32.toInt zw_eq
  have e5 : (zw_I H 72 0 (Int32.ofInt 0)).2.1 72 5 = H.2.1 72 5 := zw_ne rfl rfl
  obtain ⟨_, q1, H1, rfl, W1, q2, r0, r1, r2, r4, r3, -⟩ := xr_sails (L := L) (σ := σ) (d := d) (s := x1) (zw_W_I (p := 72) (k := 0) (x := Int32.ofInt 0) W) hS (xSR_0 hR) ⟨hx.1, by omega⟩ hm hc
  refine zw_met zm_219_t rfl rfl ?_
  refine zw_ld (n := 1) (k := 0) (f := zp_isR) (pc' := 1) rfl rfl rfl rfl rfl ?_
  refine zw_s (pc' := 2) rfl rfl ?_
  refine zw_pI (q := 72) (pc' := 5) W rfl rfl rfl rfl rfl rfl ?_
  refine zw_ld (n := 1) (k := 0) (f := zp_isR) (pc' := 6) rfl rfl rfl rfl rfl ?_
  refine zw_ld (n := 1) (k := 1) (f := zp_isI) (pc' := 7) rfl rfl rfl rfl rfl ?_
  refine zw_c (pc' := 10) (zw_cv (q := 72) (Y := zm_210) (zw_W_I W).1 rfl rfl zm_210_t rfl rfl) rfl rfl rfl rfl rfl (zq_slate1 (zw_W_I W) h0 (by rw [e5]; exact hx)) ?_
  refine zw_beq1 (g := 22) (pc' := 13) rfl rfl rfl (rfl : _ = (1 : Int)) (fun h9 => absurd h9 (by decide)) (fun h1 => ?_)
  refine zw_ld (n := 1) (k := 0) (f := zp_isR) (pc' := 14) rfl rfl rfl rfl rfl ?_
  refine zw_ld (n := 1) (k := 2) (f := zp_isI) (pc' := 15) rfl rfl rfl rfl rfl ?_
  refine zw_s (pc' := 16) rfl rfl ?_
  refine zw_c (pc' := 19) (zw_cv (q := 72) (Y := zm_208) (zw_W_I W).1 rfl rfl zm_208_t rfl rfl) rfl rfl rfl rfl rfl (yr_wh1 (zw_W_I W) h0 ⟨by decide, by decide⟩) ?_
  refine zw_bne1 (g := 24) (pc' := 22) rfl rfl rfl (rfl : _ = (1 : Int)) (fun h2 => ?_) (fun h9 => absurd h9 (by decide))
  refine zw_ld (n := 1) (k := 0) (f := zp_isR) (pc' := 25) rfl rfl rfl rfl rfl ?_
  refine zw_ld (n := 1) (k := 1) (f := zp_isI) (pc' := 26) rfl rfl rfl rfl rfl ?_
  refine zw_cn (pc' := 29) (zw_cv (q := 72) (Y := zm_220) (zw_W_I W).1 rfl rfl zm_220_t rfl rfl) rfl rfl rfl rfl rfl (q1) ?_
  refine zw_ld (n := 1) (k := 2) (f := zp_isI) (pc' := 30) rfl rfl rfl rfl rfl ?_
  refine zw_bne1 (g := 40) (pc' := 33) rfl rfl rfl (rfl : _ = (0 : Int)) (fun h9 => absurd h9 (by decide)) (fun h3 => ?_)
  refine zw_ld (n := 1) (k := 0) (f := zp_isR) (pc' := 34) rfl rfl rfl rfl rfl ?_
  refine zw_gI (q := 72) (pc' := 37) W1 rfl rfl rfl rfl rfl rfl ?_
  refine zw_s (pc' := 80) rfl rfl ?_
  refine zw_ri rfl rfl ?_
  exact ⟨H1, x_rv r2, q2⟩

theorem yr_vo1 {L : Nat} {σ : Nat → Int32} {d : Nat} {H : zp_H} {S : xSea} {x1 : Int32} (W : zw_W H) (hS : xOk S) (hR : xSR H S) (hx : 0 ≤ x1.toInt ∧ x1.toInt < (H.2.1 72 5).toInt) (h8 : x1.toInt < 8) (hm : 0 ≤ ((zw_I H 72 0 (Int32.ofInt 0)).2.1 74 (4 * x1.toInt.toNat + 2)).toInt ∧ ((zw_I H 72 0 (Int32.ofInt 0)).2.1 74 (4 * x1.toInt.toNat + 2)).toInt ≤ 8) (hc : xIn S ((zw_I H 72 0 (Int32.ofInt 0)).2.1 74 (4 * x1.toInt.toNat)).toInt) : ∃ X, zp_Call L σ (d + 4) 219 [.inr (.inr (some 73)), .inl x1, .inl (Int32.ofInt 1)] H X ∧ ∃ H1, X = (.inl (some (.inl ((xVy S (fun j => (zw_I H 72 0 (Int32.ofInt 0)).2.1 75 (16 * x1.toInt.toNat + 2 * j)) (fun j => (zw_I H 72 0 (Int32.ofInt 0)).2.1 75 (16 * x1.toInt.toNat + 2 * j + 1)) ((zw_I H 72 0 (Int32.ofInt 0)).2.1 74 (4 * x1.toInt.toNat + 2)).toInt.toNat (Int32.ofInt 0) ((zw_I H 72 0 (Int32.ofInt 0)).2.1 74 (4 * x1.toInt.toNat)) ((zw_I H 72 0 (Int32.ofInt 0)).2.1 74 (4 * x1.toInt.toNat + 1))).1))), H1) ∧ xFs 64 71 (zw_I H 72 0 (Int32.ofInt 0)) H1 := by
  have h0 : ((zw_I H 72 0 (Int32.ofInt 0)).2.1 72 0).toInt = 0 := congrArg Int32.toInt zw_eq
  have e5 : (zw_I H 72 0 (Int32.ofInt 0)).2.1 72 5 = H.2.1 72 5 := zw_ne rfl rfl
  obtain ⟨_, q1, H1, rfl, W1, q2, r0, r1, r2, r4, r3, -⟩ := xr_sails (L := L) (σ := σ) (d := d) (s := x1) (zw_W_I (p := 72) (k := 0) (x := Int32.ofInt 0) W) hS (xSR_0 hR) ⟨hx.1, by omega⟩ hm hc
  refine zw_met zm_219_t rfl rfl ?_
  refine zw_ld (n := 1) (k := 0) (f := zp_isR) (pc' := 1) rfl rfl rfl rfl rfl ?_
  refine zw_s (pc' := 2) rfl rfl ?_
  refine zw_pI (q := 72) (pc' := 5) W rfl rfl rfl rfl rfl rfl ?_
  refine zw_ld (n := 1) (k := 0) (f := zp_isR) (pc' := 6) rfl rfl rfl rfl rfl ?_
  refine zw_ld (n := 1) (k := 1) (f := zp_isI) (pc' := 7) rfl rfl rfl rfl rfl ?_
  refine zw_c (pc' := 10) (zw_cv (q := 72) (Y := zm_210) (zw_W_I W).1 rfl rfl zm_210_t rfl rfl) rfl rfl rfl rfl rfl (zq_slate1 (zw_W_I W) h0 (by rw [e5]; exact hx)) ?_
  refine zw_beq1 (g := 22) (pc' := 13) rfl rfl rfl (rfl : _ = (1 : Int)) (fun h9 => absurd h9 (by decide)) (fun h1 => ?_)
  refine zw_ld (n := 1) (k := 0) (f := zp_isR) (pc' := 14) rfl rfl rfl rfl rfl ?_
  refine zw_ld (n := 1) (k := 2) (f := zp_isI) (pc' := 15) rfl rfl rfl rfl rfl ?_
  refine zw_s (pc' := 16) rfl rfl ?_
  refine zw_c (pc' := 19) (zw_cv (q := 72) (Y := zm_208) (zw_W_I W).1 rfl rfl zm_208_t rfl rfl) rfl rfl rfl rfl rfl (yr_wh1 (zw_W_I W) h0 ⟨by decide, by decide⟩) ?_
  refine zw_bne1 (g := 24) (pc' := 22) rfl rfl rfl (rfl : _ = (1 : Int)) (fun h2 => ?_) (fun h9 => absurd h9 (by decide))
  refine zw_ld (n := 1) (k := 0) (f := zp_isR) (pc' := 25) rfl rfl rfl rfl rfl ?_
  refine zw_ld (n := 1) (k := 1) (f := zp_isI) (pc' := 26) rfl rfl rfl rfl rfl ?_
  refine zw_cn (pc' := 29) (zw_cv (q := 72) (Y := zm_220) (zw_W_I W).1 rfl rfl zm_220_t rfl rfl) rfl rfl rfl rfl rfl (q1) ?_
  refine zw_ld (n := 1) (k := 2) (f := zp_isI) (pc' := 30) rfl rfl rfl rfl rfl ?_
  refine zw_bne1 (g := 40) (pc' := 33) rfl rfl rfl (rfl : _ = (1 : Int)) (fun h3 => ?_) (fun h9 => absurd h9 (by decide))
  refine zw_ld (n := 1) (k := 2) (f := zp_isI) (pc' := 41) rfl rfl rfl rfl rfl ?_
  refine zw_s (pc' := 42) rfl rfl ?_
  refine zw_bne2 (g := 52) (pc' := 45) rfl rfl rfl (rfl : _ = (1 : Int)) (rfl : _ = (1 : Int)) (fun h9 => absurd h9 (by decide)) (fun h3 => ?_)
  refine zw_ld (n := 1) (k := 0) (f := zp_isR) (pc' := 46) rfl rfl rfl rfl rfl ?_
  refine zw_gI (q := 72) (pc' := 49) W1 rfl rfl rfl rfl rfl rfl ?_
  refine zw_s (pc' := 80) rfl rfl ?_
  refine zw_ri rfl rfl ?_
  exact ⟨H1, x_rv r0, q2⟩

theorem yr_vo2 {L : Nat} {σ : Nat → Int32} {d : Nat} {H : zp_H} {S : xSea} {x1 : Int32} (W : zw_W H) (hS : xOk S) (hR : xSR H S) (hx : 0 ≤ x1.toInt ∧ x1.toInt < (H.2.1 72 5).toInt) (h8 : x1.toInt < 8) (hm : 0 ≤ ((zw_I H 72 0 (Int32.ofInt 0)).2.1 74 (4 * x1.toInt.toNat + 2)).toInt ∧ ((zw_I H 72 0 (Int32.ofInt 0)).2.1 74 (4 * x1.toInt.toNat + 2)).toInt ≤ 8) (hc : xIn S ((zw_I H 72 0 (Int32.ofInt 0)).2.1 74 (4 * x1.toInt.toNat)).toInt) : ∃ X, zp_Call L σ (d + 4) 219 [.inr (.inr (some 73)), .inl x1, .inl (Int32.ofInt 2)] H X ∧ ∃ H1, X = (.inl (some (.inl ((xVy S (fun j => (zw_I H 72 0 (Int32.ofInt 0)).2.1 75 (16 * x1.toInt.toNat + 2 * j)) (fun j => (zw_I H 72 0 (Int32.ofInt 0)).2.1 75 (16 * x1.toInt.toNat + 2 * j + 1)) ((zw_I H 72 0 (Int32.ofInt 0)).2.1 74 (4 * x1.toInt.toNat + 2)).toInt.toNat (Int32.ofInt 0) ((zw_I H 72 0 (Int32.ofInt 0)).2.1 74 (4 * x1.toInt.toNat)) ((zw_I H 72 0 (Int32.ofInt 0)).2.1 74 (4 * x1.toInt.toNat + 1))).2.2.2.2.1))), H1) ∧ xFs 64 71 (zw_I H 72 0 (Int32.ofInt 0)) H1 := by
  have h0 : ((zw_I H 72 0 (Int32.ofInt 0)).2.1 72 0).toInt = 0 := congrArg Int32.toInt zw_eq
  have e5 : (zw_I H 72 0 (Int32.ofInt 0)).2.1 72 5 = H.2.1 72 5 := zw_ne rfl rfl
  obtain ⟨_, q1, H1, rfl, W1, q2, r0, r1, r2, r4, r3, -⟩ := xr_sails (L := L) (σ := σ) (d := d) (s := x1) (zw_W_I (p := 72) (k := 0) (x := Int32.ofInt 0) W) hS (xSR_0 hR) ⟨hx.1, by omega⟩ hm hc
  refine zw_met zm_219_t rfl rfl ?_
  refine zw_ld (n := 1) (k := 0) (f := zp_isR) (pc' := 1) rfl rfl rfl rfl rfl ?_
  refine zw_s (pc' := 2) rfl rfl ?_
  refine zw_pI (q := 72) (pc' := 5) W rfl rfl rfl rfl rfl rfl ?_
  refine zw_ld (n := 1) (k := 0) (f := zp_isR) (pc' := 6) rfl rfl rfl rfl rfl ?_
  refine zw_ld (n := 1) (k := 1) (f := zp_isI) (pc' := 7) rfl rfl rfl rfl rfl ?_
  refine zw_c (pc' := 10) (zw_cv (q := 72) (Y := zm_210) (zw_W_I W).1 rfl rfl zm_210_t rfl rfl) rfl rfl rfl rfl rfl (zq_slate1 (zw_W_I W) h0 (by rw [e5]; exact hx)) ?_
  refine zw_beq1 (g := 22) (pc' := 13) rfl rfl rfl (rfl : _ = (1 : Int)) (fun h9 => absurd h9 (by decide)) (fun h1 => ?_)
  refine zw_ld (n := 1) (k := 0) (f := zp_isR) (pc' := 14) rfl rfl rfl rfl rfl ?_
  refine zw_ld (n := 1) (k := 2) (f := zp_isI) (pc' := 15) rfl rfl rfl rfl rfl ?_
  refine zw_s (pc' := 16) rfl rfl ?_
  refine zw_c (pc' := 19) (zw_cv (q := 72) (Y := zm_208) (zw_W_I W).1 rfl rfl zm_208_t rfl rfl) rfl rfl rfl rfl rfl (yr_wh1 (zw_W_I W) h0 ⟨by decide, by decide⟩) ?_
  refine zw_bne1 (g := 24) (pc' := 22) rfl rfl rfl (rfl : _ = (1 : Int)) (fun h2 => ?_) (fun h9 => absurd h9 (by decide))
  refine zw_ld (n := 1) (k := 0) (f := zp_isR) (pc' := 25) rfl rfl rfl rfl rfl ?_
  refine zw_ld (n := 1) (k := 1) (f := zp_isI) (pc' := 26) rfl rfl rfl rfl rfl ?_
  refine zw_cn (pc' := 29) (zw_cv (q := 72) (Y := zm_220) (zw_W_I W).1 rfl rfl zm_220_t rfl rfl) rfl rfl rfl rfl rfl (q1) ?_
  refine zw_ld (n := 1) (k := 2) (f := zp_isI) (pc' := 30) rfl rfl rfl rfl rfl ?_
  refine zw_bne1 (g := 40) (pc' := 33) rfl rfl rfl (rfl : _ = (2 : Int)) (fun h3 => ?_) (fun h9 => absurd h9 (by decide))
  refine zw_ld (n := 1) (k := 2) (f := zp_isI) (pc' := 41) rfl rfl rfl rfl rfl ?_
  refine zw_s (pc' := 42) rfl rfl ?_
  refine zw_bne2 (g := 52) (pc' := 45) rfl rfl rfl (rfl : _ = (2 : Int)) (rfl : _ = (1 : Int)) (fun h3 => ?_) (fun h9 => absurd h9 (by decide))
  refine zw_ld (n := 1) (k := 2) (f := zp_isI) (pc' := 53) rfl rfl rfl rfl rfl ?_
  refine zw_s (pc' := 54) rfl rfl ?_
  refine zw_bne2 (g := 64) (pc' := 57) rfl rfl rfl (rfl : _ = (2 : Int)) (rfl : _ = (2 : Int)) (fun h9 => absurd h9 (by decide)) (fun h3 => ?_)
  refine zw_ld (n := 1) (k := 0) (f := zp_isR) (pc' := 58) rfl rfl rfl rfl rfl ?_
  refine zw_gI (q := 72) (pc' := 61) W1 rfl rfl rfl rfl rfl rfl ?_
  refine zw_s (pc' := 80) rfl rfl ?_
  refine zw_ri rfl rfl ?_
  exact ⟨H1, x_rv r3, q2⟩

theorem yr_vo3 {L : Nat} {σ : Nat → Int32} {d : Nat} {H : zp_H} {S : xSea} {x1 : Int32} (W : zw_W H) (hS : xOk S) (hR : xSR H S) (hx : 0 ≤ x1.toInt ∧ x1.toInt < (H.2.1 72 5).toInt) (h8 : x1.toInt < 8) (hm : 0 ≤ ((zw_I H 72 0 (Int32.ofInt 0)).2.1 74 (4 * x1.toInt.toNat + 2)).toInt ∧ ((zw_I H 72 0 (Int32.ofInt 0)).2.1 74 (4 * x1.toInt.toNat + 2)).toInt ≤ 8) (hc : xIn S ((zw_I H 72 0 (Int32.ofInt 0)).2.1 74 (4 * x1.toInt.toNat)).toInt) : ∃ X, zp_Call L σ (d + 4) 219 [.inr (.inr (some 73)), .inl x1, .inl (Int32.ofInt 3)] H X ∧ ∃ H1, X = (.inl (some (.inl ((xVy S (fun j => (zw_I H 72 0 (Int32.ofInt 0)).2.1 75 (16 * x1.toInt.toNat + 2 * j)) (fun j => (zw_I H 72 0 (Int32.ofInt 0)).2.1 75 (16 * x1.toInt.toNat + 2 * j + 1)) ((zw_I H 72 0 (Int32.ofInt 0)).2.1 74 (4 * x1.toInt.toNat + 2)).toInt.toNat (Int32.ofInt 0) ((zw_I H 72 0 (Int32.ofInt 0)).2.1 74 (4 * x1.toInt.toNat)) ((zw_I H 72 0 (Int32.ofInt 0)).2.1 74 (4 * x1.toInt.toNat + 1))).2.2.2.1))), H1) ∧ xFs 64 71 (zw_I H 72 0 (Int32.ofInt 0)) H1 := by
  have h0 : ((zw_I H 72 0 (Int32.ofInt 0)).2.1 72 0).toInt = 0 := congrArg Int32.toInt zw_eq
  have e5 : (zw_I H 72 0 (Int32.ofInt 0)).2.1 72 5 = H.2.1 72 5 := zw_ne rfl rfl
  obtain ⟨_, q1, H1, rfl, W1, q2, r0, r1, r2, r4, r3, -⟩ := xr_sails (L := L) (σ := σ) (d := d) (s := x1) (zw_W_I (p := 72) (k := 0) (x := Int32.ofInt 0) W) hS (xSR_0 hR) ⟨hx.1, by omega⟩ hm hc
  refine zw_met zm_219_t rfl rfl ?_
  refine zw_ld (n := 1) (k := 0) (f := zp_isR) (pc' := 1) rfl rfl rfl rfl rfl ?_
  refine zw_s (pc' := 2) rfl rfl ?_
  refine zw_pI (q := 72) (pc' := 5) W rfl rfl rfl rfl rfl rfl ?_
  refine zw_ld (n := 1) (k := 0) (f := zp_isR) (pc' := 6) rfl rfl rfl rfl rfl ?_
  refine zw_ld (n := 1) (k := 1) (f := zp_isI) (pc' := 7) rfl rfl rfl rfl rfl ?_
  refine zw_c (pc' := 10) (zw_cv (q := 72) (Y := zm_210) (zw_W_I W).1 rfl rfl zm_210_t rfl rfl) rfl rfl rfl rfl rfl (zq_slate1 (zw_W_I W) h0 (by rw [e5]; exact hx)) ?_
  refine zw_beq1 (g := 22) (pc' := 13) rfl rfl rfl (rfl : _ = (1 : Int)) (fun h9 => absurd h9 (by decide)) (fun h1 => ?_)
  refine zw_ld (n := 1) (k := 0) (f := zp_isR) (pc' := 14) rfl rfl rfl rfl rfl ?_
  refine zw_ld (n := 1) (k := 2) (f := zp_isI) (pc' := 15) rfl rfl rfl rfl rfl ?_
  refine zw_s (pc' := 16) rfl rfl ?_
  refine zw_c (pc' := 19) (zw_cv (q := 72) (Y := zm_208) (zw_W_I W).1 rfl rfl zm_208_t rfl rfl) rfl rfl rfl rfl rfl (yr_wh1 (zw_W_I W) h0 ⟨by decide, by decide⟩) ?_
  refine zw_bne1 (g := 24) (pc' := 22) rfl rfl rfl (rfl : _ = (1 : Int)) (fun h2 => ?_) (fun h9 => absurd h9 (by decide))
  refine zw_ld (n := 1) (k := 0) (f := zp_isR) (pc' := 25) rfl rfl rfl rfl rfl ?_
  refine zw_ld (n := 1) (k := 1) (f := zp_isI) (pc' := 26) rfl rfl rfl rfl rfl ?_
  refine zw_cn (pc' := 29) (zw_cv (q := 72) (Y := zm_220) (zw_W_I W).1 rfl rfl zm_220_t rfl rfl) rfl rfl rfl rfl rfl (q1) ?_
  refine zw_ld (n := 1) (k := 2) (f := zp_isI) (pc' := 30) rfl rfl rfl rfl rfl ?_
  refine zw_bne1 (g := 40) (pc' := 33) rfl rfl rfl (rfl : _ = (3 : Int)) (fun h3 => ?_) (fun h9 => absurd h9 (by decide))
  refine zw_ld (n := 1) (k := 2) (f := zp_isI) (pc' := 41) rfl rfl rfl rfl rfl ?_
  refine zw_s (pc' := 42) rfl rfl ?_
  refine zw_bne2 (g := 52) (pc' := 45) rfl rfl rfl (rfl : _ = (3 : Int)) (rfl : _ = (1 : Int)) (fun h3 => ?_) (fun h9 => absurd h9 (by decide))
  refine zw_ld (n := 1) (k := 2) (f := zp_isI) (pc' := 53) rfl rfl rfl rfl rfl ?_
  refine zw_s (pc' := 54) rfl rfl ?_
  refine zw_bne2 (g := 64) (pc' := 57) rfl rfl rfl (rfl : _ = (3 : Int)) (rfl : _ = (2 : Int)) (fun h3 => ?_) (fun h9 => absurd h9 (by decide))
  refine zw_ld (n := 1) (k := 2) (f := zp_isI) (pc' := 65) rfl rfl rfl rfl rfl ?_
  refine zw_s (pc' := 66) rfl rfl ?_
  refine zw_bne2 (g := 76) (pc' := 69) rfl rfl rfl (rfl : _ = (3 : Int)) (rfl : _ = (3 : Int)) (fun h9 => absurd h9 (by decide)) (fun h3 => ?_)
  refine zw_ld (n := 1) (k := 0) (f := zp_isR) (pc' := 70) rfl rfl rfl rfl rfl ?_
  refine zw_gI (q := 72) (pc' := 73) W1 rfl rfl rfl rfl rfl rfl ?_
  refine zw_s (pc' := 80) rfl rfl ?_
  refine zw_ri rfl rfl ?_
  exact ⟨H1, x_rv r4, q2⟩

theorem yr_vo4 {L : Nat} {σ : Nat → Int32} {d : Nat} {H : zp_H} {S : xSea} {x1 : Int32} (W : zw_W H) (hS : xOk S) (hR : xSR H S) (hx : 0 ≤ x1.toInt ∧ x1.toInt < (H.2.1 72 5).toInt) (h8 : x1.toInt < 8) (hm : 0 ≤ ((zw_I H 72 0 (Int32.ofInt 0)).2.1 74 (4 * x1.toInt.toNat + 2)).toInt ∧ ((zw_I H 72 0 (Int32.ofInt 0)).2.1 74 (4 * x1.toInt.toNat + 2)).toInt ≤ 8) (hc : xIn S ((zw_I H 72 0 (Int32.ofInt 0)).2.1 74 (4 * x1.toInt.toNat)).toInt) : ∃ X, zp_Call L σ (d + 4) 219 [.inr (.inr (some 73)), .inl x1, .inl (Int32.ofInt 4)] H X ∧ ∃ H1, X = (.inl (some (.inl ((xVy S (fun j => (zw_I H 72 0 (Int32.ofInt 0)).2.1 75 (16 * x1.toInt.toNat + 2 * j)) (fun j => (zw_I H 72 0 (Int32.ofInt 0)).2.1 75 (16 * x1.toInt.toNat + 2 * j + 1)) ((zw_I H 72 0 (Int32.ofInt 0)).2.1 74 (4 * x1.toInt.toNat + 2)).toInt.toNat (Int32.ofInt 0) ((zw_I H 72 0 (Int32.ofInt 0)).2.1 74 (4 * x1.toInt.toNat)) ((zw_I H 72 0 (Int32.ofInt 0)).2.1 74 (4 * x1.toInt.toNat + 1))).2.1))), H1) ∧ xFs 64 71 (zw_I H 72 0 (Int32.ofInt 0)) H1 := by
  have h0 : ((zw_I H 72 0 (Int32.ofInt 0)).2.1 72 0).toInt = 0 := congrArg Int32.toInt zw_eq
  have e5 : (zw_I H 72 0 (Int32.ofInt 0)).2.1 72 5 = H.2.1 72 5 := zw_ne rfl rfl
  obtain ⟨_, q1, H1, rfl, W1, q2, r0, r1, r2, r4, r3, -⟩ := xr_sails (L := L) (σ := σ) (d := d) (s := x1) (zw_W_I (p := 72) (k := 0) (x := Int32.ofInt 0) W) hS (xSR_0 hR) ⟨hx.1, by omega⟩ hm hc
  refine zw_met zm_219_t rfl rfl ?_
  refine zw_ld (n := 1) (k := 0) (f := zp_isR) (pc' := 1) rfl rfl rfl rfl rfl ?_
  refine zw_s (pc' := 2) rfl rfl ?_
  refine zw_pI (q := 72) (pc' := 5) W rfl rfl rfl rfl rfl rfl ?_
  refine zw_ld (n := 1) (k := 0) (f := zp_isR) (pc' := 6) rfl rfl rfl rfl rfl ?_
  refine zw_ld (n := 1) (k := 1) (f := zp_isI) (pc' := 7) rfl rfl rfl rfl rfl ?_
  refine zw_c (pc' := 10) (zw_cv (q := 72) (Y := zm_210) (zw_W_I W).1 rfl rfl zm_210_t rfl rfl) rfl rfl rfl rfl rfl (zq_slate1 (zw_W_I W) h0 (by rw [e5]; exact hx)) ?_
  refine zw_beq1 (g := 22) (pc' := 13) rfl rfl rfl (rfl : _ = (1 : Int)) (fun h9 => absurd h9 (by decide)) (fun h1 => ?_)
  refine zw_ld (n := 1) (k := 0) (f := zp_isR) (pc' := 14) rfl rfl rfl rfl rfl ?_
  refine zw_ld (n := 1) (k := 2) (f := zp_isI) (pc' := 15) rfl rfl rfl rfl rfl ?_
  refine zw_s (pc' := 16) rfl rfl ?_
  refine zw_c (pc' := 19) (zw_cv (q := 72) (Y := zm_208) (zw_W_I W).1 rfl rfl zm_208_t rfl rfl) rfl rfl rfl rfl rfl (yr_wh1 (zw_W_I W) h0 ⟨by decide, by decide⟩) ?_
  refine zw_bne1 (g := 24) (pc' := 22) rfl rfl rfl (rfl : _ = (1 : Int)) (fun h2 => ?_) (fun h9 => absurd h9 (by decide))
  refine zw_ld (n := 1) (k := 0) (f := zp_isR) (pc' := 25) rfl rfl rfl rfl rfl ?_
  refine zw_ld (n := 1) (k := 1) (f := zp_isI) (pc' := 26) rfl rfl rfl rfl rfl ?_
  refine zw_cn (pc' := 29) (zw_cv (q := 72) (Y := zm_220) (zw_W_I W).1 rfl rfl zm_220_t rfl rfl) rfl rfl rfl rfl rfl (q1) ?_
  refine zw_ld (n := 1) (k := 2) (f := zp_isI) (pc' := 30) rfl rfl rfl rfl rfl ?_
  refine zw_bne1 (g := 40) (pc' := 33) rfl rfl rfl (rfl : _ = (4 : Int)) (fun h3 => ?_) (fun h9 => absurd h9 (by decide))
  refine zw_ld (n := 1) (k := 2) (f := zp_isI) (pc' := 41) rfl rfl rfl rfl rfl ?_
  refine zw_s (pc' := 42) rfl rfl ?_
  refine zw_bne2 (g := 52) (pc' := 45) rfl rfl rfl (rfl : _ = (4 : Int)) (rfl : _ = (1 : Int)) (fun h3 => ?_) (fun h9 => absurd h9 (by decide))
  refine zw_ld (n := 1) (k := 2) (f := zp_isI) (pc' := 53) rfl rfl rfl rfl rfl ?_
  refine zw_s (pc' := 54) rfl rfl ?_
  refine zw_bne2 (g := 64) (pc' := 57) rfl rfl rfl (rfl : _ = (4 : Int)) (rfl : _ = (2 : Int)) (fun h3 => ?_) (fun h9 => absurd h9 (by decide))
  refine zw_ld (n := 1) (k := 2) (f := zp_isI) (pc' := 65) rfl rfl rfl rfl rfl ?_
  refine zw_s (pc' := 66) rfl rfl ?_
  refine zw_bne2 (g := 76) (pc' := 69) rfl rfl rfl (rfl : _ = (4 : Int)) (rfl : _ = (3 : Int)) (fun h3 => ?_) (fun h9 => absurd h9 (by decide))
  refine zw_ld (n := 1) (k := 0) (f := zp_isR) (pc' := 77) rfl rfl rfl rfl rfl ?_
  refine zw_gI (q := 72) (pc' := 80) W1 rfl rfl rfl rfl rfl rfl ?_
  refine zw_ri rfl rfl ?_
  exact ⟨H1, x_rv r1, q2⟩

theorem yr_von {L : Nat} {σ : Nat → Int32} {d : Nat} {H : zp_H} (W : zw_W H) {x1 x2 : Int32} (h : ¬ ((0 ≤ x1.toInt ∧ x1.toInt < (H.2.1 72 5).toInt) ∧ 0 ≤ x2.toInt ∧ x2.toInt ≤ (Int32.ofInt 4).toInt)) : zp_Call L σ (d + 4) 219 [.inr (.inr (some 73)), .inl x1, .inl x2] H (.inl (some (.inl (Int32.ofInt 0))), zw_I (zw_I H 72 0 (Int32.ofInt 0)) 72 0 (Int32.ofInt 1)) := by
  have h0 : ((zw_I H 72 0 (Int32.ofInt 0)).2.1 72 0).toInt = 0 := congrArg Int32.toInt zw_eq
  have e5 : (zw_I H 72 0 (Int32.ofInt 0)).2.1 72 5 = H.2.1 72 5 := zw_ne rfl rfl
  refine zw_ex (zw_met zm_219_t rfl rfl ?_)
  refine zw_ld (n := 1) (k := 0) (f := zp_isR) (pc' := 1) rfl rfl rfl rfl rfl ?_
  refine zw_s (pc' := 2) rfl rfl ?_
  refine zw_pI (q := 72) (pc' := 5) W rfl rfl rfl rfl rfl rfl ?_
  refine zw_ld (n := 1) (k := 0) (f := zp_isR) (pc' := 6) rfl rfl rfl rfl rfl ?_
  refine zw_ld (n := 1) (k := 1) (f := zp_isI) (pc' := 7) rfl rfl rfl rfl rfl ?_
  by_cases hp : 0 ≤ x1.toInt ∧ x1.toInt < (H.2.1 72 5).toInt
  · refine zw_c (pc' := 10) (zw_cv (q := 72) (Y := zm_210) (zw_W_I W).1 rfl rfl zm_210_t rfl rfl) rfl rfl rfl rfl rfl (zq_slate1 (zw_W_I W) h0 (by rw [e5]; exact hp)) ?_
    refine zw_beq1 (g := 22) (pc' := 13) rfl rfl rfl (rfl : _ = (1 : Int)) (fun h9 => absurd h9 (by decide)) (fun h1 => ?_)
    refine zw_ld (n := 1) (k := 0) (f := zp_isR) (pc' := 14) rfl rfl rfl rfl rfl ?_
    refine zw_ld (n := 1) (k := 2) (f := zp_isI) (pc' := 15) rfl rfl rfl rfl rfl ?_
    refine zw_s (pc' := 16) rfl rfl ?_
    refine zw_c (pc' := 19) (zw_cv (q := 72) (Y := zm_208) (zw_W_I W).1 rfl rfl zm_208_t rfl rfl) rfl rfl rfl rfl rfl (yr_wh0 (zw_W_I W) h0 (fun h9 => h ⟨hp, h9⟩)) ?_
    refine zw_bne1 (g := 24) (pc' := 22) rfl rfl rfl (rfl : _ = (0 : Int)) (fun h9 => absurd h9 (by decide)) (fun h2 => ?_)
    refine zw_s (pc' := 23) rfl rfl ?_
    refine zw_ri rfl rfl ?_
    rfl
  · refine zw_c (pc' := 10) (zw_cv (q := 72) (Y := zm_210) (zw_W_I W).1 rfl rfl zm_210_t rfl rfl) rfl rfl rfl rfl rfl (zq_slate0 (zw_W_I W) h0 (by rw [e5]; exact hp)) ?_
    refine zw_beq1 (g := 22) (pc' := 13) rfl rfl rfl (rfl : _ = (0 : Int)) (fun h1 => ?_) (fun h9 => absurd h9 (by decide))
    refine zw_s (pc' := 23) rfl rfl ?_
    refine zw_ri rfl rfl ?_
    rfl

theorem y01234 {x : Int32} (h : 0 ≤ x.toInt ∧ x.toInt ≤ (Int32.ofInt 4).toInt) : x = Int32.ofInt 0 ∨ x = Int32.ofInt 1 ∨ x = Int32.ofInt 2 ∨ x = Int32.ofInt 3 ∨ x = Int32.ofInt 4 := by
  have h2 : x.toInt ≤ 4 := h.2
  rcases (show x.toInt = 0 ∨ x.toInt = 1 ∨ x.toInt = 2 ∨ x.toInt = 3 ∨ x.toInt = 4 by omega) with h9 | h9 | h9 | h9 | h9
  · exact Or.inl (Int32.toInt_inj.mp h9)
  · exact Or.inr (Or.inl (Int32.toInt_inj.mp h9))
  · exact Or.inr (Or.inr (Or.inl (Int32.toInt_inj.mp h9)))
  · exact Or.inr (Or.inr (Or.inr (Or.inl (Int32.toInt_inj.mp h9))))
  · exact Or.inr (Or.inr (Or.inr (Or.inr (Int32.toInt_inj.mp h9))))

theorem yb_voyage {L : Nat} {σ : Nat → Int32} {d c t : Nat} {H : zp_H} {x1 x2 : Int32} (hI : yJ c t H) : ∃ H1 H2 v w, zp_Call L σ (d + 60) 118 [.inr (.inr (some 1)), .inl x1, .inl x2, .inr (.inr (some 105))] H (.inl (some (.inl v)), H1) ∧ zp_Call L σ (d + 60) 219 [.inr (.inr (some 73)), .inl x1, .inl x2] H1 (.inl (some (.inl w)), H2) ∧ H1.1 = zB_sh ∧ yJ c t H2 ∧ (H2.2.1 72 0).toInt = v.toInt ∧ (v.toInt = 0 → H2.2.2.1 104 0 = w.toInt64) := by
  obtain ⟨H1, v, c1, hI1⟩ := yp_voyage (L := L) (σ := σ) (d := d) (x1 := x1) (x2 := x2) hI
  obtain ⟨H2, w, c2, hI2⟩ := yq_voyage (L := L) (σ := σ) (d := d) (x1 := x1) (x2 := x2) hI1
  have W1 := zB_Wd (zB_dn (zB_Bc hI1.1.1.1))
  obtain ⟨⟨A, a1, a2, a3⟩, -⟩ := id hI.2
  have hr : yGr H := hI.2.2.2.2.2.2
  have n5 := a3.1
  have n0 := a2.1
  have n8 := a1.1
  have h0 := hI.1.2.2.1
  rcases h0 with rfl | rfl
  · have n0 : (H.2.1 13 0).toInt = A.1 := n0
    by_cases h : (0 ≤ x1.toInt ∧ x1.toInt < (H.2.1 72 5).toInt) ∧ 0 ≤ x2.toInt ∧ x2.toInt ≤ (Int32.ofInt 4).toInt
    · have hs : x1.toInt.toNat < A.1 := by omega
      obtain ⟨hS, hC⟩ := xJ_S0 hI
      have hm := a1.2.2.1 x1.toInt.toNat hs
      have m0 : H.2.1 16 x1.toInt.toNat = A.2.2.1 x1.toInt.toNat 2 := a2.2.2.1 _ 2 hs (by decide)
      have m1 : H.2.1 14 x1.toInt.toNat = A.2.2.1 x1.toInt.toNat 0 := a2.2.2.1 _ 0 hs (by decide)
      have m2 : H.2.1 15 x1.toInt.toNat = A.2.2.1 x1.toInt.toNat 1 := a2.2.2.1 _ 1 hs (by decide)
      have l0 : H.2.1 74 (4 * x1.toInt.toNat + 2) = A.2.2.1 x1.toInt.toNat 2 := a3.2.2.1 _ 2 hs (by decide)
      have l1 : H.2.1 74 (4 * x1.toInt.toNat) = A.2.2.1 x1.toInt.toNat 0 := a3.2.2.1 _ 0 hs (by decide)
      have l2 : H.2.1 74 (4 * x1.toInt.toNat + 1) = A.2.2.1 x1.toInt.toNat 1 := a3.2.2.1 _ 1 hs (by decide)
      have hcl : xIn (xSo H) (A.2.2.1 x1.toInt.toNat 0).toInt := by
        rw [← l1]
        exact hr.1 x1.toInt.toNat (by omega)
      have hw : ∀ j, j < (H.2.1 16 x1.toInt.toNat).toInt.toNat → -1 ≤ (H.2.1 18 (8 * x1.toInt.toNat + j)).toInt ∧ (H.2.1 18 (8 * x1.toInt.toNat + j)).toInt ≤ 3 := fun j hj => by
        rw [m0] at hj
        have b := zB_ar1 (zB_dn (zB_Bc hI.1.1.1)) (p := 18) (t := 0) (n := 64) (i := 8 * x1.toInt.toNat + j) (r := (0, 3)) rfl (by omega) (by rw [show (zB_al zB_ar 18).1 = 1 from rfl, Nat.mod_one]; rfl)
        have b : 0 ≤ (H.2.1 18 (8 * x1.toInt.toNat + j)).toInt ∧ (H.2.1 18 (8 * x1.toInt.toNat + j)).toInt ≤ 3 := b
        exact ⟨by omega, b.2⟩
      have hs' : 0 ≤ x1.toInt ∧ x1.toInt < (H.2.1 13 0).toInt := by rw [n0, ← n5]; exact h.1
      have key : ∀ K, xFv 54 H K → ∀ u, xVy (xSo H) (fun j => (zw_I (zw_J K 104 0 u) 72 0 (Int32.ofInt 0)).2.1 75 (16 * x1.toInt.toNat + 2 * j)) (fun j => (zw_I (zw_J K 104 0 u) 72 0 (Int32.ofInt 0)).2.1 75 (16 * x1.toInt.toNat + 2 * j + 1)) ((zw_I (zw_J K 104 0 u) 72 0 (Int32.ofInt 0)).2.1 74 (4 * x1.toInt.toNat + 2)).toInt.toNat (Int32.ofInt 0) ((zw_I (zw_J K 104 0 u) 72 0 (Int32.ofInt 0)).2.1 74 (4 * x1.toInt.toNat)) ((zw_I (zw_J K 104 0 u) 72 0 (Int32.ofInt 0)).2.1 74 (4 * x1.toInt.toNat + 1)) = (xVy (xSo H) (fun j => H.2.1 18 (8 * x1.toInt.toNat + j)) (fun j => H.2.1 19 (8 * x1.toInt.toNat + j)) (H.2.1 16 x1.toInt.toNat).toInt.toNat (Int32.ofInt 0) (H.2.1 14 x1.toInt.toNat) (H.2.1 15 x1.toInt.toNat)) := fun K hK u => by
        have f4 : ∀ k, (zw_I (zw_J K 104 0 u) 72 0 (Int32.ofInt 0)).2.1 74 k = H.2.1 74 k := fun k => (zw_ne rfl rfl : _ = K.2.1 74 k).trans (hK.2.2.1 74 k (by decide))
        have f5 : ∀ k, (zw_I (zw_J K 104 0 u) 72 0 (Int32.ofInt 0)).2.1 75 k = H.2.1 75 k := fun k => (zw_ne rfl rfl : _ = K.2.1 75 k).trans (hK.2.2.1 75 k (by decide))
        rw [f4, f4, f4, l0, l1, l2, m0, m1, m2]
        refine xVy_c (m := (A.2.2.1 x1.toInt.toNat 2).toInt.toNat) (fun j hj => ⟨?_, ?_⟩) _ _ _ _ (by decide) (by rw [show (Int32.ofInt 0).toInt = 0 by decide]; omega) (by omega)
        · show (zw_I (zw_J K 104 0 u) 72 0 (Int32.ofInt 0)).2.1 75 (16 * x1.toInt.toNat + 2 * j) = H.2.1 18 (8 * x1.toInt.toNat + j)
          rw [f5]
          exact (a3.2.2.2.1 x1.toInt.toNat j 0 hs hj (by decide)).trans (a2.2.2.2.1 x1.toInt.toNat j 0 hs hj (by decide)).symm
        · show (zw_I (zw_J K 104 0 u) 72 0 (Int32.ofInt 0)).2.1 75 (16 * x1.toInt.toNat + 2 * j + 1) = H.2.1 19 (8 * x1.toInt.toNat + j)
          rw [f5]
          exact (a3.2.2.2.1 x1.toInt.toNat j 1 hs hj (by decide)).trans (a2.2.2.2.1 x1.toInt.toNat j 1 hs hj (by decide)).symm
      rcases y01234 h.2 with rfl | rfl | rfl | rfl | rfl
      · obtain ⟨K, k1, k2⟩ := yl_vo0_0 (L := L) (σ := σ) (d := d + 53) (x1 := x1) hI.1.1.1 hS hC hs' (by rw [m0]; exact hm) hw (by rw [m1]; exact hcl)
        have e1 := zp_Call_u c1 k1
        cases e1
        have f4 : ∀ k, (zw_I (zw_J K 104 0 ((xVy (xSo H) (fun j => H.2.1 18 (8 * x1.toInt.toNat + j)) (fun j => H.2.1 19 (8 * x1.toInt.toNat + j)) (H.2.1 16 x1.toInt.toNat).toInt.toNat (Int32.ofInt 0) (H.2.1 14 x1.toInt.toNat) (H.2.1 15 x1.toInt.toNat)).2.2.1).toInt64) 72 0 (Int32.ofInt 0)).2.1 74 k = H.2.1 74 k := fun k => (zw_ne rfl rfl : _ = K.2.1 74 k).trans (k2.2.2.1 74 k (by decide))
        obtain ⟨_, j1, J, rfl, j2⟩ := yr_vo0 (L := L) (σ := σ) (d := d + 56) (S := xSo H) (x1 := x1) W1 hS (show xSR (zw_J K 104 0 ((xVy (xSo H) (fun j => H.2.1 18 (8 * x1.toInt.toNat + j)) (fun j => H.2.1 19 (8 * x1.toInt.toNat + j)) (H.2.1 16 x1.toInt.toNat).toInt.toNat (Int32.ofInt 0) (H.2.1 14 x1.toInt.toNat) (H.2.1 15 x1.toInt.toNat)).2.2.1).toInt64) (xSo H) from xSR_J (xSR_v k2 (by decide) (xSR_o H))) (by rw [show (zw_J K 104 0 ((xVy (xSo H) (fun j => H.2.1 18 (8 * x1.toInt.toNat + j)) (fun j => H.2.1 19 (8 * x1.toInt.toNat + j)) (H.2.1 16 x1.toInt.toNat).toInt.toNat (Int32.ofInt 0) (H.2.1 14 x1.toInt.toNat) (H.2.1 15 x1.toInt.toNat)).2.2.1).toInt64).2.1 72 5 = H.2.1 72 5 from k2.2.2.1 72 5 (by decide)]; exact h.1) (by omega) (by rw [f4, l0]; exact hm) (by rw [f4, l1]; exact hcl)
        have e2 := zp_Call_u c2 j1
        cases e2
        refine ⟨_, _, _, _, c1, c2, hI1.1.1.1.1, hI2, (congrArg Int32.toInt (j2.2.2.1 72 0 (by decide))).trans (congrArg Int32.toInt zw_eq), fun _ => ?_⟩
        rw [key K k2, j2.2.2.2 104 0 (by decide)]
        exact zp_u_self K.2.2.1 104 0 _
      · obtain ⟨K, k1, k2⟩ := yl_vo0_1 (L := L) (σ := σ) (d := d + 53) (x1 := x1) hI.1.1.1 hS hC hs' (by rw [m0]; exact hm) hw (by rw [m1]; exact hcl)
        have e1 := zp_Call_u c1 k1
        cases e1
        have f4 : ∀ k, (zw_I (zw_J K 104 0 ((xVy (xSo H) (fun j => H.2.1 18 (8 * x1.toInt.toNat + j)) (fun j => H.2.1 19 (8 * x1.toInt.toNat + j)) (H.2.1 16 x1.toInt.toNat).toInt.toNat (Int32.ofInt 0) (H.2.1 14 x1.toInt.toNat) (H.2.1 15 x1.toInt.toNat)).1).toInt64) 72 0 (Int32.ofInt 0)).2.1 74 k = H.2.1 74 k := fun k => (zw_ne rfl rfl : _ = K.2.1 74 k).trans (k2.2.2.1 74 k (by decide))
        obtain ⟨_, j1, J, rfl, j2⟩ := yr_vo1 (L := L) (σ := σ) (d := d + 56) (S := xSo H) (x1 := x1) W1 hS (show xSR (zw_J K 104 0 ((xVy (xSo H) (fun j => H.2.1 18 (8 * x1.toInt.toNat + j)) (fun j => H.2.1 19 (8 * x1.toInt.toNat + j)) (H.2.1 16 x1.toInt.toNat).toInt.toNat (Int32.ofInt 0) (H.2.1 14 x1.toInt.toNat) (H.2.1 15 x1.toInt.toNat)).1).toInt64) (xSo H) from xSR_J (xSR_v k2 (by decide) (xSR_o H))) (by rw [show (zw_J K 104 0 ((xVy (xSo H) (fun j => H.2.1 18 (8 * x1.toInt.toNat + j)) (fun j => H.2.1 19 (8 * x1.toInt.toNat + j)) (H.2.1 16 x1.toInt.toNat).toInt.toNat (Int32.ofInt 0) (H.2.1 14 x1.toInt.toNat) (H.2.1 15 x1.toInt.toNat)).1).toInt64).2.1 72 5 = H.2.1 72 5 from k2.2.2.1 72 5 (by decide)]; exact h.1) (by omega) (by rw [f4, l0]; exact hm) (by rw [f4, l1]; exact hcl)
        have e2 := zp_Call_u c2 j1
        cases e2
        refine ⟨_, _, _, _, c1, c2, hI1.1.1.1.1, hI2, (congrArg Int32.toInt (j2.2.2.1 72 0 (by decide))).trans (congrArg Int32.toInt zw_eq), fun _ => ?_⟩
        rw [key K k2, j2.2.2.2 104 0 (by decide)]
        exact zp_u_self K.2.2.1 104 0 _
      · obtain ⟨K, k1, k2⟩ := yl_vo0_2 (L := L) (σ := σ) (d := d + 53) (x1 := x1) hI.1.1.1 hS hC hs' (by rw [m0]; exact hm) hw (by rw [m1]; exact hcl)
        have e1 := zp_Call_u c1 k1
        cases e1
        have f4 : ∀ k, (zw_I (zw_J K 104 0 ((xVy (xSo H) (fun j => H.2.1 18 (8 * x1.toInt.toNat + j)) (fun j => H.2.1 19 (8 * x1.toInt.toNat + j)) (H.2.1 16 x1.toInt.toNat).toInt.toNat (Int32.ofInt 0) (H.2.1 14 x1.toInt.toNat) (H.2.1 15 x1.toInt.toNat)).2.2.2.2.1).toInt64) 72 0 (Int32.ofInt 0)).2.1 74 k = H.2.1 74 k := fun k => (zw_ne rfl rfl : _ = K.2.1 74 k).trans (k2.2.2.1 74 k (by decide))
        obtain ⟨_, j1, J, rfl, j2⟩ := yr_vo2 (L := L) (σ := σ) (d := d + 56) (S := xSo H) (x1 := x1) W1 hS (show xSR (zw_J K 104 0 ((xVy (xSo H) (fun j => H.2.1 18 (8 * x1.toInt.toNat + j)) (fun j => H.2.1 19 (8 * x1.toInt.toNat + j)) (H.2.1 16 x1.toInt.toNat).toInt.toNat (Int32.ofInt 0) (H.2.1 14 x1.toInt.toNat) (H.2.1 15 x1.toInt.toNat)).2.2.2.2.1).toInt64) (xSo H) from xSR_J (xSR_v k2 (by decide) (xSR_o H))) (by rw [show (zw_J K 104 0 ((xVy (xSo H) (fun j => H.2.1 18 (8 * x1.toInt.toNat + j)) (fun j => H.2.1 19 (8 * x1.toInt.toNat + j)) (H.2.1 16 x1.toInt.toNat).toInt.toNat (Int32.ofInt 0) (H.2.1 14 x1.toInt.toNat) (H.2.1 15 x1.toInt.toNat)).2.2.2.2.1).toInt64).2.1 72 5 = H.2.1 72 5 from k2.2.2.1 72 5 (by decide)]; exact h.1) (by omega) (by rw [f4, l0]; exact hm) (by rw [f4, l1]; exact hcl)
        have e2 := zp_Call_u c2 j1
        cases e2
        refine ⟨_, _, _, _, c1, c2, hI1.1.1.1.1, hI2, (congrArg Int32.toInt (j2.2.2.1 72 0 (by decide))).trans (congrArg Int32.toInt zw_eq), fun _ => ?_⟩
        rw [key K k2, j2.2.2.2 104 0 (by decide)]
        exact zp_u_self K.2.2.1 104 0 _
      · obtain ⟨K, k1, k2⟩ := yl_vo0_3 (L := L) (σ := σ) (d := d + 53) (x1 := x1) hI.1.1.1 hS hC hs' (by rw [m0]; exact hm) hw (by rw [m1]; exact hcl)
        have e1 := zp_Call_u c1 k1
        cases e1
        have f4 : ∀ k, (zw_I (zw_J K 104 0 ((xVy (xSo H) (fun j => H.2.1 18 (8 * x1.toInt.toNat + j)) (fun j => H.2.1 19 (8 * x1.toInt.toNat + j)) (H.2.1 16 x1.toInt.toNat).toInt.toNat (Int32.ofInt 0) (H.2.1 14 x1.toInt.toNat) (H.2.1 15 x1.toInt.toNat)).2.2.2.1).toInt64) 72 0 (Int32.ofInt 0)).2.1 74 k = H.2.1 74 k := fun k => (zw_ne rfl rfl : _ = K.2.1 74 k).trans (k2.2.2.1 74 k (by decide))
        obtain ⟨_, j1, J, rfl, j2⟩ := yr_vo3 (L := L) (σ := σ) (d := d + 56) (S := xSo H) (x1 := x1) W1 hS (show xSR (zw_J K 104 0 ((xVy (xSo H) (fun j => H.2.1 18 (8 * x1.toInt.toNat + j)) (fun j => H.2.1 19 (8 * x1.toInt.toNat + j)) (H.2.1 16 x1.toInt.toNat).toInt.toNat (Int32.ofInt 0) (H.2.1 14 x1.toInt.toNat) (H.2.1 15 x1.toInt.toNat)).2.2.2.1).toInt64) (xSo H) from xSR_J (xSR_v k2 (by decide) (xSR_o H))) (by rw [show (zw_J K 104 0 ((xVy (xSo H) (fun j => H.2.1 18 (8 * x1.toInt.toNat + j)) (fun j => H.2.1 19 (8 * x1.toInt.toNat + j)) (H.2.1 16 x1.toInt.toNat).toInt.toNat (Int32.ofInt 0) (H.2.1 14 x1.toInt.toNat) (H.2.1 15 x1.toInt.toNat)).2.2.2.1).toInt64).2.1 72 5 = H.2.1 72 5 from k2.2.2.1 72 5 (by decide)]; exact h.1) (by omega) (by rw [f4, l0]; exact hm) (by rw [f4, l1]; exact hcl)
        have e2 := zp_Call_u c2 j1
        cases e2
        refine ⟨_, _, _, _, c1, c2, hI1.1.1.1.1, hI2, (congrArg Int32.toInt (j2.2.2.1 72 0 (by decide))).trans (congrArg Int32.toInt zw_eq), fun _ => ?_⟩
        rw [key K k2, j2.2.2.2 104 0 (by decide)]
        exact zp_u_self K.2.2.1 104 0 _
      · obtain ⟨K, k1, k2⟩ := yl_vo0_4 (L := L) (σ := σ) (d := d + 53) (x1 := x1) hI.1.1.1 hS hC hs' (by rw [m0]; exact hm) hw (by rw [m1]; exact hcl)
        have e1 := zp_Call_u c1 k1
        cases e1
        have f4 : ∀ k, (zw_I (zw_J K 104 0 ((xVy (xSo H) (fun j => H.2.1 18 (8 * x1.toInt.toNat + j)) (fun j => H.2.1 19 (8 * x1.toInt.toNat + j)) (H.2.1 16 x1.toInt.toNat).toInt.toNat (Int32.ofInt 0) (H.2.1 14 x1.toInt.toNat) (H.2.1 15 x1.toInt.toNat)).2.1).toInt64) 72 0 (Int32.ofInt 0)).2.1 74 k = H.2.1 74 k := fun k => (zw_ne rfl rfl : _ = K.2.1 74 k).trans (k2.2.2.1 74 k (by decide))
        obtain ⟨_, j1, J, rfl, j2⟩ := yr_vo4 (L := L) (σ := σ) (d := d + 56) (S := xSo H) (x1 := x1) W1 hS (show xSR (zw_J K 104 0 ((xVy (xSo H) (fun j => H.2.1 18 (8 * x1.toInt.toNat + j)) (fun j => H.2.1 19 (8 * x1.toInt.toNat + j)) (H.2.1 16 x1.toInt.toNat).toInt.toNat (Int32.ofInt 0) (H.2.1 14 x1.toInt.toNat) (H.2.1 15 x1.toInt.toNat)).2.1).toInt64) (xSo H) from xSR_J (xSR_v k2 (by decide) (xSR_o H))) (by rw [show (zw_J K 104 0 ((xVy (xSo H) (fun j => H.2.1 18 (8 * x1.toInt.toNat + j)) (fun j => H.2.1 19 (8 * x1.toInt.toNat + j)) (H.2.1 16 x1.toInt.toNat).toInt.toNat (Int32.ofInt 0) (H.2.1 14 x1.toInt.toNat) (H.2.1 15 x1.toInt.toNat)).2.1).toInt64).2.1 72 5 = H.2.1 72 5 from k2.2.2.1 72 5 (by decide)]; exact h.1) (by omega) (by rw [f4, l0]; exact hm) (by rw [f4, l1]; exact hcl)
        have e2 := zp_Call_u c2 j1
        cases e2
        refine ⟨_, _, _, _, c1, c2, hI1.1.1.1.1, hI2, (congrArg Int32.toInt (j2.2.2.1 72 0 (by decide))).trans (congrArg Int32.toInt zw_eq), fun _ => ?_⟩
        rw [key K k2, j2.2.2.2 104 0 (by decide)]
        exact zp_u_self K.2.2.1 104 0 _
    · have e1 := zp_Call_u c1 (yl_von0 (L := L) (σ := σ) (d := d + 57) hI.1.1.1 (by rw [n0, ← n5]; exact h))
      cases e1
      have e2 := zp_Call_u c2 (yr_von (L := L) (σ := σ) (d := d + 56) W1 h)
      cases e2
      exact ⟨_, _, _, _, c1, c2, hI1.1.1.1.1, hI2, congrArg Int32.toInt zw_eq, fun h9 => absurd h9 (by decide)⟩
  · have n0 : (H.2.1 33 0).toInt = A.1 := n0
    by_cases h : (0 ≤ x1.toInt ∧ x1.toInt < (H.2.1 72 5).toInt) ∧ 0 ≤ x2.toInt ∧ x2.toInt ≤ (Int32.ofInt 4).toInt
    · have hs : x1.toInt.toNat < A.1 := by omega
      obtain ⟨hS, hC⟩ := xJ_S3 hI
      have hm := a1.2.2.1 x1.toInt.toNat hs
      have m0 : H.2.1 36 x1.toInt.toNat = A.2.2.1 x1.toInt.toNat 2 := a2.2.2.1 _ 2 hs (by decide)
      have m1 : H.2.1 34 x1.toInt.toNat = A.2.2.1 x1.toInt.toNat 0 := a2.2.2.1 _ 0 hs (by decide)
      have m2 : H.2.1 35 x1.toInt.toNat = A.2.2.1 x1.toInt.toNat 1 := a2.2.2.1 _ 1 hs (by decide)
      have l0 : H.2.1 74 (4 * x1.toInt.toNat + 2) = A.2.2.1 x1.toInt.toNat 2 := a3.2.2.1 _ 2 hs (by decide)
      have l1 : H.2.1 74 (4 * x1.toInt.toNat) = A.2.2.1 x1.toInt.toNat 0 := a3.2.2.1 _ 0 hs (by decide)
      have l2 : H.2.1 74 (4 * x1.toInt.toNat + 1) = A.2.2.1 x1.toInt.toNat 1 := a3.2.2.1 _ 1 hs (by decide)
      have hcl : xIn (xSo H) (A.2.2.1 x1.toInt.toNat 0).toInt := by
        rw [← l1]
        exact hr.1 x1.toInt.toNat (by omega)
      have hw : ∀ j, j < (H.2.1 36 x1.toInt.toNat).toInt.toNat → -1 ≤ (H.2.1 38 (8 * x1.toInt.toNat + j)).toInt ∧ (H.2.1 38 (8 * x1.toInt.toNat + j)).toInt ≤ 3 := fun j hj => by
        rw [m0] at hj
        have b := zB_ar1 (zB_dn (zB_Bc hI.1.1.1)) (p := 38) (t := 0) (n := 64) (i := 8 * x1.toInt.toNat + j) (r := (0, 3)) rfl (by omega) (by rw [show (zB_al zB_ar 38).1 = 1 from rfl, Nat.mod_one]; rfl)
        have b : 0 ≤ (H.2.1 38 (8 * x1.toInt.toNat + j)).toInt ∧ (H.2.1 38 (8 * x1.toInt.toNat + j)).toInt ≤ 3 := b
        exact ⟨by omega, b.2⟩
      have hs' : 0 ≤ x1.toInt ∧ x1.toInt < (H.2.1 33 0).toInt := by rw [n0, ← n5]; exact h.1
      have key : ∀ K, xFv 54 H K → ∀ u, xVy (xSo H) (fun j => (zw_I (zw_J K 104 0 u) 72 0 (Int32.ofInt 0)).2.1 75 (16 * x1.toInt.toNat + 2 * j)) (fun j => (zw_I (zw_J K 104 0 u) 72 0 (Int32.ofInt 0)).2.1 75 (16 * x1.toInt.toNat + 2 * j + 1)) ((zw_I (zw_J K 104 0 u) 72 0 (Int32.ofInt 0)).2.1 74 (4 * x1.toInt.toNat + 2)).toInt.toNat (Int32.ofInt 0) ((zw_I (zw_J K 104 0 u) 72 0 (Int32.ofInt 0)).2.1 74 (4 * x1.toInt.toNat)) ((zw_I (zw_J K 104 0 u) 72 0 (Int32.ofInt 0)).2.1 74 (4 * x1.toInt.toNat + 1)) = (xVy (xSo H) (fun j => H.2.1 38 (8 * x1.toInt.toNat + j)) (fun j => H.2.1 39 (8 * x1.toInt.toNat + j)) (H.2.1 36 x1.toInt.toNat).toInt.toNat (Int32.ofInt 0) (H.2.1 34 x1.toInt.toNat) (H.2.1 35 x1.toInt.toNat)) := fun K hK u => by
        have f4 : ∀ k, (zw_I (zw_J K 104 0 u) 72 0 (Int32.ofInt 0)).2.1 74 k = H.2.1 74 k := fun k => (zw_ne rfl rfl : _ = K.2.1 74 k).trans (hK.2.2.1 74 k (by decide))
        have f5 : ∀ k, (zw_I (zw_J K 104 0 u) 72 0 (Int32.ofInt 0)).2.1 75 k = H.2.1 75 k := fun k => (zw_ne rfl rfl : _ = K.2.1 75 k).trans (hK.2.2.1 75 k (by decide))
        rw [f4, f4, f4, l0, l1, l2, m0, m1, m2]
        refine xVy_c (m := (A.2.2.1 x1.toInt.toNat 2).toInt.toNat) (fun j hj => ⟨?_, ?_⟩) _ _ _ _ (by decide) (by rw [show (Int32.ofInt 0).toInt = 0 by decide]; omega) (by omega)
        · show (zw_I (zw_J K 104 0 u) 72 0 (Int32.ofInt 0)).2.1 75 (16 * x1.toInt.toNat + 2 * j) = H.2.1 38 (8 * x1.toInt.toNat + j)
          rw [f5]
          exact (a3.2.2.2.1 x1.toInt.toNat j 0 hs hj (by decide)).trans (a2.2.2.2.1 x1.toInt.toNat j 0 hs hj (by decide)).symm
        · show (zw_I (zw_J K 104 0 u) 72 0 (Int32.ofInt 0)).2.1 75 (16 * x1.toInt.toNat + 2 * j + 1) = H.2.1 39 (8 * x1.toInt.toNat + j)
          rw [f5]
          exact (a3.2.2.2.1 x1.toInt.toNat j 1 hs hj (by decide)).trans (a2.2.2.2.1 x1.toInt.toNat j 1 hs hj (by decide)).symm
      rcases y01234 h.2 with rfl | rfl | rfl | rfl | rfl
      · obtain ⟨K, k1, k2⟩ := yl_vo3_0 (L := L) (σ := σ) (d := d + 53) (x1 := x1) hI.1.1.1 hS hC hs' (by rw [m0]; exact hm) hw (by rw [m1]; exact hcl)
        have e1 := zp_Call_u c1 k1
        cases e1
        have f4 : ∀ k, (zw_I (zw_J K 104 0 ((xVy (xSo H) (fun j => H.2.1 38 (8 * x1.toInt.toNat + j)) (fun j => H.2.1 39 (8 * x1.toInt.toNat + j)) (H.2.1 36 x1.toInt.toNat).toInt.toNat (Int32.ofInt 0) (H.2.1 34 x1.toInt.toNat) (H.2.1 35 x1.toInt.toNat)).2.2.1).toInt64) 72 0 (Int32.ofInt 0)).2.1 74 k = H.2.1 74 k := fun k => (zw_ne rfl rfl : _ = K.2.1 74 k).trans (k2.2.2.1 74 k (by decide))
        obtain ⟨_, j1, J, rfl, j2⟩ := yr_vo0 (L := L) (σ := σ) (d := d + 56) (S := xSo H) (x1 := x1) W1 hS (show xSR (zw_J K 104 0 ((xVy (xSo H) (fun j => H.2.1 38 (8 * x1.toInt.toNat + j)) (fun j => H.2.1 39 (8 * x1.toInt.toNat + j)) (H.2.1 36 x1.toInt.toNat).toInt.toNat (Int32.ofInt 0) (H.2.1 34 x1.toInt.toNat) (H.2.1 35 x1.toInt.toNat)).2.2.1).toInt64) (xSo H) from xSR_J (xSR_v k2 (by decide) (xSR_o H))) (by rw [show (zw_J K 104 0 ((xVy (xSo H) (fun j => H.2.1 38 (8 * x1.toInt.toNat + j)) (fun j => H.2.1 39 (8 * x1.toInt.toNat + j)) (H.2.1 36 x1.toInt.toNat).toInt.toNat (Int32.ofInt 0) (H.2.1 34 x1.toInt.toNat) (H.2.1 35 x1.toInt.toNat)).2.2.1).toInt64).2.1 72 5 = H.2.1 72 5 from k2.2.2.1 72 5 (by decide)]; exact h.1) (by omega) (by rw [f4, l0]; exact hm) (by rw [f4, l1]; exact hcl)
        have e2 := zp_Call_u c2 j1
        cases e2
        refine ⟨_, _, _, _, c1, c2, hI1.1.1.1.1, hI2, (congrArg Int32.toInt (j2.2.2.1 72 0 (by decide))).trans (congrArg Int32.toInt zw_eq), fun _ => ?_⟩
        rw [key K k2, j2.2.2.2 104 0 (by decide)]
        exact zp_u_self K.2.2.1 104 0 _
      · obtain ⟨K, k1, k2⟩ := yl_vo3_1 (L := L) (σ := σ) (d := d + 53) (x1 := x1) hI.1.1.1 hS hC hs' (by rw [m0]; exact hm) hw (by rw [m1]; exact hcl)
        have e1 := zp_Call_u c1 k1
        cases e1
        have f4 : ∀ k, (zw_I (zw_J K 104 0 ((xVy (xSo H) (fun j => H.2.1 38 (8 * x1.toInt.toNat + j)) (fun j => H.2.1 39 (8 * x1.toInt.toNat + j)) (H.2.1 36 x1.toInt.toNat).toInt.toNat (Int32.ofInt 0) (H.2.1 34 x1.toInt.toNat) (H.2.1 35 x1.toInt.toNat)).1).toInt64) 72 0 (Int32.ofInt 0)).2.1 74 k = H.2.1 74 k := fun k => (zw_ne rfl rfl : _ = K.2.1 74 k).trans (k2.2.2.1 74 k (by decide))
        obtain ⟨_, j1, J, rfl, j2⟩ := yr_vo1 (L := L) (σ := σ) (d := d + 56) (S := xSo H) (x1 := x1) W1 hS (show xSR (zw_J K 104 0 ((xVy (xSo H) (fun j => H.2.1 38 (8 * x1.toInt.toNat + j)) (fun j => H.2.1 39 (8 * x1.toInt.toNat + j)) (H.2.1 36 x1.toInt.toNat).toInt.toNat (Int32.ofInt 0) (H.2.1 34 x1.toInt.toNat) (H.2.1 35 x1.toInt.toNat)).1).toInt64) (xSo H) from xSR_J (xSR_v k2 (by decide) (xSR_o H))) (by rw [show (zw_J K 104 0 ((xVy (xSo H) (fun j => H.2.1 38 (8 * x1.toInt.toNat + j)) (fun j => H.2.1 39 (8 * x1.toInt.toNat + j)) (H.2.1 36 x1.toInt.toNat).toInt.toNat (Int32.ofInt 0) (H.2.1 34 x1.toInt.toNat) (H.2.1 35 x1.toInt.toNat)).1).toInt64).2.1 72 5 = H.2.1 72 5 from k2.2.2.1 72 5 (by decide)]; exact h.1) (by omega) (by rw [f4, l0]; exact hm) (by rw [f4, l1]; exact hcl)
        have e2 := zp_Call_u c2 j1
        cases e2
        refine ⟨_, _, _, _, c1, c2, hI1.1.1.1.1, hI2, (congrArg Int32.toInt (j2.2.2.1 72 0 (by decide))).trans (congrArg Int32.toInt zw_eq), fun _ => ?_⟩
        rw [key K k2, j2.2.2.2 104 0 (by decide)]
        exact zp_u_self K.2.2.1 104 0 _
      · obtain ⟨K, k1, k2⟩ := yl_vo3_2 (L := L) (σ := σ) (d := d + 53) (x1 := x1) hI.1.1.1 hS hC hs' (by rw [m0]; exact hm) hw (by rw [m1]; exact hcl)
        have e1 := zp_Call_u c1 k1
        cases e1
        have f4 : ∀ k, (zw_I (zw_J K 104 0 ((xVy (xSo H) (fun j => H.2.1 38 (8 * x1.toInt.toNat + j)) (fun j => H.2.1 39 (8 * x1.toInt.toNat + j)) (H.2.1 36 x1.toInt.toNat).toInt.toNat (Int32.ofInt 0) (H.2.1 34 x1.toInt.toNat) (H.2.1 35 x1.toInt.toNat)).2.2.2.2.1).toInt64) 72 0 (Int32.ofInt 0)).2.1 74 k = H.2.1 74 k := fun k => (zw_ne rfl rfl : _ = K.2.1 74 k).trans (k2.2.2.1 74 k (by decide))
        obtain ⟨_, j1, J, rfl, j2⟩ := yr_vo2 (L := L) (σ := σ) (d := d + 56) (S := xSo H) (x1 := x1) W1 hS (show xSR (zw_J K 104 0 ((xVy (xSo H) (fun j => H.2.1 38 (8 * x1.toInt.toNat + j)) (fun j => H.2.1 39 (8 * x1.toInt.toNat + j)) (H.2.1 36 x1.toInt.toNat).toInt.toNat (Int32.ofInt 0) (H.2.1 34 x1.toInt.toNat) (H.2.1 35 x1.toInt.toNat)).2.2.2.2.1).toInt64) (xSo H) from xSR_J (xSR_v k2 (by decide) (xSR_o H))) (by rw [show (zw_J K 104 0 ((xVy (xSo H) (fun j => H.2.1 38 (8 * x1.toInt.toNat + j)) (fun j => H.2.1 39 (8 * x1.toInt.toNat + j)) (H.2.1 36 x1.toInt.toNat).toInt.toNat (Int32.ofInt 0) (H.2.1 34 x1.toInt.toNat) (H.2.1 35 x1.toInt.toNat)).2.2.2.2.1).toInt64).2.1 72 5 = H.2.1 72 5 from k2.2.2.1 72 5 (by decide)]; exact h.1) (by omega) (by rw [f4, l0]; exact hm) (by rw [f4, l1]; exact hcl)
        have e2 := zp_Call_u c2 j1
        cases e2
        refine ⟨_, _, _, _, c1, c2, hI1.1.1.1.1, hI2, (congrArg Int32.toInt (j2.2.2.1 72 0 (by decide))).trans (congrArg Int32.toInt zw_eq), fun _ => ?_⟩
        rw [key K k2, j2.2.2.2 104 0 (by decide)]
        exact zp_u_self K.2.2.1 104 0 _
      · obtain ⟨K, k1, k2⟩ := yl_vo3_3 (L := L) (σ := σ) (d := d + 53) (x1 := x1) hI.1.1.1 hS hC hs' (by rw [m0]; exact hm) hw (by rw [m1]; exact hcl)
        have e1 := zp_Call_u c1 k1
        cases e1
        have f4 : ∀ k, (zw_I (zw_J K 104 0 ((xVy (xSo H) (fun j => H.2.1 38 (8 * x1.toInt.toNat + j)) (fun j => H.2.1 39 (8 * x1.toInt.toNat + j)) (H.2.1 36 x1.toInt.toNat).toInt.toNat (Int32.ofInt 0) (H.2.1 34 x1.toInt.toNat) (H.2.1 35 x1.toInt.toNat)).2.2.2.1).toInt64) 72 0 (Int32.ofInt 0)).2.1 74 k = H.2.1 74 k := fun k => (zw_ne rfl rfl : _ = K.2.1 74 k).trans (k2.2.2.1 74 k (by decide))
        obtain ⟨_, j1, J, rfl, j2⟩ := yr_vo3 (L := L) (σ := σ) (d := d + 56) (S := xSo H) (x1 := x1) W1 hS (show xSR (zw_J K 104 0 ((xVy (xSo H) (fun j => H.2.1 38 (8 * x1.toInt.toNat + j)) (fun j => H.2.1 39 (8 * x1.toInt.toNat + j)) (H.2.1 36 x1.toInt.toNat).toInt.toNat (Int32.ofInt 0) (H.2.1 34 x1.toInt.toNat) (H.2.1 35 x1.toInt.toNat)).2.2.2.1).toInt64) (xSo H) from xSR_J (xSR_v k2 (by decide) (xSR_o H))) (by rw [show (zw_J K 104 0 ((xVy (xSo H) (fun j => H.2.1 38 (8 * x1.toInt.toNat + j)) (fun j => H.2.1 39 (8 * x1.toInt.toNat + j)) (H.2.1 36 x1.toInt.toNat).toInt.toNat (Int32.ofInt 0) (H.2.1 34 x1.toInt.toNat) (H.2.1 35 x1.toInt.toNat)).2.2.2.1).toInt64).2.1 72 5 = H.2.1 72 5 from k2.2.2.1 72 5 (by decide)]; exact h.1) (by omega) (by rw [f4, l0]; exact hm) (by rw [f4, l1]; exact hcl)
        have e2 := zp_Call_u c2 j1
        cases e2
        refine ⟨_, _, _, _, c1, c2, hI1.1.1.1.1, hI2, (congrArg Int32.toInt (j2.2.2.1 72 0 (by decide))).trans (congrArg Int32.toInt zw_eq), fun _ => ?_⟩
        rw [key K k2, j2.2.2.2 104 0 (by decide)]
        exact zp_u_self K.2.2.1 104 0 _
      · obtain ⟨K, k1, k2⟩ := yl_vo3_4 (L := L) (σ := σ) (d := d + 53) (x1 := x1) hI.1.1.1 hS hC hs' (by rw [m0]; exact hm) hw (by rw [m1]; exact hcl)
        have e1 := zp_Call_u c1 k1
        cases e1
        have f4 : ∀ k, (zw_I (zw_J K 104 0 ((xVy (xSo H) (fun j => H.2.1 38 (8 * x1.toInt.toNat + j)) (fun j => H.2.1 39 (8 * x1.toInt.toNat + j)) (H.2.1 36 x1.toInt.toNat).toInt.toNat (Int32.ofInt 0) (H.2.1 34 x1.toInt.toNat) (H.2.1 35 x1.toInt.toNat)).2.1).toInt64) 72 0 (Int32.ofInt 0)).2.1 74 k = H.2.1 74 k := fun k => (zw_ne rfl rfl : _ = K.2.1 74 k).trans (k2.2.2.1 74 k (by decide))
        obtain ⟨_, j1, J, rfl, j2⟩ := yr_vo4 (L := L) (σ := σ) (d := d + 56) (S := xSo H) (x1 := x1) W1 hS (show xSR (zw_J K 104 0 ((xVy (xSo H) (fun j => H.2.1 38 (8 * x1.toInt.toNat + j)) (fun j => H.2.1 39 (8 * x1.toInt.toNat + j)) (H.2.1 36 x1.toInt.toNat).toInt.toNat (Int32.ofInt 0) (H.2.1 34 x1.toInt.toNat) (H.2.1 35 x1.toInt.toNat)).2.1).toInt64) (xSo H) from xSR_J (xSR_v k2 (by decide) (xSR_o H))) (by rw [show (zw_J K 104 0 ((xVy (xSo H) (fun j => H.2.1 38 (8 * x1.toInt.toNat + j)) (fun j => H.2.1 39 (8 * x1.toInt.toNat + j)) (H.2.1 36 x1.toInt.toNat).toInt.toNat (Int32.ofInt 0) (H.2.1 34 x1.toInt.toNat) (H.2.1 35 x1.toInt.toNat)).2.1).toInt64).2.1 72 5 = H.2.1 72 5 from k2.2.2.1 72 5 (by decide)]; exact h.1) (by omega) (by rw [f4, l0]; exact hm) (by rw [f4, l1]; exact hcl)
        have e2 := zp_Call_u c2 j1
        cases e2
        refine ⟨_, _, _, _, c1, c2, hI1.1.1.1.1, hI2, (congrArg Int32.toInt (j2.2.2.1 72 0 (by decide))).trans (congrArg Int32.toInt zw_eq), fun _ => ?_⟩
        rw [key K k2, j2.2.2.2 104 0 (by decide)]
        exact zp_u_self K.2.2.1 104 0 _
    · have e1 := zp_Call_u c1 (yl_von3 (L := L) (σ := σ) (d := d + 57) hI.1.1.1 (by rw [n0, ← n5]; exact h))
      cases e1
      have e2 := zp_Call_u c2 (yr_von (L := L) (σ := σ) (d := d + 56) W1 h)
      cases e2
      exact ⟨_, _, _, _, c1, c2, hI1.1.1.1.1, hI2, congrArg Int32.toInt zw_eq, fun h9 => absurd h9 (by decide)⟩
