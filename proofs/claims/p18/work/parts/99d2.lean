/-! ===== the class reads numbers, ways, cells, exactly ===== -/
def zm_62 : za_MI := (yX7_refuse, prog_9_method_3_code, 2, (some FieldType.boolean), 7, 0, 0, [], za_i62)
theorem zm_62_t : za_MT 62 = some zm_62 := rfl
def zm_63 : za_MI := (yX7_readHead, prog_9_method_6_code, 2, (some FieldType.boolean), 7, 0, 0, [], za_i63)
theorem zm_63_t : za_MT 63 = some zm_63 := rfl
def zm_65 : za_MI := (yX7_readNumber, prog_9_method_9_code, 4, (some FieldType.int), 7, 0, 0, [], za_i65)
theorem zm_65_t : za_MT 65 = some zm_65 := rfl
def zm_66 : za_MI := (yX7_lookAtNumber, prog_9_method_8_code, 3, (some FieldType.int), 7, 0, 0, [], za_i66)
theorem zm_66_t : za_MT 66 = some zm_66 := rfl
def zm_68 : za_MI := (yX7_readHead_, prog_9_method_7_code, 3, (some FieldType.boolean), 7, 0, 0, [], za_i68)
theorem zm_68_t : za_MT 68 = some zm_68 := rfl
def zm_70 : za_MI := (yX7_readCell, prog_9_method_11_code, 7, (some FieldType.int), 7, 0, 0, [], za_i70)
theorem zm_70_t : za_MT 70 = some zm_70 := rfl
def zm_73 : za_MI := (yX7_readWay, prog_9_method_10_code, 2, (some FieldType.int), 7, 0, 0, [], za_i73)
theorem zm_73_t : za_MT 73 = some zm_73 := rfl
def zm_97 : za_MI := (yX7_readEnd, prog_9_method_4_code, 1, (some FieldType.boolean), 7, 0, 0, [], za_i97)
theorem zm_97_t : za_MT 97 = some zm_97 := rfl
def yl_m : List (Nat × Nat) := [(51, 4), (51, 5), (52, 2), (52, 3), (52, 4), (52, 5)]
def yFc (T : Nat → Int) (n : Nat) (r : Int × Nat) (H : zp_H) : Prop := (H.2.1 51 4).toInt = r.1 ∧ (H.2.1 51 5).toInt = ys_st T n r.2
theorem ys_vl_n0 {T : Nat → Int} {n p : Nat} (hp : p ≤ n) (hk : ys_kd T n p = 2) : 0 ≤ ys_vl T n p := by
  have hb := ys_nxb (T := T) hp
  obtain ⟨g1, g2, g3, g4⟩ := ys_vl_n hk
  rw [g4]
  split
  · decide
  · exact (ys_nm_b (T := T) (s := ys_st T n p) (ys_nx T n p - ys_st T n p) (by omega) (fun t ht => by
        rw [g3] at ht
        exact of_decide_eq_true (ys_run_p _ _ t ht))).1
/-- the class's reader refuses or goes on: a number -/
def yKn (T : Nat → Int) (n p : Nat) (lo hi : Int) (v : Int32) (H1 : zp_H) (q : Nat) : Prop := (v.toInt = ys_vl T n p ∧ lo ≤ ys_vl T n p ∧ ys_vl T n p ≤ hi ∧ 0 ≤ ys_vl T n p ∧ ys_kd T n p = 2 ∧ (∀ ok, yNu T n p lo hi ok = .inl (ok (ys_vl T n p))) ∧ yE T n q H1) ∨ (v.toInt = -1 ∧ ∃ k : Int, 1 ≤ k ∧ k ≤ 5 ∧ yFc T n (k, p) H1 ∧ (∀ ok, yNu T n p lo hi ok = .inr (k, p)) ∧ yE T n p H1)
theorem yNu_1 {T : Nat → Int} {n p : Nat} {lo hi : Int} (hk : ys_kd T n p = 2) (h1 : lo ≤ ys_vl T n p) (h2 : ys_vl T n p ≤ hi) (ok : Int → yL) : yNu T n p lo hi ok = .inl (ok (ys_vl T n p)) := by
  unfold yNu
  rw [if_pos hk, if_pos ⟨h1, h2⟩]
theorem yNu_2 {T : Nat → Int} {n p : Nat} {lo hi : Int} (hk : ys_kd T n p = 2) (h : ¬ (lo ≤ ys_vl T n p ∧ ys_vl T n p ≤ hi)) (ok : Int → yL) : yNu T n p lo hi ok = .inr (2, p) := by
  unfold yNu
  rw [if_pos hk, if_neg h]
theorem yNu_0 {T : Nat → Int} {n p : Nat} {lo hi : Int} (hk : ys_kd T n p ≠ 2) (ok : Int → yL) : yNu T n p lo hi ok = .inr (1, p) := by
  unfold yNu
  rw [if_neg hk]

set_option maxRecDepth 8000 in
theorem zl_cmp0 {u : Int64} (h : (lg_cmp u (Int64.ofNat 0)).toInt = 0) : u = 0 := by
  unfold lg_cmp at h
  split at h
  · exact absurd h (by decide)
  · split at h
    · next h1 h2 => exact h2
    · exact absurd h (by decide)
theorem zl_cmp1 {u : Int64} (h : (lg_cmp u (Int64.ofNat 0)).toInt ≠ 0) : u ≠ 0 := by
  rintro rfl
  exact h (by decide)
/-- a cell: its two numbers, and it isn't taken -/
def yKc (T : Nat → Int) (n p : Nat) (w hh : Int) (taken : Int64) (v : Int32) (H1 : zp_H) : Prop := (v.toInt = w * ys_vl T n (ys_nx T n p) + ys_vl T n p ∧ (∀ ok, yNu T n p 0 (w - 1) ok = .inl (ok (ys_vl T n p))) ∧ (∀ ok, yNu T n (ys_nx T n p) 0 (hh - 1) ok = .inl (ok (ys_vl T n (ys_nx T n p)))) ∧ (0 ≤ v.toInt ∧ v.toInt ≤ 63) ∧ taken &&& yBit (w * ys_vl T n (ys_nx T n p) + ys_vl T n p) = 0 ∧ yE T n (ys_nx T n (ys_nx T n p)) H1) ∨ (v.toInt = -1 ∧ ∃ (k : Int) (q : Nat), 1 ≤ k ∧ k ≤ 5 ∧ yFc T n (k, q) H1 ∧ yE T n q H1 ∧ ((q = p ∧ ∀ ok, yNu T n p 0 (w - 1) ok = .inr (k, p)) ∨ (q = ys_nx T n p ∧ (∀ ok, yNu T n p 0 (w - 1) ok = .inl (ok (ys_vl T n p))) ∧ ∀ ok, yNu T n (ys_nx T n p) 0 (hh - 1) ok = .inr (k, ys_nx T n p)) ∨ (k = 4 ∧ q = ys_nx T n p ∧ (∀ ok, yNu T n p 0 (w - 1) ok = .inl (ok (ys_vl T n p))) ∧ (∀ ok, yNu T n (ys_nx T n p) 0 (hh - 1) ok = .inl (ok (ys_vl T n (ys_nx T n p)))) ∧ taken &&& yBit (w * ys_vl T n (ys_nx T n p) + ys_vl T n p) ≠ 0)))

set_option maxRecDepth 8000 in
theorem yc_refx {L : Nat} {σ : Nat → Int32} {d : Nat} {T : Nat → Int} {n p : Nat} {H : zp_H} {x : Int32} (h : yE T n p H) : zp_Call L σ (d + 1) 62 [.inr (.inr (some 52)), .inl x] H (.inl (some (.inl (Int32.ofInt 0))), zw_I (zw_I H 51 4 x) 51 5 (H.2.1 52 3)) := by
  have W := zB_Wd h.1.1
  refine zw_ex (zw_met zm_62_t rfl rfl ?_)
  refine zw_ld (n := 1) (k := 0) (f := zp_isR) (pc' := 1) rfl rfl rfl rfl rfl ?_
  refine zw_ld (n := 1) (k := 1) (f := zp_isI) (pc' := 2) rfl rfl rfl rfl rfl ?_
  refine zw_pI (q := 51) (pc' := 5) W rfl rfl rfl rfl rfl rfl ?_
  refine zw_ld (n := 1) (k := 0) (f := zp_isR) (pc' := 6) rfl rfl rfl rfl rfl ?_
  refine zw_ld (n := 1) (k := 0) (f := zp_isR) (pc' := 7) rfl rfl rfl rfl rfl ?_
  refine zw_gR (q := 51) (pc' := 10) W rfl rfl rfl rfl (W.2 51 0 _ rfl) rfl ?_
  refine zw_gI (q := 52) (pc' := 13) W rfl rfl rfl rfl (zw_ne rfl rfl) rfl ?_
  refine zw_pI (q := 51) (pc' := 16) W rfl rfl rfl rfl rfl rfl ?_
  refine zw_s (pc' := 17) rfl rfl ?_
  refine zw_rz rfl rfl (by decide) ?_
  rfl

set_option maxRecDepth 8000 in
theorem yc_ref {L : Nat} {σ : Nat → Int32} {d : Nat} {T : Nat → Int} {n p : Nat} {H : zp_H} {x : Int32} (h : yE T n p H) : ∃ H1, zp_Call L σ (d + 1) 62 [.inr (.inr (some 52)), .inl x] H (.inl (some (.inl (Int32.ofInt 0))), H1) ∧ yE T n p H1 ∧ zk_Fr zg yl_m [] H H1 ∧ yFc T n (x.toInt, p) H1 := by
  have b1 := zB_putf (p := 51) (k := 4) (x := x) h.1.1 rfl (fun r hr => by cases hr) (zJc_I rfl h.1.1.2.2.2.2.2.2.2)
  have b2 := zB_putf (p := 51) (k := 5) (x := H.2.1 52 3) b1 rfl (fun r hr => by cases hr) (zJc_I rfl b1.2.2.2.2.2.2.2)
  exact ⟨_, yc_refx h, yE_c h b2 (funext fun k => zw_ne (zw_ne rfl rfl) rfl) (funext fun k => zw_ne (zw_ne rfl rfl) rfl), zk_Fr_I (zk_Fr_I (zk_Fr_r H) rfl rfl) rfl rfl, congrArg Int32.toInt (zw_ne zw_eq rfl), (congrArg Int32.toInt zw_eq).trans h.2.1.1⟩
theorem yc_ad2 {L : Nat} {σ : Nat → Int32} {d : Nat} {T : Nat → Int} {n p : Nat} {H : zp_H} (h : yE T n p H) : ∃ H1, zp_Call L σ (d + 3) 55 [.inr (.inr (some 53))] H (.inl none, H1) ∧ yE T n (ys_nx T n p) H1 ∧ zk_Fr zg yl_m [] H H1 := by
  have hb := ys_nxb (T := T) h.2.2
  obtain ⟨_, c1, H1, rfl, c2, c3, c4⟩ := yc_adv (L := L) (σ := σ) (d := d) (p := ys_nx T n p) h.1 h.2.1.2.1 hb.2.2.1
  exact ⟨H1, c1, ⟨c2, c4, hb.2.2.1⟩, zk_Fr_w rfl rfl c3⟩

set_option maxRecDepth 8000 in
theorem yc_look {L : Nat} {σ : Nat → Int32} {d : Nat} {T : Nat → Int} {n p : Nat} {H : zp_H} {x y : Int32} {lo hi : Int} (hx : x.toInt = lo) (hy : y.toInt = hi) (h : yE T n p H) : ∃ X, zp_Call L σ (d + 2) 66 [.inr (.inr (some 52)), .inl x, .inl y] H X ∧ ∃ v H1, X = (.inl (some (.inl v)), H1) ∧ zk_Fr zg yl_m [] H H1 ∧ yKn T n p lo hi v H1 p := by
  have W := zB_Wd h.1.1
  have h4 := yE_4 h
  have h5 : ys_kd T n p ≠ 0 → _ := yE_5 h
  refine zw_met zm_66_t rfl rfl ?_
  refine zw_ld (n := 1) (k := 0) (f := zp_isR) (pc' := 1) rfl rfl rfl rfl rfl ?_
  refine zw_gR (q := 51) (pc' := 4) W rfl rfl rfl rfl (W.2 51 0 _ rfl) rfl ?_
  refine zw_gI (q := 52) (pc' := 7) W rfl rfl rfl rfl rfl rfl ?_
  refine zw_s (pc' := 8) rfl rfl ?_
  refine zw_beq2 (g := 19) (pc' := 11) rfl rfl rfl rfl (rfl : _ = (2 : Int)) (fun h1 => ?_) (fun h1 => ?_)
  · have hv := h5 (by omega)
    have hk : ys_kd T n p = 2 := by omega
    have hv0 := ys_vl_n0 h.2.2 hk
    refine zw_ld (n := 1) (k := 0) (f := zp_isR) (pc' := 20) rfl rfl rfl rfl rfl ?_
    refine zw_gR (q := 51) (pc' := 23) W rfl rfl rfl rfl (W.2 51 0 _ rfl) rfl ?_
    refine zw_gI (q := 52) (pc' := 26) W rfl rfl rfl rfl rfl rfl ?_
    refine zw_ld (n := 1) (k := 1) (f := zp_isI) (pc' := 27) rfl rfl rfl rfl rfl ?_
    refine zw_blt2 (g := 41) (pc' := 30) rfl rfl rfl rfl rfl (fun h2 => ?_) (fun h2 => ?_)
    · refine zw_ld (n := 1) (k := 0) (f := zp_isR) (pc' := 42) rfl rfl rfl rfl rfl ?_
      refine zw_s (pc' := 43) rfl rfl ?_
      obtain ⟨K, c1, c2, c3, c4⟩ := yc_ref (L := L) (σ := σ) (d := d) (x := Int32.ofInt 2) h
      refine zw_c (pc' := 46) (zw_cv (q := 51) (Y := zm_62) W.1 rfl rfl zm_62_t rfl rfl) rfl rfl rfl rfl rfl (c1) ?_
      refine zw_s (pc' := 47) rfl rfl ?_
      refine zw_s (pc' := 48) rfl rfl ?_
      refine zw_ri rfl rfl ?_
      exact ⟨_, K, rfl, c3, Or.inr ⟨rfl, 2, by decide, by decide, c4, yNu_2 hk (by omega), c2⟩⟩
    · refine zw_ld (n := 1) (k := 0) (f := zp_isR) (pc' := 31) rfl rfl rfl rfl rfl ?_
      refine zw_gR (q := 51) (pc' := 34) W rfl rfl rfl rfl (W.2 51 0 _ rfl) rfl ?_
      refine zw_gI (q := 52) (pc' := 37) W rfl rfl rfl rfl rfl rfl ?_
      refine zw_ld (n := 1) (k := 2) (f := zp_isI) (pc' := 38) rfl rfl rfl rfl rfl ?_
      refine zw_ble2 (g := 49) (pc' := 41) rfl rfl rfl rfl rfl (fun h3 => ?_) (fun h3 => ?_)
      · refine zw_ld (n := 1) (k := 0) (f := zp_isR) (pc' := 50) rfl rfl rfl rfl rfl ?_
        refine zw_gR (q := 51) (pc' := 53) W rfl rfl rfl rfl (W.2 51 0 _ rfl) rfl ?_
        refine zw_gI (q := 52) (pc' := 56) W rfl rfl rfl rfl rfl rfl ?_
        refine zw_ri rfl rfl ?_
        exact ⟨_, H, rfl, zk_Fr_r H, Or.inl ⟨hv, by omega, by omega, hv0, hk, yNu_1 hk (by omega) (by omega), h⟩⟩
      · refine zw_ld (n := 1) (k := 0) (f := zp_isR) (pc' := 42) rfl rfl rfl rfl rfl ?_
        refine zw_s (pc' := 43) rfl rfl ?_
        obtain ⟨K, c1, c2, c3, c4⟩ := yc_ref (L := L) (σ := σ) (d := d) (x := Int32.ofInt 2) h
        refine zw_c (pc' := 46) (zw_cv (q := 51) (Y := zm_62) W.1 rfl rfl zm_62_t rfl rfl) rfl rfl rfl rfl rfl (c1) ?_
        refine zw_s (pc' := 47) rfl rfl ?_
        refine zw_s (pc' := 48) rfl rfl ?_
        refine zw_ri rfl rfl ?_
        exact ⟨_, K, rfl, c3, Or.inr ⟨rfl, 2, by decide, by decide, c4, yNu_2 hk (by omega), c2⟩⟩
  · refine zw_ld (n := 1) (k := 0) (f := zp_isR) (pc' := 12) rfl rfl rfl rfl rfl ?_
    refine zw_s (pc' := 13) rfl rfl ?_
    obtain ⟨K, c1, c2, c3, c4⟩ := yc_ref (L := L) (σ := σ) (d := d) (x := Int32.ofInt 1) h
    refine zw_c (pc' := 16) (zw_cv (q := 51) (Y := zm_62) W.1 rfl rfl zm_62_t rfl rfl) rfl rfl rfl rfl rfl (c1) ?_
    refine zw_s (pc' := 17) rfl rfl ?_
    refine zw_s (pc' := 18) rfl rfl ?_
    refine zw_ri rfl rfl ?_
    exact ⟨_, K, rfl, c3, Or.inr ⟨rfl, 1, by decide, by decide, c4, yNu_0 (by omega), c2⟩⟩

set_option maxRecDepth 8000 in
theorem yc_num {L : Nat} {σ : Nat → Int32} {d : Nat} {T : Nat → Int} {n p : Nat} {H : zp_H} {x y : Int32} {lo hi : Int} (hx : x.toInt = lo) (hy : y.toInt = hi) (h : yE T n p H) : ∃ X, zp_Call L σ (d + 4) 65 [.inr (.inr (some 52)), .inl x, .inl y] H X ∧ ∃ v H1, X = (.inl (some (.inl v)), H1) ∧ zk_Fr zg yl_m [] H H1 ∧ yKn T n p lo hi v H1 (ys_nx T n p) := by
  have W := zB_Wd h.1.1
  obtain ⟨_, c1, v, H1, rfl, c2, c3⟩ := yc_look (L := L) (σ := σ) (d := d + 1) hx hy h
  refine zw_met zm_65_t rfl rfl ?_
  refine zw_ld (n := 1) (k := 0) (f := zp_isR) (pc' := 1) rfl rfl rfl rfl rfl ?_
  refine zw_ld (n := 1) (k := 1) (f := zp_isI) (pc' := 2) rfl rfl rfl rfl rfl ?_
  refine zw_ld (n := 1) (k := 2) (f := zp_isI) (pc' := 3) rfl rfl rfl rfl rfl ?_
  refine zw_c (pc' := 6) (zw_cv (q := 51) (Y := zm_66) W.1 rfl rfl zm_66_t rfl rfl) rfl rfl rfl rfl rfl (c1) ?_
  refine zw_st (n := 1) (k := 3) (f := zp_isI) (pc' := 7) rfl rfl rfl rfl rfl ?_
  refine zw_ld (n := 1) (k := 3) (f := zp_isI) (pc' := 8) rfl rfl zw_g1 rfl rfl ?_
  refine zw_s (pc' := 9) rfl rfl ?_
  refine zw_beq2 (g := 19) (pc' := 12) rfl rfl rfl rfl (rfl : _ = (-1 : Int)) (fun h1 => ?_) (fun h1 => ?_)
  · refine zw_ld (n := 1) (k := 3) (f := zp_isI) (pc' := 20) rfl rfl zw_g1 rfl rfl ?_
    refine zw_ri rfl rfl ?_
    rcases c3 with ⟨k1, k2, k3, k4, _⟩ | c3
    · omega
    · exact ⟨_, H1, rfl, c2, Or.inr c3⟩
  · rcases c3 with ⟨k1, k2, k3, k4, k5, k6, k7⟩ | ⟨k1, _⟩
    rotate_left
    · omega
    have W1 := zB_Wd k7.1.1
    obtain ⟨K, a1, a2, a3⟩ := yc_ad2 (L := L) (σ := σ) (d := d) k7
    refine zw_ld (n := 1) (k := 0) (f := zp_isR) (pc' := 13) rfl rfl (zw_gt rfl rfl rfl) rfl rfl ?_
    refine zw_gR (q := 51) (pc' := 16) W1 rfl rfl rfl rfl (W1.2 51 0 _ rfl) rfl ?_
    refine zw_cn (pc' := 19) (zw_cv (q := 52) (Y := zm_55) W1.1 rfl rfl zm_55_t rfl rfl) rfl rfl rfl rfl rfl (a1) ?_
    refine zw_ld (n := 1) (k := 3) (f := zp_isI) (pc' := 20) rfl rfl zw_g1 rfl rfl ?_
    refine zw_ri rfl rfl ?_
    exact ⟨_, K, rfl, zk_Fr_t c2 a3, Or.inl ⟨k1, k2, k3, k4, k5, k6, a2⟩⟩

set_option maxRecDepth 8000 in
theorem yc_way {L : Nat} {σ : Nat → Int32} {d : Nat} {T : Nat → Int} {n p : Nat} {H : zp_H} (h : yE T n p H) : ∃ X, zp_Call L σ (d + 4) 73 [.inr (.inr (some 52))] H X ∧ ∃ v H1, X = (.inl (some (.inl v)), H1) ∧ zk_Fr zg yl_m [] H H1 ∧ ((v.toInt = ys_vl T n p ∧ (ys_kd T n p = 3 ∧ ys_vl T n p < 4) ∧ yE T n (ys_nx T n p) H1) ∨ (v.toInt = -1 ∧ ¬ (ys_kd T n p = 3 ∧ ys_vl T n p < 4) ∧ yFc T n (1, p) H1 ∧ yE T n p H1)) := by
  have W := zB_Wd h.1.1
  have h4 := yE_4 h
  have h5 : ys_kd T n p ≠ 0 → _ := yE_5 h
  refine zw_met zm_73_t rfl rfl ?_
  refine zw_ld (n := 1) (k := 0) (f := zp_isR) (pc' := 1) rfl rfl rfl rfl rfl ?_
  refine zw_gR (q := 51) (pc' := 4) W rfl rfl rfl rfl (W.2 51 0 _ rfl) rfl ?_
  by_cases hw : ys_kd T n p = 3 ∧ ys_vl T n p < 4
  · refine zw_c (pc' := 7) (zw_cv (q := 52) (Y := zm_74) W.1 rfl rfl zm_74_t rfl rfl) rfl rfl rfl rfl rfl (yc_wy1 (d := d + 2) h hw) ?_
    refine zw_bne1 (g := 18) (pc' := 10) rfl rfl rfl (rfl : _ = (1 : Int)) (fun h9 => ?_) (fun h9 => absurd h9 (by decide))
    have hv := h5 (by omega)
    have hvb := ys_vl_b hw.1
    obtain ⟨K, a1, a2, a3⟩ := yc_ad2 (L := L) (σ := σ) (d := d) h
    refine zw_ld (n := 1) (k := 0) (f := zp_isR) (pc' := 19) rfl rfl rfl rfl rfl ?_
    refine zw_gR (q := 51) (pc' := 22) W rfl rfl rfl rfl (W.2 51 0 _ rfl) rfl ?_
    refine zw_gI (q := 52) (pc' := 25) W rfl rfl rfl rfl rfl rfl ?_
    refine zw_st (n := 1) (k := 1) (f := zp_isI) (pc' := 26) rfl rfl rfl rfl rfl ?_
    refine zw_ld (n := 1) (k := 0) (f := zp_isR) (pc' := 27) rfl rfl (zw_gt rfl rfl rfl) rfl rfl ?_
    refine zw_gR (q := 51) (pc' := 30) W rfl rfl rfl rfl (W.2 51 0 _ rfl) rfl ?_
    refine zw_cn (pc' := 33) (zw_cv (q := 52) (Y := zm_55) W.1 rfl rfl zm_55_t rfl rfl) rfl rfl rfl rfl rfl (a1) ?_
    refine zw_ld (n := 1) (k := 1) (f := zp_isI) (pc' := 34) rfl rfl zw_g1 rfl rfl ?_
    refine zw_ri rfl rfl ?_
    exact ⟨_, K, rfl, a3, Or.inl ⟨hv, hw, a2⟩⟩
  · refine zw_c (pc' := 7) (zw_cv (q := 52) (Y := zm_74) W.1 rfl rfl zm_74_t rfl rfl) rfl rfl rfl rfl rfl (yc_wy0 (d := d + 2) h hw) ?_
    refine zw_bne1 (g := 18) (pc' := 10) rfl rfl rfl (rfl : _ = (0 : Int)) (fun h9 => absurd h9 (by decide)) (fun h9 => ?_)
    refine zw_ld (n := 1) (k := 0) (f := zp_isR) (pc' := 11) rfl rfl rfl rfl rfl ?_
    refine zw_s (pc' := 12) rfl rfl ?_
    obtain ⟨K, c1, c2, c3, c4⟩ := yc_ref (L := L) (σ := σ) (d := d + 2) (x := Int32.ofInt 1) h
    refine zw_c (pc' := 15) (zw_cv (q := 51) (Y := zm_62) W.1 rfl rfl zm_62_t rfl rfl) rfl rfl rfl rfl rfl (c1) ?_
    refine zw_s (pc' := 16) rfl rfl ?_
    refine zw_s (pc' := 17) rfl rfl ?_
    refine zw_ri rfl rfl ?_
    exact ⟨_, K, rfl, c3, Or.inr ⟨rfl, hw, c4, c2⟩⟩

set_option maxRecDepth 8000 in
theorem yc_hd {L : Nat} {σ : Nat → Int32} {d : Nat} {T : Nat → Int} {n p : Nat} {H : zp_H} {x : Int32} (h : yE T n p H) : ∃ X, zp_Call L σ (d + 4) 63 [.inr (.inr (some 52)), .inl x] H X ∧ ∃ v H1, X = (.inl (some (.inl v)), H1) ∧ zk_Fr zg yl_m [] H H1 ∧ ((v.toInt = 1 ∧ x.toInt ≠ 0 ∧ yE T n (ys_nx T n p) H1) ∨ (v.toInt = 0 ∧ ¬ (x.toInt ≠ 0) ∧ yFc T n (5, p) H1 ∧ yE T n p H1)) := by
  have W := zB_Wd h.1.1
  refine zw_met zm_63_t rfl rfl ?_
  refine zw_ld (n := 1) (k := 1) (f := zp_isI) (pc' := 1) rfl rfl rfl rfl rfl ?_
  refine zw_bne1 (g := 10) (pc' := 4) rfl rfl rfl rfl (fun h1 => ?_) (fun h1 => ?_)
  · obtain ⟨K, a1, a2, a3⟩ := yc_ad2 (L := L) (σ := σ) (d := d) h
    refine zw_ld (n := 1) (k := 0) (f := zp_isR) (pc' := 11) rfl rfl rfl rfl rfl ?_
    refine zw_gR (q := 51) (pc' := 14) W rfl rfl rfl rfl (W.2 51 0 _ rfl) rfl ?_
    refine zw_cn (pc' := 17) (zw_cv (q := 52) (Y := zm_55) W.1 rfl rfl zm_55_t rfl rfl) rfl rfl rfl rfl rfl (a1) ?_
    refine zw_s (pc' := 18) rfl rfl ?_
    refine zw_rz rfl rfl (by decide) ?_
    exact ⟨_, K, rfl, a3, Or.inl ⟨rfl, by omega, a2⟩⟩
  · refine zw_ld (n := 1) (k := 0) (f := zp_isR) (pc' := 5) rfl rfl rfl rfl rfl ?_
    refine zw_s (pc' := 6) rfl rfl ?_
    obtain ⟨K, c1, c2, c3, c4⟩ := yc_ref (L := L) (σ := σ) (d := d + 2) (x := Int32.ofInt 5) h
    refine zw_c (pc' := 9) (zw_cv (q := 51) (Y := zm_62) W.1 rfl rfl zm_62_t rfl rfl) rfl rfl rfl rfl rfl (c1) ?_
    refine zw_rz rfl rfl (by decide) ?_
    exact ⟨_, K, rfl, c3, Or.inr ⟨rfl, by omega, c4, c2⟩⟩

set_option maxRecDepth 8000 in
theorem yc_hc {L : Nat} {σ : Nat → Int32} {d : Nat} {T : Nat → Int} {n p : Nat} {H : zp_H} {x y : Int32} (h : yE T n p H) : ∃ X, zp_Call L σ (d + 4) 68 [.inr (.inr (some 52)), .inl x, .inl y] H X ∧ ∃ v H1, X = (.inl (some (.inl v)), H1) ∧ zk_Fr zg yl_m [] H H1 ∧ ((v.toInt = 1 ∧ x.toInt < y.toInt ∧ yE T n (ys_nx T n p) H1) ∨ (v.toInt = 0 ∧ ¬ (x.toInt < y.toInt) ∧ yFc T n (2, p) H1 ∧ yE T n p H1)) := by
  have W := zB_Wd h.1.1
  refine zw_met zm_68_t rfl rfl ?_
  refine zw_ld (n := 1) (k := 1) (f := zp_isI) (pc' := 1) rfl rfl rfl rfl rfl ?_
  refine zw_ld (n := 1) (k := 2) (f := zp_isI) (pc' := 2) rfl rfl rfl rfl rfl ?_
  refine zw_blt2 (g := 11) (pc' := 5) rfl rfl rfl rfl rfl (fun h1 => ?_) (fun h1 => ?_)
  · obtain ⟨K, a1, a2, a3⟩ := yc_ad2 (L := L) (σ := σ) (d := d) h
    refine zw_ld (n := 1) (k := 0) (f := zp_isR) (pc' := 12) rfl rfl rfl rfl rfl ?_
    refine zw_gR (q := 51) (pc' := 15) W rfl rfl rfl rfl (W.2 51 0 _ rfl) rfl ?_
    refine zw_cn (pc' := 18) (zw_cv (q := 52) (Y := zm_55) W.1 rfl rfl zm_55_t rfl rfl) rfl rfl rfl rfl rfl (a1) ?_
    refine zw_s (pc' := 19) rfl rfl ?_
    refine zw_rz rfl rfl (by decide) ?_
    exact ⟨_, K, rfl, a3, Or.inl ⟨rfl, by omega, a2⟩⟩
  · refine zw_ld (n := 1) (k := 0) (f := zp_isR) (pc' := 6) rfl rfl rfl rfl rfl ?_
    refine zw_s (pc' := 7) rfl rfl ?_
    obtain ⟨K, c1, c2, c3, c4⟩ := yc_ref (L := L) (σ := σ) (d := d + 2) (x := Int32.ofInt 2) h
    refine zw_c (pc' := 10) (zw_cv (q := 51) (Y := zm_62) W.1 rfl rfl zm_62_t rfl rfl) rfl rfl rfl rfl rfl (c1) ?_
    refine zw_rz rfl rfl (by decide) ?_
    exact ⟨_, K, rfl, c3, Or.inr ⟨rfl, by omega, c4, c2⟩⟩

set_option maxRecDepth 8000 in
theorem yc_end {L : Nat} {σ : Nat → Int32} {d : Nat} {T : Nat → Int} {n p : Nat} {H : zp_H} (h : yE T n p H) : ∃ X, zp_Call L σ (d + 4) 97 [.inr (.inr (some 52))] H X ∧ ∃ v H1, X = (.inl (some (.inl v)), H1) ∧ zk_Fr zg yl_m [] H H1 ∧ ((v.toInt = 1 ∧ (ys_kd T n p = 4 ∧ ys_vl T n p = 59) ∧ yE T n (ys_nx T n p) H1) ∨ (v.toInt = 0 ∧ ¬ (ys_kd T n p = 4 ∧ ys_vl T n p = 59) ∧ yFc T n (1, p) H1 ∧ yE T n p H1)) := by
  have W := zB_Wd h.1.1
  refine zw_met zm_97_t rfl rfl ?_
  refine zw_ld (n := 1) (k := 0) (f := zp_isR) (pc' := 1) rfl rfl rfl rfl rfl ?_
  refine zw_gR (q := 51) (pc' := 4) W rfl rfl rfl rfl (W.2 51 0 _ rfl) rfl ?_
  refine zw_s (pc' := 6) rfl rfl ?_
  by_cases hw : ys_kd T n p = 4 ∧ ys_vl T n p = 59
  · refine zw_c (pc' := 9) (zw_cv (q := 52) (Y := zm_86) W.1 rfl rfl zm_86_t rfl rfl) rfl rfl rfl rfl rfl (yc_sg1 (d := d + 2) rfl h hw) ?_
    refine zw_bne1 (g := 18) (pc' := 12) rfl rfl rfl (rfl : _ = (1 : Int)) (fun h9 => ?_) (fun h9 => absurd h9 (by decide))
    obtain ⟨K, a1, a2, a3⟩ := yc_ad2 (L := L) (σ := σ) (d := d) h
    refine zw_ld (n := 1) (k := 0) (f := zp_isR) (pc' := 19) rfl rfl rfl rfl rfl ?_
    refine zw_gR (q := 51) (pc' := 22) W rfl rfl rfl rfl (W.2 51 0 _ rfl) rfl ?_
    refine zw_cn (pc' := 25) (zw_cv (q := 52) (Y := zm_55) W.1 rfl rfl zm_55_t rfl rfl) rfl rfl rfl rfl rfl (a1) ?_
    refine zw_s (pc' := 26) rfl rfl ?_
    refine zw_rz rfl rfl (by decide) ?_
    exact ⟨_, K, rfl, a3, Or.inl ⟨rfl, hw, a2⟩⟩
  · refine zw_c (pc' := 9) (zw_cv (q := 52) (Y := zm_86) W.1 rfl rfl zm_86_t rfl rfl) rfl rfl rfl rfl rfl (yc_sg0 (d := d + 2) rfl h hw) ?_
    refine zw_bne1 (g := 18) (pc' := 12) rfl rfl rfl (rfl : _ = (0 : Int)) (fun h9 => absurd h9 (by decide)) (fun h9 => ?_)
    refine zw_ld (n := 1) (k := 0) (f := zp_isR) (pc' := 13) rfl rfl rfl rfl rfl ?_
    refine zw_s (pc' := 14) rfl rfl ?_
    obtain ⟨K, c1, c2, c3, c4⟩ := yc_ref (L := L) (σ := σ) (d := d + 2) (x := Int32.ofInt 1) h
    refine zw_c (pc' := 17) (zw_cv (q := 51) (Y := zm_62) W.1 rfl rfl zm_62_t rfl rfl) rfl rfl rfl rfl rfl (c1) ?_
    refine zw_rz rfl rfl (by decide) ?_
    exact ⟨_, K, rfl, c3, Or.inr ⟨rfl, hw, c4, c2⟩⟩

set_option maxRecDepth 8000 in
theorem yc_cell2 {L : Nat} {σ : Nat → Int32} {d : Nat} {T : Nat → Int} {n p : Nat} {H : zp_H} {w hh : Int} {taken : Int64} (hw : (H.2.1 2 0).toInt = w) (hh1 : (H.2.1 2 1).toInt = hh) (h : yE T n p H) : ∃ X, zp_Call L σ (d + 4) 70 [.inr (.inr (some 52)), .inr (.inr (some 3)), .inr (.inl taken)] H X ∧ ∃ v H1, X = (.inl (some (.inl v)), H1) ∧ zk_Fr zg yl_m [] H H1 ∧ yKc T n p w hh taken v H1 := by
  have W := zB_Wd h.1.1
  have r0 := zB_fr1 h.1.1 (p := 2) (k := 0) (r := (2, 8)) rfl
  have r0 : 2 ≤ (H.2.1 2 0).toInt ∧ (H.2.1 2 0).toInt ≤ 8 := r0
  have r1 := zB_fr1 h.1.1 (p := 2) (k := 1) (r := (2, 8)) rfl
  have r1 : 2 ≤ (H.2.1 2 1).toInt ∧ (H.2.1 2 1).toInt ≤ 8 := r1
  have e0 : (H.2.1 2 0 - Int32.ofInt 1).toInt = w - 1 := by rw [zw_m1 (by omega), hw]
  obtain ⟨_, c1, v, H1, rfl, c2, c3⟩ := yc_look (L := L) (σ := σ) (d := d + 1) (x := Int32.ofInt 0) (lo := 0) rfl e0 h
  refine zw_met zm_70_t rfl rfl ?_
  refine zw_ld (n := 1) (k := 0) (f := zp_isR) (pc' := 1) rfl rfl rfl rfl rfl ?_
  refine zw_s (pc' := 2) rfl rfl ?_
  refine zw_ld (n := 1) (k := 1) (f := zp_isR) (pc' := 3) rfl rfl rfl rfl rfl ?_
  refine zw_gI (q := 2) (pc' := 6) W rfl rfl rfl rfl rfl rfl ?_
  refine zw_s (pc' := 7) rfl rfl ?_
  refine zw_isub (pc' := 8) rfl rfl ?_
  refine zw_c (pc' := 11) (zw_cv (q := 51) (Y := zm_66) W.1 rfl rfl zm_66_t rfl rfl) rfl rfl rfl rfl rfl (c1) ?_
  refine zw_st (n := 2) (k := 4) (f := zp_isI) (pc' := 13) rfl rfl rfl rfl rfl ?_
  refine zw_ld (n := 2) (k := 4) (f := zp_isI) (pc' := 15) rfl rfl zw_g1 rfl rfl ?_
  refine zw_s (pc' := 16) rfl rfl ?_
  refine zw_bne2 (g := 21) (pc' := 19) rfl rfl rfl rfl (rfl : _ = (-1 : Int)) (fun h1 => ?_) (fun h1 => ?_)
  · rcases c3 with ⟨k1, k2, k3, k4, k5, k6, k7⟩ | ⟨k1, _⟩
    rotate_left
    · omega
    have W1 := zB_Wd k7.1.1
    obtain ⟨K, a1, a2, a3⟩ := yc_ad2 (L := L) (σ := σ) (d := d) k7
    have WK := zB_Wd a2.1.1
    have f0 : K.2.1 2 = H.2.1 2 := zx_ae (zk_Fr_t c2 a3) 2 (fun k => rfl) rfl rfl
    have e1 : (K.2.1 2 1 - Int32.ofInt 1).toInt = hh - 1 := by rw [f0, zw_m1 (by omega), hh1]
    obtain ⟨_, d1, v2, H2, rfl, d2, d3⟩ := yc_look (L := L) (σ := σ) (d := d + 1) (x := Int32.ofInt 0) (lo := 0) rfl e1 a2
    refine zw_ld (n := 1) (k := 0) (f := zp_isR) (pc' := 22) rfl rfl (zw_gt rfl rfl rfl) rfl rfl ?_
    refine zw_gR (q := 51) (pc' := 25) W1 rfl rfl rfl rfl (W1.2 51 0 _ rfl) rfl ?_
    refine zw_cn (pc' := 28) (zw_cv (q := 52) (Y := zm_55) W1.1 rfl rfl zm_55_t rfl rfl) rfl rfl rfl rfl rfl (a1) ?_
    refine zw_ld (n := 1) (k := 0) (f := zp_isR) (pc' := 29) rfl rfl (zw_gt rfl rfl rfl) rfl rfl ?_
    refine zw_s (pc' := 30) rfl rfl ?_
    refine zw_ld (n := 1) (k := 1) (f := zp_isR) (pc' := 31) rfl rfl (zw_gt rfl rfl rfl) rfl rfl ?_
    refine zw_gI (q := 2) (pc' := 34) WK rfl rfl rfl rfl rfl rfl ?_
    refine zw_s (pc' := 35) rfl rfl ?_
    refine zw_isub (pc' := 36) rfl rfl ?_
    refine zw_c (pc' := 39) (zw_cv (q := 51) (Y := zm_66) WK.1 rfl rfl zm_66_t rfl rfl) rfl rfl rfl rfl rfl (d1) ?_
    refine zw_st (n := 2) (k := 5) (f := zp_isI) (pc' := 41) rfl rfl rfl rfl rfl ?_
    refine zw_ld (n := 2) (k := 5) (f := zp_isI) (pc' := 43) rfl rfl zw_g1 rfl rfl ?_
    refine zw_s (pc' := 44) rfl rfl ?_
    refine zw_bne2 (g := 49) (pc' := 47) rfl rfl rfl rfl (rfl : _ = (-1 : Int)) (fun h2 => ?_) (fun h2 => ?_)
    · rcases d3 with ⟨m1, m2, m3, m4, m5, m6, m7⟩ | ⟨m1, _⟩
      rotate_left
      · omega
      have W2 := zB_Wd m7.1.1
      have g0 : H2.2.1 2 = H.2.1 2 := zx_ae (zk_Fr_t c2 (zk_Fr_t a3 d2)) 2 (fun k => rfl) rfl rfl
      have hW0 : (H2.2.1 2 0).toInt = w := by rw [g0, hw]
      have hpr : 0 ≤ w * ys_vl T n (ys_nx T n p) ∧ w * ys_vl T n (ys_nx T n p) ≤ 56 := by
        have q1 : 2 ≤ w ∧ w ≤ 8 := by omega
        have q2 : 0 ≤ ys_vl T n (ys_nx T n p) ∧ ys_vl T n (ys_nx T n p) ≤ 7 := by omega
        refine ⟨Int.mul_nonneg (by omega) q2.1, ?_⟩
        exact Int.le_trans (Int.mul_le_mul_of_nonneg_left q2.2 (by omega)) (by omega)
      have em : (H2.2.1 2 0 * v2).toInt = w * ys_vl T n (ys_nx T n p) := by
        rw [zq_mul m1 (by rw [hW0]; omega) (by rw [hW0]; omega), hW0]
      have ec : (H2.2.1 2 0 * v2 + v).toInt = w * ys_vl T n (ys_nx T n p) + ys_vl T n p := by
        rw [zq_add (by rw [em, k1]; omega) (by rw [em, k1]; omega), em, k1]
      have eb : Int32.ofInt (w * ys_vl T n (ys_nx T n p) + ys_vl T n p) = H2.2.1 2 0 * v2 + v := by
        rw [← ec, Int32.ofInt_toInt]
      refine zw_ld (n := 1) (k := 1) (f := zp_isR) (pc' := 50) rfl rfl (zw_gt (zw_gt rfl rfl rfl) rfl rfl) rfl rfl ?_
      refine zw_gI (q := 2) (pc' := 53) W2 rfl rfl rfl rfl rfl rfl ?_
      refine zw_ld (n := 2) (k := 5) (f := zp_isI) (pc' := 55) rfl rfl zw_g1 rfl rfl ?_
      refine zw_imul (pc' := 56) rfl rfl ?_
      refine zw_ld (n := 2) (k := 4) (f := zp_isI) (pc' := 58) rfl rfl (zw_gt zw_g1 rfl rfl) rfl rfl ?_
      refine zw_iadd (pc' := 59) rfl rfl ?_
      refine zw_st (n := 2) (k := 6) (f := zp_isI) (pc' := 61) rfl rfl rfl rfl rfl ?_
      refine zw_ld (n := 1) (k := 2) (f := zp_isL) (pc' := 62) rfl rfl (zw_gt (zw_gt (zw_gt rfl rfl rfl) rfl rfl) rfl rfl) rfl rfl ?_
      refine zw_ld (n := 2) (k := 6) (f := zp_isI) (pc' := 64) rfl rfl zw_g1 rfl rfl ?_
      refine zw_cx (pc' := 67) (zw_csx (Y := zm_4) rfl rfl zm_4_t) rfl rfl rfl rfl rfl (zn_bit) ?_
      refine zw_land (pc' := 68) rfl rfl ?_
      refine zw_s (pc' := 69) rfl rfl ?_
      refine zw_s (pc' := 70) rfl rfl ?_
      refine zw_beq1 (g := 81) (pc' := 73) rfl rfl rfl rfl (fun h3 => ?_) (fun h3 => ?_)
      · have hz : taken &&& yBit (w * ys_vl T n (ys_nx T n p) + ys_vl T n p) = 0 := by
          unfold yBit
          rw [eb]
          exact zl_cmp0 h3
        obtain ⟨Q, b1, b2, b3⟩ := yc_ad2 (L := L) (σ := σ) (d := d) m7
        refine zw_ld (n := 1) (k := 0) (f := zp_isR) (pc' := 82) rfl rfl (zw_gt (zw_gt (zw_gt rfl rfl rfl) rfl rfl) rfl rfl) rfl rfl ?_
        refine zw_gR (q := 51) (pc' := 85) W2 rfl rfl rfl rfl (W2.2 51 0 _ rfl) rfl ?_
        refine zw_cn (pc' := 88) (zw_cv (q := 52) (Y := zm_55) W2.1 rfl rfl zm_55_t rfl rfl) rfl rfl rfl rfl rfl (b1) ?_
        refine zw_ld (n := 2) (k := 6) (f := zp_isI) (pc' := 90) rfl rfl zw_g1 rfl rfl ?_
        refine zw_ri rfl rfl ?_
        exact ⟨_, Q, rfl, zk_Fr_t c2 (zk_Fr_t a3 (zk_Fr_t d2 b3)), Or.inl ⟨ec, k6, m6, ⟨by omega, by omega⟩, hz, b2⟩⟩
      · have hz : taken &&& yBit (w * ys_vl T n (ys_nx T n p) + ys_vl T n p) ≠ 0 := by
          unfold yBit
          rw [eb]
          exact zl_cmp1 h3
        obtain ⟨Q, b1, b2, b3, b4⟩ := yc_ref (L := L) (σ := σ) (d := d + 2) (x := Int32.ofInt 4) m7
        refine zw_ld (n := 1) (k := 0) (f := zp_isR) (pc' := 74) rfl rfl (zw_gt (zw_gt (zw_gt rfl rfl rfl) rfl rfl) rfl rfl) rfl rfl ?_
        refine zw_s (pc' := 75) rfl rfl ?_
        refine zw_c (pc' := 78) (zw_cv (q := 51) (Y := zm_62) W2.1 rfl rfl zm_62_t rfl rfl) rfl rfl rfl rfl rfl (b1) ?_
        refine zw_s (pc' := 79) rfl rfl ?_
        refine zw_s (pc' := 80) rfl rfl ?_
        refine zw_ri rfl rfl ?_
        exact ⟨_, Q, rfl, zk_Fr_t c2 (zk_Fr_t a3 (zk_Fr_t d2 b3)), Or.inr ⟨rfl, 4, _, by decide, by decide, b4, b2, Or.inr (Or.inr ⟨rfl, rfl, k6, m6, hz⟩)⟩⟩
    · refine zw_s (pc' := 48) rfl rfl ?_
      refine zw_ri rfl rfl ?_
      rcases d3 with ⟨m1, m2, m3, m4, _⟩ | ⟨_, k, m1, m2, m3, m4, m5⟩
      · omega
      · exact ⟨_, H2, rfl, zk_Fr_t c2 (zk_Fr_t a3 d2), Or.inr ⟨rfl, k, _, m1, m2, m3, m5, Or.inr (Or.inl ⟨rfl, k6, m4⟩)⟩⟩
  · refine zw_s (pc' := 20) rfl rfl ?_
    refine zw_ri rfl rfl ?_
    rcases c3 with ⟨k1, k2, k3, k4, _⟩ | ⟨_, k, k1, k2, k3, k4, k5⟩
    · omega
    · exact ⟨_, H1, rfl, c2, Or.inr ⟨rfl, k, p, k1, k2, k3, k5, Or.inl ⟨rfl, k4⟩⟩⟩

set_option maxRecDepth 8000 in
theorem yc_cell22 {L : Nat} {σ : Nat → Int32} {d : Nat} {T : Nat → Int} {n p : Nat} {H : zp_H} {w hh : Int} {taken : Int64} (hw : (H.2.1 22 0).toInt = w) (hh1 : (H.2.1 22 1).toInt = hh) (h : yE T n p H) : ∃ X, zp_Call L σ (d + 4) 70 [.inr (.inr (some 52)), .inr (.inr (some 23)), .inr (.inl taken)] H X ∧ ∃ v H1, X = (.inl (some (.inl v)), H1) ∧ zk_Fr zg yl_m [] H H1 ∧ yKc T n p w hh taken v H1 := by
  have W := zB_Wd h.1.1
  have r0 := zB_fr1 h.1.1 (p := 22) (k := 0) (r := (2, 8)) rfl
  have r0 : 2 ≤ (H.2.1 22 0).toInt ∧ (H.2.1 22 0).toInt ≤ 8 := r0
  have r1 := zB_fr1 h.1.1 (p := 22) (k := 1) (r := (2, 8)) rfl
  have r1 : 2 ≤ (H.2.1 22 1).toInt ∧ (H.2.1 22 1).toInt ≤ 8 := r1
  have e0 : (H.2.1 22 0 - Int32.ofInt 1).toInt = w - 1 := by rw [zw_m1 (by omega), hw]
  obtain ⟨_, c1, v, H1, rfl, c2, c3⟩ := yc_look (L := L) (σ := σ) (d := d + 1) (x := Int32.ofInt 0) (lo := 0) rfl e0 h
  refine zw_met zm_70_t rfl rfl ?_
  refine zw_ld (n := 1) (k := 0) (f := zp_isR) (pc' := 1) rfl rfl rfl rfl rfl ?_
  refine zw_s (pc' := 2) rfl rfl ?_
  refine zw_ld (n := 1) (k := 1) (f := zp_isR) (pc' := 3) rfl rfl rfl rfl rfl ?_
  refine zw_gI (q := 22) (pc' := 6) W rfl rfl rfl rfl rfl rfl ?_
  refine zw_s (pc' := 7) rfl rfl ?_
  refine zw_isub (pc' := 8) rfl rfl ?_
  refine zw_c (pc' := 11) (zw_cv (q := 51) (Y := zm_66) W.1 rfl rfl zm_66_t rfl rfl) rfl rfl rfl rfl rfl (c1) ?_
  refine zw_st (n := 2) (k := 4) (f := zp_isI) (pc' := 13) rfl rfl rfl rfl rfl ?_
  refine zw_ld (n := 2) (k := 4) (f := zp_isI) (pc' := 15) rfl rfl zw_g1 rfl rfl ?_
  refine zw_s (pc' := 16) rfl rfl ?_
  refine zw_bne2 (g := 21) (pc' := 19) rfl rfl rfl rfl (rfl : _ = (-1 : Int)) (fun h1 => ?_) (fun h1 => ?_)
  · rcases c3 with ⟨k1, k2, k3, k4, k5, k6, k7⟩ | ⟨k1, _⟩
    rotate_left
    · omega
    have W1 := zB_Wd k7.1.1
    obtain ⟨K, a1, a2, a3⟩ := yc_ad2 (L := L) (σ := σ) (d := d) k7
    have WK := zB_Wd a2.1.1
    have f0 : K.2.1 22 = H.2.1 22 := zx_ae (zk_Fr_t c2 a3) 22 (fun k => rfl) rfl rfl
    have e1 : (K.2.1 22 1 - Int32.ofInt 1).toInt = hh - 1 := by rw [f0, zw_m1 (by omega), hh1]
    obtain ⟨_, d1, v2, H2, rfl, d2, d3⟩ := yc_look (L := L) (σ := σ) (d := d + 1) (x := Int32.ofInt 0) (lo := 0) rfl e1 a2
    refine zw_ld (n := 1) (k := 0) (f := zp_isR) (pc' := 22) rfl rfl (zw_gt rfl rfl rfl) rfl rfl ?_
    refine zw_gR (q := 51) (pc' := 25) W1 rfl rfl rfl rfl (W1.2 51 0 _ rfl) rfl ?_
    refine zw_cn (pc' := 28) (zw_cv (q := 52) (Y := zm_55) W1.1 rfl rfl zm_55_t rfl rfl) rfl rfl rfl rfl rfl (a1) ?_
    refine zw_ld (n := 1) (k := 0) (f := zp_isR) (pc' := 29) rfl rfl (zw_gt rfl rfl rfl) rfl rfl ?_
    refine zw_s (pc' := 30) rfl rfl ?_
    refine zw_ld (n := 1) (k := 1) (f := zp_isR) (pc' := 31) rfl rfl (zw_gt rfl rfl rfl) rfl rfl ?_
    refine zw_gI (q := 22) (pc' := 34) WK rfl rfl rfl rfl rfl rfl ?_
    refine zw_s (pc' := 35) rfl rfl ?_
    refine zw_isub (pc' := 36) rfl rfl ?_
    refine zw_c (pc' := 39) (zw_cv (q := 51) (Y := zm_66) WK.1 rfl rfl zm_66_t rfl rfl) rfl rfl rfl rfl rfl (d1) ?_
    refine zw_st (n := 2) (k := 5) (f := zp_isI) (pc' := 41) rfl rfl rfl rfl rfl ?_
    refine zw_ld (n := 2) (k := 5) (f := zp_isI) (pc' := 43) rfl rfl zw_g1 rfl rfl ?_
    refine zw_s (pc' := 44) rfl rfl ?_
    refine zw_bne2 (g := 49) (pc' := 47) rfl rfl rfl rfl (rfl : _ = (-1 : Int)) (fun h2 => ?_) (fun h2 => ?_)
    · rcases d3 with ⟨m1, m2, m3, m4, m5, m6, m7⟩ | ⟨m1, _⟩
      rotate_left
      · omega
      have W2 := zB_Wd m7.1.1
      have g0 : H2.2.1 22 = H.2.1 22 := zx_ae (zk_Fr_t c2 (zk_Fr_t a3 d2)) 22 (fun k => rfl) rfl rfl
      have hW0 : (H2.2.1 22 0).toInt = w := by rw [g0, hw]
      have hpr : 0 ≤ w * ys_vl T n (ys_nx T n p) ∧ w * ys_vl T n (ys_nx T n p) ≤ 56 := by
        have q1 : 2 ≤ w ∧ w ≤ 8 := by omega
        have q2 : 0 ≤ ys_vl T n (ys_nx T n p) ∧ ys_vl T n (ys_nx T n p) ≤ 7 := by omega
        refine ⟨Int.mul_nonneg (by omega) q2.1, ?_⟩
        exact Int.le_trans (Int.mul_le_mul_of_nonneg_left q2.2 (by omega)) (by omega)
      have em : (H2.2.1 22 0 * v2).toInt = w * ys_vl T n (ys_nx T n p) := by
        rw [zq_mul m1 (by rw [hW0]; omega) (by rw [hW0]; omega), hW0]
      have ec : (H2.2.1 22 0 * v2 + v).toInt = w * ys_vl T n (ys_nx T n p) + ys_vl T n p := by
        rw [zq_add (by rw [em, k1]; omega) (by rw [em, k1]; omega), em, k1]
      have eb : Int32.ofInt (w * ys_vl T n (ys_nx T n p) + ys_vl T n p) = H2.2.1 22 0 * v2 + v := by
        rw [← ec, Int32.ofInt_toInt]
      refine zw_ld (n := 1) (k := 1) (f := zp_isR) (pc' := 50) rfl rfl (zw_gt (zw_gt rfl rfl rfl) rfl rfl) rfl rfl ?_
      refine zw_gI (q := 22) (pc' := 53) W2 rfl rfl rfl rfl rfl rfl ?_
      refine zw_ld (n := 2) (k := 5) (f := zp_isI) (pc' := 55) rfl rfl zw_g1 rfl rfl ?_
      refine zw_imul (pc' := 56) rfl rfl ?_
      refine zw_ld (n := 2) (k := 4) (f := zp_isI) (pc' := 58) rfl rfl (zw_gt zw_g1 rfl rfl) rfl rfl ?_
      refine zw_iadd (pc' := 59) rfl rfl ?_
      refine zw_st (n := 2) (k := 6) (f := zp_isI) (pc' := 61) rfl rfl rfl rfl rfl ?_
      refine zw_ld (n := 1) (k := 2) (f := zp_isL) (pc' := 62) rfl rfl (zw_gt (zw_gt (zw_gt rfl rfl rfl) rfl rfl) rfl rfl) rfl rfl ?_
      refine zw_ld (n := 2) (k := 6) (f := zp_isI) (pc' := 64) rfl rfl zw_g1 rfl rfl ?_
      refine zw_cx (pc' := 67) (zw_csx (Y := zm_4) rfl rfl zm_4_t) rfl rfl rfl rfl rfl (zn_bit) ?_
      refine zw_land (pc' := 68) rfl rfl ?_
      refine zw_s (pc' := 69) rfl rfl ?_
      refine zw_s (pc' := 70) rfl rfl ?_
      refine zw_beq1 (g := 81) (pc' := 73) rfl rfl rfl rfl (fun h3 => ?_) (fun h3 => ?_)
      · have hz : taken &&& yBit (w * ys_vl T n (ys_nx T n p) + ys_vl T n p) = 0 := by
          unfold yBit
          rw [eb]
          exact zl_cmp0 h3
        obtain ⟨Q, b1, b2, b3⟩ := yc_ad2 (L := L) (σ := σ) (d := d) m7
        refine zw_ld (n := 1) (k := 0) (f := zp_isR) (pc' := 82) rfl rfl (zw_gt (zw_gt (zw_gt rfl rfl rfl) rfl rfl) rfl rfl) rfl rfl ?_
        refine zw_gR (q := 51) (pc' := 85) W2 rfl rfl rfl rfl (W2.2 51 0 _ rfl) rfl ?_
        refine zw_cn (pc' := 88) (zw_cv (q := 52) (Y := zm_55) W2.1 rfl rfl zm_55_t rfl rfl) rfl rfl rfl rfl rfl (b1) ?_
        refine zw_ld (n := 2) (k := 6) (f := zp_isI) (pc' := 90) rfl rfl zw_g1 rfl rfl ?_
        refine zw_ri rfl rfl ?_
        exact ⟨_, Q, rfl, zk_Fr_t c2 (zk_Fr_t a3 (zk_Fr_t d2 b3)), Or.inl ⟨ec, k6, m6, ⟨by omega, by omega⟩, hz, b2⟩⟩
      · have hz : taken &&& yBit (w * ys_vl T n (ys_nx T n p) + ys_vl T n p) ≠ 0 := by
          unfold yBit
          rw [eb]
          exact zl_cmp1 h3
        obtain ⟨Q, b1, b2, b3, b4⟩ := yc_ref (L := L) (σ := σ) (d := d + 2) (x := Int32.ofInt 4) m7
        refine zw_ld (n := 1) (k := 0) (f := zp_isR) (pc' := 74) rfl rfl (zw_gt (zw_gt (zw_gt rfl rfl rfl) rfl rfl) rfl rfl) rfl rfl ?_
        refine zw_s (pc' := 75) rfl rfl ?_
        refine zw_c (pc' := 78) (zw_cv (q := 51) (Y := zm_62) W2.1 rfl rfl zm_62_t rfl rfl) rfl rfl rfl rfl rfl (b1) ?_
        refine zw_s (pc' := 79) rfl rfl ?_
        refine zw_s (pc' := 80) rfl rfl ?_
        refine zw_ri rfl rfl ?_
        exact ⟨_, Q, rfl, zk_Fr_t c2 (zk_Fr_t a3 (zk_Fr_t d2 b3)), Or.inr ⟨rfl, 4, _, by decide, by decide, b4, b2, Or.inr (Or.inr ⟨rfl, rfl, k6, m6, hz⟩)⟩⟩
    · refine zw_s (pc' := 48) rfl rfl ?_
      refine zw_ri rfl rfl ?_
      rcases d3 with ⟨m1, m2, m3, m4, _⟩ | ⟨_, k, m1, m2, m3, m4, m5⟩
      · omega
      · exact ⟨_, H2, rfl, zk_Fr_t c2 (zk_Fr_t a3 d2), Or.inr ⟨rfl, k, _, m1, m2, m3, m5, Or.inr (Or.inl ⟨rfl, k6, m4⟩)⟩⟩
  · refine zw_s (pc' := 20) rfl rfl ?_
    refine zw_ri rfl rfl ?_
    rcases c3 with ⟨k1, k2, k3, k4, _⟩ | ⟨_, k, k1, k2, k3, k4, k5⟩
    · omega
    · exact ⟨_, H1, rfl, c2, Or.inr ⟨rfl, k, p, k1, k2, k3, k5, Or.inl ⟨rfl, k4⟩⟩⟩
