section
/-! ===== the class reads numbers, ways, cells, exactly ===== -/
def zm_62 : za_MI := (yX7_refuse, prog_9_method_3_code, 2, (some FieldType.boolean), 7, 0, 0, [], za_i62)
theorem zm_62_t : za_MT 62 = some zm_62 := rfl
def zm_63 : za_MI := (yX7_readHead, prog_9_method_6_code, 2, (some FieldType.boolean), 7, 0, 0, [], za_i63)
theorem zm_63_t : za_MT 63 = some zm_63 := rfl
def zm_65 : za_MI := (yX7_readNumber, prog_9_method_9_code, 4, (some FieldType.int), 7, 0, 0, [], za_i65)
theorem zm_65_t : za_MT 65 = some zm_65 := rfl
def zm_66 : za_MI := (yX7_lookAtNumber, prog_9_method_8_code, 3, (some FieldType.int), 7, 0, 0, [], za_i66)
theorem zm_66_t : za_MT 66 = some zm_66 := rfl
def zm_68 : za_MI := (yX7_readHead_, prog_9_method_7_code, 3, (some FieldType.boolean), 7, 0, 0, [], za_i68)
theorem zm_68_t : za_MT 68 = some zm_68 := rfl
def zm_70 : za_MI := (yX7_readCell, prog_9_method_11_code, 7, (some FieldType.int), 7, 0, 0, [], za_i70)
theorem zm_70_t : za_MT 70 = some zm_70 := rfl
def zm_73 : za_MI := (yX7_readWay, prog_9_method_10_code, 2, (some FieldType.int), 7, 0, 0, [], za_i73)
theorem zm_73_t : za_MT 73 = some zm_73 := rfl
def zm_97 : za_MI := (yX7_readEnd, prog_9_method_4_code, 1, (some FieldType.boolean), 7, 0, 0, [], za_i97)
theorem zm_97_t : za_MT 97 = some zm_97 := rfl
def yl_m : List (Nat × Nat) := [(51, 4), (51, 5), (52, 2), (52, 3), (52, 4), (52, 5)]
def yFc (T : Nat → Int) (n : Nat) (r : Int × Nat) (H : zp_H) : Prop := (H.2.1 51 4).toInt = r.1 ∧ (H.2.1 51 5).toInt = ys_st T n r.2
theorem ys_vl_n0 {T : Nat → Int} {n p : Nat} (hp : p ≤ n) (hk : ys_kd T n p = 2) : 0 ≤ ys_vl T n p := by
  have hb := ys_nxb (T := T) hp
  obtain ⟨g1, g2, g3, g4⟩ := ys_vl_n hk
  rw [g4]
  split
  · decide
  · exact (ys_nm_b (T := T) (s := ys_st T n p) (ys_nx T n p - ys_st T n p) (by omega) (fun t ht => by
        rw [g3] at ht
        exact of_decide_eq_true (ys_run_p _ _ t ht))).1
/-- the class's reader refuses or goes on: a number -/
def yKn (T : Nat → Int) (n p : Nat) (lo hi : Int) (v : Int32) (H1 : zp_H) (q : Nat) : Prop := (v.toInt = ys_vl T n p ∧ lo ≤ ys_vl T n p ∧ ys_vl T n p ≤ hi ∧ 0 ≤ ys_vl T n p ∧ ys_kd T n p = 2 ∧ (∀ ok, yNu T n p lo hi ok = .inl (ok (ys_vl T n p))) ∧ yE T n q H1) ∨ (v.toInt = -1 ∧ ∃ k : Int, 1 ≤ k ∧ k ≤ 5 ∧ yFc T n (k, p) H1 ∧ (∀ ok, yNu T n p lo hi ok = .inr (k, p)) ∧ yE T n p H1)
theorem yNu_1 {T : Nat → Int} {n p : Nat} {lo hi : Int} (hk : ys_kd T n p = 2) (h1 : lo ≤ ys_vl T n p) (h2 : ys_vl T n p ≤ hi) (ok : Int → yL) : yNu T n p lo hi ok = .inl (ok (ys_vl T n p)) := by
  unfold yNu
  rw [if_pos hk, if_pos ⟨h1, h2⟩]
theorem yNu_2 {T : Nat → Int} {n p : Nat} {lo hi : Int} (hk : ys_kd T n p = 2) (h : ¬ (lo ≤ ys_vl T n p ∧ ys_vl T n p ≤ hi)) (ok : Int → yL) : yNu T n p lo hi ok = .inr (2, p) := by
  unfold yNu
  rw [if_pos hk, if_neg h]
theorem yNu_0 {T : Nat → Int} {n p : Nat} {lo hi : Int} (hk : ys_kd T n p ≠ 2) (ok : Int → yL) : yNu T n p lo hi ok = .inr (1, p) := by
  unfold yNu
  rw [if_neg hk]

set_option maxRecDepth 8000 in
theorem zl_cmp0 {u : Int64} (h : (lg_cmp u (Int64.ofNat 0)).toInt = 0) : u = 0 := by
  unfold lg_cmp at h
  split at h
  · exact absurd h (by decide)
  · split at h
    · next h1 h2 => exact h2
    · exact absurd h (by decide)
theorem zl_cmp1 {u : Int64} (h : (lg_cmp u (Int64.ofNat 0)).toInt ≠ 0) : u ≠ 0 := by
  rintro rfl
  exact h (by decide)
/-- a cell: its two numbers, and it isn't taken -/
def yKc (T : Nat → Int) (n p : Nat) (w hh : Int) (taken : Int64) (v : Int32) (H1 : zp_H) : Prop := (v.toInt = w * ys_vl T n (ys_nx T n p) + ys_vl T n p ∧ (∀ ok, yNu T n p 0 (w - 1) ok = .inl (ok (ys_vl T n p))) ∧ (∀ ok, yNu T n (ys_nx T n p) 0 (hh - 1) ok = .inl (ok (ys_vl T n (ys_nx T n p)))) ∧ (0 ≤ v.toInt ∧ v.toInt ≤ 63) ∧ taken &&& yBit (w * ys_vl T n (ys_nx T n p) + ys_vl T n p) = 0 ∧ yE T n (ys_nx T n (ys_nx T n p)) H1) ∨ (v.toInt = -1 ∧ ∃ (k : Int) (q : Nat), 1 ≤ k ∧ k ≤ 5 ∧ yFc T n (k, q) H1 ∧ yE T n q H1 ∧ ((q = p ∧ ∀ ok, yNu T n p 0 (w - 1) ok = .inr (k, p)) ∨ (q = ys_nx T n p ∧ (∀ ok, yNu T n p 0 (w - 1) ok = .inl (ok (ys_vl T n p))) ∧ ∀ ok, yNu T n (ys_nx T n p) 0 (hh - 1) ok = .inr (k, ys_nx T n p)) ∨ (k = 4 ∧ q = ys_nx T n p ∧ (∀ ok, yNu T n p 0 (w - 1) ok = .inl (ok (ys_vl T n p))) ∧ (∀ ok, yNu T n (ys_nx T n p) 0 (hh - 1) ok = .inl (ok (ys_vl T n (ys_nx T n p)))) ∧ taken &&& yBit (w * ys_vl T n (ys_nx T n p) + ys_vl T n p) ≠ 0)))

set_option maxRecDepth 8000 in
theorem yc_refx {L : Nat} {σ : Nat → Int32} {d : Nat} {T : Nat → Int} {n p : Nat} {H : zp_H} {x : Int32} (h : yE T n p H) : zp_Call L σ (d + 1) 62 [.inr (.inr (some 52)), .inl x] H (.inl (some (.inl (Int32.ofInt 0))), zw_I (zw_I H 51 4 x) 51 5 (H.2.1 52 3)) := by
  have W := zB_Wd h.1.1
  refine zw_ex (zw_met zm_62_t rfl rfl ?_)
  refine zw_ld (n := 1) (k := 0) (f := zp_isR) (pc' := 1) rfl rfl rfl rfl rfl ?_
  refine zw_ld (n := 1) (k := 1) (f := zp_isI) (pc' := 2) rfl rfl rfl rfl rfl ?_
  refine zw_pI (q := 51) (pc' := 5) W rfl rfl rfl rfl rfl rfl ?_
  refine zw_ld (n := 1) (k := 0) (f := zp_isR) (pc' := 6) rfl rfl rfl rfl rfl ?_
  refine zw_ld (n := 1) (k := 0) (f := zp_isR) (pc' := 7) rfl rfl rfl rfl rfl ?_
  refine zw_gR (q := 51) (pc' := 10) W rfl rfl rfl rfl (W.2 51 0 _ rfl) rfl ?_
  refine zw_gI (q := 52) (pc' := 13) W rfl rfl rfl rfl (zw_ne rfl rfl) rfl ?_
  refine zw_pI (q := 51) (pc' := 16) W rfl rfl rfl rfl rfl rfl ?_
  refine zw_s (pc' := 17) rfl rfl ?_
  refine zw_rz rfl rfl (by decide) ?_
  rfl

set_option maxRecDepth 8000 in
theorem yc_ref {L : Nat} {σ : Nat → Int32} {d : Nat} {T : Nat → Int} {n p : Nat} {H : zp_H} {x : Int32} (h : yE T n p H) : ∃ H1, zp_Call L σ (d + 1) 62 [.inr (.inr (some 52)), .inl x] H (.inl (some (.inl (Int32.ofInt 0))), H1) ∧ yE T n p H1 ∧ zk_Fr zg yl_m [] H H1 ∧ yFc T n (x.toInt, p) H1 := by
  have b1 := zB_putf (p := 51) (k := 4) (x := x) h.1.1 rfl (fun r hr => by cases hr) (zJc_I rfl h.1.1.2.2.2.2.2.2.2)
  have b2 := zB_putf (p := 51) (k := 5) (x := H.2.1 52 3) b1 rfl (fun r hr => by cases hr) (zJc_I rfl b1.2.2.2.2.2.2.2)
  exact ⟨_, yc_refx h, yE_c h b2 (funext fun k => zw_ne (zw_ne rfl rfl) rfl) (funext fun k => zw_ne (zw_ne rfl rfl) rfl), zk_Fr_I (zk_Fr_I (zk_Fr_r H) rfl rfl) rfl rfl, congrArg Int32.toInt (zw_ne zw_eq rfl), (congrArg Int32.toInt zw_eq).trans h.2.1.1⟩
theorem yc_ad2 {L : Nat} {σ : Nat → Int32} {d : Nat} {T : Nat → Int} {n p : Nat} {H : zp_H} (h : yE T n p H) : ∃ H1, zp_Call L σ (d + 3) 55 [.inr (.inr (some 53))] H (.inl none, H1) ∧ yE T n (ys_nx T n p) H1 ∧ zk_Fr zg yl_m [] H H1 := by
  have hb := ys_nxb (T := T) h.2.2
  obtain ⟨_, c1, H1, rfl, c2, c3, c4⟩ := yc_adv (L := L) (σ := σ) (d := d) (p := ys_nx T n p) h.1 h.2.1.2.1 hb.2.2.1
  exact ⟨H1, c1, ⟨c2, c4, hb.2.2.1⟩, zk_Fr_w rfl rfl c3⟩

set_option maxRecDepth 8000 in
theorem yc_look {L : Nat} {σ : Nat → Int32} {d : Nat} {T : Nat → Int} {n p : Nat} {H : zp_H} {x y : Int32} {lo hi : Int} (hx : x.toInt = lo) (hy : y.toInt = hi) (h : yE T n p H) : ∃ X, zp_Call L σ (d + 2) 66 [.inr (.inr (some 52)), .inl x, .inl y] H X ∧ ∃ v H1, X = (.inl (some (.inl v)), H1) ∧ zk_Fr zg yl_m [] H H1 ∧ yKn T n p lo hi v H1 p := by
  have W := zB_Wd h.1.1
  have h4 := yE_4 h
  have h5 : ys_kd T n p ≠ 0 → _ := yE_5 h
  refine zw_met zm_66_t rfl rfl ?_
  refine zw_ld (n := 1) (k := 0) (f := zp_isR) (pc' := 1) rfl rfl rfl rfl rfl ?_
  refine zw_gR (q := 51) (pc' := 4) W rfl rfl rfl rfl (W.2 51 0 _ rfl) rfl ?_
  refine zw_gI (q := 52) (pc' := 7) W rfl rfl rfl rfl rfl rfl ?_
  refine zw_s (pc' := 8) rfl rfl ?_
  refine zw_beq2 (g := 19) (pc' := 11) rfl rfl rfl rfl (rfl : _ = (2 : Int)) (fun h1 => ?_) (fun h1 => ?_)
  · have hv := h5 (by omega)
    have hk : ys_kd T n p = 2 := by omega
    have hv0 := ys_vl_n0 h.2.2 hk
    refine zw_ld (n := 1) (k := 0) (f := zp_isR) (pc' := 20) rfl rfl rfl rfl rfl ?_
    refine zw_gR (q := 51) (pc' := 23) W rfl rfl rfl rfl (W.2 51 0 _ rfl) rfl ?_
    refine zw_gI (q := 52) (pc' := 26) W rfl rfl rfl rfl rfl rfl ?_
    refine zw_ld (n := 1) (k := 1) (f := zp_isI) (pc' := 27) rfl rfl rfl rfl rfl ?_
    refine zw_blt2 (g := 41) (pc' := 30) rfl rfl rfl rfl rfl (fun h2 => ?_) (fun h2 => ?_)
    · refine zw_ld (n := 1) (k := 0) (f := zp_isR) (pc' := 42) rfl rfl rfl rfl rfl ?_
      refine zw_s (pc' := 43) rfl rfl ?_
      obtain ⟨K, c1, c2, c3, c4⟩ := yc_ref (L := L) (σ := σ) (d := d) (x := Int32.ofInt 2) h
      refine zw_c (pc' := 46) (zw_cv (q := 51) (Y := zm_62) W.1 rfl rfl zm_62_t rfl rfl) rfl rfl rfl rfl rfl (c1) ?_
      refine zw_s (pc' := 47) rfl rfl ?_
      refine zw_s (pc' := 48) rfl rfl ?_
      refine zw_ri rfl rfl ?_
      exact ⟨_, K, rfl, c3, Or.inr ⟨rfl, 2, by decide, by decide, c4, yNu_2 hk (by omega), c2⟩⟩
    · refine zw_ld (n := 1) (k := 0) (f := zp_isR) (pc' := 31) rfl rfl rfl rfl rfl ?_
      refine zw_gR (q := 51) (pc' := 34) W rfl rfl rfl rfl (W.2 51 0 _ rfl) rfl ?_
      refine zw_gI (q := 52) (pc' := 37) W rfl rfl rfl rfl rfl rfl ?_
      refine zw_ld (n := 1) (k := 2) (f := zp_isI) (pc' := 38) rfl rfl rfl rfl rfl ?_
      refine zw_ble2 (g := 49) (pc' := 41) rfl rfl rfl rfl rfl (fun h3 => ?_) (fun h3 => ?_)
      · refine zw_ld (n := 1) (k := 0) (f := zp_isR) (pc' := 50) rfl rfl rfl rfl rfl ?_
        refine zw_gR (q := 51) (pc' := 53) W rfl rfl rfl rfl (W.2 51 0 _ rfl) rfl ?_
        refine zw_gI (q := 52) (pc' := 56) W rfl rfl rfl rfl rfl rfl ?_
        refine zw_ri rfl rfl ?_
        exact ⟨_, H, rfl, zk_Fr_r H, Or.inl ⟨hv, by omega, by omega, hv0, hk, yNu_1 hk (by omega) (by omega), h⟩⟩
      · refine zw_ld (n := 1) (k := 0) (f := zp_isR) (pc' := 42) rfl rfl rfl rfl rfl ?_
        refine zw_s (pc' := 43) rfl rfl ?_
        obtain ⟨K, c1, c2, c3, c4⟩ := yc_ref (L := L) (σ := σ) (d := d) (x := Int32.ofInt 2) h
        refine zw_c (pc' := 46) (zw_cv (q := 51) (Y := zm_62) W.1 rfl rfl zm_62_t rfl rfl) rfl rfl rfl rfl rfl (c1) ?_
        refine zw_s (pc' := 47) rfl rfl ?_
        refine zw_s (pc' := 48) rfl rfl ?_
        refine zw_ri rfl rfl ?_
        exact ⟨_, K, rfl, c3, Or.inr ⟨rfl, 2, by decide, by decide, c4, yNu_2 hk (by omega), c2⟩⟩
  · refine zw_ld (n := 1) (k := 0) (f := zp_isR) (pc' := 12) rfl rfl rfl rfl rfl ?_
    refine zw_s (pc' := 13) rfl rfl ?_
    obtain ⟨K, c1, c2, c3, c4⟩ := yc_ref (L := L) (σ := σ) (d := d) (x := Int32.ofInt 1) h
    refine zw_c (pc' := 16) (zw_cv (q := 51) (Y := zm_62) W.1 rfl rfl zm_62_t rfl rfl) rfl rfl rfl rfl rfl (c1) ?_
    refine zw_s (pc' := 17) rfl rfl ?_
    refine zw_s (pc' := 18) rfl rfl ?_
    refine zw_ri rfl rfl ?_
    exact ⟨_, K, rfl, c3, Or.inr ⟨rfl, 1, by decide, by decide, c4, yNu_0 (by omega), c2⟩⟩

set_option maxRecDepth 8000 in
theorem yc_num {L : Nat} {σ : Nat → Int32} {d : Nat} {T : Nat → Int} {n p : Nat} {H : zp_H} {x y : Int32} {lo hi : Int} (hx : x.toInt = lo) (hy : y.toInt = hi) (h : yE T n p H) : ∃ X, zp_Call L σ (d + 4) 65 [.inr (.inr (some 52)), .inl x, .inl y] H X ∧ ∃ v H1, X = (.inl (some (.inl v)), H1) ∧ zk_Fr zg yl_m [] H H1 ∧ yKn T n p lo hi v H1 (ys_nx T n p) := by
  have W := zB_Wd h.1.1
  obtain ⟨_, c1, v, H1, rfl, c2, c3⟩ := yc_look (L := L) (σ := σ) (d := d + 1) hx hy h
  refine zw_met zm_65_t rfl rfl ?_
  refine zw_ld (n := 1) (k := 0) (f := zp_isR) (pc' := 1) rfl rfl rfl rfl rfl ?_
  refine zw_ld (n := 1) (k := 1) (f := zp_isI) (pc' := 2) rfl rfl rfl rfl rfl ?_
  refine zw_ld (n := 1) (k := 2) (f := zp_isI) (pc' := 3) rfl rfl rfl rfl rfl ?_
  refine zw_c (pc' := 6) (zw_cv (q := 51) (Y := zm_66) W.1 rfl rfl zm_66_t rfl rfl) rfl rfl rfl rfl rfl (c1) ?_
  refine zw_st (n := 1) (k := 3) (f := zp_isI) (pc' := 7) rfl rfl rfl rfl rfl ?_
  refine zw_ld (n := 1) (k := 3) (f := zp_isI) (pc' := 8) rfl rfl zw_g1 rfl rfl ?_
  refine zw_s (pc' := 9) rfl rfl ?_
  refine zw_beq2 (g := 19) (pc' := 12) rfl rfl rfl rfl (rfl : _ = (-1 : Int)) (fun h1 => ?_) (fun h1 => ?_)
  · refine zw_ld (n := 1) (k := 3) (f := zp_isI) (pc' := 20) rfl rfl zw_g1 rfl rfl ?_
    refine zw_ri rfl rfl ?_
    rcases c3 with ⟨k1, k2, k3, k4, _⟩ | c3
    · omega
    · exact ⟨_, H1, rfl, c2, Or.inr c3⟩
  · rcases c3 with ⟨k1, k2, k3, k4, k5, k6, k7⟩ | ⟨k1, _⟩
    rotate_left
    · omega
    have W1 := zB_Wd k7.1.1
    obtain ⟨K, a1, a2, a3⟩ := yc_ad2 (L := L) (σ := σ) (d := d) k7
    refine zw_ld (n := 1) (k := 0) (f := zp_isR) (pc' := 13) rfl rfl (zw_gt rfl rfl rfl) rfl rfl ?_
    refine zw_gR (q := 51) (pc' := 16) W1 rfl rfl rfl rfl (W1.2 51 0 _ rfl) rfl ?_
    refine zw_cn (pc' := 19) (zw_cv (q := 52) (Y := zm_55) W1.1 rfl rfl zm_55_t rfl rfl) rfl rfl rfl rfl rfl (a1) ?_
    refine zw_ld (n := 1) (k := 3) (f := zp_isI) (pc' := 20) rfl rfl zw_g1 rfl rfl ?_
    refine zw_ri rfl rfl ?_
    exact ⟨_, K, rfl, zk_Fr_t c2 a3, Or.inl ⟨k1, k2, k3, k4, k5, k6, a2⟩⟩

set_option maxRecDepth 8000 in
theorem yc_way {L : Nat} {σ : Nat → Int32} {d : Nat} {T : Nat → Int} {n p : Nat} {H : zp_H} (h : yE T n p H) : ∃ X, zp_Call L σ (d + 4) 73 [.inr (.inr (some 52))] H X ∧ ∃ v H1, X = (.inl (some (.inl v)), H1) ∧ zk_Fr zg yl_m [] H H1 ∧ ((v.toInt = ys_vl T n p ∧ (ys_kd T n p = 3 ∧ ys_vl T n p < 4) ∧ yE T n (ys_nx T n p) H1) ∨ (v.toInt = -1 ∧ ¬ (ys_kd T n p = 3 ∧ ys_vl T n p < 4) ∧ yFc T n (1, p) H1 ∧ yE T n p H1)) := by
  have W := zB_Wd h.1.1
  have h4 := yE_4 h
  have h5 : ys_kd T n p ≠ 0 → _ := yE_5 h
  refine zw_met zm_73_t rfl rfl ?_
  refine zw_ld (n := 1) (k := 0) (f := zp_isR) (pc' := 1) rfl rfl rfl rfl rfl ?_
  refine zw_gR (q := 51) (pc' := 4) W rfl rfl rfl rfl (W.2 51 0 _ rfl) rfl ?_
  by_cases hw : ys_kd T n p = 3 ∧ ys_vl T n p < 4
  · refine zw_c (pc' := 7) (zw_cv (q := 52) (Y := zm_74) W.1 rfl rfl zm_74_t rfl rfl) rfl rfl rfl rfl rfl (yc_wy1 (d := d + 2) h hw) ?_
    refine zw_bne1 (g := 18) (pc' := 10) rfl rfl rfl (rfl : _ = (1 : Int)) (fun h9 => ?_) (fun h9 => absurd h9 (by decide))
    have hv := h5 (by omega)
    have hvb := ys_vl_b hw.1
    obtain ⟨K, a1, a2, a3⟩ := yc_ad2 (L := L) (σ := σ) (d := d) h
    refine zw_ld (n := 1) (k := 0) (f := zp_isR) (pc' := 19) rfl rfl rfl rfl rfl ?_
    refine zw_gR (q := 51) (pc' := 22) W rfl rfl rfl rfl (W.2 51 0 _ rfl) rfl ?_
    refine zw_gI (q := 52) (pc' := 25) W rfl rfl rfl rfl rfl rfl ?_
    refine zw_st (n := 1) (k := 1) (f := zp_isI) (pc' := 26) rfl rfl rfl rfl rfl ?_
    refine zw_ld (n := 1) (k := 0) (f := zp_isR) (pc' := 27) rfl rfl (zw_gt rfl rfl rfl) rfl rfl ?_
    refine zw_gR (q := 51) (pc' := 30) W rfl rfl rfl rfl (W.2 51 0 _ rfl) rfl ?_
    refine zw_cn (pc' := 33) (zw_cv (q := 52) (Y := zm_55) W.1 rfl rfl zm_55_t rfl rfl) rfl rfl rfl rfl rfl (a1) ?_
    refine zw_ld (n := 1) (k := 1) (f := zp_isI) (pc' := 34) rfl rfl zw_g1 rfl rfl ?_
    refine zw_ri rfl rfl ?_
    exact ⟨_, K, rfl, a3, Or.inl ⟨hv, hw, a2⟩⟩
  · refine zw_c (pc' := 7) (zw_cv (q := 52) (Y := zm_74) W.1 rfl rfl zm_74_t rfl rfl) rfl rfl rfl rfl rfl (yc_wy0 (d := d + 2) h hw) ?_
    refine zw_bne1 (g := 18) (pc' := 10) rfl rfl rfl (rfl : _ = (0 : Int)) (fun h9 => absurd h9 (by decide)) (fun h9 => ?_)
    refine zw_ld (n := 1) (k := 0) (f := zp_isR) (pc' := 11) rfl rfl rfl rfl rfl ?_
    refine zw_s (pc' := 12) rfl rfl ?_
    obtain ⟨K, c1, c2, c3, c4⟩ := yc_ref (L := L) (σ := σ) (d := d + 2) (x := Int32.ofInt 1) h
    refine zw_c (pc' := 15) (zw_cv (q := 51) (Y := zm_62) W.1 rfl rfl zm_62_t rfl rfl) rfl rfl rfl rfl rfl (c1) ?_
    refine zw_s (pc' := 16) rfl rfl ?_
    refine zw_s (pc' := 17) rfl rfl ?_
    refine zw_ri rfl rfl ?_
    exact ⟨_, K, rfl, c3, Or.inr ⟨rfl, hw, c4, c2⟩⟩

set_option maxRecDepth 8000 in
theorem yc_hd {L : Nat} {σ : Nat → Int32} {d : Nat} {T : Nat → Int} {n p : Nat} {H : zp_H} {x : Int32} (h : yE T n p H) : ∃ X, zp_Call L σ (d + 4) 63 [.inr (.inr (some 52)), .inl x] H X ∧ ∃ v H1, X = (.inl (some (.inl v)), H1) ∧ zk_Fr zg yl_m [] H H1 ∧ ((v.toInt = 1 ∧ x.toInt ≠ 0 ∧ yE T n (ys_nx T n p) H1) ∨ (v.toInt = 0 ∧ ¬ (x.toInt ≠ 0) ∧ yFc T n (5, p) H1 ∧ yE T n p H1)) := by
  have W := zB_Wd h.1.1
  refine zw_met zm_63_t rfl rfl ?_
  refine zw_ld (n := 1) (k := 1) (f := zp_isI) (pc' := 1) rfl rfl rfl rfl rfl ?_
  refine zw_bne1 (g := 10) (pc' := 4) rfl rfl rfl rfl (fun h1 => ?_) (fun h1 => ?_)
  · obtain ⟨K, a1, a2, a3⟩ := yc_ad2 (L := L) (σ := σ) (d := d) h
    refine zw_ld (n := 1) (k := 0) (f := zp_isR) (pc' := 11) rfl rfl rfl rfl rfl ?_
    refine zw_gR (q := 51) (pc' := 14) W rfl rfl rfl rfl (W.2 51 0 _ rfl) rfl ?_
    refine zw_cn (pc' := 17) (zw_cv (q := 52) (Y := zm_55) W.1 rfl rfl zm_55_t rfl rfl) rfl rfl rfl rfl rfl (a1) ?_
    refine zw_s (pc' := 18) rfl rfl ?_
    refine zw_rz rfl rfl (by decide) ?_
    exact ⟨_, K, rfl, a3, Or.inl ⟨rfl, by omega, a2⟩⟩
  · refine zw_ld (n := 1) (k := 0) (f := zp_isR) (pc' := 5) rfl rfl rfl rfl rfl ?_
    refine zw_s (pc' := 6) rfl rfl ?_
    obtain ⟨K, c1, c2, c3, c4⟩ := yc_ref (L := L) (σ := σ) (d := d + 2) (x := Int32.ofInt 5) h
    refine zw_c (pc' := 9) (zw_cv (q := 51) (Y := zm_62) W.1 rfl rfl zm_62_t rfl rfl) rfl rfl rfl rfl rfl (c1) ?_
    refine zw_rz rfl rfl (by decide) ?_
    exact ⟨_, K, rfl, c3, Or.inr ⟨rfl, by omega, c4, c2⟩⟩

set_option maxRecDepth 8000 in
theorem yc_hc {L : Nat} {σ : Nat → Int32} {d : Nat} {T : Nat → Int} {n p : Nat} {H : zp_H} {x y : Int32} (h : yE T n p H) : ∃ X, zp_Call L σ (d + 4) 68 [.inr (.inr (some 52)), .inl x, .inl y] H X ∧ ∃ v H1, X = (.inl (some (.inl v)), H1) ∧ zk_Fr zg yl_m [] H H1 ∧ ((v.toInt = 1 ∧ x.toInt < y.toInt ∧ yE T n (ys_nx T n p) H1) ∨ (v.toInt = 0 ∧ ¬ (x.toInt < y.toInt) ∧ yFc T n (2, p) H1 ∧ yE T n p H1)) := by
  have W := zB_Wd h.1.1
  refine zw_met zm_68_t rfl rfl ?_
  refine zw_ld (n := 1) (k := 1) (f := zp_isI) (pc' := 1) rfl rfl rfl rfl rfl ?_
  refine zw_ld (n := 1) (k := 2) (f := zp_isI) (pc' := 2) rfl rfl rfl rfl rfl ?_
  refine zw_blt2 (g := 11) (pc' := 5) rfl rfl rfl rfl rfl (fun h1 => ?_) (fun h1 => ?_)
  · obtain ⟨K, a1, a2, a3⟩ := yc_ad2 (L := L) (σ := σ) (d := d) h
    refine zw_ld (n := 1) (k := 0) (f := zp_isR) (pc' := 12) rfl rfl rfl rfl rfl ?_
    refine zw_gR (q := 51) (pc' := 15) W rfl rfl rfl rfl (W.2 51 0 _ rfl) rfl ?_
    refine zw_cn (pc' := 18) (zw_cv (q := 52) (Y := zm_55) W.1 rfl rfl zm_55_t rfl rfl) rfl rfl rfl rfl rfl (a1) ?_
    refine zw_s (pc' := 19) rfl rfl ?_
    refine zw_rz rfl rfl (by decide) ?_
    exact ⟨_, K, rfl, a3, Or.inl ⟨rfl, by omega, a2⟩⟩
  · refine zw_ld (n := 1) (k := 0) (f := zp_isR) (pc' := 6) rfl rfl rfl rfl rfl ?_
    refine zw_s (pc' := 7) rfl rfl ?_
    obtain ⟨K, c1, c2, c3, c4⟩ := yc_ref (L := L) (σ := σ) (d := d + 2) (x := Int32.ofInt 2) h
    refine zw_c (pc' := 10) (zw_cv (q := 51) (Y := zm_62) W.1 rfl rfl zm_62_t rfl rfl) rfl rfl rfl rfl rfl (c1) ?_
    refine zw_rz rfl rfl (by decide) ?_
    exact ⟨_, K, rfl, c3, Or.inr ⟨rfl, by omega, c4, c2⟩⟩

set_option maxRecDepth 8000 in
theorem yc_end {L : Nat} {σ : Nat → Int32} {d : Nat} {T : Nat → Int} {n p : Nat} {H : zp_H} (h : yE T n p H) : ∃ X, zp_Call L σ (d + 4) 97 [.inr (.inr (some 52))] H X ∧ ∃ v H1, X = (.inl (some (.inl v)), H1) ∧ zk_Fr zg yl_m [] H H1 ∧ ((v.toInt = 1 ∧ (ys_kd T n p = 4 ∧ ys_vl T n p = 59) ∧ yE T n (ys_nx T n p) H1) ∨ (v.toInt = 0 ∧ ¬ (ys_kd T n p = 4 ∧ ys_vl T n p = 59) ∧ yFc T n (1, p) H1 ∧ yE T n p H1)) := by
  have W := zB_Wd h.1.1
  refine zw_met zm_97_t rfl rfl ?_
  refine zw_ld (n := 1) (k := 0) (f := zp_isR) (pc' := 1) rfl rfl rfl rfl rfl ?_
  refine zw_gR (q := 51) (pc' := 4) W rfl rfl rfl rfl (W.2 51 0 _ rfl) rfl ?_
  refine zw_s (pc' := 6) rfl rfl ?_
  by_cases hw : ys_kd T n p = 4 ∧ ys_vl T n p = 59
  · refine zw_c (pc' := 9) (zw_cv (q := 52) (Y := zm_86) W.1 rfl rfl zm_86_t rfl rfl) rfl rfl rfl rfl rfl (yc_sg1 (d := d + 2) rfl h hw) ?_
    refine zw_bne1 (g := 18) (pc' := 12) rfl rfl rfl (rfl : _ = (1 : Int)) (fun h9 => ?_) (fun h9 => absurd h9 (by decide))
    obtain ⟨K, a1, a2, a3⟩ := yc_ad2 (L := L) (σ := σ) (d := d) h
    refine zw_ld (n := 1) (k := 0) (f := zp_isR) (pc' := 19) rfl rfl rfl rfl rfl ?_
    refine zw_gR (q := 51) (pc' := 22) W rfl rfl rfl rfl (W.2 51 0 _ rfl) rfl ?_
    refine zw_cn (pc' := 25) (zw_cv (q := 52) (Y := zm_55) W.1 rfl rfl zm_55_t rfl rfl) rfl rfl rfl rfl rfl (a1) ?_
    refine zw_s (pc' := 26) rfl rfl ?_
    refine zw_rz rfl rfl (by decide) ?_
    exact ⟨_, K, rfl, a3, Or.inl ⟨rfl, hw, a2⟩⟩
  · refine zw_c (pc' := 9) (zw_cv (q := 52) (Y := zm_86) W.1 rfl rfl zm_86_t rfl rfl) rfl rfl rfl rfl rfl (yc_sg0 (d := d + 2) rfl h hw) ?_
    refine zw_bne1 (g := 18) (pc' := 12) rfl rfl rfl (rfl : _ = (0 : Int)) (fun h9 => absurd h9 (by decide)) (fun h9 => ?_)
    refine zw_ld (n := 1) (k := 0) (f := zp_isR) (pc' := 13) rfl rfl rfl rfl rfl ?_
    refine zw_s (pc' := 14) rfl rfl ?_
    obtain ⟨K, c1, c2, c3, c4⟩ := yc_ref (L := L) (σ := σ) (d := d + 2) (x := Int32.ofInt 1) h
    refine zw_c (pc' := 17) (zw_cv (q := 51) (Y := zm_62) W.1 rfl rfl zm_62_t rfl rfl) rfl rfl rfl rfl rfl (c1) ?_
    refine zw_rz rfl rfl (by decide) ?_
    exact ⟨_, K, rfl, c3, Or.inr ⟨rfl, hw, c4, c2⟩⟩

set_option maxRecDepth 8000 in
theorem yc_cell2 {L : Nat} {σ : Nat → Int32} {d : Nat} {T : Nat → Int} {n p : Nat} {H : zp_H} {w hh : Int} {taken : Int64} (hw : (H.2.1 2 0).toInt = w) (hh1 : (H.2.1 2 1).toInt = hh) (h : yE T n p H) : ∃ X, zp_Call L σ (d + 4) 70 [.inr (.inr (some 52)), .inr (.inr (some 3)), .inr (.inl taken)] H X ∧ ∃ v H1, X = (.inl (some (.inl v)), H1) ∧ zk_Fr zg yl_m [] H H1 ∧ yKc T n p w hh taken v H1 := by
  have W := zB_Wd h.1.1
  have r0 := zB_fr1 h.1.1 (p := 2) (k := 0) (r := (2, 8)) rfl
  have r0 : 2 ≤ (H.2.1 2 0).toInt ∧ (H.2.1 2 0).toInt ≤ 8 := r0
  have r1 := zB_fr1 h.1.1 (p := 2) (k := 1) (r := (2, 8)) rfl
  have r1 : 2 ≤ (H.2.1 2 1).toInt ∧ (H.2.1 2 1).toInt ≤ 8 := r1
  have e0 : (H.2.1 2 0 - Int32.ofInt 1).toInt = w - 1 := by rw [zw_m1 (by omega), hw]
  obtain ⟨_, c1, v, H1, rfl, c2, c3⟩ := yc_look (L := L) (σ := σ) (d := d + 1) (x := Int32.ofInt 0) (lo := 0) rfl e0 h
  refine zw_met zm_70_t rfl rfl ?_
  refine zw_ld (n := 1) (k := 0) (f := zp_isR) (pc' := 1) rfl rfl rfl rfl rfl ?_
  refine zw_s (pc' := 2) rfl rfl ?_
  refine zw_ld (n := 1) (k := 1) (f := zp_isR) (pc' := 3) rfl rfl rfl rfl rfl ?_
  refine zw_gI (q := 2) (pc' := 6) W rfl rfl rfl rfl rfl rfl ?_
  refine zw_s (pc' := 7) rfl rfl ?_
  refine zw_isub (pc' := 8) rfl rfl ?_
  refine zw_c (pc' := 11) (zw_cv (q := 51) (Y := zm_66) W.1 rfl rfl zm_66_t rfl rfl) rfl rfl rfl rfl rfl (c1) ?_
  refine zw_st (n := 2) (k := 4) (f := zp_isI) (pc' := 13) rfl rfl rfl rfl rfl ?_
  refine zw_ld (n := 2) (k := 4) (f := zp_isI) (pc' := 15) rfl rfl zw_g1 rfl rfl ?_
  refine zw_s (pc' := 16) rfl rfl ?_
  refine zw_bne2 (g := 21) (pc' := 19) rfl rfl rfl rfl (rfl : _ = (-1 : Int)) (fun h1 => ?_) (fun h1 => ?_)
  · rcases c3 with ⟨k1, k2, k3, k4, k5, k6, k7⟩ | ⟨k1, _⟩
    rotate_left
    · omega
    have W1 := zB_Wd k7.1.1
    obtain ⟨K, a1, a2, a3⟩ := yc_ad2 (L := L) (σ := σ) (d := d) k7
    have WK := zB_Wd a2.1.1
    have f0 : K.2.1 2 = H.2.1 2 := zx_ae (zk_Fr_t c2 a3) 2 (fun k => rfl) rfl rfl
    have e1 : (K.2.1 2 1 - Int32.ofInt 1).toInt = hh - 1 := by rw [f0, zw_m1 (by omega), hh1]
    obtain ⟨_, d1, v2, H2, rfl, d2, d3⟩ := yc_look (L := L) (σ := σ) (d := d + 1) (x := Int32.ofInt 0) (lo := 0) rfl e1 a2
    refine zw_ld (n := 1) (k := 0) (f := zp_isR) (pc' := 22) rfl rfl (zw_gt rfl rfl rfl) rfl rfl ?_
    refine zw_gR (q := 51) (pc' := 25) W1 rfl rfl rfl rfl (W1.2 51 0 _ rfl) rfl ?_
    refine zw_cn (pc' := 28) (zw_cv (q := 52) (Y := zm_55) W1.1 rfl rfl zm_55_t rfl rfl) rfl rfl rfl rfl rfl (a1) ?_
    refine zw_ld (n := 1) (k := 0) (f := zp_isR) (pc' := 29) rfl rfl (zw_gt rfl rfl rfl) rfl rfl ?_
    refine zw_s (pc' := 30) rfl rfl ?_
    refine zw_ld (n := 1) (k := 1) (f := zp_isR) (pc' := 31) rfl rfl (zw_gt rfl rfl rfl) rfl rfl ?_
    refine zw_gI (q := 2) (pc' := 34) WK rfl rfl rfl rfl rfl rfl ?_
    refine zw_s (pc' := 35) rfl rfl ?_
    refine zw_isub (pc' := 36) rfl rfl ?_
    refine zw_c (pc' := 39) (zw_cv (q := 51) (Y := zm_66) WK.1 rfl rfl zm_66_t rfl rfl) rfl rfl rfl rfl rfl (d1) ?_
    refine zw_st (n := 2) (k := 5) (f := zp_isI) (pc' := 41) rfl rfl rfl rfl rfl ?_
    refine zw_ld (n := 2) (k := 5) (f := zp_isI) (pc' := 43) rfl rfl zw_g1 rfl rfl ?_
    refine zw_s (pc' := 44) rfl rfl ?_
    refine zw_bne2 (g := 49) (pc' := 47) rfl rfl rfl rfl (rfl : _ = (-1 : Int)) (fun h2 => ?_) (fun h2 => ?_)
    · rcases d3 with ⟨m1, m2, m3, m4, m5, m6, m7⟩ | ⟨m1, _⟩
      rotate_left
      · omega
      have W2 := zB_Wd m7.1.1
      have g0 : H2.2.1 2 = H.2.1 2 := zx_ae (zk_Fr_t c2 (zk_Fr_t a3 d2)) 2 (fun k => rfl) rfl rfl
      have hW0 : (H2.2.1 2 0).toInt = w := by rw [g0, hw]
      have hpr : 0 ≤ w * ys_vl T n (ys_nx T n p) ∧ w * ys_vl T n (ys_nx T n p) ≤ 56 := by
        have q1 : 2 ≤ w ∧ w ≤ 8 := by omega
        have q2 : 0 ≤ ys_vl T n (ys_nx T n p) ∧ ys_vl T n (ys_nx T n p) ≤ 7 := by omega
        refine ⟨Int.mul_nonneg (by omega) q2.1, ?_⟩
        exact Int.le_trans (Int.mul_le_mul_of_nonneg_left q2.2 (by omega)) (by omega)
      have em : (H2.2.1 2 0 * v2).toInt = w * ys_vl T n (ys_nx T n p) := by
        rw [zq_mul m1 (by rw [hW0]; omega) (by rw [hW0]; omega), hW0]
      have ec : (H2.2.1 2 0 * v2 + v).toInt = w * ys_vl T n (ys_nx T n p) + ys_vl T n p := by
        rw [zq_add (by rw [em, k1]; omega) (by rw [em, k1]; omega), em, k1]
      have eb : Int32.ofInt (w * ys_vl T n (ys_nx T n p) + ys_vl T n p) = H2.2.1 2 0 * v2 + v := by
        rw [← ec, Int32.ofInt_toInt]
      refine zw_ld (n := 1) (k := 1) (f := zp_isR) (pc' := 50) rfl rfl (zw_gt (zw_gt rfl rfl rfl) rfl rfl) rfl rfl ?_
      refine zw_gI (q := 2) (pc' := 53) W2 rfl rfl rfl rfl rfl rfl ?_
      refine zw_ld (n := 2) (k := 5) (f := zp_isI) (pc' := 55) rfl rfl zw_g1 rfl rfl ?_
      refine zw_imul (pc' := 56) rfl rfl ?_
      refine zw_ld (n := 2) (k := 4) (f := zp_isI) (pc' := 58) rfl rfl (zw_gt zw_g1 rfl rfl) rfl rfl ?_
      refine zw_iadd (pc' := 59) rfl rfl ?_
      refine zw_st (n := 2) (k := 6) (f := zp_isI) (pc' := 61) rfl rfl rfl rfl rfl ?_
      refine zw_ld (n := 1) (k := 2) (f := zp_isL) (pc' := 62) rfl rfl (zw_gt (zw_gt (zw_gt rfl rfl rfl) rfl rfl) rfl rfl) rfl rfl ?_
      refine zw_ld (n := 2) (k := 6) (f := zp_isI) (pc' := 64) rfl rfl zw_g1 rfl rfl ?_
      refine zw_cx (pc' := 67) (zw_csx (Y := zm_4) rfl rfl zm_4_t) rfl rfl rfl rfl rfl (zn_bit) ?_
      refine zw_land (pc' := 68) rfl rfl ?_
      refine zw_s (pc' := 69) rfl rfl ?_
      refine zw_s (pc' := 70) rfl rfl ?_
      refine zw_beq1 (g := 81) (pc' := 73) rfl rfl rfl rfl (fun h3 => ?_) (fun h3 => ?_)
      · have hz : taken &&& yBit (w * ys_vl T n (ys_nx T n p) + ys_vl T n p) = 0 := by
          unfold yBit
          rw [eb]
          exact zl_cmp0 h3
        obtain ⟨Q, b1, b2, b3⟩ := yc_ad2 (L := L) (σ := σ) (d := d) m7
        refine zw_ld (n := 1) (k := 0) (f := zp_isR) (pc' := 82) rfl rfl (zw_gt (zw_gt (zw_gt rfl rfl rfl) rfl rfl) rfl rfl) rfl rfl ?_
        refine zw_gR (q := 51) (pc' := 85) W2 rfl rfl rfl rfl (W2.2 51 0 _ rfl) rfl ?_
        refine zw_cn (pc' := 88) (zw_cv (q := 52) (Y := zm_55) W2.1 rfl rfl zm_55_t rfl rfl) rfl rfl rfl rfl rfl (b1) ?_
        refine zw_ld (n := 2) (k := 6) (f := zp_isI) (pc' := 90) rfl rfl zw_g1 rfl rfl ?_
        refine zw_ri rfl rfl ?_
        exact ⟨_, Q, rfl, zk_Fr_t c2 (zk_Fr_t a3 (zk_Fr_t d2 b3)), Or.inl ⟨ec, k6, m6, ⟨by omega, by omega⟩, hz, b2⟩⟩
      · have hz : taken &&& yBit (w * ys_vl T n (ys_nx T n p) + ys_vl T n p) ≠ 0 := by
          unfold yBit
          rw [eb]
          exact zl_cmp1 h3
        obtain ⟨Q, b1, b2, b3, b4⟩ := yc_ref (L := L) (σ := σ) (d := d + 2) (x := Int32.ofInt 4) m7
        refine zw_ld (n := 1) (k := 0) (f := zp_isR) (pc' := 74) rfl rfl (zw_gt (zw_gt (zw_gt rfl rfl rfl) rfl rfl) rfl rfl) rfl rfl ?_
        refine zw_s (pc' := 75) rfl rfl ?_
        refine zw_c (pc' := 78) (zw_cv (q := 51) (Y := zm_62) W2.1 rfl rfl zm_62_t rfl rfl) rfl rfl rfl rfl rfl (b1) ?_
        refine zw_s (pc' := 79) rfl rfl ?_
        refine zw_s (pc' := 80) rfl rfl ?_
        refine zw_ri rfl rfl ?_
        exact ⟨_, Q, rfl, zk_Fr_t c2 (zk_Fr_t a3 (zk_Fr_t d2 b3)), Or.inr ⟨rfl, 4, _, by decide, by decide, b4, b2, Or.inr (Or.inr ⟨rfl, rfl, k6, m6, hz⟩)⟩⟩
    · refine zw_s (pc' := 48) rfl rfl ?_
      refine zw_ri rfl rfl ?_
      rcases d3 with ⟨m1, m2, m3, m4, _⟩ | ⟨_, k, m1, m2, m3, m4, m5⟩
      · omega
      · exact ⟨_, H2, rfl, zk_Fr_t c2 (zk_Fr_t a3 d2), Or.inr ⟨rfl, k, _, m1, m2, m3, m5, Or.inr (Or.inl ⟨rfl, k6, m4⟩)⟩⟩
  · refine zw_s (pc' := 20) rfl rfl ?_
    refine zw_ri rfl rfl ?_
    rcases c3 with ⟨k1, k2, k3, k4, _⟩ | ⟨_, k, k1, k2, k3, k4, k5⟩
    · omega
    · exact ⟨_, H1, rfl, c2, Or.inr ⟨rfl, k, p, k1, k2, k3, k5, Or.inl ⟨rfl, k4⟩⟩⟩

set_option maxRecDepth 8000 in
theorem yc_cell22 {L : Nat} {σ : Nat → Int32} {d : Nat} {T : Nat → Int} {n p : Nat} {H : zp_H} {w hh : Int} {taken : Int64} (hw : (H.2.1 22 0).toInt = w) (hh1 : (H.2.1 22 1).toInt = hh) (h : yE T n p H) : ∃ X, zp_Call L σ (d + 4) 70 [.inr (.inr (some 52)), .inr (.inr (some 23)), .inr (.inl taken)] H X ∧ ∃ v H1, X = (.inl (some (.inl v)), H1) ∧ zk_Fr zg yl_m [] H H1 ∧ yKc T n p w hh taken v H1 := by
  have W := zB_Wd h.1.1
  have r0 := zB_fr1 h.1.1 (p := 22) (k := 0) (r := (2, 8)) rfl
  have r0 : 2 ≤ (H.2.1 22 0).toInt ∧ (H.2.1 22 0).toInt ≤ 8 := r0
  have r1 := zB_fr1 h.1.1 (p := 22) (k := 1) (r := (2, 8)) rfl
  have r1 : 2 ≤ (H.2.1 22 1).toInt ∧ (H.2.1 22 1).toInt ≤ 8 := r1
  have e0 : (H.2.1 22 0 - Int32.ofInt 1).toInt = w - 1 := by rw [zw_m1 (by omega), hw]
  obtain ⟨_, c1, v, H1, rfl, c2, c3⟩ := yc_look (L := L) (σ := σ) (d := d + 1) (x := Int32.ofInt 0) (lo := 0) rfl e0 h
  refine zw_met zm_70_t rfl rfl ?_
  refine zw_ld (n := 1) (k := 0) (f := zp_isR) (pc' := 1) rfl rfl rfl rfl rfl ?_
  refine zw_s (pc' := 2) rfl rfl ?_
  refine zw_ld (n := 1) (k := 1) (f := zp_isR) (pc' := 3) rfl rfl rfl rfl rfl ?_
  refine zw_gI (q := 22) (pc' := 6) W rfl rfl rfl rfl rfl rfl ?_
  refine zw_s (pc' := 7) rfl rfl ?_
  refine zw_isub (pc' := 8) rfl rfl ?_
  refine zw_c (pc' := 11) (zw_cv (q := 51) (Y := zm_66) W.1 rfl rfl zm_66_t rfl rfl) rfl rfl rfl rfl rfl (c1) ?_
  refine zw_st (n := 2) (k := 4) (f := zp_isI) (pc' := 13) rfl rfl rfl rfl rfl ?_
  refine zw_ld (n := 2) (k := 4) (f := zp_isI) (pc' := 15) rfl rfl zw_g1 rfl rfl ?_
  refine zw_s (pc' := 16) rfl rfl ?_
  refine zw_bne2 (g := 21) (pc' := 19) rfl rfl rfl rfl (rfl : _ = (-1 : Int)) (fun h1 => ?_) (fun h1 => ?_)
  · rcases c3 with ⟨k1, k2, k3, k4, k5, k6, k7⟩ | ⟨k1, _⟩
    rotate_left
    · omega
    have W1 := zB_Wd k7.1.1
    obtain ⟨K, a1, a2, a3⟩ := yc_ad2 (L := L) (σ := σ) (d := d) k7
    have WK := zB_Wd a2.1.1
    have f0 : K.2.1 22 = H.2.1 22 := zx_ae (zk_Fr_t c2 a3) 22 (fun k => rfl) rfl rfl
    have e1 : (K.2.1 22 1 - Int32.ofInt 1).toInt = hh - 1 := by rw [f0, zw_m1 (by omega), hh1]
    obtain ⟨_, d1, v2, H2, rfl, d2, d3⟩ := yc_look (L := L) (σ := σ) (d := d + 1) (x := Int32.ofInt 0) (lo := 0) rfl e1 a2
    refine zw_ld (n := 1) (k := 0) (f := zp_isR) (pc' := 22) rfl rfl (zw_gt rfl rfl rfl) rfl rfl ?_
    refine zw_gR (q := 51) (pc' := 25) W1 rfl rfl rfl rfl (W1.2 51 0 _ rfl) rfl ?_
    refine zw_cn (pc' := 28) (zw_cv (q := 52) (Y := zm_55) W1.1 rfl rfl zm_55_t rfl rfl) rfl rfl rfl rfl rfl (a1) ?_
    refine zw_ld (n := 1) (k := 0) (f := zp_isR) (pc' := 29) rfl rfl (zw_gt rfl rfl rfl) rfl rfl ?_
    refine zw_s (pc' := 30) rfl rfl ?_
    refine zw_ld (n := 1) (k := 1) (f := zp_isR) (pc' := 31) rfl rfl (zw_gt rfl rfl rfl) rfl rfl ?_
    refine zw_gI (q := 22) (pc' := 34) WK rfl rfl rfl rfl rfl rfl ?_
    refine zw_s (pc' := 35) rfl rfl ?_
    refine zw_isub (pc' := 36) rfl rfl ?_
    refine zw_c (pc' := 39) (zw_cv (q := 51) (Y := zm_66) WK.1 rfl rfl zm_66_t rfl rfl) rfl rfl rfl rfl rfl (d1) ?_
    refine zw_st (n := 2) (k := 5) (f := zp_isI) (pc' := 41) rfl rfl rfl rfl rfl ?_
    refine zw_ld (n := 2) (k := 5) (f := zp_isI) (pc' := 43) rfl rfl zw_g1 rfl rfl ?_
    refine zw_s (pc' := 44) rfl rfl ?_
    refine zw_bne2 (g := 49) (pc' := 47) rfl rfl rfl rfl (rfl : _ = (-1 : Int)) (fun h2 => ?_) (fun h2 => ?_)
    · rcases d3 with ⟨m1, m2, m3, m4, m5, m6, m7⟩ | ⟨m1, _⟩
      rotate_left
      · omega
      have W2 := zB_Wd m7.1.1
      have g0 : H2.2.1 22 = H.2.1 22 := zx_ae (zk_Fr_t c2 (zk_Fr_t a3 d2)) 22 (fun k => rfl) rfl rfl
      have hW0 : (H2.2.1 22 0).toInt = w := by rw [g0, hw]
      have hpr : 0 ≤ w * ys_vl T n (ys_nx T n p) ∧ w * ys_vl T n (ys_nx T n p) ≤ 56 := by
        have q1 : 2 ≤ w ∧ w ≤ 8 := by omega
        have q2 : 0 ≤ ys_vl T n (ys_nx T n p) ∧ ys_vl T n (ys_nx T n p) ≤ 7 := by omega
        refine ⟨Int.mul_nonneg (by omega) q2.1, ?_⟩
        exact Int.le_trans (Int.mul_le_mul_of_nonneg_left q2.2 (by omega)) (by omega)
      have em : (H2.2.1 22 0 * v2).toInt = w * ys_vl T n (ys_nx T n p) := by
        rw [zq_mul m1 (by rw [hW0]; omega) (by rw [hW0]; omega), hW0]
      have ec : (H2.2.1 22 0 * v2 + v).toInt = w * ys_vl T n (ys_nx T n p) + ys_vl T n p := by
        rw [zq_add (by rw [em, k1]; omega) (by rw [em, k1]; omega), em, k1]
      have eb : Int32.ofInt (w * ys_vl T n (ys_nx T n p) + ys_vl T n p) = H2.2.1 22 0 * v2 + v := by
        rw [← ec, Int32.ofInt_toInt]
      refine zw_ld (n := 1) (k := 1) (f := zp_isR) (pc' := 50) rfl rfl (zw_gt (zw_gt rfl rfl rfl) rfl rfl) rfl rfl ?_
      refine zw_gI (q := 22) (pc' := 53) W2 rfl rfl rfl rfl rfl rfl ?_
      refine zw_ld (n := 2) (k := 5) (f := zp_isI) (pc' := 55) rfl rfl zw_g1 rfl rfl ?_
      refine zw_imul (pc' := 56) rfl rfl ?_
      refine zw_ld (n := 2) (k := 4) (f := zp_isI) (pc' := 58) rfl rfl (zw_gt zw_g1 rfl rfl) rfl rfl ?_
      refine zw_iadd (pc' := 59) rfl rfl ?_
      refine zw_st (n := 2) (k := 6) (f := zp_isI) (pc' := 61) rfl rfl rfl rfl rfl ?_
      refine zw_ld (n := 1) (k := 2) (f := zp_isL) (pc' := 62) rfl rfl (zw_gt (zw_gt (zw_gt rfl rfl rfl) rfl rfl) rfl rfl) rfl rfl ?_
      refine zw_ld (n := 2) (k := 6) (f := zp_isI) (pc' := 64) rfl rfl zw_g1 rfl rfl ?_
      refine zw_cx (pc' := 67) (zw_csx (Y := zm_4) rfl rfl zm_4_t) rfl rfl rfl rfl rfl (zn_bit) ?_
      refine zw_land (pc' := 68) rfl rfl ?_
      refine zw_s (pc' := 69) rfl rfl ?_
      refine zw_s (pc' := 70) rfl rfl ?_
      refine zw_beq1 (g := 81) (pc' := 73) rfl rfl rfl rfl (fun h3 => ?_) (fun h3 => ?_)
      · have hz : taken &&& yBit (w * ys_vl T n (ys_nx T n p) + ys_vl T n p) = 0 := by
          unfold yBit
          rw [eb]
          exact zl_cmp0 h3
        obtain ⟨Q, b1, b2, b3⟩ := yc_ad2 (L := L) (σ := σ) (d := d) m7
        refine zw_ld (n := 1) (k := 0) (f := zp_isR) (pc' := 82) rfl rfl (zw_gt (zw_gt (zw_gt rfl rfl rfl) rfl rfl) rfl rfl) rfl rfl ?_
        refine zw_gR (q := 51) (pc' := 85) W2 rfl rfl rfl rfl (W2.2 51 0 _ rfl) rfl ?_
        refine zw_cn (pc' := 88) (zw_cv (q := 52) (Y := zm_55) W2.1 rfl rfl zm_55_t rfl rfl) rfl rfl rfl rfl rfl (b1) ?_
        refine zw_ld (n := 2) (k := 6) (f := zp_isI) (pc' := 90) rfl rfl zw_g1 rfl rfl ?_
        refine zw_ri rfl rfl ?_
        exact ⟨_, Q, rfl, zk_Fr_t c2 (zk_Fr_t a3 (zk_Fr_t d2 b3)), Or.inl ⟨ec, k6, m6, ⟨by omega, by omega⟩, hz, b2⟩⟩
      · have hz : taken &&& yBit (w * ys_vl T n (ys_nx T n p) + ys_vl T n p) ≠ 0 := by
          unfold yBit
          rw [eb]
          exact zl_cmp1 h3
        obtain ⟨Q, b1, b2, b3, b4⟩ := yc_ref (L := L) (σ := σ) (d := d + 2) (x := Int32.ofInt 4) m7
        refine zw_ld (n := 1) (k := 0) (f := zp_isR) (pc' := 74) rfl rfl (zw_gt (zw_gt (zw_gt rfl rfl rfl) rfl rfl) rfl rfl) rfl rfl ?_
        refine zw_s (pc' := 75) rfl rfl ?_
        refine zw_c (pc' := 78) (zw_cv (q := 51) (Y := zm_62) W2.1 rfl rfl zm_62_t rfl rfl) rfl rfl rfl rfl rfl (b1) ?_
        refine zw_s (pc' := 79) rfl rfl ?_
        refine zw_s (pc' := 80) rfl rfl ?_
        refine zw_ri rfl rfl ?_
        exact ⟨_, Q, rfl, zk_Fr_t c2 (zk_Fr_t a3 (zk_Fr_t d2 b3)), Or.inr ⟨rfl, 4, _, by decide, by decide, b4, b2, Or.inr (Or.inr ⟨rfl, rfl, k6, m6, hz⟩)⟩⟩
    · refine zw_s (pc' := 48) rfl rfl ?_
      refine zw_ri rfl rfl ?_
      rcases d3 with ⟨m1, m2, m3, m4, _⟩ | ⟨_, k, m1, m2, m3, m4, m5⟩
      · omega
      · exact ⟨_, H2, rfl, zk_Fr_t c2 (zk_Fr_t a3 d2), Or.inr ⟨rfl, k, _, m1, m2, m3, m5, Or.inr (Or.inl ⟨rfl, k6, m4⟩)⟩⟩
  · refine zw_s (pc' := 20) rfl rfl ?_
    refine zw_ri rfl rfl ?_
    rcases c3 with ⟨k1, k2, k3, k4, _⟩ | ⟨_, k, k1, k2, k3, k4, k5⟩
    · omega
    · exact ⟨_, H1, rfl, c2, Or.inr ⟨rfl, k, p, k1, k2, k3, k5, Or.inl ⟨rfl, k4⟩⟩⟩
end
section
/-! ===== the class reads goals, schools, rocks, exactly, with data ===== -/
def zm_69 : za_MI := (yX7_readRock, prog_9_method_13_code, 3, (some FieldType.boolean), 7, 0, 0, [], za_i69)
theorem zm_69_t : za_MT 69 = some zm_69 := rfl
def zm_80 : za_MI := (yX7_readSchool, prog_9_method_17_code, 4, (some FieldType.boolean), 7, 0, 0, [], za_i80)
theorem zm_80_t : za_MT 80 = some zm_80 := rfl
def zm_81 : za_MI := (yX7_readGoal, prog_9_method_18_code, 3, (some FieldType.boolean), 7, 0, 0, [], za_i81)
theorem zm_81_t : za_MT 81 = some zm_81 := rfl
/-! ===== the machine, a mode at a time ===== -/
theorem yN2_0 {T : Nat → Int} {n p : Nat} {lv : List Bool} {x a : Int} {y : Int32} {d : yLD} : yN2 T n (0, lv, x, a, y, d, p) = y0 T n d p := rfl
theorem yN2_1 {T : Nat → Int} {n p : Nat} {lv : List Bool} {x a : Int} {y : Int32} {d : yLD} : yN2 T n (1, lv, x, a, y, d, p) = yNu T n p 2 8 (fun v => (2, [], v, 0, 0, d, ys_nx T n p)) := rfl
theorem yN2_2 {T : Nat → Int} {n p : Nat} {lv : List Bool} {x a : Int} {y : Int32} {d : yLD} : yN2 T n (2, lv, x, a, y, d, p) = yNu T n p 2 8 (fun v => (50, [], 0, 0, 0, (yU (yU d.1 1 x) 2 v, d.2), ys_nx T n p)) := rfl
theorem yN2_3 {T : Nat → Int} {n p : Nat} {lv : List Bool} {x a : Int} {y : Int32} {d : yLD} : yN2 T n (3, lv, x, a, y, d, p) = yNu T n p 0 (d.1 1 - 1) (fun v => (4, [], v, 0, 0, d, ys_nx T n p)) := rfl
theorem yN2_4 {T : Nat → Int} {n p : Nat} {lv : List Bool} {x a : Int} {y : Int32} {d : yLD} : yN2 T n (4, lv, x, a, y, d, p) = (match yNu T n p 0 (d.1 2 - 1) (fun v => (50, [], d.1 1 * v + x, 0, 0, d, ys_nx T n p)) with
    | .inr r => .inr r
    | .inl t => if d.2.1 &&& yBit t.2.2.1 = 0 then .inl (50, [], 0, 0, 0, (yU d.1 3 (d.1 3 + 1), d.2.1 ||| yBit t.2.2.1, d.2.2), ys_nx T n p) else .inr (4, p)) := rfl
theorem yN2_5 {T : Nat → Int} {n p : Nat} {lv : List Bool} {x a : Int} {y : Int32} {d : yLD} : yN2 T n (5, lv, x, a, y, d, p) = yNu T n p 0 (d.1 1 - 1) (fun v => (6, [], v, 0, 0, d, ys_nx T n p)) := rfl
theorem yN2_6 {T : Nat → Int} {n p : Nat} {lv : List Bool} {x a : Int} {y : Int32} {d : yLD} : yN2 T n (6, lv, x, a, y, d, p) = (match yNu T n p 0 (d.1 2 - 1) (fun v => (7, [], d.1 1 * v + x, 0, 0, d, ys_nx T n p)) with
    | .inr r => .inr r
    | .inl t => if d.2.2 t.2.2.1.toNat then .inr (4, p) else .inl t) := rfl
theorem yN2_7 {T : Nat → Int} {n p : Nat} {lv : List Bool} {x a : Int} {y : Int32} {d : yLD} : yN2 T n (7, lv, x, a, y, d, p) = (if ys_kd T n p = 3 ∧ ys_vl T n p < 4 then .inl (50, [], 0, 0, 0, yWcu d x (ys_vl T n p), ys_nx T n p) else .inr (1, p)) := rfl
theorem yN2_8 {T : Nat → Int} {n p : Nat} {lv : List Bool} {x a : Int} {y : Int32} {d : yLD} : yN2 T n (8, lv, x, a, y, d, p) = yNu T n p 0 (d.1 1 - 1) (fun v => (9, [], v, 0, 0, d, ys_nx T n p)) := rfl
theorem yN2_9 {T : Nat → Int} {n p : Nat} {lv : List Bool} {x a : Int} {y : Int32} {d : yLD} : yN2 T n (9, lv, x, a, y, d, p) = yNu T n p 0 (d.1 2 - 1) (fun v => (10, [], d.1 1 * v + x, 0, 0, d, ys_nx T n p)) := rfl
theorem yN2_10 {T : Nat → Int} {n p : Nat} {lv : List Bool} {x a : Int} {y : Int32} {d : yLD} : yN2 T n (10, lv, x, a, y, d, p) = yNu T n p 0 99 (fun v => (11, [], 0, 0, 0, yWsl d x v, ys_nx T n p)) := rfl
theorem yN2_11 {T : Nat → Int} {n p : Nat} {lv : List Bool} {x a : Int} {y : Int32} {d : yLD} : yN2 T n (11, lv, x, a, y, d, p) = (if ys_kd T n p = 3 ∧ ys_vl T n p < 4 then (if a = 8 then .inr (2, p) else .inl (12, [], ys_vl T n p, a, 0, d, ys_nx T n p))
    else .inl (50, [], 0, 0, 0, (yU d.1 4 (d.1 4 + 1), d.2), p)) := rfl
theorem yN2_12 {T : Nat → Int} {n p : Nat} {lv : List Bool} {x a : Int} {y : Int32} {d : yLD} : yN2 T n (12, lv, x, a, y, d, p) = yNu T n p 1 9 (fun v => (11, [], 0, a + 1, 0, yWmk d a x v, ys_nx T n p)) := rfl
theorem yN2_13 {T : Nat → Int} {n p : Nat} {lv : List Bool} {x a : Int} {y : Int32} {d : yLD} : yN2 T n (13, lv, x, a, y, d, p) = (if x < 3 then yNu T n p 0 12 (fun v => (13, [], x + 1, a - v, 0, yW d (500 + (4 * (d.1 5).toNat + x.toNat)) v, ys_nx T n p))
    else yNu T n p a a (fun v => (50, [], 0, 0, 0, yWha d v, ys_nx T n p))) := rfl
theorem yN2_15 {T : Nat → Int} {n p : Nat} {lv : List Bool} {x a : Int} {y : Int32} {d : yLD} : yN2 T n (15, lv, x, a, y, d, p) = yNu T n p 0 (d.1 1 - 1) (fun v => (16, [], v, 0, 0, d, ys_nx T n p)) := rfl
theorem yN2_16 {T : Nat → Int} {n p : Nat} {lv : List Bool} {x a : Int} {y : Int32} {d : yLD} : yN2 T n (16, lv, x, a, y, d, p) = yNu T n p 0 (d.1 2 - 1) (fun v => (17, [], d.1 1 * v + x, 0, 0, d, ys_nx T n p)) := rfl
theorem yN2_17 {T : Nat → Int} {n p : Nat} {lv : List Bool} {x a : Int} {y : Int32} {d : yLD} : yN2 T n (17, lv, x, a, y, d, p) = yNu T n p 0 9 (fun v => (50, [], 0, 0, 0, yW (yW (yU d.1 8 1, d.2) 20 x) 21 v, ys_nx T n p)) := rfl
theorem yN2_18 {T : Nat → Int} {n p : Nat} {lv : List Bool} {x a : Int} {y : Int32} {d : yLD} : yN2 T n (18, lv, x, a, y, d, p) = yNu T n p 0 7 (fun v => (50, [], 0, 0, 0, yW (yU d.1 9 1, d.2) 22 v, ys_nx T n p)) := rfl
theorem yN2_19 {T : Nat → Int} {n p : Nat} {lv : List Bool} {x a : Int} {y : Int32} {d : yLD} : yN2 T n (19, lv, x, a, y, d, p) = yNu T n p 0 (d.1 1 - 1) (fun v => (20, [], v, 0, 0, d, ys_nx T n p)) := rfl
theorem yN2_20 {T : Nat → Int} {n p : Nat} {lv : List Bool} {x a : Int} {y : Int32} {d : yLD} : yN2 T n (20, lv, x, a, y, d, p) = yNu T n p 0 (d.1 2 - 1) (fun v => (21, [], d.1 1 * v + x, 0, 0, d, ys_nx T n p)) := rfl
theorem yN2_21 {T : Nat → Int} {n p : Nat} {lv : List Bool} {x a : Int} {y : Int32} {d : yLD} : yN2 T n (21, lv, x, a, y, d, p) = yNu T n p 0 99 (fun v => (22, [], x, v, 0, d, ys_nx T n p)) := rfl
theorem yN2_22 {T : Nat → Int} {n p : Nat} {lv : List Bool} {x a : Int} {y : Int32} {d : yLD} : yN2 T n (22, lv, x, a, y, d, p) = (if ys_kd T n p = 2 then
      (if 9999 < ys_vl T n p then .inr (2, p)
      else if d.1 4 ≤ ys_vl T n p then .inr (3, p)
      else if y >>> (Int32.ofInt (ys_vl T n p) &&& 31) &&& Int32.ofInt 1 ≠ Int32.ofInt 0 then .inr (4, p)
      else .inl (22, [], x, a, y ||| Int32.ofInt 1 <<< (Int32.ofInt (ys_vl T n p) &&& 31), d, ys_nx T n p))
    else .inl (50, [], 0, 0, 0, yWpi d x a y, p)) := rfl
theorem yN2_40 {T : Nat → Int} {n p : Nat} {lv : List Bool} {x a : Int} {y : Int32} {d : yLD} : yN2 T n (40, lv, x, a, y, d, p) = (if ys_kd T n p = 3 ∧ ys_vl T n p = 11 then .inl (41, [], 0, 0, 0, yDG d (ys_nx T n p), ys_nx T n p) else .inr (1, p)) := rfl
theorem yN2_50 {T : Nat → Int} {n p : Nat} {lv : List Bool} {x a : Int} {y : Int32} {d : yLD} : yN2 T n (50, lv, x, a, y, d, p) = (if ys_kd T n p = 4 ∧ ys_vl T n p = 59 then .inl (0, [], 0, 0, 0, (yU d.1 0 0, d.2), ys_nx T n p) else .inr (1, p)) := rfl
theorem yN2_41 {T : Nat → Int} {n p : Nat} {lv : List Bool} {x a : Int} {y : Int32} {d : yLD} : yN2 T n (41, lv, x, a, y, d, p) = (if ys_kd T n p = 3 ∧ ys_vl T n p < 4 then .inl (50, [], 0, 0, 0, yW (yU d.1 7 (d.1 7 + 1), d.2) (700 + (d.1 7).toNat) (ys_vl T n p), ys_nx T n p) else .inr (1, p)) := rfl

set_option maxRecDepth 8000 in
theorem zJc_J {H : zp_H} {p j : Nat} {x : Int64} (hf : zB_fz p j = false) (h : zJc H) : zJc (zw_J H p j x) := zJc_c (H := H) (fun q k hk => ⟨rfl, zp_u_ne (fun h8 => by
  rw [← h8.1, ← h8.2, hk] at hf
  cases hf)⟩) h
theorem zB_puta {H : zp_H} (h : zk_Bs zB0 zg zJc H) {p j : Nat} {x : Int32} {t n : Nat} (hp : zB_sh[p]? = some (.inr (t, n))) (hr : ∀ r, (zB_al zB_ar p).2[j % (zB_al zB_ar p).1]? = some r → r.1 ≤ x.toInt ∧ x.toInt ≤ r.2) (hJ : zJc (zw_I H p j x)) (hf : ∀ k r, zB_l2 zB_fr p k = some r → False) : zk_Bs zB0 zg zJc (zw_I H p j x) := by
  refine ⟨h.1, h.2.1, fun q hq => absurd hq List.not_mem_nil, fun q hq => absurd hq List.not_mem_nil, fun p' j' r hr' => Or.inr ?_, fun p' t' n' i r hp' hi hr' => ?_, fun c hc => absurd hc List.not_mem_nil, hJ⟩
  · have h9 := zB_fr1 h hr'
    have e0 : zk_fv zg (zw_I H p j x) p' j' = ((zw_I H p j x).2.1 p' j').toInt := by
      unfold zk_fv
      rw [if_neg]
      rintro ⟨rfl, rfl⟩
      cases hr'
    rw [e0]
    have e : (zw_I H p j x).2.1 p' j' = H.2.1 p' j' := zp_u_ne (fun h8 => by
      rw [h8.1] at hr'
      exact hf _ _ hr')
    rw [e]
    exact h9
  · by_cases h2 : p' = p ∧ i = j
    · obtain ⟨e1, e2⟩ := h2
      subst e1 e2
      rw [zw_eq]
      exact hr r hr'
    · have e : (zw_I H p j x).2.1 p' i = H.2.1 p' i := zp_u_ne h2
      rw [e]
      exact h.2.2.2.2.2.1 p' t' n' i r hp' hi hr'
def yBC (u : Int64) : Int32 :=
  let a := u - (za_ushr0 u (Int32.ofInt 1) &&& 6148914691236517205)
  let b := (a &&& 3689348814741910323) + (za_ushr0 a (Int32.ofInt 2) &&& 3689348814741910323)
  let c := (b + za_ushr0 b (Int32.ofInt 4)) &&& 1085102592571150095
  let e := c + za_ushr0 c (Int32.ofInt 8)
  let f := e + za_ushr0 e (Int32.ofInt 16)
  let g := f + za_ushr0 f (Int32.ofInt 32)
  g.toInt32 &&& Int32.ofInt 127
/-- one bit more (shown further on) -/
def yBCu : Prop := ∀ (r : Int64) (c : Nat), c < 64 → r &&& yBit c = 0 → (yBC (r ||| yBit c)).toInt = (yBC r).toInt + 1
def yCur (wp : Nat) (H : zp_H) : Int64 := H.2.2.1 (wp + 3) 0 ||| H.2.2.1 (wp + 3) 1 ||| H.2.2.1 (wp + 3) 2 ||| H.2.2.1 (wp + 3) 3
/-- the class holds what was told -/
def yDc (wp cp : Nat) (d : yLD) (H : zp_H) : Prop := (H.2.1 wp 0).toInt = d.1 1 ∧ (H.2.1 wp 1).toInt = d.1 2 ∧ (H.2.1 cp 0).toInt = d.1 4 ∧ (H.2.1 wp 7).toInt = d.1 5 ∧ (H.2.1 wp 12).toInt = d.1 6 ∧ (H.2.1 wp 16).toInt = d.1 7 ∧ (H.2.1 51 2).toInt = d.1 8 ∧ (H.2.1 51 3).toInt = d.1 9 ∧ H.2.2.1 wp 3 = d.2.1 ∧ (∀ c : Nat, c < 64 → (yCur wp H &&& yBit c = 0 ↔ d.2.2 c = false)) ∧ (yBC d.2.1).toInt = d.1 3
theorem yDc_c {wp cp : Nat} {d : yLD} {H H1 : zp_H} (e : ∀ q ∈ [(wp, 0), (wp, 1), (cp, 0), (wp, 7), (wp, 12), (wp, 16), (51, 2), (51, 3)], H1.2.1 q.1 q.2 = H.2.1 q.1 q.2) (e2 : H1.2.2.1 wp 3 = H.2.2.1 wp 3) (e3 : H1.2.2.1 (wp + 3) = H.2.2.1 (wp + 3)) (h : yDc wp cp d H) : yDc wp cp d H1 := by
  have k : ∀ q ∈ [(wp, 0), (wp, 1), (cp, 0), (wp, 7), (wp, 12), (wp, 16), (51, 2), (51, 3)], (H1.2.1 q.1 q.2).toInt = (H.2.1 q.1 q.2).toInt := fun q hq => congrArg Int32.toInt (e q hq)
  obtain ⟨h1, h2, h3, h4, h5, h6, h7, h8, h9, h10⟩ := h
  have hc : yCur wp H1 = yCur wp H := by
    unfold yCur
    rw [e3]
  refine ⟨(k (wp, 0) List.mem_cons_self).trans h1, (k (wp, 1) (List.mem_cons_of_mem _ List.mem_cons_self)).trans h2, (k (cp, 0) (List.mem_cons_of_mem _ (List.mem_cons_of_mem _ List.mem_cons_self))).trans h3, (k (wp, 7) (by simp)).trans h4, (k (wp, 12) (by simp)).trans h5, (k (wp, 16) (by simp)).trans h6, (k (51, 2) (by simp)).trans h7, (k (51, 3) (by simp)).trans h8, e2.trans h9, ⟨fun c hlt => by rw [hc]; exact h10.1 c hlt, h10.2⟩⟩
theorem yDc_F {wp cp : Nat} {d : yLD} {mods : List (Nat × Nat)} {am : List Nat} {H H1 : zp_H} (hF : zk_Fr zg mods am H H1) (hm : [(wp, 0), (wp, 1), (cp, 0), (wp, 7), (wp, 12), (wp, 16), (51, 2), (51, 3), (wp, 3), (wp + 3, 0), (wp + 3, 1), (wp + 3, 2), (wp + 3, 3)].all (fun q => ((zk_inm mods q.1 q.2).or (zk_ina am q.1)).not.and (Nat.beq q.1 72).not) = true) (h : yDc wp cp d H) : yDc wp cp d H1 := by
  have k0 : ∀ q ∈ [(wp, 0), (wp, 1), (cp, 0), (wp, 7), (wp, 12), (wp, 16), (51, 2), (51, 3), (wp, 3), (wp + 3, 0), (wp + 3, 1), (wp + 3, 2), (wp + 3, 3)], H1.2.1 q.1 q.2 = H.2.1 q.1 q.2 ∧ H1.2.2.1 q.1 q.2 = H.2.2.1 q.1 q.2 := fun q hq => by
    have := List.all_eq_true.mp hm q hq
    obtain ⟨h1, h2, h3⟩ : zk_inm mods q.1 q.2 = false ∧ zk_ina am q.1 = false ∧ Nat.beq q.1 72 = false := by
      cases a : zk_inm mods q.1 q.2 <;> cases b : zk_ina am q.1 <;> cases c : Nat.beq q.1 72 <;> rw [a, b, c] at this <;> first | exact ⟨rfl, rfl, rfl⟩ | exact absurd this (by decide)
    have e := hF.2 q.1 q.2 h1 h2
    refine ⟨?_, e.2⟩
    have e1 := e.1
    unfold zk_fv at e1
    have hne : ¬ (q.1 = 72 ∧ q.2 = 100) := by
      rintro ⟨e5, _⟩
      rw [e5] at h3
      cases h3
    rw [if_neg hne, if_neg hne] at e1
    exact Int32.toInt_inj.mp e1
  obtain ⟨h1, h2, h3, h4, h5, h6, h7, h8, h9, h10⟩ := h
  have hc : yCur wp H1 = yCur wp H := by
    unfold yCur
    rw [(k0 (wp + 3, 0) (by simp)).2, (k0 (wp + 3, 1) (by simp)).2, (k0 (wp + 3, 2) (by simp)).2, (k0 (wp + 3, 3) (by simp)).2]
  refine ⟨?_, ?_, ?_, ?_, ?_, ?_, ?_, ?_, ?_, ⟨fun c hlt => by rw [hc]; exact h10.1 c hlt, h10.2⟩⟩
  · rw [(k0 (wp, 0) (by simp)).1]; exact h1
  · rw [(k0 (wp, 1) (by simp)).1]; exact h2
  · rw [(k0 (cp, 0) (by simp)).1]; exact h3
  · rw [(k0 (wp, 7) (by simp)).1]; exact h4
  · rw [(k0 (wp, 12) (by simp)).1]; exact h5
  · rw [(k0 (wp, 16) (by simp)).1]; exact h6
  · rw [(k0 (51, 2) (by simp)).1]; exact h7
  · rw [(k0 (51, 3) (by simp)).1]; exact h8
  · rw [(k0 (wp, 3) (by simp)).2]; exact h9
/-- where the class keeps a datum -/
def yLc (wp cp i : Nat) : Nat × Nat := if i < 23 then (wp, i - 11) else if i < 100 then (1000 + i, 0) else if i < 200 then (wp + 2, i - 100) else if i < 210 then (cp + 1, i - 200) else if i < 220 then (cp + 2, i - 210) else if i < 230 then (cp + 3, i - 220) else if i < 300 then (cp + 4, i - 230) else if i < 400 then (cp + 5, i - 300) else if i < 500 then (cp + 6, i - 400) else if i < 600 then (wp + 4, i - 500) else if i < 610 then (wp + 5, i - 600) else if i < 620 then (wp + 6, i - 610) else if i < 700 then (wp + 7, i - 620) else (wp + 8, i - 700)
abbrev yWC (wp cp : Nat) : Prop := (wp = 2 ∨ wp = 22) ∧ (cp = 13 ∨ cp = 33)
theorem yLc_p {wp cp i : Nat} (h20 : 20 ≤ i) : (i < 23 ∧ yLc wp cp i = (wp, i - 11)) ∨ (23 ≤ i ∧ i < 100 ∧ yLc wp cp i = (1000 + i, 0)) ∨ (100 ≤ i ∧ i < 200 ∧ yLc wp cp i = (wp + 2, i - 100)) ∨ (200 ≤ i ∧ i < 210 ∧ yLc wp cp i = (cp + 1, i - 200)) ∨ (210 ≤ i ∧ i < 220 ∧ yLc wp cp i = (cp + 2, i - 210)) ∨ (220 ≤ i ∧ i < 230 ∧ yLc wp cp i = (cp + 3, i - 220)) ∨ (230 ≤ i ∧ i < 300 ∧ yLc wp cp i = (cp + 4, i - 230)) ∨ (300 ≤ i ∧ i < 400 ∧ yLc wp cp i = (cp + 5, i - 300)) ∨ (400 ≤ i ∧ i < 500 ∧ yLc wp cp i = (cp + 6, i - 400)) ∨ (500 ≤ i ∧ i < 600 ∧ yLc wp cp i = (wp + 4, i - 500)) ∨ (600 ≤ i ∧ i < 610 ∧ yLc wp cp i = (wp + 5, i - 600)) ∨ (610 ≤ i ∧ i < 620 ∧ yLc wp cp i = (wp + 6, i - 610)) ∨ (620 ≤ i ∧ i < 700 ∧ yLc wp cp i = (wp + 7, i - 620)) ∨ (700 ≤ i ∧ yLc wp cp i = (wp + 8, i - 700)) := by
  by_cases h23 : i < 23
  · exact Or.inl ⟨h23, by unfold yLc; rw [if_pos h23]⟩
  by_cases h100 : i < 100
  · exact Or.inr (Or.inl ⟨by omega, h100, by unfold yLc; rw [if_neg h23, if_pos h100]⟩)
  by_cases h200 : i < 200
  · exact Or.inr (Or.inr (Or.inl ⟨by omega, h200, by unfold yLc; rw [if_neg h23, if_neg h100, if_pos h200]⟩))
  by_cases h210 : i < 210
  · exact Or.inr (Or.inr (Or.inr (Or.inl ⟨by omega, h210, by unfold yLc; rw [if_neg h23, if_neg h100, if_neg h200, if_pos h210]⟩)))
  by_cases h220 : i < 220
  · exact Or.inr (Or.inr (Or.inr (Or.inr (Or.inl ⟨by omega, h220, by unfold yLc; rw [if_neg h23, if_neg h100, if_neg h200, if_neg h210, if_pos h220]⟩))))
  by_cases h230 : i < 230
  · exact Or.inr (Or.inr (Or.inr (Or.inr (Or.inr (Or.inl ⟨by omega, h230, by unfold yLc; rw [if_neg h23, if_neg h100, if_neg h200, if_neg h210, if_neg h220, if_pos h230]⟩)))))
  by_cases h300 : i < 300
  · exact Or.inr (Or.inr (Or.inr (Or.inr (Or.inr (Or.inr (Or.inl ⟨by omega, h300, by unfold yLc; rw [if_neg h23, if_neg h100, if_neg h200, if_neg h210, if_neg h220, if_neg h230, if_pos h300]⟩))))))
  by_cases h400 : i < 400
  · exact Or.inr (Or.inr (Or.inr (Or.inr (Or.inr (Or.inr (Or.inr (Or.inl ⟨by omega, h400, by unfold yLc; rw [if_neg h23, if_neg h100, if_neg h200, if_neg h210, if_neg h220, if_neg h230, if_neg h300, if_pos h400]⟩)))))))
  by_cases h500 : i < 500
  · exact Or.inr (Or.inr (Or.inr (Or.inr (Or.inr (Or.inr (Or.inr (Or.inr (Or.inl ⟨by omega, h500, by unfold yLc; rw [if_neg h23, if_neg h100, if_neg h200, if_neg h210, if_neg h220, if_neg h230, if_neg h300, if_neg h400, if_pos h500]⟩))))))))
  by_cases h600 : i < 600
  · exact Or.inr (Or.inr (Or.inr (Or.inr (Or.inr (Or.inr (Or.inr (Or.inr (Or.inr (Or.inl ⟨by omega, h600, by unfold yLc; rw [if_neg h23, if_neg h100, if_neg h200, if_neg h210, if_neg h220, if_neg h230, if_neg h300, if_neg h400, if_neg h500, if_pos h600]⟩)))))))))
  by_cases h610 : i < 610
  · exact Or.inr (Or.inr (Or.inr (Or.inr (Or.inr (Or.inr (Or.inr (Or.inr (Or.inr (Or.inr (Or.inl ⟨by omega, h610, by unfold yLc; rw [if_neg h23, if_neg h100, if_neg h200, if_neg h210, if_neg h220, if_neg h230, if_neg h300, if_neg h400, if_neg h500, if_neg h600, if_pos h610]⟩))))))))))
  by_cases h620 : i < 620
  · exact Or.inr (Or.inr (Or.inr (Or.inr (Or.inr (Or.inr (Or.inr (Or.inr (Or.inr (Or.inr (Or.inr (Or.inl ⟨by omega, h620, by unfold yLc; rw [if_neg h23, if_neg h100, if_neg h200, if_neg h210, if_neg h220, if_neg h230, if_neg h300, if_neg h400, if_neg h500, if_neg h600, if_neg h610, if_pos h620]⟩)))))))))))
  by_cases h700 : i < 700
  · exact Or.inr (Or.inr (Or.inr (Or.inr (Or.inr (Or.inr (Or.inr (Or.inr (Or.inr (Or.inr (Or.inr (Or.inr (Or.inl ⟨by omega, h700, by unfold yLc; rw [if_neg h23, if_neg h100, if_neg h200, if_neg h210, if_neg h220, if_neg h230, if_neg h300, if_neg h400, if_neg h500, if_neg h600, if_neg h610, if_neg h620, if_pos h700]⟩))))))))))))
  exact Or.inr (Or.inr (Or.inr (Or.inr (Or.inr (Or.inr (Or.inr (Or.inr (Or.inr (Or.inr (Or.inr (Or.inr (Or.inr (⟨by omega, by unfold yLc; rw [if_neg h23, if_neg h100, if_neg h200, if_neg h210, if_neg h220, if_neg h230, if_neg h300, if_neg h400, if_neg h500, if_neg h600, if_neg h610, if_neg h620, if_neg h700]⟩)))))))))))))
theorem yLc_inj {wp cp : Nat} (h : yWC wp cp) : yInj (yLc wp cp) := by
  intro i j hi hj hl
  obtain ⟨hw, hc⟩ := h
  rcases yLc_p (wp := wp) (cp := cp) hi with ⟨a1, a2⟩ | ⟨a0, a1, a2⟩ | ⟨a0, a1, a2⟩ | ⟨a0, a1, a2⟩ | ⟨a0, a1, a2⟩ | ⟨a0, a1, a2⟩ | ⟨a0, a1, a2⟩ | ⟨a0, a1, a2⟩ | ⟨a0, a1, a2⟩ | ⟨a0, a1, a2⟩ | ⟨a0, a1, a2⟩ | ⟨a0, a1, a2⟩ | ⟨a0, a1, a2⟩ | ⟨a1, a2⟩ <;>
  rcases yLc_p (wp := wp) (cp := cp) hj with ⟨b1, b2⟩ | ⟨b0, b1, b2⟩ | ⟨b0, b1, b2⟩ | ⟨b0, b1, b2⟩ | ⟨b0, b1, b2⟩ | ⟨b0, b1, b2⟩ | ⟨b0, b1, b2⟩ | ⟨b0, b1, b2⟩ | ⟨b0, b1, b2⟩ | ⟨b0, b1, b2⟩ | ⟨b0, b1, b2⟩ | ⟨b0, b1, b2⟩ | ⟨b0, b1, b2⟩ | ⟨b1, b2⟩ <;>
  (rw [a2, b2] at hl
   have e1 := congrArg Prod.fst hl
   have e2 := congrArg Prod.snd hl
   dsimp only at e1 e2
   omega)
/-- no datum of the class stands there -/
abbrev yNl (wp cp p k : Nat) : Prop := (¬ (p = wp ∧ 9 ≤ k ∧ k ≤ 11)) ∧ p < 1000 ∧ p ≠ wp + 2 ∧ p ≠ wp + 4 ∧ p ≠ wp + 5 ∧ p ≠ wp + 6 ∧ p ≠ wp + 7 ∧ p ≠ wp + 8 ∧ p ≠ cp + 1 ∧ p ≠ cp + 2 ∧ p ≠ cp + 3 ∧ p ≠ cp + 4 ∧ p ≠ cp + 5 ∧ p ≠ cp + 6
theorem yLc_no {wp cp p k i : Nat} (h : yNl wp cp p k) (hi : 20 ≤ i) : ¬ ((yLc wp cp i).1 = p ∧ (yLc wp cp i).2 = k) := by
  obtain ⟨n0, n1, n2, n3, n4, n5, n6, n7, n8, n9, n10, n11, n12, n13⟩ := h
  rcases yLc_p (wp := wp) (cp := cp) hi with ⟨a1, a2⟩ | ⟨a0, a1, a2⟩ | ⟨a0, a1, a2⟩ | ⟨a0, a1, a2⟩ | ⟨a0, a1, a2⟩ | ⟨a0, a1, a2⟩ | ⟨a0, a1, a2⟩ | ⟨a0, a1, a2⟩ | ⟨a0, a1, a2⟩ | ⟨a0, a1, a2⟩ | ⟨a0, a1, a2⟩ | ⟨a0, a1, a2⟩ | ⟨a0, a1, a2⟩ | ⟨a1, a2⟩ <;> rw [a2] <;> dsimp only <;> omega
theorem yXd_o {wp cp p k : Nat} {e : List Nat} {d : yLD} {H : zp_H} {x : Int32} (h : yNl wp cp p k) (hX : yXd (yLc wp cp) e d H) : yXd (yLc wp cp) e d (zw_I H p k x) := yXd_c (H := H) (fun i hi => zp_u_ne (fun h9 => yLc_no h hi h9)) hX
/-- a frame that leaves the data alone -/
def yNf (wp cp : Nat) (mods : List (Nat × Nat)) (am : List Nat) : Bool := (mods.all (fun q => (decide (¬ (q.1 = wp ∧ 9 ≤ q.2 ∧ q.2 ≤ 11))).and ((decide (q.1 < 1000)).and (([wp + 2, wp + 4, wp + 5, wp + 6, wp + 7, wp + 8, cp + 1, cp + 2, cp + 3, cp + 4, cp + 5, cp + 6].any (Nat.beq q.1)).not)))).and (am.all (fun q => (decide (q < 1000)).and (([wp, wp + 2, wp + 4, wp + 5, wp + 6, wp + 7, wp + 8, cp + 1, cp + 2, cp + 3, cp + 4, cp + 5, cp + 6].any (Nat.beq q)).not)))
theorem yXd_F {wp cp : Nat} {e : List Nat} {d : yLD} {mods : List (Nat × Nat)} {am : List Nat} {H H1 : zp_H} (hw : yWC wp cp) (hF : zk_Fr zg mods am H H1) (hc : yNf wp cp mods am = true) (hX : yXd (yLc wp cp) e d H) : yXd (yLc wp cp) e d H1 := by
  obtain ⟨c1, c2⟩ := Bool.and_eq_true_iff.mp hc
  refine yXd_c (H := H) (fun i hi => ?_) hX
  have m1 : ∀ q ∈ mods, ¬ ((yLc wp cp i).1 = q.1 ∧ (yLc wp cp i).2 = q.2) := fun q hq h9 => by
    obtain ⟨d1, d2⟩ := Bool.and_eq_true_iff.mp (List.all_eq_true.mp c1 q hq)
    obtain ⟨d2, d3⟩ := Bool.and_eq_true_iff.mp d2
    have d1 := of_decide_eq_true d1
    have d2 := of_decide_eq_true d2
    refine yLc_no (p := q.1) (k := q.2) (wp := wp) (cp := cp) ⟨d1, d2, ?_⟩ hi h9
    refine ⟨?_, ?_, ?_, ?_, ?_, ?_, ?_, ?_, ?_, ?_, ?_, ?_⟩ <;> (intro h8; rw [h8] at d3; simp [Nat.beq_eq] at d3)
  have m2 : ∀ q ∈ am, (yLc wp cp i).1 ≠ q := fun q hq h9 => by
    obtain ⟨d2, d3⟩ := Bool.and_eq_true_iff.mp (List.all_eq_true.mp c2 q hq)
    have d2 := of_decide_eq_true d2
    rcases yLc_p (wp := wp) (cp := cp) hi with ⟨a1, a2⟩ | ⟨a0, a1, a2⟩ | ⟨a0, a1, a2⟩ | ⟨a0, a1, a2⟩ | ⟨a0, a1, a2⟩ | ⟨a0, a1, a2⟩ | ⟨a0, a1, a2⟩ | ⟨a0, a1, a2⟩ | ⟨a0, a1, a2⟩ | ⟨a0, a1, a2⟩ | ⟨a0, a1, a2⟩ | ⟨a0, a1, a2⟩ | ⟨a0, a1, a2⟩ | ⟨a1, a2⟩ <;> rw [a2] at h9 <;> dsimp only at h9 <;> first | omega | (rw [← h9] at d3; simp [Nat.beq_eq] at d3)
  have n72 : ¬ ((yLc wp cp i).1 = 72 ∧ (yLc wp cp i).2 = 100) := fun h9 => yLc_no (p := 72) (k := 100) (wp := wp) (cp := cp) (by
    obtain ⟨hw, hc⟩ := hw
    unfold yNl
    omega) hi h9
  refine (zI_in hF ?_ ?_ n72).1
  · cases hm : zk_inm mods (yLc wp cp i).1 (yLc wp cp i).2 with
    | false => rfl
    | true =>
      obtain ⟨q, q1, q2⟩ := List.any_eq_true.mp hm
      obtain ⟨q2, q3⟩ := Bool.and_eq_true_iff.mp q2
      exact absurd ⟨(za_beq q2).symm, (za_beq q3).symm⟩ (m1 q q1)
  · cases hm : zk_ina am (yLc wp cp i).1 with
    | false => rfl
    | true =>
      obtain ⟨q, q1, q2⟩ := List.any_eq_true.mp hm
      exact absurd (za_beq q2).symm (m2 q q1)
theorem yDc_W {wp cp i : Nat} {v : Int} {d : yLD} {H : zp_H} (hi : 20 ≤ i) (h : yDc wp cp d H) : yDc wp cp (yW d i v) H := by
  have k : ∀ j, j < 20 → (yW d i v).1 j = d.1 j := fun j hj => yW_n (by omega)
  obtain ⟨h1, h2, h3, h4, h5, h6, h7, h8, h9, h10, h11⟩ := h
  refine ⟨h1.trans (k 1 (by decide)).symm, h2.trans (k 2 (by decide)).symm, h3.trans (k 4 (by decide)).symm, h4.trans (k 5 (by decide)).symm, h5.trans (k 6 (by decide)).symm, h6.trans (k 7 (by decide)).symm, h7.trans (k 8 (by decide)).symm, h8.trans (k 9 (by decide)).symm, h9, fun c hc => ?_, h11.trans (k 3 (by decide)).symm⟩
  rw [yW_fn (by omega)]
  exact h10 c hc
/-- the class's rows: its code is as long as they are, no longer than the place behind the last -/
def xQc (T : Nat → Int) (n wp : Nat) (d : yLD) (H : zp_H) : Prop := (H.2.1 53 1).toInt = xBg wp H (d.1 7).toNat ∧ (H.2.1 53 1).toInt ≤ d.1 15 ∧ xRs (xCr T n wp H) (d.1 7).toNat (d.1 14)
theorem xQc_e {T : Nat → Int} {n wp : Nat} {d : yLD} {H H1 : zp_H} (e53 : H1.2.1 53 1 = H.2.1 53 1) (e9 : ∀ k, H1.2.1 (wp + 9) k = H.2.1 (wp + 9) k) (e10 : ∀ k, H1.2.1 (wp + 10) k = H.2.1 (wp + 10) k) (h : xQc T n wp d H) : xQc T n wp d H1 := by
  obtain ⟨h1, h2, h3⟩ := h
  refine ⟨by rw [e53, xBg_e (fun k _ => e9 k)]; exact h1, by rw [e53]; exact h2, xRs_m (fun r p _ h4 => ?_) h3⟩
  obtain ⟨C, a1, a2, a3, a4⟩ := h4
  exact ⟨C, a1, a2, xCl_e (fun k _ => e9 k) (fun k _ => e10 k) a3, by rw [e9, e53]; exact a4⟩
theorem xQc_d {T : Nat → Int} {n wp : Nat} {d d' : yLD} {H : zp_H} (e7 : d'.1 7 = d.1 7) (e14 : d'.1 14 = d.1 14) (e15 : d'.1 15 = d.1 15) (h : xQc T n wp d H) : xQc T n wp d' H := by
  unfold xQc
  rw [e7, e14, e15]
  exact h
/-- a rule more -/
theorem xQc_rule {T : Nat → Int} {n wp p q q0 R j : Nat} {d d' : yLD} {H H1 H2 H3 : zp_H} {C : List xIt} (h : xQc T n wp d H) (h15 : d.1 15 ≤ (p : Int)) (hp : p < 1024) (r53 : 0 ≤ (H.2.1 53 1).toInt) (hR : d.1 7 = (R : Int)) (hj : j = R) (r7 : d'.1 7 = d.1 7 + 1) (r14 : d'.1 14 = d.1 14 * 1024 + (p : Int)) (r15 : d'.1 15 = (q : Int)) (C1 : yTA T n (2, [false], p) [] [] (q0, C)) (C2 : xOp 37 C) (C3 : (C.length : Int) + p ≤ q) (C4 : xGr (wp + 10) C H H1) (f9 : ∀ k, H1.2.1 (wp + 9) k = H.2.1 (wp + 9) k) (e53 : H2.2.1 53 1 = H1.2.1 53 1) (e9 : ∀ k, H2.2.1 (wp + 9) k = H1.2.1 (wp + 9) k) (e10 : ∀ k, H2.2.1 (wp + 10) k = H1.2.1 (wp + 10) k) (g53 : H3.2.1 53 1 = H2.2.1 53 1) (g9 : ∀ k, k ≠ j → H3.2.1 (wp + 9) k = H2.2.1 (wp + 9) k) (gR : H3.2.1 (wp + 9) j = H2.2.1 53 1) (g10 : ∀ k, H3.2.1 (wp + 10) k = H2.2.1 (wp + 10) k) : xQc T n wp d' H3 := by
  obtain ⟨q1, q2, q3⟩ := h
  subst hj
  have eR : (d.1 7).toNat = j := by omega
  have eR' : (d'.1 7).toNat = j + 1 := by omega
  rw [eR] at q1 q3
  have k9 : ∀ k, k ≠ j → H3.2.1 (wp + 9) k = H.2.1 (wp + 9) k := fun k hk => (g9 k hk).trans ((e9 k).trans (f9 k))
  have z53 : (H3.2.1 53 1).toInt = (H.2.1 53 1).toInt + (C.length : Int) := by
    rw [g53, e53]
    exact C4.1
  have sR : xBg wp H3 j = (H.2.1 53 1).toInt := by
    rw [xBg_e (fun k hk => k9 k (by omega))]
    exact q1.symm
  unfold xQc
  rw [eR', r14, r15, xBg_s, gR, ← g53]
  refine ⟨rfl, by omega, xRs_s hp ?_ (xRs_m (fun r p' hr h4 => ?_) q3)⟩
  · refine ⟨C, ⟨q0, C1⟩, C2, ⟨by rw [sR]; exact r53, by rw [gR, ← g53, sR, z53], fun i o ho => ?_⟩, by rw [gR, ← g53]; exact Int.le_refl _⟩
    rw [sR, g10, e10]
    exact C4.2.2 i o ho
  · obtain ⟨C', a1, a2, a3, a4⟩ := h4
    have e9r : H3.2.1 (wp + 9) r = H.2.1 (wp + 9) r := k9 r (by omega)
    refine ⟨C', a1, a2, xCl_e (fun k hk => k9 k (by omega)) (fun k hk => (g10 k).trans ((e10 k).trans (C4.2.1 k (by omega)))) a3, ?_⟩
    rw [e9r]
    omega
/-- all that was told, and the rows -/
def xXc (T : Nat → Int) (n wp cp : Nat) (e : List Nat) (d : yLD) (H : zp_H) : Prop := yXd (yLc wp cp) e d H ∧ xQc T n wp d H
abbrev xNl (wp cp p k : Nat) : Prop := yNl wp cp p k ∧ ¬ (p = 53 ∧ k = 1) ∧ p ≠ wp + 9 ∧ p ≠ wp + 10
def xNf (wp cp : Nat) (mods : List (Nat × Nat)) (am : List Nat) : Bool := (yNf wp cp mods am).and ((mods.all (fun q => (((Nat.beq q.1 53).and (Nat.beq q.2 1)).or ((Nat.beq q.1 (wp + 9)).or (Nat.beq q.1 (wp + 10)))).not)).and (am.all (fun q => ((Nat.beq q 53).or ((Nat.beq q (wp + 9)).or (Nat.beq q (wp + 10)))).not)))
section
variable {T : Nat → Int} {n wp cp : Nat} {e : List Nat} {d : yLD} {H H1 : zp_H}
theorem xXc_h (he : ∀ p k, H1.2.1 p k = H.2.1 p k) (h : xXc T n wp cp e d H) : xXc T n wp cp e d H1 := ⟨yXd_c (H := H) (fun i _ => he _ _) h.1, xQc_e (he _ _) (fun k => he _ k) (fun k => he _ k) h.2⟩
theorem xXc_o {p k : Nat} {x : Int32} (hn : xNl wp cp p k) (h : xXc T n wp cp e d H) : xXc T n wp cp e d (zw_I H p k x) := ⟨yXd_o hn.1 h.1, xQc_e (H := H) (zp_u_ne (fun h9 => hn.2.1 ⟨h9.1.symm, h9.2.symm⟩)) (fun j => zp_u_ne (fun h9 => hn.2.2.1 h9.1.symm)) (fun j => zp_u_ne (fun h9 => hn.2.2.2 h9.1.symm)) h.2⟩
theorem xXc_Jo {p k : Nat} {u : Int64} (h : xXc T n wp cp e d H) : xXc T n wp cp e d (zw_J H p k u) := h
theorem xXc_k {k : Nat} {v : Int} (hk : k < 20 ∧ k ≠ 7 ∧ k ≠ 14 ∧ k ≠ 15) (h : xXc T n wp cp e d H) : xXc T n wp cp e (yU d.1 k v, d.2) H := ⟨yXd_k hk.1 h.1, xQc_d (show yU d.1 k v 7 = d.1 7 from if_neg (fun h9 => hk.2.1 h9.symm)) (show yU d.1 k v 14 = d.1 14 from if_neg (fun h9 => hk.2.2.1 h9.symm)) (show yU d.1 k v 15 = d.1 15 from if_neg (fun h9 => hk.2.2.2 h9.symm)) h.2⟩
theorem xXc_b {x : Int} (hx1 : x < 1000) (h : xXc T n wp cp e d H) : xXc T n wp cp e (d.1, d.2.1, yUb d.2.2 x) H := ⟨yXd_b hx1 h.1, h.2⟩
theorem xXc_wD {i0 p k : Nat} {x : Int32} {v : Int} (hw : yWC wp cp) (h20 : 20 ≤ i0) (hl : yLc wp cp i0 = (p, k)) (hv : x.toInt = v) (h : xXc T n wp cp e d H) : xXc T n wp cp e (yW d i0 v) (zw_I H p k x) := by
  have g : ¬ (p = 53 ∧ k = 1) ∧ p ≠ wp + 9 ∧ p ≠ wp + 10 := by
    obtain ⟨h1, h2⟩ := hw
    rcases yLc_p (wp := wp) (cp := cp) h20 with ⟨a1, a2⟩ | ⟨a0, a1, a2⟩ | ⟨a0, a1, a2⟩ | ⟨a0, a1, a2⟩ | ⟨a0, a1, a2⟩ | ⟨a0, a1, a2⟩ | ⟨a0, a1, a2⟩ | ⟨a0, a1, a2⟩ | ⟨a0, a1, a2⟩ | ⟨a0, a1, a2⟩ | ⟨a0, a1, a2⟩ | ⟨a0, a1, a2⟩ | ⟨a0, a1, a2⟩ | ⟨a1, a2⟩ <;>
    (rw [a2] at hl
     have e1 := congrArg Prod.fst hl
     have e2 := congrArg Prod.snd hl
     dsimp only at e1 e2
     omega)
  exact ⟨yXd_wD (yLc_inj hw) h20 hl hv h.1, xQc_d (yW_n (by omega)) (yW_n (by omega)) (yW_n (by omega)) (xQc_e (H := H) (zp_u_ne (fun h9 => g.1 ⟨h9.1.symm, h9.2.symm⟩)) (fun j => zp_u_ne (fun h9 => g.2.1 h9.1.symm)) (fun j => zp_u_ne (fun h9 => g.2.2 h9.1.symm)) h.2)⟩
theorem xXc_F {mods : List (Nat × Nat)} {am : List Nat} (hw : yWC wp cp) (hF : zk_Fr zg mods am H H1) (hc : xNf wp cp mods am = true) (h : xXc T n wp cp e d H) : xXc T n wp cp e d H1 := by
  obtain ⟨c1, c2⟩ := Bool.and_eq_true_iff.mp hc
  obtain ⟨c2, c3⟩ := Bool.and_eq_true_iff.mp c2
  have g : ∀ p k, (p = 53 ∧ k = 1) ∨ p = wp + 9 ∨ p = wp + 10 → H1.2.1 p k = H.2.1 p k := fun p k hp => by
    have n72 : ¬ (p = 72 ∧ k = 100) := fun h9 => by
      obtain ⟨h1, -⟩ := hw
      omega
    refine (zI_in hF ?_ ?_ n72).1
    · cases hm : zk_inm mods p k with
      | false => rfl
      | true =>
        obtain ⟨q, q1, q2⟩ := List.any_eq_true.mp hm
        obtain ⟨q2, q3⟩ := Bool.and_eq_true_iff.mp q2
        have e1 : q.1 = p := za_beq q2
        have e2 : q.2 = k := za_beq q3
        have c4 := List.all_eq_true.mp c2 q q1
        rw [e1, e2] at c4
        rcases hp with ⟨rfl, rfl⟩ | rfl | rfl
        · exact absurd (show false = true from c4) (by decide)
        · rw [show Nat.beq (wp + 9) (wp + 9) = true from Nat.beq_refl _] at c4
          cases h8 : (Nat.beq (wp + 9) 53).and (Nat.beq k 1) <;> rw [h8] at c4 <;> cases c4
        · rw [show Nat.beq (wp + 10) (wp + 10) = true from Nat.beq_refl _] at c4
          cases h8 : (Nat.beq (wp + 10) 53).and (Nat.beq k 1) <;> cases h7 : Nat.beq (wp + 10) (wp + 9) <;> rw [h8, h7] at c4 <;> cases c4
    · cases hm : zk_ina am p with
      | false => rfl
      | true =>
        obtain ⟨q, q1, q2⟩ := List.any_eq_true.mp hm
        have e1 : q = p := za_beq q2
        have c4 := List.all_eq_true.mp c3 q q1
        rw [e1] at c4
        rcases hp with ⟨rfl, -⟩ | rfl | rfl
        · exact absurd (show false = true from c4) (by decide)
        · rw [show Nat.beq (wp + 9) (wp + 9) = true from Nat.beq_refl _] at c4
          cases h8 : Nat.beq (wp + 9) 53 <;> rw [h8] at c4 <;> cases c4
        · rw [show Nat.beq (wp + 10) (wp + 10) = true from Nat.beq_refl _] at c4
          cases h8 : Nat.beq (wp + 10) 53 <;> cases h7 : Nat.beq (wp + 10) (wp + 9) <;> rw [h8, h7] at c4 <;> cases c4
  exact ⟨yXd_F hw hF c1 h.1, xQc_e (g 53 1 (Or.inl ⟨rfl, rfl⟩)) (fun k => g _ k (Or.inr (Or.inl rfl))) (fun k => g _ k (Or.inr (Or.inr rfl))) h.2⟩
end
/-- the class holds all that was told -/
def yDd (T : Nat → Int) (n wp cp : Nat) (d : yLD) (H : zp_H) : Prop := yDc wp cp d H ∧ xXc T n wp cp [] d H
theorem yDd_F {T : Nat → Int} {n wp cp : Nat} {d : yLD} {mods : List (Nat × Nat)} {am : List Nat} {H H1 : zp_H} (hw : yWC wp cp) (hF : zk_Fr zg mods am H H1) (hm : [(wp, 0), (wp, 1), (cp, 0), (wp, 7), (wp, 12), (wp, 16), (51, 2), (51, 3), (wp, 3), (wp + 3, 0), (wp + 3, 1), (wp + 3, 2), (wp + 3, 3)].all (fun q => ((zk_inm mods q.1 q.2).or (zk_ina am q.1)).not.and (Nat.beq q.1 72).not) = true) (hc : xNf wp cp mods am = true) (h : yDd T n wp cp d H) : yDd T n wp cp d H1 := ⟨yDc_F hF hm h.1, xXc_F hw hF hc h.2⟩
/-- the class read from s on, up to the line's end, or met its fault -/
def yRL (T : Nat → Int) (n wp cp : Nat) (s : yL) (X : zp_X) : Prop := ∃ v H1, X = (.inl (some (.inl v)), H1) ∧ ((v.toInt = 1 ∧ ∃ d' q, yE T n q H1 ∧ yDd T n wp cp d' H1 ∧ yR2 T n s (50, [], 0, 0, 0, d', q) ∧ s.2.2.2.2.2.2 ≤ q) ∨ (v.toInt = 0 ∧ ∃ r : Int × Nat, zk_Bs zB zg zJc H1 ∧ yFc T n r H1 ∧ yA2 T n s r ∧ 1 ≤ r.1 ∧ r.1 ≤ 5))
theorem yRL_0 {T : Nat → Int} {n wp cp q : Nat} {s : yL} {r : Int × Nat} {H1 : zp_H} (hE : yE T n q H1) (hF : yFc T n r H1) (hA : yA2 T n s r) (hb : 1 ≤ r.1 ∧ r.1 ≤ 5) : yRL T n wp cp s (.inl (some (.inl (Int32.ofInt 0))), H1) := ⟨_, H1, rfl, Or.inr ⟨rfl, r, yE_B hE, hF, hA, hb⟩⟩
theorem yRL_1 {T : Nat → Int} {n wp cp q : Nat} {s : yL} {d' : yLD} {H1 : zp_H} (hE : yE T n q H1) (hD : yDd T n wp cp d' H1) (hR : yR2 T n s (50, [], 0, 0, 0, d', q)) (hq : s.2.2.2.2.2.2 ≤ q) : yRL T n wp cp s (.inl (some (.inl (Int32.ofInt 1))), H1) := ⟨_, H1, rfl, Or.inl ⟨rfl, d', q, hE, hD, hR, hq⟩⟩
theorem ys_le1 {T : Nat → Int} {n p : Nat} (h : p ≤ n) : p ≤ ys_nx T n p := by
  have := ys_nxb (T := T) h
  omega
theorem ys_le2 {T : Nat → Int} {n p : Nat} (h : p ≤ n) : p ≤ ys_nx T n (ys_nx T n p) := by
  have h1 := ys_nxb (T := T) h
  have h2 := ys_nxb (T := T) h1.2.2.1
  omega
theorem ys_le3 {T : Nat → Int} {n p : Nat} (h : p ≤ n) : p ≤ ys_nx T n (ys_nx T n (ys_nx T n p)) := by
  have h1 := ys_nxb (T := T) h
  have h2 := ys_le2 (T := T) h1.2.2.1
  omega
theorem yE_I {T : Nat → Int} {n p : Nat} {H : zp_H} {q k : Nat} {x : Int32} (h : yE T n p H) (hb : zk_Bs zB0 zg zJc (zw_I H q k x)) (hq : ((Nat.beq 52 q).or (Nat.beq 1 q)) = false) : yE T n p (zw_I H q k x) := by
  have h1 : Nat.beq 52 q = false ∧ Nat.beq 1 q = false := by
    cases a : Nat.beq 52 q <;> cases b : Nat.beq 1 q <;> rw [a, b] at hq <;> first | exact ⟨rfl, rfl⟩ | exact absurd hq (by decide)
  refine yE_c h hb (funext fun j => zw_ne rfl ?_) (funext fun j => zw_ne rfl ?_)
  · rw [h1.1]; rfl
  · rw [h1.2]; rfl

set_option maxRecDepth 8000 in
theorem yc_goal2 {L : Nat} {σ : Nat → Int32} {dd : Nat} {T : Nat → Int} {n p : Nat} {d : yLD} {cp : Nat} {H : zp_H} (hcp : cp = 13 ∨ cp = 33) (h : yE T n p H) (hDd : yDd T n 2 cp d H) : ∃ X, zp_Call L σ (dd + 5) 81 [.inr (.inr (some 52)), .inr (.inr (some 3))] H X ∧ yRL T n 2 cp (18, [], 0, 0, 0, d, p) X := by
  obtain ⟨hD, hX⟩ := hDd
  have hwc : yWC 2 cp := ⟨by decide, hcp⟩
  have W := zB_Wd h.1.1
  obtain ⟨_, c1, v, H1, rfl, c2, c3⟩ := yc_num (L := L) (σ := σ) (d := dd) (x := Int32.ofInt 0) (y := Int32.ofInt 7) (lo := 0) (hi := 7) rfl rfl h
  refine zw_met zm_81_t rfl rfl ?_
  refine zw_ld (n := 1) (k := 0) (f := zp_isR) (pc' := 1) rfl rfl rfl rfl rfl ?_
  refine zw_s (pc' := 2) rfl rfl ?_
  refine zw_s (pc' := 4) rfl rfl ?_
  refine zw_c (pc' := 7) (zw_cv (q := 51) (Y := zm_65) W.1 rfl rfl zm_65_t rfl rfl) rfl rfl rfl rfl rfl (c1) ?_
  refine zw_st (n := 1) (k := 2) (f := zp_isI) (pc' := 8) rfl rfl rfl rfl rfl ?_
  refine zw_ld (n := 1) (k := 2) (f := zp_isI) (pc' := 9) rfl rfl zw_g1 rfl rfl ?_
  refine zw_s (pc' := 10) rfl rfl ?_
  refine zw_bne2 (g := 15) (pc' := 13) rfl rfl rfl rfl (rfl : _ = (-1 : Int)) (fun h1 => ?_) (fun h1 => ?_)
  · rcases c3 with ⟨k1, k2, k3, k4, k5, k6, k7⟩ | ⟨k1, _⟩
    rotate_left
    · omega
    have W1 := zB_Wd k7.1.1
    have hD1 : yDc 2 cp d H1 := yDc_F c2 (by rcases hcp with rfl | rfl <;> rfl) hD
    have hX1 := xXc_F hwc c2 (by rcases hcp with rfl | rfl <;> rfl) hX
    have b1 := zB_putf (p := 2) (k := 11) (x := v) k7.1.1 rfl (fun r hr => by cases hr) (zJc_I rfl k7.1.1.2.2.2.2.2.2.2)
    have b2 := zB_putf (p := 51) (k := 3) (x := Int32.ofInt 1) b1 rfl (fun r hr => by cases hr; exact ⟨by decide, by decide⟩) (zJc_I rfl b1.2.2.2.2.2.2.2)
    refine zw_ld (n := 1) (k := 1) (f := zp_isR) (pc' := 16) rfl rfl (zw_gt rfl rfl rfl) rfl rfl ?_
    refine zw_ld (n := 1) (k := 2) (f := zp_isI) (pc' := 17) rfl rfl zw_g1 rfl rfl ?_
    refine zw_pI (q := 2) (pc' := 20) W1 rfl rfl rfl rfl rfl rfl ?_
    refine zw_ld (n := 1) (k := 0) (f := zp_isR) (pc' := 21) rfl rfl (zw_gt rfl rfl rfl) rfl rfl ?_
    refine zw_s (pc' := 22) rfl rfl ?_
    refine zw_pI (q := 51) (pc' := 25) W1 rfl rfl rfl rfl (rfl) rfl ?_
    refine zw_s (pc' := 26) rfl rfl ?_
    refine zw_rz rfl rfl (by decide) ?_
    refine yRL_1 (yE_I (yE_I k7 b1 rfl) b2 rfl) (d' := yW (yU d.1 9 1, d.2) 22 (ys_vl T n p)) ⟨yDc_W (by decide) ?_, xXc_o (by rcases hcp with rfl | rfl <;> decide) (xXc_wD hwc (by decide) rfl k1 (xXc_k (by decide) hX1))⟩ (yR2_s (yN2_18.trans (k6 _))) (ys_le1 h.2.2)
    obtain ⟨g1, g2, g3, g4, g5, g6, g7, g8, g9, g10⟩ := hD1
    have e : ∀ q k, ((Nat.beq q 51).and (Nat.beq k 3)) = false → ((Nat.beq q 2).and (Nat.beq k 11)) = false → ((zw_I (zw_I H1 2 11 v) 51 3 (Int32.ofInt 1)).2.1 q k).toInt = (H1.2.1 q k).toInt := fun q k h1 h2 => congrArg Int32.toInt (zw_ne (zw_ne rfl h2) h1)
    exact ⟨(e 2 0 rfl rfl).trans g1, (e 2 1 rfl rfl).trans g2, (e cp 0 (by rcases hcp with rfl | rfl <;> rfl) (by rcases hcp with rfl | rfl <;> rfl)).trans g3, (e 2 7 rfl rfl).trans g4, (e 2 12 rfl rfl).trans g5, (e 2 16 rfl rfl).trans g6, (e 51 2 rfl rfl).trans g7, congrArg Int32.toInt zw_eq, g9, g10⟩
  · refine zw_s (pc' := 14) rfl rfl ?_
    refine zw_rz rfl rfl (by decide) ?_
    rcases c3 with ⟨k1, k2, k3, k4, _⟩ | ⟨_, k, k1, k2, k3, k4, k5⟩
    · omega
    · exact yRL_0 k5 k3 (yA2_done (yN2_18.trans (k4 _))) ⟨k1, k2⟩

set_option maxRecDepth 8000 in
theorem yc_school2 {L : Nat} {σ : Nat → Int32} {dd : Nat} {T : Nat → Int} {n p : Nat} {d : yLD} {cp : Nat} {H : zp_H} (hcp : cp = 13 ∨ cp = 33) (h : yE T n p H) (hDd : yDd T n 2 cp d H) : ∃ X, zp_Call L σ (dd + 5) 80 [.inr (.inr (some 52)), .inr (.inr (some 3))] H X ∧ yRL T n 2 cp (15, [], 0, 0, 0, d, p) X := by
  obtain ⟨hD, hX⟩ := hDd
  have hwc : yWC 2 cp := ⟨by decide, hcp⟩
  have W := zB_Wd h.1.1
  obtain ⟨_, c1, v, H1, rfl, c2, c3⟩ := yc_cell2 (L := L) (σ := σ) (d := dd) (taken := Int64.ofNat 0) hD.1 hD.2.1 h
  refine zw_met zm_80_t rfl rfl ?_
  refine zw_ld (n := 1) (k := 0) (f := zp_isR) (pc' := 1) rfl rfl rfl rfl rfl ?_
  refine zw_ld (n := 1) (k := 1) (f := zp_isR) (pc' := 2) rfl rfl rfl rfl rfl ?_
  refine zw_s (pc' := 3) rfl rfl ?_
  refine zw_c (pc' := 6) (zw_cv (q := 51) (Y := zm_70) W.1 rfl rfl zm_70_t rfl rfl) rfl rfl rfl rfl rfl (c1) ?_
  refine zw_st (n := 1) (k := 2) (f := zp_isI) (pc' := 7) rfl rfl rfl rfl rfl ?_
  refine zw_ld (n := 1) (k := 2) (f := zp_isI) (pc' := 8) rfl rfl zw_g1 rfl rfl ?_
  refine zw_s (pc' := 9) rfl rfl ?_
  refine zw_bne2 (g := 16) (pc' := 12) rfl rfl rfl rfl (rfl : _ = (-1 : Int)) (fun h1 => ?_) (fun h1 => ?_)
  · rcases c3 with ⟨k1, k2, k3, k4, k5, k6⟩ | ⟨k1, _⟩
    rotate_left
    · omega
    have W1 := zB_Wd k6.1.1
    have hD1 : yDc 2 cp d H1 := yDc_F c2 (by rcases hcp with rfl | rfl <;> rfl) hD
    have hX1 := xXc_F hwc c2 (by rcases hcp with rfl | rfl <;> rfl) hX
    obtain ⟨_, d1, v2, H2, rfl, d2, d3⟩ := yc_num (L := L) (σ := σ) (d := dd) (x := Int32.ofInt 0) (y := Int32.ofInt 9) (lo := 0) (hi := 9) rfl rfl k6
    refine zw_ld (n := 1) (k := 0) (f := zp_isR) (pc' := 17) rfl rfl (zw_gt rfl rfl rfl) rfl rfl ?_
    refine zw_s (pc' := 18) rfl rfl ?_
    refine zw_s (pc' := 20) rfl rfl ?_
    refine zw_c (pc' := 23) (zw_cv (q := 51) (Y := zm_65) W1.1 rfl rfl zm_65_t rfl rfl) rfl rfl rfl rfl rfl (d1) ?_
    refine zw_st (n := 1) (k := 3) (f := zp_isI) (pc' := 24) rfl rfl rfl rfl rfl ?_
    refine zw_ld (n := 1) (k := 3) (f := zp_isI) (pc' := 25) rfl rfl zw_g1 rfl rfl ?_
    refine zw_s (pc' := 26) rfl rfl ?_
    refine zw_bne2 (g := 31) (pc' := 29) rfl rfl rfl rfl (rfl : _ = (-1 : Int)) (fun h2 => ?_) (fun h2 => ?_)
    · rcases d3 with ⟨m1, m2, m3, m4, m5, m6, m7⟩ | ⟨m1, _⟩
      rotate_left
      · omega
      have W2 := zB_Wd m7.1.1
      have hD2 : yDc 2 cp d H2 := yDc_F d2 (by rcases hcp with rfl | rfl <;> rfl) hD1
      have hX2 := xXc_F hwc d2 (by rcases hcp with rfl | rfl <;> rfl) hX1
      have b1 := zB_putf (p := 2) (k := 9) (x := v) m7.1.1 rfl (fun r hr => by cases hr; exact k4) (zJc_I rfl m7.1.1.2.2.2.2.2.2.2)
      have b2 := zB_putf (p := 2) (k := 10) (x := v2) b1 rfl (fun r hr => by cases hr) (zJc_I rfl b1.2.2.2.2.2.2.2)
      have b3 := zB_putf (p := 51) (k := 2) (x := Int32.ofInt 1) b2 rfl (fun r hr => by cases hr; exact ⟨by decide, by decide⟩) (zJc_I rfl b2.2.2.2.2.2.2.2)
      refine zw_ld (n := 1) (k := 1) (f := zp_isR) (pc' := 32) rfl rfl (zw_gt (zw_gt rfl rfl rfl) rfl rfl) rfl rfl ?_
      refine zw_ld (n := 1) (k := 2) (f := zp_isI) (pc' := 33) rfl rfl (zw_gt zw_g1 rfl rfl) rfl rfl ?_
      refine zw_pI (q := 2) (pc' := 36) W2 rfl rfl rfl rfl rfl rfl ?_
      refine zw_ld (n := 1) (k := 1) (f := zp_isR) (pc' := 37) rfl rfl (zw_gt (zw_gt rfl rfl rfl) rfl rfl) rfl rfl ?_
      refine zw_ld (n := 1) (k := 3) (f := zp_isI) (pc' := 38) rfl rfl zw_g1 rfl rfl ?_
      refine zw_pI (q := 2) (pc' := 41) W2 rfl rfl rfl rfl rfl rfl ?_
      refine zw_ld (n := 1) (k := 0) (f := zp_isR) (pc' := 42) rfl rfl (zw_gt (zw_gt rfl rfl rfl) rfl rfl) rfl rfl ?_
      refine zw_s (pc' := 43) rfl rfl ?_
      refine zw_pI (q := 51) (pc' := 46) W2 rfl rfl rfl rfl (rfl) rfl ?_
      refine zw_s (pc' := 47) rfl rfl ?_
      refine zw_rz rfl rfl (by decide) ?_
      refine yRL_1 (yE_I (yE_I (yE_I m7 b1 rfl) b2 rfl) b3 rfl) (d' := yW (yW (yU d.1 8 1, d.2) 20 (d.1 1 * ys_vl T n (ys_nx T n p) + ys_vl T n p)) 21 (ys_vl T n (ys_nx T n (ys_nx T n p)))) ⟨yDc_W (by decide) (yDc_W (by decide) ?_), xXc_o (by rcases hcp with rfl | rfl <;> decide) (xXc_wD hwc (by decide) rfl m1 (xXc_wD hwc (by decide) rfl k1 (xXc_k (by decide) hX2)))⟩ (yR2_t (yR2_s (yN2_15.trans (k2 _))) (yR2_t (yR2_s (yN2_16.trans (k3 _))) (yR2_s (yN2_17.trans (m6 _))))) (ys_le3 h.2.2)
      obtain ⟨g1, g2, g3, g4, g5, g6, g7, g8, g9, g10⟩ := hD2
      have e : ∀ q k, ((Nat.beq q 51).and (Nat.beq k 2)) = false → ((Nat.beq q 2).and (Nat.beq k 9)) = false → ((Nat.beq q 2).and (Nat.beq k 10)) = false → ((zw_I (zw_I (zw_I H2 2 9 v) 2 10 v2) 51 2 (Int32.ofInt 1)).2.1 q k).toInt = (H2.2.1 q k).toInt := fun q k h1 h2 h3 => congrArg Int32.toInt (zw_ne (zw_ne (zw_ne rfl h2) h3) h1)
      exact ⟨(e 2 0 rfl rfl rfl).trans g1, (e 2 1 rfl rfl rfl).trans g2, (e cp 0 (by rcases hcp with rfl | rfl <;> rfl) (by rcases hcp with rfl | rfl <;> rfl) (by rcases hcp with rfl | rfl <;> rfl)).trans g3, (e 2 7 rfl rfl rfl).trans g4, (e 2 12 rfl rfl rfl).trans g5, (e 2 16 rfl rfl rfl).trans g6, congrArg Int32.toInt zw_eq, (e 51 3 rfl rfl rfl).trans g8, g9, g10⟩
    · refine zw_s (pc' := 30) rfl rfl ?_
      refine zw_rz rfl rfl (by decide) ?_
      rcases d3 with ⟨m1, m2, m3, m4, _⟩ | ⟨_, k, m1, m2, m3, m4, m5⟩
      · omega
      · exact yRL_0 m5 m3 (yA2_step (yN2_15.trans (k2 _)) (yA2_step (yN2_16.trans (k3 _)) (yA2_done (yN2_17.trans (m4 _))))) ⟨m1, m2⟩
  · refine zw_s (pc' := 13) rfl rfl ?_
    refine zw_s (pc' := 23) rfl rfl ?_
    refine zw_st (n := 1) (k := 3) (f := zp_isI) (pc' := 24) rfl rfl rfl rfl rfl ?_
    refine zw_ld (n := 1) (k := 3) (f := zp_isI) (pc' := 25) rfl rfl zw_g1 rfl rfl ?_
    refine zw_s (pc' := 26) rfl rfl ?_
    refine zw_bne2 (g := 31) (pc' := 29) rfl rfl rfl (rfl : _ = (-1 : Int)) (rfl : _ = (-1 : Int)) (fun h9 => absurd h9 (by decide)) (fun h2 => ?_)
    refine zw_s (pc' := 30) rfl rfl ?_
    refine zw_rz rfl rfl (by decide) ?_
    rcases c3 with ⟨_, _, _, k4, _⟩ | ⟨_, k, q, k1, k2, k3, k5, k6⟩
    · omega
    · refine yRL_0 k5 k3 ?_ ⟨k1, k2⟩
      rcases k6 with ⟨rfl, m1⟩ | ⟨rfl, m1, m2⟩ | ⟨_, rfl, m1, m2, m3⟩
      · exact yA2_done (yN2_15.trans (m1 _))
      · exact yA2_step (yN2_15.trans (m1 _)) (yA2_done (yN2_16.trans (m2 _)))
      · exact absurd Int64.zero_and m3

set_option maxRecDepth 8000 in
theorem yc_rock2 {L : Nat} {σ : Nat → Int32} {dd : Nat} {T : Nat → Int} {n p : Nat} {d : yLD} {cp : Nat} {H : zp_H} (hcp : cp = 13 ∨ cp = 33) (hbu : yBCu) (h : yE T n p H) (hDd : yDd T n 2 cp d H) : ∃ X, zp_Call L σ (dd + 5) 69 [.inr (.inr (some 52)), .inr (.inr (some 3))] H X ∧ yRL T n 2 cp (3, [], 0, 0, 0, d, p) X := by
  obtain ⟨hD, hX⟩ := hDd
  have hwc : yWC 2 cp := ⟨by decide, hcp⟩
  have W := zB_Wd h.1.1
  obtain ⟨_, c1, v, H1, rfl, c2, c3⟩ := yc_cell2 (L := L) (σ := σ) (d := dd) (taken := H.2.2.1 2 3) hD.1 hD.2.1 h
  refine zw_met zm_69_t rfl rfl ?_
  refine zw_ld (n := 1) (k := 0) (f := zp_isR) (pc' := 1) rfl rfl rfl rfl rfl ?_
  refine zw_ld (n := 1) (k := 1) (f := zp_isR) (pc' := 2) rfl rfl rfl rfl rfl ?_
  refine zw_ld (n := 1) (k := 1) (f := zp_isR) (pc' := 3) rfl rfl rfl rfl rfl ?_
  refine zw_gL (q := 2) (pc' := 6) W rfl rfl rfl rfl rfl ?_
  refine zw_c (pc' := 9) (zw_cv (q := 51) (Y := zm_70) W.1 rfl rfl zm_70_t rfl rfl) rfl rfl rfl rfl rfl (c1) ?_
  refine zw_st (n := 1) (k := 2) (f := zp_isI) (pc' := 10) rfl rfl rfl rfl rfl ?_
  refine zw_ld (n := 1) (k := 2) (f := zp_isI) (pc' := 11) rfl rfl zw_g1 rfl rfl ?_
  refine zw_s (pc' := 12) rfl rfl ?_
  refine zw_bne2 (g := 17) (pc' := 15) rfl rfl rfl rfl (rfl : _ = (-1 : Int)) (fun h1 => ?_) (fun h1 => ?_)
  · rcases c3 with ⟨k1, k2, k3, k4, k5, k6⟩ | ⟨k1, _⟩
    rotate_left
    · omega
    have W1 := zB_Wd k6.1.1
    have hD1 : yDc 2 cp d H1 := yDc_F c2 (by rcases hcp with rfl | rfl <;> rfl) hD
    have hX1 := xXc_F hwc c2 (by rcases hcp with rfl | rfl <;> rfl) hX
    have b1 := zB_putl (p := 2) (k := 3) (u := H1.2.2.1 2 3 ||| za_shl0 (Int64.ofNat 1) v) k6.1.1 (zJc_J rfl k6.1.1.2.2.2.2.2.2.2)
    have ev : za_shl0 (Int64.ofNat 1) v = yBit (d.1 1 * ys_vl T n (ys_nx T n p) + ys_vl T n p) := by
      unfold yBit
      rw [← k1, Int32.ofInt_toInt]
    refine zw_ld (n := 1) (k := 1) (f := zp_isR) (pc' := 18) rfl rfl (zw_gt rfl rfl rfl) rfl rfl ?_
    refine zw_s (pc' := 19) rfl rfl ?_
    refine zw_gL (q := 2) (pc' := 22) W1 rfl rfl rfl rfl rfl ?_
    refine zw_ld (n := 1) (k := 2) (f := zp_isI) (pc' := 23) rfl rfl zw_g1 rfl rfl ?_
    refine zw_cx (pc' := 26) (zw_csx (Y := zm_4) rfl rfl zm_4_t) rfl rfl rfl rfl rfl (zn_bit) ?_
    refine zw_lor (pc' := 27) rfl rfl ?_
    refine zw_pL (q := 2) (pc' := 30) W1 rfl rfl rfl rfl rfl rfl ?_
    refine zw_s (pc' := 31) rfl rfl ?_
    refine zw_rz rfl rfl (by decide) ?_
    refine yRL_1 (yE_c k6 b1 rfl rfl) (d' := (yU d.1 3 (d.1 3 + 1), d.2.1 ||| yBit (d.1 1 * ys_vl T n (ys_nx T n p) + ys_vl T n p), d.2.2)) ⟨?_, xXc_k (d := (d.1, d.2.1 ||| yBit (d.1 1 * ys_vl T n (ys_nx T n p) + ys_vl T n p), d.2.2)) (by decide) (xXc_Jo hX1)⟩ (yR2_t (yR2_s (yN2_3.trans (k2 _))) (yR2_s ?_)) (ys_le2 h.2.2)
    · obtain ⟨g1, g2, g3, g4, g5, g6, g7, g8, g9, g10⟩ := hD1
      refine ⟨g1, g2, g3, g4, g5, g6, g7, g8, ?_, g10.1, ?_⟩
      · show zp_u H1.2.2.1 2 3 _ 2 3 = _
        rw [zp_u_self, g9, ev]
        rfl
      · have r0 := zB_fr1 k6.1.1 (p := 2) (k := 0) (r := (2, 8)) rfl
        have r0 : 2 ≤ (H1.2.1 2 0).toInt ∧ (H1.2.1 2 0).toInt ≤ 8 := r0
        obtain ⟨c, hc, ec⟩ : ∃ c : Nat, c < 64 ∧ d.1 1 * ys_vl T n (ys_nx T n p) + ys_vl T n p = (c : Int) := ⟨v.toInt.toNat, by omega, by omega⟩
        have k5 := k5
        rw [hD.2.2.2.2.2.2.2.2.1, ec] at k5
        show (yBC (d.2.1 ||| yBit (d.1 1 * ys_vl T n (ys_nx T n p) + ys_vl T n p))).toInt = d.1 3 + 1
        rw [ec, hbu _ c hc k5, g10.2]
    · rw [yN2_4, k3]
      show (if d.2.1 &&& yBit _ = 0 then _ else _) = _
      rw [hD.2.2.2.2.2.2.2.2.1] at k5
      rw [if_pos k5]
  · refine zw_s (pc' := 16) rfl rfl ?_
    refine zw_rz rfl rfl (by decide) ?_
    rcases c3 with ⟨_, _, _, k4, _⟩ | ⟨_, k, q, k1, k2, k3, k5, k6⟩
    · omega
    · refine yRL_0 k5 k3 ?_ ⟨k1, k2⟩
      rcases k6 with ⟨rfl, m1⟩ | ⟨rfl, m1, m2⟩ | ⟨rfl, rfl, m1, m2, m3⟩
      · exact yA2_done (yN2_3.trans (m1 _))
      · refine yA2_step (yN2_3.trans (m1 _)) (yA2_done ?_)
        rw [yN2_4, m2]
      · refine yA2_step (yN2_3.trans (m1 _)) (yA2_done ?_)
        rw [yN2_4, m2]
        show (if d.2.1 &&& yBit _ = 0 then _ else _) = _
        rw [hD.2.2.2.2.2.2.2.2.1] at m3
        rw [if_neg m3]

set_option maxRecDepth 8000 in
theorem yc_goal22 {L : Nat} {σ : Nat → Int32} {dd : Nat} {T : Nat → Int} {n p : Nat} {d : yLD} {cp : Nat} {H : zp_H} (hcp : cp = 13 ∨ cp = 33) (h : yE T n p H) (hDd : yDd T n 22 cp d H) : ∃ X, zp_Call L σ (dd + 5) 81 [.inr (.inr (some 52)), .inr (.inr (some 23))] H X ∧ yRL T n 22 cp (18, [], 0, 0, 0, d, p) X := by
  obtain ⟨hD, hX⟩ := hDd
  have hwc : yWC 22 cp := ⟨by decide, hcp⟩
  have W := zB_Wd h.1.1
  obtain ⟨_, c1, v, H1, rfl, c2, c3⟩ := yc_num (L := L) (σ := σ) (d := dd) (x := Int32.ofInt 0) (y := Int32.ofInt 7) (lo := 0) (hi := 7) rfl rfl h
  refine zw_met zm_81_t rfl rfl ?_
  refine zw_ld (n := 1) (k := 0) (f := zp_isR) (pc' := 1) rfl rfl rfl rfl rfl ?_
  refine zw_s (pc' := 2) rfl rfl ?_
  refine zw_s (pc' := 4) rfl rfl ?_
  refine zw_c (pc' := 7) (zw_cv (q := 51) (Y := zm_65) W.1 rfl rfl zm_65_t rfl rfl) rfl rfl rfl rfl rfl (c1) ?_
  refine zw_st (n := 1) (k := 2) (f := zp_isI) (pc' := 8) rfl rfl rfl rfl rfl ?_
  refine zw_ld (n := 1) (k := 2) (f := zp_isI) (pc' := 9) rfl rfl zw_g1 rfl rfl ?_
  refine zw_s (pc' := 10) rfl rfl ?_
  refine zw_bne2 (g := 15) (pc' := 13) rfl rfl rfl rfl (rfl : _ = (-1 : Int)) (fun h1 => ?_) (fun h1 => ?_)
  · rcases c3 with ⟨k1, k2, k3, k4, k5, k6, k7⟩ | ⟨k1, _⟩
    rotate_left
    · omega
    have W1 := zB_Wd k7.1.1
    have hD1 : yDc 22 cp d H1 := yDc_F c2 (by rcases hcp with rfl | rfl <;> rfl) hD
    have hX1 := xXc_F hwc c2 (by rcases hcp with rfl | rfl <;> rfl) hX
    have b1 := zB_putf (p := 22) (k := 11) (x := v) k7.1.1 rfl (fun r hr => by cases hr) (zJc_I rfl k7.1.1.2.2.2.2.2.2.2)
    have b2 := zB_putf (p := 51) (k := 3) (x := Int32.ofInt 1) b1 rfl (fun r hr => by cases hr; exact ⟨by decide, by decide⟩) (zJc_I rfl b1.2.2.2.2.2.2.2)
    refine zw_ld (n := 1) (k := 1) (f := zp_isR) (pc' := 16) rfl rfl (zw_gt rfl rfl rfl) rfl rfl ?_
    refine zw_ld (n := 1) (k := 2) (f := zp_isI) (pc' := 17) rfl rfl zw_g1 rfl rfl ?_
    refine zw_pI (q := 22) (pc' := 20) W1 rfl rfl rfl rfl rfl rfl ?_
    refine zw_ld (n := 1) (k := 0) (f := zp_isR) (pc' := 21) rfl rfl (zw_gt rfl rfl rfl) rfl rfl ?_
    refine zw_s (pc' := 22) rfl rfl ?_
    refine zw_pI (q := 51) (pc' := 25) W1 rfl rfl rfl rfl (rfl) rfl ?_
    refine zw_s (pc' := 26) rfl rfl ?_
    refine zw_rz rfl rfl (by decide) ?_
    refine yRL_1 (yE_I (yE_I k7 b1 rfl) b2 rfl) (d' := yW (yU d.1 9 1, d.2) 22 (ys_vl T n p)) ⟨yDc_W (by decide) ?_, xXc_o (by rcases hcp with rfl | rfl <;> decide) (xXc_wD hwc (by decide) rfl k1 (xXc_k (by decide) hX1))⟩ (yR2_s (yN2_18.trans (k6 _))) (ys_le1 h.2.2)
    obtain ⟨g1, g2, g3, g4, g5, g6, g7, g8, g9, g10⟩ := hD1
    have e : ∀ q k, ((Nat.beq q 51).and (Nat.beq k 3)) = false → ((Nat.beq q 22).and (Nat.beq k 11)) = false → ((zw_I (zw_I H1 22 11 v) 51 3 (Int32.ofInt 1)).2.1 q k).toInt = (H1.2.1 q k).toInt := fun q k h1 h2 => congrArg Int32.toInt (zw_ne (zw_ne rfl h2) h1)
    exact ⟨(e 22 0 rfl rfl).trans g1, (e 22 1 rfl rfl).trans g2, (e cp 0 (by rcases hcp with rfl | rfl <;> rfl) (by rcases hcp with rfl | rfl <;> rfl)).trans g3, (e 22 7 rfl rfl).trans g4, (e 22 12 rfl rfl).trans g5, (e 22 16 rfl rfl).trans g6, (e 51 2 rfl rfl).trans g7, congrArg Int32.toInt zw_eq, g9, g10⟩
  · refine zw_s (pc' := 14) rfl rfl ?_
    refine zw_rz rfl rfl (by decide) ?_
    rcases c3 with ⟨k1, k2, k3, k4, _⟩ | ⟨_, k, k1, k2, k3, k4, k5⟩
    · omega
    · exact yRL_0 k5 k3 (yA2_done (yN2_18.trans (k4 _))) ⟨k1, k2⟩

set_option maxRecDepth 8000 in
theorem yc_school22 {L : Nat} {σ : Nat → Int32} {dd : Nat} {T : Nat → Int} {n p : Nat} {d : yLD} {cp : Nat} {H : zp_H} (hcp : cp = 13 ∨ cp = 33) (h : yE T n p H) (hDd : yDd T n 22 cp d H) : ∃ X, zp_Call L σ (dd + 5) 80 [.inr (.inr (some 52)), .inr (.inr (some 23))] H X ∧ yRL T n 22 cp (15, [], 0, 0, 0, d, p) X := by
  obtain ⟨hD, hX⟩ := hDd
  have hwc : yWC 22 cp := ⟨by decide, hcp⟩
  have W := zB_Wd h.1.1
  obtain ⟨_, c1, v, H1, rfl, c2, c3⟩ := yc_cell22 (L := L) (σ := σ) (d := dd) (taken := Int64.ofNat 0) hD.1 hD.2.1 h
  refine zw_met zm_80_t rfl rfl ?_
  refine zw_ld (n := 1) (k := 0) (f := zp_isR) (pc' := 1) rfl rfl rfl rfl rfl ?_
  refine zw_ld (n := 1) (k := 1) (f := zp_isR) (pc' := 2) rfl rfl rfl rfl rfl ?_
  refine zw_s (pc' := 3) rfl rfl ?_
  refine zw_c (pc' := 6) (zw_cv (q := 51) (Y := zm_70) W.1 rfl rfl zm_70_t rfl rfl) rfl rfl rfl rfl rfl (c1) ?_
  refine zw_st (n := 1) (k := 2) (f := zp_isI) (pc' := 7) rfl rfl rfl rfl rfl ?_
  refine zw_ld (n := 1) (k := 2) (f := zp_isI) (pc' := 8) rfl rfl zw_g1 rfl rfl ?_
  refine zw_s (pc' := 9) rfl rfl ?_
  refine zw_bne2 (g := 16) (pc' := 12) rfl rfl rfl rfl (rfl : _ = (-1 : Int)) (fun h1 => ?_) (fun h1 => ?_)
  · rcases c3 with ⟨k1, k2, k3, k4, k5, k6⟩ | ⟨k1, _⟩
    rotate_left
    · omega
    have W1 := zB_Wd k6.1.1
    have hD1 : yDc 22 cp d H1 := yDc_F c2 (by rcases hcp with rfl | rfl <;> rfl) hD
    have hX1 := xXc_F hwc c2 (by rcases hcp with rfl | rfl <;> rfl) hX
    obtain ⟨_, d1, v2, H2, rfl, d2, d3⟩ := yc_num (L := L) (σ := σ) (d := dd) (x := Int32.ofInt 0) (y := Int32.ofInt 9) (lo := 0) (hi := 9) rfl rfl k6
    refine zw_ld (n := 1) (k := 0) (f := zp_isR) (pc' := 17) rfl rfl (zw_gt rfl rfl rfl) rfl rfl ?_
    refine zw_s (pc' := 18) rfl rfl ?_
    refine zw_s (pc' := 20) rfl rfl ?_
    refine zw_c (pc' := 23) (zw_cv (q := 51) (Y := zm_65) W1.1 rfl rfl zm_65_t rfl rfl) rfl rfl rfl rfl rfl (d1) ?_
    refine zw_st (n := 1) (k := 3) (f := zp_isI) (pc' := 24) rfl rfl rfl rfl rfl ?_
    refine zw_ld (n := 1) (k := 3) (f := zp_isI) (pc' := 25) rfl rfl zw_g1 rfl rfl ?_
    refine zw_s (pc' := 26) rfl rfl ?_
    refine zw_bne2 (g := 31) (pc' := 29) rfl rfl rfl rfl (rfl : _ = (-1 : Int)) (fun h2 => ?_) (fun h2 => ?_)
    · rcases d3 with ⟨m1, m2, m3, m4, m5, m6, m7⟩ | ⟨m1, _⟩
      rotate_left
      · omega
      have W2 := zB_Wd m7.1.1
      have hD2 : yDc 22 cp d H2 := yDc_F d2 (by rcases hcp with rfl | rfl <;> rfl) hD1
      have hX2 := xXc_F hwc d2 (by rcases hcp with rfl | rfl <;> rfl) hX1
      have b1 := zB_putf (p := 22) (k := 9) (x := v) m7.1.1 rfl (fun r hr => by cases hr; exact k4) (zJc_I rfl m7.1.1.2.2.2.2.2.2.2)
      have b2 := zB_putf (p := 22) (k := 10) (x := v2) b1 rfl (fun r hr => by cases hr) (zJc_I rfl b1.2.2.2.2.2.2.2)
      have b3 := zB_putf (p := 51) (k := 2) (x := Int32.ofInt 1) b2 rfl (fun r hr => by cases hr; exact ⟨by decide, by decide⟩) (zJc_I rfl b2.2.2.2.2.2.2.2)
      refine zw_ld (n := 1) (k := 1) (f := zp_isR) (pc' := 32) rfl rfl (zw_gt (zw_gt rfl rfl rfl) rfl rfl) rfl rfl ?_
      refine zw_ld (n := 1) (k := 2) (f := zp_isI) (pc' := 33) rfl rfl (zw_gt zw_g1 rfl rfl) rfl rfl ?_
      refine zw_pI (q := 22) (pc' := 36) W2 rfl rfl rfl rfl rfl rfl ?_
      refine zw_ld (n := 1) (k := 1) (f := zp_isR) (pc' := 37) rfl rfl (zw_gt (zw_gt rfl rfl rfl) rfl rfl) rfl rfl ?_
      refine zw_ld (n := 1) (k := 3) (f := zp_isI) (pc' := 38) rfl rfl zw_g1 rfl rfl ?_
      refine zw_pI (q := 22) (pc' := 41) W2 rfl rfl rfl rfl rfl rfl ?_
      refine zw_ld (n := 1) (k := 0) (f := zp_isR) (pc' := 42) rfl rfl (zw_gt (zw_gt rfl rfl rfl) rfl rfl) rfl rfl ?_
      refine zw_s (pc' := 43) rfl rfl ?_
      refine zw_pI (q := 51) (pc' := 46) W2 rfl rfl rfl rfl (rfl) rfl ?_
      refine zw_s (pc' := 47) rfl rfl ?_
      refine zw_rz rfl rfl (by decide) ?_
      refine yRL_1 (yE_I (yE_I (yE_I m7 b1 rfl) b2 rfl) b3 rfl) (d' := yW (yW (yU d.1 8 1, d.2) 20 (d.1 1 * ys_vl T n (ys_nx T n p) + ys_vl T n p)) 21 (ys_vl T n (ys_nx T n (ys_nx T n p)))) ⟨yDc_W (by decide) (yDc_W (by decide) ?_), xXc_o (by rcases hcp with rfl | rfl <;> decide) (xXc_wD hwc (by decide) rfl m1 (xXc_wD hwc (by decide) rfl k1 (xXc_k (by decide) hX2)))⟩ (yR2_t (yR2_s (yN2_15.trans (k2 _))) (yR2_t (yR2_s (yN2_16.trans (k3 _))) (yR2_s (yN2_17.trans (m6 _))))) (ys_le3 h.2.2)
      obtain ⟨g1, g2, g3, g4, g5, g6, g7, g8, g9, g10⟩ := hD2
      have e : ∀ q k, ((Nat.beq q 51).and (Nat.beq k 2)) = false → ((Nat.beq q 22).and (Nat.beq k 9)) = false → ((Nat.beq q 22).and (Nat.beq k 10)) = false → ((zw_I (zw_I (zw_I H2 22 9 v) 22 10 v2) 51 2 (Int32.ofInt 1)).2.1 q k).toInt = (H2.2.1 q k).toInt := fun q k h1 h2 h3 => congrArg Int32.toInt (zw_ne (zw_ne (zw_ne rfl h2) h3) h1)
      exact ⟨(e 22 0 rfl rfl rfl).trans g1, (e 22 1 rfl rfl rfl).trans g2, (e cp 0 (by rcases hcp with rfl | rfl <;> rfl) (by rcases hcp with rfl | rfl <;> rfl) (by rcases hcp with rfl | rfl <;> rfl)).trans g3, (e 22 7 rfl rfl rfl).trans g4, (e 22 12 rfl rfl rfl).trans g5, (e 22 16 rfl rfl rfl).trans g6, congrArg Int32.toInt zw_eq, (e 51 3 rfl rfl rfl).trans g8, g9, g10⟩
    · refine zw_s (pc' := 30) rfl rfl ?_
      refine zw_rz rfl rfl (by decide) ?_
      rcases d3 with ⟨m1, m2, m3, m4, _⟩ | ⟨_, k, m1, m2, m3, m4, m5⟩
      · omega
      · exact yRL_0 m5 m3 (yA2_step (yN2_15.trans (k2 _)) (yA2_step (yN2_16.trans (k3 _)) (yA2_done (yN2_17.trans (m4 _))))) ⟨m1, m2⟩
  · refine zw_s (pc' := 13) rfl rfl ?_
    refine zw_s (pc' := 23) rfl rfl ?_
    refine zw_st (n := 1) (k := 3) (f := zp_isI) (pc' := 24) rfl rfl rfl rfl rfl ?_
    refine zw_ld (n := 1) (k := 3) (f := zp_isI) (pc' := 25) rfl rfl zw_g1 rfl rfl ?_
    refine zw_s (pc' := 26) rfl rfl ?_
    refine zw_bne2 (g := 31) (pc' := 29) rfl rfl rfl (rfl : _ = (-1 : Int)) (rfl : _ = (-1 : Int)) (fun h9 => absurd h9 (by decide)) (fun h2 => ?_)
    refine zw_s (pc' := 30) rfl rfl ?_
    refine zw_rz rfl rfl (by decide) ?_
    rcases c3 with ⟨_, _, _, k4, _⟩ | ⟨_, k, q, k1, k2, k3, k5, k6⟩
    · omega
    · refine yRL_0 k5 k3 ?_ ⟨k1, k2⟩
      rcases k6 with ⟨rfl, m1⟩ | ⟨rfl, m1, m2⟩ | ⟨_, rfl, m1, m2, m3⟩
      · exact yA2_done (yN2_15.trans (m1 _))
      · exact yA2_step (yN2_15.trans (m1 _)) (yA2_done (yN2_16.trans (m2 _)))
      · exact absurd Int64.zero_and m3

set_option maxRecDepth 8000 in
theorem yc_rock22 {L : Nat} {σ : Nat → Int32} {dd : Nat} {T : Nat → Int} {n p : Nat} {d : yLD} {cp : Nat} {H : zp_H} (hcp : cp = 13 ∨ cp = 33) (hbu : yBCu) (h : yE T n p H) (hDd : yDd T n 22 cp d H) : ∃ X, zp_Call L σ (dd + 5) 69 [.inr (.inr (some 52)), .inr (.inr (some 23))] H X ∧ yRL T n 22 cp (3, [], 0, 0, 0, d, p) X := by
  obtain ⟨hD, hX⟩ := hDd
  have hwc : yWC 22 cp := ⟨by decide, hcp⟩
  have W := zB_Wd h.1.1
  obtain ⟨_, c1, v, H1, rfl, c2, c3⟩ := yc_cell22 (L := L) (σ := σ) (d := dd) (taken := H.2.2.1 22 3) hD.1 hD.2.1 h
  refine zw_met zm_69_t rfl rfl ?_
  refine zw_ld (n := 1) (k := 0) (f := zp_isR) (pc' := 1) rfl rfl rfl rfl rfl ?_
  refine zw_ld (n := 1) (k := 1) (f := zp_isR) (pc' := 2) rfl rfl rfl rfl rfl ?_
  refine zw_ld (n := 1) (k := 1) (f := zp_isR) (pc' := 3) rfl rfl rfl rfl rfl ?_
  refine zw_gL (q := 22) (pc' := 6) W rfl rfl rfl rfl rfl ?_
  refine zw_c (pc' := 9) (zw_cv (q := 51) (Y := zm_70) W.1 rfl rfl zm_70_t rfl rfl) rfl rfl rfl rfl rfl (c1) ?_
  refine zw_st (n := 1) (k := 2) (f := zp_isI) (pc' := 10) rfl rfl rfl rfl rfl ?_
  refine zw_ld (n := 1) (k := 2) (f := zp_isI) (pc' := 11) rfl rfl zw_g1 rfl rfl ?_
  refine zw_s (pc' := 12) rfl rfl ?_
  refine zw_bne2 (g := 17) (pc' := 15) rfl rfl rfl rfl (rfl : _ = (-1 : Int)) (fun h1 => ?_) (fun h1 => ?_)
  · rcases c3 with ⟨k1, k2, k3, k4, k5, k6⟩ | ⟨k1, _⟩
    rotate_left
    · omega
    have W1 := zB_Wd k6.1.1
    have hD1 : yDc 22 cp d H1 := yDc_F c2 (by rcases hcp with rfl | rfl <;> rfl) hD
    have hX1 := xXc_F hwc c2 (by rcases hcp with rfl | rfl <;> rfl) hX
    have b1 := zB_putl (p := 22) (k := 3) (u := H1.2.2.1 22 3 ||| za_shl0 (Int64.ofNat 1) v) k6.1.1 (zJc_J rfl k6.1.1.2.2.2.2.2.2.2)
    have ev : za_shl0 (Int64.ofNat 1) v = yBit (d.1 1 * ys_vl T n (ys_nx T n p) + ys_vl T n p) := by
      unfold yBit
      rw [← k1, Int32.ofInt_toInt]
    refine zw_ld (n := 1) (k := 1) (f := zp_isR) (pc' := 18) rfl rfl (zw_gt rfl rfl rfl) rfl rfl ?_
    refine zw_s (pc' := 19) rfl rfl ?_
    refine zw_gL (q := 22) (pc' := 22) W1 rfl rfl rfl rfl rfl ?_
    refine zw_ld (n := 1) (k := 2) (f := zp_isI) (pc' := 23) rfl rfl zw_g1 rfl rfl ?_
    refine zw_cx (pc' := 26) (zw_csx (Y := zm_4) rfl rfl zm_4_t) rfl rfl rfl rfl rfl (zn_bit) ?_
    refine zw_lor (pc' := 27) rfl rfl ?_
    refine zw_pL (q := 22) (pc' := 30) W1 rfl rfl rfl rfl rfl rfl ?_
    refine zw_s (pc' := 31) rfl rfl ?_
    refine zw_rz rfl rfl (by decide) ?_
    refine yRL_1 (yE_c k6 b1 rfl rfl) (d' := (yU d.1 3 (d.1 3 + 1), d.2.1 ||| yBit (d.1 1 * ys_vl T n (ys_nx T n p) + ys_vl T n p), d.2.2)) ⟨?_, xXc_k (d := (d.1, d.2.1 ||| yBit (d.1 1 * ys_vl T n (ys_nx T n p) + ys_vl T n p), d.2.2)) (by decide) (xXc_Jo hX1)⟩ (yR2_t (yR2_s (yN2_3.trans (k2 _))) (yR2_s ?_)) (ys_le2 h.2.2)
    · obtain ⟨g1, g2, g3, g4, g5, g6, g7, g8, g9, g10⟩ := hD1
      refine ⟨g1, g2, g3, g4, g5, g6, g7, g8, ?_, g10.1, ?_⟩
      · show zp_u H1.2.2.1 22 3 _ 22 3 = _
        rw [zp_u_self, g9, ev]
        rfl
      · have r0 := zB_fr1 k6.1.1 (p := 22) (k := 0) (r := (2, 8)) rfl
        have r0 : 2 ≤ (H1.2.1 22 0).toInt ∧ (H1.2.1 22 0).toInt ≤ 8 := r0
        obtain ⟨c, hc, ec⟩ : ∃ c : Nat, c < 64 ∧ d.1 1 * ys_vl T n (ys_nx T n p) + ys_vl T n p = (c : Int) := ⟨v.toInt.toNat, by omega, by omega⟩
        have k5 := k5
        rw [hD.2.2.2.2.2.2.2.2.1, ec] at k5
        show (yBC (d.2.1 ||| yBit (d.1 1 * ys_vl T n (ys_nx T n p) + ys_vl T n p))).toInt = d.1 3 + 1
        rw [ec, hbu _ c hc k5, g10.2]
    · rw [yN2_4, k3]
      show (if d.2.1 &&& yBit _ = 0 then _ else _) = _
      rw [hD.2.2.2.2.2.2.2.2.1] at k5
      rw [if_pos k5]
  · refine zw_s (pc' := 16) rfl rfl ?_
    refine zw_rz rfl rfl (by decide) ?_
    rcases c3 with ⟨_, _, _, k4, _⟩ | ⟨_, k, q, k1, k2, k3, k5, k6⟩
    · omega
    · refine yRL_0 k5 k3 ?_ ⟨k1, k2⟩
      rcases k6 with ⟨rfl, m1⟩ | ⟨rfl, m1, m2⟩ | ⟨rfl, rfl, m1, m2, m3⟩
      · exact yA2_done (yN2_3.trans (m1 _))
      · refine yA2_step (yN2_3.trans (m1 _)) (yA2_done ?_)
        rw [yN2_4, m2]
      · refine yA2_step (yN2_3.trans (m1 _)) (yA2_done ?_)
        rw [yN2_4, m2]
        show (if d.2.1 &&& yBit _ = 0 then _ else _) = _
        rw [hD.2.2.2.2.2.2.2.2.1] at m3
        rw [if_neg m3]
end
