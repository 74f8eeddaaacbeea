/-! ===== the reference: numbers, ways, exactly ===== -/
def zm_181 : za_MI := (yX12_number, prog_14_method_22_code, 4, (some FieldType.int), 12, 0, 0, [], za_i181)
theorem zm_181_t : za_MT 181 = some zm_181 := rfl
def zm_182 : za_MI := (yX12_numberHere, prog_14_method_21_code, 3, (some FieldType.boolean), 12, 0, 0, [], za_i182)
theorem zm_182_t : za_MT 182 = some zm_182 := rfl
def zm_189 : za_MI := (yX12_isWay, prog_14_method_23_code, 1, (some FieldType.boolean), 12, 0, 0, [], za_i189)
theorem zm_189_t : za_MT 189 = some zm_189 := rfl
/-- the reference stands at a token -/
def yP (T : Nat → Int) (n p : Nat) (H : zp_H) : Prop := yr_T T n H ∧ yr_k T n p H ∧ p ≤ n
theorem yp_go {L : Nat} {σ : Nat → Int32} {d : Nat} {T : Nat → Int} {n p : Nat} {H : zp_H} (hby : ∀ k, k < n → -128 ≤ T k ∧ T k ≤ 127) (hB : zk_Bs zR zg zJ H) (h : yP T n p H) : ∃ H1, zp_Call L σ (d + 2) 171 [.inr (.inr (some 73))] H (.inl none, H1) ∧ zk_Bs zR zg zJ H1 ∧ zk_Fr zg yr_m [] H H1 ∧ yP T n (ys_nx T n p) H1 := by
  obtain ⟨H1, c1, c2, c3, _, _⟩ := zx_goes (L := L) (σ := σ) (d := d) hB
  obtain ⟨v1, v2, v3⟩ := h
  have hn := ys_nxb (T := T) v3
  obtain ⟨_, c4, H2, rfl, c5, c6, c7⟩ := yr_goes (L := L) (σ := σ) (d := d) (p := ys_nx T n p) hby ⟨zR_T hB, v1⟩ v2.2.1 hn.2.2.1
  have e := zp_Call_u c1 c4
  have e : H1 = H2 := by cases e; rfl
  subst e
  exact ⟨H1, c1, c2, c6, c5.2, c7, hn.2.2.1⟩
theorem yp_wr {L : Nat} {σ : Nat → Int32} {d : Nat} {T : Nat → Int} {n p : Nat} {H : zp_H} {y : Int32} (hB : zk_Bs zR zg zJ H) (hg : (H.2.1 72 23).toInt = 0) (h : yP T n p H) (hy : 1 ≤ y.toInt ∧ y.toInt ≤ 5) : ∃ H1, zp_Call L σ (d + 1) 180 [.inr (.inr (some 73)), .inl y] H (.inl none, H1) ∧ zk_Bs zR zg zJ H1 ∧ (H1.2.1 72 23).toInt ≠ 0 ∧ zk_Fr zg zl_M [] H H1 ∧ yD T n (y.toInt, p) H1 := by
  obtain ⟨H1, c1, c2, c3, c4⟩ := zl_wrong (L := L) (σ := σ) (d := d) hB hy
  have e := zp_Call_u c1 (zq_wrong0 (d := 0) (zR_Wd (zR_dn hB)) hg)
  have e : H1 = zw_I (zw_I H 72 23 y) 72 24 (H.2.1 72 29) := by cases e; rfl
  refine ⟨H1, c1, c2, c3, c4, ?_⟩
  rw [e]
  refine ⟨yr_T_w h.1 (by omega), congrArg Int32.toInt (zw_ne zw_eq rfl), (by show y.toInt ≠ 0; omega), ?_⟩
  exact (congrArg Int32.toInt zw_eq).trans h.2.1.1
/-- no number from lo to hi stands here -/
def yNo (T : Nat → Int) (n p : Nat) (lo hi : Int) (r : Int × Nat) : Prop := ∀ ok, yNu T n p lo hi ok = .inr r

set_option maxRecDepth 8000 in
theorem yp_nh {L : Nat} {σ : Nat → Int32} {d : Nat} {T : Nat → Int} {n p : Nat} {H : zp_H} {x y : Int32} (hB : zk_Bs zR zg zJ H) (hg : (H.2.1 72 23).toInt = 0) (h : yP T n p H) (hy : y.toInt < 2147483647) : ∃ X, zp_Call L σ (d + 2) 182 [.inr (.inr (some 73)), .inl x, .inl y] H X ∧ ((X = (.inl (some (.inl (Int32.ofInt 1))), H) ∧ ys_kd T n p = 2 ∧ x.toInt ≤ ys_vl T n p ∧ ys_vl T n p ≤ y.toInt ∧ (H.2.1 72 31).toInt = ys_vl T n p) ∨ (∃ H1, X = (.inl (some (.inl (Int32.ofInt 0))), H1) ∧ zk_Bs zR zg zJ H1 ∧ (H1.2.1 72 23).toInt ≠ 0 ∧ zk_Fr zg zl_M [] H H1 ∧ ∃ r, yD T n r H1 ∧ yNo T n p x.toInt y.toInt r)) := by
  have W := zR_Wd (zR_dn hB)
  have k28 : (H.2.1 72 28).toInt = yr_s (ys_kd T n p) := h.2.1.2.2.1
  refine zw_met zm_182_t rfl rfl ?_
  refine zw_ld (n := 1) (k := 0) (f := zp_isR) (pc' := 1) rfl rfl rfl rfl rfl ?_
  refine zw_c (pc' := 4) (zw_cv (q := 72) (Y := zm_175) W.1 rfl rfl zm_175_t rfl rfl) rfl rfl rfl rfl rfl (zq_good1 W hg) ?_
  refine zw_bne1 (g := 9) (pc' := 7) rfl rfl rfl (rfl : _ = (1 : Int)) (fun hb => ?_) (fun h9 => absurd h9 (by decide))
  refine zw_ld (n := 1) (k := 0) (f := zp_isR) (pc' := 10) rfl rfl rfl rfl rfl ?_
  refine zw_gI (q := 72) (pc' := 13) W rfl rfl rfl rfl rfl rfl ?_
  refine zw_s (pc' := 14) rfl rfl ?_
  refine zw_beq2 (g := 25) (pc' := 17) rfl rfl rfl rfl (rfl : _ = (2 : Int)) (fun hb => ?_) (fun hb => ?_)
  · have hk : ys_kd T n p = 2 := yr_s_2.mp (k28.symm.trans hb)
    have nm := yr_nm h.2.2 h.2.1 hk
    refine zw_ld (n := 1) (k := 0) (f := zp_isR) (pc' := 26) rfl rfl rfl rfl rfl ?_
    refine zw_gI (q := 72) (pc' := 29) W rfl rfl rfl rfl rfl rfl ?_
    refine zw_s (pc' := 30) rfl rfl ?_
    refine zw_bgt2 (g := 49) (pc' := 33) rfl rfl rfl rfl (rfl : _ = (4 : Int)) (fun h1 => ?_) (fun h1 => ?_)
    · obtain ⟨H1, c1, c2, c3, c4, c5⟩ := yp_wr (L := L) (σ := σ) (d := d) (y := Int32.ofInt 2) hB hg h (by decide)
      have W1 := zR_Wd (zR_dn c2)
      refine zw_ld (n := 1) (k := 0) (f := zp_isR) (pc' := 50) rfl rfl rfl rfl rfl ?_
      refine zw_s (pc' := 51) rfl rfl ?_
      refine zw_cn (pc' := 54) (zw_cv (q := 72) (Y := zm_180) W.1 rfl rfl zm_180_t rfl rfl) rfl rfl rfl rfl rfl (c1) ?_
      refine zw_ld (n := 1) (k := 0) (f := zp_isR) (pc' := 55) rfl rfl rfl rfl rfl ?_
      refine zw_c (pc' := 58) (zw_cv (q := 72) (Y := zm_175) W1.1 rfl rfl zm_175_t rfl rfl) rfl rfl rfl rfl rfl (zq_good0 W1 c3) ?_
      refine zw_rz rfl rfl (by decide) ?_
      exact Or.inr ⟨H1, rfl, c2, c3, c4, _, c5, fun ok => by unfold yNu; rw [if_pos hk, if_neg (by rcases nm with nm | nm <;> omega)]; rfl⟩
    · refine zw_ld (n := 1) (k := 0) (f := zp_isR) (pc' := 34) rfl rfl rfl rfl rfl ?_
      refine zw_gI (q := 72) (pc' := 37) W rfl rfl rfl rfl rfl rfl ?_
      refine zw_ld (n := 1) (k := 1) (f := zp_isI) (pc' := 38) rfl rfl rfl rfl rfl ?_
      refine zw_blt2 (g := 49) (pc' := 41) rfl rfl rfl rfl rfl (fun h2 => ?_) (fun h2 => ?_)
      · obtain ⟨H1, c1, c2, c3, c4, c5⟩ := yp_wr (L := L) (σ := σ) (d := d) (y := Int32.ofInt 2) hB hg h (by decide)
        have W1 := zR_Wd (zR_dn c2)
        refine zw_ld (n := 1) (k := 0) (f := zp_isR) (pc' := 50) rfl rfl rfl rfl rfl ?_
        refine zw_s (pc' := 51) rfl rfl ?_
        refine zw_cn (pc' := 54) (zw_cv (q := 72) (Y := zm_180) W.1 rfl rfl zm_180_t rfl rfl) rfl rfl rfl rfl rfl (c1) ?_
        refine zw_ld (n := 1) (k := 0) (f := zp_isR) (pc' := 55) rfl rfl rfl rfl rfl ?_
        refine zw_c (pc' := 58) (zw_cv (q := 72) (Y := zm_175) W1.1 rfl rfl zm_175_t rfl rfl) rfl rfl rfl rfl rfl (zq_good0 W1 c3) ?_
        refine zw_rz rfl rfl (by decide) ?_
        exact Or.inr ⟨H1, rfl, c2, c3, c4, _, c5, fun ok => by unfold yNu; rw [if_pos hk, if_neg (by rcases nm with nm | nm <;> omega)]; rfl⟩
      · refine zw_ld (n := 1) (k := 0) (f := zp_isR) (pc' := 42) rfl rfl rfl rfl rfl ?_
        refine zw_gI (q := 72) (pc' := 45) W rfl rfl rfl rfl rfl rfl ?_
        refine zw_ld (n := 1) (k := 2) (f := zp_isI) (pc' := 46) rfl rfl rfl rfl rfl ?_
        refine zw_ble2 (g := 54) (pc' := 49) rfl rfl rfl rfl rfl (fun h3 => ?_) (fun h3 => ?_)
        · refine zw_ld (n := 1) (k := 0) (f := zp_isR) (pc' := 55) rfl rfl rfl rfl rfl ?_
          refine zw_c (pc' := 58) (zw_cv (q := 72) (Y := zm_175) W.1 rfl rfl zm_175_t rfl rfl) rfl rfl rfl rfl rfl (zq_good1 W hg) ?_
          refine zw_rz rfl rfl (by decide) ?_
          exact Or.inl ⟨rfl, hk, by rcases nm with nm | nm <;> omega, by rcases nm with nm | nm <;> omega, by rcases nm with nm | nm <;> omega⟩
        · obtain ⟨H1, c1, c2, c3, c4, c5⟩ := yp_wr (L := L) (σ := σ) (d := d) (y := Int32.ofInt 2) hB hg h (by decide)
          have W1 := zR_Wd (zR_dn c2)
          refine zw_ld (n := 1) (k := 0) (f := zp_isR) (pc' := 50) rfl rfl rfl rfl rfl ?_
          refine zw_s (pc' := 51) rfl rfl ?_
          refine zw_cn (pc' := 54) (zw_cv (q := 72) (Y := zm_180) W.1 rfl rfl zm_180_t rfl rfl) rfl rfl rfl rfl rfl (c1) ?_
          refine zw_ld (n := 1) (k := 0) (f := zp_isR) (pc' := 55) rfl rfl rfl rfl rfl ?_
          refine zw_c (pc' := 58) (zw_cv (q := 72) (Y := zm_175) W1.1 rfl rfl zm_175_t rfl rfl) rfl rfl rfl rfl rfl (zq_good0 W1 c3) ?_
          refine zw_rz rfl rfl (by decide) ?_
          exact Or.inr ⟨H1, rfl, c2, c3, c4, _, c5, fun ok => by unfold yNu; rw [if_pos hk, if_neg (by rcases nm with nm | nm <;> omega)]; rfl⟩
  · have hk : ys_kd T n p ≠ 2 := fun h9 => hb (k28.trans (yr_s_2.mpr h9))
    obtain ⟨H1, c1, c2, c3, c4, c5⟩ := yp_wr (L := L) (σ := σ) (d := d) (y := Int32.ofInt 1) hB hg h (by decide)
    have W1 := zR_Wd (zR_dn c2)
    refine zw_ld (n := 1) (k := 0) (f := zp_isR) (pc' := 18) rfl rfl rfl rfl rfl ?_
    refine zw_s (pc' := 19) rfl rfl ?_
    refine zw_cn (pc' := 22) (zw_cv (q := 72) (Y := zm_180) W.1 rfl rfl zm_180_t rfl rfl) rfl rfl rfl rfl rfl (c1) ?_
    refine zw_s (pc' := 54) rfl rfl ?_
    refine zw_ld (n := 1) (k := 0) (f := zp_isR) (pc' := 55) rfl rfl rfl rfl rfl ?_
    refine zw_c (pc' := 58) (zw_cv (q := 72) (Y := zm_175) W1.1 rfl rfl zm_175_t rfl rfl) rfl rfl rfl rfl rfl (zq_good0 W1 c3) ?_
    refine zw_rz rfl rfl (by decide) ?_
    exact Or.inr ⟨H1, rfl, c2, c3, c4, _, c5, fun ok => by unfold yNu; rw [if_neg hk]; rfl⟩

set_option maxRecDepth 8000 in
theorem yp_nh0 {L : Nat} {σ : Nat → Int32} {d : Nat} {H : zp_H} {x y : Int32} (hB : zk_Bs zR zg zJ H) (hg : (H.2.1 72 23).toInt ≠ 0) : zp_Call L σ (d + 2) 182 [.inr (.inr (some 73)), .inl x, .inl y] H (.inl (some (.inl (Int32.ofInt 0))), H) := by
  have W := zR_Wd (zR_dn hB)
  refine zw_ex ?_
  refine zw_met zm_182_t rfl rfl ?_
  refine zw_ld (n := 1) (k := 0) (f := zp_isR) (pc' := 1) rfl rfl rfl rfl rfl ?_
  refine zw_c (pc' := 4) (zw_cv (q := 72) (Y := zm_175) W.1 rfl rfl zm_175_t rfl rfl) rfl rfl rfl rfl rfl (zq_good0 W hg) ?_
  refine zw_bne1 (g := 9) (pc' := 7) rfl rfl rfl (rfl : _ = (0 : Int)) (fun h9 => absurd h9 (by decide)) (fun hb => ?_)
  refine zw_s (pc' := 8) rfl rfl ?_
  refine zw_rz rfl rfl (by decide) ?_
  rfl

set_option maxRecDepth 8000 in
theorem yp_nu {L : Nat} {σ : Nat → Int32} {d : Nat} {T : Nat → Int} {n p : Nat} {H : zp_H} {x y : Int32} (hby : ∀ k, k < n → -128 ≤ T k ∧ T k ≤ 127) (hB : zk_Bs zR zg zJ H) (hg : (H.2.1 72 23).toInt = 0) (h : yP T n p H) (hy : y.toInt < 2147483647) : ∃ X, zp_Call L σ (d + 3) 181 [.inr (.inr (some 73)), .inl x, .inl y] H X ∧ ((∃ v H1, X = (.inl (some (.inl v)), H1) ∧ zk_Bs zR zg zJ H1 ∧ zk_Fr zg zl_M [] H H1 ∧ (H1.2.1 72 23).toInt = 0 ∧ ys_kd T n p = 2 ∧ x.toInt ≤ ys_vl T n p ∧ ys_vl T n p ≤ y.toInt ∧ v.toInt = ys_vl T n p ∧ yP T n (ys_nx T n p) H1) ∨ (∃ H1, X = (.inl (some (.inl (Int32.ofInt 0))), H1) ∧ zk_Bs zR zg zJ H1 ∧ (H1.2.1 72 23).toInt ≠ 0 ∧ zk_Fr zg zl_M [] H H1 ∧ ∃ r, yD T n r H1 ∧ yNo T n p x.toInt y.toInt r)) := by
  have W := zR_Wd (zR_dn hB)
  refine zw_met zm_181_t rfl rfl ?_
  refine zw_ld (n := 1) (k := 0) (f := zp_isR) (pc' := 1) rfl rfl rfl rfl rfl ?_
  refine zw_ld (n := 1) (k := 1) (f := zp_isI) (pc' := 2) rfl rfl rfl rfl rfl ?_
  refine zw_ld (n := 1) (k := 2) (f := zp_isI) (pc' := 3) rfl rfl rfl rfl rfl ?_
  obtain ⟨_, n1, ⟨rfl, n2, n3, n4, n5⟩ | ⟨H1, rfl, n2, n3, n4, r, n5, n6⟩⟩ := yp_nh (L := L) (σ := σ) (d := d) (x := x) (y := y) hB hg h hy
  · refine zw_c (pc' := 6) (zw_cv (q := 72) (Y := zm_182) W.1 rfl rfl zm_182_t rfl rfl) rfl rfl rfl rfl rfl (n1) ?_
    refine zw_beq1 (g := 16) (pc' := 9) rfl rfl rfl (rfl : _ = (1 : Int)) (fun h9 => absurd h9 (by decide)) (fun hb => ?_)
    refine zw_ld (n := 1) (k := 0) (f := zp_isR) (pc' := 10) rfl rfl rfl rfl rfl ?_
    refine zw_gI (q := 72) (pc' := 13) W rfl rfl rfl rfl rfl rfl ?_
    refine zw_s (pc' := 17) rfl rfl ?_
    refine zw_st (n := 1) (k := 3) (f := zp_isI) (pc' := 18) rfl rfl rfl rfl rfl ?_
    refine zw_ld (n := 1) (k := 0) (f := zp_isR) (pc' := 19) rfl rfl (zw_gt rfl rfl rfl) rfl rfl ?_
    refine zw_c (pc' := 22) (zw_cv (q := 72) (Y := zm_175) W.1 rfl rfl zm_175_t rfl rfl) rfl rfl rfl rfl rfl (zq_good1 W hg) ?_
    refine zw_beq1 (g := 29) (pc' := 25) rfl rfl rfl (rfl : _ = (1 : Int)) (fun h9 => absurd h9 (by decide)) (fun hb => ?_)
    obtain ⟨H1, g1, g2, g3, g4⟩ := yp_go (L := L) (σ := σ) (d := d) hby hB h
    refine zw_ld (n := 1) (k := 0) (f := zp_isR) (pc' := 26) rfl rfl (zw_gt rfl rfl rfl) rfl rfl ?_
    refine zw_cn (pc' := 29) (zw_cv (q := 72) (Y := zm_171) W.1 rfl rfl zm_171_t rfl rfl) rfl rfl rfl rfl rfl (g1) ?_
    refine zw_ld (n := 1) (k := 3) (f := zp_isI) (pc' := 30) rfl rfl zw_g1 rfl rfl ?_
    refine zw_ri rfl rfl ?_
    exact Or.inl ⟨_, H1, rfl, g2, zk_Fr_w rfl rfl g3, (zx_fe g3 23 rfl rfl rfl).trans hg, n2, n3, n4, n5, g4⟩
  · have W1 := zR_Wd (zR_dn n2)
    refine zw_c (pc' := 6) (zw_cv (q := 72) (Y := zm_182) W.1 rfl rfl zm_182_t rfl rfl) rfl rfl rfl rfl rfl (n1) ?_
    refine zw_beq1 (g := 16) (pc' := 9) rfl rfl rfl (rfl : _ = (0 : Int)) (fun hb => ?_) (fun h9 => absurd h9 (by decide))
    refine zw_s (pc' := 17) rfl rfl ?_
    refine zw_st (n := 1) (k := 3) (f := zp_isI) (pc' := 18) rfl rfl rfl rfl rfl ?_
    refine zw_ld (n := 1) (k := 0) (f := zp_isR) (pc' := 19) rfl rfl (zw_gt rfl rfl rfl) rfl rfl ?_
    refine zw_c (pc' := 22) (zw_cv (q := 72) (Y := zm_175) W1.1 rfl rfl zm_175_t rfl rfl) rfl rfl rfl rfl rfl (zq_good0 W1 n3) ?_
    refine zw_beq1 (g := 29) (pc' := 25) rfl rfl rfl (rfl : _ = (0 : Int)) (fun hb => ?_) (fun h9 => absurd h9 (by decide))
    refine zw_ld (n := 1) (k := 3) (f := zp_isI) (pc' := 30) rfl rfl zw_g1 rfl rfl ?_
    refine zw_ri rfl rfl ?_
    exact Or.inr ⟨H1, rfl, n2, n3, n4, r, n5, n6⟩

set_option maxRecDepth 8000 in
theorem yp_nu0 {L : Nat} {σ : Nat → Int32} {d : Nat} {H : zp_H} {x y : Int32} (hB : zk_Bs zR zg zJ H) (hg : (H.2.1 72 23).toInt ≠ 0) : zp_Call L σ (d + 3) 181 [.inr (.inr (some 73)), .inl x, .inl y] H (.inl (some (.inl (Int32.ofInt 0))), H) := by
  have W := zR_Wd (zR_dn hB)
  refine zw_ex ?_
  refine zw_met zm_181_t rfl rfl ?_
  refine zw_ld (n := 1) (k := 0) (f := zp_isR) (pc' := 1) rfl rfl rfl rfl rfl ?_
  refine zw_ld (n := 1) (k := 1) (f := zp_isI) (pc' := 2) rfl rfl rfl rfl rfl ?_
  refine zw_ld (n := 1) (k := 2) (f := zp_isI) (pc' := 3) rfl rfl rfl rfl rfl ?_
  refine zw_c (pc' := 6) (zw_cv (q := 72) (Y := zm_182) W.1 rfl rfl zm_182_t rfl rfl) rfl rfl rfl rfl rfl (yp_nh0 (d := d) hB hg) ?_
  refine zw_beq1 (g := 16) (pc' := 9) rfl rfl rfl (rfl : _ = (0 : Int)) (fun hb => ?_) (fun h9 => absurd h9 (by decide))
  refine zw_s (pc' := 17) rfl rfl ?_
  refine zw_st (n := 1) (k := 3) (f := zp_isI) (pc' := 18) rfl rfl rfl rfl rfl ?_
  refine zw_ld (n := 1) (k := 0) (f := zp_isR) (pc' := 19) rfl rfl (zw_gt rfl rfl rfl) rfl rfl ?_
  refine zw_c (pc' := 22) (zw_cv (q := 72) (Y := zm_175) W.1 rfl rfl zm_175_t rfl rfl) rfl rfl rfl rfl rfl (zq_good0 W hg) ?_
  refine zw_beq1 (g := 29) (pc' := 25) rfl rfl rfl (rfl : _ = (0 : Int)) (fun hb => ?_) (fun h9 => absurd h9 (by decide))
  refine zw_ld (n := 1) (k := 3) (f := zp_isI) (pc' := 30) rfl rfl zw_g1 rfl rfl ?_
  refine zw_ri rfl rfl ?_
  rfl

/-- the reference read on: from s0 on it is read as from s on; or it met the fault of s0 -/
def yS (T : Nat → Int) (n : Nat) (s0 : yL) (s : Nat → yL) (H : zp_H) : Prop := ((H.2.1 72 23).toInt = 0 ∧ ∃ q, yP T n q H ∧ yR2 T n s0 (s q)) ∨ ((H.2.1 72 23).toInt ≠ 0 ∧ ∃ r, yD T n r H ∧ yA2 T n s0 r)
theorem yS_nu {L : Nat} {σ : Nat → Int32} {d : Nat} {T : Nat → Int} {n : Nat} {H : zp_H} {x y : Int32} {s0 : yL} {s : Nat → yL} {ok : Int → Nat → yL} (hby : ∀ k, k < n → -128 ≤ T k ∧ T k ≤ 127) (hB : zk_Bs zR zg zJ H) (hs : yS T n s0 s H) (hN : ∀ q, yN2 T n (s q) = yNu T n q x.toInt y.toInt (fun v => ok v (ys_nx T n q))) (hy : y.toInt < 2147483647) : ∃ v H1, zp_Call L σ (d + 3) 181 [.inr (.inr (some 73)), .inl x, .inl y] H (.inl (some (.inl v)), H1) ∧ zk_Bs zR zg zJ H1 ∧ zk_Fr zg zl_M [] H H1 ∧ yS T n s0 (ok v.toInt) H1 ∧ ((H1.2.1 72 23).toInt = 0 → (H.2.1 72 23).toInt = 0 ∧ x.toInt ≤ v.toInt ∧ v.toInt ≤ y.toInt) ∧ ((H1.2.1 72 23).toInt ≠ 0 → v = Int32.ofInt 0) := by
  rcases hs with ⟨g, q, hP, hR⟩ | ⟨b, r, hD, hA⟩
  · obtain ⟨_, c, ⟨v, H1, rfl, b1, f1, g1, k, l1, l2, e, P1⟩ | ⟨H1, rfl, b1, b2, f1, r, hD, hN1⟩⟩ := yp_nu (L := L) (σ := σ) (d := d) (x := x) (y := y) hby hB g hP hy
    · refine ⟨v, H1, c, b1, f1, Or.inl ⟨g1, _, P1, yR2_t hR (yR2_s ?_)⟩, fun _ => ⟨g, by omega, by omega⟩, fun h9 => absurd g1 h9⟩
      rw [hN q]
      unfold yNu
      rw [if_pos k, if_pos ⟨l1, l2⟩, e]
    · refine ⟨_, H1, c, b1, f1, Or.inr ⟨b2, r, hD, yR2_a hR (yA2_done ?_)⟩, fun h9 => absurd h9 b2, fun _ => rfl⟩
      rw [hN q]
      exact hN1 _
  · exact ⟨_, H, yp_nu0 hB b, hB, zk_Fr_r H, Or.inr ⟨b, r, hD, hA⟩, fun h9 => absurd h9 b, fun _ => rfl⟩

set_option maxRecDepth 8000 in
theorem yp_need {L : Nat} {σ : Nat → Int32} {d : Nat} {T : Nat → Int} {n p : Nat} {H : zp_H} {y : Int32} (hby : ∀ k, k < n → -128 ≤ T k ∧ T k ≤ 127) (hB : zk_Bs zR zg zJ H) (hg : (H.2.1 72 23).toInt = 0) (h : yP T n p H) : ∃ X, zp_Call L σ (d + 3) 186 [.inr (.inr (some 73)), .inl y] H X ∧ ∃ H1, X = (.inl none, H1) ∧ zk_Bs zR zg zJ H1 ∧ zk_Fr zg zl_M [] H H1 ∧ ((y.toInt ≠ 0 ∧ (H1.2.1 72 23).toInt = 0 ∧ yP T n (ys_nx T n p) H1) ∨ (y.toInt = 0 ∧ (H1.2.1 72 23).toInt ≠ 0 ∧ yD T n (1, p) H1)) := by
  have W := zR_Wd (zR_dn hB)
  refine zw_met zm_186_t rfl rfl ?_
  refine zw_ld (n := 1) (k := 0) (f := zp_isR) (pc' := 1) rfl rfl rfl rfl rfl ?_
  refine zw_c (pc' := 4) (zw_cv (q := 72) (Y := zm_175) W.1 rfl rfl zm_175_t rfl rfl) rfl rfl rfl rfl rfl (zq_good1 W hg) ?_
  refine zw_bne1 (g := 8) (pc' := 7) rfl rfl rfl (rfl : _ = (1 : Int)) (fun hb => ?_) (fun h9 => absurd h9 (by decide))
  refine zw_ld (n := 1) (k := 1) (f := zp_isI) (pc' := 9) rfl rfl rfl rfl rfl ?_
  refine zw_beq1 (g := 19) (pc' := 12) rfl rfl rfl rfl (fun hy => ?_) (fun hy => ?_)
  · obtain ⟨H1, c1, c2, c3, c4, c5⟩ := yp_wr (L := L) (σ := σ) (d := d + 1) (y := Int32.ofInt 1) hB hg h (by decide)
    refine zw_ld (n := 1) (k := 0) (f := zp_isR) (pc' := 20) rfl rfl rfl rfl rfl ?_
    refine zw_s (pc' := 21) rfl rfl ?_
    refine zw_cn (pc' := 24) (zw_cv (q := 72) (Y := zm_180) W.1 rfl rfl zm_180_t rfl rfl) rfl rfl rfl rfl rfl (c1) ?_
    refine zw_rn rfl rfl ?_
    exact ⟨H1, rfl, c2, c4, Or.inr ⟨hy, c3, c5⟩⟩
  · obtain ⟨H1, c1, c2, c3, c4⟩ := yp_go (L := L) (σ := σ) (d := d) hby hB h
    refine zw_ld (n := 1) (k := 0) (f := zp_isR) (pc' := 13) rfl rfl rfl rfl rfl ?_
    refine zw_cn (pc' := 16) (zw_cv (q := 72) (Y := zm_171) W.1 rfl rfl zm_171_t rfl rfl) rfl rfl rfl rfl rfl (c1) ?_
    refine zw_s (pc' := 24) rfl rfl ?_
    refine zw_rn rfl rfl ?_
    exact ⟨H1, rfl, c2, zk_Fr_w rfl rfl c3, Or.inl ⟨hy, (zx_fe c3 23 rfl rfl rfl).trans hg, c4⟩⟩

set_option maxRecDepth 8000 in
theorem yp_need0 {L : Nat} {σ : Nat → Int32} {d : Nat} {H : zp_H} {y : Int32} (hB : zk_Bs zR zg zJ H) (hg : (H.2.1 72 23).toInt ≠ 0) : zp_Call L σ (d + 3) 186 [.inr (.inr (some 73)), .inl y] H (.inl none, H) := by
  have W := zR_Wd (zR_dn hB)
  refine zw_ex ?_
  refine zw_met zm_186_t rfl rfl ?_
  refine zw_ld (n := 1) (k := 0) (f := zp_isR) (pc' := 1) rfl rfl rfl rfl rfl ?_
  refine zw_c (pc' := 4) (zw_cv (q := 72) (Y := zm_175) W.1 rfl rfl zm_175_t rfl rfl) rfl rfl rfl rfl rfl (zq_good0 W hg) ?_
  refine zw_bne1 (g := 8) (pc' := 7) rfl rfl rfl (rfl : _ = (0 : Int)) (fun h9 => absurd h9 (by decide)) (fun hb => ?_)
  refine zw_rn rfl rfl ?_
  rfl

set_option maxRecDepth 8000 in
theorem yS_need {L : Nat} {σ : Nat → Int32} {d : Nat} {T : Nat → Int} {n : Nat} {H : zp_H} {y : Int32} {s0 : yL} {s s' : Nat → yL} (hby : ∀ k, k < n → -128 ≤ T k ∧ T k ≤ 127) (hB : zk_Bs zR zg zJ H) (hs : yS T n s0 s H) (h1 : y.toInt ≠ 0 → ∀ q, yP T n q H → yN2 T n (s q) = .inl (s' (ys_nx T n q))) (h0 : y.toInt = 0 → ∀ q, (H.2.1 72 23).toInt = 0 → yP T n q H → yN2 T n (s q) = .inr (1, q)) : ∃ H1, zp_Call L σ (d + 3) 186 [.inr (.inr (some 73)), .inl y] H (.inl none, H1) ∧ zk_Bs zR zg zJ H1 ∧ zk_Fr zg zl_M [] H H1 ∧ yS T n s0 s' H1 ∧ ((H1.2.1 72 23).toInt = 0 → (H.2.1 72 23).toInt = 0 ∧ y.toInt ≠ 0) := by
  rcases hs with ⟨g, q, hP, hR⟩ | ⟨b, r, hD, hA⟩
  · obtain ⟨_, c, H1, rfl, b1, f1, ⟨k, g1, P1⟩ | ⟨k, b2, hD⟩⟩ := yp_need (L := L) (σ := σ) (d := d) (y := y) hby hB g hP
    · exact ⟨H1, c, b1, f1, Or.inl ⟨g1, _, P1, yR2_t hR (yR2_s (h1 k q hP))⟩, fun _ => ⟨g, k⟩⟩
    · exact ⟨H1, c, b1, f1, Or.inr ⟨b2, _, hD, yR2_a hR (yA2_done (h0 k q g hP))⟩, fun h9 => absurd h9 b2⟩
  · exact ⟨H, yp_need0 hB b, hB, zk_Fr_r H, Or.inr ⟨b, r, hD, hA⟩, fun h9 => absurd h9 b⟩
/-- a way's word -/
theorem yr_way {T : Nat → Int} {n p : Nat} {H : zp_H} (h : yP T n p H) : (0 ≤ zg H ∧ zg H ≤ 3) ↔ (ys_kd T n p = 3 ∧ ys_vl T n p < 4) := by
  rw [yr_zg h.2.2 h.2.1]
  by_cases hk : ys_kd T n p = 3
  · rw [if_pos hk]
    have hv := ys_vl_b hk
    rcases yw_m8 hv with h9 | h9
    · constructor
      · intro h8
        exact ⟨hk, by omega⟩
      · intro h8
        omega
    · constructor
      · intro h8
        omega
      · intro h8
        omega
  · rw [if_neg hk]
    constructor
    · intro h8
      omega
    · intro h8
      exact absurd h8.1 hk

set_option maxRecDepth 8000 in
theorem yp_wi1 {L : Nat} {σ : Nat → Int32} {d : Nat} {H : zp_H} {x y z : Int32} (h : y.toInt ≤ x.toInt ∧ x.toInt ≤ z.toInt) : zp_Call L σ (d + 1) 185 [.inl x, .inl y, .inl z] H (.inl (some (.inl (Int32.ofInt 1))), H) := by
  refine zw_ex ?_
  refine zw_met zm_185_t rfl rfl ?_
  refine zw_ld (n := 1) (k := 0) (f := zp_isI) (pc' := 1) rfl rfl rfl rfl rfl ?_
  refine zw_ld (n := 1) (k := 1) (f := zp_isI) (pc' := 2) rfl rfl rfl rfl rfl ?_
  refine zw_blt2 (g := 14) (pc' := 5) rfl rfl rfl rfl rfl (fun h1 => ?_) (fun h1 => ?_)
  · exfalso
    omega
  · refine zw_ld (n := 1) (k := 0) (f := zp_isI) (pc' := 6) rfl rfl rfl rfl rfl ?_
    refine zw_ld (n := 1) (k := 2) (f := zp_isI) (pc' := 7) rfl rfl rfl rfl rfl ?_
    refine zw_bgt2 (g := 14) (pc' := 10) rfl rfl rfl rfl rfl (fun h2 => ?_) (fun h2 => ?_)
    · exfalso
      omega
    · refine zw_s (pc' := 11) rfl rfl ?_
      refine zw_s (pc' := 15) rfl rfl ?_
      refine zw_rz rfl rfl (by decide) ?_
      rfl

set_option maxRecDepth 8000 in
theorem yp_wi0 {L : Nat} {σ : Nat → Int32} {d : Nat} {H : zp_H} {x y z : Int32} (h : ¬ (y.toInt ≤ x.toInt ∧ x.toInt ≤ z.toInt)) : zp_Call L σ (d + 1) 185 [.inl x, .inl y, .inl z] H (.inl (some (.inl (Int32.ofInt 0))), H) := by
  refine zw_ex ?_
  refine zw_met zm_185_t rfl rfl ?_
  refine zw_ld (n := 1) (k := 0) (f := zp_isI) (pc' := 1) rfl rfl rfl rfl rfl ?_
  refine zw_ld (n := 1) (k := 1) (f := zp_isI) (pc' := 2) rfl rfl rfl rfl rfl ?_
  refine zw_blt2 (g := 14) (pc' := 5) rfl rfl rfl rfl rfl (fun h1 => ?_) (fun h1 => ?_)
  · refine zw_s (pc' := 15) rfl rfl ?_
    refine zw_rz rfl rfl (by decide) ?_
    rfl
  · refine zw_ld (n := 1) (k := 0) (f := zp_isI) (pc' := 6) rfl rfl rfl rfl rfl ?_
    refine zw_ld (n := 1) (k := 2) (f := zp_isI) (pc' := 7) rfl rfl rfl rfl rfl ?_
    refine zw_bgt2 (g := 14) (pc' := 10) rfl rfl rfl rfl rfl (fun h2 => ?_) (fun h2 => ?_)
    · refine zw_s (pc' := 15) rfl rfl ?_
      refine zw_rz rfl rfl (by decide) ?_
      rfl
    · exfalso
      omega

def yWy (T : Nat → Int) (n : Nat) (s s' : Nat → yL) (H : zp_H) : Prop := ∀ q, yP T n q H → yN2 T n (s q) = if ys_kd T n q = 3 ∧ ys_vl T n q < 4 then .inl (s' (ys_nx T n q)) else .inr (1, q)

set_option maxRecDepth 8000 in
theorem yS_way {L : Nat} {σ : Nat → Int32} {d : Nat} {T : Nat → Int} {n : Nat} {H : zp_H} {s0 : yL} {s s' : Nat → yL} (hK : zx_KW L σ) (hby : ∀ k, k < n → -128 ≤ T k ∧ T k ≤ 127) (hB : zk_Bs zR zg zJ H) (hs : yS T n s0 s H) (hN : yWy T n s s' H) : ∃ X, zp_Call L σ (d + 5) 184 [.inr (.inr (some 73))] H X ∧ ∃ v H1, X = (.inl (some (.inl v)), H1) ∧ zk_Bs zR zg zJ H1 ∧ zk_Fr zg zl_M [] H H1 ∧ yS T n s0 s' H1 ∧ ((H1.2.1 72 23).toInt = 0 → (H.2.1 72 23).toInt = 0 ∧ 0 ≤ v.toInt ∧ v.toInt ≤ 3) ∧ (-1 ≤ v.toInt ∧ v.toInt ≤ 20) ∧ ((H.2.1 72 23).toInt = 0 → 0 ≤ zg H ∧ zg H ≤ 3 → 0 ≤ v.toInt ∧ v.toInt ≤ 3) ∧ ((H.2.1 72 23).toInt = 0 → v.toInt = zg H) := by
  have W := zR_Wd (zR_dn hB)
  refine zw_met zm_184_t rfl rfl ?_
  refine zw_ld (n := 1) (k := 0) (f := zp_isR) (pc' := 1) rfl rfl rfl rfl rfl ?_
  by_cases hg : (H.2.1 72 23).toInt = 0
  · refine zw_c (pc' := 4) (zw_cv (q := 72) (Y := zm_175) W.1 rfl rfl zm_175_t rfl rfl) rfl rfl rfl rfl rfl (zq_good1 W hg) ?_
    refine zw_beq1 (g := 14) (pc' := 7) rfl rfl rfl (rfl : _ = (1 : Int)) (fun h9 => absurd h9 (by decide)) (fun hb => ?_)
    refine zw_ld (n := 1) (k := 0) (f := zp_isR) (pc' := 8) rfl rfl rfl rfl rfl ?_
    obtain ⟨v, v1, v2⟩ := hK d H hB
    have zi : -1 ≤ zg H ∧ zg H ≤ 20 := zg_in H
    refine zw_c (pc' := 11) (zw_cv (q := 72) (Y := zm_177) W.1 rfl rfl zm_177_t rfl rfl) rfl rfl rfl rfl rfl (v1) ?_
    refine zw_s (pc' := 15) rfl rfl ?_
    refine zw_st (n := 1) (k := 1) (f := zp_isI) (pc' := 16) rfl rfl rfl rfl rfl ?_
    by_cases hw : 0 ≤ zg H ∧ zg H ≤ 3
    · refine zw_ld (n := 1) (k := 0) (f := zp_isR) (pc' := 17) rfl rfl (zw_gt rfl rfl rfl) rfl rfl ?_
      refine zw_ld (n := 1) (k := 1) (f := zp_isI) (pc' := 18) rfl rfl zw_g1 rfl rfl ?_
      refine zw_s (pc' := 19) rfl rfl ?_
      refine zw_s (pc' := 20) rfl rfl ?_
      obtain ⟨H1, n1, n2, n3, n4, n5⟩ := yS_need (L := L) (σ := σ) (d := d + 1) (y := Int32.ofInt 1) (s' := s') hby hB hs (fun _ q hP => by rw [hN q hP, if_pos ((yr_way hP).mp hw)]) (fun h9 => absurd h9 (by decide))
      refine zw_c (pc' := 23) (zw_cs (Y := zm_185) rfl rfl zm_185_t) rfl rfl rfl rfl rfl (yp_wi1 (by show (0 : Int) ≤ _ ∧ _ ≤ (3 : Int); omega)) ?_
      refine zw_cn (pc' := 26) (zw_cv (q := 72) (Y := zm_186) W.1 rfl rfl zm_186_t rfl rfl) rfl rfl rfl rfl rfl (n1) ?_
      refine zw_ld (n := 1) (k := 1) (f := zp_isI) (pc' := 27) rfl rfl zw_g1 rfl rfl ?_
      refine zw_ri rfl rfl ?_
      exact ⟨_, H1, rfl, n2, n3, n4, fun _ => ⟨hg, by omega, by omega⟩, ⟨by omega, by omega⟩, fun _ _ => ⟨by omega, by omega⟩, fun _ => v2⟩
    · refine zw_ld (n := 1) (k := 0) (f := zp_isR) (pc' := 17) rfl rfl (zw_gt rfl rfl rfl) rfl rfl ?_
      refine zw_ld (n := 1) (k := 1) (f := zp_isI) (pc' := 18) rfl rfl zw_g1 rfl rfl ?_
      refine zw_s (pc' := 19) rfl rfl ?_
      refine zw_s (pc' := 20) rfl rfl ?_
      obtain ⟨H1, n1, n2, n3, n4, n5⟩ := yS_need (L := L) (σ := σ) (d := d + 1) (y := Int32.ofInt 0) (s' := s') hby hB hs (fun h9 => absurd rfl h9) (fun _ q _ hP => by rw [hN q hP, if_neg (fun h9 => hw ((yr_way hP).mpr h9))])
      refine zw_c (pc' := 23) (zw_cs (Y := zm_185) rfl rfl zm_185_t) rfl rfl rfl rfl rfl (yp_wi0 (by show ¬ ((0 : Int) ≤ _ ∧ _ ≤ (3 : Int)); omega)) ?_
      refine zw_cn (pc' := 26) (zw_cv (q := 72) (Y := zm_186) W.1 rfl rfl zm_186_t rfl rfl) rfl rfl rfl rfl rfl (n1) ?_
      refine zw_ld (n := 1) (k := 1) (f := zp_isI) (pc' := 27) rfl rfl zw_g1 rfl rfl ?_
      refine zw_ri rfl rfl ?_
      exact ⟨_, H1, rfl, n2, n3, n4, fun h9 => absurd rfl (n5 h9).2, ⟨by omega, by omega⟩, fun _ h9 => absurd h9 hw, fun _ => v2⟩
  · refine zw_c (pc' := 4) (zw_cv (q := 72) (Y := zm_175) W.1 rfl rfl zm_175_t rfl rfl) rfl rfl rfl rfl rfl (zq_good0 W hg) ?_
    refine zw_beq1 (g := 14) (pc' := 7) rfl rfl rfl (rfl : _ = (0 : Int)) (fun hb => ?_) (fun h9 => absurd h9 (by decide))
    refine zw_s (pc' := 15) rfl rfl ?_
    refine zw_st (n := 1) (k := 1) (f := zp_isI) (pc' := 16) rfl rfl rfl rfl rfl ?_
    refine zw_ld (n := 1) (k := 0) (f := zp_isR) (pc' := 17) rfl rfl (zw_gt rfl rfl rfl) rfl rfl ?_
    refine zw_ld (n := 1) (k := 1) (f := zp_isI) (pc' := 18) rfl rfl zw_g1 rfl rfl ?_
    refine zw_s (pc' := 19) rfl rfl ?_
    refine zw_s (pc' := 20) rfl rfl ?_
    obtain ⟨H1, n1, n2, n3, n4, n5⟩ := yS_need (L := L) (σ := σ) (d := d + 1) (y := Int32.ofInt 0) (s' := s') hby hB hs (fun h9 => absurd rfl h9) (fun _ q h9 _ => absurd h9 hg)
    refine zw_c (pc' := 23) (zw_cs (Y := zm_185) rfl rfl zm_185_t) rfl rfl rfl rfl rfl (yp_wi0 (by decide)) ?_
    refine zw_cn (pc' := 26) (zw_cv (q := 72) (Y := zm_186) W.1 rfl rfl zm_186_t rfl rfl) rfl rfl rfl rfl rfl (n1) ?_
    refine zw_ld (n := 1) (k := 1) (f := zp_isI) (pc' := 27) rfl rfl zw_g1 rfl rfl ?_
    refine zw_ri rfl rfl ?_
    exact ⟨_, H1, rfl, n2, n3, n4, fun h9 => absurd (n5 h9).1 hg, by decide, fun h9 => absurd h9 hg, fun h9 => absurd h9 hg⟩

set_option maxRecDepth 8000 in
theorem yr_wv {T : Nat → Int} {n q : Nat} {H : zp_H} (hP : yP T n q H) (hw : ys_kd T n q = 3 ∧ ys_vl T n q < 4) : ys_vl T n q = zg H := by
  rw [yr_zg hP.2.2 hP.2.1, if_pos hw.1]
  have hb := ys_vl_b hw.1
  rcases yw_m8 (v := ys_vl T n q) ⟨by omega, by omega⟩ with h9 | h9
  · exact h9.2.symm
  · omega

set_option maxRecDepth 8000 in
theorem yp_iw1 {L : Nat} {σ : Nat → Int32} {d : Nat} {T : Nat → Int} {n p : Nat} {H : zp_H} (hK : zx_KW L σ) (hB : zk_Bs zR zg zJ H) (hg : (H.2.1 72 23).toInt = 0) (h : yP T n p H) (hw : ys_kd T n p = 3 ∧ ys_vl T n p < 4) : zp_Call L σ (d + 5) 189 [.inr (.inr (some 73))] H (.inl (some (.inl (Int32.ofInt 1))), H) := by
  have W := zR_Wd (zR_dn hB)
  have hz := yr_way h
  refine zw_ex ?_
  refine zw_met zm_189_t rfl rfl ?_
  refine zw_ld (n := 1) (k := 0) (f := zp_isR) (pc' := 1) rfl rfl rfl rfl rfl ?_
  refine zw_c (pc' := 4) (zw_cv (q := 72) (Y := zm_175) W.1 rfl rfl zm_175_t rfl rfl) rfl rfl rfl rfl rfl (zq_good1 W hg) ?_
  refine zw_beq1 (g := 23) (pc' := 7) rfl rfl rfl (rfl : _ = (1 : Int)) (fun h9 => absurd h9 (by decide)) (fun hb => ?_)
  refine zw_ld (n := 1) (k := 0) (f := zp_isR) (pc' := 8) rfl rfl rfl rfl rfl ?_
  obtain ⟨v, v1, v2⟩ := hK d H hB
  refine zw_c (pc' := 11) (zw_cv (q := 72) (Y := zm_177) W.1 rfl rfl zm_177_t rfl rfl) rfl rfl rfl rfl rfl (v1) ?_
  refine zw_s (pc' := 12) rfl rfl ?_
  refine zw_s (pc' := 13) rfl rfl ?_
  refine zw_c (pc' := 16) (zw_cs (Y := zm_185) rfl rfl zm_185_t) rfl rfl rfl rfl rfl (yp_wi1 (by show ((0 : Int) ≤ _ ∧ _ ≤ (3 : Int)); rw [v2]; exact hz.mpr hw)) ?_
  refine zw_beq1 (g := 23) (pc' := 19) rfl rfl rfl (rfl : _ = (1 : Int)) (fun h9 => absurd h9 (by decide)) (fun hb => ?_)
  refine zw_s (pc' := 20) rfl rfl ?_
  refine zw_s (pc' := 24) rfl rfl ?_
  refine zw_rz rfl rfl (by decide) ?_
  rfl

set_option maxRecDepth 8000 in
theorem yp_iw0 {L : Nat} {σ : Nat → Int32} {d : Nat} {T : Nat → Int} {n p : Nat} {H : zp_H} (hK : zx_KW L σ) (hB : zk_Bs zR zg zJ H) (hg : (H.2.1 72 23).toInt = 0) (h : yP T n p H) (hw : ¬ (ys_kd T n p = 3 ∧ ys_vl T n p < 4)) : zp_Call L σ (d + 5) 189 [.inr (.inr (some 73))] H (.inl (some (.inl (Int32.ofInt 0))), H) := by
  have W := zR_Wd (zR_dn hB)
  have hz := yr_way h
  refine zw_ex ?_
  refine zw_met zm_189_t rfl rfl ?_
  refine zw_ld (n := 1) (k := 0) (f := zp_isR) (pc' := 1) rfl rfl rfl rfl rfl ?_
  refine zw_c (pc' := 4) (zw_cv (q := 72) (Y := zm_175) W.1 rfl rfl zm_175_t rfl rfl) rfl rfl rfl rfl rfl (zq_good1 W hg) ?_
  refine zw_beq1 (g := 23) (pc' := 7) rfl rfl rfl (rfl : _ = (1 : Int)) (fun h9 => absurd h9 (by decide)) (fun hb => ?_)
  refine zw_ld (n := 1) (k := 0) (f := zp_isR) (pc' := 8) rfl rfl rfl rfl rfl ?_
  obtain ⟨v, v1, v2⟩ := hK d H hB
  refine zw_c (pc' := 11) (zw_cv (q := 72) (Y := zm_177) W.1 rfl rfl zm_177_t rfl rfl) rfl rfl rfl rfl rfl (v1) ?_
  refine zw_s (pc' := 12) rfl rfl ?_
  refine zw_s (pc' := 13) rfl rfl ?_
  refine zw_c (pc' := 16) (zw_cs (Y := zm_185) rfl rfl zm_185_t) rfl rfl rfl rfl rfl (yp_wi0 (by show ¬ ((0 : Int) ≤ _ ∧ _ ≤ (3 : Int)); rw [v2]; exact fun h9 => hw (hz.mp h9))) ?_
  refine zw_beq1 (g := 23) (pc' := 19) rfl rfl rfl (rfl : _ = (0 : Int)) (fun hb => ?_) (fun h9 => absurd h9 (by decide))
  refine zw_s (pc' := 24) rfl rfl ?_
  refine zw_rz rfl rfl (by decide) ?_
  rfl

set_option maxRecDepth 8000 in
theorem yp_iwb {L : Nat} {σ : Nat → Int32} {d : Nat} {H : zp_H} (hB : zk_Bs zR zg zJ H) (hg : (H.2.1 72 23).toInt ≠ 0) : zp_Call L σ (d + 5) 189 [.inr (.inr (some 73))] H (.inl (some (.inl (Int32.ofInt 0))), H) := by
  have W := zR_Wd (zR_dn hB)
  refine zw_ex ?_
  refine zw_met zm_189_t rfl rfl ?_
  refine zw_ld (n := 1) (k := 0) (f := zp_isR) (pc' := 1) rfl rfl rfl rfl rfl ?_
  refine zw_c (pc' := 4) (zw_cv (q := 72) (Y := zm_175) W.1 rfl rfl zm_175_t rfl rfl) rfl rfl rfl rfl rfl (zq_good0 W hg) ?_
  refine zw_beq1 (g := 23) (pc' := 7) rfl rfl rfl (rfl : _ = (0 : Int)) (fun hb => ?_) (fun h9 => absurd h9 (by decide))
  refine zw_s (pc' := 24) rfl rfl ?_
  refine zw_rz rfl rfl (by decide) ?_
  rfl
