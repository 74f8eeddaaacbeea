section
/-! ===== the class reads products, sums, tests ===== -/
def zm_91 : za_MI := (yX2_readTest, prog_4_method_9_code, 4, (some FieldType.boolean), 2, 0, 0, [], za_i91)
theorem zm_91_t : za_MT 91 = some zm_91 := rfl
def zm_92 : za_MI := (yX2_readSum, prog_4_method_10_code, 5, (some FieldType.boolean), 2, 0, 0, [], za_i92)
theorem zm_92_t : za_MT 92 = some zm_92 := rfl
def zm_93 : za_MI := (yX2_readProduct, prog_4_method_11_code, 5, (some FieldType.boolean), 2, 0, 0, [], za_i93)
theorem zm_93_t : za_MT 93 = some zm_93 := rfl
theorem ys_kd_n {T : Nat → Int} {n p : Nat} (h : n ≤ p) : ys_kd T n p = 0 := by
  unfold ys_kd ys_ks ys_st
  rw [ys_run_n h, if_pos h]
theorem yQ3_tl {T : Nat → Int} {n q : Nat} {lv lv' : List Bool} (h : yQ3 T n lv.tail lv' q) (hb : lv.head? = some false) : false :: lv'.tail = lv := by
  obtain ⟨t, rfl, _⟩ := h
  match lv, hb with
  | b :: l, hb =>
    cases hb
    rfl

set_option maxRecDepth 8000 in
theorem yc_prodL {L : Nat} {σ : Nat → Int32} {T : Nat → Int} {n wa wr : Nat} {c l : Nat} (hP : yc_P L σ wr wa) (hE : yK L σ T n wa wr 7 94 1 (yQ0) none (c + 4) l) {lv : List Bool} {x : Int32} {p : Nat} {H0 : zp_H} (hl : lv.length = l + 1) (hb : ∀ b', none = some b' → lv.head? = some b') (hx : x.toInt = l) : ∀ (m : Nat) (H : zp_H) (lv9 : zp_LV) (i : Int32) (q : Nat) (lv' : List Bool), n - q = m → zp_get lv9 0 = some (.inr (.inr (some 54))) → zp_get lv9 1 = some (.inr (.inr (some wr))) → zp_get lv9 2 = some (.inl x) → zp_get lv9 3 = some (.inl i) → 0 ≤ i.toInt ∧ i.toInt ≤ q → yE T n q H → zk_Fr zg yx_m [wa] H0 H → (yQ0) lv lv' q → xRC T n wa 6 (38 - 6 * (l : Int) - ((6 : Nat) : Int)) (1, lv, p) (0, lv', q) H0 H → p < q → zs_Safe L σ (yX T n (1, lv, p) wa 6 (38 - 6 * (l : Int) - ((6 : Nat) : Int)) (yQ1 T n lv) H0) zm_93 [] (c + 4) (13, lv9, [], H, (0, 0)) := by
  intro m
  induction m using Nat.strongRecOn with
  | ind m ih =>
    intro H lv9 i q lv' hm l0 l1 l2 l3 hi h hF hQ hR hpq
    have W := zB_Wd h.1.1
    have hn7 := h.1.2.1
    have hqn := h.2.2
    refine zw_ld (n := 1) (k := 3) (f := zp_isI) (pc' := 14) rfl rfl l3 rfl rfl ?_
    refine zw_s (pc' := 17) rfl rfl ?_
    refine zw_bge2 (g := 84) (pc' := 20) rfl rfl rfl rfl (rfl : _ = (700 : Int)) (fun h7 => ?_) (fun h7 => ?_)
    · have hk0 := ys_kd_n (T := T) (n := n) (p := q) (by omega)
      refine zw_s (pc' := 85) rfl rfl ?_
      refine zw_rz rfl rfl (by decide) ?_
      have hno : ¬ (ys_kd T n q = 4 ∧ (ys_vl T n q = 42 ∨ ys_vl T n q = 47)) := by
        omega
      exact yX_1 h hF hpq (show yQ1 T n lv lv' q from ⟨hQ, hno⟩) hR
    · refine zw_ld (n := 1) (k := 0) (f := zp_isR) (pc' := 21) rfl rfl l0 rfl rfl ?_
      refine zw_gR (q := 53) (pc' := 24) W rfl rfl rfl rfl (W.2 53 0 _ rfl) rfl ?_
      refine zw_s (pc' := 26) rfl rfl ?_
      by_cases ha : ys_kd T n q = 4 ∧ ys_vl T n q = 42
      · refine zw_c (pc' := 29) (zw_cv (q := 52) (Y := zm_86) W.1 rfl rfl zm_86_t rfl rfl) rfl rfl rfl rfl rfl (yc_sg1 (d := c + 3) rfl h ha) ?_
        refine zw_bne1 (g := 44) (pc' := 32) rfl rfl rfl (rfl : _ = (1 : Int)) (fun h9 => ?_) (fun h9 => absurd h9 (by decide))
        refine zw_ld (n := 1) (k := 0) (f := zp_isR) (pc' := 45) rfl rfl l0 rfl rfl ?_
        refine zw_gR (q := 53) (pc' := 48) W rfl rfl rfl rfl (W.2 53 0 _ rfl) rfl ?_
        refine zw_gI (q := 52) (pc' := 51) W rfl rfl rfl rfl rfl rfl ?_
        refine zw_st (n := 2) (k := 4) (f := zp_isI) (pc' := 53) rfl rfl rfl rfl rfl ?_
        refine zw_ld (n := 1) (k := 0) (f := zp_isR) (pc' := 54) rfl rfl (zw_gt l0 rfl rfl) rfl rfl ?_
        refine zw_gR (q := 53) (pc' := 57) W rfl rfl rfl rfl (W.2 53 0 _ rfl) rfl ?_
        have hN := (show yN T n (0, lv', q) = .inl (1, lv, ys_nx T n q) from by rw [show lv' = lv from hQ]; exact yN_md ha.1 (Or.inl ha.2))
        obtain ⟨H1, a1, a2, a3, a4⟩ := yc_adx (L := L) (σ := σ) (d := c + 1) (wa := wa) h
        have W1 := zB_Wd a2.1.1
        have hadv := ys_adv (T := T) h.2.2 (by omega)
        refine zw_cn (pc' := 60) (zw_cv (q := 52) (Y := zm_55) W.1 rfl rfl zm_55_t rfl rfl) rfl rfl rfl rfl rfl (a1) ?_
        obtain ⟨X1, b1, b2⟩ := hE lv x _ H1 hl hb hx a2
        obtain ⟨v, H2, q2, rfl, e2, e3, e4⟩ := b2
        have W2 := zB_Wd e2.1.1
        refine zw_ld (n := 1) (k := 0) (f := zp_isR) (pc' := 61) rfl rfl (zw_gt l0 rfl rfl) rfl rfl ?_
        refine zw_ld (n := 1) (k := 1) (f := zp_isR) (pc' := 62) rfl rfl (zw_gt l1 rfl rfl) rfl rfl ?_
        refine zw_ld (n := 1) (k := 2) (f := zp_isI) (pc' := 63) rfl rfl (zw_gt l2 rfl rfl) rfl rfl ?_
        refine zw_c (pc' := 66) (zw_cv (q := 53) (Y := zm_94) W1.1 rfl rfl zm_94_t rfl rfl) rfl rfl rfl rfl rfl (b1) ?_
        refine zw_bne1 (g := 71) (pc' := 69) rfl rfl rfl rfl (fun hv => ?_) (fun hv => ?_)
        · rcases e4 with ⟨_, e5, lv2, e6, e7⟩ | ⟨e4, _⟩
          rotate_left
          · omega
          have e5 : ys_nx T n q < q2 := e5
          refine zw_ld (n := 1) (k := 0) (f := zp_isR) (pc' := 72) rfl rfl (zw_gt l0 rfl rfl) rfl rfl ?_
          refine zw_ld (n := 1) (k := 1) (f := zp_isR) (pc' := 73) rfl rfl (zw_gt l1 rfl rfl) rfl rfl ?_
          refine zw_ld (n := 2) (k := 4) (f := zp_isI) (pc' := 75) rfl rfl zw_g1 rfl rfl ?_
          obtain ⟨K, k1, k2, k3, k4⟩ := yc_putD (d := c + 2) (x := H.2.1 52 5) hP e2
          have WK := zB_Wd k2.1.1
          refine zw_cn (pc' := 78) (zw_cv (q := 53) (Y := zm_96) W2.1 rfl rfl zm_96_t rfl rfl) rfl rfl rfl rfl rfl (k1) ?_
          refine zw_ii (pc' := 81) rfl (zw_gt l3 rfl rfl) rfl rfl ?_
          refine zw_s (pc' := 13) rfl rfl ?_
          have ei : (i + Int32.ofInt 1).toInt = i.toInt + 1 := zw_p1 (by omega)
          have q2n := e2.2.2
          exact ih (n - q2) (by omega) K _ _ q2 lv2 rfl (zw_gt (zw_gt l0 rfl rfl) rfl rfl) (zw_gt (zw_gt l1 rfl rfl) rfl rfl) (zw_gt (zw_gt l2 rfl rfl) rfl rfl) zw_g1 ⟨by omega, by omega⟩ k2 (zk_Fr_t hF (zk_Fr_t a3 (zk_Fr_t e3 k3))) e6 (xRC_b hR hN (fun W O => xWO_ti ha.1 ha.2) ⟨by decide, by decide, by decide⟩ (by show q < ys_nx T n q; omega) (yc_sm hP.1 a4) e7 (by decide) ⟨by omega, by omega⟩ (by show q2 ≤ 700; omega) k4 (by have h5 := yE_5 h (by omega); show _ = (-43 : Int); omega)) (by omega)
        · refine zw_s (pc' := 70) rfl rfl ?_
          refine zw_rz rfl rfl (by decide) ?_
          rcases e4 with ⟨e4, _⟩ | ⟨e4, r, e5, e6, e7, e8⟩
          · omega
          · exact yX_0 e2 (zk_Fr_t hF (zk_Fr_t a3 e3)) (hR.1 _ (yA_step hN e5)) e6 e7 e8
      · refine zw_c (pc' := 29) (zw_cv (q := 52) (Y := zm_86) W.1 rfl rfl zm_86_t rfl rfl) rfl rfl rfl rfl rfl (yc_sg0 (d := c + 3) rfl h ha) ?_
        refine zw_bne1 (g := 44) (pc' := 32) rfl rfl rfl (rfl : _ = (0 : Int)) (fun h9 => absurd h9 (by decide)) (fun h9 => ?_)
        refine zw_ld (n := 1) (k := 0) (f := zp_isR) (pc' := 33) rfl rfl l0 rfl rfl ?_
        refine zw_gR (q := 53) (pc' := 36) W rfl rfl rfl rfl (W.2 53 0 _ rfl) rfl ?_
        refine zw_s (pc' := 38) rfl rfl ?_
        by_cases hb2 : ys_kd T n q = 4 ∧ ys_vl T n q = 47
        · refine zw_c (pc' := 41) (zw_cv (q := 52) (Y := zm_86) W.1 rfl rfl zm_86_t rfl rfl) rfl rfl rfl rfl rfl (yc_sg1 (d := c + 3) rfl h hb2) ?_
          refine zw_beq1 (g := 84) (pc' := 44) rfl rfl rfl (rfl : _ = (1 : Int)) (fun h9 => absurd h9 (by decide)) (fun h9 => ?_)
          refine zw_ld (n := 1) (k := 0) (f := zp_isR) (pc' := 45) rfl rfl l0 rfl rfl ?_
          refine zw_gR (q := 53) (pc' := 48) W rfl rfl rfl rfl (W.2 53 0 _ rfl) rfl ?_
          refine zw_gI (q := 52) (pc' := 51) W rfl rfl rfl rfl rfl rfl ?_
          refine zw_st (n := 2) (k := 4) (f := zp_isI) (pc' := 53) rfl rfl rfl rfl rfl ?_
          refine zw_ld (n := 1) (k := 0) (f := zp_isR) (pc' := 54) rfl rfl (zw_gt l0 rfl rfl) rfl rfl ?_
          refine zw_gR (q := 53) (pc' := 57) W rfl rfl rfl rfl (W.2 53 0 _ rfl) rfl ?_
          have hN := (show yN T n (0, lv', q) = .inl (1, lv, ys_nx T n q) from by rw [show lv' = lv from hQ]; exact yN_md hb2.1 (Or.inr hb2.2))
          obtain ⟨H1, a1, a2, a3, a4⟩ := yc_adx (L := L) (σ := σ) (d := c + 1) (wa := wa) h
          have W1 := zB_Wd a2.1.1
          have hadv := ys_adv (T := T) h.2.2 (by omega)
          refine zw_cn (pc' := 60) (zw_cv (q := 52) (Y := zm_55) W.1 rfl rfl zm_55_t rfl rfl) rfl rfl rfl rfl rfl (a1) ?_
          obtain ⟨X1, b1, b2⟩ := hE lv x _ H1 hl hb hx a2
          obtain ⟨v, H2, q2, rfl, e2, e3, e4⟩ := b2
          have W2 := zB_Wd e2.1.1
          refine zw_ld (n := 1) (k := 0) (f := zp_isR) (pc' := 61) rfl rfl (zw_gt l0 rfl rfl) rfl rfl ?_
          refine zw_ld (n := 1) (k := 1) (f := zp_isR) (pc' := 62) rfl rfl (zw_gt l1 rfl rfl) rfl rfl ?_
          refine zw_ld (n := 1) (k := 2) (f := zp_isI) (pc' := 63) rfl rfl (zw_gt l2 rfl rfl) rfl rfl ?_
          refine zw_c (pc' := 66) (zw_cv (q := 53) (Y := zm_94) W1.1 rfl rfl zm_94_t rfl rfl) rfl rfl rfl rfl rfl (b1) ?_
          refine zw_bne1 (g := 71) (pc' := 69) rfl rfl rfl rfl (fun hv => ?_) (fun hv => ?_)
          · rcases e4 with ⟨_, e5, lv2, e6, e7⟩ | ⟨e4, _⟩
            rotate_left
            · omega
            have e5 : ys_nx T n q < q2 := e5
            refine zw_ld (n := 1) (k := 0) (f := zp_isR) (pc' := 72) rfl rfl (zw_gt l0 rfl rfl) rfl rfl ?_
            refine zw_ld (n := 1) (k := 1) (f := zp_isR) (pc' := 73) rfl rfl (zw_gt l1 rfl rfl) rfl rfl ?_
            refine zw_ld (n := 2) (k := 4) (f := zp_isI) (pc' := 75) rfl rfl zw_g1 rfl rfl ?_
            obtain ⟨K, k1, k2, k3, k4⟩ := yc_putD (d := c + 2) (x := H.2.1 52 5) hP e2
            have WK := zB_Wd k2.1.1
            refine zw_cn (pc' := 78) (zw_cv (q := 53) (Y := zm_96) W2.1 rfl rfl zm_96_t rfl rfl) rfl rfl rfl rfl rfl (k1) ?_
            refine zw_ii (pc' := 81) rfl (zw_gt l3 rfl rfl) rfl rfl ?_
            refine zw_s (pc' := 13) rfl rfl ?_
            have ei : (i + Int32.ofInt 1).toInt = i.toInt + 1 := zw_p1 (by omega)
            have q2n := e2.2.2
            exact ih (n - q2) (by omega) K _ _ q2 lv2 rfl (zw_gt (zw_gt l0 rfl rfl) rfl rfl) (zw_gt (zw_gt l1 rfl rfl) rfl rfl) (zw_gt (zw_gt l2 rfl rfl) rfl rfl) zw_g1 ⟨by omega, by omega⟩ k2 (zk_Fr_t hF (zk_Fr_t a3 (zk_Fr_t e3 k3))) e6 (xRC_b hR hN (fun W O => xWO_di hb2.1 hb2.2) ⟨by decide, by decide, by decide⟩ (by show q < ys_nx T n q; omega) (yc_sm hP.1 a4) e7 (by decide) ⟨by omega, by omega⟩ (by show q2 ≤ 700; omega) k4 (by have h5 := yE_5 h (by omega); show _ = (-48 : Int); omega)) (by omega)
          · refine zw_s (pc' := 70) rfl rfl ?_
            refine zw_rz rfl rfl (by decide) ?_
            rcases e4 with ⟨e4, _⟩ | ⟨e4, r, e5, e6, e7, e8⟩
            · omega
            · exact yX_0 e2 (zk_Fr_t hF (zk_Fr_t a3 e3)) (hR.1 _ (yA_step hN e5)) e6 e7 e8
        · refine zw_c (pc' := 41) (zw_cv (q := 52) (Y := zm_86) W.1 rfl rfl zm_86_t rfl rfl) rfl rfl rfl rfl rfl (yc_sg0 (d := c + 3) rfl h hb2) ?_
          refine zw_beq1 (g := 84) (pc' := 44) rfl rfl rfl (rfl : _ = (0 : Int)) (fun h9 => ?_) (fun h9 => absurd h9 (by decide))
          refine zw_s (pc' := 85) rfl rfl ?_
          refine zw_rz rfl rfl (by decide) ?_
          have hno : ¬ (ys_kd T n q = 4 ∧ (ys_vl T n q = 42 ∨ ys_vl T n q = 47)) := by
            omega
          exact yX_1 h hF hpq (show yQ1 T n lv lv' q from ⟨hQ, hno⟩) hR

theorem yc_prod {L : Nat} {σ : Nat → Int32} {T : Nat → Int} {n wa wr : Nat} {c l : Nat} (hP : yc_P L σ wr wa) (hE : yK L σ T n wa wr 7 94 1 (yQ0) none (c + 4) l) : yK L σ T n wa wr 6 93 1 (yQ1 T n) none (c + 5) l := by
  intro lv x p H hl hb hx h
  have W := zB_Wd h.1.1
  obtain ⟨X1, b1, b2⟩ := hE lv x _ H hl hb hx h
  obtain ⟨v, H2, q2, rfl, e2, e3, e4⟩ := b2
  have W2 := zB_Wd e2.1.1
  refine zw_met zm_93_t rfl rfl ?_
  refine zw_ld (n := 1) (k := 0) (f := zp_isR) (pc' := 1) rfl rfl rfl rfl rfl ?_
  refine zw_ld (n := 1) (k := 1) (f := zp_isR) (pc' := 2) rfl rfl rfl rfl rfl ?_
  refine zw_ld (n := 1) (k := 2) (f := zp_isI) (pc' := 3) rfl rfl rfl rfl rfl ?_
  refine zw_c (pc' := 6) (zw_cv (q := 53) (Y := zm_94) W.1 rfl rfl zm_94_t rfl rfl) rfl rfl rfl rfl rfl (b1) ?_
  refine zw_bne1 (g := 11) (pc' := 9) rfl rfl rfl rfl (fun hv => ?_) (fun hv => ?_)
  · rcases e4 with ⟨_, e5, lv2, e6, e7⟩ | ⟨e4, _⟩
    rotate_left
    · omega
    refine zw_s (pc' := 12) rfl rfl ?_
    refine zw_st (n := 1) (k := 3) (f := zp_isI) (pc' := 13) rfl rfl rfl rfl rfl ?_
    exact yc_prodL hP hE hl hb hx _ H2 _ _ q2 lv2 rfl (zw_gt rfl rfl rfl) (zw_gt rfl rfl rfl) (zw_gt rfl rfl rfl) zw_g1 ⟨by decide, by show (0 : Int) ≤ _; omega⟩ e2 e3 e6 (xRC_up (by decide) (by omega) e7) e5
  · refine zw_s (pc' := 10) rfl rfl ?_
    refine zw_rz rfl rfl (by decide) ?_
    rcases e4 with ⟨e4, _⟩ | ⟨e4, r, e5, e6, e7, e8⟩
    · omega
    · exact yX_0 e2 e3 e5 e6 e7 e8

set_option maxRecDepth 8000 in
theorem yc_sumL {L : Nat} {σ : Nat → Int32} {T : Nat → Int} {n wa wr : Nat} {c l : Nat} (hP : yc_P L σ wr wa) (hE : yK L σ T n wa wr 6 93 1 (yQ1 T n) none (c + 4) l) {lv : List Bool} {x : Int32} {p : Nat} {H0 : zp_H} (hl : lv.length = l + 1) (hb : ∀ b', none = some b' → lv.head? = some b') (hx : x.toInt = l) : ∀ (m : Nat) (H : zp_H) (lv9 : zp_LV) (i : Int32) (q : Nat) (lv' : List Bool), n - q = m → zp_get lv9 0 = some (.inr (.inr (some 54))) → zp_get lv9 1 = some (.inr (.inr (some wr))) → zp_get lv9 2 = some (.inl x) → zp_get lv9 3 = some (.inl i) → 0 ≤ i.toInt ∧ i.toInt ≤ q → yE T n q H → zk_Fr zg yx_m [wa] H0 H → (yQ1 T n) lv lv' q → xRC T n wa 5 (38 - 6 * (l : Int) - ((5 : Nat) : Int)) (1, lv, p) (0, lv', q) H0 H → p < q → zs_Safe L σ (yX T n (1, lv, p) wa 5 (38 - 6 * (l : Int) - ((5 : Nat) : Int)) (yQ2 T n lv) H0) zm_92 [] (c + 4) (13, lv9, [], H, (0, 0)) := by
  intro m
  induction m using Nat.strongRecOn with
  | ind m ih =>
    intro H lv9 i q lv' hm l0 l1 l2 l3 hi h hF hQ hR hpq
    have W := zB_Wd h.1.1
    have hn7 := h.1.2.1
    have hqn := h.2.2
    refine zw_ld (n := 1) (k := 3) (f := zp_isI) (pc' := 14) rfl rfl l3 rfl rfl ?_
    refine zw_s (pc' := 17) rfl rfl ?_
    refine zw_bge2 (g := 84) (pc' := 20) rfl rfl rfl rfl (rfl : _ = (700 : Int)) (fun h7 => ?_) (fun h7 => ?_)
    · have hk0 := ys_kd_n (T := T) (n := n) (p := q) (by omega)
      refine zw_s (pc' := 85) rfl rfl ?_
      refine zw_rz rfl rfl (by decide) ?_
      have hno : ¬ (ys_kd T n q = 4 ∧ (ys_vl T n q = 43 ∨ ys_vl T n q = 45)) := by
        omega
      exact yX_1 h hF hpq (show yQ2 T n lv lv' q from ⟨hQ, hno⟩) hR
    · refine zw_ld (n := 1) (k := 0) (f := zp_isR) (pc' := 21) rfl rfl l0 rfl rfl ?_
      refine zw_gR (q := 53) (pc' := 24) W rfl rfl rfl rfl (W.2 53 0 _ rfl) rfl ?_
      refine zw_s (pc' := 26) rfl rfl ?_
      by_cases ha : ys_kd T n q = 4 ∧ ys_vl T n q = 43
      · refine zw_c (pc' := 29) (zw_cv (q := 52) (Y := zm_86) W.1 rfl rfl zm_86_t rfl rfl) rfl rfl rfl rfl rfl (yc_sg1 (d := c + 3) rfl h ha) ?_
        refine zw_bne1 (g := 44) (pc' := 32) rfl rfl rfl (rfl : _ = (1 : Int)) (fun h9 => ?_) (fun h9 => absurd h9 (by decide))
        refine zw_ld (n := 1) (k := 0) (f := zp_isR) (pc' := 45) rfl rfl l0 rfl rfl ?_
        refine zw_gR (q := 53) (pc' := 48) W rfl rfl rfl rfl (W.2 53 0 _ rfl) rfl ?_
        refine zw_gI (q := 52) (pc' := 51) W rfl rfl rfl rfl rfl rfl ?_
        refine zw_st (n := 2) (k := 4) (f := zp_isI) (pc' := 53) rfl rfl rfl rfl rfl ?_
        refine zw_ld (n := 1) (k := 0) (f := zp_isR) (pc' := 54) rfl rfl (zw_gt l0 rfl rfl) rfl rfl ?_
        refine zw_gR (q := 53) (pc' := 57) W rfl rfl rfl rfl (W.2 53 0 _ rfl) rfl ?_
        have hN := (show yN T n (0, lv', q) = .inl (1, lv, ys_nx T n q) from by rw [show lv' = lv from hQ.1]; exact yN_pm ha.1 (Or.inl ha.2))
        obtain ⟨H1, a1, a2, a3, a4⟩ := yc_adx (L := L) (σ := σ) (d := c + 1) (wa := wa) h
        have W1 := zB_Wd a2.1.1
        have hadv := ys_adv (T := T) h.2.2 (by omega)
        refine zw_cn (pc' := 60) (zw_cv (q := 52) (Y := zm_55) W.1 rfl rfl zm_55_t rfl rfl) rfl rfl rfl rfl rfl (a1) ?_
        obtain ⟨X1, b1, b2⟩ := hE lv x _ H1 hl hb hx a2
        obtain ⟨v, H2, q2, rfl, e2, e3, e4⟩ := b2
        have W2 := zB_Wd e2.1.1
        refine zw_ld (n := 1) (k := 0) (f := zp_isR) (pc' := 61) rfl rfl (zw_gt l0 rfl rfl) rfl rfl ?_
        refine zw_ld (n := 1) (k := 1) (f := zp_isR) (pc' := 62) rfl rfl (zw_gt l1 rfl rfl) rfl rfl ?_
        refine zw_ld (n := 1) (k := 2) (f := zp_isI) (pc' := 63) rfl rfl (zw_gt l2 rfl rfl) rfl rfl ?_
        refine zw_c (pc' := 66) (zw_cv (q := 53) (Y := zm_93) W1.1 rfl rfl zm_93_t rfl rfl) rfl rfl rfl rfl rfl (b1) ?_
        refine zw_bne1 (g := 71) (pc' := 69) rfl rfl rfl rfl (fun hv => ?_) (fun hv => ?_)
        · rcases e4 with ⟨_, e5, lv2, e6, e7⟩ | ⟨e4, _⟩
          rotate_left
          · omega
          have e5 : ys_nx T n q < q2 := e5
          refine zw_ld (n := 1) (k := 0) (f := zp_isR) (pc' := 72) rfl rfl (zw_gt l0 rfl rfl) rfl rfl ?_
          refine zw_ld (n := 1) (k := 1) (f := zp_isR) (pc' := 73) rfl rfl (zw_gt l1 rfl rfl) rfl rfl ?_
          refine zw_ld (n := 2) (k := 4) (f := zp_isI) (pc' := 75) rfl rfl zw_g1 rfl rfl ?_
          obtain ⟨K, k1, k2, k3, k4⟩ := yc_putD (d := c + 2) (x := H.2.1 52 5) hP e2
          have WK := zB_Wd k2.1.1
          refine zw_cn (pc' := 78) (zw_cv (q := 53) (Y := zm_96) W2.1 rfl rfl zm_96_t rfl rfl) rfl rfl rfl rfl rfl (k1) ?_
          refine zw_ii (pc' := 81) rfl (zw_gt l3 rfl rfl) rfl rfl ?_
          refine zw_s (pc' := 13) rfl rfl ?_
          have ei : (i + Int32.ofInt 1).toInt = i.toInt + 1 := zw_p1 (by omega)
          have q2n := e2.2.2
          exact ih (n - q2) (by omega) K _ _ q2 lv2 rfl (zw_gt (zw_gt l0 rfl rfl) rfl rfl) (zw_gt (zw_gt l1 rfl rfl) rfl rfl) (zw_gt (zw_gt l2 rfl rfl) rfl rfl) zw_g1 ⟨by omega, by omega⟩ k2 (zk_Fr_t hF (zk_Fr_t a3 (zk_Fr_t e3 k3))) e6 (xRC_b hR hN (fun W O => xWO_pl ha.1 ha.2) ⟨by decide, by decide, by decide⟩ (by show q < ys_nx T n q; omega) (yc_sm hP.1 a4) e7 (by decide) ⟨by omega, by omega⟩ (by show q2 ≤ 700; omega) k4 (by have h5 := yE_5 h (by omega); show _ = (-44 : Int); omega)) (by omega)
        · refine zw_s (pc' := 70) rfl rfl ?_
          refine zw_rz rfl rfl (by decide) ?_
          rcases e4 with ⟨e4, _⟩ | ⟨e4, r, e5, e6, e7, e8⟩
          · omega
          · exact yX_0 e2 (zk_Fr_t hF (zk_Fr_t a3 e3)) (hR.1 _ (yA_step hN e5)) e6 e7 e8
      · refine zw_c (pc' := 29) (zw_cv (q := 52) (Y := zm_86) W.1 rfl rfl zm_86_t rfl rfl) rfl rfl rfl rfl rfl (yc_sg0 (d := c + 3) rfl h ha) ?_
        refine zw_bne1 (g := 44) (pc' := 32) rfl rfl rfl (rfl : _ = (0 : Int)) (fun h9 => absurd h9 (by decide)) (fun h9 => ?_)
        refine zw_ld (n := 1) (k := 0) (f := zp_isR) (pc' := 33) rfl rfl l0 rfl rfl ?_
        refine zw_gR (q := 53) (pc' := 36) W rfl rfl rfl rfl (W.2 53 0 _ rfl) rfl ?_
        refine zw_s (pc' := 38) rfl rfl ?_
        by_cases hb2 : ys_kd T n q = 4 ∧ ys_vl T n q = 45
        · refine zw_c (pc' := 41) (zw_cv (q := 52) (Y := zm_86) W.1 rfl rfl zm_86_t rfl rfl) rfl rfl rfl rfl rfl (yc_sg1 (d := c + 3) rfl h hb2) ?_
          refine zw_beq1 (g := 84) (pc' := 44) rfl rfl rfl (rfl : _ = (1 : Int)) (fun h9 => absurd h9 (by decide)) (fun h9 => ?_)
          refine zw_ld (n := 1) (k := 0) (f := zp_isR) (pc' := 45) rfl rfl l0 rfl rfl ?_
          refine zw_gR (q := 53) (pc' := 48) W rfl rfl rfl rfl (W.2 53 0 _ rfl) rfl ?_
          refine zw_gI (q := 52) (pc' := 51) W rfl rfl rfl rfl rfl rfl ?_
          refine zw_st (n := 2) (k := 4) (f := zp_isI) (pc' := 53) rfl rfl rfl rfl rfl ?_
          refine zw_ld (n := 1) (k := 0) (f := zp_isR) (pc' := 54) rfl rfl (zw_gt l0 rfl rfl) rfl rfl ?_
          refine zw_gR (q := 53) (pc' := 57) W rfl rfl rfl rfl (W.2 53 0 _ rfl) rfl ?_
          have hN := (show yN T n (0, lv', q) = .inl (1, lv, ys_nx T n q) from by rw [show lv' = lv from hQ.1]; exact yN_pm hb2.1 (Or.inr hb2.2))
          obtain ⟨H1, a1, a2, a3, a4⟩ := yc_adx (L := L) (σ := σ) (d := c + 1) (wa := wa) h
          have W1 := zB_Wd a2.1.1
          have hadv := ys_adv (T := T) h.2.2 (by omega)
          refine zw_cn (pc' := 60) (zw_cv (q := 52) (Y := zm_55) W.1 rfl rfl zm_55_t rfl rfl) rfl rfl rfl rfl rfl (a1) ?_
          obtain ⟨X1, b1, b2⟩ := hE lv x _ H1 hl hb hx a2
          obtain ⟨v, H2, q2, rfl, e2, e3, e4⟩ := b2
          have W2 := zB_Wd e2.1.1
          refine zw_ld (n := 1) (k := 0) (f := zp_isR) (pc' := 61) rfl rfl (zw_gt l0 rfl rfl) rfl rfl ?_
          refine zw_ld (n := 1) (k := 1) (f := zp_isR) (pc' := 62) rfl rfl (zw_gt l1 rfl rfl) rfl rfl ?_
          refine zw_ld (n := 1) (k := 2) (f := zp_isI) (pc' := 63) rfl rfl (zw_gt l2 rfl rfl) rfl rfl ?_
          refine zw_c (pc' := 66) (zw_cv (q := 53) (Y := zm_93) W1.1 rfl rfl zm_93_t rfl rfl) rfl rfl rfl rfl rfl (b1) ?_
          refine zw_bne1 (g := 71) (pc' := 69) rfl rfl rfl rfl (fun hv => ?_) (fun hv => ?_)
          · rcases e4 with ⟨_, e5, lv2, e6, e7⟩ | ⟨e4, _⟩
            rotate_left
            · omega
            have e5 : ys_nx T n q < q2 := e5
            refine zw_ld (n := 1) (k := 0) (f := zp_isR) (pc' := 72) rfl rfl (zw_gt l0 rfl rfl) rfl rfl ?_
            refine zw_ld (n := 1) (k := 1) (f := zp_isR) (pc' := 73) rfl rfl (zw_gt l1 rfl rfl) rfl rfl ?_
            refine zw_ld (n := 2) (k := 4) (f := zp_isI) (pc' := 75) rfl rfl zw_g1 rfl rfl ?_
            obtain ⟨K, k1, k2, k3, k4⟩ := yc_putD (d := c + 2) (x := H.2.1 52 5) hP e2
            have WK := zB_Wd k2.1.1
            refine zw_cn (pc' := 78) (zw_cv (q := 53) (Y := zm_96) W2.1 rfl rfl zm_96_t rfl rfl) rfl rfl rfl rfl rfl (k1) ?_
            refine zw_ii (pc' := 81) rfl (zw_gt l3 rfl rfl) rfl rfl ?_
            refine zw_s (pc' := 13) rfl rfl ?_
            have ei : (i + Int32.ofInt 1).toInt = i.toInt + 1 := zw_p1 (by omega)
            have q2n := e2.2.2
            exact ih (n - q2) (by omega) K _ _ q2 lv2 rfl (zw_gt (zw_gt l0 rfl rfl) rfl rfl) (zw_gt (zw_gt l1 rfl rfl) rfl rfl) (zw_gt (zw_gt l2 rfl rfl) rfl rfl) zw_g1 ⟨by omega, by omega⟩ k2 (zk_Fr_t hF (zk_Fr_t a3 (zk_Fr_t e3 k3))) e6 (xRC_b hR hN (fun W O => xWO_mi hb2.1 hb2.2) ⟨by decide, by decide, by decide⟩ (by show q < ys_nx T n q; omega) (yc_sm hP.1 a4) e7 (by decide) ⟨by omega, by omega⟩ (by show q2 ≤ 700; omega) k4 (by have h5 := yE_5 h (by omega); show _ = (-46 : Int); omega)) (by omega)
          · refine zw_s (pc' := 70) rfl rfl ?_
            refine zw_rz rfl rfl (by decide) ?_
            rcases e4 with ⟨e4, _⟩ | ⟨e4, r, e5, e6, e7, e8⟩
            · omega
            · exact yX_0 e2 (zk_Fr_t hF (zk_Fr_t a3 e3)) (hR.1 _ (yA_step hN e5)) e6 e7 e8
        · refine zw_c (pc' := 41) (zw_cv (q := 52) (Y := zm_86) W.1 rfl rfl zm_86_t rfl rfl) rfl rfl rfl rfl rfl (yc_sg0 (d := c + 3) rfl h hb2) ?_
          refine zw_beq1 (g := 84) (pc' := 44) rfl rfl rfl (rfl : _ = (0 : Int)) (fun h9 => ?_) (fun h9 => absurd h9 (by decide))
          refine zw_s (pc' := 85) rfl rfl ?_
          refine zw_rz rfl rfl (by decide) ?_
          have hno : ¬ (ys_kd T n q = 4 ∧ (ys_vl T n q = 43 ∨ ys_vl T n q = 45)) := by
            omega
          exact yX_1 h hF hpq (show yQ2 T n lv lv' q from ⟨hQ, hno⟩) hR

theorem yc_sum {L : Nat} {σ : Nat → Int32} {T : Nat → Int} {n wa wr : Nat} {c l : Nat} (hP : yc_P L σ wr wa) (hE : yK L σ T n wa wr 6 93 1 (yQ1 T n) none (c + 4) l) : yK L σ T n wa wr 5 92 1 (yQ2 T n) none (c + 5) l := by
  intro lv x p H hl hb hx h
  have W := zB_Wd h.1.1
  obtain ⟨X1, b1, b2⟩ := hE lv x _ H hl hb hx h
  obtain ⟨v, H2, q2, rfl, e2, e3, e4⟩ := b2
  have W2 := zB_Wd e2.1.1
  refine zw_met zm_92_t rfl rfl ?_
  refine zw_ld (n := 1) (k := 0) (f := zp_isR) (pc' := 1) rfl rfl rfl rfl rfl ?_
  refine zw_ld (n := 1) (k := 1) (f := zp_isR) (pc' := 2) rfl rfl rfl rfl rfl ?_
  refine zw_ld (n := 1) (k := 2) (f := zp_isI) (pc' := 3) rfl rfl rfl rfl rfl ?_
  refine zw_c (pc' := 6) (zw_cv (q := 53) (Y := zm_93) W.1 rfl rfl zm_93_t rfl rfl) rfl rfl rfl rfl rfl (b1) ?_
  refine zw_bne1 (g := 11) (pc' := 9) rfl rfl rfl rfl (fun hv => ?_) (fun hv => ?_)
  · rcases e4 with ⟨_, e5, lv2, e6, e7⟩ | ⟨e4, _⟩
    rotate_left
    · omega
    refine zw_s (pc' := 12) rfl rfl ?_
    refine zw_st (n := 1) (k := 3) (f := zp_isI) (pc' := 13) rfl rfl rfl rfl rfl ?_
    exact yc_sumL hP hE hl hb hx _ H2 _ _ q2 lv2 rfl (zw_gt rfl rfl rfl) (zw_gt rfl rfl rfl) (zw_gt rfl rfl rfl) zw_g1 ⟨by decide, by show (0 : Int) ≤ _; omega⟩ e2 e3 e6 (xRC_up (by decide) (by omega) e7) e5
  · refine zw_s (pc' := 10) rfl rfl ?_
    refine zw_rz rfl rfl (by decide) ?_
    rcases e4 with ⟨e4, _⟩ | ⟨e4, r, e5, e6, e7, e8⟩
    · omega
    · exact yX_0 e2 e3 e5 e6 e7 e8

set_option maxRecDepth 8000 in
theorem yc_test {L : Nat} {σ : Nat → Int32} {T : Nat → Int} {n wa wr : Nat} {c l : Nat} (hP : yc_P L σ wr wa) (hE : yK L σ T n wa wr 5 92 1 (yQ2 T n) none (c + 4) l) : yK L σ T n wa wr 4 91 1 (fun lv => yQ3 T n lv.tail) (some false) (c + 5) l := by
  intro lv x p H hl hb hx h
  have hlv : lv = false :: lv.tail := by
    match lv, hb false rfl with
    | b :: l, hb => cases hb; rfl
  have W := zB_Wd h.1.1
  obtain ⟨X1, b1, b2⟩ := hE lv x _ H hl (fun b' h9 => by cases h9) hx h
  obtain ⟨v, H2, q, rfl, e2, e3, e4⟩ := b2
  have W2 := zB_Wd e2.1.1
  refine zw_met zm_91_t rfl rfl ?_
  refine zw_ld (n := 1) (k := 0) (f := zp_isR) (pc' := 1) rfl rfl rfl rfl rfl ?_
  refine zw_ld (n := 1) (k := 1) (f := zp_isR) (pc' := 2) rfl rfl rfl rfl rfl ?_
  refine zw_ld (n := 1) (k := 2) (f := zp_isI) (pc' := 3) rfl rfl rfl rfl rfl ?_
  refine zw_c (pc' := 6) (zw_cv (q := 53) (Y := zm_92) W.1 rfl rfl zm_92_t rfl rfl) rfl rfl rfl rfl rfl (b1) ?_
  refine zw_bne1 (g := 11) (pc' := 9) rfl rfl rfl rfl (fun hv => ?_) (fun hv => ?_)
  · rcases e4 with ⟨_, e5, lv2, e6, e7⟩ | ⟨e4, _⟩
    rotate_left
    · omega
    have e5 : p < q := e5
    obtain rfl : lv2 = lv := e6.1.1
    refine zw_ld (n := 1) (k := 0) (f := zp_isR) (pc' := 12) rfl rfl rfl rfl rfl ?_
    refine zw_gR (q := 53) (pc' := 15) W2 rfl rfl rfl rfl (W2.2 53 0 _ rfl) rfl ?_
    refine zw_s (pc' := 17) rfl rfl ?_
    by_cases ha : ys_kd T n q = 4 ∧ ys_vl T n q = 60
    · refine zw_c (pc' := 20) (zw_cv (q := 52) (Y := zm_86) W2.1 rfl rfl zm_86_t rfl rfl) rfl rfl rfl rfl rfl (yc_sg1 (d := c + 3) rfl e2 ha) ?_
      refine zw_bne1 (g := 37) (pc' := 23) rfl rfl rfl (rfl : _ = (1 : Int)) (fun h9 => ?_) (fun h9 => absurd h9 (by decide))
      refine zw_ld (n := 1) (k := 0) (f := zp_isR) (pc' := 38) rfl rfl rfl rfl rfl ?_
      refine zw_gR (q := 53) (pc' := 41) W2 rfl rfl rfl rfl (W2.2 53 0 _ rfl) rfl ?_
      refine zw_gI (q := 52) (pc' := 44) W2 rfl rfl rfl rfl rfl rfl ?_
      refine zw_st (n := 1) (k := 3) (f := zp_isI) (pc' := 45) rfl rfl rfl rfl rfl ?_
      refine zw_ld (n := 1) (k := 0) (f := zp_isR) (pc' := 46) rfl rfl (zw_gt rfl rfl rfl) rfl rfl ?_
      refine zw_gR (q := 53) (pc' := 49) W2 rfl rfl rfl rfl (W2.2 53 0 _ rfl) rfl ?_
      have hN : yN T n (0, lv2, q) = .inl (1, true :: lv2.tail, ys_nx T n q) := by
        rw [hlv]
        exact yN_lt ha.1 (Or.inl ha.2)
      obtain ⟨H1, a1, a2, a3, a4⟩ := yc_adx (L := L) (σ := σ) (d := c + 1) (wa := wa) e2
      have W1 := zB_Wd a2.1.1
      have hadv := ys_adv (T := T) e2.2.2 (by omega)
      refine zw_cn (pc' := 52) (zw_cv (q := 52) (Y := zm_55) W2.1 rfl rfl zm_55_t rfl rfl) rfl rfl rfl rfl rfl (a1) ?_
      obtain ⟨X1, d1, d2⟩ := hE (true :: lv2.tail) x _ H1 (by rw [← hl, hlv]; rfl) (fun b' h9 => by cases h9) hx a2
      obtain ⟨v2, H3, q3, rfl, g2, g3, g4⟩ := d2
      have W3 := zB_Wd g2.1.1
      refine zw_ld (n := 1) (k := 0) (f := zp_isR) (pc' := 53) rfl rfl (zw_gt rfl rfl rfl) rfl rfl ?_
      refine zw_ld (n := 1) (k := 1) (f := zp_isR) (pc' := 54) rfl rfl (zw_gt rfl rfl rfl) rfl rfl ?_
      refine zw_ld (n := 1) (k := 2) (f := zp_isI) (pc' := 55) rfl rfl (zw_gt rfl rfl rfl) rfl rfl ?_
      refine zw_c (pc' := 58) (zw_cv (q := 53) (Y := zm_92) W1.1 rfl rfl zm_92_t rfl rfl) rfl rfl rfl rfl rfl (d1) ?_
      refine zw_bne1 (g := 63) (pc' := 61) rfl rfl rfl rfl (fun hv2 => ?_) (fun hv2 => ?_)
      · rcases g4 with ⟨_, g5, lv3, g6, g7⟩ | ⟨g4, _⟩
        rotate_left
        · omega
        have g5 : ys_nx T n q < q3 := g5
        obtain rfl : lv3 = true :: lv2.tail := g6.1.1
        refine zw_ld (n := 1) (k := 0) (f := zp_isR) (pc' := 64) rfl rfl (zw_gt rfl rfl rfl) rfl rfl ?_
        refine zw_ld (n := 1) (k := 1) (f := zp_isR) (pc' := 65) rfl rfl (zw_gt rfl rfl rfl) rfl rfl ?_
        refine zw_ld (n := 1) (k := 3) (f := zp_isI) (pc' := 66) rfl rfl zw_g1 rfl rfl ?_
        obtain ⟨K, k1, k2, k3, k4⟩ := yc_putD (d := c + 2) (x := H2.2.1 52 5) hP g2
        refine zw_cn (pc' := 69) (zw_cv (q := 53) (Y := zm_96) W3.1 rfl rfl zm_96_t rfl rfl) rfl rfl rfl rfl rfl (k1) ?_
        refine zw_s (pc' := 70) rfl rfl ?_
        refine zw_rz rfl rfl (by decide) ?_
        exact yX_1 k2 (zk_Fr_t e3 (zk_Fr_t a3 (zk_Fr_t g3 k3))) (by show p < q3; omega) (show yQ3 T n lv2.tail (true :: lv2.tail) q3 from ⟨true, rfl, g6, fun h9 => by cases h9⟩) (xRC_b (xRC_up (by decide) (Int.le_refl _) e7) hN (fun W O => xWO_lt ha.1 ha.2) ⟨by decide, by decide, by decide⟩ (by show q < ys_nx T n q; omega) (yc_sm hP.1 a4) g7 (by decide) ⟨by omega, by omega⟩ (by have := g2.2.2; have := h.1.2.1; show q3 ≤ 700; omega) k4 (by have h5 := yE_5 e2 (by omega); show _ = (-61 : Int); omega))
      · refine zw_s (pc' := 62) rfl rfl ?_
        refine zw_rz rfl rfl (by decide) ?_
        rcases g4 with ⟨g4, _⟩ | ⟨g4, r, g5, g6, g7, g8⟩
        · omega
        · exact yX_0 g2 (zk_Fr_t e3 (zk_Fr_t a3 g3)) (e7.1 _ (yA_step hN g5)) g6 g7 g8
    · refine zw_c (pc' := 20) (zw_cv (q := 52) (Y := zm_86) W2.1 rfl rfl zm_86_t rfl rfl) rfl rfl rfl rfl rfl (yc_sg0 (d := c + 3) rfl e2 ha) ?_
      refine zw_bne1 (g := 37) (pc' := 23) rfl rfl rfl (rfl : _ = (0 : Int)) (fun h9 => absurd h9 (by decide)) (fun h9 => ?_)
      refine zw_ld (n := 1) (k := 0) (f := zp_isR) (pc' := 24) rfl rfl rfl rfl rfl ?_
      refine zw_gR (q := 53) (pc' := 27) W2 rfl rfl rfl rfl (W2.2 53 0 _ rfl) rfl ?_
      refine zw_s (pc' := 29) rfl rfl ?_
      by_cases hb2 : ys_kd T n q = 4 ∧ ys_vl T n q = 61
      · refine zw_c (pc' := 32) (zw_cv (q := 52) (Y := zm_86) W2.1 rfl rfl zm_86_t rfl rfl) rfl rfl rfl rfl rfl (yc_sg1 (d := c + 3) rfl e2 hb2) ?_
        refine zw_bne1 (g := 37) (pc' := 35) rfl rfl rfl (rfl : _ = (1 : Int)) (fun h9 => ?_) (fun h9 => absurd h9 (by decide))
        refine zw_ld (n := 1) (k := 0) (f := zp_isR) (pc' := 38) rfl rfl rfl rfl rfl ?_
        refine zw_gR (q := 53) (pc' := 41) W2 rfl rfl rfl rfl (W2.2 53 0 _ rfl) rfl ?_
        refine zw_gI (q := 52) (pc' := 44) W2 rfl rfl rfl rfl rfl rfl ?_
        refine zw_st (n := 1) (k := 3) (f := zp_isI) (pc' := 45) rfl rfl rfl rfl rfl ?_
        refine zw_ld (n := 1) (k := 0) (f := zp_isR) (pc' := 46) rfl rfl (zw_gt rfl rfl rfl) rfl rfl ?_
        refine zw_gR (q := 53) (pc' := 49) W2 rfl rfl rfl rfl (W2.2 53 0 _ rfl) rfl ?_
        have hN : yN T n (0, lv2, q) = .inl (1, true :: lv2.tail, ys_nx T n q) := by
          rw [hlv]
          exact yN_lt hb2.1 (Or.inr hb2.2)
        obtain ⟨H1, a1, a2, a3, a4⟩ := yc_adx (L := L) (σ := σ) (d := c + 1) (wa := wa) e2
        have W1 := zB_Wd a2.1.1
        have hadv := ys_adv (T := T) e2.2.2 (by omega)
        refine zw_cn (pc' := 52) (zw_cv (q := 52) (Y := zm_55) W2.1 rfl rfl zm_55_t rfl rfl) rfl rfl rfl rfl rfl (a1) ?_
        obtain ⟨X1, d1, d2⟩ := hE (true :: lv2.tail) x _ H1 (by rw [← hl, hlv]; rfl) (fun b' h9 => by cases h9) hx a2
        obtain ⟨v2, H3, q3, rfl, g2, g3, g4⟩ := d2
        have W3 := zB_Wd g2.1.1
        refine zw_ld (n := 1) (k := 0) (f := zp_isR) (pc' := 53) rfl rfl (zw_gt rfl rfl rfl) rfl rfl ?_
        refine zw_ld (n := 1) (k := 1) (f := zp_isR) (pc' := 54) rfl rfl (zw_gt rfl rfl rfl) rfl rfl ?_
        refine zw_ld (n := 1) (k := 2) (f := zp_isI) (pc' := 55) rfl rfl (zw_gt rfl rfl rfl) rfl rfl ?_
        refine zw_c (pc' := 58) (zw_cv (q := 53) (Y := zm_92) W1.1 rfl rfl zm_92_t rfl rfl) rfl rfl rfl rfl rfl (d1) ?_
        refine zw_bne1 (g := 63) (pc' := 61) rfl rfl rfl rfl (fun hv2 => ?_) (fun hv2 => ?_)
        · rcases g4 with ⟨_, g5, lv3, g6, g7⟩ | ⟨g4, _⟩
          rotate_left
          · omega
          have g5 : ys_nx T n q < q3 := g5
          obtain rfl : lv3 = true :: lv2.tail := g6.1.1
          refine zw_ld (n := 1) (k := 0) (f := zp_isR) (pc' := 64) rfl rfl (zw_gt rfl rfl rfl) rfl rfl ?_
          refine zw_ld (n := 1) (k := 1) (f := zp_isR) (pc' := 65) rfl rfl (zw_gt rfl rfl rfl) rfl rfl ?_
          refine zw_ld (n := 1) (k := 3) (f := zp_isI) (pc' := 66) rfl rfl zw_g1 rfl rfl ?_
          obtain ⟨K, k1, k2, k3, k4⟩ := yc_putD (d := c + 2) (x := H2.2.1 52 5) hP g2
          refine zw_cn (pc' := 69) (zw_cv (q := 53) (Y := zm_96) W3.1 rfl rfl zm_96_t rfl rfl) rfl rfl rfl rfl rfl (k1) ?_
          refine zw_s (pc' := 70) rfl rfl ?_
          refine zw_rz rfl rfl (by decide) ?_
          exact yX_1 k2 (zk_Fr_t e3 (zk_Fr_t a3 (zk_Fr_t g3 k3))) (by show p < q3; omega) (show yQ3 T n lv2.tail (true :: lv2.tail) q3 from ⟨true, rfl, g6, fun h9 => by cases h9⟩) (xRC_b (xRC_up (by decide) (Int.le_refl _) e7) hN (fun W O => xWO_eq hb2.1 hb2.2) ⟨by decide, by decide, by decide⟩ (by show q < ys_nx T n q; omega) (yc_sm hP.1 a4) g7 (by decide) ⟨by omega, by omega⟩ (by have := g2.2.2; have := h.1.2.1; show q3 ≤ 700; omega) k4 (by have h5 := yE_5 e2 (by omega); show _ = (-62 : Int); omega))
        · refine zw_s (pc' := 62) rfl rfl ?_
          refine zw_rz rfl rfl (by decide) ?_
          rcases g4 with ⟨g4, _⟩ | ⟨g4, r, g5, g6, g7, g8⟩
          · omega
          · exact yX_0 g2 (zk_Fr_t e3 (zk_Fr_t a3 g3)) (e7.1 _ (yA_step hN g5)) g6 g7 g8
      · refine zw_c (pc' := 32) (zw_cv (q := 52) (Y := zm_86) W2.1 rfl rfl zm_86_t rfl rfl) rfl rfl rfl rfl rfl (yc_sg0 (d := c + 3) rfl e2 hb2) ?_
        refine zw_bne1 (g := 37) (pc' := 35) rfl rfl rfl (rfl : _ = (0 : Int)) (fun h9 => absurd h9 (by decide)) (fun h9 => ?_)
        refine zw_s (pc' := 36) rfl rfl ?_
        refine zw_rz rfl rfl (by decide) ?_
        refine yX_1 e2 e3 e5 (show yQ3 T n lv2.tail lv2 q from ⟨false, hlv, by rw [← hlv]; exact e6, fun _ => by omega⟩) (xRC_up (by decide) (by omega) e7)
  · refine zw_s (pc' := 10) rfl rfl ?_
    refine zw_rz rfl rfl (by decide) ?_
    rcases e4 with ⟨e4, _⟩ | ⟨e4, r, e5, e6, e7, e8⟩
    · omega
    · exact yX_0 e2 e3 e5 e6 e7 e8
end
section
/-! ===== the class reads an expression: NOT, AND, OR ===== -/
def zm_88 : za_MI := (yX2_readAnd, prog_4_method_7_code, 4, (some FieldType.boolean), 2, 0, 0, [], za_i88)
theorem zm_88_t : za_MT 88 = some zm_88 := rfl
def zm_89 : za_MI := (yX2_readNot, prog_4_method_8_code, 5, (some FieldType.boolean), 2, 0, 0, [], za_i89)
theorem zm_89_t : za_MT 89 = some zm_89 := rfl
theorem yc_notP {L : Nat} {σ : Nat → Int32} {T : Nat → Int} {n wa wr : Nat} {c l k : Nat} {s1 : yM} (hP : yc_P L σ wr wa) {lv lv' : List Bool} {p q : Nat} {H0 : zp_H} (hQ : yQ3 T n lv.tail lv' q) (hpq : p < q) : ∀ (m : Nat) (H : zp_H) (lv9 : zp_LV) (i y : Int32), (y.toInt - i.toInt).toNat ≤ m → zp_get lv9 0 = some (.inr (.inr (some 54))) → zp_get lv9 1 = some (.inr (.inr (some wr))) → zp_get lv9 3 = some (.inl y) → zp_get lv9 4 = some (.inl i) → y.toInt ≤ 6 → yE T n q H → zk_Fr zg yx_m [wa] H0 H → y.toInt = k → 0 ≤ i.toInt → i.toInt ≤ k → yRn T n wa k i.toInt.toNat (38 - 6 * (l : Int) - ((3 : Nat) : Int)) (2, lv, p) s1 (0, lv', q) H0 H → zs_Safe L σ (yX T n (2, lv, p) wa 3 (38 - 6 * (l : Int) - ((3 : Nat) : Int)) (yQ3 T n lv.tail) H0) zm_89 [] (c + 4) (65, lv9, [], H, (0, 0)) := by
  intro m
  induction m with
  | zero =>
    intro H lv9 i y hm l0 l1 l3 l4 hy h hF hyk hi0 hik hRn
    have W := zB_Wd h.1.1
    refine zw_ld (n := 2) (k := 4) (f := zp_isI) (pc' := 67) rfl rfl l4 rfl rfl ?_
    refine zw_ld (n := 1) (k := 3) (f := zp_isI) (pc' := 68) rfl rfl l3 rfl rfl ?_
    refine zw_bge2 (g := 84) (pc' := 71) rfl rfl rfl rfl rfl (fun h7 => ?_) (fun h7 => ?_)
    · refine zw_s (pc' := 85) rfl rfl ?_
      refine zw_rz rfl rfl (by decide) ?_
      exact yX_1 h hF hpq hQ (yRn_e (by rw [show i.toInt.toNat = k by omega] at hRn; exact hRn))
    · omega
  | succ m ih =>
    intro H lv9 i y hm l0 l1 l3 l4 hy h hF hyk hi0 hik hRn
    have W := zB_Wd h.1.1
    refine zw_ld (n := 2) (k := 4) (f := zp_isI) (pc' := 67) rfl rfl l4 rfl rfl ?_
    refine zw_ld (n := 1) (k := 3) (f := zp_isI) (pc' := 68) rfl rfl l3 rfl rfl ?_
    refine zw_bge2 (g := 84) (pc' := 71) rfl rfl rfl rfl rfl (fun h7 => ?_) (fun h7 => ?_)
    · refine zw_s (pc' := 85) rfl rfl ?_
      refine zw_rz rfl rfl (by decide) ?_
      exact yX_1 h hF hpq hQ (yRn_e (by rw [show i.toInt.toNat = k by omega] at hRn; exact hRn))
    · refine zw_ld (n := 1) (k := 0) (f := zp_isR) (pc' := 72) rfl rfl l0 rfl rfl ?_
      refine zw_ld (n := 1) (k := 1) (f := zp_isR) (pc' := 73) rfl rfl l1 rfl rfl ?_
      refine zw_s (pc' := 75) rfl rfl ?_
      obtain ⟨K, k1, k2, k3, k4⟩ := yc_putD (d := c + 2) (x := Int32.ofInt 10) hP h
      have ei : (i + Int32.ofInt 1).toInt = i.toInt + 1 := zw_p1 (by omega)
      refine zw_cn (pc' := 78) (zw_cv (q := 53) (Y := zm_96) W.1 rfl rfl zm_96_t rfl rfl) rfl rfl rfl rfl rfl (k1) ?_
      refine zw_ii (pc' := 81) rfl l4 rfl rfl ?_
      refine zw_s (pc' := 65) rfl rfl ?_
      exact ih K _ _ y (by omega) (zw_gt l0 rfl rfl) (zw_gt l1 rfl rfl) (zw_gt l3 rfl rfl) zw_g1 hy k2 (zk_Fr_t hF k3) hyk (by omega) (by omega) (by rw [show (i + Int32.ofInt 1).toInt.toNat = i.toInt.toNat + 1 by omega]; exact yRn_s hRn (by omega) (by have := h.2.2; have := h.1.2.1; show q ≤ 700; omega) (by rw [show -1 - (Int32.ofInt 10).toInt = (-11 : Int) by decide] at k4; exact k4))

theorem yc_notX {L : Nat} {σ : Nat → Int32} {T : Nat → Int} {n wa wr : Nat} {c l : Nat} (hP : yc_P L σ wr wa) (hE : yK L σ T n wa wr 4 91 1 (fun lv => yQ3 T n lv.tail) (some false) (c + 4) l) {lv : List Bool} {x : Int32} {p : Nat} {H0 : zp_H} (hl : lv.length = l + 1) (hb : ∀ b', some false = some b' → lv.head? = some b') (hx : x.toInt = l) {H : zp_H} {lv9 : zp_LV} {i : Int32} {q k : Nat} (l0 : zp_get lv9 0 = some (.inr (.inr (some 54)))) (l1 : zp_get lv9 1 = some (.inr (.inr (some wr)))) (l2 : zp_get lv9 2 = some (.inl x)) (l3 : zp_get lv9 3 = some (.inl i)) (hi : i.toInt = k) (hk : k ≤ 6) (hx6 : k = 6 ∨ ¬ (ys_kd T n q = 3 ∧ ys_vl T n q = 10)) (h : yE T n q H) (hF : zk_Fr zg yx_m [wa] H0 H) (hR : yR T n (2, lv, p) (2 + k, lv, q)) (hW : ∀ W O, yTR T n (2, lv, p) W O (2 + k, lv, q) (List.replicate k 3 ++ W) O) (hsm : xSmw wa H0 H) (hkq : p + k ≤ q) (hpq : p ≤ q) : zs_Safe L σ (yX T n (2, lv, p) wa 3 (38 - 6 * (l : Int) - ((3 : Nat) : Int)) (yQ3 T n lv.tail) H0) zm_89 [] (c + 4) (33, lv9, [], H, (0, 0)) := by
  have W := zB_Wd h.1.1
  refine zw_ld (n := 1) (k := 0) (f := zp_isR) (pc' := 34) rfl rfl l0 rfl rfl ?_
  refine zw_gR (q := 53) (pc' := 37) W rfl rfl rfl rfl (W.2 53 0 _ rfl) rfl ?_
  refine zw_s (pc' := 39) rfl rfl ?_
  by_cases ha : ys_kd T n q = 3 ∧ ys_vl T n q = 10
  · refine zw_c (pc' := 42) (zw_cv (q := 52) (Y := zm_90) W.1 rfl rfl zm_90_t rfl rfl) rfl rfl rfl rfl rfl (yc_wd1 (d := c + 3) rfl h ha) ?_
    refine zw_beq1 (g := 51) (pc' := 45) rfl rfl rfl (rfl : _ = (1 : Int)) (fun h9 => absurd h9 (by decide)) (fun h9 => ?_)
    refine zw_ld (n := 1) (k := 0) (f := zp_isR) (pc' := 46) rfl rfl l0 rfl rfl ?_
    refine zw_s (pc' := 47) rfl rfl ?_
    obtain ⟨K9, c1, c2, c3, c4⟩ := yc_rf (L := L) (σ := σ) (d := c + 3) (wa := wa) (x := Int32.ofInt 2) h
    refine zw_c (pc' := 50) (zw_cv (q := 53) (Y := zm_87) W.1 rfl rfl zm_87_t rfl rfl) rfl rfl rfl rfl rfl (c1) ?_
    refine zw_rz rfl rfl (by decide) ?_
    rcases hx6 with h6 | h6
    · subst h6
      exact yX_0 c2 (zk_Fr_t hF c3) (hR _ (yA_done (yN_no6 ha.1 ha.2))) rfl c4 (show 1 ≤ (2 : Int) ∧ (2 : Int) ≤ 5 from by decide)
    · exact absurd ha h6
  · refine zw_c (pc' := 42) (zw_cv (q := 52) (Y := zm_90) W.1 rfl rfl zm_90_t rfl rfl) rfl rfl rfl rfl rfl (yc_wd0 (d := c + 3) rfl h ha) ?_
    refine zw_beq1 (g := 51) (pc' := 45) rfl rfl rfl (rfl : _ = (0 : Int)) (fun h9 => ?_) (fun h9 => absurd h9 (by decide))
    obtain ⟨X1, b1, b2⟩ := hE lv x _ H hl hb hx h
    obtain ⟨v, H2, q2, rfl, e2, e3, e4⟩ := b2
    have W2 := zB_Wd e2.1.1
    have hR2 : yR T n (2, lv, p) (1, lv, q) := yR_t hR (yR_e (yN_nn ha))
    refine zw_ld (n := 1) (k := 0) (f := zp_isR) (pc' := 52) rfl rfl l0 rfl rfl ?_
    refine zw_ld (n := 1) (k := 1) (f := zp_isR) (pc' := 53) rfl rfl l1 rfl rfl ?_
    refine zw_ld (n := 1) (k := 2) (f := zp_isI) (pc' := 54) rfl rfl l2 rfl rfl ?_
    refine zw_c (pc' := 57) (zw_cv (q := 53) (Y := zm_91) W.1 rfl rfl zm_91_t rfl rfl) rfl rfl rfl rfl rfl (b1) ?_
    refine zw_bne1 (g := 62) (pc' := 60) rfl rfl rfl rfl (fun hv => ?_) (fun hv => ?_)
    · rcases e4 with ⟨_, e5, lv2, e6, e7⟩ | ⟨e4, _⟩
      rotate_left
      · omega
      have e5 : q < q2 := e5
      refine zw_s (pc' := 63) rfl rfl ?_
      refine zw_st (n := 2) (k := 4) (f := zp_isI) (pc' := 65) rfl rfl rfl rfl rfl ?_
      have hRn : yRn T n wa k 0 (38 - 6 * (l : Int) - ((3 : Nat) : Int)) (2, lv, p) (1, lv, q) (0, lv2, q2) H0 H2 := ⟨fun W O => yTR_t (hW W O) (yTR_nn ha), yR_t hR2 e7.1, fun h0 h1 => by
        have em : (H.2.1 53 1).toInt = (H0.2.1 53 1).toInt := congrArg Int32.toInt hsm.1
        have h1 : (H0.2.1 53 1).toInt ≤ (p : Int) := h1
        obtain ⟨C, c1, c2, c3, c4⟩ := e7.2 (by omega) (by show _ ≤ (q : Int); omega)
        have c3 : (C.length : Int) + (q : Int) ≤ (q2 : Int) := c3
        refine ⟨C, c1, xOp_m (by omega) c2, by show _ + (p : Int) + _ ≤ (q2 : Int); omega, ?_⟩
        rw [show List.replicate 0 (xAc 3) = [] from rfl, List.append_nil]
        exact xGr_a h0 (xGr_0 hsm) c4⟩
      exact yc_notP (l := l) (k := k) (s1 := (1, lv, q)) hP e6 (by omega) _ H2 _ _ _ (Nat.le_refl _) (zw_gt l0 rfl rfl) (zw_gt l1 rfl rfl) (zw_gt l3 rfl rfl) zw_g1 (by omega) e2 (zk_Fr_t hF e3) hi (by decide) (by show (0 : Int) ≤ _; omega) hRn
    · refine zw_s (pc' := 61) rfl rfl ?_
      refine zw_rz rfl rfl (by decide) ?_
      rcases e4 with ⟨e4, _⟩ | ⟨e4, r, e5, e6, e7, e8⟩
      · omega
      · exact yX_0 e2 (zk_Fr_t hF e3) (hR2 _ e5) e6 e7 e8

theorem yc_notL {L : Nat} {σ : Nat → Int32} {T : Nat → Int} {n wa wr : Nat} {c l : Nat} (hP : yc_P L σ wr wa) (hE : yK L σ T n wa wr 4 91 1 (fun lv => yQ3 T n lv.tail) (some false) (c + 4) l) {lv : List Bool} {x : Int32} {p : Nat} {H0 : zp_H} (hl : lv.length = l + 1) (hb : ∀ b', some false = some b' → lv.head? = some b') (hx : x.toInt = l) : ∀ (m : Nat) (H : zp_H) (lv9 : zp_LV) (i : Int32) (q k : Nat), 6 - k ≤ m → zp_get lv9 0 = some (.inr (.inr (some 54))) → zp_get lv9 1 = some (.inr (.inr (some wr))) → zp_get lv9 2 = some (.inl x) → zp_get lv9 3 = some (.inl i) → i.toInt = k → k ≤ 6 → yE T n q H → zk_Fr zg yx_m [wa] H0 H → yR T n (2, lv, p) (2 + k, lv, q) → (∀ W O, yTR T n (2, lv, p) W O (2 + k, lv, q) (List.replicate k 3 ++ W) O) → xSmw wa H0 H → p + k ≤ q → p ≤ q → zs_Safe L σ (yX T n (2, lv, p) wa 3 (38 - 6 * (l : Int) - ((3 : Nat) : Int)) (yQ3 T n lv.tail) H0) zm_89 [] (c + 4) (2, lv9, [], H, (0, 0)) := by
  intro m
  induction m with
  | zero =>
    intro H lv9 i q k hm l0 l1 l2 l3 hi hk h hF hR hW hsm hkq hpq
    have W := zB_Wd h.1.1
    refine zw_ld (n := 1) (k := 3) (f := zp_isI) (pc' := 3) rfl rfl l3 rfl rfl ?_
    refine zw_s (pc' := 5) rfl rfl ?_
    refine zw_bge2 (g := 33) (pc' := 8) rfl rfl rfl rfl (rfl : _ = (6 : Int)) (fun h7 => ?_) (fun h7 => ?_)
    · exact yc_notX hP hE hl hb hx l0 l1 l2 l3 hi hk (Or.inl (by omega)) h hF hR hW hsm hkq hpq
    · omega
  | succ m ih =>
    intro H lv9 i q k hm l0 l1 l2 l3 hi hk h hF hR hW hsm hkq hpq
    have W := zB_Wd h.1.1
    refine zw_ld (n := 1) (k := 3) (f := zp_isI) (pc' := 3) rfl rfl l3 rfl rfl ?_
    refine zw_s (pc' := 5) rfl rfl ?_
    refine zw_bge2 (g := 33) (pc' := 8) rfl rfl rfl rfl (rfl : _ = (6 : Int)) (fun h7 => ?_) (fun h7 => ?_)
    · exact yc_notX hP hE hl hb hx l0 l1 l2 l3 hi hk (Or.inl (by omega)) h hF hR hW hsm hkq hpq
    · refine zw_ld (n := 1) (k := 0) (f := zp_isR) (pc' := 9) rfl rfl l0 rfl rfl ?_
      refine zw_gR (q := 53) (pc' := 12) W rfl rfl rfl rfl (W.2 53 0 _ rfl) rfl ?_
      refine zw_s (pc' := 14) rfl rfl ?_
      by_cases ha : ys_kd T n q = 3 ∧ ys_vl T n q = 10
      · refine zw_c (pc' := 17) (zw_cv (q := 52) (Y := zm_90) W.1 rfl rfl zm_90_t rfl rfl) rfl rfl rfl rfl rfl (yc_wd1 (d := c + 3) rfl h ha) ?_
        refine zw_beq1 (g := 33) (pc' := 20) rfl rfl rfl (rfl : _ = (1 : Int)) (fun h9 => absurd h9 (by decide)) (fun h9 => ?_)
        obtain ⟨H1, a1, a2, a3, a4⟩ := yc_adx (L := L) (σ := σ) (d := c + 1) (wa := wa) h
        have hadv := ys_adv (T := T) h.2.2 (by omega)
        have ei : (i + Int32.ofInt 1).toInt = i.toInt + 1 := zw_p1 (by omega)
        refine zw_ld (n := 1) (k := 0) (f := zp_isR) (pc' := 21) rfl rfl l0 rfl rfl ?_
        refine zw_gR (q := 53) (pc' := 24) W rfl rfl rfl rfl (W.2 53 0 _ rfl) rfl ?_
        refine zw_cn (pc' := 27) (zw_cv (q := 52) (Y := zm_55) W.1 rfl rfl zm_55_t rfl rfl) rfl rfl rfl rfl rfl (a1) ?_
        refine zw_ii (pc' := 30) rfl l3 rfl rfl ?_
        refine zw_s (pc' := 2) rfl rfl ?_
        exact ih H1 _ _ _ (k + 1) (by omega) (zw_gt l0 rfl rfl) (zw_gt l1 rfl rfl) (zw_gt l2 rfl rfl) zw_g1 (by omega) (by omega) a2 (zk_Fr_t hF a3) (yR_t hR (yR_s (yN_no ha.1 ha.2 (by omega)))) (xNo_s hW ha.1 ha.2 (by omega)) (xSmw_t hsm (yc_sm hP.1 a4)) (by omega) (by omega)
      · refine zw_c (pc' := 17) (zw_cv (q := 52) (Y := zm_90) W.1 rfl rfl zm_90_t rfl rfl) rfl rfl rfl rfl rfl (yc_wd0 (d := c + 3) rfl h ha) ?_
        refine zw_beq1 (g := 33) (pc' := 20) rfl rfl rfl (rfl : _ = (0 : Int)) (fun h9 => ?_) (fun h9 => absurd h9 (by decide))
        exact yc_notX hP hE hl hb hx l0 l1 l2 l3 hi hk (Or.inr ha) h hF hR hW hsm hkq hpq

theorem yc_not {L : Nat} {σ : Nat → Int32} {T : Nat → Int} {n wa wr : Nat} {c l : Nat} (hP : yc_P L σ wr wa) (hE : yK L σ T n wa wr 4 91 1 (fun lv => yQ3 T n lv.tail) (some false) (c + 4) l) : yK L σ T n wa wr 3 89 2 (fun lv => yQ3 T n lv.tail) (some false) (c + 5) l := by
  intro lv x p H hl hb hx h
  refine zw_met zm_89_t rfl rfl ?_
  refine zw_s (pc' := 1) rfl rfl ?_
  refine zw_st (n := 1) (k := 3) (f := zp_isI) (pc' := 2) rfl rfl rfl rfl rfl ?_
  exact yc_notL hP hE hl hb hx _ H _ _ p 0 (Nat.le_refl _) (zw_gt rfl rfl rfl) (zw_gt rfl rfl rfl) (zw_gt rfl rfl rfl) zw_g1 rfl (by decide) h (zk_Fr_r H) yR_r (fun _ _ => yTR_r) ⟨rfl, fun _ => rfl⟩ (Nat.le_refl _) (Nat.le_refl _)

set_option maxRecDepth 8000 in
theorem yc_andL {L : Nat} {σ : Nat → Int32} {T : Nat → Int} {n wa wr : Nat} {c l : Nat} (hP : yc_P L σ wr wa) (hE : yK L σ T n wa wr 3 89 2 (fun lv => yQ3 T n lv.tail) (some false) (c + 4) l) {lv : List Bool} {x : Int32} {p : Nat} {H0 : zp_H} (hl : lv.length = l + 1) (hb : ∀ b', (some false) = some b' → lv.head? = some b') (hx : x.toInt = l) : ∀ (m : Nat) (H : zp_H) (lv9 : zp_LV) (i : Int32) (q : Nat) (lv' : List Bool), n - q = m → zp_get lv9 0 = some (.inr (.inr (some 54))) → zp_get lv9 1 = some (.inr (.inr (some wr))) → zp_get lv9 2 = some (.inl x) → zp_get lv9 3 = some (.inl i) → 0 ≤ i.toInt ∧ i.toInt ≤ q → yE T n q H → zk_Fr zg yx_m [wa] H0 H → (fun lv => yQ3 T n lv.tail) lv lv' q → xRC T n wa 2 (38 - 6 * (l : Int) - ((2 : Nat) : Int)) (2, lv, p) (0, lv', q) H0 H → p < q → zs_Safe L σ (yX T n (2, lv, p) wa 2 (38 - 6 * (l : Int) - ((2 : Nat) : Int)) ((fun lv => yQ4 T n lv.tail) lv) H0) zm_88 [] (c + 4) (13, lv9, [], H, (0, 0)) := by
  intro m
  induction m using Nat.strongRecOn with
  | ind m ih =>
    intro H lv9 i q lv' hm l0 l1 l2 l3 hi h hF hQ hR hpq
    have W := zB_Wd h.1.1
    have hn7 := h.1.2.1
    have hqn := h.2.2
    refine zw_ld (n := 1) (k := 3) (f := zp_isI) (pc' := 14) rfl rfl l3 rfl rfl ?_
    refine zw_s (pc' := 17) rfl rfl ?_
    refine zw_bge2 (g := 63) (pc' := 20) rfl rfl rfl rfl (rfl : _ = (700 : Int)) (fun h7 => ?_) (fun h7 => ?_)
    · have hk0 := ys_kd_n (T := T) (n := n) (p := q) (by omega)
      refine zw_s (pc' := 64) rfl rfl ?_
      refine zw_rz rfl rfl (by decide) ?_
      have hno : ¬ (ys_kd T n q = 3 ∧ ys_vl T n q = 9) := by
        omega
      exact yX_1 h hF hpq (show yQ4 T n lv.tail lv' q from ⟨hQ, hno⟩) hR
    · refine zw_ld (n := 1) (k := 0) (f := zp_isR) (pc' := 21) rfl rfl l0 rfl rfl ?_
      refine zw_gR (q := 53) (pc' := 24) W rfl rfl rfl rfl (W.2 53 0 _ rfl) rfl ?_
      refine zw_s (pc' := 26) rfl rfl ?_
      by_cases ha : ys_kd T n q = 3 ∧ ys_vl T n q = 9
      · refine zw_c (pc' := 29) (zw_cv (q := 52) (Y := zm_90) W.1 rfl rfl zm_90_t rfl rfl) rfl rfl rfl rfl rfl (yc_wd1 (d := c + 3) rfl h ha) ?_
        refine zw_beq1 (g := 63) (pc' := 32) rfl rfl rfl (rfl : _ = (1 : Int)) (fun h9 => absurd h9 (by decide)) (fun h9 => ?_)
        refine zw_ld (n := 1) (k := 0) (f := zp_isR) (pc' := 33) rfl rfl l0 rfl rfl ?_
        refine zw_gR (q := 53) (pc' := 36) W rfl rfl rfl rfl (W.2 53 0 _ rfl) rfl ?_
        have hN := (show yN T n (0, lv', q) = .inl (2, lv, ys_nx T n q) from by have e9 := yQ3_tl hQ (hb false rfl); rw [yN_ao ha.1 (Or.inl ha.2), e9])
        obtain ⟨H1, a1, a2, a3, a4⟩ := yc_adx (L := L) (σ := σ) (d := c + 1) (wa := wa) h
        have W1 := zB_Wd a2.1.1
        have hadv := ys_adv (T := T) h.2.2 (by omega)
        refine zw_cn (pc' := 39) (zw_cv (q := 52) (Y := zm_55) W.1 rfl rfl zm_55_t rfl rfl) rfl rfl rfl rfl rfl (a1) ?_
        obtain ⟨X1, b1, b2⟩ := hE lv x _ H1 hl hb hx a2
        obtain ⟨v, H2, q2, rfl, e2, e3, e4⟩ := b2
        have W2 := zB_Wd e2.1.1
        refine zw_ld (n := 1) (k := 0) (f := zp_isR) (pc' := 40) rfl rfl l0 rfl rfl ?_
        refine zw_ld (n := 1) (k := 1) (f := zp_isR) (pc' := 41) rfl rfl l1 rfl rfl ?_
        refine zw_ld (n := 1) (k := 2) (f := zp_isI) (pc' := 42) rfl rfl l2 rfl rfl ?_
        refine zw_c (pc' := 45) (zw_cv (q := 53) (Y := zm_89) W1.1 rfl rfl zm_89_t rfl rfl) rfl rfl rfl rfl rfl (b1) ?_
        refine zw_bne1 (g := 50) (pc' := 48) rfl rfl rfl rfl (fun hv => ?_) (fun hv => ?_)
        · rcases e4 with ⟨_, e5, lv2, e6, e7⟩ | ⟨e4, _⟩
          rotate_left
          · omega
          have e5 : ys_nx T n q < q2 := e5
          refine zw_ld (n := 1) (k := 0) (f := zp_isR) (pc' := 51) rfl rfl l0 rfl rfl ?_
          refine zw_ld (n := 1) (k := 1) (f := zp_isR) (pc' := 52) rfl rfl l1 rfl rfl ?_
          refine zw_s (pc' := 54) rfl rfl ?_
          obtain ⟨K, k1, k2, k3, k4⟩ := yc_putD (d := c + 2) (x := Int32.ofInt 9) hP e2
          have WK := zB_Wd k2.1.1
          refine zw_cn (pc' := 57) (zw_cv (q := 53) (Y := zm_96) W2.1 rfl rfl zm_96_t rfl rfl) rfl rfl rfl rfl rfl (k1) ?_
          refine zw_ii (pc' := 60) rfl l3 rfl rfl ?_
          refine zw_s (pc' := 13) rfl rfl ?_
          have ei : (i + Int32.ofInt 1).toInt = i.toInt + 1 := zw_p1 (by omega)
          have q2n := e2.2.2
          exact ih (n - q2) (by omega) K _ _ q2 lv2 rfl (zw_gt l0 rfl rfl) (zw_gt l1 rfl rfl) (zw_gt l2 rfl rfl) zw_g1 ⟨by omega, by omega⟩ k2 (zk_Fr_t hF (zk_Fr_t a3 (zk_Fr_t e3 k3))) e6 (xRC_b hR hN (fun W O => xWO_an ha.1 ha.2) ⟨by decide, by decide, by decide⟩ (by show q < ys_nx T n q; omega) (yc_sm hP.1 a4) e7 (by decide) ⟨by omega, by omega⟩ (by show q2 ≤ 700; omega) k4 (by decide)) (by omega)
        · refine zw_s (pc' := 49) rfl rfl ?_
          refine zw_rz rfl rfl (by decide) ?_
          rcases e4 with ⟨e4, _⟩ | ⟨e4, r, e5, e6, e7, e8⟩
          · omega
          · exact yX_0 e2 (zk_Fr_t hF (zk_Fr_t a3 e3)) (hR.1 _ (yA_step hN e5)) e6 e7 e8
      · refine zw_c (pc' := 29) (zw_cv (q := 52) (Y := zm_90) W.1 rfl rfl zm_90_t rfl rfl) rfl rfl rfl rfl rfl (yc_wd0 (d := c + 3) rfl h ha) ?_
        refine zw_beq1 (g := 63) (pc' := 32) rfl rfl rfl (rfl : _ = (0 : Int)) (fun h9 => ?_) (fun h9 => absurd h9 (by decide))
        refine zw_s (pc' := 64) rfl rfl ?_
        refine zw_rz rfl rfl (by decide) ?_
        have hno : ¬ (ys_kd T n q = 3 ∧ ys_vl T n q = 9) := by
          omega
        exact yX_1 h hF hpq (show yQ4 T n lv.tail lv' q from ⟨hQ, hno⟩) hR

theorem yc_and {L : Nat} {σ : Nat → Int32} {T : Nat → Int} {n wa wr : Nat} {c l : Nat} (hP : yc_P L σ wr wa) (hE : yK L σ T n wa wr 3 89 2 (fun lv => yQ3 T n lv.tail) (some false) (c + 4) l) : yK L σ T n wa wr 2 88 2 (fun lv => yQ4 T n lv.tail) (some false) (c + 5) l := by
  intro lv x p H hl hb hx h
  have W := zB_Wd h.1.1
  obtain ⟨X1, b1, b2⟩ := hE lv x _ H hl hb hx h
  obtain ⟨v, H2, q2, rfl, e2, e3, e4⟩ := b2
  have W2 := zB_Wd e2.1.1
  refine zw_met zm_88_t rfl rfl ?_
  refine zw_ld (n := 1) (k := 0) (f := zp_isR) (pc' := 1) rfl rfl rfl rfl rfl ?_
  refine zw_ld (n := 1) (k := 1) (f := zp_isR) (pc' := 2) rfl rfl rfl rfl rfl ?_
  refine zw_ld (n := 1) (k := 2) (f := zp_isI) (pc' := 3) rfl rfl rfl rfl rfl ?_
  refine zw_c (pc' := 6) (zw_cv (q := 53) (Y := zm_89) W.1 rfl rfl zm_89_t rfl rfl) rfl rfl rfl rfl rfl (b1) ?_
  refine zw_bne1 (g := 11) (pc' := 9) rfl rfl rfl rfl (fun hv => ?_) (fun hv => ?_)
  · rcases e4 with ⟨_, e5, lv2, e6, e7⟩ | ⟨e4, _⟩
    rotate_left
    · omega
    refine zw_s (pc' := 12) rfl rfl ?_
    refine zw_st (n := 1) (k := 3) (f := zp_isI) (pc' := 13) rfl rfl rfl rfl rfl ?_
    exact yc_andL hP hE hl hb hx _ H2 _ _ q2 lv2 rfl (zw_gt rfl rfl rfl) (zw_gt rfl rfl rfl) (zw_gt rfl rfl rfl) zw_g1 ⟨by decide, by show (0 : Int) ≤ _; omega⟩ e2 e3 e6 (xRC_up (by decide) (by omega) e7) e5
  · refine zw_s (pc' := 10) rfl rfl ?_
    refine zw_rz rfl rfl (by decide) ?_
    rcases e4 with ⟨e4, _⟩ | ⟨e4, r, e5, e6, e7, e8⟩
    · omega
    · exact yX_0 e2 e3 e5 e6 e7 e8

set_option maxRecDepth 8000 in
theorem yc_exprL {L : Nat} {σ : Nat → Int32} {T : Nat → Int} {n wa wr : Nat} {c l : Nat} (hP : yc_P L σ wr wa) (hE : yK L σ T n wa wr 2 88 2 (fun lv => yQ4 T n lv.tail) (some false) (c + 4) l) {lv : List Bool} {x : Int32} {p : Nat} {H0 : zp_H} (hl : lv.length = l + 1) (hb : ∀ b', (some false) = some b' → lv.head? = some b') (hx : x.toInt = l) : ∀ (m : Nat) (H : zp_H) (lv9 : zp_LV) (i : Int32) (q : Nat) (lv' : List Bool), n - q = m → zp_get lv9 0 = some (.inr (.inr (some 54))) → zp_get lv9 1 = some (.inr (.inr (some wr))) → zp_get lv9 2 = some (.inl x) → zp_get lv9 3 = some (.inl i) → 0 ≤ i.toInt ∧ i.toInt ≤ q → yE T n q H → zk_Fr zg yx_m [wa] H0 H → (fun lv => yQ4 T n lv.tail) lv lv' q → xRC T n wa 1 (38 - 6 * (l : Int) - ((1 : Nat) : Int)) (2, lv, p) (0, lv', q) H0 H → p < q → zs_Safe L σ (yX T n (2, lv, p) wa 1 (38 - 6 * (l : Int) - ((1 : Nat) : Int)) ((fun lv => yQ5 T n lv.tail) lv) H0) zm_85 [] (c + 4) (73, lv9, [], H, (0, 0)) := by
  intro m
  induction m using Nat.strongRecOn with
  | ind m ih =>
    intro H lv9 i q lv' hm l0 l1 l2 l3 hi h hF hQ hR hpq
    have W := zB_Wd h.1.1
    have hn7 := h.1.2.1
    have hqn := h.2.2
    refine zw_ld (n := 1) (k := 3) (f := zp_isI) (pc' := 74) rfl rfl l3 rfl rfl ?_
    refine zw_s (pc' := 77) rfl rfl ?_
    refine zw_bge2 (g := 123) (pc' := 80) rfl rfl rfl rfl (rfl : _ = (700 : Int)) (fun h7 => ?_) (fun h7 => ?_)
    · have hk0 := ys_kd_n (T := T) (n := n) (p := q) (by omega)
      refine zw_s (pc' := 124) rfl rfl ?_
      refine zw_rz rfl rfl (by decide) ?_
      have hno : ¬ (ys_kd T n q = 3 ∧ ys_vl T n q = 8) := by
        omega
      exact yX_1 h hF hpq (show yQ5 T n lv.tail lv' q from ⟨hQ, hno⟩) hR
    · refine zw_ld (n := 1) (k := 0) (f := zp_isR) (pc' := 81) rfl rfl l0 rfl rfl ?_
      refine zw_gR (q := 53) (pc' := 84) W rfl rfl rfl rfl (W.2 53 0 _ rfl) rfl ?_
      refine zw_s (pc' := 86) rfl rfl ?_
      by_cases ha : ys_kd T n q = 3 ∧ ys_vl T n q = 8
      · refine zw_c (pc' := 89) (zw_cv (q := 52) (Y := zm_90) W.1 rfl rfl zm_90_t rfl rfl) rfl rfl rfl rfl rfl (yc_wd1 (d := c + 3) rfl h ha) ?_
        refine zw_beq1 (g := 123) (pc' := 92) rfl rfl rfl (rfl : _ = (1 : Int)) (fun h9 => absurd h9 (by decide)) (fun h9 => ?_)
        refine zw_ld (n := 1) (k := 0) (f := zp_isR) (pc' := 93) rfl rfl l0 rfl rfl ?_
        refine zw_gR (q := 53) (pc' := 96) W rfl rfl rfl rfl (W.2 53 0 _ rfl) rfl ?_
        have hN := (show yN T n (0, lv', q) = .inl (2, lv, ys_nx T n q) from by have e9 := yQ3_tl hQ.1 (hb false rfl); rw [yN_ao ha.1 (Or.inr ha.2), e9])
        obtain ⟨H1, a1, a2, a3, a4⟩ := yc_adx (L := L) (σ := σ) (d := c + 1) (wa := wa) h
        have W1 := zB_Wd a2.1.1
        have hadv := ys_adv (T := T) h.2.2 (by omega)
        refine zw_cn (pc' := 99) (zw_cv (q := 52) (Y := zm_55) W.1 rfl rfl zm_55_t rfl rfl) rfl rfl rfl rfl rfl (a1) ?_
        obtain ⟨X1, b1, b2⟩ := hE lv x _ H1 hl hb hx a2
        obtain ⟨v, H2, q2, rfl, e2, e3, e4⟩ := b2
        have W2 := zB_Wd e2.1.1
        refine zw_ld (n := 1) (k := 0) (f := zp_isR) (pc' := 100) rfl rfl l0 rfl rfl ?_
        refine zw_ld (n := 1) (k := 1) (f := zp_isR) (pc' := 101) rfl rfl l1 rfl rfl ?_
        refine zw_ld (n := 1) (k := 2) (f := zp_isI) (pc' := 102) rfl rfl l2 rfl rfl ?_
        refine zw_c (pc' := 105) (zw_cv (q := 53) (Y := zm_88) W1.1 rfl rfl zm_88_t rfl rfl) rfl rfl rfl rfl rfl (b1) ?_
        refine zw_bne1 (g := 110) (pc' := 108) rfl rfl rfl rfl (fun hv => ?_) (fun hv => ?_)
        · rcases e4 with ⟨_, e5, lv2, e6, e7⟩ | ⟨e4, _⟩
          rotate_left
          · omega
          have e5 : ys_nx T n q < q2 := e5
          refine zw_ld (n := 1) (k := 0) (f := zp_isR) (pc' := 111) rfl rfl l0 rfl rfl ?_
          refine zw_ld (n := 1) (k := 1) (f := zp_isR) (pc' := 112) rfl rfl l1 rfl rfl ?_
          refine zw_s (pc' := 114) rfl rfl ?_
          obtain ⟨K, k1, k2, k3, k4⟩ := yc_putD (d := c + 2) (x := Int32.ofInt 8) hP e2
          have WK := zB_Wd k2.1.1
          refine zw_cn (pc' := 117) (zw_cv (q := 53) (Y := zm_96) W2.1 rfl rfl zm_96_t rfl rfl) rfl rfl rfl rfl rfl (k1) ?_
          refine zw_ii (pc' := 120) rfl l3 rfl rfl ?_
          refine zw_s (pc' := 73) rfl rfl ?_
          have ei : (i + Int32.ofInt 1).toInt = i.toInt + 1 := zw_p1 (by omega)
          have q2n := e2.2.2
          exact ih (n - q2) (by omega) K _ _ q2 lv2 rfl (zw_gt l0 rfl rfl) (zw_gt l1 rfl rfl) (zw_gt l2 rfl rfl) zw_g1 ⟨by omega, by omega⟩ k2 (zk_Fr_t hF (zk_Fr_t a3 (zk_Fr_t e3 k3))) e6 (xRC_b hR hN (fun W O => xWO_or ha.1 ha.2) ⟨by decide, by decide, by decide⟩ (by show q < ys_nx T n q; omega) (yc_sm hP.1 a4) e7 (by decide) ⟨by omega, by omega⟩ (by show q2 ≤ 700; omega) k4 (by decide)) (by omega)
        · refine zw_s (pc' := 109) rfl rfl ?_
          refine zw_rz rfl rfl (by decide) ?_
          rcases e4 with ⟨e4, _⟩ | ⟨e4, r, e5, e6, e7, e8⟩
          · omega
          · exact yX_0 e2 (zk_Fr_t hF (zk_Fr_t a3 e3)) (hR.1 _ (yA_step hN e5)) e6 e7 e8
      · refine zw_c (pc' := 89) (zw_cv (q := 52) (Y := zm_90) W.1 rfl rfl zm_90_t rfl rfl) rfl rfl rfl rfl rfl (yc_wd0 (d := c + 3) rfl h ha) ?_
        refine zw_beq1 (g := 123) (pc' := 92) rfl rfl rfl (rfl : _ = (0 : Int)) (fun h9 => ?_) (fun h9 => absurd h9 (by decide))
        refine zw_s (pc' := 124) rfl rfl ?_
        refine zw_rz rfl rfl (by decide) ?_
        have hno : ¬ (ys_kd T n q = 3 ∧ ys_vl T n q = 8) := by
          omega
        exact yX_1 h hF hpq (show yQ5 T n lv.tail lv' q from ⟨hQ, hno⟩) hR

theorem yc_expr {L : Nat} {σ : Nat → Int32} {T : Nat → Int} {n wa wr : Nat} {c l : Nat} (hl6 : l < 6) (hP : yc_P L σ wr wa) (hE : yK L σ T n wa wr 2 88 2 (fun lv => yQ4 T n lv.tail) (some false) (c + 4) l) : yK L σ T n wa wr 1 85 2 (fun lv => yQ5 T n lv.tail) (some false) (c + 5) l := by
  intro lv x p H hl hb hx h
  have W := zB_Wd h.1.1
  obtain ⟨X1, b1, b2⟩ := hE lv x _ H hl hb hx h
  obtain ⟨v, H2, q2, rfl, e2, e3, e4⟩ := b2
  have W2 := zB_Wd e2.1.1
  refine zw_met zm_85_t rfl rfl ?_
  refine zw_ld (n := 1) (k := 2) (f := zp_isI) (pc' := 1) rfl rfl rfl rfl rfl ?_
  refine zw_s (pc' := 3) rfl rfl ?_
  refine zw_blt2 (g := 60) (pc' := 6) rfl rfl rfl rfl (rfl : _ = (6 : Int)) (fun h6 => ?_) (fun h6 => ?_)
  · refine zw_ld (n := 1) (k := 0) (f := zp_isR) (pc' := 61) rfl rfl rfl rfl rfl ?_
    refine zw_ld (n := 1) (k := 1) (f := zp_isR) (pc' := 62) rfl rfl rfl rfl rfl ?_
    refine zw_ld (n := 1) (k := 2) (f := zp_isI) (pc' := 63) rfl rfl rfl rfl rfl ?_
    refine zw_c (pc' := 66) (zw_cv (q := 53) (Y := zm_88) W.1 rfl rfl zm_88_t rfl rfl) rfl rfl rfl rfl rfl (b1) ?_
    refine zw_bne1 (g := 71) (pc' := 69) rfl rfl rfl rfl (fun hv => ?_) (fun hv => ?_)
    · rcases e4 with ⟨_, e5, lv2, e6, e7⟩ | ⟨e4, _⟩
      rotate_left
      · omega
      refine zw_s (pc' := 72) rfl rfl ?_
      refine zw_st (n := 1) (k := 3) (f := zp_isI) (pc' := 73) rfl rfl rfl rfl rfl ?_
      exact yc_exprL hP hE hl hb hx _ H2 _ _ q2 lv2 rfl (zw_gt rfl rfl rfl) (zw_gt rfl rfl rfl) (zw_gt rfl rfl rfl) zw_g1 ⟨by decide, by show (0 : Int) ≤ _; omega⟩ e2 e3 e6 (xRC_up (by decide) (by omega) e7) e5
    · refine zw_s (pc' := 70) rfl rfl ?_
      refine zw_rz rfl rfl (by decide) ?_
      rcases e4 with ⟨e4, _⟩ | ⟨e4, r, e5, e6, e7, e8⟩
      · omega
      · exact yX_0 e2 e3 e5 e6 e7 e8
  · omega

theorem yc_ex6 {L : Nat} {σ : Nat → Int32} {T : Nat → Int} {n wa wr d p : Nat} {x : Int32} {H : zp_H} (hx : x.toInt = 6) (h : yE T n p H) : ∃ X, zp_Call L σ (d + 2) 85 [.inr (.inr (some 54)), .inr (.inr (some wr)), .inl x] H X ∧ ∃ H1, X = (.inl (some (.inl (Int32.ofInt 0))), H1) ∧ yE T n p H1 ∧ zk_Fr zg yx_m [wa] H H1 ∧ (H1.2.1 53 2).toInt = (if yB T n p then 2 else 1) := by
  have W := zB_Wd h.1.1
  have h4 := yE_4 h
  refine zw_met zm_85_t rfl rfl ?_
  refine zw_ld (n := 1) (k := 2) (f := zp_isI) (pc' := 1) rfl rfl rfl rfl rfl ?_
  refine zw_s (pc' := 3) rfl rfl ?_
  refine zw_blt2 (g := 60) (pc' := 6) rfl rfl rfl rfl (rfl : _ = (6 : Int)) (fun h6 => ?_) (fun h6 => ?_)
  · omega
  · refine zw_ld (n := 1) (k := 0) (f := zp_isR) (pc' := 7) rfl rfl rfl rfl rfl ?_
    refine zw_gR (q := 53) (pc' := 10) W rfl rfl rfl rfl (W.2 53 0 _ rfl) rfl ?_
    refine zw_gI (q := 52) (pc' := 13) W rfl rfl rfl rfl rfl rfl ?_
    refine zw_s (pc' := 14) rfl rfl ?_
    refine zw_beq2 (g := 40) (pc' := 17) rfl rfl rfl rfl (rfl : _ = (2 : Int)) (fun h2 => ?_) (fun h2 => ?_)
    · refine zw_s (pc' := 41) rfl rfl ?_
      refine zw_s (pc' := 45) rfl rfl ?_
      refine zw_st (n := 1) (k := 3) (f := zp_isI) (pc' := 46) rfl rfl rfl rfl rfl ?_
      refine zw_ld (n := 1) (k := 0) (f := zp_isR) (pc' := 47) rfl rfl (zw_gt rfl rfl rfl) rfl rfl ?_
      refine zw_ld (n := 1) (k := 3) (f := zp_isI) (pc' := 48) rfl rfl zw_g1 rfl rfl ?_
      refine zw_beq1 (g := 55) (pc' := 51) rfl rfl rfl (rfl : _ = (1 : Int)) (fun h9 => absurd h9 (by decide)) (fun h9 => ?_)
      refine zw_s (pc' := 52) rfl rfl ?_
      refine zw_s (pc' := 56) rfl rfl ?_
      obtain ⟨K9, c1, c2, c3, c4⟩ := yc_rf (L := L) (σ := σ) (d := d) (wa := wa) (x := Int32.ofInt 2) h
      refine zw_c (pc' := 59) (zw_cv (q := 53) (Y := zm_87) W.1 rfl rfl zm_87_t rfl rfl) rfl rfl rfl rfl rfl (c1) ?_
      refine zw_rz rfl rfl (by decide) ?_
      exact ⟨K9, rfl, c2, c3, by rw [c4, if_pos (show yB T n p from Or.inl (by omega))]; rfl⟩
    · refine zw_ld (n := 1) (k := 0) (f := zp_isR) (pc' := 18) rfl rfl rfl rfl rfl ?_
      refine zw_gR (q := 53) (pc' := 21) W rfl rfl rfl rfl (W.2 53 0 _ rfl) rfl ?_
      refine zw_gI (q := 52) (pc' := 24) W rfl rfl rfl rfl rfl rfl ?_
      refine zw_s (pc' := 25) rfl rfl ?_
      refine zw_beq2 (g := 40) (pc' := 28) rfl rfl rfl rfl (rfl : _ = (3 : Int)) (fun h3 => ?_) (fun h3 => ?_)
      · refine zw_s (pc' := 41) rfl rfl ?_
        refine zw_s (pc' := 45) rfl rfl ?_
        refine zw_st (n := 1) (k := 3) (f := zp_isI) (pc' := 46) rfl rfl rfl rfl rfl ?_
        refine zw_ld (n := 1) (k := 0) (f := zp_isR) (pc' := 47) rfl rfl (zw_gt rfl rfl rfl) rfl rfl ?_
        refine zw_ld (n := 1) (k := 3) (f := zp_isI) (pc' := 48) rfl rfl zw_g1 rfl rfl ?_
        refine zw_beq1 (g := 55) (pc' := 51) rfl rfl rfl (rfl : _ = (1 : Int)) (fun h9 => absurd h9 (by decide)) (fun h9 => ?_)
        refine zw_s (pc' := 52) rfl rfl ?_
        refine zw_s (pc' := 56) rfl rfl ?_
        obtain ⟨K9, c1, c2, c3, c4⟩ := yc_rf (L := L) (σ := σ) (d := d) (wa := wa) (x := Int32.ofInt 2) h
        refine zw_c (pc' := 59) (zw_cv (q := 53) (Y := zm_87) W.1 rfl rfl zm_87_t rfl rfl) rfl rfl rfl rfl rfl (c1) ?_
        refine zw_rz rfl rfl (by decide) ?_
        exact ⟨K9, rfl, c2, c3, by rw [c4, if_pos (show yB T n p from Or.inr (Or.inl (by omega)))]; rfl⟩
      · refine zw_ld (n := 1) (k := 0) (f := zp_isR) (pc' := 29) rfl rfl rfl rfl rfl ?_
        refine zw_gR (q := 53) (pc' := 32) W rfl rfl rfl rfl (W.2 53 0 _ rfl) rfl ?_
        refine zw_s (pc' := 34) rfl rfl ?_
        by_cases ha : ys_kd T n p = 4 ∧ ys_vl T n p = 40
        · refine zw_c (pc' := 37) (zw_cv (q := 52) (Y := zm_86) W.1 rfl rfl zm_86_t rfl rfl) rfl rfl rfl rfl rfl (yc_sg1 rfl h ha) ?_
          refine zw_beq1 (g := 44) (pc' := 40) rfl rfl rfl (rfl : _ = (1 : Int)) (fun h9 => absurd h9 (by decide)) (fun h9 => ?_)
          refine zw_s (pc' := 41) rfl rfl ?_
          refine zw_s (pc' := 45) rfl rfl ?_
          refine zw_st (n := 1) (k := 3) (f := zp_isI) (pc' := 46) rfl rfl rfl rfl rfl ?_
          refine zw_ld (n := 1) (k := 0) (f := zp_isR) (pc' := 47) rfl rfl (zw_gt rfl rfl rfl) rfl rfl ?_
          refine zw_ld (n := 1) (k := 3) (f := zp_isI) (pc' := 48) rfl rfl zw_g1 rfl rfl ?_
          refine zw_beq1 (g := 55) (pc' := 51) rfl rfl rfl (rfl : _ = (1 : Int)) (fun h9 => absurd h9 (by decide)) (fun h9 => ?_)
          refine zw_s (pc' := 52) rfl rfl ?_
          refine zw_s (pc' := 56) rfl rfl ?_
          obtain ⟨K9, c1, c2, c3, c4⟩ := yc_rf (L := L) (σ := σ) (d := d) (wa := wa) (x := Int32.ofInt 2) h
          refine zw_c (pc' := 59) (zw_cv (q := 53) (Y := zm_87) W.1 rfl rfl zm_87_t rfl rfl) rfl rfl rfl rfl rfl (c1) ?_
          refine zw_rz rfl rfl (by decide) ?_
          exact ⟨K9, rfl, c2, c3, by rw [c4, if_pos (show yB T n p from Or.inr (Or.inr ha))]; rfl⟩
        · refine zw_c (pc' := 37) (zw_cv (q := 52) (Y := zm_86) W.1 rfl rfl zm_86_t rfl rfl) rfl rfl rfl rfl rfl (yc_sg0 rfl h ha) ?_
          refine zw_beq1 (g := 44) (pc' := 40) rfl rfl rfl (rfl : _ = (0 : Int)) (fun h9 => ?_) (fun h9 => absurd h9 (by decide))
          refine zw_s (pc' := 45) rfl rfl ?_
          refine zw_st (n := 1) (k := 3) (f := zp_isI) (pc' := 46) rfl rfl rfl rfl rfl ?_
          refine zw_ld (n := 1) (k := 0) (f := zp_isR) (pc' := 47) rfl rfl (zw_gt rfl rfl rfl) rfl rfl ?_
          refine zw_ld (n := 1) (k := 3) (f := zp_isI) (pc' := 48) rfl rfl zw_g1 rfl rfl ?_
          refine zw_beq1 (g := 55) (pc' := 51) rfl rfl rfl (rfl : _ = (0 : Int)) (fun h9 => ?_) (fun h9 => absurd h9 (by decide))
          refine zw_s (pc' := 56) rfl rfl ?_
          obtain ⟨K9, c1, c2, c3, c4⟩ := yc_rf (L := L) (σ := σ) (d := d) (wa := wa) (x := Int32.ofInt 1) h
          refine zw_c (pc' := 59) (zw_cv (q := 53) (Y := zm_87) W.1 rfl rfl zm_87_t rfl rfl) rfl rfl rfl rfl rfl (c1) ?_
          refine zw_rz rfl rfl (by decide) ?_
          exact ⟨K9, rfl, c2, c3, by rw [c4, if_neg (show ¬ yB T n p from fun h9 => by rcases h9 with h9 | h9 | h9 <;> omega)]; rfl⟩

theorem yG_6 {L : Nat} {σ : Nat → Int32} {T : Nat → Int} {n wa wr : Nat} : yG L σ T n wa wr 2 5 := by
  intro lv x p H hl hx h
  obtain ⟨X, c1, H1, rfl, c2, c3, c4⟩ := yc_ex6 (L := L) (σ := σ) (wa := wa) (wr := wr) (d := 0) (x := x) (by omega) h
  refine ⟨_, c1, _, H1, p, rfl, c2, c3, Or.inr ⟨rfl, (if yB T n p then 2 else 1, p), fun h9 => by omega, fun _ => rfl, rfl, c4, ?_⟩⟩
  show 1 ≤ (if yB T n p then (2 : Int) else 1) ∧ (if yB T n p then (2 : Int) else 1) ≤ 5
  split <;> decide
theorem yK_85 {L : Nat} {σ : Nat → Int32} {T : Nat → Int} {n wa wr c l : Nat} (hl6 : l < 6) (hP : yc_P L σ wr wa) (hE : yG L σ T n wa wr c l) : yK L σ T n wa wr 1 85 2 (fun lv => yQ5 T n lv.tail) (some false) (c + 10) l := by
  have h1 := yc_part hl6 hP hE
  have h2 := yc_prod (c := c) hP h1
  have h3 := yc_sum (c := c + 1) hP h2
  have h4 := yc_test (c := c + 2) hP h3
  have h5 := yc_not (c := c + 3) hP h4
  have h6 := yc_and (c := c + 4) hP h5
  exact yc_expr (c := c + 5) hl6 hP h6
theorem yG_dn {L : Nat} {σ : Nat → Int32} {T : Nat → Int} {n wa wr c l : Nat} (hl5 : l < 5) (h : yK L σ T n wa wr 1 85 2 (fun lv => yQ5 T n lv.tail) (some false) c (l + 1)) : yG L σ T n wa wr c l := by
  intro lv x p H hl hx hE
  obtain ⟨X, c1, v, H1, q, rfl, c2, c3, c4⟩ := h (false :: lv) x p H (by rw [List.length_cons, hl]) (fun b' h9 => by cases h9; rfl) hx hE
  refine ⟨_, c1, v, H1, q, rfl, c2, c3, ?_⟩
  rcases c4 with ⟨a, b, lv', e1, e2⟩ | ⟨a, r, e1, e2⟩
  · exact Or.inl ⟨a, b, by omega, lv', e1, xRC_up (Nat.le_refl _) (by omega) e2⟩
  · exact Or.inr ⟨a, r, fun _ => e1, fun h9 => absurd (by omega) h9, e2⟩
/-- a whole expression -/
theorem yc_EX {L : Nat} {σ : Nat → Int32} {T : Nat → Int} {n wa wr : Nat} (hP : yc_P L σ wr wa) : yK L σ T n wa wr 1 85 2 (fun lv => yQ5 T n lv.tail) (some false) 62 0 := by
  have h5 := yK_85 (T := T) (n := n) (c := 2) (l := 5) (by decide) hP yG_6
  have h4 := yK_85 (c := 12) (l := 4) (by decide) hP (yG_dn (by decide) h5)
  have h3 := yK_85 (c := 22) (l := 3) (by decide) hP (yG_dn (by decide) h4)
  have h2 := yK_85 (c := 32) (l := 2) (by decide) hP (yG_dn (by decide) h3)
  have h1 := yK_85 (c := 42) (l := 1) (by decide) hP (yG_dn (by decide) h2)
  exact yK_85 (c := 52) (l := 0) (by decide) hP (yG_dn (by decide) h1)
theorem yc_readExpr {L : Nat} {σ : Nat → Int32} {T : Nat → Int} {n wa wr p : Nat} {H : zp_H} (hP : yc_P L σ wr wa) (h : yE T n p H) : ∃ (v : Int32) (H1 : zp_H) (q : Nat), zp_Call L σ 62 85 [.inr (.inr (some 54)), .inr (.inr (some wr)), .inl (Int32.ofInt 0)] H (.inl (some (.inl v)), H1) ∧ yE T n q H1 ∧ zk_Fr zg yx_m [wa] H H1 ∧ ((v.toInt = 1 ∧ p < q ∧ yA T n (2, [false], p) (0, q) ∧ (0 ≤ (H.2.1 53 1).toInt → (H.2.1 53 1).toInt ≤ p → ∃ C, yTA T n (2, [false], p) [] [] (q, C) ∧ xOp 37 C ∧ (C.length : Int) + p ≤ q ∧ xGr wa C H H1)) ∨ (v.toInt = 0 ∧ ∃ k : Int, yA T n (2, [false], p) (k, q) ∧ (H1.2.1 53 2).toInt = k ∧ 1 ≤ k ∧ k ≤ 5)) := by
  obtain ⟨X, c1, v, H1, q, rfl, c2, c3, c4⟩ := yc_EX (L := L) (σ := σ) (T := T) (n := n) hP [false] (Int32.ofInt 0) p H rfl (fun b' h9 => by cases h9; rfl) rfl h
  refine ⟨v, H1, q, c1, c2, c3, ?_⟩
  rcases c4 with ⟨a, b, lv', e1, e2⟩ | ⟨a, ⟨k, q'⟩, e1, rfl, e2, e3⟩
  · have hend : yN T n (0, lv', q) = .inr (0, q) := by
      obtain ⟨⟨⟨t, rfl, f1, f2⟩, f3⟩, f4⟩ := e1
      rw [yN_en ⟨fun h9 => ?_, f1.2, f1.1.2⟩ (fun h9 => ?_) (fun h9 => absurd h9.2.2 (by show ¬ 1 < 1; omega)), if_neg (by show ¬ 1 < 1; omega)]
      · rcases h9.2 with h8 | h8
        · exact f3 ⟨h9.1, h8⟩
        · exact f4 ⟨h9.1, h8⟩
      · exact f2 (Option.some.inj h9.2.2) ⟨h9.1, h9.2.1⟩
    refine Or.inl ⟨a, b, e2.1 _ (yA_done hend), fun h0 h1 => ?_⟩
    obtain ⟨C, c1, c2, c3, c4⟩ := e2.2 h0 h1
    exact ⟨C, xPo_end c1 hend, xOp_m (by omega) c2, c3, c4⟩
  · exact Or.inr ⟨a, k, e1, e2, e3⟩
end
section
/-! ===== the class's words are the letters' ===== -/
def yw_fl (T : Nat → Int) : Nat → Nat → List Int
  | _, 0 => []
  | s, m + 1 => T s :: yw_fl T (s + 1) m
def yw_sc (i : Nat) : Int := (Int32.ofNat (zp_spell.getD i 0)).toInt
/-- spelled from i on: these letters, then a space -/
def yw_at : Nat → List Int → Prop
  | i, [] => yw_sc i = 32
  | i, c :: r => yw_sc i = c ∧ c ≠ 32 ∧ yw_at (i + 1) r
def yw_mt (T : Nat → Int) (s e : Nat) : Int → List Int → Prop
  | a, [] => a = (e : Int) - s
  | a, c :: r => (a ≠ -1 ∧ (s : Int) + a < e ∧ T ((s : Int) + a).toNat = c) ∧ yw_mt T s e (a + 1) r
theorem yw_mt_no {T : Nat → Int} {s e : Nat} (h : s ≤ e) : ∀ (cs : List Int), ¬ yw_mt T s e (-1) cs
  | [], h9 => by
    have h9 : (-1 : Int) = (e : Int) - s := h9
    omega
  | _ :: _, h9 => h9.1.1 rfl
theorem yw_wl {T : Nat → Int} {s e : Nat} (h : s ≤ e) (f : Nat) : ∀ (cs : List Int) (i : Nat) (a : Int), ys_al T s e i = a → yw_at i cs → (yw_mt T s e a cs → ys_wl T s e (f + 1 + cs.length) i = zq_sp (i + cs.length)) ∧ (¬ yw_mt T s e a cs → ys_wl T s e (f + 1 + cs.length) i = ys_wl T s e f (i + cs.length + 1)) ∧ ys_al T s e (i + cs.length + 1) = 0
  | [], i, a, ha, hs => by
    have hs : yw_sc i = 32 := hs
    refine ⟨fun hm => ?_, fun hm => ?_, ?_⟩
    · show (if _ then _ else _) = _
      rw [if_pos ⟨hs, ha.trans hm⟩]
      rfl
    · show (if _ then _ else _) = _
      rw [if_neg (fun h9 => hm (ha.symm.trans h9.2))]
      rfl
    · exact if_pos hs
  | c :: r, i, a, ha, hs => by
    obtain ⟨h1, h2, h3⟩ := hs
    have e1 : ∀ g, ys_wl T s e (g + 1) i = ys_wl T s e g (i + 1) := fun g => by
      show (if _ then _ else _) = _
      rw [if_neg (fun h9 => h2 (h1.symm.trans h9.1))]
    have e2 : f + 1 + (c :: r).length = f + 1 + r.length + 1 := rfl
    have e3 : i + (c :: r).length = i + 1 + r.length := by
      rw [List.length_cons]
      omega
    rw [e2, e1, e3]
    have e4 : ys_al T s e (i + 1) = if a ≠ -1 ∧ (s : Int) + a < e ∧ T ((s : Int) + a).toNat = c then a + 1 else -1 := by
      refine (if_neg (show ¬ yw_sc i = 32 from fun h9 => h2 (h1.symm.trans h9))).trans ?_
      rw [ha]
      show (if a ≠ -1 ∧ (s : Int) + a < e ∧ T ((s : Int) + a).toNat = yw_sc i then a + 1 else -1) = _
      rw [h1]
    by_cases hc : a ≠ -1 ∧ (s : Int) + a < e ∧ T ((s : Int) + a).toNat = c
    · rw [if_pos hc] at e4
      obtain ⟨k1, k2, k3⟩ := yw_wl h f r (i + 1) (a + 1) e4 h3
      exact ⟨fun hm => k1 hm.2, fun hm => k2 (fun h9 => hm ⟨hc, h9⟩), k3⟩
    · rw [if_neg hc] at e4
      obtain ⟨k1, k2, k3⟩ := yw_wl h f r (i + 1) (-1) e4 h3
      exact ⟨fun hm => absurd hm.1 hc, fun hm => k2 (yw_mt_no h r), k3⟩
theorem yw_mt_f {T : Nat → Int} {s e : Nat} : ∀ (cs : List Int) (j : Nat), s + j ≤ e → (yw_mt T s e j cs ↔ yw_fl T (s + j) (e - (s + j)) = cs)
  | [], j, hj => by
    constructor
    · intro h
      have h : (j : Int) = (e : Int) - s := h
      rw [show e - (s + j) = 0 by omega]
      rfl
    · intro h
      show (j : Int) = (e : Int) - s
      cases hm : e - (s + j) with
      | zero => omega
      | succ m =>
        rw [hm] at h
        cases h
  | c :: r, j, hj => by
    cases hm : e - (s + j) with
    | zero =>
      constructor
      · intro h
        have := h.1.2.1
        omega
      · intro h
        cases h
    | succ m =>
      have ih := yw_mt_f (T := T) (s := s) (e := e) r (j + 1) (by omega)
      have e1 : e - (s + (j + 1)) = m := by omega
      rw [e1] at ih
      have e2 : ((s : Int) + (j : Int)).toNat = s + j := by omega
      constructor
      · intro h
        have h2 := ih.mp h.2
        have h1 := h.1.2.2
        rw [e2] at h1
        show T (s + j) :: yw_fl T (s + j + 1) m = c :: r
        rw [h1, show s + j + 1 = s + (j + 1) by omega, h2]
      · intro h
        have h : T (s + j) :: yw_fl T (s + j + 1) m = c :: r := h
        obtain ⟨h1, h2⟩ := List.cons.inj h
        refine ⟨⟨by omega, by omega, ?_⟩, ih.mpr h2⟩
        rw [e2]
        exact h1
theorem yw_fl_s {T : Nat → Int} : ∀ (m s : Nat), yw_fl T s (m + 1) = yw_fl T s m ++ [T (s + m)]
  | 0, s => rfl
  | m + 1, s => by
    show T s :: yw_fl T (s + 1) (m + 1) = T s :: yw_fl T (s + 1) m ++ [T (s + (m + 1))]
    rw [yw_fl_s m (s + 1), show s + 1 + m = s + (m + 1) by omega]
    rfl
def yw_g (c : Int) : Nat := (c - 96).toNat
theorem yw_rl_f {T : Nat → Int} {s : Nat} : ∀ (m : Nat), yw_rl T s m = ((yw_fl T s m).map yw_g).reverse
  | 0 => rfl
  | m + 1 => by
    rw [yw_fl_s, List.map_append, List.reverse_append, ← yw_rl_f m]
    rfl
theorem yw_fl_d {T : Nat → Int} : ∀ (m s : Nat), (∀ t, t < m → 97 ≤ T (s + t) ∧ T (s + t) ≤ 122) → ∀ c ∈ yw_fl T s m, 97 ≤ c ∧ c ≤ 122
  | 0, s, _, c, hc => absurd hc List.not_mem_nil
  | m + 1, s, h, c, hc => by
    rcases List.mem_cons.mp hc with rfl | hc
    · exact h 0 (Nat.succ_pos _)
    · exact yw_fl_d m (s + 1) (fun t ht => by rw [show s + 1 + t = s + (t + 1) by omega]; exact h (t + 1) (by omega)) c hc
theorem yw_map {a b : List Int} (ha : ∀ c ∈ a, 97 ≤ c ∧ c ≤ 122) (hb : ∀ c ∈ b, 97 ≤ c ∧ c ≤ 122) (h : a.map yw_g = b.map yw_g) : a = b := by
  induction a generalizing b with
  | nil =>
    cases b with
    | nil => rfl
    | cons _ _ => cases h
  | cons x a ih =>
    cases b with
    | nil => cases h
    | cons y b =>
      obtain ⟨h1, h2⟩ := List.cons.inj h
      have hx := ha x List.mem_cons_self
      have hy := hb y List.mem_cons_self
      have h1 : (x - 96).toNat = (y - 96).toNat := h1
      rw [ih (fun c hc => ha c (List.mem_cons_of_mem _ hc)) (fun c hc => hb c (List.mem_cons_of_mem _ hc)) h2, show x = y by omega]
theorem yw_mt_r {T : Nat → Int} {s e : Nat} {cs : List Int} {w : List Nat} (hse : s ≤ e) (h : ∀ t, t < e - s → 97 ≤ T (s + t) ∧ T (s + t) ≤ 122) (hw : (cs.map yw_g).reverse = w) (hc : cs.all (fun c => decide (97 ≤ c ∧ c ≤ 122)) = true) : yw_mt T s e 0 cs ↔ yw_rl T s (e - s) = w := by
  have h1 := yw_mt_f (T := T) (s := s) (e := e) cs 0 hse
  have h1 : yw_mt T s e 0 cs ↔ yw_fl T s (e - s) = cs := h1
  rw [h1, yw_rl_f, ← hw]
  constructor
  · intro h9
    rw [h9]
  · intro h9
    exact yw_map (yw_fl_d _ _ h) (fun c h8 => of_decide_eq_true (List.all_eq_true.mp hc c h8)) (List.reverse_inj.mp h9)

theorem yw_wi {T : Nat → Int} {s e : Nat} (hse : s ≤ e) (h : ∀ t, t < e - s → 97 ≤ T (s + t) ∧ T (s + t) ≤ 122) : ys_wi T s e = yw_cls (yw_rl T s (e - s)) := by
  have a0 : ys_al T s e 0 = 0 := rfl
  have m0 := yw_mt_r (cs := [110, 111, 114, 116, 104]) (w := [8, 20, 18, 15, 14]) hse h rfl rfl
  obtain ⟨p0, n0, a1⟩ := yw_wl hse 95 [110, 111, 114, 116, 104] 0 0 a0 (by refine ⟨rfl, by decide, rfl, by decide, rfl, by decide, rfl, by decide, rfl, by decide, rfl⟩)
  have m1 := yw_mt_r (cs := [101, 97, 115, 116]) (w := [20, 19, 1, 5]) hse h rfl rfl
  obtain ⟨p1, n1, a2⟩ := yw_wl hse 90 [101, 97, 115, 116] 6 0 a1 (by refine ⟨rfl, by decide, rfl, by decide, rfl, by decide, rfl, by decide, rfl⟩)
  have m2 := yw_mt_r (cs := [115, 111, 117, 116, 104]) (w := [8, 20, 21, 15, 19]) hse h rfl rfl
  obtain ⟨p2, n2, a3⟩ := yw_wl hse 84 [115, 111, 117, 116, 104] 11 0 a2 (by refine ⟨rfl, by decide, rfl, by decide, rfl, by decide, rfl, by decide, rfl, by decide, rfl⟩)
  have m3 := yw_mt_r (cs := [119, 101, 115, 116]) (w := [20, 19, 5, 23]) hse h rfl rfl
  obtain ⟨p3, n3, a4⟩ := yw_wl hse 79 [119, 101, 115, 116] 17 0 a3 (by refine ⟨rfl, by decide, rfl, by decide, rfl, by decide, rfl, by decide, rfl⟩)
  have m4 := yw_mt_r (cs := [120]) (w := [24]) hse h rfl rfl
  obtain ⟨p4, n4, a5⟩ := yw_wl hse 77 [120] 22 0 a4 (by refine ⟨rfl, by decide, rfl⟩)
  have m5 := yw_mt_r (cs := [121]) (w := [25]) hse h rfl rfl
  obtain ⟨p5, n5, a6⟩ := yw_wl hse 75 [121] 24 0 a5 (by refine ⟨rfl, by decide, rfl⟩)
  have m6 := yw_mt_r (cs := [104, 111, 117, 114]) (w := [18, 21, 15, 8]) hse h rfl rfl
  obtain ⟨p6, n6, a7⟩ := yw_wl hse 70 [104, 111, 117, 114] 26 0 a6 (by refine ⟨rfl, by decide, rfl, by decide, rfl, by decide, rfl, by decide, rfl⟩)
  have m7 := yw_mt_r (cs := [116, 105, 100, 101]) (w := [5, 4, 9, 20]) hse h rfl rfl
  obtain ⟨p7, n7, a8⟩ := yw_wl hse 65 [116, 105, 100, 101] 31 0 a7 (by refine ⟨rfl, by decide, rfl, by decide, rfl, by decide, rfl, by decide, rfl⟩)
  have m8 := yw_mt_r (cs := [111, 114]) (w := [18, 15]) hse h rfl rfl
  obtain ⟨p8, n8, a9⟩ := yw_wl hse 62 [111, 114] 36 0 a8 (by refine ⟨rfl, by decide, rfl, by decide, rfl⟩)
  have m9 := yw_mt_r (cs := [97, 110, 100]) (w := [4, 14, 1]) hse h rfl rfl
  obtain ⟨p9, n9, a10⟩ := yw_wl hse 58 [97, 110, 100] 39 0 a9 (by refine ⟨rfl, by decide, rfl, by decide, rfl, by decide, rfl⟩)
  have m10 := yw_mt_r (cs := [110, 111, 116]) (w := [20, 15, 14]) hse h rfl rfl
  obtain ⟨p10, n10, a11⟩ := yw_wl hse 54 [110, 111, 116] 43 0 a10 (by refine ⟨rfl, by decide, rfl, by decide, rfl, by decide, rfl⟩)
  have m11 := yw_mt_r (cs := [103, 111]) (w := [15, 7]) hse h rfl rfl
  obtain ⟨p11, n11, a12⟩ := yw_wl hse 51 [103, 111] 47 0 a11 (by refine ⟨rfl, by decide, rfl, by decide, rfl⟩)
  have m12 := yw_mt_r (cs := [115, 101, 97]) (w := [1, 5, 19]) hse h rfl rfl
  obtain ⟨p12, n12, a13⟩ := yw_wl hse 47 [115, 101, 97] 50 0 a12 (by refine ⟨rfl, by decide, rfl, by decide, rfl, by decide, rfl⟩)
  have m13 := yw_mt_r (cs := [114, 111, 99, 107]) (w := [11, 3, 15, 18]) hse h rfl rfl
  obtain ⟨p13, n13, a14⟩ := yw_wl hse 42 [114, 111, 99, 107] 54 0 a13 (by refine ⟨rfl, by decide, rfl, by decide, rfl, by decide, rfl, by decide, rfl⟩)
  have m14 := yw_mt_r (cs := [99, 117, 114, 114, 101, 110, 116]) (w := [20, 14, 5, 18, 18, 21, 3]) hse h rfl rfl
  obtain ⟨p14, n14, a15⟩ := yw_wl hse 34 [99, 117, 114, 114, 101, 110, 116] 59 0 a14 (by refine ⟨rfl, by decide, rfl, by decide, rfl, by decide, rfl, by decide, rfl, by decide, rfl, by decide, rfl, by decide, rfl⟩)
  have m15 := yw_mt_r (cs := [115, 108, 97, 116, 101]) (w := [5, 20, 1, 12, 19]) hse h rfl rfl
  obtain ⟨p15, n15, a16⟩ := yw_wl hse 28 [115, 108, 97, 116, 101] 67 0 a15 (by refine ⟨rfl, by decide, rfl, by decide, rfl, by decide, rfl, by decide, rfl, by decide, rfl⟩)
  have m16 := yw_mt_r (cs := [104, 97, 110, 100]) (w := [4, 14, 1, 8]) hse h rfl rfl
  obtain ⟨p16, n16, a17⟩ := yw_wl hse 23 [104, 97, 110, 100] 73 0 a16 (by refine ⟨rfl, by decide, rfl, by decide, rfl, by decide, rfl, by decide, rfl⟩)
  have m17 := yw_mt_r (cs := [115, 99, 104, 111, 111, 108]) (w := [12, 15, 15, 8, 3, 19]) hse h rfl rfl
  obtain ⟨p17, n17, a18⟩ := yw_wl hse 16 [115, 99, 104, 111, 111, 108] 78 0 a17 (by refine ⟨rfl, by decide, rfl, by decide, rfl, by decide, rfl, by decide, rfl, by decide, rfl, by decide, rfl⟩)
  have m18 := yw_mt_r (cs := [103, 111, 97, 108]) (w := [12, 1, 15, 7]) hse h rfl rfl
  obtain ⟨p18, n18, a19⟩ := yw_wl hse 11 [103, 111, 97, 108] 85 0 a18 (by refine ⟨rfl, by decide, rfl, by decide, rfl, by decide, rfl, by decide, rfl⟩)
  have m19 := yw_mt_r (cs := [112, 105, 108, 111, 116]) (w := [20, 15, 12, 9, 16]) hse h rfl rfl
  obtain ⟨p19, n19, a20⟩ := yw_wl hse 5 [112, 105, 108, 111, 116] 90 0 a19 (by refine ⟨rfl, by decide, rfl, by decide, rfl, by decide, rfl, by decide, rfl, by decide, rfl⟩)
  have m20 := yw_mt_r (cs := [114, 117, 108, 101]) (w := [5, 12, 21, 18]) hse h rfl rfl
  obtain ⟨p20, n20, a21⟩ := yw_wl hse 0 [114, 117, 108, 101] 96 0 a20 (by refine ⟨rfl, by decide, rfl, by decide, rfl, by decide, rfl, by decide, rfl⟩)
  unfold yw_cls
  by_cases h0 : yw_rl T s (e - s) = [8, 20, 18, 15, 14]
  · rw [if_pos h0]
    exact (p0 (m0.mpr h0)).trans (by decide +kernel)
  rw [if_neg h0]
  by_cases h1 : yw_rl T s (e - s) = [20, 19, 1, 5]
  · rw [if_pos h1]
    exact (n0 (fun hz => h0 (m0.mp hz))).trans ((p1 (m1.mpr h1)).trans (by decide +kernel))
  rw [if_neg h1]
  by_cases h2 : yw_rl T s (e - s) = [8, 20, 21, 15, 19]
  · rw [if_pos h2]
    exact (n0 (fun hz => h0 (m0.mp hz))).trans ((n1 (fun hz => h1 (m1.mp hz))).trans ((p2 (m2.mpr h2)).trans (by decide +kernel)))
  rw [if_neg h2]
  by_cases h3 : yw_rl T s (e - s) = [20, 19, 5, 23]
  · rw [if_pos h3]
    exact (n0 (fun hz => h0 (m0.mp hz))).trans ((n1 (fun hz => h1 (m1.mp hz))).trans ((n2 (fun hz => h2 (m2.mp hz))).trans ((p3 (m3.mpr h3)).trans (by decide +kernel))))
  rw [if_neg h3]
  by_cases h4 : yw_rl T s (e - s) = [24]
  · rw [if_pos h4]
    exact (n0 (fun hz => h0 (m0.mp hz))).trans ((n1 (fun hz => h1 (m1.mp hz))).trans ((n2 (fun hz => h2 (m2.mp hz))).trans ((n3 (fun hz => h3 (m3.mp hz))).trans ((p4 (m4.mpr h4)).trans (by decide +kernel)))))
  rw [if_neg h4]
  by_cases h5 : yw_rl T s (e - s) = [25]
  · rw [if_pos h5]
    exact (n0 (fun hz => h0 (m0.mp hz))).trans ((n1 (fun hz => h1 (m1.mp hz))).trans ((n2 (fun hz => h2 (m2.mp hz))).trans ((n3 (fun hz => h3 (m3.mp hz))).trans ((n4 (fun hz => h4 (m4.mp hz))).trans ((p5 (m5.mpr h5)).trans (by decide +kernel))))))
  rw [if_neg h5]
  by_cases h6 : yw_rl T s (e - s) = [18, 21, 15, 8]
  · rw [if_pos h6]
    exact (n0 (fun hz => h0 (m0.mp hz))).trans ((n1 (fun hz => h1 (m1.mp hz))).trans ((n2 (fun hz => h2 (m2.mp hz))).trans ((n3 (fun hz => h3 (m3.mp hz))).trans ((n4 (fun hz => h4 (m4.mp hz))).trans ((n5 (fun hz => h5 (m5.mp hz))).trans ((p6 (m6.mpr h6)).trans (by decide +kernel)))))))
  rw [if_neg h6]
  by_cases h7 : yw_rl T s (e - s) = [5, 4, 9, 20]
  · rw [if_pos h7]
    exact (n0 (fun hz => h0 (m0.mp hz))).trans ((n1 (fun hz => h1 (m1.mp hz))).trans ((n2 (fun hz => h2 (m2.mp hz))).trans ((n3 (fun hz => h3 (m3.mp hz))).trans ((n4 (fun hz => h4 (m4.mp hz))).trans ((n5 (fun hz => h5 (m5.mp hz))).trans ((n6 (fun hz => h6 (m6.mp hz))).trans ((p7 (m7.mpr h7)).trans (by decide +kernel))))))))
  rw [if_neg h7]
  by_cases h8 : yw_rl T s (e - s) = [18, 15]
  · rw [if_pos h8]
    exact (n0 (fun hz => h0 (m0.mp hz))).trans ((n1 (fun hz => h1 (m1.mp hz))).trans ((n2 (fun hz => h2 (m2.mp hz))).trans ((n3 (fun hz => h3 (m3.mp hz))).trans ((n4 (fun hz => h4 (m4.mp hz))).trans ((n5 (fun hz => h5 (m5.mp hz))).trans ((n6 (fun hz => h6 (m6.mp hz))).trans ((n7 (fun hz => h7 (m7.mp hz))).trans ((p8 (m8.mpr h8)).trans (by decide +kernel)))))))))
  rw [if_neg h8]
  by_cases h9 : yw_rl T s (e - s) = [4, 14, 1]
  · rw [if_pos h9]
    exact (n0 (fun hz => h0 (m0.mp hz))).trans ((n1 (fun hz => h1 (m1.mp hz))).trans ((n2 (fun hz => h2 (m2.mp hz))).trans ((n3 (fun hz => h3 (m3.mp hz))).trans ((n4 (fun hz => h4 (m4.mp hz))).trans ((n5 (fun hz => h5 (m5.mp hz))).trans ((n6 (fun hz => h6 (m6.mp hz))).trans ((n7 (fun hz => h7 (m7.mp hz))).trans ((n8 (fun hz => h8 (m8.mp hz))).trans ((p9 (m9.mpr h9)).trans (by decide +kernel))))))))))
  rw [if_neg h9]
  by_cases h10 : yw_rl T s (e - s) = [20, 15, 14]
  · rw [if_pos h10]
    exact (n0 (fun hz => h0 (m0.mp hz))).trans ((n1 (fun hz => h1 (m1.mp hz))).trans ((n2 (fun hz => h2 (m2.mp hz))).trans ((n3 (fun hz => h3 (m3.mp hz))).trans ((n4 (fun hz => h4 (m4.mp hz))).trans ((n5 (fun hz => h5 (m5.mp hz))).trans ((n6 (fun hz => h6 (m6.mp hz))).trans ((n7 (fun hz => h7 (m7.mp hz))).trans ((n8 (fun hz => h8 (m8.mp hz))).trans ((n9 (fun hz => h9 (m9.mp hz))).trans ((p10 (m10.mpr h10)).trans (by decide +kernel)))))))))))
  rw [if_neg h10]
  by_cases h11 : yw_rl T s (e - s) = [15, 7]
  · rw [if_pos h11]
    exact (n0 (fun hz => h0 (m0.mp hz))).trans ((n1 (fun hz => h1 (m1.mp hz))).trans ((n2 (fun hz => h2 (m2.mp hz))).trans ((n3 (fun hz => h3 (m3.mp hz))).trans ((n4 (fun hz => h4 (m4.mp hz))).trans ((n5 (fun hz => h5 (m5.mp hz))).trans ((n6 (fun hz => h6 (m6.mp hz))).trans ((n7 (fun hz => h7 (m7.mp hz))).trans ((n8 (fun hz => h8 (m8.mp hz))).trans ((n9 (fun hz => h9 (m9.mp hz))).trans ((n10 (fun hz => h10 (m10.mp hz))).trans ((p11 (m11.mpr h11)).trans (by decide +kernel))))))))))))
  rw [if_neg h11]
  by_cases h12 : yw_rl T s (e - s) = [1, 5, 19]
  · rw [if_pos h12]
    exact (n0 (fun hz => h0 (m0.mp hz))).trans ((n1 (fun hz => h1 (m1.mp hz))).trans ((n2 (fun hz => h2 (m2.mp hz))).trans ((n3 (fun hz => h3 (m3.mp hz))).trans ((n4 (fun hz => h4 (m4.mp hz))).trans ((n5 (fun hz => h5 (m5.mp hz))).trans ((n6 (fun hz => h6 (m6.mp hz))).trans ((n7 (fun hz => h7 (m7.mp hz))).trans ((n8 (fun hz => h8 (m8.mp hz))).trans ((n9 (fun hz => h9 (m9.mp hz))).trans ((n10 (fun hz => h10 (m10.mp hz))).trans ((n11 (fun hz => h11 (m11.mp hz))).trans ((p12 (m12.mpr h12)).trans (by decide +kernel)))))))))))))
  rw [if_neg h12]
  by_cases h13 : yw_rl T s (e - s) = [11, 3, 15, 18]
  · rw [if_pos h13]
    exact (n0 (fun hz => h0 (m0.mp hz))).trans ((n1 (fun hz => h1 (m1.mp hz))).trans ((n2 (fun hz => h2 (m2.mp hz))).trans ((n3 (fun hz => h3 (m3.mp hz))).trans ((n4 (fun hz => h4 (m4.mp hz))).trans ((n5 (fun hz => h5 (m5.mp hz))).trans ((n6 (fun hz => h6 (m6.mp hz))).trans ((n7 (fun hz => h7 (m7.mp hz))).trans ((n8 (fun hz => h8 (m8.mp hz))).trans ((n9 (fun hz => h9 (m9.mp hz))).trans ((n10 (fun hz => h10 (m10.mp hz))).trans ((n11 (fun hz => h11 (m11.mp hz))).trans ((n12 (fun hz => h12 (m12.mp hz))).trans ((p13 (m13.mpr h13)).trans (by decide +kernel))))))))))))))
  rw [if_neg h13]
  by_cases h14 : yw_rl T s (e - s) = [20, 14, 5, 18, 18, 21, 3]
  · rw [if_pos h14]
    exact (n0 (fun hz => h0 (m0.mp hz))).trans ((n1 (fun hz => h1 (m1.mp hz))).trans ((n2 (fun hz => h2 (m2.mp hz))).trans ((n3 (fun hz => h3 (m3.mp hz))).trans ((n4 (fun hz => h4 (m4.mp hz))).trans ((n5 (fun hz => h5 (m5.mp hz))).trans ((n6 (fun hz => h6 (m6.mp hz))).trans ((n7 (fun hz => h7 (m7.mp hz))).trans ((n8 (fun hz => h8 (m8.mp hz))).trans ((n9 (fun hz => h9 (m9.mp hz))).trans ((n10 (fun hz => h10 (m10.mp hz))).trans ((n11 (fun hz => h11 (m11.mp hz))).trans ((n12 (fun hz => h12 (m12.mp hz))).trans ((n13 (fun hz => h13 (m13.mp hz))).trans ((p14 (m14.mpr h14)).trans (by decide +kernel)))))))))))))))
  rw [if_neg h14]
  by_cases h15 : yw_rl T s (e - s) = [5, 20, 1, 12, 19]
  · rw [if_pos h15]
    exact (n0 (fun hz => h0 (m0.mp hz))).trans ((n1 (fun hz => h1 (m1.mp hz))).trans ((n2 (fun hz => h2 (m2.mp hz))).trans ((n3 (fun hz => h3 (m3.mp hz))).trans ((n4 (fun hz => h4 (m4.mp hz))).trans ((n5 (fun hz => h5 (m5.mp hz))).trans ((n6 (fun hz => h6 (m6.mp hz))).trans ((n7 (fun hz => h7 (m7.mp hz))).trans ((n8 (fun hz => h8 (m8.mp hz))).trans ((n9 (fun hz => h9 (m9.mp hz))).trans ((n10 (fun hz => h10 (m10.mp hz))).trans ((n11 (fun hz => h11 (m11.mp hz))).trans ((n12 (fun hz => h12 (m12.mp hz))).trans ((n13 (fun hz => h13 (m13.mp hz))).trans ((n14 (fun hz => h14 (m14.mp hz))).trans ((p15 (m15.mpr h15)).trans (by decide +kernel))))))))))))))))
  rw [if_neg h15]
  by_cases h16 : yw_rl T s (e - s) = [4, 14, 1, 8]
  · rw [if_pos h16]
    exact (n0 (fun hz => h0 (m0.mp hz))).trans ((n1 (fun hz => h1 (m1.mp hz))).trans ((n2 (fun hz => h2 (m2.mp hz))).trans ((n3 (fun hz => h3 (m3.mp hz))).trans ((n4 (fun hz => h4 (m4.mp hz))).trans ((n5 (fun hz => h5 (m5.mp hz))).trans ((n6 (fun hz => h6 (m6.mp hz))).trans ((n7 (fun hz => h7 (m7.mp hz))).trans ((n8 (fun hz => h8 (m8.mp hz))).trans ((n9 (fun hz => h9 (m9.mp hz))).trans ((n10 (fun hz => h10 (m10.mp hz))).trans ((n11 (fun hz => h11 (m11.mp hz))).trans ((n12 (fun hz => h12 (m12.mp hz))).trans ((n13 (fun hz => h13 (m13.mp hz))).trans ((n14 (fun hz => h14 (m14.mp hz))).trans ((n15 (fun hz => h15 (m15.mp hz))).trans ((p16 (m16.mpr h16)).trans (by decide +kernel)))))))))))))))))
  rw [if_neg h16]
  by_cases h17 : yw_rl T s (e - s) = [12, 15, 15, 8, 3, 19]
  · rw [if_pos h17]
    exact (n0 (fun hz => h0 (m0.mp hz))).trans ((n1 (fun hz => h1 (m1.mp hz))).trans ((n2 (fun hz => h2 (m2.mp hz))).trans ((n3 (fun hz => h3 (m3.mp hz))).trans ((n4 (fun hz => h4 (m4.mp hz))).trans ((n5 (fun hz => h5 (m5.mp hz))).trans ((n6 (fun hz => h6 (m6.mp hz))).trans ((n7 (fun hz => h7 (m7.mp hz))).trans ((n8 (fun hz => h8 (m8.mp hz))).trans ((n9 (fun hz => h9 (m9.mp hz))).trans ((n10 (fun hz => h10 (m10.mp hz))).trans ((n11 (fun hz => h11 (m11.mp hz))).trans ((n12 (fun hz => h12 (m12.mp hz))).trans ((n13 (fun hz => h13 (m13.mp hz))).trans ((n14 (fun hz => h14 (m14.mp hz))).trans ((n15 (fun hz => h15 (m15.mp hz))).trans ((n16 (fun hz => h16 (m16.mp hz))).trans ((p17 (m17.mpr h17)).trans (by decide +kernel))))))))))))))))))
  rw [if_neg h17]
  by_cases h18 : yw_rl T s (e - s) = [12, 1, 15, 7]
  · rw [if_pos h18]
    exact (n0 (fun hz => h0 (m0.mp hz))).trans ((n1 (fun hz => h1 (m1.mp hz))).trans ((n2 (fun hz => h2 (m2.mp hz))).trans ((n3 (fun hz => h3 (m3.mp hz))).trans ((n4 (fun hz => h4 (m4.mp hz))).trans ((n5 (fun hz => h5 (m5.mp hz))).trans ((n6 (fun hz => h6 (m6.mp hz))).trans ((n7 (fun hz => h7 (m7.mp hz))).trans ((n8 (fun hz => h8 (m8.mp hz))).trans ((n9 (fun hz => h9 (m9.mp hz))).trans ((n10 (fun hz => h10 (m10.mp hz))).trans ((n11 (fun hz => h11 (m11.mp hz))).trans ((n12 (fun hz => h12 (m12.mp hz))).trans ((n13 (fun hz => h13 (m13.mp hz))).trans ((n14 (fun hz => h14 (m14.mp hz))).trans ((n15 (fun hz => h15 (m15.mp hz))).trans ((n16 (fun hz => h16 (m16.mp hz))).trans ((n17 (fun hz => h17 (m17.mp hz))).trans ((p18 (m18.mpr h18)).trans (by decide +kernel)))))))))))))))))))
  rw [if_neg h18]
  by_cases h19 : yw_rl T s (e - s) = [20, 15, 12, 9, 16]
  · rw [if_pos h19]
    exact (n0 (fun hz => h0 (m0.mp hz))).trans ((n1 (fun hz => h1 (m1.mp hz))).trans ((n2 (fun hz => h2 (m2.mp hz))).trans ((n3 (fun hz => h3 (m3.mp hz))).trans ((n4 (fun hz => h4 (m4.mp hz))).trans ((n5 (fun hz => h5 (m5.mp hz))).trans ((n6 (fun hz => h6 (m6.mp hz))).trans ((n7 (fun hz => h7 (m7.mp hz))).trans ((n8 (fun hz => h8 (m8.mp hz))).trans ((n9 (fun hz => h9 (m9.mp hz))).trans ((n10 (fun hz => h10 (m10.mp hz))).trans ((n11 (fun hz => h11 (m11.mp hz))).trans ((n12 (fun hz => h12 (m12.mp hz))).trans ((n13 (fun hz => h13 (m13.mp hz))).trans ((n14 (fun hz => h14 (m14.mp hz))).trans ((n15 (fun hz => h15 (m15.mp hz))).trans ((n16 (fun hz => h16 (m16.mp hz))).trans ((n17 (fun hz => h17 (m17.mp hz))).trans ((n18 (fun hz => h18 (m18.mp hz))).trans ((p19 (m19.mpr h19)).trans (by decide +kernel))))))))))))))))))))
  rw [if_neg h19]
  by_cases h20 : yw_rl T s (e - s) = [5, 12, 21, 18]
  · rw [if_pos h20]
    exact (n0 (fun hz => h0 (m0.mp hz))).trans ((n1 (fun hz => h1 (m1.mp hz))).trans ((n2 (fun hz => h2 (m2.mp hz))).trans ((n3 (fun hz => h3 (m3.mp hz))).trans ((n4 (fun hz => h4 (m4.mp hz))).trans ((n5 (fun hz => h5 (m5.mp hz))).trans ((n6 (fun hz => h6 (m6.mp hz))).trans ((n7 (fun hz => h7 (m7.mp hz))).trans ((n8 (fun hz => h8 (m8.mp hz))).trans ((n9 (fun hz => h9 (m9.mp hz))).trans ((n10 (fun hz => h10 (m10.mp hz))).trans ((n11 (fun hz => h11 (m11.mp hz))).trans ((n12 (fun hz => h12 (m12.mp hz))).trans ((n13 (fun hz => h13 (m13.mp hz))).trans ((n14 (fun hz => h14 (m14.mp hz))).trans ((n15 (fun hz => h15 (m15.mp hz))).trans ((n16 (fun hz => h16 (m16.mp hz))).trans ((n17 (fun hz => h17 (m17.mp hz))).trans ((n18 (fun hz => h18 (m18.mp hz))).trans ((n19 (fun hz => h19 (m19.mp hz))).trans ((p20 (m20.mpr h20)).trans (by decide +kernel)))))))))))))))))))))
  rw [if_neg h20]
  exact (n0 (fun hz => h0 (m0.mp hz))).trans ((n1 (fun hz => h1 (m1.mp hz))).trans ((n2 (fun hz => h2 (m2.mp hz))).trans ((n3 (fun hz => h3 (m3.mp hz))).trans ((n4 (fun hz => h4 (m4.mp hz))).trans ((n5 (fun hz => h5 (m5.mp hz))).trans ((n6 (fun hz => h6 (m6.mp hz))).trans ((n7 (fun hz => h7 (m7.mp hz))).trans ((n8 (fun hz => h8 (m8.mp hz))).trans ((n9 (fun hz => h9 (m9.mp hz))).trans ((n10 (fun hz => h10 (m10.mp hz))).trans ((n11 (fun hz => h11 (m11.mp hz))).trans ((n12 (fun hz => h12 (m12.mp hz))).trans ((n13 (fun hz => h13 (m13.mp hz))).trans ((n14 (fun hz => h14 (m14.mp hz))).trans ((n15 (fun hz => h15 (m15.mp hz))).trans ((n16 (fun hz => h16 (m16.mp hz))).trans ((n17 (fun hz => h17 (m17.mp hz))).trans ((n18 (fun hz => h18 (m18.mp hz))).trans ((n19 (fun hz => h19 (m19.mp hz))).trans ((n20 (fun hz => h20 (m20.mp hz))).trans (show zq_sp 101 = 21 from by decide +kernel)))))))))))))))))))))
end
