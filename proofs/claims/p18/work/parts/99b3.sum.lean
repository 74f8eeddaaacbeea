/-! ===== the class reads products, sums, tests ===== -/
def zm_91 : za_MI := (yX2_readTest, prog_4_method_9_code, 4, (some FieldType.boolean), 2, 0, 0, [], za_i91)
theorem zm_91_t : za_MT 91 = some zm_91 := rfl
def zm_92 : za_MI := (yX2_readSum, prog_4_method_10_code, 5, (some FieldType.boolean), 2, 0, 0, [], za_i92)
theorem zm_92_t : za_MT 92 = some zm_92 := rfl
def zm_93 : za_MI := (yX2_readProduct, prog_4_method_11_code, 5, (some FieldType.boolean), 2, 0, 0, [], za_i93)
theorem zm_93_t : za_MT 93 = some zm_93 := rfl
theorem ys_kd_n {T : Nat → Int} {n p : Nat} (h : n ≤ p) : ys_kd T n p = 0 := by
  unfold ys_kd ys_ks ys_st
  rw [ys_run_n h, if_pos h]
theorem yQ3_tl {T : Nat → Int} {n q : Nat} {lv lv' : List Bool} (h : yQ3 T n lv.tail lv' q) (hb : lv.head? = some false) : false :: lv'.tail = lv := by
  obtain ⟨t, rfl, _⟩ := h
  match lv, hb with
  | b :: l, hb =>
    cases hb
    rfl

set_option maxRecDepth 8000 in
theorem yc_prodL {L : Nat} {σ : Nat → Int32} {T : Nat → Int} {n wa wr : Nat} {c l : Nat} (hP : yc_P L σ wr wa) (hE : yK L σ T n wa wr 7 94 1 (yQ0) none (c + 4) l) {lv : List Bool} {x : Int32} {p : Nat} {H0 : zp_H} (hl : lv.length = l + 1) (hb : ∀ b', none = some b' → lv.head? = some b') (hx : x.toInt = l) : ∀ (m : Nat) (H : zp_H) (lv9 : zp_LV) (i : Int32) (q : Nat) (lv' : List Bool), n - q = m → zp_get lv9 0 = some (.inr (.inr (some 54))) → zp_get lv9 1 = some (.inr (.inr (some wr))) → zp_get lv9 2 = some (.inl x) → zp_get lv9 3 = some (.inl i) → 0 ≤ i.toInt ∧ i.toInt ≤ q → yE T n q H → zk_Fr zg yx_m [wa] H0 H → (yQ0) lv lv' q → xRC T n wa 6 (38 - 6 * (l : Int) - ((6 : Nat) : Int)) (1, lv, p) (0, lv', q) H0 H → p < q → zs_Safe L σ (yX T n (1, lv, p) wa 6 (38 - 6 * (l : Int) - ((6 : Nat) : Int)) (yQ1 T n lv) H0) zm_93 [] (c + 4) (13, lv9, [], H, (0, 0)) := by
  intro m
  induction m using Nat.strongRecOn with
  | ind m ih =>
    intro H lv9 i q lv' hm l0 l1 l2 l3 hi h hF hQ hR hpq
    have W := zB_Wd h.1.1
    have hn7 := h.1.2.1
    have hqn := h.2.2
    refine zw_ld (n := 1) (k := 3) (f := zp_isI) (pc' := 14) rfl rfl l3 rfl rfl ?_
    refine zw_s (pc' := 17) rfl rfl ?_
    refine zw_bge2 (g := 84) (pc' := 20) rfl rfl rfl rfl (rfl : _ = (700 : Int)) (fun h7 => ?_) (fun h7 => ?_)
    · have hk0 := ys_kd_n (T := T) (n := n) (p := q) (by omega)
      refine zw_s (pc' := 85) rfl rfl ?_
      refine zw_rz rfl rfl (by decide) ?_
      have hno : ¬ (ys_kd T n q = 4 ∧ (ys_vl T n q = 42 ∨ ys_vl T n q = 47)) := by
        omega
      exact yX_1 h hF hpq (show yQ1 T n lv lv' q from ⟨hQ, hno⟩) hR
    · refine zw_ld (n := 1) (k := 0) (f := zp_isR) (pc' := 21) rfl rfl l0 rfl rfl ?_
      refine zw_gR (q := 53) (pc' := 24) W rfl rfl rfl rfl (W.2 53 0 _ rfl) rfl ?_
      refine zw_s (pc' := 26) rfl rfl ?_
      by_cases ha : ys_kd T n q = 4 ∧ ys_vl T n q = 42
      · refine zw_c (pc' := 29) (zw_cv (q := 52) (Y := zm_86) W.1 rfl rfl zm_86_t rfl rfl) rfl rfl rfl rfl rfl (yc_sg1 (d := c + 3) rfl h ha) ?_
        refine zw_bne1 (g := 44) (pc' := 32) rfl rfl rfl (rfl : _ = (1 : Int)) (fun h9 => ?_) (fun h9 => absurd h9 (by decide))
        refine zw_ld (n := 1) (k := 0) (f := zp_isR) (pc' := 45) rfl rfl l0 rfl rfl ?_
        refine zw_gR (q := 53) (pc' := 48) W rfl rfl rfl rfl (W.2 53 0 _ rfl) rfl ?_
        refine zw_gI (q := 52) (pc' := 51) W rfl rfl rfl rfl rfl rfl ?_
        refine zw_st (n := 2) (k := 4) (f := zp_isI) (pc' := 53) rfl rfl rfl rfl rfl ?_
        refine zw_ld (n := 1) (k := 0) (f := zp_isR) (pc' := 54) rfl rfl (zw_gt l0 rfl rfl) rfl rfl ?_
        refine zw_gR (q := 53) (pc' := 57) W rfl rfl rfl rfl (W.2 53 0 _ rfl) rfl ?_
        have hN := (show yN T n (0, lv', q) = .inl (1, lv, ys_nx T n q) from by rw [show lv' = lv from hQ]; exact yN_md ha.1 (Or.inl ha.2))
        obtain ⟨H1, a1, a2, a3, a4⟩ := yc_adx (L := L) (σ := σ) (d := c + 1) (wa := wa) h
        have W1 := zB_Wd a2.1.1
        have hadv := ys_adv (T := T) h.2.2 (by omega)
        refine zw_cn (pc' := 60) (zw_cv (q := 52) (Y := zm_55) W.1 rfl rfl zm_55_t rfl rfl) rfl rfl rfl rfl rfl (a1) ?_
        obtain ⟨X1, b1, b2⟩ := hE lv x _ H1 hl hb hx a2
        obtain ⟨v, H2, q2, rfl, e2, e3, e4⟩ := b2
        have W2 := zB_Wd e2.1.1
        refine zw_ld (n := 1) (k := 0) (f := zp_isR) (pc' := 61) rfl rfl (zw_gt l0 rfl rfl) rfl rfl ?_
        refine zw_ld (n := 1) (k := 1) (f := zp_isR) (pc' := 62) rfl rfl (zw_gt l1 rfl rfl) rfl rfl ?_
        refine zw_ld (n := 1) (k := 2) (f := zp_isI) (pc' := 63) rfl rfl (zw_gt l2 rfl rfl) rfl rfl ?_
        refine zw_c (pc' := 66) (zw_cv (q := 53) (Y := zm_94) W1.1 rfl rfl zm_94_t rfl rfl) rfl rfl rfl rfl rfl (b1) ?_
        refine zw_bne1 (g := 71) (pc' := 69) rfl rfl rfl rfl (fun hv => ?_) (fun hv => ?_)
        · rcases e4 with ⟨_, e5, lv2, e6, e7⟩ | ⟨e4, _⟩
          rotate_left
          · omega
          have e5 : ys_nx T n q < q2 := e5
          refine zw_ld (n := 1) (k := 0) (f := zp_isR) (pc' := 72) rfl rfl (zw_gt l0 rfl rfl) rfl rfl ?_
          refine zw_ld (n := 1) (k := 1) (f := zp_isR) (pc' := 73) rfl rfl (zw_gt l1 rfl rfl) rfl rfl ?_
          refine zw_ld (n := 2) (k := 4) (f := zp_isI) (pc' := 75) rfl rfl zw_g1 rfl rfl ?_
          obtain ⟨K, k1, k2, k3, k4⟩ := yc_putD (d := c + 2) (x := H.2.1 52 5) hP e2
          have WK := zB_Wd k2.1.1
          refine zw_cn (pc' := 78) (zw_cv (q := 53) (Y := zm_96) W2.1 rfl rfl zm_96_t rfl rfl) rfl rfl rfl rfl rfl (k1) ?_
          refine zw_ii (pc' := 81) rfl (zw_gt l3 rfl rfl) rfl rfl ?_
          refine zw_s (pc' := 13) rfl rfl ?_
          have ei : (i + Int32.ofInt 1).toInt = i.toInt + 1 := zw_p1 (by omega)
          have q2n := e2.2.2
          exact ih (n - q2) (by omega) K _ _ q2 lv2 rfl (zw_gt (zw_gt l0 rfl rfl) rfl rfl) (zw_gt (zw_gt l1 rfl rfl) rfl rfl) (zw_gt (zw_gt l2 rfl rfl) rfl rfl) zw_g1 ⟨by omega, by omega⟩ k2 (zk_Fr_t hF (zk_Fr_t a3 (zk_Fr_t e3 k3))) e6 (xRC_b hR hN (fun W O => xWO_ti ha.1 ha.2) ⟨by decide, by decide, by decide⟩ (by show q < ys_nx T n q; omega) (yc_sm hP.1 a4) e7 (by decide) ⟨by omega, by omega⟩ (by show q2 ≤ 700; omega) k4 (by have h5 := yE_5 h (by omega); show _ = (-43 : Int); omega)) (by omega)
        · refine zw_s (pc' := 70) rfl rfl ?_
          refine zw_rz rfl rfl (by decide) ?_
          rcases e4 with ⟨e4, _⟩ | ⟨e4, r, e5, e6, e7, e8⟩
          · omega
          · exact yX_0 e2 (zk_Fr_t hF (zk_Fr_t a3 e3)) (hR.1 _ (yA_step hN e5)) e6 e7 e8
      · refine zw_c (pc' := 29) (zw_cv (q := 52) (Y := zm_86) W.1 rfl rfl zm_86_t rfl rfl) rfl rfl rfl rfl rfl (yc_sg0 (d := c + 3) rfl h ha) ?_
        refine zw_bne1 (g := 44) (pc' := 32) rfl rfl rfl (rfl : _ = (0 : Int)) (fun h9 => absurd h9 (by decide)) (fun h9 => ?_)
        refine zw_ld (n := 1) (k := 0) (f := zp_isR) (pc' := 33) rfl rfl l0 rfl rfl ?_
        refine zw_gR (q := 53) (pc' := 36) W rfl rfl rfl rfl (W.2 53 0 _ rfl) rfl ?_
        refine zw_s (pc' := 38) rfl rfl ?_
        by_cases hb2 : ys_kd T n q = 4 ∧ ys_vl T n q = 47
        · refine zw_c (pc' := 41) (zw_cv (q := 52) (Y := zm_86) W.1 rfl rfl zm_86_t rfl rfl) rfl rfl rfl rfl rfl (yc_sg1 (d := c + 3) rfl h hb2) ?_
          refine zw_beq1 (g := 84) (pc' := 44) rfl rfl rfl (rfl : _ = (1 : Int)) (fun h9 => absurd h9 (by decide)) (fun h9 => ?_)
          refine zw_ld (n := 1) (k := 0) (f := zp_isR) (pc' := 45) rfl rfl l0 rfl rfl ?_
          refine zw_gR (q := 53) (pc' := 48) W rfl rfl rfl rfl (W.2 53 0 _ rfl) rfl ?_
          refine zw_gI (q := 52) (pc' := 51) W rfl rfl rfl rfl rfl rfl ?_
          refine zw_st (n := 2) (k := 4) (f := zp_isI) (pc' := 53) rfl rfl rfl rfl rfl ?_
          refine zw_ld (n := 1) (k := 0) (f := zp_isR) (pc' := 54) rfl rfl (zw_gt l0 rfl rfl) rfl rfl ?_
          refine zw_gR (q := 53) (pc' := 57) W rfl rfl rfl rfl (W.2 53 0 _ rfl) rfl ?_
          have hN := (show yN T n (0, lv', q) = .inl (1, lv, ys_nx T n q) from by rw [show lv' = lv from hQ]; exact yN_md hb2.1 (Or.inr hb2.2))
          obtain ⟨H1, a1, a2, a3, a4⟩ := yc_adx (L := L) (σ := σ) (d := c + 1) (wa := wa) h
          have W1 := zB_Wd a2.1.1
          have hadv := ys_adv (T := T) h.2.2 (by omega)
          refine zw_cn (pc' := 60) (zw_cv (q := 52) (Y := zm_55) W.1 rfl rfl zm_55_t rfl rfl) rfl rfl rfl rfl rfl (a1) ?_
          obtain ⟨X1, b1, b2⟩ := hE lv x _ H1 hl hb hx a2
          obtain ⟨v, H2, q2, rfl, e2, e3, e4⟩ := b2
          have W2 := zB_Wd e2.1.1
          refine zw_ld (n := 1) (k := 0) (f := zp_isR) (pc' := 61) rfl rfl (zw_gt l0 rfl rfl) rfl rfl ?_
          refine zw_ld (n := 1) (k := 1) (f := zp_isR) (pc' := 62) rfl rfl (zw_gt l1 rfl rfl) rfl rfl ?_
          refine zw_ld (n := 1) (k := 2) (f := zp_isI) (pc' := 63) rfl rfl (zw_gt l2 rfl rfl) rfl rfl ?_
          refine zw_c (pc' := 66) (zw_cv (q := 53) (Y := zm_94) W1.1 rfl rfl zm_94_t rfl rfl) rfl rfl rfl rfl rfl (b1) ?_
          refine zw_bne1 (g := 71) (pc' := 69) rfl rfl rfl rfl (fun hv => ?_) (fun hv => ?_)
          · rcases e4 with ⟨_, e5, lv2, e6, e7⟩ | ⟨e4, _⟩
            rotate_left
            · omega
            have e5 : ys_nx T n q < q2 := e5
            refine zw_ld (n := 1) (k := 0) (f := zp_isR) (pc' := 72) rfl rfl (zw_gt l0 rfl rfl) rfl rfl ?_
            refine zw_ld (n := 1) (k := 1) (f := zp_isR) (pc' := 73) rfl rfl (zw_gt l1 rfl rfl) rfl rfl ?_
            refine zw_ld (n := 2) (k := 4) (f := zp_isI) (pc' := 75) rfl rfl zw_g1 rfl rfl ?_
            obtain ⟨K, k1, k2, k3, k4⟩ := yc_putD (d := c + 2) (x := H.2.1 52 5) hP e2
            have WK := zB_Wd k2.1.1
            refine zw_cn (pc' := 78) (zw_cv (q := 53) (Y := zm_96) W2.1 rfl rfl zm_96_t rfl rfl) rfl rfl rfl rfl rfl (k1) ?_
            refine zw_ii (pc' := 81) rfl (zw_gt l3 rfl rfl) rfl rfl ?_
            refine zw_s (pc' := 13) rfl rfl ?_
            have ei : (i + Int32.ofInt 1).toInt = i.toInt + 1 := zw_p1 (by omega)
            have q2n := e2.2.2
            exact ih (n - q2) (by omega) K _ _ q2 lv2 rfl (zw_gt (zw_gt l0 rfl rfl) rfl rfl) (zw_gt (zw_gt l1 rfl rfl) rfl rfl) (zw_gt (zw_gt l2 rfl rfl) rfl rfl) zw_g1 ⟨by omega, by omega⟩ k2 (zk_Fr_t hF (zk_Fr_t a3 (zk_Fr_t e3 k3))) e6 (xRC_b hR hN (fun W O => xWO_di hb2.1 hb2.2) ⟨by decide, by decide, by decide⟩ (by show q < ys_nx T n q; omega) (yc_sm hP.1 a4) e7 (by decide) ⟨by omega, by omega⟩ (by show q2 ≤ 700; omega) k4 (by have h5 := yE_5 h (by omega); show _ = (-48 : Int); omega)) (by omega)
          · refine zw_s (pc' := 70) rfl rfl ?_
            refine zw_rz rfl rfl (by decide) ?_
            rcases e4 with ⟨e4, _⟩ | ⟨e4, r, e5, e6, e7, e8⟩
            · omega
            · exact yX_0 e2 (zk_Fr_t hF (zk_Fr_t a3 e3)) (hR.1 _ (yA_step hN e5)) e6 e7 e8
        · refine zw_c (pc' := 41) (zw_cv (q := 52) (Y := zm_86) W.1 rfl rfl zm_86_t rfl rfl) rfl rfl rfl rfl rfl (yc_sg0 (d := c + 3) rfl h hb2) ?_
          refine zw_beq1 (g := 84) (pc' := 44) rfl rfl rfl (rfl : _ = (0 : Int)) (fun h9 => ?_) (fun h9 => absurd h9 (by decide))
          refine zw_s (pc' := 85) rfl rfl ?_
          refine zw_rz rfl rfl (by decide) ?_
          have hno : ¬ (ys_kd T n q = 4 ∧ (ys_vl T n q = 42 ∨ ys_vl T n q = 47)) := by
            omega
          exact yX_1 h hF hpq (show yQ1 T n lv lv' q from ⟨hQ, hno⟩) hR

theorem yc_prod {L : Nat} {σ : Nat → Int32} {T : Nat → Int} {n wa wr : Nat} {c l : Nat} (hP : yc_P L σ wr wa) (hE : yK L σ T n wa wr 7 94 1 (yQ0) none (c + 4) l) : yK L σ T n wa wr 6 93 1 (yQ1 T n) none (c + 5) l := by
  intro lv x p H hl hb hx h
  have W := zB_Wd h.1.1
  obtain ⟨X1, b1, b2⟩ := hE lv x _ H hl hb hx h
  obtain ⟨v, H2, q2, rfl, e2, e3, e4⟩ := b2
  have W2 := zB_Wd e2.1.1
  refine zw_met zm_93_t rfl rfl ?_
  refine zw_ld (n := 1) (k := 0) (f := zp_isR) (pc' := 1) rfl rfl rfl rfl rfl ?_
  refine zw_ld (n := 1) (k := 1) (f := zp_isR) (pc' := 2) rfl rfl rfl rfl rfl ?_
  refine zw_ld (n := 1) (k := 2) (f := zp_isI) (pc' := 3) rfl rfl rfl rfl rfl ?_
  refine zw_c (pc' := 6) (zw_cv (q := 53) (Y := zm_94) W.1 rfl rfl zm_94_t rfl rfl) rfl rfl rfl rfl rfl (b1) ?_
  refine zw_bne1 (g := 11) (pc' := 9) rfl rfl rfl rfl (fun hv => ?_) (fun hv => ?_)
  · rcases e4 with ⟨_, e5, lv2, e6, e7⟩ | ⟨e4, _⟩
    rotate_left
    · omega
    refine zw_s (pc' := 12) rfl rfl ?_
    refine zw_st (n := 1) (k := 3) (f := zp_isI) (pc' := 13) rfl rfl rfl rfl rfl ?_
    exact yc_prodL hP hE hl hb hx _ H2 _ _ q2 lv2 rfl (zw_gt rfl rfl rfl) (zw_gt rfl rfl rfl) (zw_gt rfl rfl rfl) zw_g1 ⟨by decide, by show (0 : Int) ≤ _; omega⟩ e2 e3 e6 (xRC_up (by decide) (by omega) e7) e5
  · refine zw_s (pc' := 10) rfl rfl ?_
    refine zw_rz rfl rfl (by decide) ?_
    rcases e4 with ⟨e4, _⟩ | ⟨e4, r, e5, e6, e7, e8⟩
    · omega
    · exact yX_0 e2 e3 e5 e6 e7 e8

set_option maxRecDepth 8000 in
theorem yc_sumL {L : Nat} {σ : Nat → Int32} {T : Nat → Int} {n wa wr : Nat} {c l : Nat} (hP : yc_P L σ wr wa) (hE : yK L σ T n wa wr 6 93 1 (yQ1 T n) none (c + 4) l) {lv : List Bool} {x : Int32} {p : Nat} {H0 : zp_H} (hl : lv.length = l + 1) (hb : ∀ b', none = some b' → lv.head? = some b') (hx : x.toInt = l) : ∀ (m : Nat) (H : zp_H) (lv9 : zp_LV) (i : Int32) (q : Nat) (lv' : List Bool), n - q = m → zp_get lv9 0 = some (.inr (.inr (some 54))) → zp_get lv9 1 = some (.inr (.inr (some wr))) → zp_get lv9 2 = some (.inl x) → zp_get lv9 3 = some (.inl i) → 0 ≤ i.toInt ∧ i.toInt ≤ q → yE T n q H → zk_Fr zg yx_m [wa] H0 H → (yQ1 T n) lv lv' q → xRC T n wa 5 (38 - 6 * (l : Int) - ((5 : Nat) : Int)) (1, lv, p) (0, lv', q) H0 H → p < q → zs_Safe L σ (yX T n (1, lv, p) wa 5 (38 - 6 * (l : Int) - ((5 : Nat) : Int)) (yQ2 T n lv) H0) zm_92 [] (c + 4) (13, lv9, [], H, (0, 0)) := by
  intro m
  induction m using Nat.strongRecOn with
  | ind m ih =>
    intro H lv9 i q lv' hm l0 l1 l2 l3 hi h hF hQ hR hpq
    have W := zB_Wd h.1.1
    have hn7 := h.1.2.1
    have hqn := h.2.2
    refine zw_ld (n := 1) (k := 3) (f := zp_isI) (pc' := 14) rfl rfl l3 rfl rfl ?_
    refine zw_s (pc' := 17) rfl rfl ?_
    refine zw_bge2 (g := 84) (pc' := 20) rfl rfl rfl rfl (rfl : _ = (700 : Int)) (fun h7 => ?_) (fun h7 => ?_)
    · have hk0 := ys_kd_n (T := T) (n := n) (p := q) (by omega)
      refine zw_s (pc' := 85) rfl rfl ?_
      refine zw_rz rfl rfl (by decide) ?_
      have hno : ¬ (ys_kd T n q = 4 ∧ (ys_vl T n q = 43 ∨ ys_vl T n q = 45)) := by
        omega
      exact yX_1 h hF hpq (show yQ2 T n lv lv' q from ⟨hQ, hno⟩) hR
    · refine zw_ld (n := 1) (k := 0) (f := zp_isR) (pc' := 21) rfl rfl l0 rfl rfl ?_
      refine zw_gR (q := 53) (pc' := 24) W rfl rfl rfl rfl (W.2 53 0 _ rfl) rfl ?_
      refine zw_s (pc' := 26) rfl rfl ?_
      by_cases ha : ys_kd T n q = 4 ∧ ys_vl T n q = 43
      · refine zw_c (pc' := 29) (zw_cv (q := 52) (Y := zm_86) W.1 rfl rfl zm_86_t rfl rfl) rfl rfl rfl rfl rfl (yc_sg1 (d := c + 3) rfl h ha) ?_
        refine zw_bne1 (g := 44) (pc' := 32) rfl rfl rfl (rfl : _ = (1 : Int)) (fun h9 => ?_) (fun h9 => absurd h9 (by decide))
        refine zw_ld (n := 1) (k := 0) (f := zp_isR) (pc' := 45) rfl rfl l0 rfl rfl ?_
        refine zw_gR (q := 53) (pc' := 48) W rfl rfl rfl rfl (W.2 53 0 _ rfl) rfl ?_
        refine zw_gI (q := 52) (pc' := 51) W rfl rfl rfl rfl rfl rfl ?_
        refine zw_st (n := 2) (k := 4) (f := zp_isI) (pc' := 53) rfl rfl rfl rfl rfl ?_
        refine zw_ld (n := 1) (k := 0) (f := zp_isR) (pc' := 54) rfl rfl (zw_gt l0 rfl rfl) rfl rfl ?_
        refine zw_gR (q := 53) (pc' := 57) W rfl rfl rfl rfl (W.2 53 0 _ rfl) rfl ?_
        have hN := (show yN T n (0, lv', q) = .inl (1, lv, ys_nx T n q) from by rw [show lv' = lv from hQ.1]; exact yN_pm ha.1 (Or.inl ha.2))
        obtain ⟨H1, a1, a2, a3, a4⟩ := yc_adx (L := L) (σ := σ) (d := c + 1) (wa := wa) h
        have W1 := zB_Wd a2.1.1
        have hadv := ys_adv (T := T) h.2.2 (by omega)
        refine zw_cn (pc' := 60) (zw_cv (q := 52) (Y := zm_55) W.1 rfl rfl zm_55_t rfl rfl) rfl rfl rfl rfl rfl (a1) ?_
        obtain ⟨X1, b1, b2⟩ := hE lv x _ H1 hl hb hx a2
        obtain ⟨v, H2, q2, rfl, e2, e3, e4⟩ := b2
        have W2 := zB_Wd e2.1.1
        refine zw_ld (n := 1) (k := 0) (f := zp_isR) (pc' := 61) rfl rfl (zw_gt l0 rfl rfl) rfl rfl ?_
        refine zw_ld (n := 1) (k := 1) (f := zp_isR) (pc' := 62) rfl rfl (zw_gt l1 rfl rfl) rfl rfl ?_
        refine zw_ld (n := 1) (k := 2) (f := zp_isI) (pc' := 63) rfl rfl (zw_gt l2 rfl rfl) rfl rfl ?_
        refine zw_c (pc' := 66) (zw_cv (q := 53) (Y := zm_93) W1.1 rfl rfl zm_93_t rfl rfl) rfl rfl rfl rfl rfl (b1) ?_
        refine zw_bne1 (g := 71) (pc' := 69) rfl rfl rfl rfl (fun hv => ?_) (fun hv => ?_)
        · rcases e4 with ⟨_, e5, lv2, e6, e7⟩ | ⟨e4, _⟩
          rotate_left
          · omega
          have e5 : ys_nx T n q < q2 := e5
          refine zw_ld (n := 1) (k := 0) (f := zp_isR) (pc' := 72) rfl rfl (zw_gt l0 rfl rfl) rfl rfl ?_
          refine zw_ld (n := 1) (k := 1) (f := zp_isR) (pc' := 73) rfl rfl (zw_gt l1 rfl rfl) rfl rfl ?_
          refine zw_ld (n := 2) (k := 4) (f := zp_isI) (pc' := 75) rfl rfl zw_g1 rfl rfl ?_
          obtain ⟨K, k1, k2, k3, k4⟩ := yc_putD (d := c + 2) (x := H.2.1 52 5) hP e2
          have WK := zB_Wd k2.1.1
          refine zw_cn (pc' := 78) (zw_cv (q := 53) (Y := zm_96) W2.1 rfl rfl zm_96_t rfl rfl) rfl rfl rfl rfl rfl (k1) ?_
          refine zw_ii (pc' := 81) rfl (zw_gt l3 rfl rfl) rfl rfl ?_
          refine zw_s (pc' := 13) rfl rfl ?_
          have ei : (i + Int32.ofInt 1).toInt = i.toInt + 1 := zw_p1 (by omega)
          have q2n := e2.2.2
          exact ih (n - q2) (by omega) K _ _ q2 lv2 rfl (zw_gt (zw_gt l0 rfl rfl) rfl rfl) (zw_gt (zw_gt l1 rfl rfl) rfl rfl) (zw_gt (zw_gt l2 rfl rfl) rfl rfl) zw_g1 ⟨by omega, by omega⟩ k2 (zk_Fr_t hF (zk_Fr_t a3 (zk_Fr_t e3 k3))) e6 (xRC_b hR hN (fun W O => xWO_pl ha.1 ha.2) ⟨by decide, by decide, by decide⟩ (by show q < ys_nx T n q; omega) (yc_sm hP.1 a4) e7 (by decide) ⟨by omega, by omega⟩ (by show q2 ≤ 700; omega) k4 (by have h5 := yE_5 h (by omega); show _ = (-44 : Int); omega)) (by omega)
        · refine zw_s (pc' := 70) rfl rfl ?_
          refine zw_rz rfl rfl (by decide) ?_
          rcases e4 with ⟨e4, _⟩ | ⟨e4, r, e5, e6, e7, e8⟩
          · omega
          · exact yX_0 e2 (zk_Fr_t hF (zk_Fr_t a3 e3)) (hR.1 _ (yA_step hN e5)) e6 e7 e8
      · refine zw_c (pc' := 29) (zw_cv (q := 52) (Y := zm_86) W.1 rfl rfl zm_86_t rfl rfl) rfl rfl rfl rfl rfl (yc_sg0 (d := c + 3) rfl h ha) ?_
        refine zw_bne1 (g := 44) (pc' := 32) rfl rfl rfl (rfl : _ = (0 : Int)) (fun h9 => absurd h9 (by decide)) (fun h9 => ?_)
        refine zw_ld (n := 1) (k := 0) (f := zp_isR) (pc' := 33) rfl rfl l0 rfl rfl ?_
        refine zw_gR (q := 53) (pc' := 36) W rfl rfl rfl rfl (W.2 53 0 _ rfl) rfl ?_
        refine zw_s (pc' := 38) rfl rfl ?_
        by_cases hb2 : ys_kd T n q = 4 ∧ ys_vl T n q = 45
        · refine zw_c (pc' := 41) (zw_cv (q := 52) (Y := zm_86) W.1 rfl rfl zm_86_t rfl rfl) rfl rfl rfl rfl rfl (yc_sg1 (d := c + 3) rfl h hb2) ?_
          refine zw_beq1 (g := 84) (pc' := 44) rfl rfl rfl (rfl : _ = (1 : Int)) (fun h9 => absurd h9 (by decide)) (fun h9 => ?_)
          refine zw_ld (n := 1) (k := 0) (f := zp_isR) (pc' := 45) rfl rfl l0 rfl rfl ?_
          refine zw_gR (q := 53) (pc' := 48) W rfl rfl rfl rfl (W.2 53 0 _ rfl) rfl ?_
          refine zw_gI (q := 52) (pc' := 51) W rfl rfl rfl rfl rfl rfl ?_
          refine zw_st (n := 2) (k := 4) (f := zp_isI) (pc' := 53) rfl rfl rfl rfl rfl ?_
          refine zw_ld (n := 1) (k := 0) (f := zp_isR) (pc' := 54) rfl rfl (zw_gt l0 rfl rfl) rfl rfl ?_
          refine zw_gR (q := 53) (pc' := 57) W rfl rfl rfl rfl (W.2 53 0 _ rfl) rfl ?_
          have hN := (show yN T n (0, lv', q) = .inl (1, lv, ys_nx T n q) from by rw [show lv' = lv from hQ.1]; exact yN_pm hb2.1 (Or.inr hb2.2))
          obtain ⟨H1, a1, a2, a3, a4⟩ := yc_adx (L := L) (σ := σ) (d := c + 1) (wa := wa) h
          have W1 := zB_Wd a2.1.1
          have hadv := ys_adv (T := T) h.2.2 (by omega)
          refine zw_cn (pc' := 60) (zw_cv (q := 52) (Y := zm_55) W.1 rfl rfl zm_55_t rfl rfl) rfl rfl rfl rfl rfl (a1) ?_
          obtain ⟨X1, b1, b2⟩ := hE lv x _ H1 hl hb hx a2
          obtain ⟨v, H2, q2, rfl, e2, e3, e4⟩ := b2
          have W2 := zB_Wd e2.1.1
          refine zw_ld (n := 1) (k := 0) (f := zp_isR) (pc' := 61) rfl rfl (zw_gt l0 rfl rfl) rfl rfl ?_
          refine zw_ld (n := 1) (k := 1) (f := zp_isR) (pc' := 62) rfl rfl (zw_gt l1 rfl rfl) rfl rfl ?_
          refine zw_ld (n := 1) (k := 2) (f := zp_isI) (pc' := 63) rfl rfl (zw_gt l2 rfl rfl) rfl rfl ?_
          refine zw_c (pc' := 66) (zw_cv (q := 53) (Y := zm_93) W1.1 rfl rfl zm_93_t rfl rfl) rfl rfl rfl rfl rfl (b1) ?_
          refine zw_bne1 (g := 71) (pc' := 69) rfl rfl rfl rfl (fun hv => ?_) (fun hv => ?_)
          · rcases e4 with ⟨_, e5, lv2, e6, e7⟩ | ⟨e4, _⟩
            rotate_left
            · omega
            have e5 : ys_nx T n q < q2 := e5
            refine zw_ld (n := 1) (k := 0) (f := zp_isR) (pc' := 72) rfl rfl (zw_gt l0 rfl rfl) rfl rfl ?_
            refine zw_ld (n := 1) (k := 1) (f := zp_isR) (pc' := 73) rfl rfl (zw_gt l1 rfl rfl) rfl rfl ?_
            refine zw_ld (n := 2) (k := 4) (f := zp_isI) (pc' := 75) rfl rfl zw_g1 rfl rfl ?_
            obtain ⟨K, k1, k2, k3, k4⟩ := yc_putD (d := c + 2) (x := H.2.1 52 5) hP e2
            have WK := zB_Wd k2.1.1
            refine zw_cn (pc' := 78) (zw_cv (q := 53) (Y := zm_96) W2.1 rfl rfl zm_96_t rfl rfl) rfl rfl rfl rfl rfl (k1) ?_
            refine zw_ii (pc' := 81) rfl (zw_gt l3 rfl rfl) rfl rfl ?_
            refine zw_s (pc' := 13) rfl rfl ?_
            have ei : (i + Int32.ofInt 1).toInt = i.toInt + 1 := zw_p1 (by omega)
            have q2n := e2.2.2
            exact ih (n - q2) (by omega) K _ _ q2 lv2 rfl (zw_gt (zw_gt l0 rfl rfl) rfl rfl) (zw_gt (zw_gt l1 rfl rfl) rfl rfl) (zw_gt (zw_gt l2 rfl rfl) rfl rfl) zw_g1 ⟨by omega, by omega⟩ k2 (zk_Fr_t hF (zk_Fr_t a3 (zk_Fr_t e3 k3))) e6 (xRC_b hR hN (fun W O => xWO_mi hb2.1 hb2.2) ⟨by decide, by decide, by decide⟩ (by show q < ys_nx T n q; omega) (yc_sm hP.1 a4) e7 (by decide) ⟨by omega, by omega⟩ (by show q2 ≤ 700; omega) k4 (by have h5 := yE_5 h (by omega); show _ = (-46 : Int); omega)) (by omega)
          · refine zw_s (pc' := 70) rfl rfl ?_
            refine zw_rz rfl rfl (by decide) ?_
            rcases e4 with ⟨e4, _⟩ | ⟨e4, r, e5, e6, e7, e8⟩
            · omega
            · exact yX_0 e2 (zk_Fr_t hF (zk_Fr_t a3 e3)) (hR.1 _ (yA_step hN e5)) e6 e7 e8
        · refine zw_c (pc' := 41) (zw_cv (q := 52) (Y := zm_86) W.1 rfl rfl zm_86_t rfl rfl) rfl rfl rfl rfl rfl (yc_sg0 (d := c + 3) rfl h hb2) ?_
          refine zw_beq1 (g := 84) (pc' := 44) rfl rfl rfl (rfl : _ = (0 : Int)) (fun h9 => ?_) (fun h9 => absurd h9 (by decide))
          refine zw_s (pc' := 85) rfl rfl ?_
          refine zw_rz rfl rfl (by decide) ?_
          have hno : ¬ (ys_kd T n q = 4 ∧ (ys_vl T n q = 43 ∨ ys_vl T n q = 45)) := by
            omega
          exact yX_1 h hF hpq (show yQ2 T n lv lv' q from ⟨hQ, hno⟩) hR

theorem yc_sum {L : Nat} {σ : Nat → Int32} {T : Nat → Int} {n wa wr : Nat} {c l : Nat} (hP : yc_P L σ wr wa) (hE : yK L σ T n wa wr 6 93 1 (yQ1 T n) none (c + 4) l) : yK L σ T n wa wr 5 92 1 (yQ2 T n) none (c + 5) l := by
  intro lv x p H hl hb hx h
  have W := zB_Wd h.1.1
  obtain ⟨X1, b1, b2⟩ := hE lv x _ H hl hb hx h
  obtain ⟨v, H2, q2, rfl, e2, e3, e4⟩ := b2
  have W2 := zB_Wd e2.1.1
  refine zw_met zm_92_t rfl rfl ?_
  refine zw_ld (n := 1) (k := 0) (f := zp_isR) (pc' := 1) rfl rfl rfl rfl rfl ?_
  refine zw_ld (n := 1) (k := 1) (f := zp_isR) (pc' := 2) rfl rfl rfl rfl rfl ?_
  refine zw_ld (n := 1) (k := 2) (f := zp_isI) (pc' := 3) rfl rfl rfl rfl rfl ?_
  refine zw_c (pc' := 6) (zw_cv (q := 53) (Y := zm_93) W.1 rfl rfl zm_93_t rfl rfl) rfl rfl rfl rfl rfl (b1) ?_
  refine zw_bne1 (g := 11) (pc' := 9) rfl rfl rfl rfl (fun hv => ?_) (fun hv => ?_)
  · rcases e4 with ⟨_, e5, lv2, e6, e7⟩ | ⟨e4, _⟩
    rotate_left
    · omega
    refine zw_s (pc' := 12) rfl rfl ?_
    refine zw_st (n := 1) (k := 3) (f := zp_isI) (pc' := 13) rfl rfl rfl rfl rfl ?_
    exact yc_sumL hP hE hl hb hx _ H2 _ _ q2 lv2 rfl (zw_gt rfl rfl rfl) (zw_gt rfl rfl rfl) (zw_gt rfl rfl rfl) zw_g1 ⟨by decide, by show (0 : Int) ≤ _; omega⟩ e2 e3 e6 (xRC_up (by decide) (by omega) e7) e5
  · refine zw_s (pc' := 10) rfl rfl ?_
    refine zw_rz rfl rfl (by decide) ?_
    rcases e4 with ⟨e4, _⟩ | ⟨e4, r, e5, e6, e7, e8⟩
    · omega
    · exact yX_0 e2 e3 e5 e6 e7 e8

set_option maxRecDepth 8000 in
theorem yc_test {L : Nat} {σ : Nat → Int32} {T : Nat → Int} {n wa wr : Nat} {c l : Nat} (hP : yc_P L σ wr wa) (hE : yK L σ T n wa wr 5 92 1 (yQ2 T n) none (c + 4) l) : yK L σ T n wa wr 4 91 1 (fun lv => yQ3 T n lv.tail) (some false) (c + 5) l := by
  intro lv x p H hl hb hx h
  have hlv : lv = false :: lv.tail := by
    match lv, hb false rfl with
    | b :: l, hb => cases hb; rfl
  have W := zB_Wd h.1.1
  obtain ⟨X1, b1, b2⟩ := hE lv x _ H hl (fun b' h9 => by cases h9) hx h
  obtain ⟨v, H2, q, rfl, e2, e3, e4⟩ := b2
  have W2 := zB_Wd e2.1.1
  refine zw_met zm_91_t rfl rfl ?_
  refine zw_ld (n := 1) (k := 0) (f := zp_isR) (pc' := 1) rfl rfl rfl rfl rfl ?_
  refine zw_ld (n := 1) (k := 1) (f := zp_isR) (pc' := 2) rfl rfl rfl rfl rfl ?_
  refine zw_ld (n := 1) (k := 2) (f := zp_isI) (pc' := 3) rfl rfl rfl rfl rfl ?_
  refine zw_c (pc' := 6) (zw_cv (q := 53) (Y := zm_92) W.1 rfl rfl zm_92_t rfl rfl) rfl rfl rfl rfl rfl (b1) ?_
  refine zw_bne1 (g := 11) (pc' := 9) rfl rfl rfl rfl (fun hv => ?_) (fun hv => ?_)
  · rcases e4 with ⟨_, e5, lv2, e6, e7⟩ | ⟨e4, _⟩
    rotate_left
    · omega
    have e5 : p < q := e5
    obtain rfl : lv2 = lv := e6.1.1
    refine zw_ld (n := 1) (k := 0) (f := zp_isR) (pc' := 12) rfl rfl rfl rfl rfl ?_
    refine zw_gR (q := 53) (pc' := 15) W2 rfl rfl rfl rfl (W2.2 53 0 _ rfl) rfl ?_
    refine zw_s (pc' := 17) rfl rfl ?_
    by_cases ha : ys_kd T n q = 4 ∧ ys_vl T n q = 60
    · refine zw_c (pc' := 20) (zw_cv (q := 52) (Y := zm_86) W2.1 rfl rfl zm_86_t rfl rfl) rfl rfl rfl rfl rfl (yc_sg1 (d := c + 3) rfl e2 ha) ?_
      refine zw_bne1 (g := 37) (pc' := 23) rfl rfl rfl (rfl : _ = (1 : Int)) (fun h9 => ?_) (fun h9 => absurd h9 (by decide))
      refine zw_ld (n := 1) (k := 0) (f := zp_isR) (pc' := 38) rfl rfl rfl rfl rfl ?_
      refine zw_gR (q := 53) (pc' := 41) W2 rfl rfl rfl rfl (W2.2 53 0 _ rfl) rfl ?_
      refine zw_gI (q := 52) (pc' := 44) W2 rfl rfl rfl rfl rfl rfl ?_
      refine zw_st (n := 1) (k := 3) (f := zp_isI) (pc' := 45) rfl rfl rfl rfl rfl ?_
      refine zw_ld (n := 1) (k := 0) (f := zp_isR) (pc' := 46) rfl rfl (zw_gt rfl rfl rfl) rfl rfl ?_
      refine zw_gR (q := 53) (pc' := 49) W2 rfl rfl rfl rfl (W2.2 53 0 _ rfl) rfl ?_
      have hN : yN T n (0, lv2, q) = .inl (1, true :: lv2.tail, ys_nx T n q) := by
        rw [hlv]
        exact yN_lt ha.1 (Or.inl ha.2)
      obtain ⟨H1, a1, a2, a3, a4⟩ := yc_adx (L := L) (σ := σ) (d := c + 1) (wa := wa) e2
      have W1 := zB_Wd a2.1.1
      have hadv := ys_adv (T := T) e2.2.2 (by omega)
      refine zw_cn (pc' := 52) (zw_cv (q := 52) (Y := zm_55) W2.1 rfl rfl zm_55_t rfl rfl) rfl rfl rfl rfl rfl (a1) ?_
      obtain ⟨X1, d1, d2⟩ := hE (true :: lv2.tail) x _ H1 (by rw [← hl, hlv]; rfl) (fun b' h9 => by cases h9) hx a2
      obtain ⟨v2, H3, q3, rfl, g2, g3, g4⟩ := d2
      have W3 := zB_Wd g2.1.1
      refine zw_ld (n := 1) (k := 0) (f := zp_isR) (pc' := 53) rfl rfl (zw_gt rfl rfl rfl) rfl rfl ?_
      refine zw_ld (n := 1) (k := 1) (f := zp_isR) (pc' := 54) rfl rfl (zw_gt rfl rfl rfl) rfl rfl ?_
      refine zw_ld (n := 1) (k := 2) (f := zp_isI) (pc' := 55) rfl rfl (zw_gt rfl rfl rfl) rfl rfl ?_
      refine zw_c (pc' := 58) (zw_cv (q := 53) (Y := zm_92) W1.1 rfl rfl zm_92_t rfl rfl) rfl rfl rfl rfl rfl (d1) ?_
      refine zw_bne1 (g := 63) (pc' := 61) rfl rfl rfl rfl (fun hv2 => ?_) (fun hv2 => ?_)
      · rcases g4 with ⟨_, g5, lv3, g6, g7⟩ | ⟨g4, _⟩
        rotate_left
        · omega
        have g5 : ys_nx T n q < q3 := g5
        obtain rfl : lv3 = true :: lv2.tail := g6.1.1
        refine zw_ld (n := 1) (k := 0) (f := zp_isR) (pc' := 64) rfl rfl (zw_gt rfl rfl rfl) rfl rfl ?_
        refine zw_ld (n := 1) (k := 1) (f := zp_isR) (pc' := 65) rfl rfl (zw_gt rfl rfl rfl) rfl rfl ?_
        refine zw_ld (n := 1) (k := 3) (f := zp_isI) (pc' := 66) rfl rfl zw_g1 rfl rfl ?_
        obtain ⟨K, k1, k2, k3, k4⟩ := yc_putD (d := c + 2) (x := H2.2.1 52 5) hP g2
        refine zw_cn (pc' := 69) (zw_cv (q := 53) (Y := zm_96) W3.1 rfl rfl zm_96_t rfl rfl) rfl rfl rfl rfl rfl (k1) ?_
        refine zw_s (pc' := 70) rfl rfl ?_
        refine zw_rz rfl rfl (by decide) ?_
        exact yX_1 k2 (zk_Fr_t e3 (zk_Fr_t a3 (zk_Fr_t g3 k3))) (by show p < q3; omega) (show yQ3 T n lv2.tail (true :: lv2.tail) q3 from ⟨true, rfl, g6, fun h9 => by cases h9⟩) (xRC_b (xRC_up (by decide) (Int.le_refl _) e7) hN (fun W O => xWO_lt ha.1 ha.2) ⟨by decide, by decide, by decide⟩ (by show q < ys_nx T n q; omega) (yc_sm hP.1 a4) g7 (by decide) ⟨by omega, by omega⟩ (by have := g2.2.2; have := h.1.2.1; show q3 ≤ 700; omega) k4 (by have h5 := yE_5 e2 (by omega); show _ = (-61 : Int); omega))
      · refine zw_s (pc' := 62) rfl rfl ?_
        refine zw_rz rfl rfl (by decide) ?_
        rcases g4 with ⟨g4, _⟩ | ⟨g4, r, g5, g6, g7, g8⟩
        · omega
        · exact yX_0 g2 (zk_Fr_t e3 (zk_Fr_t a3 g3)) (e7.1 _ (yA_step hN g5)) g6 g7 g8
    · refine zw_c (pc' := 20) (zw_cv (q := 52) (Y := zm_86) W2.1 rfl rfl zm_86_t rfl rfl) rfl rfl rfl rfl rfl (yc_sg0 (d := c + 3) rfl e2 ha) ?_
      refine zw_bne1 (g := 37) (pc' := 23) rfl rfl rfl (rfl : _ = (0 : Int)) (fun h9 => absurd h9 (by decide)) (fun h9 => ?_)
      refine zw_ld (n := 1) (k := 0) (f := zp_isR) (pc' := 24) rfl rfl rfl rfl rfl ?_
      refine zw_gR (q := 53) (pc' := 27) W2 rfl rfl rfl rfl (W2.2 53 0 _ rfl) rfl ?_
      refine zw_s (pc' := 29) rfl rfl ?_
      by_cases hb2 : ys_kd T n q = 4 ∧ ys_vl T n q = 61
      · refine zw_c (pc' := 32) (zw_cv (q := 52) (Y := zm_86) W2.1 rfl rfl zm_86_t rfl rfl) rfl rfl rfl rfl rfl (yc_sg1 (d := c + 3) rfl e2 hb2) ?_
        refine zw_bne1 (g := 37) (pc' := 35) rfl rfl rfl (rfl : _ = (1 : Int)) (fun h9 => ?_) (fun h9 => absurd h9 (by decide))
        refine zw_ld (n := 1) (k := 0) (f := zp_isR) (pc' := 38) rfl rfl rfl rfl rfl ?_
        refine zw_gR (q := 53) (pc' := 41) W2 rfl rfl rfl rfl (W2.2 53 0 _ rfl) rfl ?_
        refine zw_gI (q := 52) (pc' := 44) W2 rfl rfl rfl rfl rfl rfl ?_
        refine zw_st (n := 1) (k := 3) (f := zp_isI) (pc' := 45) rfl rfl rfl rfl rfl ?_
        refine zw_ld (n := 1) (k := 0) (f := zp_isR) (pc' := 46) rfl rfl (zw_gt rfl rfl rfl) rfl rfl ?_
        refine zw_gR (q := 53) (pc' := 49) W2 rfl rfl rfl rfl (W2.2 53 0 _ rfl) rfl ?_
        have hN : yN T n (0, lv2, q) = .inl (1, true :: lv2.tail, ys_nx T n q) := by
          rw [hlv]
          exact yN_lt hb2.1 (Or.inr hb2.2)
        obtain ⟨H1, a1, a2, a3, a4⟩ := yc_adx (L := L) (σ := σ) (d := c + 1) (wa := wa) e2
        have W1 := zB_Wd a2.1.1
        have hadv := ys_adv (T := T) e2.2.2 (by omega)
        refine zw_cn (pc' := 52) (zw_cv (q := 52) (Y := zm_55) W2.1 rfl rfl zm_55_t rfl rfl) rfl rfl rfl rfl rfl (a1) ?_
        obtain ⟨X1, d1, d2⟩ := hE (true :: lv2.tail) x _ H1 (by rw [← hl, hlv]; rfl) (fun b' h9 => by cases h9) hx a2
        obtain ⟨v2, H3, q3, rfl, g2, g3, g4⟩ := d2
        have W3 := zB_Wd g2.1.1
        refine zw_ld (n := 1) (k := 0) (f := zp_isR) (pc' := 53) rfl rfl (zw_gt rfl rfl rfl) rfl rfl ?_
        refine zw_ld (n := 1) (k := 1) (f := zp_isR) (pc' := 54) rfl rfl (zw_gt rfl rfl rfl) rfl rfl ?_
        refine zw_ld (n := 1) (k := 2) (f := zp_isI) (pc' := 55) rfl rfl (zw_gt rfl rfl rfl) rfl rfl ?_
        refine zw_c (pc' := 58) (zw_cv (q := 53) (Y := zm_92) W1.1 rfl rfl zm_92_t rfl rfl) rfl rfl rfl rfl rfl (d1) ?_
        refine zw_bne1 (g := 63) (pc' := 61) rfl rfl rfl rfl (fun hv2 => ?_) (fun hv2 => ?_)
        · rcases g4 with ⟨_, g5, lv3, g6, g7⟩ | ⟨g4, _⟩
          rotate_left
          · omega
          have g5 : ys_nx T n q < q3 := g5
          obtain rfl : lv3 = true :: lv2.tail := g6.1.1
          refine zw_ld (n := 1) (k := 0) (f := zp_isR) (pc' := 64) rfl rfl (zw_gt rfl rfl rfl) rfl rfl ?_
          refine zw_ld (n := 1) (k := 1) (f := zp_isR) (pc' := 65) rfl rfl (zw_gt rfl rfl rfl) rfl rfl ?_
          refine zw_ld (n := 1) (k := 3) (f := zp_isI) (pc' := 66) rfl rfl zw_g1 rfl rfl ?_
          obtain ⟨K, k1, k2, k3, k4⟩ := yc_putD (d := c + 2) (x := H2.2.1 52 5) hP g2
          refine zw_cn (pc' := 69) (zw_cv (q := 53) (Y := zm_96) W3.1 rfl rfl zm_96_t rfl rfl) rfl rfl rfl rfl rfl (k1) ?_
          refine zw_s (pc' := 70) rfl rfl ?_
          refine zw_rz rfl rfl (by decide) ?_
          exact yX_1 k2 (zk_Fr_t e3 (zk_Fr_t a3 (zk_Fr_t g3 k3))) (by show p < q3; omega) (show yQ3 T n lv2.tail (true :: lv2.tail) q3 from ⟨true, rfl, g6, fun h9 => by cases h9⟩) (xRC_b (xRC_up (by decide) (Int.le_refl _) e7) hN (fun W O => xWO_eq hb2.1 hb2.2) ⟨by decide, by decide, by decide⟩ (by show q < ys_nx T n q; omega) (yc_sm hP.1 a4) g7 (by decide) ⟨by omega, by omega⟩ (by have := g2.2.2; have := h.1.2.1; show q3 ≤ 700; omega) k4 (by have h5 := yE_5 e2 (by omega); show _ = (-62 : Int); omega))
        · refine zw_s (pc' := 62) rfl rfl ?_
          refine zw_rz rfl rfl (by decide) ?_
          rcases g4 with ⟨g4, _⟩ | ⟨g4, r, g5, g6, g7, g8⟩
          · omega
          · exact yX_0 g2 (zk_Fr_t e3 (zk_Fr_t a3 g3)) (e7.1 _ (yA_step hN g5)) g6 g7 g8
      · refine zw_c (pc' := 32) (zw_cv (q := 52) (Y := zm_86) W2.1 rfl rfl zm_86_t rfl rfl) rfl rfl rfl rfl rfl (yc_sg0 (d := c + 3) rfl e2 hb2) ?_
        refine zw_bne1 (g := 37) (pc' := 35) rfl rfl rfl (rfl : _ = (0 : Int)) (fun h9 => absurd h9 (by decide)) (fun h9 => ?_)
        refine zw_s (pc' := 36) rfl rfl ?_
        refine zw_rz rfl rfl (by decide) ?_
        refine yX_1 e2 e3 e5 (show yQ3 T n lv2.tail lv2 q from ⟨false, hlv, by rw [← hlv]; exact e6, fun _ => by omega⟩) (xRC_up (by decide) (by omega) e7)
  · refine zw_s (pc' := 10) rfl rfl ?_
    refine zw_rz rfl rfl (by decide) ?_
    rcases e4 with ⟨e4, _⟩ | ⟨e4, r, e5, e6, e7, e8⟩
    · omega
    · exact yX_0 e2 e3 e5 e6 e7 e8
