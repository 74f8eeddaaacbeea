section
/-! ===== the class reads an expression: NOT, AND, OR ===== -/
def zm_88 : za_MI := (yX2_readAnd, prog_4_method_7_code, 4, (some FieldType.boolean), 2, 0, 0, [], za_i88)
theorem zm_88_t : za_MT 88 = some zm_88 := rfl
def zm_89 : za_MI := (yX2_readNot, prog_4_method_8_code, 5, (some FieldType.boolean), 2, 0, 0, [], za_i89)
theorem zm_89_t : za_MT 89 = some zm_89 := rfl
theorem yc_notP {L : Nat} {σ : Nat → Int32} {T : Nat → Int} {n wa wr : Nat} {c : Nat} (hP : yc_P L σ wr wa) {lv lv' : List Bool} {p q : Nat} {H0 : zp_H} (hQ : yQ3 T n lv.tail lv' q) (hR : yR T n (2, lv, p) (0, lv', q)) (hpq : p < q) : ∀ (m : Nat) (H : zp_H) (lv9 : zp_LV) (i y : Int32), (y.toInt - i.toInt).toNat ≤ m → zp_get lv9 0 = some (.inr (.inr (some 54))) → zp_get lv9 1 = some (.inr (.inr (some wr))) → zp_get lv9 3 = some (.inl y) → zp_get lv9 4 = some (.inl i) → y.toInt ≤ 6 → yE T n q H → zk_Fr zg yx_m [wa] H0 H → zs_Safe L σ (yX T n (2, lv, p) wa (yQ3 T n lv.tail) H0) zm_89 [] (c + 4) (65, lv9, [], H, (0, 0)) := by
  intro m
  induction m with
  | zero =>
    intro H lv9 i y hm l0 l1 l3 l4 hy h hF
    have W := zB_Wd h.1.1
    refine zw_ld (n := 2) (k := 4) (f := zp_isI) (pc' := 67) rfl rfl l4 rfl rfl ?_
    refine zw_ld (n := 1) (k := 3) (f := zp_isI) (pc' := 68) rfl rfl l3 rfl rfl ?_
    refine zw_bge2 (g := 84) (pc' := 71) rfl rfl rfl rfl rfl (fun h7 => ?_) (fun h7 => ?_)
    · refine zw_s (pc' := 85) rfl rfl ?_
      refine zw_rz rfl rfl (by decide) ?_
      exact yX_1 h hF hpq hQ hR
    · omega
  | succ m ih =>
    intro H lv9 i y hm l0 l1 l3 l4 hy h hF
    have W := zB_Wd h.1.1
    refine zw_ld (n := 2) (k := 4) (f := zp_isI) (pc' := 67) rfl rfl l4 rfl rfl ?_
    refine zw_ld (n := 1) (k := 3) (f := zp_isI) (pc' := 68) rfl rfl l3 rfl rfl ?_
    refine zw_bge2 (g := 84) (pc' := 71) rfl rfl rfl rfl rfl (fun h7 => ?_) (fun h7 => ?_)
    · refine zw_s (pc' := 85) rfl rfl ?_
      refine zw_rz rfl rfl (by decide) ?_
      exact yX_1 h hF hpq hQ hR
    · refine zw_ld (n := 1) (k := 0) (f := zp_isR) (pc' := 72) rfl rfl l0 rfl rfl ?_
      refine zw_ld (n := 1) (k := 1) (f := zp_isR) (pc' := 73) rfl rfl l1 rfl rfl ?_
      refine zw_s (pc' := 75) rfl rfl ?_
      obtain ⟨K, k1, k2, k3⟩ := yc_putD (d := c + 2) (x := Int32.ofInt 10) hP h
      have ei : (i + Int32.ofInt 1).toInt = i.toInt + 1 := zw_p1 (by omega)
      refine zw_cn (pc' := 78) (zw_cv (q := 53) (Y := zm_96) W.1 rfl rfl zm_96_t rfl rfl) rfl rfl rfl rfl rfl (k1) ?_
      refine zw_ii (pc' := 81) rfl l4 rfl rfl ?_
      refine zw_s (pc' := 65) rfl rfl ?_
      exact ih K _ _ y (by omega) (zw_gt l0 rfl rfl) (zw_gt l1 rfl rfl) (zw_gt l3 rfl rfl) zw_g1 hy k2 (zk_Fr_t hF k3)

theorem yc_notX {L : Nat} {σ : Nat → Int32} {T : Nat → Int} {n wa wr : Nat} {c l : Nat} (hP : yc_P L σ wr wa) (hE : yK L σ T n wa wr 91 1 (fun lv => yQ3 T n lv.tail) (some false) (c + 4) l) {lv : List Bool} {x : Int32} {p : Nat} {H0 : zp_H} (hl : lv.length = l + 1) (hb : ∀ b', some false = some b' → lv.head? = some b') (hx : x.toInt = l) {H : zp_H} {lv9 : zp_LV} {i : Int32} {q k : Nat} (l0 : zp_get lv9 0 = some (.inr (.inr (some 54)))) (l1 : zp_get lv9 1 = some (.inr (.inr (some wr)))) (l2 : zp_get lv9 2 = some (.inl x)) (l3 : zp_get lv9 3 = some (.inl i)) (hi : i.toInt = k) (hk : k ≤ 6) (hx6 : k = 6 ∨ ¬ (ys_kd T n q = 3 ∧ ys_vl T n q = 10)) (h : yE T n q H) (hF : zk_Fr zg yx_m [wa] H0 H) (hR : yR T n (2, lv, p) (2 + k, lv, q)) (hpq : p ≤ q) : zs_Safe L σ (yX T n (2, lv, p) wa (yQ3 T n lv.tail) H0) zm_89 [] (c + 4) (33, lv9, [], H, (0, 0)) := by
  have W := zB_Wd h.1.1
  refine zw_ld (n := 1) (k := 0) (f := zp_isR) (pc' := 34) rfl rfl l0 rfl rfl ?_
  refine zw_gR (q := 53) (pc' := 37) W rfl rfl rfl rfl (W.2 53 0 _ rfl) rfl ?_
  refine zw_s (pc' := 39) rfl rfl ?_
  by_cases ha : ys_kd T n q = 3 ∧ ys_vl T n q = 10
  · refine zw_c (pc' := 42) (zw_cv (q := 52) (Y := zm_90) W.1 rfl rfl zm_90_t rfl rfl) rfl rfl rfl rfl rfl (yc_wd1 (d := c + 3) rfl h ha) ?_
    refine zw_beq1 (g := 51) (pc' := 45) rfl rfl rfl (rfl : _ = (1 : Int)) (fun h9 => absurd h9 (by decide)) (fun h9 => ?_)
    refine zw_ld (n := 1) (k := 0) (f := zp_isR) (pc' := 46) rfl rfl l0 rfl rfl ?_
    refine zw_s (pc' := 47) rfl rfl ?_
    obtain ⟨K9, c1, c2, c3, c4⟩ := yc_rf (L := L) (σ := σ) (d := c + 3) (wa := wa) (x := Int32.ofInt 2) h
    refine zw_c (pc' := 50) (zw_cv (q := 53) (Y := zm_87) W.1 rfl rfl zm_87_t rfl rfl) rfl rfl rfl rfl rfl (c1) ?_
    refine zw_rz rfl rfl (by decide) ?_
    rcases hx6 with h6 | h6
    · subst h6
      exact yX_0 c2 (zk_Fr_t hF c3) (hR _ (yA_done (yN_no6 ha.1 ha.2))) rfl c4 (show 1 ≤ (2 : Int) ∧ (2 : Int) ≤ 5 from by decide)
    · exact absurd ha h6
  · refine zw_c (pc' := 42) (zw_cv (q := 52) (Y := zm_90) W.1 rfl rfl zm_90_t rfl rfl) rfl rfl rfl rfl rfl (yc_wd0 (d := c + 3) rfl h ha) ?_
    refine zw_beq1 (g := 51) (pc' := 45) rfl rfl rfl (rfl : _ = (0 : Int)) (fun h9 => ?_) (fun h9 => absurd h9 (by decide))
    obtain ⟨X1, b1, b2⟩ := hE lv x _ H hl hb hx h
    obtain ⟨v, H2, q2, rfl, e2, e3, e4⟩ := b2
    have W2 := zB_Wd e2.1.1
    have hR2 : yR T n (2, lv, p) (1, lv, q) := yR_t hR (yR_e (yN_nn ha))
    refine zw_ld (n := 1) (k := 0) (f := zp_isR) (pc' := 52) rfl rfl l0 rfl rfl ?_
    refine zw_ld (n := 1) (k := 1) (f := zp_isR) (pc' := 53) rfl rfl l1 rfl rfl ?_
    refine zw_ld (n := 1) (k := 2) (f := zp_isI) (pc' := 54) rfl rfl l2 rfl rfl ?_
    refine zw_c (pc' := 57) (zw_cv (q := 53) (Y := zm_91) W.1 rfl rfl zm_91_t rfl rfl) rfl rfl rfl rfl rfl (b1) ?_
    refine zw_bne1 (g := 62) (pc' := 60) rfl rfl rfl rfl (fun hv => ?_) (fun hv => ?_)
    · rcases e4 with ⟨_, e5, lv2, e6, e7⟩ | ⟨e4, _⟩
      rotate_left
      · omega
      have e5 : q < q2 := e5
      refine zw_s (pc' := 63) rfl rfl ?_
      refine zw_st (n := 2) (k := 4) (f := zp_isI) (pc' := 65) rfl rfl rfl rfl rfl ?_
      exact yc_notP hP e6 (yR_t hR2 e7) (by omega) _ H2 _ _ _ (Nat.le_refl _) (zw_gt l0 rfl rfl) (zw_gt l1 rfl rfl) (zw_gt l3 rfl rfl) zw_g1 (by omega) e2 (zk_Fr_t hF e3)
    · refine zw_s (pc' := 61) rfl rfl ?_
      refine zw_rz rfl rfl (by decide) ?_
      rcases e4 with ⟨e4, _⟩ | ⟨e4, r, e5, e6, e7, e8⟩
      · omega
      · exact yX_0 e2 (zk_Fr_t hF e3) (hR2 _ e5) e6 e7 e8

theorem yc_notL {L : Nat} {σ : Nat → Int32} {T : Nat → Int} {n wa wr : Nat} {c l : Nat} (hP : yc_P L σ wr wa) (hE : yK L σ T n wa wr 91 1 (fun lv => yQ3 T n lv.tail) (some false) (c + 4) l) {lv : List Bool} {x : Int32} {p : Nat} {H0 : zp_H} (hl : lv.length = l + 1) (hb : ∀ b', some false = some b' → lv.head? = some b') (hx : x.toInt = l) : ∀ (m : Nat) (H : zp_H) (lv9 : zp_LV) (i : Int32) (q k : Nat), 6 - k ≤ m → zp_get lv9 0 = some (.inr (.inr (some 54))) → zp_get lv9 1 = some (.inr (.inr (some wr))) → zp_get lv9 2 = some (.inl x) → zp_get lv9 3 = some (.inl i) → i.toInt = k → k ≤ 6 → yE T n q H → zk_Fr zg yx_m [wa] H0 H → yR T n (2, lv, p) (2 + k, lv, q) → p ≤ q → zs_Safe L σ (yX T n (2, lv, p) wa (yQ3 T n lv.tail) H0) zm_89 [] (c + 4) (2, lv9, [], H, (0, 0)) := by
  intro m
  induction m with
  | zero =>
    intro H lv9 i q k hm l0 l1 l2 l3 hi hk h hF hR hpq
    have W := zB_Wd h.1.1
    refine zw_ld (n := 1) (k := 3) (f := zp_isI) (pc' := 3) rfl rfl l3 rfl rfl ?_
    refine zw_s (pc' := 5) rfl rfl ?_
    refine zw_bge2 (g := 33) (pc' := 8) rfl rfl rfl rfl (rfl : _ = (6 : Int)) (fun h7 => ?_) (fun h7 => ?_)
    · exact yc_notX hP hE hl hb hx l0 l1 l2 l3 hi hk (Or.inl (by omega)) h hF hR hpq
    · omega
  | succ m ih =>
    intro H lv9 i q k hm l0 l1 l2 l3 hi hk h hF hR hpq
    have W := zB_Wd h.1.1
    refine zw_ld (n := 1) (k := 3) (f := zp_isI) (pc' := 3) rfl rfl l3 rfl rfl ?_
    refine zw_s (pc' := 5) rfl rfl ?_
    refine zw_bge2 (g := 33) (pc' := 8) rfl rfl rfl rfl (rfl : _ = (6 : Int)) (fun h7 => ?_) (fun h7 => ?_)
    · exact yc_notX hP hE hl hb hx l0 l1 l2 l3 hi hk (Or.inl (by omega)) h hF hR hpq
    · refine zw_ld (n := 1) (k := 0) (f := zp_isR) (pc' := 9) rfl rfl l0 rfl rfl ?_
      refine zw_gR (q := 53) (pc' := 12) W rfl rfl rfl rfl (W.2 53 0 _ rfl) rfl ?_
      refine zw_s (pc' := 14) rfl rfl ?_
      by_cases ha : ys_kd T n q = 3 ∧ ys_vl T n q = 10
      · refine zw_c (pc' := 17) (zw_cv (q := 52) (Y := zm_90) W.1 rfl rfl zm_90_t rfl rfl) rfl rfl rfl rfl rfl (yc_wd1 (d := c + 3) rfl h ha) ?_
        refine zw_beq1 (g := 33) (pc' := 20) rfl rfl rfl (rfl : _ = (1 : Int)) (fun h9 => absurd h9 (by decide)) (fun h9 => ?_)
        obtain ⟨H1, a1, a2, a3⟩ := yc_ad (L := L) (σ := σ) (d := c + 1) (wa := wa) h
        have hadv := ys_adv (T := T) h.2.2 (by omega)
        have ei : (i + Int32.ofInt 1).toInt = i.toInt + 1 := zw_p1 (by omega)
        refine zw_ld (n := 1) (k := 0) (f := zp_isR) (pc' := 21) rfl rfl l0 rfl rfl ?_
        refine zw_gR (q := 53) (pc' := 24) W rfl rfl rfl rfl (W.2 53 0 _ rfl) rfl ?_
        refine zw_cn (pc' := 27) (zw_cv (q := 52) (Y := zm_55) W.1 rfl rfl zm_55_t rfl rfl) rfl rfl rfl rfl rfl (a1) ?_
        refine zw_ii (pc' := 30) rfl l3 rfl rfl ?_
        refine zw_s (pc' := 2) rfl rfl ?_
        exact ih H1 _ _ _ (k + 1) (by omega) (zw_gt l0 rfl rfl) (zw_gt l1 rfl rfl) (zw_gt l2 rfl rfl) zw_g1 (by omega) (by omega) a2 (zk_Fr_t hF a3) (yR_t hR (yR_s (yN_no ha.1 ha.2 (by omega)))) (by omega)
      · refine zw_c (pc' := 17) (zw_cv (q := 52) (Y := zm_90) W.1 rfl rfl zm_90_t rfl rfl) rfl rfl rfl rfl rfl (yc_wd0 (d := c + 3) rfl h ha) ?_
        refine zw_beq1 (g := 33) (pc' := 20) rfl rfl rfl (rfl : _ = (0 : Int)) (fun h9 => ?_) (fun h9 => absurd h9 (by decide))
        exact yc_notX hP hE hl hb hx l0 l1 l2 l3 hi hk (Or.inr ha) h hF hR hpq

theorem yc_not {L : Nat} {σ : Nat → Int32} {T : Nat → Int} {n wa wr : Nat} {c l : Nat} (hP : yc_P L σ wr wa) (hE : yK L σ T n wa wr 91 1 (fun lv => yQ3 T n lv.tail) (some false) (c + 4) l) : yK L σ T n wa wr 89 2 (fun lv => yQ3 T n lv.tail) (some false) (c + 5) l := by
  intro lv x p H hl hb hx h
  refine zw_met zm_89_t rfl rfl ?_
  refine zw_s (pc' := 1) rfl rfl ?_
  refine zw_st (n := 1) (k := 3) (f := zp_isI) (pc' := 2) rfl rfl rfl rfl rfl ?_
  exact yc_notL hP hE hl hb hx _ H _ _ p 0 (Nat.le_refl _) (zw_gt rfl rfl rfl) (zw_gt rfl rfl rfl) (zw_gt rfl rfl rfl) zw_g1 rfl (by decide) h (zk_Fr_r H) yR_r (Nat.le_refl _)

set_option maxRecDepth 8000 in
theorem yc_andL {L : Nat} {σ : Nat → Int32} {T : Nat → Int} {n wa wr : Nat} {c l : Nat} (hP : yc_P L σ wr wa) (hE : yK L σ T n wa wr 89 2 (fun lv => yQ3 T n lv.tail) (some false) (c + 4) l) {lv : List Bool} {x : Int32} {p : Nat} {H0 : zp_H} (hl : lv.length = l + 1) (hb : ∀ b', (some false) = some b' → lv.head? = some b') (hx : x.toInt = l) : ∀ (m : Nat) (H : zp_H) (lv9 : zp_LV) (i : Int32) (q : Nat) (lv' : List Bool), n - q = m → zp_get lv9 0 = some (.inr (.inr (some 54))) → zp_get lv9 1 = some (.inr (.inr (some wr))) → zp_get lv9 2 = some (.inl x) → zp_get lv9 3 = some (.inl i) → 0 ≤ i.toInt ∧ i.toInt ≤ q → yE T n q H → zk_Fr zg yx_m [wa] H0 H → (fun lv => yQ3 T n lv.tail) lv lv' q → yR T n (2, lv, p) (0, lv', q) → p < q → zs_Safe L σ (yX T n (2, lv, p) wa ((fun lv => yQ4 T n lv.tail) lv) H0) zm_88 [] (c + 4) (13, lv9, [], H, (0, 0)) := by
  intro m
  induction m using Nat.strongRecOn with
  | ind m ih =>
    intro H lv9 i q lv' hm l0 l1 l2 l3 hi h hF hQ hR hpq
    have W := zB_Wd h.1.1
    have hn7 := h.1.2.1
    have hqn := h.2.2
    refine zw_ld (n := 1) (k := 3) (f := zp_isI) (pc' := 14) rfl rfl l3 rfl rfl ?_
    refine zw_s (pc' := 17) rfl rfl ?_
    refine zw_bge2 (g := 63) (pc' := 20) rfl rfl rfl rfl (rfl : _ = (700 : Int)) (fun h7 => ?_) (fun h7 => ?_)
    · have hk0 := ys_kd_n (T := T) (n := n) (p := q) (by omega)
      refine zw_s (pc' := 64) rfl rfl ?_
      refine zw_rz rfl rfl (by decide) ?_
      have hno : ¬ (ys_kd T n q = 3 ∧ ys_vl T n q = 9) := by
        omega
      exact yX_1 h hF hpq (show yQ4 T n lv.tail lv' q from ⟨hQ, hno⟩) hR
    · refine zw_ld (n := 1) (k := 0) (f := zp_isR) (pc' := 21) rfl rfl l0 rfl rfl ?_
      refine zw_gR (q := 53) (pc' := 24) W rfl rfl rfl rfl (W.2 53 0 _ rfl) rfl ?_
      refine zw_s (pc' := 26) rfl rfl ?_
      by_cases ha : ys_kd T n q = 3 ∧ ys_vl T n q = 9
      · refine zw_c (pc' := 29) (zw_cv (q := 52) (Y := zm_90) W.1 rfl rfl zm_90_t rfl rfl) rfl rfl rfl rfl rfl (yc_wd1 (d := c + 3) rfl h ha) ?_
        refine zw_beq1 (g := 63) (pc' := 32) rfl rfl rfl (rfl : _ = (1 : Int)) (fun h9 => absurd h9 (by decide)) (fun h9 => ?_)
        refine zw_ld (n := 1) (k := 0) (f := zp_isR) (pc' := 33) rfl rfl l0 rfl rfl ?_
        refine zw_gR (q := 53) (pc' := 36) W rfl rfl rfl rfl (W.2 53 0 _ rfl) rfl ?_
        have hN := (show yN T n (0, lv', q) = .inl (2, lv, ys_nx T n q) from by have e9 := yQ3_tl hQ (hb false rfl); rw [yN_ao ha.1 (Or.inl ha.2), e9])
        obtain ⟨H1, a1, a2, a3⟩ := yc_ad (L := L) (σ := σ) (d := c + 1) (wa := wa) h
        have W1 := zB_Wd a2.1.1
        have hadv := ys_adv (T := T) h.2.2 (by omega)
        refine zw_cn (pc' := 39) (zw_cv (q := 52) (Y := zm_55) W.1 rfl rfl zm_55_t rfl rfl) rfl rfl rfl rfl rfl (a1) ?_
        obtain ⟨X1, b1, b2⟩ := hE lv x _ H1 hl hb hx a2
        obtain ⟨v, H2, q2, rfl, e2, e3, e4⟩ := b2
        have W2 := zB_Wd e2.1.1
        refine zw_ld (n := 1) (k := 0) (f := zp_isR) (pc' := 40) rfl rfl l0 rfl rfl ?_
        refine zw_ld (n := 1) (k := 1) (f := zp_isR) (pc' := 41) rfl rfl l1 rfl rfl ?_
        refine zw_ld (n := 1) (k := 2) (f := zp_isI) (pc' := 42) rfl rfl l2 rfl rfl ?_
        refine zw_c (pc' := 45) (zw_cv (q := 53) (Y := zm_89) W1.1 rfl rfl zm_89_t rfl rfl) rfl rfl rfl rfl rfl (b1) ?_
        refine zw_bne1 (g := 50) (pc' := 48) rfl rfl rfl rfl (fun hv => ?_) (fun hv => ?_)
        · rcases e4 with ⟨_, e5, lv2, e6, e7⟩ | ⟨e4, _⟩
          rotate_left
          · omega
          have e5 : ys_nx T n q < q2 := e5
          refine zw_ld (n := 1) (k := 0) (f := zp_isR) (pc' := 51) rfl rfl l0 rfl rfl ?_
          refine zw_ld (n := 1) (k := 1) (f := zp_isR) (pc' := 52) rfl rfl l1 rfl rfl ?_
          refine zw_s (pc' := 54) rfl rfl ?_
          obtain ⟨K, k1, k2, k3⟩ := yc_putD (d := c + 2) (x := Int32.ofInt 9) hP e2
          have WK := zB_Wd k2.1.1
          refine zw_cn (pc' := 57) (zw_cv (q := 53) (Y := zm_96) W2.1 rfl rfl zm_96_t rfl rfl) rfl rfl rfl rfl rfl (k1) ?_
          refine zw_ii (pc' := 60) rfl l3 rfl rfl ?_
          refine zw_s (pc' := 13) rfl rfl ?_
          have ei : (i + Int32.ofInt 1).toInt = i.toInt + 1 := zw_p1 (by omega)
          have q2n := e2.2.2
          exact ih (n - q2) (by omega) K _ _ q2 lv2 rfl (zw_gt l0 rfl rfl) (zw_gt l1 rfl rfl) (zw_gt l2 rfl rfl) zw_g1 ⟨by omega, by omega⟩ k2 (zk_Fr_t hF (zk_Fr_t a3 (zk_Fr_t e3 k3))) e6 (yR_t hR (yR_t (yR_s hN) e7)) (by omega)
        · refine zw_s (pc' := 49) rfl rfl ?_
          refine zw_rz rfl rfl (by decide) ?_
          rcases e4 with ⟨e4, _⟩ | ⟨e4, r, e5, e6, e7, e8⟩
          · omega
          · exact yX_0 e2 (zk_Fr_t hF (zk_Fr_t a3 e3)) (hR _ (yA_step hN e5)) e6 e7 e8
      · refine zw_c (pc' := 29) (zw_cv (q := 52) (Y := zm_90) W.1 rfl rfl zm_90_t rfl rfl) rfl rfl rfl rfl rfl (yc_wd0 (d := c + 3) rfl h ha) ?_
        refine zw_beq1 (g := 63) (pc' := 32) rfl rfl rfl (rfl : _ = (0 : Int)) (fun h9 => ?_) (fun h9 => absurd h9 (by decide))
        refine zw_s (pc' := 64) rfl rfl ?_
        refine zw_rz rfl rfl (by decide) ?_
        have hno : ¬ (ys_kd T n q = 3 ∧ ys_vl T n q = 9) := by
          omega
        exact yX_1 h hF hpq (show yQ4 T n lv.tail lv' q from ⟨hQ, hno⟩) hR

theorem yc_and {L : Nat} {σ : Nat → Int32} {T : Nat → Int} {n wa wr : Nat} {c l : Nat} (hP : yc_P L σ wr wa) (hE : yK L σ T n wa wr 89 2 (fun lv => yQ3 T n lv.tail) (some false) (c + 4) l) : yK L σ T n wa wr 88 2 (fun lv => yQ4 T n lv.tail) (some false) (c + 5) l := by
  intro lv x p H hl hb hx h
  have W := zB_Wd h.1.1
  obtain ⟨X1, b1, b2⟩ := hE lv x _ H hl hb hx h
  obtain ⟨v, H2, q2, rfl, e2, e3, e4⟩ := b2
  have W2 := zB_Wd e2.1.1
  refine zw_met zm_88_t rfl rfl ?_
  refine zw_ld (n := 1) (k := 0) (f := zp_isR) (pc' := 1) rfl rfl rfl rfl rfl ?_
  refine zw_ld (n := 1) (k := 1) (f := zp_isR) (pc' := 2) rfl rfl rfl rfl rfl ?_
  refine zw_ld (n := 1) (k := 2) (f := zp_isI) (pc' := 3) rfl rfl rfl rfl rfl ?_
  refine zw_c (pc' := 6) (zw_cv (q := 53) (Y := zm_89) W.1 rfl rfl zm_89_t rfl rfl) rfl rfl rfl rfl rfl (b1) ?_
  refine zw_bne1 (g := 11) (pc' := 9) rfl rfl rfl rfl (fun hv => ?_) (fun hv => ?_)
  · rcases e4 with ⟨_, e5, lv2, e6, e7⟩ | ⟨e4, _⟩
    rotate_left
    · omega
    refine zw_s (pc' := 12) rfl rfl ?_
    refine zw_st (n := 1) (k := 3) (f := zp_isI) (pc' := 13) rfl rfl rfl rfl rfl ?_
    exact yc_andL hP hE hl hb hx _ H2 _ _ q2 lv2 rfl (zw_gt rfl rfl rfl) (zw_gt rfl rfl rfl) (zw_gt rfl rfl rfl) zw_g1 ⟨by decide, by show (0 : Int) ≤ _; omega⟩ e2 e3 e6 e7 e5
  · refine zw_s (pc' := 10) rfl rfl ?_
    refine zw_rz rfl rfl (by decide) ?_
    rcases e4 with ⟨e4, _⟩ | ⟨e4, r, e5, e6, e7, e8⟩
    · omega
    · exact yX_0 e2 e3 e5 e6 e7 e8

set_option maxRecDepth 8000 in
theorem yc_exprL {L : Nat} {σ : Nat → Int32} {T : Nat → Int} {n wa wr : Nat} {c l : Nat} (hP : yc_P L σ wr wa) (hE : yK L σ T n wa wr 88 2 (fun lv => yQ4 T n lv.tail) (some false) (c + 4) l) {lv : List Bool} {x : Int32} {p : Nat} {H0 : zp_H} (hl : lv.length = l + 1) (hb : ∀ b', (some false) = some b' → lv.head? = some b') (hx : x.toInt = l) : ∀ (m : Nat) (H : zp_H) (lv9 : zp_LV) (i : Int32) (q : Nat) (lv' : List Bool), n - q = m → zp_get lv9 0 = some (.inr (.inr (some 54))) → zp_get lv9 1 = some (.inr (.inr (some wr))) → zp_get lv9 2 = some (.inl x) → zp_get lv9 3 = some (.inl i) → 0 ≤ i.toInt ∧ i.toInt ≤ q → yE T n q H → zk_Fr zg yx_m [wa] H0 H → (fun lv => yQ4 T n lv.tail) lv lv' q → yR T n (2, lv, p) (0, lv', q) → p < q → zs_Safe L σ (yX T n (2, lv, p) wa ((fun lv => yQ5 T n lv.tail) lv) H0) zm_85 [] (c + 4) (73, lv9, [], H, (0, 0)) := by
  intro m
  induction m using Nat.strongRecOn with
  | ind m ih =>
    intro H lv9 i q lv' hm l0 l1 l2 l3 hi h hF hQ hR hpq
    have W := zB_Wd h.1.1
    have hn7 := h.1.2.1
    have hqn := h.2.2
    refine zw_ld (n := 1) (k := 3) (f := zp_isI) (pc' := 74) rfl rfl l3 rfl rfl ?_
    refine zw_s (pc' := 77) rfl rfl ?_
    refine zw_bge2 (g := 123) (pc' := 80) rfl rfl rfl rfl (rfl : _ = (700 : Int)) (fun h7 => ?_) (fun h7 => ?_)
    · have hk0 := ys_kd_n (T := T) (n := n) (p := q) (by omega)
      refine zw_s (pc' := 124) rfl rfl ?_
      refine zw_rz rfl rfl (by decide) ?_
      have hno : ¬ (ys_kd T n q = 3 ∧ ys_vl T n q = 8) := by
        omega
      exact yX_1 h hF hpq (show yQ5 T n lv.tail lv' q from ⟨hQ, hno⟩) hR
    · refine zw_ld (n := 1) (k := 0) (f := zp_isR) (pc' := 81) rfl rfl l0 rfl rfl ?_
      refine zw_gR (q := 53) (pc' := 84) W rfl rfl rfl rfl (W.2 53 0 _ rfl) rfl ?_
      refine zw_s (pc' := 86) rfl rfl ?_
      by_cases ha : ys_kd T n q = 3 ∧ ys_vl T n q = 8
      · refine zw_c (pc' := 89) (zw_cv (q := 52) (Y := zm_90) W.1 rfl rfl zm_90_t rfl rfl) rfl rfl rfl rfl rfl (yc_wd1 (d := c + 3) rfl h ha) ?_
        refine zw_beq1 (g := 123) (pc' := 92) rfl rfl rfl (rfl : _ = (1 : Int)) (fun h9 => absurd h9 (by decide)) (fun h9 => ?_)
        refine zw_ld (n := 1) (k := 0) (f := zp_isR) (pc' := 93) rfl rfl l0 rfl rfl ?_
        refine zw_gR (q := 53) (pc' := 96) W rfl rfl rfl rfl (W.2 53 0 _ rfl) rfl ?_
        have hN := (show yN T n (0, lv', q) = .inl (2, lv, ys_nx T n q) from by have e9 := yQ3_tl hQ.1 (hb false rfl); rw [yN_ao ha.1 (Or.inr ha.2), e9])
        obtain ⟨H1, a1, a2, a3⟩ := yc_ad (L := L) (σ := σ) (d := c + 1) (wa := wa) h
        have W1 := zB_Wd a2.1.1
        have hadv := ys_adv (T := T) h.2.2 (by omega)
        refine zw_cn (pc' := 99) (zw_cv (q := 52) (Y := zm_55) W.1 rfl rfl zm_55_t rfl rfl) rfl rfl rfl rfl rfl (a1) ?_
        obtain ⟨X1, b1, b2⟩ := hE lv x _ H1 hl hb hx a2
        obtain ⟨v, H2, q2, rfl, e2, e3, e4⟩ := b2
        have W2 := zB_Wd e2.1.1
        refine zw_ld (n := 1) (k := 0) (f := zp_isR) (pc' := 100) rfl rfl l0 rfl rfl ?_
        refine zw_ld (n := 1) (k := 1) (f := zp_isR) (pc' := 101) rfl rfl l1 rfl rfl ?_
        refine zw_ld (n := 1) (k := 2) (f := zp_isI) (pc' := 102) rfl rfl l2 rfl rfl ?_
        refine zw_c (pc' := 105) (zw_cv (q := 53) (Y := zm_88) W1.1 rfl rfl zm_88_t rfl rfl) rfl rfl rfl rfl rfl (b1) ?_
        refine zw_bne1 (g := 110) (pc' := 108) rfl rfl rfl rfl (fun hv => ?_) (fun hv => ?_)
        · rcases e4 with ⟨_, e5, lv2, e6, e7⟩ | ⟨e4, _⟩
          rotate_left
          · omega
          have e5 : ys_nx T n q < q2 := e5
          refine zw_ld (n := 1) (k := 0) (f := zp_isR) (pc' := 111) rfl rfl l0 rfl rfl ?_
          refine zw_ld (n := 1) (k := 1) (f := zp_isR) (pc' := 112) rfl rfl l1 rfl rfl ?_
          refine zw_s (pc' := 114) rfl rfl ?_
          obtain ⟨K, k1, k2, k3⟩ := yc_putD (d := c + 2) (x := Int32.ofInt 8) hP e2
          have WK := zB_Wd k2.1.1
          refine zw_cn (pc' := 117) (zw_cv (q := 53) (Y := zm_96) W2.1 rfl rfl zm_96_t rfl rfl) rfl rfl rfl rfl rfl (k1) ?_
          refine zw_ii (pc' := 120) rfl l3 rfl rfl ?_
          refine zw_s (pc' := 73) rfl rfl ?_
          have ei : (i + Int32.ofInt 1).toInt = i.toInt + 1 := zw_p1 (by omega)
          have q2n := e2.2.2
          exact ih (n - q2) (by omega) K _ _ q2 lv2 rfl (zw_gt l0 rfl rfl) (zw_gt l1 rfl rfl) (zw_gt l2 rfl rfl) zw_g1 ⟨by omega, by omega⟩ k2 (zk_Fr_t hF (zk_Fr_t a3 (zk_Fr_t e3 k3))) e6 (yR_t hR (yR_t (yR_s hN) e7)) (by omega)
        · refine zw_s (pc' := 109) rfl rfl ?_
          refine zw_rz rfl rfl (by decide) ?_
          rcases e4 with ⟨e4, _⟩ | ⟨e4, r, e5, e6, e7, e8⟩
          · omega
          · exact yX_0 e2 (zk_Fr_t hF (zk_Fr_t a3 e3)) (hR _ (yA_step hN e5)) e6 e7 e8
      · refine zw_c (pc' := 89) (zw_cv (q := 52) (Y := zm_90) W.1 rfl rfl zm_90_t rfl rfl) rfl rfl rfl rfl rfl (yc_wd0 (d := c + 3) rfl h ha) ?_
        refine zw_beq1 (g := 123) (pc' := 92) rfl rfl rfl (rfl : _ = (0 : Int)) (fun h9 => ?_) (fun h9 => absurd h9 (by decide))
        refine zw_s (pc' := 124) rfl rfl ?_
        refine zw_rz rfl rfl (by decide) ?_
        have hno : ¬ (ys_kd T n q = 3 ∧ ys_vl T n q = 8) := by
          omega
        exact yX_1 h hF hpq (show yQ5 T n lv.tail lv' q from ⟨hQ, hno⟩) hR

theorem yc_expr {L : Nat} {σ : Nat → Int32} {T : Nat → Int} {n wa wr : Nat} {c l : Nat} (hl6 : l < 6) (hP : yc_P L σ wr wa) (hE : yK L σ T n wa wr 88 2 (fun lv => yQ4 T n lv.tail) (some false) (c + 4) l) : yK L σ T n wa wr 85 2 (fun lv => yQ5 T n lv.tail) (some false) (c + 5) l := by
  intro lv x p H hl hb hx h
  have W := zB_Wd h.1.1
  obtain ⟨X1, b1, b2⟩ := hE lv x _ H hl hb hx h
  obtain ⟨v, H2, q2, rfl, e2, e3, e4⟩ := b2
  have W2 := zB_Wd e2.1.1
  refine zw_met zm_85_t rfl rfl ?_
  refine zw_ld (n := 1) (k := 2) (f := zp_isI) (pc' := 1) rfl rfl rfl rfl rfl ?_
  refine zw_s (pc' := 3) rfl rfl ?_
  refine zw_blt2 (g := 60) (pc' := 6) rfl rfl rfl rfl (rfl : _ = (6 : Int)) (fun h6 => ?_) (fun h6 => ?_)
  · refine zw_ld (n := 1) (k := 0) (f := zp_isR) (pc' := 61) rfl rfl rfl rfl rfl ?_
    refine zw_ld (n := 1) (k := 1) (f := zp_isR) (pc' := 62) rfl rfl rfl rfl rfl ?_
    refine zw_ld (n := 1) (k := 2) (f := zp_isI) (pc' := 63) rfl rfl rfl rfl rfl ?_
    refine zw_c (pc' := 66) (zw_cv (q := 53) (Y := zm_88) W.1 rfl rfl zm_88_t rfl rfl) rfl rfl rfl rfl rfl (b1) ?_
    refine zw_bne1 (g := 71) (pc' := 69) rfl rfl rfl rfl (fun hv => ?_) (fun hv => ?_)
    · rcases e4 with ⟨_, e5, lv2, e6, e7⟩ | ⟨e4, _⟩
      rotate_left
      · omega
      refine zw_s (pc' := 72) rfl rfl ?_
      refine zw_st (n := 1) (k := 3) (f := zp_isI) (pc' := 73) rfl rfl rfl rfl rfl ?_
      exact yc_exprL hP hE hl hb hx _ H2 _ _ q2 lv2 rfl (zw_gt rfl rfl rfl) (zw_gt rfl rfl rfl) (zw_gt rfl rfl rfl) zw_g1 ⟨by decide, by show (0 : Int) ≤ _; omega⟩ e2 e3 e6 e7 e5
    · refine zw_s (pc' := 70) rfl rfl ?_
      refine zw_rz rfl rfl (by decide) ?_
      rcases e4 with ⟨e4, _⟩ | ⟨e4, r, e5, e6, e7, e8⟩
      · omega
      · exact yX_0 e2 e3 e5 e6 e7 e8
  · omega

theorem yc_ex6 {L : Nat} {σ : Nat → Int32} {T : Nat → Int} {n wa wr d p : Nat} {x : Int32} {H : zp_H} (hx : x.toInt = 6) (h : yE T n p H) : ∃ X, zp_Call L σ (d + 2) 85 [.inr (.inr (some 54)), .inr (.inr (some wr)), .inl x] H X ∧ ∃ H1, X = (.inl (some (.inl (Int32.ofInt 0))), H1) ∧ yE T n p H1 ∧ zk_Fr zg yx_m [wa] H H1 ∧ (H1.2.1 53 2).toInt = (if yB T n p then 2 else 1) := by
  have W := zB_Wd h.1.1
  have h4 := yE_4 h
  refine zw_met zm_85_t rfl rfl ?_
  refine zw_ld (n := 1) (k := 2) (f := zp_isI) (pc' := 1) rfl rfl rfl rfl rfl ?_
  refine zw_s (pc' := 3) rfl rfl ?_
  refine zw_blt2 (g := 60) (pc' := 6) rfl rfl rfl rfl (rfl : _ = (6 : Int)) (fun h6 => ?_) (fun h6 => ?_)
  · omega
  · refine zw_ld (n := 1) (k := 0) (f := zp_isR) (pc' := 7) rfl rfl rfl rfl rfl ?_
    refine zw_gR (q := 53) (pc' := 10) W rfl rfl rfl rfl (W.2 53 0 _ rfl) rfl ?_
    refine zw_gI (q := 52) (pc' := 13) W rfl rfl rfl rfl rfl rfl ?_
    refine zw_s (pc' := 14) rfl rfl ?_
    refine zw_beq2 (g := 40) (pc' := 17) rfl rfl rfl rfl (rfl : _ = (2 : Int)) (fun h2 => ?_) (fun h2 => ?_)
    · refine zw_s (pc' := 41) rfl rfl ?_
      refine zw_s (pc' := 45) rfl rfl ?_
      refine zw_st (n := 1) (k := 3) (f := zp_isI) (pc' := 46) rfl rfl rfl rfl rfl ?_
      refine zw_ld (n := 1) (k := 0) (f := zp_isR) (pc' := 47) rfl rfl (zw_gt rfl rfl rfl) rfl rfl ?_
      refine zw_ld (n := 1) (k := 3) (f := zp_isI) (pc' := 48) rfl rfl zw_g1 rfl rfl ?_
      refine zw_beq1 (g := 55) (pc' := 51) rfl rfl rfl (rfl : _ = (1 : Int)) (fun h9 => absurd h9 (by decide)) (fun h9 => ?_)
      refine zw_s (pc' := 52) rfl rfl ?_
      refine zw_s (pc' := 56) rfl rfl ?_
      obtain ⟨K9, c1, c2, c3, c4⟩ := yc_rf (L := L) (σ := σ) (d := d) (wa := wa) (x := Int32.ofInt 2) h
      refine zw_c (pc' := 59) (zw_cv (q := 53) (Y := zm_87) W.1 rfl rfl zm_87_t rfl rfl) rfl rfl rfl rfl rfl (c1) ?_
      refine zw_rz rfl rfl (by decide) ?_
      exact ⟨K9, rfl, c2, c3, by rw [c4, if_pos (show yB T n p from Or.inl (by omega))]; rfl⟩
    · refine zw_ld (n := 1) (k := 0) (f := zp_isR) (pc' := 18) rfl rfl rfl rfl rfl ?_
      refine zw_gR (q := 53) (pc' := 21) W rfl rfl rfl rfl (W.2 53 0 _ rfl) rfl ?_
      refine zw_gI (q := 52) (pc' := 24) W rfl rfl rfl rfl rfl rfl ?_
      refine zw_s (pc' := 25) rfl rfl ?_
      refine zw_beq2 (g := 40) (pc' := 28) rfl rfl rfl rfl (rfl : _ = (3 : Int)) (fun h3 => ?_) (fun h3 => ?_)
      · refine zw_s (pc' := 41) rfl rfl ?_
        refine zw_s (pc' := 45) rfl rfl ?_
        refine zw_st (n := 1) (k := 3) (f := zp_isI) (pc' := 46) rfl rfl rfl rfl rfl ?_
        refine zw_ld (n := 1) (k := 0) (f := zp_isR) (pc' := 47) rfl rfl (zw_gt rfl rfl rfl) rfl rfl ?_
        refine zw_ld (n := 1) (k := 3) (f := zp_isI) (pc' := 48) rfl rfl zw_g1 rfl rfl ?_
        refine zw_beq1 (g := 55) (pc' := 51) rfl rfl rfl (rfl : _ = (1 : Int)) (fun h9 => absurd h9 (by decide)) (fun h9 => ?_)
        refine zw_s (pc' := 52) rfl rfl ?_
        refine zw_s (pc' := 56) rfl rfl ?_
        obtain ⟨K9, c1, c2, c3, c4⟩ := yc_rf (L := L) (σ := σ) (d := d) (wa := wa) (x := Int32.ofInt 2) h
        refine zw_c (pc' := 59) (zw_cv (q := 53) (Y := zm_87) W.1 rfl rfl zm_87_t rfl rfl) rfl rfl rfl rfl rfl (c1) ?_
        refine zw_rz rfl rfl (by decide) ?_
        exact ⟨K9, rfl, c2, c3, by rw [c4, if_pos (show yB T n p from Or.inr (Or.inl (by omega)))]; rfl⟩
      · refine zw_ld (n := 1) (k := 0) (f := zp_isR) (pc' := 29) rfl rfl rfl rfl rfl ?_
        refine zw_gR (q := 53) (pc' := 32) W rfl rfl rfl rfl (W.2 53 0 _ rfl) rfl ?_
        refine zw_s (pc' := 34) rfl rfl ?_
        by_cases ha : ys_kd T n p = 4 ∧ ys_vl T n p = 40
        · refine zw_c (pc' := 37) (zw_cv (q := 52) (Y := zm_86) W.1 rfl rfl zm_86_t rfl rfl) rfl rfl rfl rfl rfl (yc_sg1 rfl h ha) ?_
          refine zw_beq1 (g := 44) (pc' := 40) rfl rfl rfl (rfl : _ = (1 : Int)) (fun h9 => absurd h9 (by decide)) (fun h9 => ?_)
          refine zw_s (pc' := 41) rfl rfl ?_
          refine zw_s (pc' := 45) rfl rfl ?_
          refine zw_st (n := 1) (k := 3) (f := zp_isI) (pc' := 46) rfl rfl rfl rfl rfl ?_
          refine zw_ld (n := 1) (k := 0) (f := zp_isR) (pc' := 47) rfl rfl (zw_gt rfl rfl rfl) rfl rfl ?_
          refine zw_ld (n := 1) (k := 3) (f := zp_isI) (pc' := 48) rfl rfl zw_g1 rfl rfl ?_
          refine zw_beq1 (g := 55) (pc' := 51) rfl rfl rfl (rfl : _ = (1 : Int)) (fun h9 => absurd h9 (by decide)) (fun h9 => ?_)
          refine zw_s (pc' := 52) rfl rfl ?_
          refine zw_s (pc' := 56) rfl rfl ?_
          obtain ⟨K9, c1, c2, c3, c4⟩ := yc_rf (L := L) (σ := σ) (d := d) (wa := wa) (x := Int32.ofInt 2) h
          refine zw_c (pc' := 59) (zw_cv (q := 53) (Y := zm_87) W.1 rfl rfl zm_87_t rfl rfl) rfl rfl rfl rfl rfl (c1) ?_
          refine zw_rz rfl rfl (by decide) ?_
          exact ⟨K9, rfl, c2, c3, by rw [c4, if_pos (show yB T n p from Or.inr (Or.inr ha))]; rfl⟩
        · refine zw_c (pc' := 37) (zw_cv (q := 52) (Y := zm_86) W.1 rfl rfl zm_86_t rfl rfl) rfl rfl rfl rfl rfl (yc_sg0 rfl h ha) ?_
          refine zw_beq1 (g := 44) (pc' := 40) rfl rfl rfl (rfl : _ = (0 : Int)) (fun h9 => ?_) (fun h9 => absurd h9 (by decide))
          refine zw_s (pc' := 45) rfl rfl ?_
          refine zw_st (n := 1) (k := 3) (f := zp_isI) (pc' := 46) rfl rfl rfl rfl rfl ?_
          refine zw_ld (n := 1) (k := 0) (f := zp_isR) (pc' := 47) rfl rfl (zw_gt rfl rfl rfl) rfl rfl ?_
          refine zw_ld (n := 1) (k := 3) (f := zp_isI) (pc' := 48) rfl rfl zw_g1 rfl rfl ?_
          refine zw_beq1 (g := 55) (pc' := 51) rfl rfl rfl (rfl : _ = (0 : Int)) (fun h9 => ?_) (fun h9 => absurd h9 (by decide))
          refine zw_s (pc' := 56) rfl rfl ?_
          obtain ⟨K9, c1, c2, c3, c4⟩ := yc_rf (L := L) (σ := σ) (d := d) (wa := wa) (x := Int32.ofInt 1) h
          refine zw_c (pc' := 59) (zw_cv (q := 53) (Y := zm_87) W.1 rfl rfl zm_87_t rfl rfl) rfl rfl rfl rfl rfl (c1) ?_
          refine zw_rz rfl rfl (by decide) ?_
          exact ⟨K9, rfl, c2, c3, by rw [c4, if_neg (show ¬ yB T n p from fun h9 => by rcases h9 with h9 | h9 | h9 <;> omega)]; rfl⟩

theorem yG_6 {L : Nat} {σ : Nat → Int32} {T : Nat → Int} {n wa wr : Nat} : yG L σ T n wa wr 2 5 := by
  intro lv x p H hl hx h
  obtain ⟨X, c1, H1, rfl, c2, c3, c4⟩ := yc_ex6 (L := L) (σ := σ) (wa := wa) (wr := wr) (d := 0) (x := x) (by omega) h
  refine ⟨_, c1, _, H1, p, rfl, c2, c3, Or.inr ⟨rfl, (if yB T n p then 2 else 1, p), fun h9 => by omega, fun _ => rfl, rfl, c4, ?_⟩⟩
  show 1 ≤ (if yB T n p then (2 : Int) else 1) ∧ (if yB T n p then (2 : Int) else 1) ≤ 5
  split <;> decide
theorem yK_85 {L : Nat} {σ : Nat → Int32} {T : Nat → Int} {n wa wr c l : Nat} (hl6 : l < 6) (hP : yc_P L σ wr wa) (hE : yG L σ T n wa wr c l) : yK L σ T n wa wr 85 2 (fun lv => yQ5 T n lv.tail) (some false) (c + 10) l := by
  have h1 := yc_part hl6 hP hE
  have h2 := yc_prod (c := c) hP h1
  have h3 := yc_sum (c := c + 1) hP h2
  have h4 := yc_test (c := c + 2) hP h3
  have h5 := yc_not (c := c + 3) hP h4
  have h6 := yc_and (c := c + 4) hP h5
  exact yc_expr (c := c + 5) hl6 hP h6
theorem yG_dn {L : Nat} {σ : Nat → Int32} {T : Nat → Int} {n wa wr c l : Nat} (hl5 : l < 5) (h : yK L σ T n wa wr 85 2 (fun lv => yQ5 T n lv.tail) (some false) c (l + 1)) : yG L σ T n wa wr c l := by
  intro lv x p H hl hx hE
  obtain ⟨X, c1, v, H1, q, rfl, c2, c3, c4⟩ := h (false :: lv) x p H (by rw [List.length_cons, hl]) (fun b' h9 => by cases h9; rfl) hx hE
  refine ⟨_, c1, v, H1, q, rfl, c2, c3, ?_⟩
  rcases c4 with ⟨a, b, lv', e1, e2⟩ | ⟨a, r, e1, e2⟩
  · exact Or.inl ⟨a, b, by omega, lv', e1, e2⟩
  · exact Or.inr ⟨a, r, fun _ => e1, fun h9 => absurd (by omega) h9, e2⟩
/-- a whole expression -/
theorem yc_EX {L : Nat} {σ : Nat → Int32} {T : Nat → Int} {n wa wr : Nat} (hP : yc_P L σ wr wa) : yK L σ T n wa wr 85 2 (fun lv => yQ5 T n lv.tail) (some false) 62 0 := by
  have h5 := yK_85 (T := T) (n := n) (c := 2) (l := 5) (by decide) hP yG_6
  have h4 := yK_85 (c := 12) (l := 4) (by decide) hP (yG_dn (by decide) h5)
  have h3 := yK_85 (c := 22) (l := 3) (by decide) hP (yG_dn (by decide) h4)
  have h2 := yK_85 (c := 32) (l := 2) (by decide) hP (yG_dn (by decide) h3)
  have h1 := yK_85 (c := 42) (l := 1) (by decide) hP (yG_dn (by decide) h2)
  exact yK_85 (c := 52) (l := 0) (by decide) hP (yG_dn (by decide) h1)
theorem yc_readExpr {L : Nat} {σ : Nat → Int32} {T : Nat → Int} {n wa wr p : Nat} {H : zp_H} (hP : yc_P L σ wr wa) (h : yE T n p H) : ∃ (v : Int32) (H1 : zp_H) (q : Nat), zp_Call L σ 62 85 [.inr (.inr (some 54)), .inr (.inr (some wr)), .inl (Int32.ofInt 0)] H (.inl (some (.inl v)), H1) ∧ yE T n q H1 ∧ zk_Fr zg yx_m [wa] H H1 ∧ ((v.toInt = 1 ∧ p < q ∧ yA T n (2, [false], p) (0, q)) ∨ (v.toInt = 0 ∧ ∃ k : Int, yA T n (2, [false], p) (k, q) ∧ (H1.2.1 53 2).toInt = k ∧ 1 ≤ k ∧ k ≤ 5)) := by
  obtain ⟨X, c1, v, H1, q, rfl, c2, c3, c4⟩ := yc_EX (L := L) (σ := σ) (T := T) (n := n) hP [false] (Int32.ofInt 0) p H rfl (fun b' h9 => by cases h9; rfl) rfl h
  refine ⟨v, H1, q, c1, c2, c3, ?_⟩
  rcases c4 with ⟨a, b, lv', e1, e2⟩ | ⟨a, ⟨k, q'⟩, e1, rfl, e2, e3⟩
  · refine Or.inl ⟨a, b, e2 _ (yA_done ?_)⟩
    obtain ⟨⟨⟨t, rfl, f1, f2⟩, f3⟩, f4⟩ := e1
    rw [yN_en ⟨fun h9 => ?_, f1.2, f1.1.2⟩ (fun h9 => ?_) (fun h9 => absurd h9.2.2 (by show ¬ 1 < 1; omega)), if_neg (by show ¬ 1 < 1; omega)]
    · rcases h9.2 with h8 | h8
      · exact f3 ⟨h9.1, h8⟩
      · exact f4 ⟨h9.1, h8⟩
    · exact f2 (Option.some.inj h9.2.2) ⟨h9.1, h9.2.1⟩
  · exact Or.inr ⟨a, k, e1, e2, e3⟩
end
section
/-! ===== the class's words are the letters' ===== -/
def yw_fl (T : Nat → Int) : Nat → Nat → List Int
  | _, 0 => []
  | s, m + 1 => T s :: yw_fl T (s + 1) m
def yw_sc (i : Nat) : Int := (Int32.ofNat (zp_spell.getD i 0)).toInt
/-- spelled from i on: these letters, then a space -/
def yw_at : Nat → List Int → Prop
  | i, [] => yw_sc i = 32
  | i, c :: r => yw_sc i = c ∧ c ≠ 32 ∧ yw_at (i + 1) r
def yw_mt (T : Nat → Int) (s e : Nat) : Int → List Int → Prop
  | a, [] => a = (e : Int) - s
  | a, c :: r => (a ≠ -1 ∧ (s : Int) + a < e ∧ T ((s : Int) + a).toNat = c) ∧ yw_mt T s e (a + 1) r
theorem yw_mt_no {T : Nat → Int} {s e : Nat} (h : s ≤ e) : ∀ (cs : List Int), ¬ yw_mt T s e (-1) cs
  | [], h9 => by
    have h9 : (-1 : Int) = (e : Int) - s := h9
    omega
  | _ :: _, h9 => h9.1.1 rfl
theorem yw_wl {T : Nat → Int} {s e : Nat} (h : s ≤ e) (f : Nat) : ∀ (cs : List Int) (i : Nat) (a : Int), ys_al T s e i = a → yw_at i cs → (yw_mt T s e a cs → ys_wl T s e (f + 1 + cs.length) i = zq_sp (i + cs.length)) ∧ (¬ yw_mt T s e a cs → ys_wl T s e (f + 1 + cs.length) i = ys_wl T s e f (i + cs.length + 1)) ∧ ys_al T s e (i + cs.length + 1) = 0
  | [], i, a, ha, hs => by
    have hs : yw_sc i = 32 := hs
    refine ⟨fun hm => ?_, fun hm => ?_, ?_⟩
    · show (if _ then _ else _) = _
      rw [if_pos ⟨hs, ha.trans hm⟩]
      rfl
    · show (if _ then _ else _) = _
      rw [if_neg (fun h9 => hm (ha.symm.trans h9.2))]
      rfl
    · exact if_pos hs
  | c :: r, i, a, ha, hs => by
    obtain ⟨h1, h2, h3⟩ := hs
    have e1 : ∀ g, ys_wl T s e (g + 1) i = ys_wl T s e g (i + 1) := fun g => by
      show (if _ then _ else _) = _
      rw [if_neg (fun h9 => h2 (h1.symm.trans h9.1))]
    have e2 : f + 1 + (c :: r).length = f + 1 + r.length + 1 := rfl
    have e3 : i + (c :: r).length = i + 1 + r.length := by
      rw [List.length_cons]
      omega
    rw [e2, e1, e3]
    have e4 : ys_al T s e (i + 1) = if a ≠ -1 ∧ (s : Int) + a < e ∧ T ((s : Int) + a).toNat = c then a + 1 else -1 := by
      refine (if_neg (show ¬ yw_sc i = 32 from fun h9 => h2 (h1.symm.trans h9))).trans ?_
      rw [ha]
      show (if a ≠ -1 ∧ (s : Int) + a < e ∧ T ((s : Int) + a).toNat = yw_sc i then a + 1 else -1) = _
      rw [h1]
    by_cases hc : a ≠ -1 ∧ (s : Int) + a < e ∧ T ((s : Int) + a).toNat = c
    · rw [if_pos hc] at e4
      obtain ⟨k1, k2, k3⟩ := yw_wl h f r (i + 1) (a + 1) e4 h3
      exact ⟨fun hm => k1 hm.2, fun hm => k2 (fun h9 => hm ⟨hc, h9⟩), k3⟩
    · rw [if_neg hc] at e4
      obtain ⟨k1, k2, k3⟩ := yw_wl h f r (i + 1) (-1) e4 h3
      exact ⟨fun hm => absurd hm.1 hc, fun hm => k2 (yw_mt_no h r), k3⟩
theorem yw_mt_f {T : Nat → Int} {s e : Nat} : ∀ (cs : List Int) (j : Nat), s + j ≤ e → (yw_mt T s e j cs ↔ yw_fl T (s + j) (e - (s + j)) = cs)
  | [], j, hj => by
    constructor
    · intro h
      have h : (j : Int) = (e : Int) - s := h
      rw [show e - (s + j) = 0 by omega]
      rfl
    · intro h
      show (j : Int) = (e : Int) - s
      cases hm : e - (s + j) with
      | zero => omega
      | succ m =>
        rw [hm] at h
        cases h
  | c :: r, j, hj => by
    cases hm : e - (s + j) with
    | zero =>
      constructor
      · intro h
        have := h.1.2.1
        omega
      · intro h
        cases h
    | succ m =>
      have ih := yw_mt_f (T := T) (s := s) (e := e) r (j + 1) (by omega)
      have e1 : e - (s + (j + 1)) = m := by omega
      rw [e1] at ih
      have e2 : ((s : Int) + (j : Int)).toNat = s + j := by omega
      constructor
      · intro h
        have h2 := ih.mp h.2
        have h1 := h.1.2.2
        rw [e2] at h1
        show T (s + j) :: yw_fl T (s + j + 1) m = c :: r
        rw [h1, show s + j + 1 = s + (j + 1) by omega, h2]
      · intro h
        have h : T (s + j) :: yw_fl T (s + j + 1) m = c :: r := h
        obtain ⟨h1, h2⟩ := List.cons.inj h
        refine ⟨⟨by omega, by omega, ?_⟩, ih.mpr h2⟩
        rw [e2]
        exact h1
theorem yw_fl_s {T : Nat → Int} : ∀ (m s : Nat), yw_fl T s (m + 1) = yw_fl T s m ++ [T (s + m)]
  | 0, s => rfl
  | m + 1, s => by
    show T s :: yw_fl T (s + 1) (m + 1) = T s :: yw_fl T (s + 1) m ++ [T (s + (m + 1))]
    rw [yw_fl_s m (s + 1), show s + 1 + m = s + (m + 1) by omega]
    rfl
def yw_g (c : Int) : Nat := (c - 96).toNat
theorem yw_rl_f {T : Nat → Int} {s : Nat} : ∀ (m : Nat), yw_rl T s m = ((yw_fl T s m).map yw_g).reverse
  | 0 => rfl
  | m + 1 => by
    rw [yw_fl_s, List.map_append, List.reverse_append, ← yw_rl_f m]
    rfl
theorem yw_fl_d {T : Nat → Int} : ∀ (m s : Nat), (∀ t, t < m → 97 ≤ T (s + t) ∧ T (s + t) ≤ 122) → ∀ c ∈ yw_fl T s m, 97 ≤ c ∧ c ≤ 122
  | 0, s, _, c, hc => absurd hc List.not_mem_nil
  | m + 1, s, h, c, hc => by
    rcases List.mem_cons.mp hc with rfl | hc
    · exact h 0 (Nat.succ_pos _)
    · exact yw_fl_d m (s + 1) (fun t ht => by rw [show s + 1 + t = s + (t + 1) by omega]; exact h (t + 1) (by omega)) c hc
theorem yw_map {a b : List Int} (ha : ∀ c ∈ a, 97 ≤ c ∧ c ≤ 122) (hb : ∀ c ∈ b, 97 ≤ c ∧ c ≤ 122) (h : a.map yw_g = b.map yw_g) : a = b := by
  induction a generalizing b with
  | nil =>
    cases b with
    | nil => rfl
    | cons _ _ => cases h
  | cons x a ih =>
    cases b with
    | nil => cases h
    | cons y b =>
      obtain ⟨h1, h2⟩ := List.cons.inj h
      have hx := ha x List.mem_cons_self
      have hy := hb y List.mem_cons_self
      have h1 : (x - 96).toNat = (y - 96).toNat := h1
      rw [ih (fun c hc => ha c (List.mem_cons_of_mem _ hc)) (fun c hc => hb c (List.mem_cons_of_mem _ hc)) h2, show x = y by omega]
theorem yw_mt_r {T : Nat → Int} {s e : Nat} {cs : List Int} {w : List Nat} (hse : s ≤ e) (h : ∀ t, t < e - s → 97 ≤ T (s + t) ∧ T (s + t) ≤ 122) (hw : (cs.map yw_g).reverse = w) (hc : cs.all (fun c => decide (97 ≤ c ∧ c ≤ 122)) = true) : yw_mt T s e 0 cs ↔ yw_rl T s (e - s) = w := by
  have h1 := yw_mt_f (T := T) (s := s) (e := e) cs 0 hse
  have h1 : yw_mt T s e 0 cs ↔ yw_fl T s (e - s) = cs := h1
  rw [h1, yw_rl_f, ← hw]
  constructor
  · intro h9
    rw [h9]
  · intro h9
    exact yw_map (yw_fl_d _ _ h) (fun c h8 => of_decide_eq_true (List.all_eq_true.mp hc c h8)) (List.reverse_inj.mp h9)

theorem yw_wi {T : Nat → Int} {s e : Nat} (hse : s ≤ e) (h : ∀ t, t < e - s → 97 ≤ T (s + t) ∧ T (s + t) ≤ 122) : ys_wi T s e = yw_cls (yw_rl T s (e - s)) := by
  have a0 : ys_al T s e 0 = 0 := rfl
  have m0 := yw_mt_r (cs := [110, 111, 114, 116, 104]) (w := [8, 20, 18, 15, 14]) hse h rfl rfl
  obtain ⟨p0, n0, a1⟩ := yw_wl hse 95 [110, 111, 114, 116, 104] 0 0 a0 (by refine ⟨rfl, by decide, rfl, by decide, rfl, by decide, rfl, by decide, rfl, by decide, rfl⟩)
  have m1 := yw_mt_r (cs := [101, 97, 115, 116]) (w := [20, 19, 1, 5]) hse h rfl rfl
  obtain ⟨p1, n1, a2⟩ := yw_wl hse 90 [101, 97, 115, 116] 6 0 a1 (by refine ⟨rfl, by decide, rfl, by decide, rfl, by decide, rfl, by decide, rfl⟩)
  have m2 := yw_mt_r (cs := [115, 111, 117, 116, 104]) (w := [8, 20, 21, 15, 19]) hse h rfl rfl
  obtain ⟨p2, n2, a3⟩ := yw_wl hse 84 [115, 111, 117, 116, 104] 11 0 a2 (by refine ⟨rfl, by decide, rfl, by decide, rfl, by decide, rfl, by decide, rfl, by decide, rfl⟩)
  have m3 := yw_mt_r (cs := [119, 101, 115, 116]) (w := [20, 19, 5, 23]) hse h rfl rfl
  obtain ⟨p3, n3, a4⟩ := yw_wl hse 79 [119, 101, 115, 116] 17 0 a3 (by refine ⟨rfl, by decide, rfl, by decide, rfl, by decide, rfl, by decide, rfl⟩)
  have m4 := yw_mt_r (cs := [120]) (w := [24]) hse h rfl rfl
  obtain ⟨p4, n4, a5⟩ := yw_wl hse 77 [120] 22 0 a4 (by refine ⟨rfl, by decide, rfl⟩)
  have m5 := yw_mt_r (cs := [121]) (w := [25]) hse h rfl rfl
  obtain ⟨p5, n5, a6⟩ := yw_wl hse 75 [121] 24 0 a5 (by refine ⟨rfl, by decide, rfl⟩)
  have m6 := yw_mt_r (cs := [104, 111, 117, 114]) (w := [18, 21, 15, 8]) hse h rfl rfl
  obtain ⟨p6, n6, a7⟩ := yw_wl hse 70 [104, 111, 117, 114] 26 0 a6 (by refine ⟨rfl, by decide, rfl, by decide, rfl, by decide, rfl, by decide, rfl⟩)
  have m7 := yw_mt_r (cs := [116, 105, 100, 101]) (w := [5, 4, 9, 20]) hse h rfl rfl
  obtain ⟨p7, n7, a8⟩ := yw_wl hse 65 [116, 105, 100, 101] 31 0 a7 (by refine ⟨rfl, by decide, rfl, by decide, rfl, by decide, rfl, by decide, rfl⟩)
  have m8 := yw_mt_r (cs := [111, 114]) (w := [18, 15]) hse h rfl rfl
  obtain ⟨p8, n8, a9⟩ := yw_wl hse 62 [111, 114] 36 0 a8 (by refine ⟨rfl, by decide, rfl, by decide, rfl⟩)
  have m9 := yw_mt_r (cs := [97, 110, 100]) (w := [4, 14, 1]) hse h rfl rfl
  obtain ⟨p9, n9, a10⟩ := yw_wl hse 58 [97, 110, 100] 39 0 a9 (by refine ⟨rfl, by decide, rfl, by decide, rfl, by decide, rfl⟩)
  have m10 := yw_mt_r (cs := [110, 111, 116]) (w := [20, 15, 14]) hse h rfl rfl
  obtain ⟨p10, n10, a11⟩ := yw_wl hse 54 [110, 111, 116] 43 0 a10 (by refine ⟨rfl, by decide, rfl, by decide, rfl, by decide, rfl⟩)
  have m11 := yw_mt_r (cs := [103, 111]) (w := [15, 7]) hse h rfl rfl
  obtain ⟨p11, n11, a12⟩ := yw_wl hse 51 [103, 111] 47 0 a11 (by refine ⟨rfl, by decide, rfl, by decide, rfl⟩)
  have m12 := yw_mt_r (cs := [115, 101, 97]) (w := [1, 5, 19]) hse h rfl rfl
  obtain ⟨p12, n12, a13⟩ := yw_wl hse 47 [115, 101, 97] 50 0 a12 (by refine ⟨rfl, by decide, rfl, by decide, rfl, by decide, rfl⟩)
  have m13 := yw_mt_r (cs := [114, 111, 99, 107]) (w := [11, 3, 15, 18]) hse h rfl rfl
  obtain ⟨p13, n13, a14⟩ := yw_wl hse 42 [114, 111, 99, 107] 54 0 a13 (by refine ⟨rfl, by decide, rfl, by decide, rfl, by decide, rfl, by decide, rfl⟩)
  have m14 := yw_mt_r (cs := [99, 117, 114, 114, 101, 110, 116]) (w := [20, 14, 5, 18, 18, 21, 3]) hse h rfl rfl
  obtain ⟨p14, n14, a15⟩ := yw_wl hse 34 [99, 117, 114, 114, 101, 110, 116] 59 0 a14 (by refine ⟨rfl, by decide, rfl, by decide, rfl, by decide, rfl, by decide, rfl, by decide, rfl, by decide, rfl, by decide, rfl⟩)
  have m15 := yw_mt_r (cs := [115, 108, 97, 116, 101]) (w := [5, 20, 1, 12, 19]) hse h rfl rfl
  obtain ⟨p15, n15, a16⟩ := yw_wl hse 28 [115, 108, 97, 116, 101] 67 0 a15 (by refine ⟨rfl, by decide, rfl, by decide, rfl, by decide, rfl, by decide, rfl, by decide, rfl⟩)
  have m16 := yw_mt_r (cs := [104, 97, 110, 100]) (w := [4, 14, 1, 8]) hse h rfl rfl
  obtain ⟨p16, n16, a17⟩ := yw_wl hse 23 [104, 97, 110, 100] 73 0 a16 (by refine ⟨rfl, by decide, rfl, by decide, rfl, by decide, rfl, by decide, rfl⟩)
  have m17 := yw_mt_r (cs := [115, 99, 104, 111, 111, 108]) (w := [12, 15, 15, 8, 3, 19]) hse h rfl rfl
  obtain ⟨p17, n17, a18⟩ := yw_wl hse 16 [115, 99, 104, 111, 111, 108] 78 0 a17 (by refine ⟨rfl, by decide, rfl, by decide, rfl, by decide, rfl, by decide, rfl, by decide, rfl, by decide, rfl⟩)
  have m18 := yw_mt_r (cs := [103, 111, 97, 108]) (w := [12, 1, 15, 7]) hse h rfl rfl
  obtain ⟨p18, n18, a19⟩ := yw_wl hse 11 [103, 111, 97, 108] 85 0 a18 (by refine ⟨rfl, by decide, rfl, by decide, rfl, by decide, rfl, by decide, rfl⟩)
  have m19 := yw_mt_r (cs := [112, 105, 108, 111, 116]) (w := [20, 15, 12, 9, 16]) hse h rfl rfl
  obtain ⟨p19, n19, a20⟩ := yw_wl hse 5 [112, 105, 108, 111, 116] 90 0 a19 (by refine ⟨rfl, by decide, rfl, by decide, rfl, by decide, rfl, by decide, rfl, by decide, rfl⟩)
  have m20 := yw_mt_r (cs := [114, 117, 108, 101]) (w := [5, 12, 21, 18]) hse h rfl rfl
  obtain ⟨p20, n20, a21⟩ := yw_wl hse 0 [114, 117, 108, 101] 96 0 a20 (by refine ⟨rfl, by decide, rfl, by decide, rfl, by decide, rfl, by decide, rfl⟩)
  unfold yw_cls
  by_cases h0 : yw_rl T s (e - s) = [8, 20, 18, 15, 14]
  · rw [if_pos h0]
    exact (p0 (m0.mpr h0)).trans (by decide +kernel)
  rw [if_neg h0]
  by_cases h1 : yw_rl T s (e - s) = [20, 19, 1, 5]
  · rw [if_pos h1]
    exact (n0 (fun hz => h0 (m0.mp hz))).trans ((p1 (m1.mpr h1)).trans (by decide +kernel))
  rw [if_neg h1]
  by_cases h2 : yw_rl T s (e - s) = [8, 20, 21, 15, 19]
  · rw [if_pos h2]
    exact (n0 (fun hz => h0 (m0.mp hz))).trans ((n1 (fun hz => h1 (m1.mp hz))).trans ((p2 (m2.mpr h2)).trans (by decide +kernel)))
  rw [if_neg h2]
  by_cases h3 : yw_rl T s (e - s) = [20, 19, 5, 23]
  · rw [if_pos h3]
    exact (n0 (fun hz => h0 (m0.mp hz))).trans ((n1 (fun hz => h1 (m1.mp hz))).trans ((n2 (fun hz => h2 (m2.mp hz))).trans ((p3 (m3.mpr h3)).trans (by decide +kernel))))
  rw [if_neg h3]
  by_cases h4 : yw_rl T s (e - s) = [24]
  · rw [if_pos h4]
    exact (n0 (fun hz => h0 (m0.mp hz))).trans ((n1 (fun hz => h1 (m1.mp hz))).trans ((n2 (fun hz => h2 (m2.mp hz))).trans ((n3 (fun hz => h3 (m3.mp hz))).trans ((p4 (m4.mpr h4)).trans (by decide +kernel)))))
  rw [if_neg h4]
  by_cases h5 : yw_rl T s (e - s) = [25]
  · rw [if_pos h5]
    exact (n0 (fun hz => h0 (m0.mp hz))).trans ((n1 (fun hz => h1 (m1.mp hz))).trans ((n2 (fun hz => h2 (m2.mp hz))).trans ((n3 (fun hz => h3 (m3.mp hz))).trans ((n4 (fun hz => h4 (m4.mp hz))).trans ((p5 (m5.mpr h5)).trans (by decide +kernel))))))
  rw [if_neg h5]
  by_cases h6 : yw_rl T s (e - s) = [18, 21, 15, 8]
  · rw [if_pos h6]
    exact (n0 (fun hz => h0 (m0.mp hz))).trans ((n1 (fun hz => h1 (m1.mp hz))).trans ((n2 (fun hz => h2 (m2.mp hz))).trans ((n3 (fun hz => h3 (m3.mp hz))).trans ((n4 (fun hz => h4 (m4.mp hz))).trans ((n5 (fun hz => h5 (m5.mp hz))).trans ((p6 (m6.mpr h6)).trans (by decide +kernel)))))))
  rw [if_neg h6]
  by_cases h7 : yw_rl T s (e - s) = [5, 4, 9, 20]
  · rw [if_pos h7]
    exact (n0 (fun hz => h0 (m0.mp hz))).trans ((n1 (fun hz => h1 (m1.mp hz))).trans ((n2 (fun hz => h2 (m2.mp hz))).trans ((n3 (fun hz => h3 (m3.mp hz))).trans ((n4 (fun hz => h4 (m4.mp hz))).trans ((n5 (fun hz => h5 (m5.mp hz))).trans ((n6 (fun hz => h6 (m6.mp hz))).trans ((p7 (m7.mpr h7)).trans (by decide +kernel))))))))
  rw [if_neg h7]
  by_cases h8 : yw_rl T s (e - s) = [18, 15]
  · rw [if_pos h8]
    exact (n0 (fun hz => h0 (m0.mp hz))).trans ((n1 (fun hz => h1 (m1.mp hz))).trans ((n2 (fun hz => h2 (m2.mp hz))).trans ((n3 (fun hz => h3 (m3.mp hz))).trans ((n4 (fun hz => h4 (m4.mp hz))).trans ((n5 (fun hz => h5 (m5.mp hz))).trans ((n6 (fun hz => h6 (m6.mp hz))).trans ((n7 (fun hz => h7 (m7.mp hz))).trans ((p8 (m8.mpr h8)).trans (by decide +kernel)))))))))
  rw [if_neg h8]
  by_cases h9 : yw_rl T s (e - s) = [4, 14, 1]
  · rw [if_pos h9]
    exact (n0 (fun hz => h0 (m0.mp hz))).trans ((n1 (fun hz => h1 (m1.mp hz))).trans ((n2 (fun hz => h2 (m2.mp hz))).trans ((n3 (fun hz => h3 (m3.mp hz))).trans ((n4 (fun hz => h4 (m4.mp hz))).trans ((n5 (fun hz => h5 (m5.mp hz))).trans ((n6 (fun hz => h6 (m6.mp hz))).trans ((n7 (fun hz => h7 (m7.mp hz))).trans ((n8 (fun hz => h8 (m8.mp hz))).trans ((p9 (m9.mpr h9)).trans (by decide +kernel))))))))))
  rw [if_neg h9]
  by_cases h10 : yw_rl T s (e - s) = [20, 15, 14]
  · rw [if_pos h10]
    exact (n0 (fun hz => h0 (m0.mp hz))).trans ((n1 (fun hz => h1 (m1.mp hz))).trans ((n2 (fun hz => h2 (m2.mp hz))).trans ((n3 (fun hz => h3 (m3.mp hz))).trans ((n4 (fun hz => h4 (m4.mp hz))).trans ((n5 (fun hz => h5 (m5.mp hz))).trans ((n6 (fun hz => h6 (m6.mp hz))).trans ((n7 (fun hz => h7 (m7.mp hz))).trans ((n8 (fun hz => h8 (m8.mp hz))).trans ((n9 (fun hz => h9 (m9.mp hz))).trans ((p10 (m10.mpr h10)).trans (by decide +kernel)))))))))))
  rw [if_neg h10]
  by_cases h11 : yw_rl T s (e - s) = [15, 7]
  · rw [if_pos h11]
    exact (n0 (fun hz => h0 (m0.mp hz))).trans ((n1 (fun hz => h1 (m1.mp hz))).trans ((n2 (fun hz => h2 (m2.mp hz))).trans ((n3 (fun hz => h3 (m3.mp hz))).trans ((n4 (fun hz => h4 (m4.mp hz))).trans ((n5 (fun hz => h5 (m5.mp hz))).trans ((n6 (fun hz => h6 (m6.mp hz))).trans ((n7 (fun hz => h7 (m7.mp hz))).trans ((n8 (fun hz => h8 (m8.mp hz))).trans ((n9 (fun hz => h9 (m9.mp hz))).trans ((n10 (fun hz => h10 (m10.mp hz))).trans ((p11 (m11.mpr h11)).trans (by decide +kernel))))))))))))
  rw [if_neg h11]
  by_cases h12 : yw_rl T s (e - s) = [1, 5, 19]
  · rw [if_pos h12]
    exact (n0 (fun hz => h0 (m0.mp hz))).trans ((n1 (fun hz => h1 (m1.mp hz))).trans ((n2 (fun hz => h2 (m2.mp hz))).trans ((n3 (fun hz => h3 (m3.mp hz))).trans ((n4 (fun hz => h4 (m4.mp hz))).trans ((n5 (fun hz => h5 (m5.mp hz))).trans ((n6 (fun hz => h6 (m6.mp hz))).trans ((n7 (fun hz => h7 (m7.mp hz))).trans ((n8 (fun hz => h8 (m8.mp hz))).trans ((n9 (fun hz => h9 (m9.mp hz))).trans ((n10 (fun hz => h10 (m10.mp hz))).trans ((n11 (fun hz => h11 (m11.mp hz))).trans ((p12 (m12.mpr h12)).trans (by decide +kernel)))))))))))))
  rw [if_neg h12]
  by_cases h13 : yw_rl T s (e - s) = [11, 3, 15, 18]
  · rw [if_pos h13]
    exact (n0 (fun hz => h0 (m0.mp hz))).trans ((n1 (fun hz => h1 (m1.mp hz))).trans ((n2 (fun hz => h2 (m2.mp hz))).trans ((n3 (fun hz => h3 (m3.mp hz))).trans ((n4 (fun hz => h4 (m4.mp hz))).trans ((n5 (fun hz => h5 (m5.mp hz))).trans ((n6 (fun hz => h6 (m6.mp hz))).trans ((n7 (fun hz => h7 (m7.mp hz))).trans ((n8 (fun hz => h8 (m8.mp hz))).trans ((n9 (fun hz => h9 (m9.mp hz))).trans ((n10 (fun hz => h10 (m10.mp hz))).trans ((n11 (fun hz => h11 (m11.mp hz))).trans ((n12 (fun hz => h12 (m12.mp hz))).trans ((p13 (m13.mpr h13)).trans (by decide +kernel))))))))))))))
  rw [if_neg h13]
  by_cases h14 : yw_rl T s (e - s) = [20, 14, 5, 18, 18, 21, 3]
  · rw [if_pos h14]
    exact (n0 (fun hz => h0 (m0.mp hz))).trans ((n1 (fun hz => h1 (m1.mp hz))).trans ((n2 (fun hz => h2 (m2.mp hz))).trans ((n3 (fun hz => h3 (m3.mp hz))).trans ((n4 (fun hz => h4 (m4.mp hz))).trans ((n5 (fun hz => h5 (m5.mp hz))).trans ((n6 (fun hz => h6 (m6.mp hz))).trans ((n7 (fun hz => h7 (m7.mp hz))).trans ((n8 (fun hz => h8 (m8.mp hz))).trans ((n9 (fun hz => h9 (m9.mp hz))).trans ((n10 (fun hz => h10 (m10.mp hz))).trans ((n11 (fun hz => h11 (m11.mp hz))).trans ((n12 (fun hz => h12 (m12.mp hz))).trans ((n13 (fun hz => h13 (m13.mp hz))).trans ((p14 (m14.mpr h14)).trans (by decide +kernel)))))))))))))))
  rw [if_neg h14]
  by_cases h15 : yw_rl T s (e - s) = [5, 20, 1, 12, 19]
  · rw [if_pos h15]
    exact (n0 (fun hz => h0 (m0.mp hz))).trans ((n1 (fun hz => h1 (m1.mp hz))).trans ((n2 (fun hz => h2 (m2.mp hz))).trans ((n3 (fun hz => h3 (m3.mp hz))).trans ((n4 (fun hz => h4 (m4.mp hz))).trans ((n5 (fun hz => h5 (m5.mp hz))).trans ((n6 (fun hz => h6 (m6.mp hz))).trans ((n7 (fun hz => h7 (m7.mp hz))).trans ((n8 (fun hz => h8 (m8.mp hz))).trans ((n9 (fun hz => h9 (m9.mp hz))).trans ((n10 (fun hz => h10 (m10.mp hz))).trans ((n11 (fun hz => h11 (m11.mp hz))).trans ((n12 (fun hz => h12 (m12.mp hz))).trans ((n13 (fun hz => h13 (m13.mp hz))).trans ((n14 (fun hz => h14 (m14.mp hz))).trans ((p15 (m15.mpr h15)).trans (by decide +kernel))))))))))))))))
  rw [if_neg h15]
  by_cases h16 : yw_rl T s (e - s) = [4, 14, 1, 8]
  · rw [if_pos h16]
    exact (n0 (fun hz => h0 (m0.mp hz))).trans ((n1 (fun hz => h1 (m1.mp hz))).trans ((n2 (fun hz => h2 (m2.mp hz))).trans ((n3 (fun hz => h3 (m3.mp hz))).trans ((n4 (fun hz => h4 (m4.mp hz))).trans ((n5 (fun hz => h5 (m5.mp hz))).trans ((n6 (fun hz => h6 (m6.mp hz))).trans ((n7 (fun hz => h7 (m7.mp hz))).trans ((n8 (fun hz => h8 (m8.mp hz))).trans ((n9 (fun hz => h9 (m9.mp hz))).trans ((n10 (fun hz => h10 (m10.mp hz))).trans ((n11 (fun hz => h11 (m11.mp hz))).trans ((n12 (fun hz => h12 (m12.mp hz))).trans ((n13 (fun hz => h13 (m13.mp hz))).trans ((n14 (fun hz => h14 (m14.mp hz))).trans ((n15 (fun hz => h15 (m15.mp hz))).trans ((p16 (m16.mpr h16)).trans (by decide +kernel)))))))))))))))))
  rw [if_neg h16]
  by_cases h17 : yw_rl T s (e - s) = [12, 15, 15, 8, 3, 19]
  · rw [if_pos h17]
    exact (n0 (fun hz => h0 (m0.mp hz))).trans ((n1 (fun hz => h1 (m1.mp hz))).trans ((n2 (fun hz => h2 (m2.mp hz))).trans ((n3 (fun hz => h3 (m3.mp hz))).trans ((n4 (fun hz => h4 (m4.mp hz))).trans ((n5 (fun hz => h5 (m5.mp hz))).trans ((n6 (fun hz => h6 (m6.mp hz))).trans ((n7 (fun hz => h7 (m7.mp hz))).trans ((n8 (fun hz => h8 (m8.mp hz))).trans ((n9 (fun hz => h9 (m9.mp hz))).trans ((n10 (fun hz => h10 (m10.mp hz))).trans ((n11 (fun hz => h11 (m11.mp hz))).trans ((n12 (fun hz => h12 (m12.mp hz))).trans ((n13 (fun hz => h13 (m13.mp hz))).trans ((n14 (fun hz => h14 (m14.mp hz))).trans ((n15 (fun hz => h15 (m15.mp hz))).trans ((n16 (fun hz => h16 (m16.mp hz))).trans ((p17 (m17.mpr h17)).trans (by decide +kernel))))))))))))))))))
  rw [if_neg h17]
  by_cases h18 : yw_rl T s (e - s) = [12, 1, 15, 7]
  · rw [if_pos h18]
    exact (n0 (fun hz => h0 (m0.mp hz))).trans ((n1 (fun hz => h1 (m1.mp hz))).trans ((n2 (fun hz => h2 (m2.mp hz))).trans ((n3 (fun hz => h3 (m3.mp hz))).trans ((n4 (fun hz => h4 (m4.mp hz))).trans ((n5 (fun hz => h5 (m5.mp hz))).trans ((n6 (fun hz => h6 (m6.mp hz))).trans ((n7 (fun hz => h7 (m7.mp hz))).trans ((n8 (fun hz => h8 (m8.mp hz))).trans ((n9 (fun hz => h9 (m9.mp hz))).trans ((n10 (fun hz => h10 (m10.mp hz))).trans ((n11 (fun hz => h11 (m11.mp hz))).trans ((n12 (fun hz => h12 (m12.mp hz))).trans ((n13 (fun hz => h13 (m13.mp hz))).trans ((n14 (fun hz => h14 (m14.mp hz))).trans ((n15 (fun hz => h15 (m15.mp hz))).trans ((n16 (fun hz => h16 (m16.mp hz))).trans ((n17 (fun hz => h17 (m17.mp hz))).trans ((p18 (m18.mpr h18)).trans (by decide +kernel)))))))))))))))))))
  rw [if_neg h18]
  by_cases h19 : yw_rl T s (e - s) = [20, 15, 12, 9, 16]
  · rw [if_pos h19]
    exact (n0 (fun hz => h0 (m0.mp hz))).trans ((n1 (fun hz => h1 (m1.mp hz))).trans ((n2 (fun hz => h2 (m2.mp hz))).trans ((n3 (fun hz => h3 (m3.mp hz))).trans ((n4 (fun hz => h4 (m4.mp hz))).trans ((n5 (fun hz => h5 (m5.mp hz))).trans ((n6 (fun hz => h6 (m6.mp hz))).trans ((n7 (fun hz => h7 (m7.mp hz))).trans ((n8 (fun hz => h8 (m8.mp hz))).trans ((n9 (fun hz => h9 (m9.mp hz))).trans ((n10 (fun hz => h10 (m10.mp hz))).trans ((n11 (fun hz => h11 (m11.mp hz))).trans ((n12 (fun hz => h12 (m12.mp hz))).trans ((n13 (fun hz => h13 (m13.mp hz))).trans ((n14 (fun hz => h14 (m14.mp hz))).trans ((n15 (fun hz => h15 (m15.mp hz))).trans ((n16 (fun hz => h16 (m16.mp hz))).trans ((n17 (fun hz => h17 (m17.mp hz))).trans ((n18 (fun hz => h18 (m18.mp hz))).trans ((p19 (m19.mpr h19)).trans (by decide +kernel))))))))))))))))))))
  rw [if_neg h19]
  by_cases h20 : yw_rl T s (e - s) = [5, 12, 21, 18]
  · rw [if_pos h20]
    exact (n0 (fun hz => h0 (m0.mp hz))).trans ((n1 (fun hz => h1 (m1.mp hz))).trans ((n2 (fun hz => h2 (m2.mp hz))).trans ((n3 (fun hz => h3 (m3.mp hz))).trans ((n4 (fun hz => h4 (m4.mp hz))).trans ((n5 (fun hz => h5 (m5.mp hz))).trans ((n6 (fun hz => h6 (m6.mp hz))).trans ((n7 (fun hz => h7 (m7.mp hz))).trans ((n8 (fun hz => h8 (m8.mp hz))).trans ((n9 (fun hz => h9 (m9.mp hz))).trans ((n10 (fun hz => h10 (m10.mp hz))).trans ((n11 (fun hz => h11 (m11.mp hz))).trans ((n12 (fun hz => h12 (m12.mp hz))).trans ((n13 (fun hz => h13 (m13.mp hz))).trans ((n14 (fun hz => h14 (m14.mp hz))).trans ((n15 (fun hz => h15 (m15.mp hz))).trans ((n16 (fun hz => h16 (m16.mp hz))).trans ((n17 (fun hz => h17 (m17.mp hz))).trans ((n18 (fun hz => h18 (m18.mp hz))).trans ((n19 (fun hz => h19 (m19.mp hz))).trans ((p20 (m20.mpr h20)).trans (by decide +kernel)))))))))))))))))))))
  rw [if_neg h20]
  exact (n0 (fun hz => h0 (m0.mp hz))).trans ((n1 (fun hz => h1 (m1.mp hz))).trans ((n2 (fun hz => h2 (m2.mp hz))).trans ((n3 (fun hz => h3 (m3.mp hz))).trans ((n4 (fun hz => h4 (m4.mp hz))).trans ((n5 (fun hz => h5 (m5.mp hz))).trans ((n6 (fun hz => h6 (m6.mp hz))).trans ((n7 (fun hz => h7 (m7.mp hz))).trans ((n8 (fun hz => h8 (m8.mp hz))).trans ((n9 (fun hz => h9 (m9.mp hz))).trans ((n10 (fun hz => h10 (m10.mp hz))).trans ((n11 (fun hz => h11 (m11.mp hz))).trans ((n12 (fun hz => h12 (m12.mp hz))).trans ((n13 (fun hz => h13 (m13.mp hz))).trans ((n14 (fun hz => h14 (m14.mp hz))).trans ((n15 (fun hz => h15 (m15.mp hz))).trans ((n16 (fun hz => h16 (m16.mp hz))).trans ((n17 (fun hz => h17 (m17.mp hz))).trans ((n18 (fun hz => h18 (m18.mp hz))).trans ((n19 (fun hz => h19 (m19.mp hz))).trans ((n20 (fun hz => h20 (m20.mp hz))).trans (show zq_sp 101 = 21 from by decide +kernel)))))))))))))))))))))
end
section
/-! ===== the reference's token at hand, in the same words ===== -/
theorem yw_rl_len {T : Nat → Int} {s : Nat} : ∀ (m : Nat), (yw_rl T s m).length = m
  | 0 => rfl
  | m + 1 => by
    show (yw_rl T s m).length + 1 = m + 1
    rw [yw_rl_len m]
theorem ys_run_p {P : Int → Bool} {T : Nat → Int} : ∀ (f q t : Nat), t < ys_run P T f q - q → P (T (q + t)) = true
  | 0, q, t, h => by
    have h : t < q - q := h
    omega
  | f + 1, q, t, h => by
    cases hP : P (T q) with
    | false =>
      have e : ys_run P T (f + 1) q = q := by
        show (bif P (T q) then _ else _) = _
        rw [hP]
        rfl
      omega
    | true =>
      have e : ys_run P T (f + 1) q = ys_run P T f (q + 1) := by
        show (bif P (T q) then _ else _) = _
        rw [hP]
        rfl
      cases t with
      | zero => exact hP
      | succ t =>
        have := ys_run_p (P := P) (T := T) f (q + 1) t (by omega)
        rw [show q + (t + 1) = q + 1 + t by omega]
        exact this
/-- a word's letters -/
theorem ys_let {T : Nat → Int} {n p : Nat} (h : ys_kd T n p = 3) : ∀ t, t < ys_nx T n p - ys_st T n p → 97 ≤ T (ys_st T n p + t) ∧ T (ys_st T n p + t) ≤ 122 := by
  obtain ⟨h1, h2, h3⟩ := ys_vl_w h
  have e : ys_nx T n p = ys_run ys_L T (n - ys_st T n p) (ys_st T n p) := by
    unfold ys_nx ys_es
    rw [if_neg (by omega), h2]
    rfl
  intro t ht
  rw [e] at ht
  exact of_decide_eq_true (ys_run_p _ _ t ht)
theorem yw_cls_l {R : List Nat} (h : 7 < R.length) : yw_cls R = 21 := by
  have k : ∀ (w : List Nat), w.length ≤ 7 → ¬ R = w := fun w hw h9 => by
    rw [h9] at h
    omega
  unfold yw_cls
  rw [if_neg (k _ (by decide)), if_neg (k _ (by decide)), if_neg (k _ (by decide)), if_neg (k _ (by decide)), if_neg (k _ (by decide)), if_neg (k _ (by decide)), if_neg (k _ (by decide)), if_neg (k _ (by decide)), if_neg (k _ (by decide)), if_neg (k _ (by decide)), if_neg (k _ (by decide)), if_neg (k _ (by decide)), if_neg (k _ (by decide)), if_neg (k _ (by decide)), if_neg (k _ (by decide)), if_neg (k _ (by decide)), if_neg (k _ (by decide)), if_neg (k _ (by decide)), if_neg (k _ (by decide)), if_neg (k _ (by decide)), if_neg (k _ (by decide))]
theorem yr_s_3 {k : Int} : yr_s k = 1 ↔ k = 3 := by
  unfold yr_s
  split
  · constructor <;> intro <;> omega
  · split
    · constructor <;> intro <;> omega
    · split
      · constructor <;> intro <;> omega
      · split <;> constructor <;> intro <;> omega
theorem yr_s_2 {k : Int} : yr_s k = 2 ↔ k = 2 := by
  unfold yr_s
  split
  · constructor <;> intro <;> omega
  · split
    · constructor <;> intro <;> omega
    · split
      · constructor <;> intro <;> omega
      · split <;> constructor <;> intro <;> omega
theorem yr_s_4 {k : Int} : yr_s k = 3 ↔ k = 4 := by
  unfold yr_s
  split
  · constructor <;> intro <;> omega
  · split
    · constructor <;> intro <;> omega
    · split
      · constructor <;> intro <;> omega
      · split <;> constructor <;> intro <;> omega
theorem ys_kd_c {T : Nat → Int} {n p : Nat} : ys_kd T n p = 0 ∨ ys_kd T n p = 1 ∨ ys_kd T n p = 2 ∨ ys_kd T n p = 3 ∨ ys_kd T n p = 4 := by
  unfold ys_kd ys_ks
  split
  · exact Or.inl rfl
  · cases ys_L (T (ys_st T n p)) with
    | true => exact Or.inr (Or.inr (Or.inr (Or.inl rfl)))
    | false =>
      cases ys_D (T (ys_st T n p)) with
      | true => exact Or.inr (Or.inr (Or.inl rfl))
      | false =>
        cases ys_G (T (ys_st T n p)) with
        | true => exact Or.inr (Or.inr (Or.inr (Or.inr rfl)))
        | false => exact Or.inr (Or.inl rfl)
theorem yr_s_0 {T : Nat → Int} {n p : Nat} : yr_s (ys_kd T n p) = 0 ↔ ys_kd T n p = 0 := by
  rcases ys_kd_c (T := T) (n := n) (p := p) with h | h | h | h | h <;> rw [h] <;> decide
/-- the word at hand -/
theorem yr_zg {T : Nat → Int} {n p : Nat} {H : zp_H} (hp : p ≤ n) (h : yr_k T n p H) : zg H = if ys_kd T n p = 3 then yw_m (ys_vl T n p) else -1 := by
  obtain ⟨h1, h2, h3, h4, h5, h6, h7⟩ := h
  unfold zg
  by_cases hk : ys_kd T n p = 3
  · rw [if_pos hk, (ys_vl_w hk).2.2, yw_wi (ys_nxb hp).2.1 (ys_let hk)]
    by_cases hl : 7 < ys_nx T n p - ys_st T n p
    · rw [if_pos (Or.inr (by omega)), yw_cls_l (by rw [yw_rl_len]; exact hl)]
      rfl
    · rw [if_neg (by rw [h3, yr_s_3.mpr hk]; omega), h7 hk, show min (ys_nx T n p - ys_st T n p) 7 = ys_nx T n p - ys_st T n p by omega, yw_zg (by omega) (ys_let hk), yw_rc]
  · rw [if_neg hk, if_pos (Or.inl (by rw [h3]; exact fun h9 => hk (yr_s_3.mp h9)))]
/-- a sign at hand -/
theorem ys_vl_g {T : Nat → Int} {n p : Nat} (h : ys_kd T n p = 4) : ys_vl T n p = T (ys_st T n p) ∧ ys_G (T (ys_st T n p)) = true := by
  unfold ys_kd ys_ks at h
  by_cases h1 : n ≤ ys_st T n p
  · rw [if_pos h1] at h
    omega
  · rw [if_neg h1] at h
    cases hL : ys_L (T (ys_st T n p)) with
    | true => rw [hL] at h; exact absurd (show (3 : Int) = 4 from h) (by decide)
    | false =>
      rw [hL] at h
      cases hD : ys_D (T (ys_st T n p)) with
      | true => rw [hD] at h; exact absurd (show (2 : Int) = 4 from h) (by decide)
      | false =>
        rw [hD] at h
        cases hG : ys_G (T (ys_st T n p)) with
        | true =>
          refine ⟨?_, rfl⟩
          unfold ys_vl ys_vs
          rw [hL, hD]
          rfl
        | false => rw [hG] at h; exact absurd (show (1 : Int) = 4 from h) (by decide)
theorem yr_sg {T : Nat → Int} {n p : Nat} {H : zp_H} (h : yr_k T n p H) {c : Int} : ((H.2.1 72 28).toInt = 3 ∧ (H.2.1 72 32).toInt = c) ↔ (ys_kd T n p = 4 ∧ ys_vl T n p = c) := by
  obtain ⟨h1, h2, h3, h4, h5, h6, h7⟩ := h
  rw [h3, yr_s_4]
  constructor
  · rintro ⟨a, b⟩
    obtain ⟨g1, g2⟩ := ys_vl_g a
    have g2 := of_decide_eq_true g2
    rw [h6 (by omega)] at b
    unfold ys_u at b
    rw [if_neg (by omega)] at b
    exact ⟨a, by omega⟩
  · rintro ⟨a, b⟩
    obtain ⟨g1, g2⟩ := ys_vl_g a
    have g2 := of_decide_eq_true g2
    refine ⟨a, ?_⟩
    rw [h6 (by omega)]
    unfold ys_u
    rw [if_neg (by omega)]
    omega
theorem ys_vl_n {T : Nat → Int} {n p : Nat} (h : ys_kd T n p = 2) : ys_st T n p < n ∧ ys_D (T (ys_st T n p)) = true ∧ ys_nx T n p = ys_run ys_D T (n - ys_st T n p) (ys_st T n p) ∧ ys_vl T n p = (if 4 < ys_nx T n p - ys_st T n p then 2147483647 else ys_nm T (ys_st T n p) (ys_nx T n p - ys_st T n p)) := by
  unfold ys_kd ys_ks at h
  by_cases h1 : n ≤ ys_st T n p
  · rw [if_pos h1] at h
    omega
  · rw [if_neg h1] at h
    cases hL : ys_L (T (ys_st T n p)) with
    | true => rw [hL] at h; exact absurd (show (3 : Int) = 2 from h) (by decide)
    | false =>
      rw [hL] at h
      cases hD : ys_D (T (ys_st T n p)) with
      | true =>
        refine ⟨by omega, rfl, ?_, ?_⟩
        · unfold ys_nx ys_es
          rw [if_neg h1, hL, hD]
          rfl
        · unfold ys_vl ys_vs
          rw [hL, hD]
          rfl
      | false =>
        rw [hD] at h
        cases hG : ys_G (T (ys_st T n p)) with
        | true => rw [hG] at h; exact absurd (show (4 : Int) = 2 from h) (by decide)
        | false => rw [hG] at h; exact absurd (show (1 : Int) = 2 from h) (by decide)
theorem ys_nm_b {T : Nat → Int} {s : Nat} : ∀ (m : Nat), m ≤ 4 → (∀ t, t < m → 48 ≤ T (s + t) ∧ T (s + t) ≤ 57) → 0 ≤ ys_nm T s m ∧ ys_nm T s m ≤ ys_10 m
  | 0, _, _ => ⟨Int.le_refl 0, by show (0 : Int) ≤ ys_10 0; decide⟩
  | m + 1, hm, h => (ys_10b (ys_nm_b m (by omega) (fun t ht => h t (by omega))) (by omega) (h m (by omega))).2
/-- a number at hand: its value, or it is too long -/
theorem yr_nm {T : Nat → Int} {n p : Nat} {H : zp_H} (hp : p ≤ n) (h : yr_k T n p H) (hk : ys_kd T n p = 2) : (4 < (H.2.1 72 30).toInt ∧ ys_vl T n p = 2147483647) ∨ ((H.2.1 72 30).toInt ≤ 4 ∧ (H.2.1 72 31).toInt = ys_vl T n p ∧ 0 ≤ ys_vl T n p ∧ ys_vl T n p ≤ 9999) := by
  obtain ⟨h1, h2, h3, h4, h5, h6, h7⟩ := h
  have hb := ys_nxb (T := T) hp
  obtain ⟨g1, g2, g3, g4⟩ := ys_vl_n hk
  by_cases hl : 4 < ys_nx T n p - ys_st T n p
  · rw [if_pos hl] at g4
    exact Or.inl ⟨by omega, g4⟩
  · rw [if_neg hl] at g4
    refine Or.inr ⟨by omega, ?_, ?_⟩
    · rw [h5 hk, show min (ys_nx T n p - ys_st T n p) 4 = ys_nx T n p - ys_st T n p by omega, g4]
    · rw [g4]
      have b := ys_nm_b (T := T) (s := ys_st T n p) (ys_nx T n p - ys_st T n p) (by omega) (fun t ht => by
        rw [g3] at ht
        exact of_decide_eq_true (ys_run_p _ _ t ht))
      have c : ys_10 (ys_nx T n p - ys_st T n p) ≤ 9999 := by
        have : ys_nx T n p - ys_st T n p ≤ 4 := by omega
        generalize ys_nx T n p - ys_st T n p = m at this
        match m, this with
        | 0, _ => decide
        | 1, _ => decide
        | 2, _ => decide
        | 3, _ => decide
        | 4, _ => decide
      omega
/-- where the reference stands: the text, the token, the open brackets -/
def yt (H : zp_H) : List Bool → Prop
  | [] => True
  | b :: l => (H.2.1 92 (l.length + 1)).toInt = (if b then 1 else 0) ∧ yt H l
def yV (T : Nat → Int) (n : Nat) (lv : List Bool) (p : Nat) (H : zp_H) : Prop := yr_T T n H ∧ yr_k T n p H ∧ p ≤ n ∧ (H.2.1 72 47).toInt = lv.length ∧ yt H lv
/-- where it met its fault -/
def yD (T : Nat → Int) (n : Nat) (r : Int × Nat) (H : zp_H) : Prop := yr_T T n H ∧ (H.2.1 72 23).toInt = r.1 ∧ r.1 ≠ 0 ∧ (H.2.1 72 24).toInt = ys_st T n r.2
theorem yt_c {H H1 : zp_H} (e : H1.2.1 92 = H.2.1 92) : ∀ {lv : List Bool}, yt H lv → yt H1 lv
  | [], _ => trivial
  | b :: l, h => ⟨by rw [e]; exact h.1, yt_c e h.2⟩
theorem yt_u {H H1 : zp_H} {m : Nat} (e : ∀ k, k ≤ m → H1.2.1 92 k = H.2.1 92 k) : ∀ {lv : List Bool}, lv.length ≤ m → yt H lv → yt H1 lv
  | [], _, _ => trivial
  | b :: l, hm, h => by
    have hm : l.length + 1 ≤ m := hm
    exact ⟨by rw [e _ hm]; exact h.1, yt_u e (by omega) h.2⟩
theorem yr_k_c {T : Nat → Int} {n p : Nat} {H H1 : zp_H} (e : ∀ k, (27 ≤ k ∧ k ≤ 32) → H1.2.1 72 k = H.2.1 72 k) (e2 : H1.2.2.1 72 33 = H.2.2.1 72 33) (h : yr_k T n p H) : yr_k T n p H1 := by
  unfold yr_k
  rw [e 27 (by decide), e 28 (by decide), e 29 (by decide), e 30 (by decide), e 31 (by decide), e 32 (by decide), e2]
  exact h
theorem yr_T_c {T : Nat → Int} {n : Nat} {H H1 : zp_H} (e : H1.2.1 72 26 = H.2.1 72 26) (e2 : H1.2.1 81 = H.2.1 81) (e3 : H1.2.1 72 23 = H.2.1 72 23) (e4 : H1.2.1 72 24 = H.2.1 72 24) (h : yr_T T n H) : yr_T T n H1 := by
  unfold yr_T yr_F
  rw [e, e2, e3, e4]
  exact h
/-- a frame that leaves the text, the token and the brackets alone -/
theorem yV_F {T : Nat → Int} {n p : Nat} {lv : List Bool} {mods : List (Nat × Nat)} {am : List Nat} {H H1 : zp_H} (h : yV T n lv p H) (hF : zk_Fr zg mods am H H1) (hm : ([23, 24, 26, 27, 28, 29, 30, 31, 32, 33, 47].all (fun k => ((zk_inm mods 72 k).or (zk_ina am 72)).not)) = true) (hm2 : (∀ k, zk_inm mods 81 k = false) ∧ (∀ k, zk_inm mods 92 k = false)) (ha : ((zk_ina am 81).or (zk_ina am 92)) = false) : yV T n lv p H1 := by
  have k0 : ∀ k, k ∈ [23, 24, 26, 27, 28, 29, 30, 31, 32, 33, 47] → (zk_inm mods 72 k = false ∧ zk_ina am 72 = false) := fun k hk => by
    have := List.all_eq_true.mp hm k hk
    cases h1 : zk_inm mods 72 k <;> cases h2 : zk_ina am 72 <;> rw [h1, h2] at this <;> first | exact ⟨rfl, rfl⟩ | exact absurd this (by decide)
  have kf : ∀ k, k ∈ [23, 24, 26, 27, 28, 29, 30, 31, 32, 33, 47] → Nat.beq k 100 = false → H1.2.1 72 k = H.2.1 72 k := fun k hk hk9 => Int32.toInt_inj.mp (zx_fe hF k (k0 k hk).1 (k0 k hk).2 hk9)
  obtain ⟨a1, a2⟩ : zk_ina am 81 = false ∧ zk_ina am 92 = false := by
    cases h1 : zk_ina am 81 <;> cases h2 : zk_ina am 92 <;> rw [h1, h2] at ha <;> first | exact ⟨rfl, rfl⟩ | exact absurd ha (by decide)
  obtain ⟨v1, v2, v3, v4, v5⟩ := h
  refine ⟨yr_T_c (kf 26 (by decide) rfl) (zx_ae hF 81 hm2.1 a1 rfl) (kf 23 (by decide) rfl) (kf 24 (by decide) rfl) v1, yr_k_c (fun k hk => ?_) ((hF.2 72 33 (k0 33 (by decide)).1 (k0 33 (by decide)).2).2) v2, v3, ?_, yt_c (zx_ae hF 92 hm2.2 a2 rfl) v5⟩
  · rcases (show k = 27 ∨ k = 28 ∨ k = 29 ∨ k = 30 ∨ k = 31 ∨ k = 32 by omega) with rfl | rfl | rfl | rfl | rfl | rfl
    · exact kf 27 (by decide) rfl
    · exact kf 28 (by decide) rfl
    · exact kf 29 (by decide) rfl
    · exact kf 30 (by decide) rfl
    · exact kf 31 (by decide) rfl
    · exact kf 32 (by decide) rfl
  · rw [kf 47 (by decide) rfl]
    exact v4
theorem yD_F {T : Nat → Int} {n : Nat} {r : Int × Nat} {mods : List (Nat × Nat)} {am : List Nat} {H H1 : zp_H} (h : yD T n r H) (hF : zk_Fr zg mods am H H1) (hm : ([23, 24, 26].all (fun k => ((zk_inm mods 72 k).or (zk_ina am 72)).not)) = true) (hm2 : ∀ k, zk_inm mods 81 k = false) (ha : zk_ina am 81 = false) : yD T n r H1 := by
  have k0 : ∀ k, k ∈ [23, 24, 26] → (zk_inm mods 72 k = false ∧ zk_ina am 72 = false) := fun k hk => by
    have := List.all_eq_true.mp hm k hk
    cases h1 : zk_inm mods 72 k <;> cases h2 : zk_ina am 72 <;> rw [h1, h2] at this <;> first | exact ⟨rfl, rfl⟩ | exact absurd this (by decide)
  have kf : ∀ k, k ∈ [23, 24, 26] → Nat.beq k 100 = false → H1.2.1 72 k = H.2.1 72 k := fun k hk hk9 => Int32.toInt_inj.mp (zx_fe hF k (k0 k hk).1 (k0 k hk).2 hk9)
  obtain ⟨v1, v2, v3, v4⟩ := h
  exact ⟨yr_T_c (kf 26 (by decide) rfl) (zx_ae hF 81 hm2 ha rfl) (kf 23 (by decide) rfl) (kf 24 (by decide) rfl) v1, by rw [kf 23 (by decide) rfl]; exact v2, v3, by rw [kf 24 (by decide) rfl]; exact v4⟩
theorem zR_T {H : zp_H} (h : zk_Bs zR zg zJ H) : zk_Bs zR0 zg zT H := by
  have h := zR_dn h
  exact ⟨h.1, h.2.1, h.2.2.1, h.2.2.2.1, h.2.2.2.2.1, h.2.2.2.2.2.1, h.2.2.2.2.2.2.1, trivial⟩
/-- on to the next token, exactly -/
theorem yx_goes {L : Nat} {σ : Nat → Int32} {d : Nat} {T : Nat → Int} {n p : Nat} {lv : List Bool} {H H1 : zp_H} (hb : ∀ k, k < n → -128 ≤ T k ∧ T k ≤ 127) (hB : zk_Bs zR zg zJ H) (h : yV T n lv p H) (hc : zp_Call L σ d 171 [.inr (.inr (some 73))] H (.inl none, H1)) : yV T n lv (ys_nx T n p) H1 ∧ zk_Fr zg yr_m [] H H1 := by
  obtain ⟨v1, v2, v3, v4, v5⟩ := h
  have hn := ys_nxb (T := T) v3
  obtain ⟨_, c1, H2, rfl, c2, c3, c4⟩ := yr_goes (L := L) (σ := σ) (d := d) (p := ys_nx T n p) hb ⟨zR_T hB, v1⟩ v2.2.1 hn.2.2.1
  have e := zp_Call_u hc c1
  have e : H1 = H2 := by cases e; rfl
  subst e
  refine ⟨⟨c2.2, c4, hn.2.2.1, ?_, yt_c (zx_ae c3 92 (fun k => rfl) rfl rfl) v5⟩, c3⟩
  rw [zx_fe c3 47 rfl rfl rfl]
  exact v4
/-- a fault, exactly -/
theorem yx_wrong {L : Nat} {σ : Nat → Int32} {d : Nat} {T : Nat → Int} {n p : Nat} {lv : List Bool} {H H1 : zp_H} {y : Int32} (hB : zk_Bs zR zg zJ H) (hg : (H.2.1 72 23).toInt = 0) (h : yV T n lv p H) (hy : y.toInt ≠ 0) (hc : zp_Call L σ d 180 [.inr (.inr (some 73)), .inl y] H (.inl none, H1)) : yD T n (y.toInt, p) H1 := by
  have e := zp_Call_u hc (zq_wrong0 (d := 0) (zR_Wd (zR_dn hB)) hg)
  have e : H1 = zw_I (zw_I H 72 23 y) 72 24 (H.2.1 72 29) := by cases e; rfl
  subst e
  refine ⟨yr_T_w h.1 hy, congrArg Int32.toInt (zw_ne zw_eq rfl), hy, ?_⟩
  exact (congrArg Int32.toInt zw_eq).trans h.2.1.1
end
section
/-! ===== the reference reads a part, exactly ===== -/

theorem yx_deeper {L : Nat} {σ : Nat → Int32} {d a : Nat} {T : Nat → Int} {n p : Nat} {lv : List Bool} {H : zp_H} (hby : ∀ k, k < n → -128 ≤ T k ∧ T k ≤ 127) {e : Nat} (h : zx_S a e 1 H) (hg : (H.2.1 72 23).toInt = 0) (hV : yV T n lv p H) : ∃ X, zp_Call L σ (d + 3) 193 [.inr (.inr (some 73))] H X ∧ ∃ H1, X = (.inl none, H1) ∧ zx_S a e 0 H1 ∧ zx_F a H H1 ∧ zx_phi H1 = zx_phi H ∧ (H1.2.1 72 45).toInt = (H.2.1 72 45).toInt ∧ (((H1.2.1 72 23).toInt = 0 ∧ lv.length < 6 ∧ yV T n (false :: lv) p H1) ∨ (¬ lv.length < 6 ∧ yD T n (if yB T n p then 2 else 1, p) H1)) := by
  have W := zR_Wd (zR_dn h.1)
  have hd := zR_fr1 (zR_dn h.1) (k := 47) (r := (0, 6)) rfl rfl
  have hd : 0 ≤ (H.2.1 72 47).toInt ∧ (H.2.1 72 47).toInt ≤ 6 := hd
  have hdl := hV.2.2.2.1
  have e1 : (H.2.1 72 47 + Int32.ofInt 1).toInt = (H.2.1 72 47).toInt + 1 := zw_p1 (by omega)
  have s28 := hV.2.1.2.2.1
  refine zw_met zm_193_t rfl rfl ?_
  refine zw_ld (n := 1) (k := 0) (f := zp_isR) (pc' := 1) rfl rfl rfl rfl rfl ?_
  refine zw_gI (q := 72) (pc' := 4) W rfl rfl rfl rfl rfl rfl ?_
  refine zw_s (pc' := 6) rfl rfl ?_
  refine zw_bge2 (g := 30) (pc' := 9) rfl rfl rfl rfl (rfl : _ = (6 : Int)) (fun hb => ?_) (fun hb => ?_)
  · refine zw_ld (n := 1) (k := 0) (f := zp_isR) (pc' := 31) rfl rfl rfl rfl rfl ?_
    refine zw_ld (n := 1) (k := 0) (f := zp_isR) (pc' := 32) rfl rfl rfl rfl rfl ?_
    refine zw_gI (q := 72) (pc' := 35) W rfl rfl rfl rfl rfl rfl ?_
    refine zw_s (pc' := 36) rfl rfl ?_
    refine zw_beq2 (g := 56) (pc' := 39) rfl rfl rfl rfl (rfl : _ = (2 : Int)) (fun h1 => ?_) (fun h1 => ?_)
    · refine zw_s (pc' := 57) rfl rfl ?_
      refine zw_s (pc' := 61) rfl rfl ?_
      obtain ⟨H1, c1, c2, c3, c4, c5, c6, c7⟩ := zx_wrong (L := L) (σ := σ) (d := d + 1) (y := Int32.ofInt 2) h (by decide)
      refine zw_cn (pc' := 64) (zw_cv (q := 72) (Y := zm_180) W.1 rfl rfl zm_180_t rfl rfl) rfl rfl rfl rfl rfl (c1) ?_
      refine zw_rn rfl rfl ?_
      have hw := yx_wrong h.1 hg hV (by decide) c1
      exact ⟨H1, rfl, c3 _ _, c4, c7, c5, Or.inr ⟨by omega, by rw [if_pos (show yB T n p from Or.inl (yr_s_2.mp (s28.symm.trans h1)))]; exact hw⟩⟩
    · refine zw_ld (n := 1) (k := 0) (f := zp_isR) (pc' := 40) rfl rfl rfl rfl rfl ?_
      refine zw_gI (q := 72) (pc' := 43) W rfl rfl rfl rfl rfl rfl ?_
      refine zw_s (pc' := 44) rfl rfl ?_
      refine zw_beq2 (g := 56) (pc' := 47) rfl rfl rfl rfl (rfl : _ = (1 : Int)) (fun h2 => ?_) (fun h2 => ?_)
      · refine zw_s (pc' := 57) rfl rfl ?_
        refine zw_s (pc' := 61) rfl rfl ?_
        obtain ⟨H1, c1, c2, c3, c4, c5, c6, c7⟩ := zx_wrong (L := L) (σ := σ) (d := d + 1) (y := Int32.ofInt 2) h (by decide)
        refine zw_cn (pc' := 64) (zw_cv (q := 72) (Y := zm_180) W.1 rfl rfl zm_180_t rfl rfl) rfl rfl rfl rfl rfl (c1) ?_
        refine zw_rn rfl rfl ?_
        have hw := yx_wrong h.1 hg hV (by decide) c1
        exact ⟨H1, rfl, c3 _ _, c4, c7, c5, Or.inr ⟨by omega, by rw [if_pos (show yB T n p from Or.inr (Or.inl (yr_s_3.mp (s28.symm.trans h2))))]; exact hw⟩⟩
      · refine zw_ld (n := 1) (k := 0) (f := zp_isR) (pc' := 48) rfl rfl rfl rfl rfl ?_
        refine zw_s (pc' := 50) rfl rfl ?_
        by_cases h3 : (H.2.1 72 28).toInt = 3 ∧ (H.2.1 72 32).toInt = (Int32.ofInt 40).toInt
        · refine zw_c (pc' := 53) (zw_cv (q := 72) (Y := zm_194) W.1 rfl rfl zm_194_t rfl rfl) rfl rfl rfl rfl rfl (zq_sign1 W h3) ?_
          refine zw_beq1 (g := 60) (pc' := 56) rfl rfl rfl (rfl : _ = (1 : Int)) (fun h9 => absurd h9 (by decide)) (fun hb => ?_)
          refine zw_s (pc' := 57) rfl rfl ?_
          refine zw_s (pc' := 61) rfl rfl ?_
          obtain ⟨H1, c1, c2, c3, c4, c5, c6, c7⟩ := zx_wrong (L := L) (σ := σ) (d := d + 1) (y := Int32.ofInt 2) h (by decide)
          refine zw_cn (pc' := 64) (zw_cv (q := 72) (Y := zm_180) W.1 rfl rfl zm_180_t rfl rfl) rfl rfl rfl rfl rfl (c1) ?_
          refine zw_rn rfl rfl ?_
          have hw := yx_wrong h.1 hg hV (by decide) c1
          exact ⟨H1, rfl, c3 _ _, c4, c7, c5, Or.inr ⟨by omega, by rw [if_pos (show yB T n p from Or.inr (Or.inr ((yr_sg hV.2.1 (c := 40)).mp h3)))]; exact hw⟩⟩
        · refine zw_c (pc' := 53) (zw_cv (q := 72) (Y := zm_194) W.1 rfl rfl zm_194_t rfl rfl) rfl rfl rfl rfl rfl (zq_sign0 W h3) ?_
          refine zw_beq1 (g := 60) (pc' := 56) rfl rfl rfl (rfl : _ = (0 : Int)) (fun hb => ?_) (fun h9 => absurd h9 (by decide))
          refine zw_s (pc' := 61) rfl rfl ?_
          have hnB : ¬ yB T n p := by
            rintro (h9 | h9 | h9)
            · exact h1 (s28.trans (yr_s_2.mpr h9))
            · exact h2 (s28.trans (yr_s_3.mpr h9))
            · exact h3 ((yr_sg hV.2.1 (c := 40)).mpr h9)
          obtain ⟨H1, c1, c2, c3, c4, c5, c6, c7⟩ := zx_wrong (L := L) (σ := σ) (d := d + 1) (y := Int32.ofInt 1) h (by decide)
          refine zw_cn (pc' := 64) (zw_cv (q := 72) (Y := zm_180) W.1 rfl rfl zm_180_t rfl rfl) rfl rfl rfl rfl rfl (c1) ?_
          refine zw_rn rfl rfl ?_
          have hw := yx_wrong h.1 hg hV (by decide) c1
          exact ⟨H1, rfl, c3 _ _, c4, c7, c5, Or.inr ⟨by omega, by rw [if_neg hnB]; exact hw⟩⟩
  · refine zw_ld (n := 1) (k := 0) (f := zp_isR) (pc' := 10) rfl rfl rfl rfl rfl ?_
    refine zw_s (pc' := 11) rfl rfl ?_
    refine zw_gI (q := 72) (pc' := 14) W rfl rfl rfl rfl rfl rfl ?_
    refine zw_s (pc' := 15) rfl rfl ?_
    refine zw_iadd (pc' := 16) rfl rfl ?_
    refine zw_pI (q := 72) (pc' := 19) W rfl rfl rfl rfl rfl rfl ?_
    refine zw_ld (n := 1) (k := 0) (f := zp_isR) (pc' := 20) rfl rfl rfl rfl rfl ?_
    refine zw_gR (q := 72) (pc' := 23) W rfl rfl rfl rfl (W.2 72 61 _ rfl) rfl ?_
    refine zw_ld (n := 1) (k := 0) (f := zp_isR) (pc' := 24) rfl rfl rfl rfl rfl ?_
    refine zw_gI (q := 72) (pc' := 27) W rfl rfl rfl rfl zw_eq rfl ?_
    refine zw_s (pc' := 28) rfl rfl ?_
    refine zw_bs (q := 92) (pc' := 29) W rfl rfl (by decide) (⟨by rw [e1]; omega, by rw [e1]; omega⟩) rfl ?_
    refine zw_rn rfl rfl ?_
    refine ⟨_, rfl, zx_deep h (by omega), ⟨zk_Fr_I (zk_Fr_I (zk_Fr_r H) rfl rfl) rfl rfl, fun i hi => zw_ne (zw_ne rfl rfl) rfl⟩, zx_phi_e (zw_ne (zw_ne rfl rfl) rfl) (zw_ne (zw_ne rfl rfl) rfl), congrArg Int32.toInt (zw_ne (zw_ne rfl rfl) rfl), Or.inl ⟨?_, by omega, ?_⟩⟩
    · exact (congrArg Int32.toInt (zw_ne (zw_ne rfl rfl) rfl)).trans hg
    · have ej : (H.2.1 72 47 + Int32.ofInt 1).toInt.toNat = lv.length + 1 := by omega
      rw [ej]
      refine ⟨yr_T_I (yr_T_I hV.1 rfl) rfl, yr_k_c (fun k hk => zw_ne (zw_ne rfl ?_) rfl) rfl hV.2.1, hV.2.2.1, ?_, ?_, ?_⟩
      · rcases (show k = 27 ∨ k = 28 ∨ k = 29 ∨ k = 30 ∨ k = 31 ∨ k = 32 by omega) with rfl | rfl | rfl | rfl | rfl | rfl <;> rfl
      · refine (congrArg Int32.toInt (zw_ne zw_eq rfl)).trans ?_
        rw [e1, List.length_cons]
        omega
      · exact (congrArg Int32.toInt zw_eq).trans (by decide)
      · refine yt_u (m := lv.length) (fun k hk => zw_ne (zw_ne rfl rfl) ?_) (Nat.le_refl _) hV.2.2.2.2
        have hkk : Nat.beq k (lv.length + 1) = false := by
          cases h9 : Nat.beq k (lv.length + 1) with
          | false => rfl
          | true => exact absurd (Nat.eq_of_beq_eq_true h9) (by omega)
        rw [hkk]
        rfl

theorem yV_pt {T : Nat → Int} {n p : Nat} {lv : List Bool} {H : zp_H} {c : Int32} (h : yV T n lv p H) : yV T n lv p (zx_pt H c) := by
  refine ⟨yr_T_c (zx_pt_f 26 rfl) ?_ (zx_pt_f 23 rfl) (zx_pt_f 24 rfl) h.1, yr_k_c (fun k hk => zx_pt_f k ?_) rfl h.2.1, h.2.2.1, ?_, yt_c ?_ h.2.2.2.2⟩
  · funext i
    exact zw_ne (zw_ne rfl rfl) rfl
  · rcases (show k = 27 ∨ k = 28 ∨ k = 29 ∨ k = 30 ∨ k = 31 ∨ k = 32 by omega) with rfl | rfl | rfl | rfl | rfl | rfl <;> rfl
  · rw [zx_pt_f 47 rfl]
    exact h.2.2.2.1
  · funext i
    exact zw_ne (zw_ne rfl rfl) rfl
theorem yD_pt {T : Nat → Int} {n : Nat} {r : Int × Nat} {H : zp_H} {c : Int32} (h : yD T n r H) : yD T n r (zx_pt H c) := by
  refine ⟨yr_T_c (zx_pt_f 26 rfl) ?_ (zx_pt_f 23 rfl) (zx_pt_f 24 rfl) h.1, ?_, h.2.2.1, ?_⟩
  · funext i
    exact zw_ne (zw_ne rfl rfl) rfl
  · rw [zx_pt_f 23 rfl]
    exact h.2.1
  · rw [zx_pt_f 24 rfl]
    exact h.2.2.2
/-- behind something that reads from s on -/
def yO (T : Nat → Int) (n : Nat) (s : yM) (H1 : zp_H) : Prop := ((H1.2.1 72 23).toInt = 0 ∧ ∃ lv' q, lv' ≠ [] ∧ yV T n lv' q H1 ∧ yR T n s (0, lv', q)) ∨ (∃ r, yD T n r H1 ∧ yA T n s r)
theorem yO_R {T : Nat → Int} {n : Nat} {s s' : yM} {H1 : zp_H} (hR : yR T n s s') (h : yO T n s' H1) : yO T n s H1 := by
  rcases h with ⟨h1, lv', q, h2, h3, h4⟩ | ⟨r, h1, h2⟩
  · exact Or.inl ⟨h1, lv', q, h2, h3, yR_t hR h4⟩
  · exact Or.inr ⟨r, h1, hR r h2⟩

theorem yw_m8 {v : Int} (h : 0 ≤ v ∧ v ≤ 21) : (v < 8 ∧ yw_m v = v) ∨ (8 ≤ v ∧ (yw_m v = -1 ∨ 8 ≤ yw_m v)) := by
  obtain ⟨j, hj, rfl⟩ : ∃ j : Nat, j < 22 ∧ v = (j : Int) := ⟨v.toNat, by omega, by omega⟩
  revert j
  decide
theorem yx_part {L : Nat} {σ : Nat → Int32} {d a : Nat} {T : Nat → Int} {n p : Nat} {lv : List Bool} {H : zp_H} (hby : ∀ k, k < n → -128 ≤ T k ∧ T k ≤ 127) (hK : zx_KW L σ) (h : zx_S a 0 0 H) (ha : (a : Int) ≤ (H.2.1 72 45).toInt) (hg : (H.2.1 72 23).toInt = 0) (hV : yV T n lv p H) (hlv : lv ≠ []) (h40 : ¬ (ys_kd T n p = 4 ∧ ys_vl T n p = 40)) : ∃ X, zp_Call L σ (d + 5) 197 [.inr (.inr (some 73))] H X ∧ ∃ H1, X = (.inl none, H1) ∧ zx_S a 1 0 H1 ∧ zx_F a H H1 ∧ ((H1.2.1 72 23).toInt = 0 → zx_phi H + 2 ≤ zx_phi H1) ∧ (a : Int) ≤ (H1.2.1 72 45).toInt ∧ zx_phi H ≤ zx_phi H1 ∧ yO T n (1, lv, p) H1 := by
  have W := zR_Wd (zR_dn h.1)
  obtain ⟨t0, w0⟩ := zx_top h
  have p1 := zx_phi_le h.1
  have s28 := hV.2.1.2.2.1
  refine zw_met zm_197_t rfl rfl ?_
  refine zw_ld (n := 1) (k := 0) (f := zp_isR) (pc' := 1) rfl rfl rfl rfl rfl ?_
  refine zw_c (pc' := 4) (zw_cv (q := 72) (Y := zm_175) W.1 rfl rfl zm_175_t rfl rfl) rfl rfl rfl rfl rfl (zq_good1 W hg) ?_
  have g1 := (h.2.2.2 hg).1
  refine zw_bne1 (g := 8) (pc' := 7) rfl rfl rfl (rfl : _ = (1 : Int)) (fun hb => ?_) (fun h9 => absurd h9 (by decide))
  refine zw_ld (n := 1) (k := 0) (f := zp_isR) (pc' := 9) rfl rfl rfl rfl rfl ?_
  refine zw_gI (q := 72) (pc' := 12) W rfl rfl rfl rfl rfl rfl ?_
  refine zw_s (pc' := 13) rfl rfl ?_
  refine zw_bne2 (g := 45) (pc' := 16) rfl rfl rfl rfl (rfl : _ = (2 : Int)) (fun h1 => ?_) (fun h1 => ?_)
  · refine zw_ld (n := 1) (k := 0) (f := zp_isR) (pc' := 46) rfl rfl rfl rfl rfl ?_
    refine zw_gI (q := 72) (pc' := 49) W rfl rfl rfl rfl rfl rfl ?_
    refine zw_s (pc' := 50) rfl rfl ?_
    refine zw_bne2 (g := 86) (pc' := 53) rfl rfl rfl rfl (rfl : _ = (1 : Int)) (fun h2 => ?_) (fun h2 => ?_)
    · obtain ⟨K, c1, c2, c3, c4, c5, c6, c7⟩ := zx_wrong (L := L) (σ := σ) (d := d + 3) (y := Int32.ofInt 1) h (by decide)
      have WK := zR_Wd (zR_dn (c3 0 0).1)
      have hw := yx_wrong h.1 hg hV (by decide) c1
      have hN := yN_un (T := T) (n := n) (p := p) (lv := lv) h40 (fun h9 => h1 (s28.trans (yr_s_2.mpr h9))) (fun h9 => h2 (s28.trans (yr_s_3.mpr h9)))
      refine zw_ld (n := 1) (k := 0) (f := zp_isR) (pc' := 87) rfl rfl rfl rfl rfl ?_
      refine zw_s (pc' := 88) rfl rfl ?_
      refine zw_cn (pc' := 91) (zw_cv (q := 72) (Y := zm_180) W.1 rfl rfl zm_180_t rfl rfl) rfl rfl rfl rfl rfl (c1) ?_
      refine zw_ld (n := 1) (k := 0) (f := zp_isR) (pc' := 92) rfl rfl rfl rfl rfl ?_
      refine zw_c (pc' := 95) (zw_cv (q := 72) (Y := zm_175) WK.1 rfl rfl zm_175_t rfl rfl) rfl rfl rfl rfl rfl (zq_good0 (H := K) WK c2) ?_
      refine zw_beq1 (g := 102) (pc' := 98) rfl rfl rfl (rfl : _ = (0 : Int)) (fun hb => ?_) (fun h9 => absurd h9 (by decide))
      refine zw_rn rfl rfl ?_
      exact ⟨K, rfl, c3 1 0, c4, fun h9 => absurd h9 c2, by omega, by omega, Or.inr ⟨_, hw, yA_done hN⟩⟩
    · refine zw_ld (n := 1) (k := 0) (f := zp_isR) (pc' := 54) rfl rfl rfl rfl rfl ?_
      obtain ⟨v, v1, v2⟩ := hK d H h.1
      have v3 := zg_in H
      have v3 : -1 ≤ zg H ∧ zg H ≤ 20 := v3
      have k3 : ys_kd T n p = 3 := yr_s_3.mp (s28.symm.trans h2)
      have hN := yN_wo (T := T) (n := n) (p := p) (lv := lv) k3
      have hz := yr_zg hV.2.2.1 hV.2.1
      rw [if_pos k3] at hz
      have hvb := ys_vl_b k3
      have hm := yw_m8 hvb
      refine zw_c (pc' := 57) (zw_cv (q := 72) (Y := zm_177) W.1 rfl rfl zm_177_t rfl rfl) rfl rfl rfl rfl rfl (v1) ?_
      refine zw_st (n := 1) (k := 1) (f := zp_isI) (pc' := 58) rfl rfl rfl rfl rfl ?_
      refine zw_ld (n := 1) (k := 1) (f := zp_isI) (pc' := 59) rfl rfl zw_g1 rfl rfl ?_
      refine zw_blt1 (g := 68) (pc' := 62) rfl rfl rfl rfl (fun h3 => ?_) (fun h3 => ?_)
      · rw [if_neg (by omega)] at hN
        refine zw_ld (n := 1) (k := 0) (f := zp_isR) (pc' := 69) rfl rfl (zw_gt rfl rfl rfl) rfl rfl ?_
        refine zw_s (pc' := 70) rfl rfl ?_
        obtain ⟨K, c1, c2, c3, c4, c5, c6, c7⟩ := zx_wrong (L := L) (σ := σ) (d := d + 3) (y := Int32.ofInt 3) h (by decide)
        have WK := zR_Wd (zR_dn (c3 0 0).1)
        obtain ⟨u0, u1⟩ := zx_top (c3 0 0)
        have hw := yx_wrong h.1 hg hV (by decide) c1
        refine zw_cn (pc' := 73) (zw_cv (q := 72) (Y := zm_180) W.1 rfl rfl zm_180_t rfl rfl) rfl rfl rfl rfl rfl (c1) ?_
        refine zw_ld (n := 1) (k := 0) (f := zp_isR) (pc' := 74) rfl rfl (zw_gt rfl rfl rfl) rfl rfl ?_
        refine zw_s (pc' := 75) rfl rfl ?_
        refine zw_cn (pc' := 78) (zw_cv (q := 72) (Y := zm_198) WK.1 rfl rfl zm_198_t rfl rfl) rfl rfl rfl rfl rfl (zq_puts (H := K) WK ⟨u0, by show _ < ((1600 : Nat) : Int); omega⟩) ?_
        have e1 : ((zx_pt K (Int32.ofInt 2)).2.1 72 45).toInt = (K.2.1 72 45).toInt + 1 := zx_pt_t (by omega)
        refine zw_ld (n := 1) (k := 0) (f := zp_isR) (pc' := 79) rfl rfl (zw_gt rfl rfl rfl) rfl rfl ?_
        refine zw_ld (n := 1) (k := 1) (f := zp_isI) (pc' := 80) rfl rfl zw_g1 rfl rfl ?_
        refine zw_cn (pc' := 83) (zw_cv (q := 72) (Y := zm_198) WK.1 rfl rfl zm_198_t rfl rfl) rfl rfl rfl rfl rfl (zq_puts (H := zx_pt K (Int32.ofInt 2)) WK ⟨by omega, by show _ < ((1600 : Nat) : Int); omega⟩) ?_
        have hS : ∀ e o, zx_S a e o (zx_pt (zx_pt K (Int32.ofInt 2)) (v)) := fun e o => zx_pp_b (c3 0 0) c2 (by omega)
        have hb9 : ((zx_pt (zx_pt K (Int32.ofInt 2)) (v)).2.1 72 23).toInt ≠ 0 := by rw [zx_pt_f 23 rfl, zx_pt_f 23 rfl]; exact c2
        refine zw_s (pc' := 91) rfl rfl ?_
        refine zw_ld (n := 1) (k := 0) (f := zp_isR) (pc' := 92) rfl rfl (zw_gt rfl rfl rfl) rfl rfl ?_
        refine zw_c (pc' := 95) (zw_cv (q := 72) (Y := zm_175) WK.1 rfl rfl zm_175_t rfl rfl) rfl rfl rfl rfl rfl (zq_good0 (H := zx_pt (zx_pt K (Int32.ofInt 2)) (v)) WK hb9) ?_
        refine zw_beq1 (g := 102) (pc' := 98) rfl rfl rfl (rfl : _ = (0 : Int)) (fun hb => ?_) (fun h9 => absurd h9 (by decide))
        refine zw_rn rfl rfl ?_
        have hp : zx_phi (zx_pt (zx_pt K (Int32.ofInt 2)) (v)) = zx_phi K := by
          unfold zx_phi
          rw [zx_pt_f 27 rfl, zx_pt_f 28 rfl, zx_pt_f 27 rfl, zx_pt_f 28 rfl]
        have e2 : ((zx_pt (zx_pt K (Int32.ofInt 2)) (v)).2.1 72 45).toInt = ((zx_pt K (Int32.ofInt 2)).2.1 72 45).toInt + 1 := zx_pt_t (by omega)
        exact ⟨_, rfl, hS 1 0, zx_F_t c4 (zx_F_t (zx_pt_F (by omega)) (zx_pt_F (by omega))), fun h9 => absurd h9 hb9, by omega, by omega, Or.inr ⟨_, yD_pt (yD_pt hw), yA_done (hN)⟩⟩
      · refine zw_ld (n := 1) (k := 1) (f := zp_isI) (pc' := 63) rfl rfl zw_g1 rfl rfl ?_
        refine zw_s (pc' := 65) rfl rfl ?_
        refine zw_ble2 (g := 73) (pc' := 68) rfl rfl rfl rfl (rfl : _ = (7 : Int)) (fun h4 => ?_) (fun h4 => ?_)
        · rw [if_pos (by omega)] at hN
          refine zw_ld (n := 1) (k := 0) (f := zp_isR) (pc' := 74) rfl rfl (zw_gt rfl rfl rfl) rfl rfl ?_
          refine zw_s (pc' := 75) rfl rfl ?_
          refine zw_cn (pc' := 78) (zw_cv (q := 72) (Y := zm_198) W.1 rfl rfl zm_198_t rfl rfl) rfl rfl rfl rfl rfl (zq_puts (H := H) W ⟨t0, by show _ < ((1600 : Nat) : Int); omega⟩) ?_
          have e1 : ((zx_pt H (Int32.ofInt 2)).2.1 72 45).toInt = (H.2.1 72 45).toInt + 1 := zx_pt_t (by omega)
          refine zw_ld (n := 1) (k := 0) (f := zp_isR) (pc' := 79) rfl rfl (zw_gt rfl rfl rfl) rfl rfl ?_
          refine zw_ld (n := 1) (k := 1) (f := zp_isI) (pc' := 80) rfl rfl zw_g1 rfl rfl ?_
          refine zw_cn (pc' := 83) (zw_cv (q := 72) (Y := zm_198) W.1 rfl rfl zm_198_t rfl rfl) rfl rfl rfl rfl rfl (zq_puts (H := zx_pt H (Int32.ofInt 2)) W ⟨by omega, by show _ < ((1600 : Nat) : Int); omega⟩) ?_
          have hT := zx_pp (c := Int32.ofInt 2) (y := v) h hg (by omega) (by decide)
          refine zw_s (pc' := 91) rfl rfl ?_
          refine zw_ld (n := 1) (k := 0) (f := zp_isR) (pc' := 92) rfl rfl (zw_gt rfl rfl rfl) rfl rfl ?_
          refine zw_c (pc' := 95) (zw_cv (q := 72) (Y := zm_175) W.1 rfl rfl zm_175_t rfl rfl) rfl rfl rfl rfl rfl (zq_good1 (H := zx_pt (zx_pt H (Int32.ofInt 2)) (v)) W hT.2.1) ?_
          refine zw_beq1 (g := 102) (pc' := 98) rfl rfl rfl (rfl : _ = (1 : Int)) (fun h9 => absurd h9 (by decide)) (fun hb => ?_)
          obtain ⟨H1, c1, c2, c3, c4, c5, c6⟩ := zx_T_goes (L := L) (σ := σ) (d := d + 2) hT
          refine zw_ld (n := 1) (k := 0) (f := zp_isR) (pc' := 99) rfl rfl (zw_gt rfl rfl rfl) rfl rfl ?_
          refine zw_cn (pc' := 102) (zw_cv (q := 72) (Y := zm_171) W.1 rfl rfl zm_171_t rfl rfl) rfl rfl rfl rfl rfl (c1) ?_
          refine zw_rn rfl rfl ?_
          have hp : zx_phi (zx_pt (zx_pt H (Int32.ofInt 2)) (v)) = zx_phi H := by
            unfold zx_phi
            rw [zx_pt_f 27 rfl, zx_pt_f 28 rfl, zx_pt_f 27 rfl, zx_pt_f 28 rfl]
          have e2 : ((zx_pt (zx_pt H (Int32.ofInt 2)) (v)).2.1 72 45).toInt = ((zx_pt H (Int32.ofInt 2)).2.1 72 45).toInt + 1 := zx_pt_t (by omega)
          have hgo := (yx_goes hby hT.1 (yV_pt (yV_pt hV)) c1).1
          exact ⟨H1, rfl, c2, zx_F_t (zx_F_t (zx_pt_F ha) (zx_pt_F (by omega))) c3, fun _ => by omega, by omega, by omega, Or.inl ⟨c4, lv, _, hlv, hgo, yR_s (hN)⟩⟩
        · rw [if_neg (by omega)] at hN
          refine zw_ld (n := 1) (k := 0) (f := zp_isR) (pc' := 69) rfl rfl (zw_gt rfl rfl rfl) rfl rfl ?_
          refine zw_s (pc' := 70) rfl rfl ?_
          obtain ⟨K, c1, c2, c3, c4, c5, c6, c7⟩ := zx_wrong (L := L) (σ := σ) (d := d + 3) (y := Int32.ofInt 3) h (by decide)
          have WK := zR_Wd (zR_dn (c3 0 0).1)
          obtain ⟨u0, u1⟩ := zx_top (c3 0 0)
          have hw := yx_wrong h.1 hg hV (by decide) c1
          refine zw_cn (pc' := 73) (zw_cv (q := 72) (Y := zm_180) W.1 rfl rfl zm_180_t rfl rfl) rfl rfl rfl rfl rfl (c1) ?_
          refine zw_ld (n := 1) (k := 0) (f := zp_isR) (pc' := 74) rfl rfl (zw_gt rfl rfl rfl) rfl rfl ?_
          refine zw_s (pc' := 75) rfl rfl ?_
          refine zw_cn (pc' := 78) (zw_cv (q := 72) (Y := zm_198) WK.1 rfl rfl zm_198_t rfl rfl) rfl rfl rfl rfl rfl (zq_puts (H := K) WK ⟨u0, by show _ < ((1600 : Nat) : Int); omega⟩) ?_
          have e1 : ((zx_pt K (Int32.ofInt 2)).2.1 72 45).toInt = (K.2.1 72 45).toInt + 1 := zx_pt_t (by omega)
          refine zw_ld (n := 1) (k := 0) (f := zp_isR) (pc' := 79) rfl rfl (zw_gt rfl rfl rfl) rfl rfl ?_
          refine zw_ld (n := 1) (k := 1) (f := zp_isI) (pc' := 80) rfl rfl zw_g1 rfl rfl ?_
          refine zw_cn (pc' := 83) (zw_cv (q := 72) (Y := zm_198) WK.1 rfl rfl zm_198_t rfl rfl) rfl rfl rfl rfl rfl (zq_puts (H := zx_pt K (Int32.ofInt 2)) WK ⟨by omega, by show _ < ((1600 : Nat) : Int); omega⟩) ?_
          have hS : ∀ e o, zx_S a e o (zx_pt (zx_pt K (Int32.ofInt 2)) (v)) := fun e o => zx_pp_b (c3 0 0) c2 (by omega)
          have hb9 : ((zx_pt (zx_pt K (Int32.ofInt 2)) (v)).2.1 72 23).toInt ≠ 0 := by rw [zx_pt_f 23 rfl, zx_pt_f 23 rfl]; exact c2
          refine zw_s (pc' := 91) rfl rfl ?_
          refine zw_ld (n := 1) (k := 0) (f := zp_isR) (pc' := 92) rfl rfl (zw_gt rfl rfl rfl) rfl rfl ?_
          refine zw_c (pc' := 95) (zw_cv (q := 72) (Y := zm_175) WK.1 rfl rfl zm_175_t rfl rfl) rfl rfl rfl rfl rfl (zq_good0 (H := zx_pt (zx_pt K (Int32.ofInt 2)) (v)) WK hb9) ?_
          refine zw_beq1 (g := 102) (pc' := 98) rfl rfl rfl (rfl : _ = (0 : Int)) (fun hb => ?_) (fun h9 => absurd h9 (by decide))
          refine zw_rn rfl rfl ?_
          have hp : zx_phi (zx_pt (zx_pt K (Int32.ofInt 2)) (v)) = zx_phi K := by
            unfold zx_phi
            rw [zx_pt_f 27 rfl, zx_pt_f 28 rfl, zx_pt_f 27 rfl, zx_pt_f 28 rfl]
          have e2 : ((zx_pt (zx_pt K (Int32.ofInt 2)) (v)).2.1 72 45).toInt = ((zx_pt K (Int32.ofInt 2)).2.1 72 45).toInt + 1 := zx_pt_t (by omega)
          exact ⟨_, rfl, hS 1 0, zx_F_t c4 (zx_F_t (zx_pt_F (by omega)) (zx_pt_F (by omega))), fun h9 => absurd h9 hb9, by omega, by omega, Or.inr ⟨_, yD_pt (yD_pt hw), yA_done (hN)⟩⟩
  · have k2 : ys_kd T n p = 2 := yr_s_2.mp (s28.symm.trans h1)
    have hN := yN_nu (T := T) (n := n) (p := p) (lv := lv) k2
    have hnm := yr_nm hV.2.2.1 hV.2.1 k2
    refine zw_ld (n := 1) (k := 0) (f := zp_isR) (pc' := 17) rfl rfl rfl rfl rfl ?_
    refine zw_gI (q := 72) (pc' := 20) W rfl rfl rfl rfl rfl rfl ?_
    refine zw_s (pc' := 21) rfl rfl ?_
    refine zw_ble2 (g := 29) (pc' := 24) rfl rfl rfl rfl (rfl : _ = (4 : Int)) (fun h2 => ?_) (fun h2 => ?_)
    · rw [if_neg (by omega)] at hN
      refine zw_ld (n := 1) (k := 0) (f := zp_isR) (pc' := 30) rfl rfl rfl rfl rfl ?_
      refine zw_s (pc' := 31) rfl rfl ?_
      refine zw_cn (pc' := 34) (zw_cv (q := 72) (Y := zm_198) W.1 rfl rfl zm_198_t rfl rfl) rfl rfl rfl rfl rfl (zq_puts (H := H) W ⟨t0, by show _ < ((1600 : Nat) : Int); omega⟩) ?_
      have e1 : ((zx_pt H (Int32.ofInt 1)).2.1 72 45).toInt = (H.2.1 72 45).toInt + 1 := zx_pt_t (by omega)
      refine zw_ld (n := 1) (k := 0) (f := zp_isR) (pc' := 35) rfl rfl rfl rfl rfl ?_
      refine zw_ld (n := 1) (k := 0) (f := zp_isR) (pc' := 36) rfl rfl rfl rfl rfl ?_
      refine zw_gI (q := 72) (pc' := 39) W rfl rfl rfl rfl rfl rfl ?_
      refine zw_cn (pc' := 42) (zw_cv (q := 72) (Y := zm_198) W.1 rfl rfl zm_198_t rfl rfl) rfl rfl rfl rfl rfl (zq_puts (H := zx_pt H (Int32.ofInt 1)) W ⟨by omega, by show _ < ((1600 : Nat) : Int); omega⟩) ?_
      have hT := zx_pp (c := Int32.ofInt 1) (y := H.2.1 72 31) h hg (by omega) (by decide)
      refine zw_s (pc' := 91) rfl rfl ?_
      refine zw_ld (n := 1) (k := 0) (f := zp_isR) (pc' := 92) rfl rfl rfl rfl rfl ?_
      refine zw_c (pc' := 95) (zw_cv (q := 72) (Y := zm_175) W.1 rfl rfl zm_175_t rfl rfl) rfl rfl rfl rfl rfl (zq_good1 (H := zx_pt (zx_pt H (Int32.ofInt 1)) (H.2.1 72 31)) W hT.2.1) ?_
      refine zw_beq1 (g := 102) (pc' := 98) rfl rfl rfl (rfl : _ = (1 : Int)) (fun h9 => absurd h9 (by decide)) (fun hb => ?_)
      obtain ⟨H1, c1, c2, c3, c4, c5, c6⟩ := zx_T_goes (L := L) (σ := σ) (d := d + 2) hT
      refine zw_ld (n := 1) (k := 0) (f := zp_isR) (pc' := 99) rfl rfl rfl rfl rfl ?_
      refine zw_cn (pc' := 102) (zw_cv (q := 72) (Y := zm_171) W.1 rfl rfl zm_171_t rfl rfl) rfl rfl rfl rfl rfl (c1) ?_
      refine zw_rn rfl rfl ?_
      have hp : zx_phi (zx_pt (zx_pt H (Int32.ofInt 1)) (H.2.1 72 31)) = zx_phi H := by
        unfold zx_phi
        rw [zx_pt_f 27 rfl, zx_pt_f 28 rfl, zx_pt_f 27 rfl, zx_pt_f 28 rfl]
      have e2 : ((zx_pt (zx_pt H (Int32.ofInt 1)) (H.2.1 72 31)).2.1 72 45).toInt = ((zx_pt H (Int32.ofInt 1)).2.1 72 45).toInt + 1 := zx_pt_t (by omega)
      have hgo := (yx_goes hby hT.1 (yV_pt (yV_pt hV)) c1).1
      exact ⟨H1, rfl, c2, zx_F_t (zx_F_t (zx_pt_F ha) (zx_pt_F (by omega))) c3, fun _ => by omega, by omega, by omega, Or.inl ⟨c4, lv, _, hlv, hgo, yR_s (hN)⟩⟩
    · rw [if_pos (by omega)] at hN
      refine zw_ld (n := 1) (k := 0) (f := zp_isR) (pc' := 25) rfl rfl rfl rfl rfl ?_
      refine zw_s (pc' := 26) rfl rfl ?_
      obtain ⟨K, c1, c2, c3, c4, c5, c6, c7⟩ := zx_wrong (L := L) (σ := σ) (d := d + 3) (y := Int32.ofInt 2) h (by decide)
      have WK := zR_Wd (zR_dn (c3 0 0).1)
      obtain ⟨u0, u1⟩ := zx_top (c3 0 0)
      have hw := yx_wrong h.1 hg hV (by decide) c1
      refine zw_cn (pc' := 29) (zw_cv (q := 72) (Y := zm_180) W.1 rfl rfl zm_180_t rfl rfl) rfl rfl rfl rfl rfl (c1) ?_
      refine zw_ld (n := 1) (k := 0) (f := zp_isR) (pc' := 30) rfl rfl rfl rfl rfl ?_
      refine zw_s (pc' := 31) rfl rfl ?_
      refine zw_cn (pc' := 34) (zw_cv (q := 72) (Y := zm_198) WK.1 rfl rfl zm_198_t rfl rfl) rfl rfl rfl rfl rfl (zq_puts (H := K) WK ⟨u0, by show _ < ((1600 : Nat) : Int); omega⟩) ?_
      have e1 : ((zx_pt K (Int32.ofInt 1)).2.1 72 45).toInt = (K.2.1 72 45).toInt + 1 := zx_pt_t (by omega)
      refine zw_ld (n := 1) (k := 0) (f := zp_isR) (pc' := 35) rfl rfl rfl rfl rfl ?_
      refine zw_ld (n := 1) (k := 0) (f := zp_isR) (pc' := 36) rfl rfl rfl rfl rfl ?_
      refine zw_gI (q := 72) (pc' := 39) WK rfl rfl rfl rfl rfl rfl ?_
      refine zw_cn (pc' := 42) (zw_cv (q := 72) (Y := zm_198) WK.1 rfl rfl zm_198_t rfl rfl) rfl rfl rfl rfl rfl (zq_puts (H := zx_pt K (Int32.ofInt 1)) WK ⟨by omega, by show _ < ((1600 : Nat) : Int); omega⟩) ?_
      have hS : ∀ e o, zx_S a e o (zx_pt (zx_pt K (Int32.ofInt 1)) (K.2.1 72 31)) := fun e o => zx_pp_b (c3 0 0) c2 (by omega)
      have hb9 : ((zx_pt (zx_pt K (Int32.ofInt 1)) (K.2.1 72 31)).2.1 72 23).toInt ≠ 0 := by rw [zx_pt_f 23 rfl, zx_pt_f 23 rfl]; exact c2
      refine zw_s (pc' := 91) rfl rfl ?_
      refine zw_ld (n := 1) (k := 0) (f := zp_isR) (pc' := 92) rfl rfl rfl rfl rfl ?_
      refine zw_c (pc' := 95) (zw_cv (q := 72) (Y := zm_175) WK.1 rfl rfl zm_175_t rfl rfl) rfl rfl rfl rfl rfl (zq_good0 (H := zx_pt (zx_pt K (Int32.ofInt 1)) (K.2.1 72 31)) WK hb9) ?_
      refine zw_beq1 (g := 102) (pc' := 98) rfl rfl rfl (rfl : _ = (0 : Int)) (fun hb => ?_) (fun h9 => absurd h9 (by decide))
      refine zw_rn rfl rfl ?_
      have hp : zx_phi (zx_pt (zx_pt K (Int32.ofInt 1)) (K.2.1 72 31)) = zx_phi K := by
        unfold zx_phi
        rw [zx_pt_f 27 rfl, zx_pt_f 28 rfl, zx_pt_f 27 rfl, zx_pt_f 28 rfl]
      have e2 : ((zx_pt (zx_pt K (Int32.ofInt 1)) (K.2.1 72 31)).2.1 72 45).toInt = ((zx_pt K (Int32.ofInt 1)).2.1 72 45).toInt + 1 := zx_pt_t (by omega)
      exact ⟨_, rfl, hS 1 0, zx_F_t c4 (zx_F_t (zx_pt_F (by omega)) (zx_pt_F (by omega))), fun h9 => absurd h9 hb9, by omega, by omega, Or.inr ⟨_, yD_pt (yD_pt hw), yA_done (hN)⟩⟩
end
