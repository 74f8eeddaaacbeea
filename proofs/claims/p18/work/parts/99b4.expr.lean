/-! ===== the class reads an expression: NOT, AND, OR ===== -/
def zm_88 : za_MI := (yX2_readAnd, prog_4_method_7_code, 4, (some FieldType.boolean), 2, 0, 0, [], za_i88)
theorem zm_88_t : za_MT 88 = some zm_88 := rfl
def zm_89 : za_MI := (yX2_readNot, prog_4_method_8_code, 5, (some FieldType.boolean), 2, 0, 0, [], za_i89)
theorem zm_89_t : za_MT 89 = some zm_89 := rfl
theorem yc_notP {L : Nat} {σ : Nat → Int32} {T : Nat → Int} {n wa wr : Nat} {c l k : Nat} {s1 : yM} (hP : yc_P L σ wr wa) {lv lv' : List Bool} {p q : Nat} {H0 : zp_H} (hQ : yQ3 T n lv.tail lv' q) (hpq : p < q) : ∀ (m : Nat) (H : zp_H) (lv9 : zp_LV) (i y : Int32), (y.toInt - i.toInt).toNat ≤ m → zp_get lv9 0 = some (.inr (.inr (some 54))) → zp_get lv9 1 = some (.inr (.inr (some wr))) → zp_get lv9 3 = some (.inl y) → zp_get lv9 4 = some (.inl i) → y.toInt ≤ 6 → yE T n q H → zk_Fr zg yx_m [wa] H0 H → y.toInt = k → 0 ≤ i.toInt → i.toInt ≤ k → yRn T n wa k i.toInt.toNat (38 - 6 * (l : Int) - ((3 : Nat) : Int)) (2, lv, p) s1 (0, lv', q) H0 H → zs_Safe L σ (yX T n (2, lv, p) wa 3 (38 - 6 * (l : Int) - ((3 : Nat) : Int)) (yQ3 T n lv.tail) H0) zm_89 [] (c + 4) (65, lv9, [], H, (0, 0)) := by
  intro m
  induction m with
  | zero =>
    intro H lv9 i y hm l0 l1 l3 l4 hy h hF hyk hi0 hik hRn
    have W := zB_Wd h.1.1
    refine zw_ld (n := 2) (k := 4) (f := zp_isI) (pc' := 67) rfl rfl l4 rfl rfl ?_
    refine zw_ld (n := 1) (k := 3) (f := zp_isI) (pc' := 68) rfl rfl l3 rfl rfl ?_
    refine zw_bge2 (g := 84) (pc' := 71) rfl rfl rfl rfl rfl (fun h7 => ?_) (fun h7 => ?_)
    · refine zw_s (pc' := 85) rfl rfl ?_
      refine zw_rz rfl rfl (by decide) ?_
      exact yX_1 h hF hpq hQ (yRn_e (by rw [show i.toInt.toNat = k by omega] at hRn; exact hRn))
    · omega
  | succ m ih =>
    intro H lv9 i y hm l0 l1 l3 l4 hy h hF hyk hi0 hik hRn
    have W := zB_Wd h.1.1
    refine zw_ld (n := 2) (k := 4) (f := zp_isI) (pc' := 67) rfl rfl l4 rfl rfl ?_
    refine zw_ld (n := 1) (k := 3) (f := zp_isI) (pc' := 68) rfl rfl l3 rfl rfl ?_
    refine zw_bge2 (g := 84) (pc' := 71) rfl rfl rfl rfl rfl (fun h7 => ?_) (fun h7 => ?_)
    · refine zw_s (pc' := 85) rfl rfl ?_
      refine zw_rz rfl rfl (by decide) ?_
      exact yX_1 h hF hpq hQ (yRn_e (by rw [show i.toInt.toNat = k by omega] at hRn; exact hRn))
    · refine zw_ld (n := 1) (k := 0) (f := zp_isR) (pc' := 72) rfl rfl l0 rfl rfl ?_
      refine zw_ld (n := 1) (k := 1) (f := zp_isR) (pc' := 73) rfl rfl l1 rfl rfl ?_
      refine zw_s (pc' := 75) rfl rfl ?_
      obtain ⟨K, k1, k2, k3, k4⟩ := yc_putD (d := c + 2) (x := Int32.ofInt 10) hP h
      have ei : (i + Int32.ofInt 1).toInt = i.toInt + 1 := zw_p1 (by omega)
      refine zw_cn (pc' := 78) (zw_cv (q := 53) (Y := zm_96) W.1 rfl rfl zm_96_t rfl rfl) rfl rfl rfl rfl rfl (k1) ?_
      refine zw_ii (pc' := 81) rfl l4 rfl rfl ?_
      refine zw_s (pc' := 65) rfl rfl ?_
      exact ih K _ _ y (by omega) (zw_gt l0 rfl rfl) (zw_gt l1 rfl rfl) (zw_gt l3 rfl rfl) zw_g1 hy k2 (zk_Fr_t hF k3) hyk (by omega) (by omega) (by rw [show (i + Int32.ofInt 1).toInt.toNat = i.toInt.toNat + 1 by omega]; exact yRn_s hRn (by omega) (by have := h.2.2; have := h.1.2.1; show q ≤ 700; omega) (by rw [show -1 - (Int32.ofInt 10).toInt = (-11 : Int) by decide] at k4; exact k4))

theorem yc_notX {L : Nat} {σ : Nat → Int32} {T : Nat → Int} {n wa wr : Nat} {c l : Nat} (hP : yc_P L σ wr wa) (hE : yK L σ T n wa wr 4 91 1 (fun lv => yQ3 T n lv.tail) (some false) (c + 4) l) {lv : List Bool} {x : Int32} {p : Nat} {H0 : zp_H} (hl : lv.length = l + 1) (hb : ∀ b', some false = some b' → lv.head? = some b') (hx : x.toInt = l) {H : zp_H} {lv9 : zp_LV} {i : Int32} {q k : Nat} (l0 : zp_get lv9 0 = some (.inr (.inr (some 54)))) (l1 : zp_get lv9 1 = some (.inr (.inr (some wr)))) (l2 : zp_get lv9 2 = some (.inl x)) (l3 : zp_get lv9 3 = some (.inl i)) (hi : i.toInt = k) (hk : k ≤ 6) (hx6 : k = 6 ∨ ¬ (ys_kd T n q = 3 ∧ ys_vl T n q = 10)) (h : yE T n q H) (hF : zk_Fr zg yx_m [wa] H0 H) (hR : yR T n (2, lv, p) (2 + k, lv, q)) (hW : ∀ W O, yTR T n (2, lv, p) W O (2 + k, lv, q) (List.replicate k 3 ++ W) O) (hsm : xSmw wa H0 H) (hkq : p + k ≤ q) (hpq : p ≤ q) : zs_Safe L σ (yX T n (2, lv, p) wa 3 (38 - 6 * (l : Int) - ((3 : Nat) : Int)) (yQ3 T n lv.tail) H0) zm_89 [] (c + 4) (33, lv9, [], H, (0, 0)) := by
  have W := zB_Wd h.1.1
  refine zw_ld (n := 1) (k := 0) (f := zp_isR) (pc' := 34) rfl rfl l0 rfl rfl ?_
  refine zw_gR (q := 53) (pc' := 37) W rfl rfl rfl rfl (W.2 53 0 _ rfl) rfl ?_
  refine zw_s (pc' := 39) rfl rfl ?_
  by_cases ha : ys_kd T n q = 3 ∧ ys_vl T n q = 10
  · refine zw_c (pc' := 42) (zw_cv (q := 52) (Y := zm_90) W.1 rfl rfl zm_90_t rfl rfl) rfl rfl rfl rfl rfl (yc_wd1 (d := c + 3) rfl h ha) ?_
    refine zw_beq1 (g := 51) (pc' := 45) rfl rfl rfl (rfl : _ = (1 : Int)) (fun h9 => absurd h9 (by decide)) (fun h9 => ?_)
    refine zw_ld (n := 1) (k := 0) (f := zp_isR) (pc' := 46) rfl rfl l0 rfl rfl ?_
    refine zw_s (pc' := 47) rfl rfl ?_
    obtain ⟨K9, c1, c2, c3, c4⟩ := yc_rf (L := L) (σ := σ) (d := c + 3) (wa := wa) (x := Int32.ofInt 2) h
    refine zw_c (pc' := 50) (zw_cv (q := 53) (Y := zm_87) W.1 rfl rfl zm_87_t rfl rfl) rfl rfl rfl rfl rfl (c1) ?_
    refine zw_rz rfl rfl (by decide) ?_
    rcases hx6 with h6 | h6
    · subst h6
      exact yX_0 c2 (zk_Fr_t hF c3) (hR _ (yA_done (yN_no6 ha.1 ha.2))) rfl c4 (show 1 ≤ (2 : Int) ∧ (2 : Int) ≤ 5 from by decide)
    · exact absurd ha h6
  · refine zw_c (pc' := 42) (zw_cv (q := 52) (Y := zm_90) W.1 rfl rfl zm_90_t rfl rfl) rfl rfl rfl rfl rfl (yc_wd0 (d := c + 3) rfl h ha) ?_
    refine zw_beq1 (g := 51) (pc' := 45) rfl rfl rfl (rfl : _ = (0 : Int)) (fun h9 => ?_) (fun h9 => absurd h9 (by decide))
    obtain ⟨X1, b1, b2⟩ := hE lv x _ H hl hb hx h
    obtain ⟨v, H2, q2, rfl, e2, e3, e4⟩ := b2
    have W2 := zB_Wd e2.1.1
    have hR2 : yR T n (2, lv, p) (1, lv, q) := yR_t hR (yR_e (yN_nn ha))
    refine zw_ld (n := 1) (k := 0) (f := zp_isR) (pc' := 52) rfl rfl l0 rfl rfl ?_
    refine zw_ld (n := 1) (k := 1) (f := zp_isR) (pc' := 53) rfl rfl l1 rfl rfl ?_
    refine zw_ld (n := 1) (k := 2) (f := zp_isI) (pc' := 54) rfl rfl l2 rfl rfl ?_
    refine zw_c (pc' := 57) (zw_cv (q := 53) (Y := zm_91) W.1 rfl rfl zm_91_t rfl rfl) rfl rfl rfl rfl rfl (b1) ?_
    refine zw_bne1 (g := 62) (pc' := 60) rfl rfl rfl rfl (fun hv => ?_) (fun hv => ?_)
    · rcases e4 with ⟨_, e5, lv2, e6, e7⟩ | ⟨e4, _⟩
      rotate_left
      · omega
      have e5 : q < q2 := e5
      refine zw_s (pc' := 63) rfl rfl ?_
      refine zw_st (n := 2) (k := 4) (f := zp_isI) (pc' := 65) rfl rfl rfl rfl rfl ?_
      have hRn : yRn T n wa k 0 (38 - 6 * (l : Int) - ((3 : Nat) : Int)) (2, lv, p) (1, lv, q) (0, lv2, q2) H0 H2 := ⟨fun W O => yTR_t (hW W O) (yTR_nn ha), yR_t hR2 e7.1, fun h0 h1 => by
        have em : (H.2.1 53 1).toInt = (H0.2.1 53 1).toInt := congrArg Int32.toInt hsm.1
        have h1 : (H0.2.1 53 1).toInt ≤ (p : Int) := h1
        obtain ⟨C, c1, c2, c3, c4⟩ := e7.2 (by omega) (by show _ ≤ (q : Int); omega)
        have c3 : (C.length : Int) + (q : Int) ≤ (q2 : Int) := c3
        refine ⟨C, c1, xOp_m (by omega) c2, by show _ + (p : Int) + _ ≤ (q2 : Int); omega, ?_⟩
        rw [show List.replicate 0 (xAc 3) = [] from rfl, List.append_nil]
        exact xGr_a h0 (xGr_0 hsm) c4⟩
      exact yc_notP (l := l) (k := k) (s1 := (1, lv, q)) hP e6 (by omega) _ H2 _ _ _ (Nat.le_refl _) (zw_gt l0 rfl rfl) (zw_gt l1 rfl rfl) (zw_gt l3 rfl rfl) zw_g1 (by omega) e2 (zk_Fr_t hF e3) hi (by decide) (by show (0 : Int) ≤ _; omega) hRn
    · refine zw_s (pc' := 61) rfl rfl ?_
      refine zw_rz rfl rfl (by decide) ?_
      rcases e4 with ⟨e4, _⟩ | ⟨e4, r, e5, e6, e7, e8⟩
      · omega
      · exact yX_0 e2 (zk_Fr_t hF e3) (hR2 _ e5) e6 e7 e8

theorem yc_notL {L : Nat} {σ : Nat → Int32} {T : Nat → Int} {n wa wr : Nat} {c l : Nat} (hP : yc_P L σ wr wa) (hE : yK L σ T n wa wr 4 91 1 (fun lv => yQ3 T n lv.tail) (some false) (c + 4) l) {lv : List Bool} {x : Int32} {p : Nat} {H0 : zp_H} (hl : lv.length = l + 1) (hb : ∀ b', some false = some b' → lv.head? = some b') (hx : x.toInt = l) : ∀ (m : Nat) (H : zp_H) (lv9 : zp_LV) (i : Int32) (q k : Nat), 6 - k ≤ m → zp_get lv9 0 = some (.inr (.inr (some 54))) → zp_get lv9 1 = some (.inr (.inr (some wr))) → zp_get lv9 2 = some (.inl x) → zp_get lv9 3 = some (.inl i) → i.toInt = k → k ≤ 6 → yE T n q H → zk_Fr zg yx_m [wa] H0 H → yR T n (2, lv, p) (2 + k, lv, q) → (∀ W O, yTR T n (2, lv, p) W O (2 + k, lv, q) (List.replicate k 3 ++ W) O) → xSmw wa H0 H → p + k ≤ q → p ≤ q → zs_Safe L σ (yX T n (2, lv, p) wa 3 (38 - 6 * (l : Int) - ((3 : Nat) : Int)) (yQ3 T n lv.tail) H0) zm_89 [] (c + 4) (2, lv9, [], H, (0, 0)) := by
  intro m
  induction m with
  | zero =>
    intro H lv9 i q k hm l0 l1 l2 l3 hi hk h hF hR hW hsm hkq hpq
    have W := zB_Wd h.1.1
    refine zw_ld (n := 1) (k := 3) (f := zp_isI) (pc' := 3) rfl rfl l3 rfl rfl ?_
    refine zw_s (pc' := 5) rfl rfl ?_
    refine zw_bge2 (g := 33) (pc' := 8) rfl rfl rfl rfl (rfl : _ = (6 : Int)) (fun h7 => ?_) (fun h7 => ?_)
    · exact yc_notX hP hE hl hb hx l0 l1 l2 l3 hi hk (Or.inl (by omega)) h hF hR hW hsm hkq hpq
    · omega
  | succ m ih =>
    intro H lv9 i q k hm l0 l1 l2 l3 hi hk h hF hR hW hsm hkq hpq
    have W := zB_Wd h.1.1
    refine zw_ld (n := 1) (k := 3) (f := zp_isI) (pc' := 3) rfl rfl l3 rfl rfl ?_
    refine zw_s (pc' := 5) rfl rfl ?_
    refine zw_bge2 (g := 33) (pc' := 8) rfl rfl rfl rfl (rfl : _ = (6 : Int)) (fun h7 => ?_) (fun h7 => ?_)
    · exact yc_notX hP hE hl hb hx l0 l1 l2 l3 hi hk (Or.inl (by omega)) h hF hR hW hsm hkq hpq
    · refine zw_ld (n := 1) (k := 0) (f := zp_isR) (pc' := 9) rfl rfl l0 rfl rfl ?_
      refine zw_gR (q := 53) (pc' := 12) W rfl rfl rfl rfl (W.2 53 0 _ rfl) rfl ?_
      refine zw_s (pc' := 14) rfl rfl ?_
      by_cases ha : ys_kd T n q = 3 ∧ ys_vl T n q = 10
      · refine zw_c (pc' := 17) (zw_cv (q := 52) (Y := zm_90) W.1 rfl rfl zm_90_t rfl rfl) rfl rfl rfl rfl rfl (yc_wd1 (d := c + 3) rfl h ha) ?_
        refine zw_beq1 (g := 33) (pc' := 20) rfl rfl rfl (rfl : _ = (1 : Int)) (fun h9 => absurd h9 (by decide)) (fun h9 => ?_)
        obtain ⟨H1, a1, a2, a3, a4⟩ := yc_adx (L := L) (σ := σ) (d := c + 1) (wa := wa) h
        have hadv := ys_adv (T := T) h.2.2 (by omega)
        have ei : (i + Int32.ofInt 1).toInt = i.toInt + 1 := zw_p1 (by omega)
        refine zw_ld (n := 1) (k := 0) (f := zp_isR) (pc' := 21) rfl rfl l0 rfl rfl ?_
        refine zw_gR (q := 53) (pc' := 24) W rfl rfl rfl rfl (W.2 53 0 _ rfl) rfl ?_
        refine zw_cn (pc' := 27) (zw_cv (q := 52) (Y := zm_55) W.1 rfl rfl zm_55_t rfl rfl) rfl rfl rfl rfl rfl (a1) ?_
        refine zw_ii (pc' := 30) rfl l3 rfl rfl ?_
        refine zw_s (pc' := 2) rfl rfl ?_
        exact ih H1 _ _ _ (k + 1) (by omega) (zw_gt l0 rfl rfl) (zw_gt l1 rfl rfl) (zw_gt l2 rfl rfl) zw_g1 (by omega) (by omega) a2 (zk_Fr_t hF a3) (yR_t hR (yR_s (yN_no ha.1 ha.2 (by omega)))) (xNo_s hW ha.1 ha.2 (by omega)) (xSmw_t hsm (yc_sm hP.1 a4)) (by omega) (by omega)
      · refine zw_c (pc' := 17) (zw_cv (q := 52) (Y := zm_90) W.1 rfl rfl zm_90_t rfl rfl) rfl rfl rfl rfl rfl (yc_wd0 (d := c + 3) rfl h ha) ?_
        refine zw_beq1 (g := 33) (pc' := 20) rfl rfl rfl (rfl : _ = (0 : Int)) (fun h9 => ?_) (fun h9 => absurd h9 (by decide))
        exact yc_notX hP hE hl hb hx l0 l1 l2 l3 hi hk (Or.inr ha) h hF hR hW hsm hkq hpq

theorem yc_not {L : Nat} {σ : Nat → Int32} {T : Nat → Int} {n wa wr : Nat} {c l : Nat} (hP : yc_P L σ wr wa) (hE : yK L σ T n wa wr 4 91 1 (fun lv => yQ3 T n lv.tail) (some false) (c + 4) l) : yK L σ T n wa wr 3 89 2 (fun lv => yQ3 T n lv.tail) (some false) (c + 5) l := by
  intro lv x p H hl hb hx h
  refine zw_met zm_89_t rfl rfl ?_
  refine zw_s (pc' := 1) rfl rfl ?_
  refine zw_st (n := 1) (k := 3) (f := zp_isI) (pc' := 2) rfl rfl rfl rfl rfl ?_
  exact yc_notL hP hE hl hb hx _ H _ _ p 0 (Nat.le_refl _) (zw_gt rfl rfl rfl) (zw_gt rfl rfl rfl) (zw_gt rfl rfl rfl) zw_g1 rfl (by decide) h (zk_Fr_r H) yR_r (fun _ _ => yTR_r) ⟨rfl, fun _ => rfl⟩ (Nat.le_refl _) (Nat.le_refl _)

set_option maxRecDepth 8000 in
theorem yc_andL {L : Nat} {σ : Nat → Int32} {T : Nat → Int} {n wa wr : Nat} {c l : Nat} (hP : yc_P L σ wr wa) (hE : yK L σ T n wa wr 3 89 2 (fun lv => yQ3 T n lv.tail) (some false) (c + 4) l) {lv : List Bool} {x : Int32} {p : Nat} {H0 : zp_H} (hl : lv.length = l + 1) (hb : ∀ b', (some false) = some b' → lv.head? = some b') (hx : x.toInt = l) : ∀ (m : Nat) (H : zp_H) (lv9 : zp_LV) (i : Int32) (q : Nat) (lv' : List Bool), n - q = m → zp_get lv9 0 = some (.inr (.inr (some 54))) → zp_get lv9 1 = some (.inr (.inr (some wr))) → zp_get lv9 2 = some (.inl x) → zp_get lv9 3 = some (.inl i) → 0 ≤ i.toInt ∧ i.toInt ≤ q → yE T n q H → zk_Fr zg yx_m [wa] H0 H → (fun lv => yQ3 T n lv.tail) lv lv' q → xRC T n wa 2 (38 - 6 * (l : Int) - ((2 : Nat) : Int)) (2, lv, p) (0, lv', q) H0 H → p < q → zs_Safe L σ (yX T n (2, lv, p) wa 2 (38 - 6 * (l : Int) - ((2 : Nat) : Int)) ((fun lv => yQ4 T n lv.tail) lv) H0) zm_88 [] (c + 4) (13, lv9, [], H, (0, 0)) := by
  intro m
  induction m using Nat.strongRecOn with
  | ind m ih =>
    intro H lv9 i q lv' hm l0 l1 l2 l3 hi h hF hQ hR hpq
    have W := zB_Wd h.1.1
    have hn7 := h.1.2.1
    have hqn := h.2.2
    refine zw_ld (n := 1) (k := 3) (f := zp_isI) (pc' := 14) rfl rfl l3 rfl rfl ?_
    refine zw_s (pc' := 17) rfl rfl ?_
    refine zw_bge2 (g := 63) (pc' := 20) rfl rfl rfl rfl (rfl : _ = (700 : Int)) (fun h7 => ?_) (fun h7 => ?_)
    · have hk0 := ys_kd_n (T := T) (n := n) (p := q) (by omega)
      refine zw_s (pc' := 64) rfl rfl ?_
      refine zw_rz rfl rfl (by decide) ?_
      have hno : ¬ (ys_kd T n q = 3 ∧ ys_vl T n q = 9) := by
        omega
      exact yX_1 h hF hpq (show yQ4 T n lv.tail lv' q from ⟨hQ, hno⟩) hR
    · refine zw_ld (n := 1) (k := 0) (f := zp_isR) (pc' := 21) rfl rfl l0 rfl rfl ?_
      refine zw_gR (q := 53) (pc' := 24) W rfl rfl rfl rfl (W.2 53 0 _ rfl) rfl ?_
      refine zw_s (pc' := 26) rfl rfl ?_
      by_cases ha : ys_kd T n q = 3 ∧ ys_vl T n q = 9
      · refine zw_c (pc' := 29) (zw_cv (q := 52) (Y := zm_90) W.1 rfl rfl zm_90_t rfl rfl) rfl rfl rfl rfl rfl (yc_wd1 (d := c + 3) rfl h ha) ?_
        refine zw_beq1 (g := 63) (pc' := 32) rfl rfl rfl (rfl : _ = (1 : Int)) (fun h9 => absurd h9 (by decide)) (fun h9 => ?_)
        refine zw_ld (n := 1) (k := 0) (f := zp_isR) (pc' := 33) rfl rfl l0 rfl rfl ?_
        refine zw_gR (q := 53) (pc' := 36) W rfl rfl rfl rfl (W.2 53 0 _ rfl) rfl ?_
        have hN := (show yN T n (0, lv', q) = .inl (2, lv, ys_nx T n q) from by have e9 := yQ3_tl hQ (hb false rfl); rw [yN_ao ha.1 (Or.inl ha.2), e9])
        obtain ⟨H1, a1, a2, a3, a4⟩ := yc_adx (L := L) (σ := σ) (d := c + 1) (wa := wa) h
        have W1 := zB_Wd a2.1.1
        have hadv := ys_adv (T := T) h.2.2 (by omega)
        refine zw_cn (pc' := 39) (zw_cv (q := 52) (Y := zm_55) W.1 rfl rfl zm_55_t rfl rfl) rfl rfl rfl rfl rfl (a1) ?_
        obtain ⟨X1, b1, b2⟩ := hE lv x _ H1 hl hb hx a2
        obtain ⟨v, H2, q2, rfl, e2, e3, e4⟩ := b2
        have W2 := zB_Wd e2.1.1
        refine zw_ld (n := 1) (k := 0) (f := zp_isR) (pc' := 40) rfl rfl l0 rfl rfl ?_
        refine zw_ld (n := 1) (k := 1) (f := zp_isR) (pc' := 41) rfl rfl l1 rfl rfl ?_
        refine zw_ld (n := 1) (k := 2) (f := zp_isI) (pc' := 42) rfl rfl l2 rfl rfl ?_
        refine zw_c (pc' := 45) (zw_cv (q := 53) (Y := zm_89) W1.1 rfl rfl zm_89_t rfl rfl) rfl rfl rfl rfl rfl (b1) ?_
        refine zw_bne1 (g := 50) (pc' := 48) rfl rfl rfl rfl (fun hv => ?_) (fun hv => ?_)
        · rcases e4 with ⟨_, e5, lv2, e6, e7⟩ | ⟨e4, _⟩
          rotate_left
          · omega
          have e5 : ys_nx T n q < q2 := e5
          refine zw_ld (n := 1) (k := 0) (f := zp_isR) (pc' := 51) rfl rfl l0 rfl rfl ?_
          refine zw_ld (n := 1) (k := 1) (f := zp_isR) (pc' := 52) rfl rfl l1 rfl rfl ?_
          refine zw_s (pc' := 54) rfl rfl ?_
          obtain ⟨K, k1, k2, k3, k4⟩ := yc_putD (d := c + 2) (x := Int32.ofInt 9) hP e2
          have WK := zB_Wd k2.1.1
          refine zw_cn (pc' := 57) (zw_cv (q := 53) (Y := zm_96) W2.1 rfl rfl zm_96_t rfl rfl) rfl rfl rfl rfl rfl (k1) ?_
          refine zw_ii (pc' := 60) rfl l3 rfl rfl ?_
          refine zw_s (pc' := 13) rfl rfl ?_
          have ei : (i + Int32.ofInt 1).toInt = i.toInt + 1 := zw_p1 (by omega)
          have q2n := e2.2.2
          exact ih (n - q2) (by omega) K _ _ q2 lv2 rfl (zw_gt l0 rfl rfl) (zw_gt l1 rfl rfl) (zw_gt l2 rfl rfl) zw_g1 ⟨by omega, by omega⟩ k2 (zk_Fr_t hF (zk_Fr_t a3 (zk_Fr_t e3 k3))) e6 (xRC_b hR hN (fun W O => xWO_an ha.1 ha.2) ⟨by decide, by decide, by decide⟩ (by show q < ys_nx T n q; omega) (yc_sm hP.1 a4) e7 (by decide) ⟨by omega, by omega⟩ (by show q2 ≤ 700; omega) k4 (by decide)) (by omega)
        · refine zw_s (pc' := 49) rfl rfl ?_
          refine zw_rz rfl rfl (by decide) ?_
          rcases e4 with ⟨e4, _⟩ | ⟨e4, r, e5, e6, e7, e8⟩
          · omega
          · exact yX_0 e2 (zk_Fr_t hF (zk_Fr_t a3 e3)) (hR.1 _ (yA_step hN e5)) e6 e7 e8
      · refine zw_c (pc' := 29) (zw_cv (q := 52) (Y := zm_90) W.1 rfl rfl zm_90_t rfl rfl) rfl rfl rfl rfl rfl (yc_wd0 (d := c + 3) rfl h ha) ?_
        refine zw_beq1 (g := 63) (pc' := 32) rfl rfl rfl (rfl : _ = (0 : Int)) (fun h9 => ?_) (fun h9 => absurd h9 (by decide))
        refine zw_s (pc' := 64) rfl rfl ?_
        refine zw_rz rfl rfl (by decide) ?_
        have hno : ¬ (ys_kd T n q = 3 ∧ ys_vl T n q = 9) := by
          omega
        exact yX_1 h hF hpq (show yQ4 T n lv.tail lv' q from ⟨hQ, hno⟩) hR

theorem yc_and {L : Nat} {σ : Nat → Int32} {T : Nat → Int} {n wa wr : Nat} {c l : Nat} (hP : yc_P L σ wr wa) (hE : yK L σ T n wa wr 3 89 2 (fun lv => yQ3 T n lv.tail) (some false) (c + 4) l) : yK L σ T n wa wr 2 88 2 (fun lv => yQ4 T n lv.tail) (some false) (c + 5) l := by
  intro lv x p H hl hb hx h
  have W := zB_Wd h.1.1
  obtain ⟨X1, b1, b2⟩ := hE lv x _ H hl hb hx h
  obtain ⟨v, H2, q2, rfl, e2, e3, e4⟩ := b2
  have W2 := zB_Wd e2.1.1
  refine zw_met zm_88_t rfl rfl ?_
  refine zw_ld (n := 1) (k := 0) (f := zp_isR) (pc' := 1) rfl rfl rfl rfl rfl ?_
  refine zw_ld (n := 1) (k := 1) (f := zp_isR) (pc' := 2) rfl rfl rfl rfl rfl ?_
  refine zw_ld (n := 1) (k := 2) (f := zp_isI) (pc' := 3) rfl rfl rfl rfl rfl ?_
  refine zw_c (pc' := 6) (zw_cv (q := 53) (Y := zm_89) W.1 rfl rfl zm_89_t rfl rfl) rfl rfl rfl rfl rfl (b1) ?_
  refine zw_bne1 (g := 11) (pc' := 9) rfl rfl rfl rfl (fun hv => ?_) (fun hv => ?_)
  · rcases e4 with ⟨_, e5, lv2, e6, e7⟩ | ⟨e4, _⟩
    rotate_left
    · omega
    refine zw_s (pc' := 12) rfl rfl ?_
    refine zw_st (n := 1) (k := 3) (f := zp_isI) (pc' := 13) rfl rfl rfl rfl rfl ?_
    exact yc_andL hP hE hl hb hx _ H2 _ _ q2 lv2 rfl (zw_gt rfl rfl rfl) (zw_gt rfl rfl rfl) (zw_gt rfl rfl rfl) zw_g1 ⟨by decide, by show (0 : Int) ≤ _; omega⟩ e2 e3 e6 (xRC_up (by decide) (by omega) e7) e5
  · refine zw_s (pc' := 10) rfl rfl ?_
    refine zw_rz rfl rfl (by decide) ?_
    rcases e4 with ⟨e4, _⟩ | ⟨e4, r, e5, e6, e7, e8⟩
    · omega
    · exact yX_0 e2 e3 e5 e6 e7 e8

set_option maxRecDepth 8000 in
theorem yc_exprL {L : Nat} {σ : Nat → Int32} {T : Nat → Int} {n wa wr : Nat} {c l : Nat} (hP : yc_P L σ wr wa) (hE : yK L σ T n wa wr 2 88 2 (fun lv => yQ4 T n lv.tail) (some false) (c + 4) l) {lv : List Bool} {x : Int32} {p : Nat} {H0 : zp_H} (hl : lv.length = l + 1) (hb : ∀ b', (some false) = some b' → lv.head? = some b') (hx : x.toInt = l) : ∀ (m : Nat) (H : zp_H) (lv9 : zp_LV) (i : Int32) (q : Nat) (lv' : List Bool), n - q = m → zp_get lv9 0 = some (.inr (.inr (some 54))) → zp_get lv9 1 = some (.inr (.inr (some wr))) → zp_get lv9 2 = some (.inl x) → zp_get lv9 3 = some (.inl i) → 0 ≤ i.toInt ∧ i.toInt ≤ q → yE T n q H → zk_Fr zg yx_m [wa] H0 H → (fun lv => yQ4 T n lv.tail) lv lv' q → xRC T n wa 1 (38 - 6 * (l : Int) - ((1 : Nat) : Int)) (2, lv, p) (0, lv', q) H0 H → p < q → zs_Safe L σ (yX T n (2, lv, p) wa 1 (38 - 6 * (l : Int) - ((1 : Nat) : Int)) ((fun lv => yQ5 T n lv.tail) lv) H0) zm_85 [] (c + 4) (73, lv9, [], H, (0, 0)) := by
  intro m
  induction m using Nat.strongRecOn with
  | ind m ih =>
    intro H lv9 i q lv' hm l0 l1 l2 l3 hi h hF hQ hR hpq
    have W := zB_Wd h.1.1
    have hn7 := h.1.2.1
    have hqn := h.2.2
    refine zw_ld (n := 1) (k := 3) (f := zp_isI) (pc' := 74) rfl rfl l3 rfl rfl ?_
    refine zw_s (pc' := 77) rfl rfl ?_
    refine zw_bge2 (g := 123) (pc' := 80) rfl rfl rfl rfl (rfl : _ = (700 : Int)) (fun h7 => ?_) (fun h7 => ?_)
    · have hk0 := ys_kd_n (T := T) (n := n) (p := q) (by omega)
      refine zw_s (pc' := 124) rfl rfl ?_
      refine zw_rz rfl rfl (by decide) ?_
      have hno : ¬ (ys_kd T n q = 3 ∧ ys_vl T n q = 8) := by
        omega
      exact yX_1 h hF hpq (show yQ5 T n lv.tail lv' q from ⟨hQ, hno⟩) hR
    · refine zw_ld (n := 1) (k := 0) (f := zp_isR) (pc' := 81) rfl rfl l0 rfl rfl ?_
      refine zw_gR (q := 53) (pc' := 84) W rfl rfl rfl rfl (W.2 53 0 _ rfl) rfl ?_
      refine zw_s (pc' := 86) rfl rfl ?_
      by_cases ha : ys_kd T n q = 3 ∧ ys_vl T n q = 8
      · refine zw_c (pc' := 89) (zw_cv (q := 52) (Y := zm_90) W.1 rfl rfl zm_90_t rfl rfl) rfl rfl rfl rfl rfl (yc_wd1 (d := c + 3) rfl h ha) ?_
        refine zw_beq1 (g := 123) (pc' := 92) rfl rfl rfl (rfl : _ = (1 : Int)) (fun h9 => absurd h9 (by decide)) (fun h9 => ?_)
        refine zw_ld (n := 1) (k := 0) (f := zp_isR) (pc' := 93) rfl rfl l0 rfl rfl ?_
        refine zw_gR (q := 53) (pc' := 96) W rfl rfl rfl rfl (W.2 53 0 _ rfl) rfl ?_
        have hN := (show yN T n (0, lv', q) = .inl (2, lv, ys_nx T n q) from by have e9 := yQ3_tl hQ.1 (hb false rfl); rw [yN_ao ha.1 (Or.inr ha.2), e9])
        obtain ⟨H1, a1, a2, a3, a4⟩ := yc_adx (L := L) (σ := σ) (d := c + 1) (wa := wa) h
        have W1 := zB_Wd a2.1.1
        have hadv := ys_adv (T := T) h.2.2 (by omega)
        refine zw_cn (pc' := 99) (zw_cv (q := 52) (Y := zm_55) W.1 rfl rfl zm_55_t rfl rfl) rfl rfl rfl rfl rfl (a1) ?_
        obtain ⟨X1, b1, b2⟩ := hE lv x _ H1 hl hb hx a2
        obtain ⟨v, H2, q2, rfl, e2, e3, e4⟩ := b2
        have W2 := zB_Wd e2.1.1
        refine zw_ld (n := 1) (k := 0) (f := zp_isR) (pc' := 100) rfl rfl l0 rfl rfl ?_
        refine zw_ld (n := 1) (k := 1) (f := zp_isR) (pc' := 101) rfl rfl l1 rfl rfl ?_
        refine zw_ld (n := 1) (k := 2) (f := zp_isI) (pc' := 102) rfl rfl l2 rfl rfl ?_
        refine zw_c (pc' := 105) (zw_cv (q := 53) (Y := zm_88) W1.1 rfl rfl zm_88_t rfl rfl) rfl rfl rfl rfl rfl (b1) ?_
        refine zw_bne1 (g := 110) (pc' := 108) rfl rfl rfl rfl (fun hv => ?_) (fun hv => ?_)
        · rcases e4 with ⟨_, e5, lv2, e6, e7⟩ | ⟨e4, _⟩
          rotate_left
          · omega
          have e5 : ys_nx T n q < q2 := e5
          refine zw_ld (n := 1) (k := 0) (f := zp_isR) (pc' := 111) rfl rfl l0 rfl rfl ?_
          refine zw_ld (n := 1) (k := 1) (f := zp_isR) (pc' := 112) rfl rfl l1 rfl rfl ?_
          refine zw_s (pc' := 114) rfl rfl ?_
          obtain ⟨K, k1, k2, k3, k4⟩ := yc_putD (d := c + 2) (x := Int32.ofInt 8) hP e2
          have WK := zB_Wd k2.1.1
          refine zw_cn (pc' := 117) (zw_cv (q := 53) (Y := zm_96) W2.1 rfl rfl zm_96_t rfl rfl) rfl rfl rfl rfl rfl (k1) ?_
          refine zw_ii (pc' := 120) rfl l3 rfl rfl ?_
          refine zw_s (pc' := 73) rfl rfl ?_
          have ei : (i + Int32.ofInt 1).toInt = i.toInt + 1 := zw_p1 (by omega)
          have q2n := e2.2.2
          exact ih (n - q2) (by omega) K _ _ q2 lv2 rfl (zw_gt l0 rfl rfl) (zw_gt l1 rfl rfl) (zw_gt l2 rfl rfl) zw_g1 ⟨by omega, by omega⟩ k2 (zk_Fr_t hF (zk_Fr_t a3 (zk_Fr_t e3 k3))) e6 (xRC_b hR hN (fun W O => xWO_or ha.1 ha.2) ⟨by decide, by decide, by decide⟩ (by show q < ys_nx T n q; omega) (yc_sm hP.1 a4) e7 (by decide) ⟨by omega, by omega⟩ (by show q2 ≤ 700; omega) k4 (by decide)) (by omega)
        · refine zw_s (pc' := 109) rfl rfl ?_
          refine zw_rz rfl rfl (by decide) ?_
          rcases e4 with ⟨e4, _⟩ | ⟨e4, r, e5, e6, e7, e8⟩
          · omega
          · exact yX_0 e2 (zk_Fr_t hF (zk_Fr_t a3 e3)) (hR.1 _ (yA_step hN e5)) e6 e7 e8
      · refine zw_c (pc' := 89) (zw_cv (q := 52) (Y := zm_90) W.1 rfl rfl zm_90_t rfl rfl) rfl rfl rfl rfl rfl (yc_wd0 (d := c + 3) rfl h ha) ?_
        refine zw_beq1 (g := 123) (pc' := 92) rfl rfl rfl (rfl : _ = (0 : Int)) (fun h9 => ?_) (fun h9 => absurd h9 (by decide))
        refine zw_s (pc' := 124) rfl rfl ?_
        refine zw_rz rfl rfl (by decide) ?_
        have hno : ¬ (ys_kd T n q = 3 ∧ ys_vl T n q = 8) := by
          omega
        exact yX_1 h hF hpq (show yQ5 T n lv.tail lv' q from ⟨hQ, hno⟩) hR

theorem yc_expr {L : Nat} {σ : Nat → Int32} {T : Nat → Int} {n wa wr : Nat} {c l : Nat} (hl6 : l < 6) (hP : yc_P L σ wr wa) (hE : yK L σ T n wa wr 2 88 2 (fun lv => yQ4 T n lv.tail) (some false) (c + 4) l) : yK L σ T n wa wr 1 85 2 (fun lv => yQ5 T n lv.tail) (some false) (c + 5) l := by
  intro lv x p H hl hb hx h
  have W := zB_Wd h.1.1
  obtain ⟨X1, b1, b2⟩ := hE lv x _ H hl hb hx h
  obtain ⟨v, H2, q2, rfl, e2, e3, e4⟩ := b2
  have W2 := zB_Wd e2.1.1
  refine zw_met zm_85_t rfl rfl ?_
  refine zw_ld (n := 1) (k := 2) (f := zp_isI) (pc' := 1) rfl rfl rfl rfl rfl ?_
  refine zw_s (pc' := 3) rfl rfl ?_
  refine zw_blt2 (g := 60) (pc' := 6) rfl rfl rfl rfl (rfl : _ = (6 : Int)) (fun h6 => ?_) (fun h6 => ?_)
  · refine zw_ld (n := 1) (k := 0) (f := zp_isR) (pc' := 61) rfl rfl rfl rfl rfl ?_
    refine zw_ld (n := 1) (k := 1) (f := zp_isR) (pc' := 62) rfl rfl rfl rfl rfl ?_
    refine zw_ld (n := 1) (k := 2) (f := zp_isI) (pc' := 63) rfl rfl rfl rfl rfl ?_
    refine zw_c (pc' := 66) (zw_cv (q := 53) (Y := zm_88) W.1 rfl rfl zm_88_t rfl rfl) rfl rfl rfl rfl rfl (b1) ?_
    refine zw_bne1 (g := 71) (pc' := 69) rfl rfl rfl rfl (fun hv => ?_) (fun hv => ?_)
    · rcases e4 with ⟨_, e5, lv2, e6, e7⟩ | ⟨e4, _⟩
      rotate_left
      · omega
      refine zw_s (pc' := 72) rfl rfl ?_
      refine zw_st (n := 1) (k := 3) (f := zp_isI) (pc' := 73) rfl rfl rfl rfl rfl ?_
      exact yc_exprL hP hE hl hb hx _ H2 _ _ q2 lv2 rfl (zw_gt rfl rfl rfl) (zw_gt rfl rfl rfl) (zw_gt rfl rfl rfl) zw_g1 ⟨by decide, by show (0 : Int) ≤ _; omega⟩ e2 e3 e6 (xRC_up (by decide) (by omega) e7) e5
    · refine zw_s (pc' := 70) rfl rfl ?_
      refine zw_rz rfl rfl (by decide) ?_
      rcases e4 with ⟨e4, _⟩ | ⟨e4, r, e5, e6, e7, e8⟩
      · omega
      · exact yX_0 e2 e3 e5 e6 e7 e8
  · omega

theorem yc_ex6 {L : Nat} {σ : Nat → Int32} {T : Nat → Int} {n wa wr d p : Nat} {x : Int32} {H : zp_H} (hx : x.toInt = 6) (h : yE T n p H) : ∃ X, zp_Call L σ (d + 2) 85 [.inr (.inr (some 54)), .inr (.inr (some wr)), .inl x] H X ∧ ∃ H1, X = (.inl (some (.inl (Int32.ofInt 0))), H1) ∧ yE T n p H1 ∧ zk_Fr zg yx_m [wa] H H1 ∧ (H1.2.1 53 2).toInt = (if yB T n p then 2 else 1) := by
  have W := zB_Wd h.1.1
  have h4 := yE_4 h
  refine zw_met zm_85_t rfl rfl ?_
  refine zw_ld (n := 1) (k := 2) (f := zp_isI) (pc' := 1) rfl rfl rfl rfl rfl ?_
  refine zw_s (pc' := 3) rfl rfl ?_
  refine zw_blt2 (g := 60) (pc' := 6) rfl rfl rfl rfl (rfl : _ = (6 : Int)) (fun h6 => ?_) (fun h6 => ?_)
  · omega
  · refine zw_ld (n := 1) (k := 0) (f := zp_isR) (pc' := 7) rfl rfl rfl rfl rfl ?_
    refine zw_gR (q := 53) (pc' := 10) W rfl rfl rfl rfl (W.2 53 0 _ rfl) rfl ?_
    refine zw_gI (q := 52) (pc' := 13) W rfl rfl rfl rfl rfl rfl ?_
    refine zw_s (pc' := 14) rfl rfl ?_
    refine zw_beq2 (g := 40) (pc' := 17) rfl rfl rfl rfl (rfl : _ = (2 : Int)) (fun h2 => ?_) (fun h2 => ?_)
    · refine zw_s (pc' := 41) rfl rfl ?_
      refine zw_s (pc' := 45) rfl rfl ?_
      refine zw_st (n := 1) (k := 3) (f := zp_isI) (pc' := 46) rfl rfl rfl rfl rfl ?_
      refine zw_ld (n := 1) (k := 0) (f := zp_isR) (pc' := 47) rfl rfl (zw_gt rfl rfl rfl) rfl rfl ?_
      refine zw_ld (n := 1) (k := 3) (f := zp_isI) (pc' := 48) rfl rfl zw_g1 rfl rfl ?_
      refine zw_beq1 (g := 55) (pc' := 51) rfl rfl rfl (rfl : _ = (1 : Int)) (fun h9 => absurd h9 (by decide)) (fun h9 => ?_)
      refine zw_s (pc' := 52) rfl rfl ?_
      refine zw_s (pc' := 56) rfl rfl ?_
      obtain ⟨K9, c1, c2, c3, c4⟩ := yc_rf (L := L) (σ := σ) (d := d) (wa := wa) (x := Int32.ofInt 2) h
      refine zw_c (pc' := 59) (zw_cv (q := 53) (Y := zm_87) W.1 rfl rfl zm_87_t rfl rfl) rfl rfl rfl rfl rfl (c1) ?_
      refine zw_rz rfl rfl (by decide) ?_
      exact ⟨K9, rfl, c2, c3, by rw [c4, if_pos (show yB T n p from Or.inl (by omega))]; rfl⟩
    · refine zw_ld (n := 1) (k := 0) (f := zp_isR) (pc' := 18) rfl rfl rfl rfl rfl ?_
      refine zw_gR (q := 53) (pc' := 21) W rfl rfl rfl rfl (W.2 53 0 _ rfl) rfl ?_
      refine zw_gI (q := 52) (pc' := 24) W rfl rfl rfl rfl rfl rfl ?_
      refine zw_s (pc' := 25) rfl rfl ?_
      refine zw_beq2 (g := 40) (pc' := 28) rfl rfl rfl rfl (rfl : _ = (3 : Int)) (fun h3 => ?_) (fun h3 => ?_)
      · refine zw_s (pc' := 41) rfl rfl ?_
        refine zw_s (pc' := 45) rfl rfl ?_
        refine zw_st (n := 1) (k := 3) (f := zp_isI) (pc' := 46) rfl rfl rfl rfl rfl ?_
        refine zw_ld (n := 1) (k := 0) (f := zp_isR) (pc' := 47) rfl rfl (zw_gt rfl rfl rfl) rfl rfl ?_
        refine zw_ld (n := 1) (k := 3) (f := zp_isI) (pc' := 48) rfl rfl zw_g1 rfl rfl ?_
        refine zw_beq1 (g := 55) (pc' := 51) rfl rfl rfl (rfl : _ = (1 : Int)) (fun h9 => absurd h9 (by decide)) (fun h9 => ?_)
        refine zw_s (pc' := 52) rfl rfl ?_
        refine zw_s (pc' := 56) rfl rfl ?_
        obtain ⟨K9, c1, c2, c3, c4⟩ := yc_rf (L := L) (σ := σ) (d := d) (wa := wa) (x := Int32.ofInt 2) h
        refine zw_c (pc' := 59) (zw_cv (q := 53) (Y := zm_87) W.1 rfl rfl zm_87_t rfl rfl) rfl rfl rfl rfl rfl (c1) ?_
        refine zw_rz rfl rfl (by decide) ?_
        exact ⟨K9, rfl, c2, c3, by rw [c4, if_pos (show yB T n p from Or.inr (Or.inl (by omega)))]; rfl⟩
      · refine zw_ld (n := 1) (k := 0) (f := zp_isR) (pc' := 29) rfl rfl rfl rfl rfl ?_
        refine zw_gR (q := 53) (pc' := 32) W rfl rfl rfl rfl (W.2 53 0 _ rfl) rfl ?_
        refine zw_s (pc' := 34) rfl rfl ?_
        by_cases ha : ys_kd T n p = 4 ∧ ys_vl T n p = 40
        · refine zw_c (pc' := 37) (zw_cv (q := 52) (Y := zm_86) W.1 rfl rfl zm_86_t rfl rfl) rfl rfl rfl rfl rfl (yc_sg1 rfl h ha) ?_
          refine zw_beq1 (g := 44) (pc' := 40) rfl rfl rfl (rfl : _ = (1 : Int)) (fun h9 => absurd h9 (by decide)) (fun h9 => ?_)
          refine zw_s (pc' := 41) rfl rfl ?_
          refine zw_s (pc' := 45) rfl rfl ?_
          refine zw_st (n := 1) (k := 3) (f := zp_isI) (pc' := 46) rfl rfl rfl rfl rfl ?_
          refine zw_ld (n := 1) (k := 0) (f := zp_isR) (pc' := 47) rfl rfl (zw_gt rfl rfl rfl) rfl rfl ?_
          refine zw_ld (n := 1) (k := 3) (f := zp_isI) (pc' := 48) rfl rfl zw_g1 rfl rfl ?_
          refine zw_beq1 (g := 55) (pc' := 51) rfl rfl rfl (rfl : _ = (1 : Int)) (fun h9 => absurd h9 (by decide)) (fun h9 => ?_)
          refine zw_s (pc' := 52) rfl rfl ?_
          refine zw_s (pc' := 56) rfl rfl ?_
          obtain ⟨K9, c1, c2, c3, c4⟩ := yc_rf (L := L) (σ := σ) (d := d) (wa := wa) (x := Int32.ofInt 2) h
          refine zw_c (pc' := 59) (zw_cv (q := 53) (Y := zm_87) W.1 rfl rfl zm_87_t rfl rfl) rfl rfl rfl rfl rfl (c1) ?_
          refine zw_rz rfl rfl (by decide) ?_
          exact ⟨K9, rfl, c2, c3, by rw [c4, if_pos (show yB T n p from Or.inr (Or.inr ha))]; rfl⟩
        · refine zw_c (pc' := 37) (zw_cv (q := 52) (Y := zm_86) W.1 rfl rfl zm_86_t rfl rfl) rfl rfl rfl rfl rfl (yc_sg0 rfl h ha) ?_
          refine zw_beq1 (g := 44) (pc' := 40) rfl rfl rfl (rfl : _ = (0 : Int)) (fun h9 => ?_) (fun h9 => absurd h9 (by decide))
          refine zw_s (pc' := 45) rfl rfl ?_
          refine zw_st (n := 1) (k := 3) (f := zp_isI) (pc' := 46) rfl rfl rfl rfl rfl ?_
          refine zw_ld (n := 1) (k := 0) (f := zp_isR) (pc' := 47) rfl rfl (zw_gt rfl rfl rfl) rfl rfl ?_
          refine zw_ld (n := 1) (k := 3) (f := zp_isI) (pc' := 48) rfl rfl zw_g1 rfl rfl ?_
          refine zw_beq1 (g := 55) (pc' := 51) rfl rfl rfl (rfl : _ = (0 : Int)) (fun h9 => ?_) (fun h9 => absurd h9 (by decide))
          refine zw_s (pc' := 56) rfl rfl ?_
          obtain ⟨K9, c1, c2, c3, c4⟩ := yc_rf (L := L) (σ := σ) (d := d) (wa := wa) (x := Int32.ofInt 1) h
          refine zw_c (pc' := 59) (zw_cv (q := 53) (Y := zm_87) W.1 rfl rfl zm_87_t rfl rfl) rfl rfl rfl rfl rfl (c1) ?_
          refine zw_rz rfl rfl (by decide) ?_
          exact ⟨K9, rfl, c2, c3, by rw [c4, if_neg (show ¬ yB T n p from fun h9 => by rcases h9 with h9 | h9 | h9 <;> omega)]; rfl⟩

theorem yG_6 {L : Nat} {σ : Nat → Int32} {T : Nat → Int} {n wa wr : Nat} : yG L σ T n wa wr 2 5 := by
  intro lv x p H hl hx h
  obtain ⟨X, c1, H1, rfl, c2, c3, c4⟩ := yc_ex6 (L := L) (σ := σ) (wa := wa) (wr := wr) (d := 0) (x := x) (by omega) h
  refine ⟨_, c1, _, H1, p, rfl, c2, c3, Or.inr ⟨rfl, (if yB T n p then 2 else 1, p), fun h9 => by omega, fun _ => rfl, rfl, c4, ?_⟩⟩
  show 1 ≤ (if yB T n p then (2 : Int) else 1) ∧ (if yB T n p then (2 : Int) else 1) ≤ 5
  split <;> decide
theorem yK_85 {L : Nat} {σ : Nat → Int32} {T : Nat → Int} {n wa wr c l : Nat} (hl6 : l < 6) (hP : yc_P L σ wr wa) (hE : yG L σ T n wa wr c l) : yK L σ T n wa wr 1 85 2 (fun lv => yQ5 T n lv.tail) (some false) (c + 10) l := by
  have h1 := yc_part hl6 hP hE
  have h2 := yc_prod (c := c) hP h1
  have h3 := yc_sum (c := c + 1) hP h2
  have h4 := yc_test (c := c + 2) hP h3
  have h5 := yc_not (c := c + 3) hP h4
  have h6 := yc_and (c := c + 4) hP h5
  exact yc_expr (c := c + 5) hl6 hP h6
theorem yG_dn {L : Nat} {σ : Nat → Int32} {T : Nat → Int} {n wa wr c l : Nat} (hl5 : l < 5) (h : yK L σ T n wa wr 1 85 2 (fun lv => yQ5 T n lv.tail) (some false) c (l + 1)) : yG L σ T n wa wr c l := by
  intro lv x p H hl hx hE
  obtain ⟨X, c1, v, H1, q, rfl, c2, c3, c4⟩ := h (false :: lv) x p H (by rw [List.length_cons, hl]) (fun b' h9 => by cases h9; rfl) hx hE
  refine ⟨_, c1, v, H1, q, rfl, c2, c3, ?_⟩
  rcases c4 with ⟨a, b, lv', e1, e2⟩ | ⟨a, r, e1, e2⟩
  · exact Or.inl ⟨a, b, by omega, lv', e1, xRC_up (Nat.le_refl _) (by omega) e2⟩
  · exact Or.inr ⟨a, r, fun _ => e1, fun h9 => absurd (by omega) h9, e2⟩
/-- a whole expression -/
theorem yc_EX {L : Nat} {σ : Nat → Int32} {T : Nat → Int} {n wa wr : Nat} (hP : yc_P L σ wr wa) : yK L σ T n wa wr 1 85 2 (fun lv => yQ5 T n lv.tail) (some false) 62 0 := by
  have h5 := yK_85 (T := T) (n := n) (c := 2) (l := 5) (by decide) hP yG_6
  have h4 := yK_85 (c := 12) (l := 4) (by decide) hP (yG_dn (by decide) h5)
  have h3 := yK_85 (c := 22) (l := 3) (by decide) hP (yG_dn (by decide) h4)
  have h2 := yK_85 (c := 32) (l := 2) (by decide) hP (yG_dn (by decide) h3)
  have h1 := yK_85 (c := 42) (l := 1) (by decide) hP (yG_dn (by decide) h2)
  exact yK_85 (c := 52) (l := 0) (by decide) hP (yG_dn (by decide) h1)
theorem yc_readExpr {L : Nat} {σ : Nat → Int32} {T : Nat → Int} {n wa wr p : Nat} {H : zp_H} (hP : yc_P L σ wr wa) (h : yE T n p H) : ∃ (v : Int32) (H1 : zp_H) (q : Nat), zp_Call L σ 62 85 [.inr (.inr (some 54)), .inr (.inr (some wr)), .inl (Int32.ofInt 0)] H (.inl (some (.inl v)), H1) ∧ yE T n q H1 ∧ zk_Fr zg yx_m [wa] H H1 ∧ ((v.toInt = 1 ∧ p < q ∧ yA T n (2, [false], p) (0, q) ∧ (0 ≤ (H.2.1 53 1).toInt → (H.2.1 53 1).toInt ≤ p → ∃ C, yTA T n (2, [false], p) [] [] (q, C) ∧ xOp 37 C ∧ (C.length : Int) + p ≤ q ∧ xGr wa C H H1)) ∨ (v.toInt = 0 ∧ ∃ k : Int, yA T n (2, [false], p) (k, q) ∧ (H1.2.1 53 2).toInt = k ∧ 1 ≤ k ∧ k ≤ 5)) := by
  obtain ⟨X, c1, v, H1, q, rfl, c2, c3, c4⟩ := yc_EX (L := L) (σ := σ) (T := T) (n := n) hP [false] (Int32.ofInt 0) p H rfl (fun b' h9 => by cases h9; rfl) rfl h
  refine ⟨v, H1, q, c1, c2, c3, ?_⟩
  rcases c4 with ⟨a, b, lv', e1, e2⟩ | ⟨a, ⟨k, q'⟩, e1, rfl, e2, e3⟩
  · have hend : yN T n (0, lv', q) = .inr (0, q) := by
      obtain ⟨⟨⟨t, rfl, f1, f2⟩, f3⟩, f4⟩ := e1
      rw [yN_en ⟨fun h9 => ?_, f1.2, f1.1.2⟩ (fun h9 => ?_) (fun h9 => absurd h9.2.2 (by show ¬ 1 < 1; omega)), if_neg (by show ¬ 1 < 1; omega)]
      · rcases h9.2 with h8 | h8
        · exact f3 ⟨h9.1, h8⟩
        · exact f4 ⟨h9.1, h8⟩
      · exact f2 (Option.some.inj h9.2.2) ⟨h9.1, h9.2.1⟩
    refine Or.inl ⟨a, b, e2.1 _ (yA_done hend), fun h0 h1 => ?_⟩
    obtain ⟨C, c1, c2, c3, c4⟩ := e2.2 h0 h1
    exact ⟨C, xPo_end c1 hend, xOp_m (by omega) c2, c3, c4⟩
  · exact Or.inr ⟨a, k, e1, e2, e3⟩
