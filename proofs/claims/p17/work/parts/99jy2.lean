/-! ===== the helm: a pilot sails ===== -/
def zm_23 : za_MI := (yX8_knownBy, prog_10_method_8_code, 7, (some FieldType.long), 8, 0, 0, [], za_i23)
theorem zm_23_t : za_MT 23 = some zm_23 := rfl
def zm_35 : za_MI := (yX5_sailBy, prog_7_method_2_code, 6, none, 5, 0, 0, [], za_i35)
theorem zm_35_t : za_MT 35 = some zm_35 := rfl
def zm_36 : za_MI := (yX5_lookForGoal, prog_7_method_3_code, 2, none, 5, 0, 0, [], za_i36)
theorem zm_36_t : za_MT 36 = some zm_36 := rfl
def zm_38 : za_MI := (yX5_lookAround, prog_7_method_4_code, 6, none, 5, 0, 0, [], za_i38)
theorem zm_38_t : za_MT 38 = some zm_38 := rfl
/-- but the helm nothing is changed -/
def xFg (H H1 : zp_H) : Prop := H1.1 = H.1 ∧ H1.2.2.2 = H.2.2.2 ∧ (∀ p k, p ≠ 57 → p ≠ 58 → p ≠ 59 → ¬ (p = 56 ∧ k = 2) → H1.2.1 p k = H.2.1 p k) ∧ ∀ p k, p ≠ 57 → H1.2.2.1 p k = H.2.2.1 p k
theorem xFg_r (H : zp_H) : xFg H H := ⟨rfl, rfl, fun _ _ _ _ _ _ => rfl, fun _ _ _ => rfl⟩
theorem xFg_t {H H1 H2 : zp_H} (h1 : xFg H H1) (h2 : xFg H1 H2) : xFg H H2 := ⟨h2.1.trans h1.1, h2.2.1.trans h1.2.1, fun p k a b c e => (h2.2.2.1 p k a b c e).trans (h1.2.2.1 p k a b c e), fun p k a => (h2.2.2.2 p k a).trans (h1.2.2.2 p k a)⟩
theorem xFg_h {H H1 : zp_H} (h : xFh H H1) : xFg H H1 := ⟨h.1, h.2.1, fun p k _ b _ e => h.2.2.1 p k b e, fun p k _ => h.2.2.2 p k⟩
theorem xFg_s {H H1 : zp_H} (h : xFr 57 H H1) : xFg H H1 := ⟨h.1, h.2.1, fun p k a _ _ _ => h.2.2.1 p k (fun h9 => a h9.1), fun p k a => h.2.2.2 p k a⟩
theorem xFg_v {H H1 : zp_H} (h : xFv 57 H H1) : xFg H H1 := ⟨h.1, h.2.1, fun p k a _ _ _ => h.2.2.1 p k a, fun p k a => h.2.2.2 p k a⟩
theorem xFg_9 {H H1 : zp_H} (h : xFv 59 H H1) (h9 : ∀ p k, H1.2.2.1 p k = H.2.2.1 p k) : xFg H H1 := ⟨h.1, h.2.1, fun p k _ _ a _ => h.2.2.1 p k a, fun p k _ => h9 p k⟩
theorem xFg_I {k : Nat} {H : zp_H} {x : Int32} : xFg H (zw_I H 57 k x) := ⟨rfl, rfl, fun p j a _ _ _ => y_ne (fun h9 => a h9.1), fun _ _ _ => rfl⟩
theorem xFg_W {H H1 : zp_H} (h : xFg H H1) (W : zw_W H) : zw_W H1 := ⟨h.1.trans W.1, fun p k r hr => (congrFun (congrFun h.2.1 p) k).trans (W.2 p k r hr)⟩
theorem xFg_5 {H H1 : zp_H} (h : xFg H H1) : ∀ p k, p < 56 → H1.2.1 p k = H.2.1 p k := fun p k hp => h.2.2.1 p k (by omega) (by omega) (by omega) (by omega)
theorem xSC_g {p : Nat} {H H1 : zp_H} {S : xSea} (h : xFg H H1) (hp : p = 2 ∨ p = 22) (hC : xSC p H S) : xSC p H1 S := by
  have e : ∀ q k, q = p ∨ q = p + 2 → H1.2.1 q k = H.2.1 q k := fun q k hq => xFg_5 h q k (by omega)
  have e1 : ∀ q k, q = p ∨ q = p + 1 → H1.2.2.1 q k = H.2.2.1 q k := fun q k hq => h.2.2.2 q k (by omega)
  refine ⟨(congrArg Int32.toInt (e p 0 (Or.inl rfl))).trans hC.1, (congrArg Int32.toInt (e p 1 (Or.inl rfl))).trans hC.2.1, (e1 p 3 (Or.inl rfl)).trans hC.2.2.1, fun k hk => (congrArg Int32.toInt (e (p + 2) k (Or.inr rfl))).trans (hC.2.2.2.1 k hk), fun k hk => ?_⟩
  rw [e p 0 (Or.inl rfl), e p 1 (Or.inl rfl)]
  exact (e1 (p + 1) k (Or.inr rfl)).trans (hC.2.2.2.2 k hk)
theorem xSC_9 {p : Nat} {H H1 : zp_H} {S : xSea} (h : xFv 59 H H1) (hp : p = 2 ∨ p = 22) (hC : xSC p H S) : xSC p H1 S := by
  have e : ∀ q k, q = p ∨ q = p + 2 → H1.2.1 q k = H.2.1 q k := fun q k hq => h.2.2.1 q k (by omega)
  have e1 : ∀ q k, q = p ∨ q = p + 1 → H1.2.2.1 q k = H.2.2.1 q k := fun q k hq => h.2.2.2 q k (by omega)
  refine ⟨(congrArg Int32.toInt (e p 0 (Or.inl rfl))).trans hC.1, (congrArg Int32.toInt (e p 1 (Or.inl rfl))).trans hC.2.1, (e1 p 3 (Or.inl rfl)).trans hC.2.2.1, fun k hk => (congrArg Int32.toInt (e (p + 2) k (Or.inr rfl))).trans (hC.2.2.2.1 k hk), fun k hk => ?_⟩
  rw [e p 0 (Or.inl rfl), e p 1 (Or.inl rfl)]
  exact (e1 (p + 1) k (Or.inr rfl)).trans (hC.2.2.2.2 k hk)
/-- the class holds the rules CC -/
def xCC (wp : Nat) (CC : Nat → List xIt) (H : zp_H) : Prop := (0 ≤ (H.2.1 wp 16).toInt ∧ (H.2.1 wp 16).toInt ≤ 8) ∧ (∀ r : Nat, (r : Int) < (H.2.1 wp 16).toInt → xOp 37 (CC r) ∧ xCl wp H r (CC r) ∧ (H.2.1 (wp + 9) r).toInt ≤ 700) ∧ ∀ r : Nat, (r : Int) < (H.2.1 wp 16).toInt → -1 ≤ (H.2.1 (wp + 8) r).toInt ∧ (H.2.1 (wp + 8) r).toInt ≤ 3
theorem xCC_f {wp : Nat} {CC : Nat → List xIt} {H H1 : zp_H} (hp : wp = 2 ∨ wp = 22) (e : ∀ p k, p < 56 → H1.2.1 p k = H.2.1 p k) (h : xCC wp CC H) : xCC wp CC H1 := by
  obtain ⟨h1, h2, h3⟩ := h
  have e16 := e wp 16 (by omega)
  unfold xCC
  rw [e16]
  refine ⟨h1, fun r hr => ?_, fun r hr => by rw [e _ _ (by omega)]; exact h3 r hr⟩
  obtain ⟨a, b, c⟩ := h2 r hr
  exact ⟨a, xCl_e (fun k _ => e _ k (by omega)) (fun k _ => e _ k (by omega)) b, by rw [e _ _ (by omega)]; exact c⟩

theorem xh_laL2 {L : Nat} {σ : Nat → Int32} {d : Nat} {P : zp_X → Prop} {S : xSea} {u : Int64} {H0 : zp_H} (hS : xOk S) (hC : xSC 2 H0 S) (hc : xIn S (H0.2.1 57 0).toInt) : ∀ (n : Nat) (H : zp_H) (lv : zp_LV) (y : Int32), zw_W H → xFv 59 H0 H → (∀ p k, H.2.2.1 p k = H0.2.2.1 p k) → 0 ≤ y.toInt → y.toInt + (n : Int) = 4 → (∀ k : Nat, (k : Int) < y.toInt ∨ (4 ≤ k ∧ k < 8) → H.2.1 59 k = (xVl S (H0.2.1 57 0) (H0.2.1 57 1) u k)) → zp_get lv 0 = some (.inr (.inr (some 57))) → zp_get lv 1 = some (.inr (.inr (some 3))) → zp_get lv 2 = some (.inr (.inl u)) → zp_get lv 4 = some (.inl y) → (∀ H1, zw_W H1 → xFv 59 H0 H1 → (∀ p k, H1.2.2.1 p k = H0.2.2.1 p k) → (∀ k, k < 8 → H1.2.1 59 k = (xVl S (H0.2.1 57 0) (H0.2.1 57 1) u k)) → P (.inl none, H1)) → zs_Safe L σ P zm_38 [] (d + 1) (85, lv, [], H, (0, 0)) := by
  intro n
  induction n with
  | zero =>
    intro H lv y W hF hl h5 hn hL l0 l1 l2 l4 hP
    refine zw_ld (n := 2) (k := 4) (f := zp_isI) (pc' := 87) rfl rfl l4 rfl rfl ?_
    refine zw_s (pc' := 88) rfl rfl ?_
    refine zw_bge2 (g := 141) (pc' := 91) rfl rfl rfl rfl (rfl : _ = (4 : Int)) (fun h1 => ?_) (fun h1 => ?_)
    · refine zw_rn rfl rfl ?_
      exact hP H W hF hl (fun k hk => hL k (by omega))
    · have h1 : y.toInt < (4 : Int) := h1
      omega
  | succ n ih =>
    intro H lv y W hF hl h5 hn hL l0 l1 l2 l4 hP
    refine zw_ld (n := 2) (k := 4) (f := zp_isI) (pc' := 87) rfl rfl l4 rfl rfl ?_
    refine zw_s (pc' := 88) rfl rfl ?_
    refine zw_bge2 (g := 141) (pc' := 91) rfl rfl rfl rfl (rfl : _ = (4 : Int)) (fun h1 => ?_) (fun h1 => ?_)
    · have h1 : (4 : Int) ≤ y.toInt := h1
      omega
    · have ey : (y + Int32.ofInt 1).toInt = y.toInt + 1 := zw_p1 (by omega)
      have e0 : H.2.1 57 0 = H0.2.1 57 0 := hF.2.2.1 57 0 (by decide)
      have q := xc_nc2 (L := L) (σ := σ) (d := d) (xc := H0.2.1 57 0) (xw := y) W hS (xSC_9 hF (by decide) hC) hc ⟨by omega, by omega⟩
      rw [if_neg (show ¬ y.toInt = -1 by omega)] at q
      have hb := xBe_64 (c := (H0.2.1 57 0).toInt) (d := y.toInt) hS
      have eb : (Int32.ofInt (xBe S.1 S.2.1 (H0.2.1 57 0).toInt y.toInt)).toInt = (xBe S.1 S.2.1 (H0.2.1 57 0).toInt y.toInt) := x_of (by omega) (by omega)
      have en : ((y.toInt.toNat : Nat) : Int) = y.toInt := by omega
      refine zw_ld (n := 1) (k := 1) (f := zp_isR) (pc' := 92) rfl rfl l1 rfl rfl ?_
      refine zw_ld (n := 1) (k := 0) (f := zp_isR) (pc' := 93) rfl rfl l0 rfl rfl ?_
      refine zw_gR (q := 56) (pc' := 96) W rfl rfl rfl rfl (W.2 56 0 _ rfl) rfl ?_
      refine zw_gI (q := 57) (pc' := 99) W rfl rfl rfl rfl rfl rfl ?_
      refine zw_ld (n := 2) (k := 4) (f := zp_isI) (pc' := 101) rfl rfl l4 rfl rfl ?_
      rw [e0]
      refine zw_c (pc' := 104) (zw_cv (q := 2) (Y := zm_30) W.1 rfl rfl zm_30_t rfl rfl) rfl rfl rfl rfl rfl (q) ?_
      refine zw_st (n := 2) (k := 5) (f := zp_isI) (pc' := 106) rfl rfl rfl rfl rfl ?_
      refine zw_ld (n := 1) (k := 0) (f := zp_isR) (pc' := 107) rfl rfl (zw_gt l0 rfl rfl) rfl rfl ?_
      refine zw_gR (q := 56) (pc' := 110) W rfl rfl rfl rfl (W.2 56 3 _ rfl) rfl ?_
      refine zw_ld (n := 2) (k := 4) (f := zp_isI) (pc' := 112) rfl rfl (zw_gt l4 rfl rfl) rfl rfl ?_
      refine zw_ld (n := 2) (k := 5) (f := zp_isI) (pc' := 114) rfl rfl zw_g1 rfl rfl ?_
      refine zw_s (pc' := 115) rfl rfl ?_
      refine zw_beq2 (g := 129) (pc' := 118) rfl rfl rfl rfl (rfl : _ = (-1 : Int)) (fun h2 => ?_) (fun h2 => ?_)
      · have ev : xVl S (H0.2.1 57 0) (H0.2.1 57 1) u y.toInt.toNat = Int32.ofInt 1 := by
          unfold xVl
          rw [if_pos (by omega), en]
          exact if_pos (Or.inl (by have h2 : (Int32.ofInt (xBe S.1 S.2.1 (H0.2.1 57 0).toInt y.toInt)).toInt = (-1 : Int) := h2; omega))
        refine zw_s (pc' := 130) rfl rfl ?_
        refine zw_s (pc' := 134) rfl rfl ?_
        refine zw_is (q := 59) (pc' := 135) W rfl rfl (by decide) (⟨h5, by show _ < ((8 : Nat) : Int); omega⟩) rfl ?_
        refine zw_ii (pc' := 138) rfl (zw_gt l4 rfl rfl) rfl rfl ?_
        refine zw_s (pc' := 85) rfl rfl ?_
        refine ih _ _ (y + Int32.ofInt 1) (zw_W_I W) (xFv_I hF) (fun p j => hl p j) (by omega) (by omega) (fun j hj => ?_) (zw_gt (zw_gt l0 rfl rfl) rfl rfl) (zw_gt (zw_gt l1 rfl rfl) rfl rfl) (zw_gt (zw_gt l2 rfl rfl) rfl rfl) zw_g1 hP
        by_cases h9 : j = y.toInt.toNat
        · rw [h9, ev]
          exact zw_eq
        · exact (y_ne (fun h8 => h9 h8.2)).trans (hL j (by omega))
      · have h2 : ¬ (Int32.ofInt (xBe S.1 S.2.1 (H0.2.1 57 0).toInt y.toInt)).toInt = (-1 : Int) := h2
        have h64 : 0 ≤ (Int32.ofInt (xBe S.1 S.2.1 (H0.2.1 57 0).toInt y.toInt)).toInt ∧ (Int32.ofInt (xBe S.1 S.2.1 (H0.2.1 57 0).toInt y.toInt)).toInt ≤ 63 := by omega
        refine zw_ld (n := 1) (k := 2) (f := zp_isL) (pc' := 119) rfl rfl (zw_gt l2 rfl rfl) rfl rfl ?_
        refine zw_ld (n := 2) (k := 5) (f := zp_isI) (pc' := 121) rfl rfl zw_g1 rfl rfl ?_
        refine zw_lushr (pc' := 122) rfl rfl ?_
        refine zw_s (pc' := 123) rfl rfl ?_
        refine zw_land (pc' := 124) rfl rfl ?_
        refine zw_s (pc' := 125) rfl rfl ?_
        refine zw_s (pc' := 126) rfl rfl ?_
        refine zw_beq1 (g := 133) (pc' := 129) rfl rfl rfl rfl (fun h3 => ?_) (fun h3 => ?_)
        · have hb3 := yT_0 h64 h3
          rw [eb] at hb3
          have ev : xVl S (H0.2.1 57 0) (H0.2.1 57 1) u y.toInt.toNat = Int32.ofInt 0 := by
            unfold xVl
            rw [if_pos (by omega), en]
            exact if_neg (fun h9 => h9.elim (fun h8 => by omega) (fun h8 => by rw [hb3] at h8; cases h8))
          refine zw_s (pc' := 134) rfl rfl ?_
          refine zw_is (q := 59) (pc' := 135) W rfl rfl (by decide) (⟨h5, by show _ < ((8 : Nat) : Int); omega⟩) rfl ?_
          refine zw_ii (pc' := 138) rfl (zw_gt l4 rfl rfl) rfl rfl ?_
          refine zw_s (pc' := 85) rfl rfl ?_
          refine ih _ _ (y + Int32.ofInt 1) (zw_W_I W) (xFv_I hF) (fun p j => hl p j) (by omega) (by omega) (fun j hj => ?_) (zw_gt (zw_gt l0 rfl rfl) rfl rfl) (zw_gt (zw_gt l1 rfl rfl) rfl rfl) (zw_gt (zw_gt l2 rfl rfl) rfl rfl) zw_g1 hP
          by_cases h9 : j = y.toInt.toNat
          · rw [h9, ev]
            exact zw_eq
          · exact (y_ne (fun h8 => h9 h8.2)).trans (hL j (by omega))
        · have hb3 := yT_1 h64 h3
          rw [eb] at hb3
          have ev : xVl S (H0.2.1 57 0) (H0.2.1 57 1) u y.toInt.toNat = Int32.ofInt 1 := by
            unfold xVl
            rw [if_pos (by omega), en]
            exact if_pos (Or.inr hb3)
          refine zw_s (pc' := 130) rfl rfl ?_
          refine zw_s (pc' := 134) rfl rfl ?_
          refine zw_is (q := 59) (pc' := 135) W rfl rfl (by decide) (⟨h5, by show _ < ((8 : Nat) : Int); omega⟩) rfl ?_
          refine zw_ii (pc' := 138) rfl (zw_gt l4 rfl rfl) rfl rfl ?_
          refine zw_s (pc' := 85) rfl rfl ?_
          refine ih _ _ (y + Int32.ofInt 1) (zw_W_I W) (xFv_I hF) (fun p j => hl p j) (by omega) (by omega) (fun j hj => ?_) (zw_gt (zw_gt l0 rfl rfl) rfl rfl) (zw_gt (zw_gt l1 rfl rfl) rfl rfl) (zw_gt (zw_gt l2 rfl rfl) rfl rfl) zw_g1 hP
          by_cases h9 : j = y.toInt.toNat
          · rw [h9, ev]
            exact zw_eq
          · exact (y_ne (fun h8 => h9 h8.2)).trans (hL j (by omega))

theorem xh_la2 {L : Nat} {σ : Nat → Int32} {d : Nat} {S : xSea} {u : Int64} {H0 : zp_H} (hS : xOk S) (hC : xSC 2 H0 S) (hc : xIn S (H0.2.1 57 0).toInt) (W : zw_W H0) : ∃ X, zp_Call L σ (d + 3) 38 [.inr (.inr (some 57)), .inr (.inr (some 3)), .inr (.inl u)] H0 X ∧ ∃ H1, X = (.inl none, H1) ∧ zw_W H1 ∧ xFv 59 H0 H1 ∧ (∀ p k, H1.2.2.1 p k = H0.2.2.1 p k) ∧ ∀ k, k < 8 → H1.2.1 59 k = (xVl S (H0.2.1 57 0) (H0.2.1 57 1) u k) := by
  have hw9 : 2 ≤ (H0.2.1 2 0).toInt := by have := hC.1; have := hS.1; omega
  have h64 := xIn_64 hS hc
  have hw0 : (H0.2.1 2 0).toInt = S.1 := hC.1
  obtain ⟨_, a1, a, rfl, a2⟩ := yc_xOf2 (L := L) (σ := σ) (d := d + 1) (H := H0) (x := H0.2.1 57 0) W hw9 h64.1
  refine zw_met zm_38_t rfl rfl ?_
  refine zw_ld (n := 1) (k := 0) (f := zp_isR) (pc' := 1) rfl rfl rfl rfl rfl ?_
  refine zw_gR (q := 56) (pc' := 4) W rfl rfl rfl rfl (W.2 56 3 _ rfl) rfl ?_
  refine zw_s (pc' := 5) rfl rfl ?_
  refine zw_ld (n := 1) (k := 1) (f := zp_isR) (pc' := 6) rfl rfl rfl rfl rfl ?_
  refine zw_ld (n := 1) (k := 0) (f := zp_isR) (pc' := 7) rfl rfl rfl rfl rfl ?_
  refine zw_gR (q := 56) (pc' := 10) W rfl rfl rfl rfl (W.2 56 0 _ rfl) rfl ?_
  refine zw_gI (q := 57) (pc' := 13) W rfl rfl rfl rfl rfl rfl ?_
  refine zw_c (pc' := 16) (zw_cv (q := 2) (Y := zm_37) W.1 rfl rfl zm_37_t rfl rfl) rfl rfl rfl rfl rfl (a1) ?_
  have k0 : (zw_I H0 59 (Int32.ofInt 4).toInt.toNat a).2.1 57 0 = H0.2.1 57 0 := zw_ne rfl rfl
  have kw : (zw_I H0 59 (Int32.ofInt 4).toInt.toNat a).2.1 2 0 = H0.2.1 2 0 := zw_ne rfl rfl
  obtain ⟨_, b1, b, rfl, b2⟩ := yc_yOf2 (L := L) (σ := σ) (d := d + 1) (H := (zw_I H0 59 (Int32.ofInt 4).toInt.toNat a)) (x := H0.2.1 57 0) (zw_W_I W) (by rw [kw]; exact hw9) h64.1
  rw [kw] at b2
  refine zw_is (q := 59) (pc' := 17) W rfl rfl (by decide) (⟨by decide, by decide⟩) rfl ?_
  refine zw_ld (n := 1) (k := 0) (f := zp_isR) (pc' := 18) rfl rfl rfl rfl rfl ?_
  refine zw_gR (q := 56) (pc' := 21) (zw_W_I W) rfl rfl rfl rfl ((zw_W_I W).2 56 3 _ rfl) rfl ?_
  refine zw_s (pc' := 22) rfl rfl ?_
  refine zw_ld (n := 1) (k := 1) (f := zp_isR) (pc' := 23) rfl rfl rfl rfl rfl ?_
  refine zw_ld (n := 1) (k := 0) (f := zp_isR) (pc' := 24) rfl rfl rfl rfl rfl ?_
  refine zw_gR (q := 56) (pc' := 27) (zw_W_I W) rfl rfl rfl rfl ((zw_W_I W).2 56 0 _ rfl) rfl ?_
  refine zw_gI (q := 57) (pc' := 30) (zw_W_I W) rfl rfl rfl rfl (zw_ne rfl rfl) rfl ?_
  refine zw_c (pc' := 33) (zw_cv (q := 2) (Y := zm_39) (zw_W_I W).1 rfl rfl zm_39_t rfl rfl) rfl rfl rfl rfl rfl (b1) ?_
  have q := xc_dr2 (L := L) (σ := σ) (d := d) (H := (zw_I (zw_I (zw_I H0 59 (Int32.ofInt 4).toInt.toNat a) 59 (Int32.ofInt 5).toInt.toNat b) 59 (Int32.ofInt 6).toInt.toNat (H0.2.1 57 1))) (x1 := H0.2.1 57 0) (x2 := H0.2.1 57 1) (zw_W_I (zw_W_I (zw_W_I W))) hS (xSC_9 (xFv_I (xFv_I (xFv_I (xFv_r H0)))) (by decide) hC) hc
  have eb : (Int32.ofInt (xDr S (H0.2.1 57 0).toInt (H0.2.1 57 1).toInt true)).toInt = xDr S (H0.2.1 57 0).toInt (H0.2.1 57 1).toInt true := by
    have := xDr_64 (c := (H0.2.1 57 0).toInt) (hr := (H0.2.1 57 1).toInt) (t := true) hS
    exact x_of (by omega) (by omega)
  refine zw_is (q := 59) (pc' := 34) (zw_W_I W) rfl rfl (by decide) (⟨by decide, by decide⟩) rfl ?_
  refine zw_ld (n := 1) (k := 0) (f := zp_isR) (pc' := 35) rfl rfl rfl rfl rfl ?_
  refine zw_gR (q := 56) (pc' := 38) (zw_W_I (zw_W_I W)) rfl rfl rfl rfl ((zw_W_I (zw_W_I W)).2 56 3 _ rfl) rfl ?_
  refine zw_s (pc' := 40) rfl rfl ?_
  refine zw_ld (n := 1) (k := 0) (f := zp_isR) (pc' := 41) rfl rfl rfl rfl rfl ?_
  refine zw_gR (q := 56) (pc' := 44) (zw_W_I (zw_W_I W)) rfl rfl rfl rfl ((zw_W_I (zw_W_I W)).2 56 0 _ rfl) rfl ?_
  refine zw_gI (q := 57) (pc' := 47) (zw_W_I (zw_W_I W)) rfl rfl rfl rfl (zw_ne (zw_ne rfl rfl) rfl) rfl ?_
  refine zw_is (q := 59) (pc' := 48) (zw_W_I (zw_W_I W)) rfl rfl (by decide) (⟨by decide, by decide⟩) rfl ?_
  refine zw_ld (n := 1) (k := 0) (f := zp_isR) (pc' := 49) rfl rfl rfl rfl rfl ?_
  refine zw_gR (q := 56) (pc' := 52) (zw_W_I (zw_W_I (zw_W_I W))) rfl rfl rfl rfl ((zw_W_I (zw_W_I (zw_W_I W))).2 56 3 _ rfl) rfl ?_
  refine zw_s (pc' := 54) rfl rfl ?_
  refine zw_ld (n := 1) (k := 1) (f := zp_isR) (pc' := 55) rfl rfl rfl rfl rfl ?_
  refine zw_ld (n := 1) (k := 0) (f := zp_isR) (pc' := 56) rfl rfl rfl rfl rfl ?_
  refine zw_gR (q := 56) (pc' := 59) (zw_W_I (zw_W_I (zw_W_I W))) rfl rfl rfl rfl ((zw_W_I (zw_W_I (zw_W_I W))).2 56 0 _ rfl) rfl ?_
  refine zw_gI (q := 57) (pc' := 62) (zw_W_I (zw_W_I (zw_W_I W))) rfl rfl rfl rfl (zw_ne (zw_ne (zw_ne rfl rfl) rfl) rfl) rfl ?_
  refine zw_ld (n := 1) (k := 0) (f := zp_isR) (pc' := 63) rfl rfl rfl rfl rfl ?_
  refine zw_gR (q := 56) (pc' := 66) (zw_W_I (zw_W_I (zw_W_I W))) rfl rfl rfl rfl ((zw_W_I (zw_W_I (zw_W_I W))).2 56 0 _ rfl) rfl ?_
  refine zw_gI (q := 57) (pc' := 69) (zw_W_I (zw_W_I (zw_W_I W))) rfl rfl rfl rfl (zw_ne (zw_ne (zw_ne rfl rfl) rfl) rfl) rfl ?_
  refine zw_c (pc' := 72) (zw_cv (q := 2) (Y := zm_33) (zw_W_I (zw_W_I (zw_W_I W))).1 rfl rfl zm_33_t rfl rfl) rfl rfl rfl rfl rfl (q) ?_
  refine zw_s (pc' := 73) rfl rfl ?_
  refine zw_beq2 (g := 80) (pc' := 76) rfl rfl rfl rfl (rfl : _ = (-1 : Int)) (fun h1 => ?_) (fun h1 => ?_)
  · refine zw_s (pc' := 81) rfl rfl ?_
    refine zw_is (q := 59) (pc' := 82) (zw_W_I (zw_W_I (zw_W_I W))) rfl rfl (by decide) (⟨by decide, by decide⟩) rfl ?_
    refine zw_s (pc' := 83) rfl rfl ?_
    refine zw_st (n := 2) (k := 4) (f := zp_isI) (pc' := 85) rfl rfl rfl rfl rfl ?_
    rw [show (Int32.ofInt 4).toInt.toNat = 4 by decide, show (Int32.ofInt 5).toInt.toNat = 5 by decide, show (Int32.ofInt 6).toInt.toNat = 6 by decide, show (Int32.ofInt 7).toInt.toNat = 7 by decide]
    refine xh_laL2 hS hC hc 4 _ _ (Int32.ofInt 0) (zw_W_I (zw_W_I (zw_W_I (zw_W_I W)))) (xFv_I (xFv_I (xFv_I (xFv_I (xFv_r H0))))) (fun _ _ => rfl) (by decide) (by decide) (fun k hk => ?_) (zw_gt rfl rfl rfl) (zw_gt rfl rfl rfl) (zw_gt rfl rfl rfl) zw_g1 (fun H1 w1 w2 w3 w4 => ⟨H1, rfl, w1, w2, w3, w4⟩)
    rw [show (Int32.ofInt 0).toInt = 0 by decide] at hk
    rcases (show k = 4 ∨ k = 5 ∨ k = 6 ∨ k = 7 by omega) with rfl | rfl | rfl | rfl
    · refine (y_ne (fun h9 => absurd h9.2 (by decide))).trans ((y_ne (fun h9 => absurd h9.2 (by decide))).trans ((y_ne (fun h9 => absurd h9.2 (by decide))).trans (zw_eq.trans ?_)))
      exact Int32.toInt_inj.mp (by rw [a2, hw0]; exact (x_of (by have := Int.emod_nonneg (H0.2.1 57 0).toInt (show S.1 ≠ 0 by have := hS.1; omega); omega) (by have := x_mle (w := S.1) h64.1 (by have := hS.1; omega); omega)).symm)
    · refine (y_ne (fun h9 => absurd h9.2 (by decide))).trans ((y_ne (fun h9 => absurd h9.2 (by decide))).trans (zw_eq.trans ?_))
      exact Int32.toInt_inj.mp (by rw [b2, hw0]; exact (x_of (by have := Int.ediv_nonneg h64.1 (show 0 ≤ S.1 by have := hS.1; omega); omega) (by have := Int.ediv_le_self S.1 h64.1; omega)).symm)
    · exact (y_ne (fun h9 => absurd h9.2 (by decide))).trans zw_eq
    · refine zw_eq.trans ?_
      exact (if_pos (by rw [← eb]; exact h1)).symm
  · refine zw_s (pc' := 77) rfl rfl ?_
    refine zw_s (pc' := 81) rfl rfl ?_
    refine zw_is (q := 59) (pc' := 82) (zw_W_I (zw_W_I (zw_W_I W))) rfl rfl (by decide) (⟨by decide, by decide⟩) rfl ?_
    refine zw_s (pc' := 83) rfl rfl ?_
    refine zw_st (n := 2) (k := 4) (f := zp_isI) (pc' := 85) rfl rfl rfl rfl rfl ?_
    rw [show (Int32.ofInt 4).toInt.toNat = 4 by decide, show (Int32.ofInt 5).toInt.toNat = 5 by decide, show (Int32.ofInt 6).toInt.toNat = 6 by decide, show (Int32.ofInt 7).toInt.toNat = 7 by decide]
    refine xh_laL2 hS hC hc 4 _ _ (Int32.ofInt 0) (zw_W_I (zw_W_I (zw_W_I (zw_W_I W)))) (xFv_I (xFv_I (xFv_I (xFv_I (xFv_r H0))))) (fun _ _ => rfl) (by decide) (by decide) (fun k hk => ?_) (zw_gt rfl rfl rfl) (zw_gt rfl rfl rfl) (zw_gt rfl rfl rfl) zw_g1 (fun H1 w1 w2 w3 w4 => ⟨H1, rfl, w1, w2, w3, w4⟩)
    rw [show (Int32.ofInt 0).toInt = 0 by decide] at hk
    rcases (show k = 4 ∨ k = 5 ∨ k = 6 ∨ k = 7 by omega) with rfl | rfl | rfl | rfl
    · refine (y_ne (fun h9 => absurd h9.2 (by decide))).trans ((y_ne (fun h9 => absurd h9.2 (by decide))).trans ((y_ne (fun h9 => absurd h9.2 (by decide))).trans (zw_eq.trans ?_)))
      exact Int32.toInt_inj.mp (by rw [a2, hw0]; exact (x_of (by have := Int.emod_nonneg (H0.2.1 57 0).toInt (show S.1 ≠ 0 by have := hS.1; omega); omega) (by have := x_mle (w := S.1) h64.1 (by have := hS.1; omega); omega)).symm)
    · refine (y_ne (fun h9 => absurd h9.2 (by decide))).trans ((y_ne (fun h9 => absurd h9.2 (by decide))).trans (zw_eq.trans ?_))
      exact Int32.toInt_inj.mp (by rw [b2, hw0]; exact (x_of (by have := Int.ediv_nonneg h64.1 (show 0 ≤ S.1 by have := hS.1; omega); omega) (by have := Int.ediv_le_self S.1 h64.1; omega)).symm)
    · exact (y_ne (fun h9 => absurd h9.2 (by decide))).trans zw_eq
    · refine zw_eq.trans ?_
      exact (if_neg (fun h9 => h1 (by rw [eb]; exact h9))).symm

theorem xh_lg2 {L : Nat} {σ : Nat → Int32} {d : Nat} {H : zp_H} (W : zw_W H) (hw : 2 ≤ (H.2.1 2 0).toInt) (hc : 0 ≤ (H.2.1 57 0).toInt) : zp_Call L σ (d + 2) 36 [.inr (.inr (some 57)), .inr (.inr (some 3))] H (.inl none, if (H.2.1 57 2).toInt = 0 ∧ (H.2.1 2 11).toInt ≤ (H.2.1 57 0).toInt % (H.2.1 2 0).toInt then zw_I H 57 2 (Int32.ofInt 4) else H) := by
  obtain ⟨_, a1, a, rfl, a2⟩ := yc_xOf2 (L := L) (σ := σ) (d := d) (H := H) (x := H.2.1 57 0) W hw hc
  refine zw_ex (zw_met zm_36_t rfl rfl ?_)
  refine zw_ld (n := 1) (k := 0) (f := zp_isR) (pc' := 1) rfl rfl rfl rfl rfl ?_
  refine zw_gR (q := 56) (pc' := 4) W rfl rfl rfl rfl (W.2 56 0 _ rfl) rfl ?_
  refine zw_gI (q := 57) (pc' := 7) W rfl rfl rfl rfl rfl rfl ?_
  refine zw_bne1 (g := 36) (pc' := 10) rfl rfl rfl rfl (fun h1 => ?_) (fun h1 => ?_)
  · refine zw_rn rfl rfl ?_
    exact congrArg (fun z => ((.inl none, z) : zp_X)) (if_neg (fun h9 => h1 h9.1)).symm
  · refine zw_ld (n := 1) (k := 1) (f := zp_isR) (pc' := 11) rfl rfl rfl rfl rfl ?_
    refine zw_ld (n := 1) (k := 0) (f := zp_isR) (pc' := 12) rfl rfl rfl rfl rfl ?_
    refine zw_gR (q := 56) (pc' := 15) W rfl rfl rfl rfl (W.2 56 0 _ rfl) rfl ?_
    refine zw_gI (q := 57) (pc' := 18) W rfl rfl rfl rfl rfl rfl ?_
    refine zw_c (pc' := 21) (zw_cv (q := 2) (Y := zm_37) W.1 rfl rfl zm_37_t rfl rfl) rfl rfl rfl rfl rfl (a1) ?_
    refine zw_ld (n := 1) (k := 1) (f := zp_isR) (pc' := 22) rfl rfl rfl rfl rfl ?_
    refine zw_gI (q := 2) (pc' := 25) W rfl rfl rfl rfl rfl rfl ?_
    refine zw_blt2 (g := 36) (pc' := 28) rfl rfl rfl rfl rfl (fun h2 => ?_) (fun h2 => ?_)
    · have h2 : a.toInt < (H.2.1 2 11).toInt := h2
      refine zw_rn rfl rfl ?_
      exact congrArg (fun z => ((.inl none, z) : zp_X)) (if_neg (fun h9 => by have := h9.2; omega)).symm
    · have h2 : (H.2.1 2 11).toInt ≤ a.toInt := h2
      refine zw_ld (n := 1) (k := 0) (f := zp_isR) (pc' := 29) rfl rfl rfl rfl rfl ?_
      refine zw_gR (q := 56) (pc' := 32) W rfl rfl rfl rfl (W.2 56 0 _ rfl) rfl ?_
      refine zw_s (pc' := 33) rfl rfl ?_
      refine zw_pI (q := 57) (pc' := 36) W rfl rfl rfl rfl rfl rfl ?_
      refine zw_rn rfl rfl ?_
      exact congrArg (fun z => ((.inl none, z) : zp_X)) (if_pos ⟨h1, by rw [← a2]; exact h2⟩).symm

theorem xh_laL22 {L : Nat} {σ : Nat → Int32} {d : Nat} {P : zp_X → Prop} {S : xSea} {u : Int64} {H0 : zp_H} (hS : xOk S) (hC : xSC 22 H0 S) (hc : xIn S (H0.2.1 57 0).toInt) : ∀ (n : Nat) (H : zp_H) (lv : zp_LV) (y : Int32), zw_W H → xFv 59 H0 H → (∀ p k, H.2.2.1 p k = H0.2.2.1 p k) → 0 ≤ y.toInt → y.toInt + (n : Int) = 4 → (∀ k : Nat, (k : Int) < y.toInt ∨ (4 ≤ k ∧ k < 8) → H.2.1 59 k = (xVl S (H0.2.1 57 0) (H0.2.1 57 1) u k)) → zp_get lv 0 = some (.inr (.inr (some 57))) → zp_get lv 1 = some (.inr (.inr (some 23))) → zp_get lv 2 = some (.inr (.inl u)) → zp_get lv 4 = some (.inl y) → (∀ H1, zw_W H1 → xFv 59 H0 H1 → (∀ p k, H1.2.2.1 p k = H0.2.2.1 p k) → (∀ k, k < 8 → H1.2.1 59 k = (xVl S (H0.2.1 57 0) (H0.2.1 57 1) u k)) → P (.inl none, H1)) → zs_Safe L σ P zm_38 [] (d + 1) (85, lv, [], H, (0, 0)) := by
  intro n
  induction n with
  | zero =>
    intro H lv y W hF hl h5 hn hL l0 l1 l2 l4 hP
    refine zw_ld (n := 2) (k := 4) (f := zp_isI) (pc' := 87) rfl rfl l4 rfl rfl ?_
    refine zw_s (pc' := 88) rfl rfl ?_
    refine zw_bge2 (g := 141) (pc' := 91) rfl rfl rfl rfl (rfl : _ = (4 : Int)) (fun h1 => ?_) (fun h1 => ?_)
    · refine zw_rn rfl rfl ?_
      exact hP H W hF hl (fun k hk => hL k (by omega))
    · have h1 : y.toInt < (4 : Int) := h1
      omega
  | succ n ih =>
    intro H lv y W hF hl h5 hn hL l0 l1 l2 l4 hP
    refine zw_ld (n := 2) (k := 4) (f := zp_isI) (pc' := 87) rfl rfl l4 rfl rfl ?_
    refine zw_s (pc' := 88) rfl rfl ?_
    refine zw_bge2 (g := 141) (pc' := 91) rfl rfl rfl rfl (rfl : _ = (4 : Int)) (fun h1 => ?_) (fun h1 => ?_)
    · have h1 : (4 : Int) ≤ y.toInt := h1
      omega
    · have ey : (y + Int32.ofInt 1).toInt = y.toInt + 1 := zw_p1 (by omega)
      have e0 : H.2.1 57 0 = H0.2.1 57 0 := hF.2.2.1 57 0 (by decide)
      have q := xc_nc22 (L := L) (σ := σ) (d := d) (xc := H0.2.1 57 0) (xw := y) W hS (xSC_9 hF (by decide) hC) hc ⟨by omega, by omega⟩
      rw [if_neg (show ¬ y.toInt = -1 by omega)] at q
      have hb := xBe_64 (c := (H0.2.1 57 0).toInt) (d := y.toInt) hS
      have eb : (Int32.ofInt (xBe S.1 S.2.1 (H0.2.1 57 0).toInt y.toInt)).toInt = (xBe S.1 S.2.1 (H0.2.1 57 0).toInt y.toInt) := x_of (by omega) (by omega)
      have en : ((y.toInt.toNat : Nat) : Int) = y.toInt := by omega
      refine zw_ld (n := 1) (k := 1) (f := zp_isR) (pc' := 92) rfl rfl l1 rfl rfl ?_
      refine zw_ld (n := 1) (k := 0) (f := zp_isR) (pc' := 93) rfl rfl l0 rfl rfl ?_
      refine zw_gR (q := 56) (pc' := 96) W rfl rfl rfl rfl (W.2 56 0 _ rfl) rfl ?_
      refine zw_gI (q := 57) (pc' := 99) W rfl rfl rfl rfl rfl rfl ?_
      refine zw_ld (n := 2) (k := 4) (f := zp_isI) (pc' := 101) rfl rfl l4 rfl rfl ?_
      rw [e0]
      refine zw_c (pc' := 104) (zw_cv (q := 22) (Y := zm_30) W.1 rfl rfl zm_30_t rfl rfl) rfl rfl rfl rfl rfl (q) ?_
      refine zw_st (n := 2) (k := 5) (f := zp_isI) (pc' := 106) rfl rfl rfl rfl rfl ?_
      refine zw_ld (n := 1) (k := 0) (f := zp_isR) (pc' := 107) rfl rfl (zw_gt l0 rfl rfl) rfl rfl ?_
      refine zw_gR (q := 56) (pc' := 110) W rfl rfl rfl rfl (W.2 56 3 _ rfl) rfl ?_
      refine zw_ld (n := 2) (k := 4) (f := zp_isI) (pc' := 112) rfl rfl (zw_gt l4 rfl rfl) rfl rfl ?_
      refine zw_ld (n := 2) (k := 5) (f := zp_isI) (pc' := 114) rfl rfl zw_g1 rfl rfl ?_
      refine zw_s (pc' := 115) rfl rfl ?_
      refine zw_beq2 (g := 129) (pc' := 118) rfl rfl rfl rfl (rfl : _ = (-1 : Int)) (fun h2 => ?_) (fun h2 => ?_)
      · have ev : xVl S (H0.2.1 57 0) (H0.2.1 57 1) u y.toInt.toNat = Int32.ofInt 1 := by
          unfold xVl
          rw [if_pos (by omega), en]
          exact if_pos (Or.inl (by have h2 : (Int32.ofInt (xBe S.1 S.2.1 (H0.2.1 57 0).toInt y.toInt)).toInt = (-1 : Int) := h2; omega))
        refine zw_s (pc' := 130) rfl rfl ?_
        refine zw_s (pc' := 134) rfl rfl ?_
        refine zw_is (q := 59) (pc' := 135) W rfl rfl (by decide) (⟨h5, by show _ < ((8 : Nat) : Int); omega⟩) rfl ?_
        refine zw_ii (pc' := 138) rfl (zw_gt l4 rfl rfl) rfl rfl ?_
        refine zw_s (pc' := 85) rfl rfl ?_
        refine ih _ _ (y + Int32.ofInt 1) (zw_W_I W) (xFv_I hF) (fun p j => hl p j) (by omega) (by omega) (fun j hj => ?_) (zw_gt (zw_gt l0 rfl rfl) rfl rfl) (zw_gt (zw_gt l1 rfl rfl) rfl rfl) (zw_gt (zw_gt l2 rfl rfl) rfl rfl) zw_g1 hP
        by_cases h9 : j = y.toInt.toNat
        · rw [h9, ev]
          exact zw_eq
        · exact (y_ne (fun h8 => h9 h8.2)).trans (hL j (by omega))
      · have h2 : ¬ (Int32.ofInt (xBe S.1 S.2.1 (H0.2.1 57 0).toInt y.toInt)).toInt = (-1 : Int) := h2
        have h64 : 0 ≤ (Int32.ofInt (xBe S.1 S.2.1 (H0.2.1 57 0).toInt y.toInt)).toInt ∧ (Int32.ofInt (xBe S.1 S.2.1 (H0.2.1 57 0).toInt y.toInt)).toInt ≤ 63 := by omega
        refine zw_ld (n := 1) (k := 2) (f := zp_isL) (pc' := 119) rfl rfl (zw_gt l2 rfl rfl) rfl rfl ?_
        refine zw_ld (n := 2) (k := 5) (f := zp_isI) (pc' := 121) rfl rfl zw_g1 rfl rfl ?_
        refine zw_lushr (pc' := 122) rfl rfl ?_
        refine zw_s (pc' := 123) rfl rfl ?_
        refine zw_land (pc' := 124) rfl rfl ?_
        refine zw_s (pc' := 125) rfl rfl ?_
        refine zw_s (pc' := 126) rfl rfl ?_
        refine zw_beq1 (g := 133) (pc' := 129) rfl rfl rfl rfl (fun h3 => ?_) (fun h3 => ?_)
        · have hb3 := yT_0 h64 h3
          rw [eb] at hb3
          have ev : xVl S (H0.2.1 57 0) (H0.2.1 57 1) u y.toInt.toNat = Int32.ofInt 0 := by
            unfold xVl
            rw [if_pos (by omega), en]
            exact if_neg (fun h9 => h9.elim (fun h8 => by omega) (fun h8 => by rw [hb3] at h8; cases h8))
          refine zw_s (pc' := 134) rfl rfl ?_
          refine zw_is (q := 59) (pc' := 135) W rfl rfl (by decide) (⟨h5, by show _ < ((8 : Nat) : Int); omega⟩) rfl ?_
          refine zw_ii (pc' := 138) rfl (zw_gt l4 rfl rfl) rfl rfl ?_
          refine zw_s (pc' := 85) rfl rfl ?_
          refine ih _ _ (y + Int32.ofInt 1) (zw_W_I W) (xFv_I hF) (fun p j => hl p j) (by omega) (by omega) (fun j hj => ?_) (zw_gt (zw_gt l0 rfl rfl) rfl rfl) (zw_gt (zw_gt l1 rfl rfl) rfl rfl) (zw_gt (zw_gt l2 rfl rfl) rfl rfl) zw_g1 hP
          by_cases h9 : j = y.toInt.toNat
          · rw [h9, ev]
            exact zw_eq
          · exact (y_ne (fun h8 => h9 h8.2)).trans (hL j (by omega))
        · have hb3 := yT_1 h64 h3
          rw [eb] at hb3
          have ev : xVl S (H0.2.1 57 0) (H0.2.1 57 1) u y.toInt.toNat = Int32.ofInt 1 := by
            unfold xVl
            rw [if_pos (by omega), en]
            exact if_pos (Or.inr hb3)
          refine zw_s (pc' := 130) rfl rfl ?_
          refine zw_s (pc' := 134) rfl rfl ?_
          refine zw_is (q := 59) (pc' := 135) W rfl rfl (by decide) (⟨h5, by show _ < ((8 : Nat) : Int); omega⟩) rfl ?_
          refine zw_ii (pc' := 138) rfl (zw_gt l4 rfl rfl) rfl rfl ?_
          refine zw_s (pc' := 85) rfl rfl ?_
          refine ih _ _ (y + Int32.ofInt 1) (zw_W_I W) (xFv_I hF) (fun p j => hl p j) (by omega) (by omega) (fun j hj => ?_) (zw_gt (zw_gt l0 rfl rfl) rfl rfl) (zw_gt (zw_gt l1 rfl rfl) rfl rfl) (zw_gt (zw_gt l2 rfl rfl) rfl rfl) zw_g1 hP
          by_cases h9 : j = y.toInt.toNat
          · rw [h9, ev]
            exact zw_eq
          · exact (y_ne (fun h8 => h9 h8.2)).trans (hL j (by omega))

theorem xh_la22 {L : Nat} {σ : Nat → Int32} {d : Nat} {S : xSea} {u : Int64} {H0 : zp_H} (hS : xOk S) (hC : xSC 22 H0 S) (hc : xIn S (H0.2.1 57 0).toInt) (W : zw_W H0) : ∃ X, zp_Call L σ (d + 3) 38 [.inr (.inr (some 57)), .inr (.inr (some 23)), .inr (.inl u)] H0 X ∧ ∃ H1, X = (.inl none, H1) ∧ zw_W H1 ∧ xFv 59 H0 H1 ∧ (∀ p k, H1.2.2.1 p k = H0.2.2.1 p k) ∧ ∀ k, k < 8 → H1.2.1 59 k = (xVl S (H0.2.1 57 0) (H0.2.1 57 1) u k) := by
  have hw9 : 2 ≤ (H0.2.1 22 0).toInt := by have := hC.1; have := hS.1; omega
  have h64 := xIn_64 hS hc
  have hw0 : (H0.2.1 22 0).toInt = S.1 := hC.1
  obtain ⟨_, a1, a, rfl, a2⟩ := yc_xOf22 (L := L) (σ := σ) (d := d + 1) (H := H0) (x := H0.2.1 57 0) W hw9 h64.1
  refine zw_met zm_38_t rfl rfl ?_
  refine zw_ld (n := 1) (k := 0) (f := zp_isR) (pc' := 1) rfl rfl rfl rfl rfl ?_
  refine zw_gR (q := 56) (pc' := 4) W rfl rfl rfl rfl (W.2 56 3 _ rfl) rfl ?_
  refine zw_s (pc' := 5) rfl rfl ?_
  refine zw_ld (n := 1) (k := 1) (f := zp_isR) (pc' := 6) rfl rfl rfl rfl rfl ?_
  refine zw_ld (n := 1) (k := 0) (f := zp_isR) (pc' := 7) rfl rfl rfl rfl rfl ?_
  refine zw_gR (q := 56) (pc' := 10) W rfl rfl rfl rfl (W.2 56 0 _ rfl) rfl ?_
  refine zw_gI (q := 57) (pc' := 13) W rfl rfl rfl rfl rfl rfl ?_
  refine zw_c (pc' := 16) (zw_cv (q := 22) (Y := zm_37) W.1 rfl rfl zm_37_t rfl rfl) rfl rfl rfl rfl rfl (a1) ?_
  have k0 : (zw_I H0 59 (Int32.ofInt 4).toInt.toNat a).2.1 57 0 = H0.2.1 57 0 := zw_ne rfl rfl
  have kw : (zw_I H0 59 (Int32.ofInt 4).toInt.toNat a).2.1 22 0 = H0.2.1 22 0 := zw_ne rfl rfl
  obtain ⟨_, b1, b, rfl, b2⟩ := yc_yOf22 (L := L) (σ := σ) (d := d + 1) (H := (zw_I H0 59 (Int32.ofInt 4).toInt.toNat a)) (x := H0.2.1 57 0) (zw_W_I W) (by rw [kw]; exact hw9) h64.1
  rw [kw] at b2
  refine zw_is (q := 59) (pc' := 17) W rfl rfl (by decide) (⟨by decide, by decide⟩) rfl ?_
  refine zw_ld (n := 1) (k := 0) (f := zp_isR) (pc' := 18) rfl rfl rfl rfl rfl ?_
  refine zw_gR (q := 56) (pc' := 21) (zw_W_I W) rfl rfl rfl rfl ((zw_W_I W).2 56 3 _ rfl) rfl ?_
  refine zw_s (pc' := 22) rfl rfl ?_
  refine zw_ld (n := 1) (k := 1) (f := zp_isR) (pc' := 23) rfl rfl rfl rfl rfl ?_
  refine zw_ld (n := 1) (k := 0) (f := zp_isR) (pc' := 24) rfl rfl rfl rfl rfl ?_
  refine zw_gR (q := 56) (pc' := 27) (zw_W_I W) rfl rfl rfl rfl ((zw_W_I W).2 56 0 _ rfl) rfl ?_
  refine zw_gI (q := 57) (pc' := 30) (zw_W_I W) rfl rfl rfl rfl (zw_ne rfl rfl) rfl ?_
  refine zw_c (pc' := 33) (zw_cv (q := 22) (Y := zm_39) (zw_W_I W).1 rfl rfl zm_39_t rfl rfl) rfl rfl rfl rfl rfl (b1) ?_
  have q := xc_dr22 (L := L) (σ := σ) (d := d) (H := (zw_I (zw_I (zw_I H0 59 (Int32.ofInt 4).toInt.toNat a) 59 (Int32.ofInt 5).toInt.toNat b) 59 (Int32.ofInt 6).toInt.toNat (H0.2.1 57 1))) (x1 := H0.2.1 57 0) (x2 := H0.2.1 57 1) (zw_W_I (zw_W_I (zw_W_I W))) hS (xSC_9 (xFv_I (xFv_I (xFv_I (xFv_r H0)))) (by decide) hC) hc
  have eb : (Int32.ofInt (xDr S (H0.2.1 57 0).toInt (H0.2.1 57 1).toInt true)).toInt = xDr S (H0.2.1 57 0).toInt (H0.2.1 57 1).toInt true := by
    have := xDr_64 (c := (H0.2.1 57 0).toInt) (hr := (H0.2.1 57 1).toInt) (t := true) hS
    exact x_of (by omega) (by omega)
  refine zw_is (q := 59) (pc' := 34) (zw_W_I W) rfl rfl (by decide) (⟨by decide, by decide⟩) rfl ?_
  refine zw_ld (n := 1) (k := 0) (f := zp_isR) (pc' := 35) rfl rfl rfl rfl rfl ?_
  refine zw_gR (q := 56) (pc' := 38) (zw_W_I (zw_W_I W)) rfl rfl rfl rfl ((zw_W_I (zw_W_I W)).2 56 3 _ rfl) rfl ?_
  refine zw_s (pc' := 40) rfl rfl ?_
  refine zw_ld (n := 1) (k := 0) (f := zp_isR) (pc' := 41) rfl rfl rfl rfl rfl ?_
  refine zw_gR (q := 56) (pc' := 44) (zw_W_I (zw_W_I W)) rfl rfl rfl rfl ((zw_W_I (zw_W_I W)).2 56 0 _ rfl) rfl ?_
  refine zw_gI (q := 57) (pc' := 47) (zw_W_I (zw_W_I W)) rfl rfl rfl rfl (zw_ne (zw_ne rfl rfl) rfl) rfl ?_
  refine zw_is (q := 59) (pc' := 48) (zw_W_I (zw_W_I W)) rfl rfl (by decide) (⟨by decide, by decide⟩) rfl ?_
  refine zw_ld (n := 1) (k := 0) (f := zp_isR) (pc' := 49) rfl rfl rfl rfl rfl ?_
  refine zw_gR (q := 56) (pc' := 52) (zw_W_I (zw_W_I (zw_W_I W))) rfl rfl rfl rfl ((zw_W_I (zw_W_I (zw_W_I W))).2 56 3 _ rfl) rfl ?_
  refine zw_s (pc' := 54) rfl rfl ?_
  refine zw_ld (n := 1) (k := 1) (f := zp_isR) (pc' := 55) rfl rfl rfl rfl rfl ?_
  refine zw_ld (n := 1) (k := 0) (f := zp_isR) (pc' := 56) rfl rfl rfl rfl rfl ?_
  refine zw_gR (q := 56) (pc' := 59) (zw_W_I (zw_W_I (zw_W_I W))) rfl rfl rfl rfl ((zw_W_I (zw_W_I (zw_W_I W))).2 56 0 _ rfl) rfl ?_
  refine zw_gI (q := 57) (pc' := 62) (zw_W_I (zw_W_I (zw_W_I W))) rfl rfl rfl rfl (zw_ne (zw_ne (zw_ne rfl rfl) rfl) rfl) rfl ?_
  refine zw_ld (n := 1) (k := 0) (f := zp_isR) (pc' := 63) rfl rfl rfl rfl rfl ?_
  refine zw_gR (q := 56) (pc' := 66) (zw_W_I (zw_W_I (zw_W_I W))) rfl rfl rfl rfl ((zw_W_I (zw_W_I (zw_W_I W))).2 56 0 _ rfl) rfl ?_
  refine zw_gI (q := 57) (pc' := 69) (zw_W_I (zw_W_I (zw_W_I W))) rfl rfl rfl rfl (zw_ne (zw_ne (zw_ne rfl rfl) rfl) rfl) rfl ?_
  refine zw_c (pc' := 72) (zw_cv (q := 22) (Y := zm_33) (zw_W_I (zw_W_I (zw_W_I W))).1 rfl rfl zm_33_t rfl rfl) rfl rfl rfl rfl rfl (q) ?_
  refine zw_s (pc' := 73) rfl rfl ?_
  refine zw_beq2 (g := 80) (pc' := 76) rfl rfl rfl rfl (rfl : _ = (-1 : Int)) (fun h1 => ?_) (fun h1 => ?_)
  · refine zw_s (pc' := 81) rfl rfl ?_
    refine zw_is (q := 59) (pc' := 82) (zw_W_I (zw_W_I (zw_W_I W))) rfl rfl (by decide) (⟨by decide, by decide⟩) rfl ?_
    refine zw_s (pc' := 83) rfl rfl ?_
    refine zw_st (n := 2) (k := 4) (f := zp_isI) (pc' := 85) rfl rfl rfl rfl rfl ?_
    rw [show (Int32.ofInt 4).toInt.toNat = 4 by decide, show (Int32.ofInt 5).toInt.toNat = 5 by decide, show (Int32.ofInt 6).toInt.toNat = 6 by decide, show (Int32.ofInt 7).toInt.toNat = 7 by decide]
    refine xh_laL22 hS hC hc 4 _ _ (Int32.ofInt 0) (zw_W_I (zw_W_I (zw_W_I (zw_W_I W)))) (xFv_I (xFv_I (xFv_I (xFv_I (xFv_r H0))))) (fun _ _ => rfl) (by decide) (by decide) (fun k hk => ?_) (zw_gt rfl rfl rfl) (zw_gt rfl rfl rfl) (zw_gt rfl rfl rfl) zw_g1 (fun H1 w1 w2 w3 w4 => ⟨H1, rfl, w1, w2, w3, w4⟩)
    rw [show (Int32.ofInt 0).toInt = 0 by decide] at hk
    rcases (show k = 4 ∨ k = 5 ∨ k = 6 ∨ k = 7 by omega) with rfl | rfl | rfl | rfl
    · refine (y_ne (fun h9 => absurd h9.2 (by decide))).trans ((y_ne (fun h9 => absurd h9.2 (by decide))).trans ((y_ne (fun h9 => absurd h9.2 (by decide))).trans (zw_eq.trans ?_)))
      exact Int32.toInt_inj.mp (by rw [a2, hw0]; exact (x_of (by have := Int.emod_nonneg (H0.2.1 57 0).toInt (show S.1 ≠ 0 by have := hS.1; omega); omega) (by have := x_mle (w := S.1) h64.1 (by have := hS.1; omega); omega)).symm)
    · refine (y_ne (fun h9 => absurd h9.2 (by decide))).trans ((y_ne (fun h9 => absurd h9.2 (by decide))).trans (zw_eq.trans ?_))
      exact Int32.toInt_inj.mp (by rw [b2, hw0]; exact (x_of (by have := Int.ediv_nonneg h64.1 (show 0 ≤ S.1 by have := hS.1; omega); omega) (by have := Int.ediv_le_self S.1 h64.1; omega)).symm)
    · exact (y_ne (fun h9 => absurd h9.2 (by decide))).trans zw_eq
    · refine zw_eq.trans ?_
      exact (if_pos (by rw [← eb]; exact h1)).symm
  · refine zw_s (pc' := 77) rfl rfl ?_
    refine zw_s (pc' := 81) rfl rfl ?_
    refine zw_is (q := 59) (pc' := 82) (zw_W_I (zw_W_I (zw_W_I W))) rfl rfl (by decide) (⟨by decide, by decide⟩) rfl ?_
    refine zw_s (pc' := 83) rfl rfl ?_
    refine zw_st (n := 2) (k := 4) (f := zp_isI) (pc' := 85) rfl rfl rfl rfl rfl ?_
    rw [show (Int32.ofInt 4).toInt.toNat = 4 by decide, show (Int32.ofInt 5).toInt.toNat = 5 by decide, show (Int32.ofInt 6).toInt.toNat = 6 by decide, show (Int32.ofInt 7).toInt.toNat = 7 by decide]
    refine xh_laL22 hS hC hc 4 _ _ (Int32.ofInt 0) (zw_W_I (zw_W_I (zw_W_I (zw_W_I W)))) (xFv_I (xFv_I (xFv_I (xFv_I (xFv_r H0))))) (fun _ _ => rfl) (by decide) (by decide) (fun k hk => ?_) (zw_gt rfl rfl rfl) (zw_gt rfl rfl rfl) (zw_gt rfl rfl rfl) zw_g1 (fun H1 w1 w2 w3 w4 => ⟨H1, rfl, w1, w2, w3, w4⟩)
    rw [show (Int32.ofInt 0).toInt = 0 by decide] at hk
    rcases (show k = 4 ∨ k = 5 ∨ k = 6 ∨ k = 7 by omega) with rfl | rfl | rfl | rfl
    · refine (y_ne (fun h9 => absurd h9.2 (by decide))).trans ((y_ne (fun h9 => absurd h9.2 (by decide))).trans ((y_ne (fun h9 => absurd h9.2 (by decide))).trans (zw_eq.trans ?_)))
      exact Int32.toInt_inj.mp (by rw [a2, hw0]; exact (x_of (by have := Int.emod_nonneg (H0.2.1 57 0).toInt (show S.1 ≠ 0 by have := hS.1; omega); omega) (by have := x_mle (w := S.1) h64.1 (by have := hS.1; omega); omega)).symm)
    · refine (y_ne (fun h9 => absurd h9.2 (by decide))).trans ((y_ne (fun h9 => absurd h9.2 (by decide))).trans (zw_eq.trans ?_))
      exact Int32.toInt_inj.mp (by rw [b2, hw0]; exact (x_of (by have := Int.ediv_nonneg h64.1 (show 0 ≤ S.1 by have := hS.1; omega); omega) (by have := Int.ediv_le_self S.1 h64.1; omega)).symm)
    · exact (y_ne (fun h9 => absurd h9.2 (by decide))).trans zw_eq
    · refine zw_eq.trans ?_
      exact (if_neg (fun h9 => h1 (by rw [eb]; exact h9))).symm

theorem xh_lg22 {L : Nat} {σ : Nat → Int32} {d : Nat} {H : zp_H} (W : zw_W H) (hw : 2 ≤ (H.2.1 22 0).toInt) (hc : 0 ≤ (H.2.1 57 0).toInt) : zp_Call L σ (d + 2) 36 [.inr (.inr (some 57)), .inr (.inr (some 23))] H (.inl none, if (H.2.1 57 2).toInt = 0 ∧ (H.2.1 22 11).toInt ≤ (H.2.1 57 0).toInt % (H.2.1 22 0).toInt then zw_I H 57 2 (Int32.ofInt 4) else H) := by
  obtain ⟨_, a1, a, rfl, a2⟩ := yc_xOf22 (L := L) (σ := σ) (d := d) (H := H) (x := H.2.1 57 0) W hw hc
  refine zw_ex (zw_met zm_36_t rfl rfl ?_)
  refine zw_ld (n := 1) (k := 0) (f := zp_isR) (pc' := 1) rfl rfl rfl rfl rfl ?_
  refine zw_gR (q := 56) (pc' := 4) W rfl rfl rfl rfl (W.2 56 0 _ rfl) rfl ?_
  refine zw_gI (q := 57) (pc' := 7) W rfl rfl rfl rfl rfl rfl ?_
  refine zw_bne1 (g := 36) (pc' := 10) rfl rfl rfl rfl (fun h1 => ?_) (fun h1 => ?_)
  · refine zw_rn rfl rfl ?_
    exact congrArg (fun z => ((.inl none, z) : zp_X)) (if_neg (fun h9 => h1 h9.1)).symm
  · refine zw_ld (n := 1) (k := 1) (f := zp_isR) (pc' := 11) rfl rfl rfl rfl rfl ?_
    refine zw_ld (n := 1) (k := 0) (f := zp_isR) (pc' := 12) rfl rfl rfl rfl rfl ?_
    refine zw_gR (q := 56) (pc' := 15) W rfl rfl rfl rfl (W.2 56 0 _ rfl) rfl ?_
    refine zw_gI (q := 57) (pc' := 18) W rfl rfl rfl rfl rfl rfl ?_
    refine zw_c (pc' := 21) (zw_cv (q := 22) (Y := zm_37) W.1 rfl rfl zm_37_t rfl rfl) rfl rfl rfl rfl rfl (a1) ?_
    refine zw_ld (n := 1) (k := 1) (f := zp_isR) (pc' := 22) rfl rfl rfl rfl rfl ?_
    refine zw_gI (q := 22) (pc' := 25) W rfl rfl rfl rfl rfl rfl ?_
    refine zw_blt2 (g := 36) (pc' := 28) rfl rfl rfl rfl rfl (fun h2 => ?_) (fun h2 => ?_)
    · have h2 : a.toInt < (H.2.1 22 11).toInt := h2
      refine zw_rn rfl rfl ?_
      exact congrArg (fun z => ((.inl none, z) : zp_X)) (if_neg (fun h9 => by have := h9.2; omega)).symm
    · have h2 : (H.2.1 22 11).toInt ≤ a.toInt := h2
      refine zw_ld (n := 1) (k := 0) (f := zp_isR) (pc' := 29) rfl rfl rfl rfl rfl ?_
      refine zw_gR (q := 56) (pc' := 32) W rfl rfl rfl rfl (W.2 56 0 _ rfl) rfl ?_
      refine zw_s (pc' := 33) rfl rfl ?_
      refine zw_pI (q := 57) (pc' := 36) W rfl rfl rfl rfl rfl rfl ?_
      refine zw_rn rfl rfl ?_
      exact congrArg (fun z => ((.inl none, z) : zp_X)) (if_pos ⟨h1, by rw [← a2]; exact h2⟩).symm

theorem xh_bg {L : Nat} {σ : Nat → Int32} {d : Nat} {H : zp_H} {x1 x2 : Int32} (W : zw_W H) : ∃ X, zp_Call L σ (d + 2) 25 [.inr (.inr (some 58)), .inl x1, .inl x2] H X ∧ ∃ H1, X = (.inl none, H1) ∧ zw_W H1 ∧ xFv 57 H H1 ∧ H1.2.1 57 0 = x1 ∧ H1.2.1 57 1 = x2 ∧ H1.2.1 57 2 = Int32.ofInt 0 := by
  refine zw_met zm_25_t rfl rfl ?_
  refine zw_ld (n := 1) (k := 0) (f := zp_isR) (pc' := 1) rfl rfl rfl rfl rfl ?_
  refine zw_ld (n := 1) (k := 1) (f := zp_isI) (pc' := 2) rfl rfl rfl rfl rfl ?_
  refine zw_pI (q := 57) (pc' := 5) W rfl rfl rfl rfl rfl rfl ?_
  refine zw_ld (n := 1) (k := 0) (f := zp_isR) (pc' := 6) rfl rfl rfl rfl rfl ?_
  refine zw_ld (n := 1) (k := 2) (f := zp_isI) (pc' := 7) rfl rfl rfl rfl rfl ?_
  refine zw_pI (q := 57) (pc' := 10) (zw_W_I W) rfl rfl rfl rfl rfl rfl ?_
  refine zw_ld (n := 1) (k := 0) (f := zp_isR) (pc' := 11) rfl rfl rfl rfl rfl ?_
  refine zw_s (pc' := 12) rfl rfl ?_
  refine zw_pI (q := 57) (pc' := 15) (zw_W_I (zw_W_I W)) rfl rfl rfl rfl rfl rfl ?_
  refine zw_ld (n := 1) (k := 0) (f := zp_isR) (pc' := 16) rfl rfl rfl rfl rfl ?_
  refine zw_s (pc' := 17) rfl rfl ?_
  refine zw_pI (q := 57) (pc' := 20) (zw_W_I (zw_W_I (zw_W_I W))) rfl rfl rfl rfl rfl rfl ?_
  refine zw_ld (n := 1) (k := 0) (f := zp_isR) (pc' := 21) rfl rfl rfl rfl rfl ?_
  refine zw_s (pc' := 22) rfl rfl ?_
  refine zw_pI (q := 57) (pc' := 25) (zw_W_I (zw_W_I (zw_W_I (zw_W_I W)))) rfl rfl rfl rfl rfl rfl ?_
  refine zw_ld (n := 1) (k := 0) (f := zp_isR) (pc' := 26) rfl rfl rfl rfl rfl ?_
  refine zw_ld (n := 1) (k := 1) (f := zp_isI) (pc' := 27) rfl rfl rfl rfl rfl ?_
  refine zw_cx (pc' := 30) (zw_csx (Y := zm_4) rfl rfl zm_4_t) rfl rfl rfl rfl rfl (zn_bit) ?_
  refine zw_pL (q := 57) (pc' := 33) (zw_W_I (zw_W_I (zw_W_I (zw_W_I (zw_W_I W))))) rfl rfl rfl rfl rfl rfl ?_
  refine zw_rn rfl rfl ?_
  exact ⟨_, rfl, (zw_W_J (zw_W_I (zw_W_I (zw_W_I (zw_W_I (zw_W_I W)))))), xFv_J (xFv_I (xFv_I (xFv_I (xFv_I (xFv_I (xFv_r H)))))), (zw_nj (zw_ne (zw_ne (zw_ne (zw_ne zw_eq rfl) rfl) rfl) rfl)), (zw_nj (zw_ne (zw_ne (zw_ne zw_eq rfl) rfl) rfl)), (zw_nj (zw_ne (zw_ne zw_eq rfl) rfl))⟩

theorem xh_sbL2 {L : Nat} {σ : Nat → Int32} {d : Nat} {P : zp_X → Prop} {S : xSea} {u : Int64} {CC : Nat → List xIt} {H0 : zp_H} (hS : xOk S) (hC : xSC 2 H0 S) (hCC : xCC 2 CC H0) : ∀ (n : Nat) (H : zp_H) (lv : zp_LV) (i : Int32), zw_W H → xFg H0 H → xIn S (H.2.1 57 0).toInt → 0 ≤ i.toInt → i.toInt + (n : Int) = 60 → zp_get lv 0 = some (.inr (.inr (some 57))) → zp_get lv 1 = some (.inr (.inr (some 3))) → zp_get lv 3 = some (.inr (.inl u)) → zp_get lv 5 = some (.inl i) → (∀ K, zw_W K → xFg H0 K → xIn S (K.2.1 57 0).toInt → (K.2.1 57 0, K.2.1 57 1, K.2.1 57 2) = xPl S (H0.2.1 2 11).toInt (fun c h => xWb (xVl S c h u) (H0.2.1 10) CC (H0.2.1 2 16).toInt.toNat 0) n (H.2.1 57 0) (H.2.1 57 1) (H.2.1 57 2) → P (.inl none, K)) → zs_Safe L σ P zm_35 [] (d + 4) (27, lv, [], H, (0, 0)) := by
  intro n
  induction n with
  | zero =>
    intro H lv i W hF hc h5 hn l0 l1 l3 l5 hP
    refine zw_ld (n := 2) (k := 5) (f := zp_isI) (pc' := 29) rfl rfl l5 rfl rfl ?_
    refine zw_s (pc' := 31) rfl rfl ?_
    refine zw_bge2 (g := 75) (pc' := 34) rfl rfl rfl rfl (rfl : _ = (60 : Int)) (fun h1 => ?_) (fun h1 => ?_)
    · refine zw_rn rfl rfl ?_
      exact hP H W hF hc rfl
    · have h1 : i.toInt < (60 : Int) := h1
      omega
  | succ n ih =>
    intro H lv i W hF hc h5 hn l0 l1 l3 l5 hP
    refine zw_ld (n := 2) (k := 5) (f := zp_isI) (pc' := 29) rfl rfl l5 rfl rfl ?_
    refine zw_s (pc' := 31) rfl rfl ?_
    refine zw_bge2 (g := 75) (pc' := 34) rfl rfl rfl rfl (rfl : _ = (60 : Int)) (fun h1 => ?_) (fun h1 => ?_)
    · have h1 : (60 : Int) ≤ i.toInt := h1
      omega
    · refine zw_ld (n := 1) (k := 0) (f := zp_isR) (pc' := 35) rfl rfl l0 rfl rfl ?_
      refine zw_gR (q := 56) (pc' := 38) W rfl rfl rfl rfl (W.2 56 0 _ rfl) rfl ?_
      refine zw_gI (q := 57) (pc' := 41) W rfl rfl rfl rfl rfl rfl ?_
      refine zw_bne1 (g := 75) (pc' := 44) rfl rfl rfl rfl (fun h2 => ?_) (fun h2 => ?_)
      · refine zw_rn rfl rfl ?_
        exact hP H W hF hc (xPl_n h2 _).symm
      · have h2 : (H.2.1 57 2).toInt = 0 := h2
        have ei : (i + Int32.ofInt 1).toInt = i.toInt + 1 := zw_p1 (by omega)
        have f5 := xFg_5 hF
        obtain ⟨_, a1, H1, rfl, W1, a2, a3, a4⟩ := xh_la2 (L := L) (σ := σ) (d := d + 1) (u := u) hS (xSC_g hF (by decide) hC) hc W
        have F1 : xFg H H1 := xFg_9 a2 a3
        have f51 : ∀ p k, p < 56 → H1.2.1 p k = H0.2.1 p k := fun p k hp => (xFg_5 F1 p k hp).trans (f5 p k hp)
        have c1 : xCC 2 CC H1 := xCC_f (by decide) f51 hCC
        obtain ⟨_, b1, H2, rfl, W2, b2⟩ := xh_wb2 (L := L) (σ := σ) (d := d) c1.1 a4 c1.2.1 W1
        rw [show H1.2.1 10 = H0.2.1 10 from funext (fun k => f51 10 k (by decide)), f51 2 16 (by decide)] at b1
        have hwb := xWb_b (V := xVl S (H.2.1 57 0) (H.2.1 57 1) u) (wy := H0.2.1 10) (CC := CC) (H0.2.1 2 16).toInt.toNat 0 (fun k hk => hCC.2.2 k (by have := hCC.1.1; omega))
        have F2 := xFg_t F1 (xFg_h b2)
        have e0 : H2.2.1 57 0 = H.2.1 57 0 := (b2.2.2.1 57 0 (by decide) (by decide)).trans (a2.2.2.1 57 0 (by decide))
        have e1 : H2.2.1 57 1 = H.2.1 57 1 := (b2.2.2.1 57 1 (by decide) (by decide)).trans (a2.2.2.1 57 1 (by decide))
        have e2 : H2.2.1 57 2 = H.2.1 57 2 := (b2.2.2.1 57 2 (by decide) (by decide)).trans (a2.2.2.1 57 2 (by decide))
        obtain ⟨_, s1, H3, rfl, W3, s2, s3, s4, s5, s6⟩ := xc57_sail2_1 (L := L) (σ := σ) (d := d + 1) (H := H2) (x2 := xWb (xVl S (H.2.1 57 0) (H.2.1 57 1) u) (H0.2.1 10) CC (H0.2.1 2 16).toInt.toNat 0) W2 hS (xSC_g (xFg_t hF F2) (by decide) hC) (by rw [e0]; exact hc) (by rw [e2]; exact h2) hwb
        rw [e0, e1] at s4 s5 s6
        have F3 := xFg_t F2 (xFg_s s2)
        have hb := xSt_b (hr := (H.2.1 57 1).toInt) (d := ((fun c h => xWb (xVl S c h u) (H0.2.1 10) CC (H0.2.1 2 16).toInt.toNat 0) (H.2.1 57 0) (H.2.1 57 1)).toInt) (t := true) hS hc
        have ho := xSt_o (hr := (H.2.1 57 1).toInt) (d := ((fun c h => xWb (xVl S c h u) (H0.2.1 10) CC (H0.2.1 2 16).toInt.toNat 0) (H.2.1 57 0) (H.2.1 57 1)).toInt) (t := true) hS hc
        have s4 : H3.2.1 57 0 = Int32.ofInt (xSt S (H.2.1 57 0).toInt (H.2.1 57 1).toInt ((fun c h => xWb (xVl S c h u) (H0.2.1 10) CC (H0.2.1 2 16).toInt.toNat 0) (H.2.1 57 0) (H.2.1 57 1)).toInt true).2 := s4
        have s5 : H3.2.1 57 2 = Int32.ofInt (xSt S (H.2.1 57 0).toInt (H.2.1 57 1).toInt ((fun c h => xWb (xVl S c h u) (H0.2.1 10) CC (H0.2.1 2 16).toInt.toNat 0) (H.2.1 57 0) (H.2.1 57 1)).toInt true).1 := s5
        have s6 : H3.2.1 57 1 = (if (xSt S (H.2.1 57 0).toInt (H.2.1 57 1).toInt ((fun c h => xWb (xVl S c h u) (H0.2.1 10) CC (H0.2.1 2 16).toInt.toNat 0) (H.2.1 57 0) (H.2.1 57 1)).toInt true).1 = 0 then H.2.1 57 1 + Int32.ofInt 1 else H.2.1 57 1) := s6
        have f53 : ∀ p k, p < 56 → H3.2.1 p k = H0.2.1 p k := fun p k hp => (xFg_5 F3 p k hp).trans (f5 p k hp)
        have q := xh_lg2 (L := L) (σ := σ) (d := d + 2) (H := H3) W3 (by rw [f53 2 0 (by decide)]; have := hC.1; have := hS.1; omega) (by rw [s4, ho.2]; exact hb.1.1)
        rw [s4, s5, ho.1, ho.2, f53 2 0 (by decide), f53 2 11 (by decide), hC.1] at q
        refine zw_ld (n := 1) (k := 0) (f := zp_isR) (pc' := 45) rfl rfl l0 rfl rfl ?_
        refine zw_ld (n := 1) (k := 1) (f := zp_isR) (pc' := 46) rfl rfl l1 rfl rfl ?_
        refine zw_ld (n := 1) (k := 3) (f := zp_isL) (pc' := 47) rfl rfl l3 rfl rfl ?_
        refine zw_cn (pc' := 50) (zw_cv (q := 56) (Y := zm_38) W.1 rfl rfl zm_38_t rfl rfl) rfl rfl rfl rfl rfl (a1) ?_
        refine zw_ld (n := 1) (k := 0) (f := zp_isR) (pc' := 51) rfl rfl l0 rfl rfl ?_
        refine zw_gR (q := 56) (pc' := 54) W1 rfl rfl rfl rfl (W1.2 56 0 _ rfl) rfl ?_
        refine zw_ld (n := 1) (k := 1) (f := zp_isR) (pc' := 55) rfl rfl l1 rfl rfl ?_
        refine zw_ld (n := 1) (k := 0) (f := zp_isR) (pc' := 56) rfl rfl l0 rfl rfl ?_
        refine zw_ld (n := 1) (k := 1) (f := zp_isR) (pc' := 57) rfl rfl l1 rfl rfl ?_
        refine zw_c (pc' := 60) (zw_cv (q := 56) (Y := zm_40) W1.1 rfl rfl zm_40_t rfl rfl) rfl rfl rfl rfl rfl (b1) ?_
        refine zw_s (pc' := 61) rfl rfl ?_
        refine zw_cn (pc' := 64) (zw_cv (q := 57) (Y := zm_29) W2.1 rfl rfl zm_29_t rfl rfl) rfl rfl rfl rfl rfl (s1) ?_
        refine zw_ld (n := 1) (k := 0) (f := zp_isR) (pc' := 65) rfl rfl l0 rfl rfl ?_
        refine zw_ld (n := 1) (k := 1) (f := zp_isR) (pc' := 66) rfl rfl l1 rfl rfl ?_
        refine zw_cn (pc' := 69) (zw_cv (q := 56) (Y := zm_36) W3.1 rfl rfl zm_36_t rfl rfl) rfl rfl rfl rfl rfl (q) ?_
        refine zw_ii (pc' := 72) rfl l5 rfl rfl ?_
        refine zw_s (pc' := 27) rfl rfl ?_
        have FL : xFg H3 (if (xSt S (H.2.1 57 0).toInt (H.2.1 57 1).toInt ((fun c h => xWb (xVl S c h u) (H0.2.1 10) CC (H0.2.1 2 16).toInt.toNat 0) (H.2.1 57 0) (H.2.1 57 1)).toInt true).1 = 0 ∧ (H0.2.1 2 11).toInt ≤ (xSt S (H.2.1 57 0).toInt (H.2.1 57 1).toInt ((fun c h => xWb (xVl S c h u) (H0.2.1 10) CC (H0.2.1 2 16).toInt.toNat 0) (H.2.1 57 0) (H.2.1 57 1)).toInt true).2 % S.1 then zw_I H3 57 2 (Int32.ofInt 4) else H3) := by
          split
          · exact xFg_I
          · exact xFg_r H3
        have z0 : (if (xSt S (H.2.1 57 0).toInt (H.2.1 57 1).toInt ((fun c h => xWb (xVl S c h u) (H0.2.1 10) CC (H0.2.1 2 16).toInt.toNat 0) (H.2.1 57 0) (H.2.1 57 1)).toInt true).1 = 0 ∧ (H0.2.1 2 11).toInt ≤ (xSt S (H.2.1 57 0).toInt (H.2.1 57 1).toInt ((fun c h => xWb (xVl S c h u) (H0.2.1 10) CC (H0.2.1 2 16).toInt.toNat 0) (H.2.1 57 0) (H.2.1 57 1)).toInt true).2 % S.1 then zw_I H3 57 2 (Int32.ofInt 4) else H3).2.1 57 0 = Int32.ofInt (xSt S (H.2.1 57 0).toInt (H.2.1 57 1).toInt ((fun c h => xWb (xVl S c h u) (H0.2.1 10) CC (H0.2.1 2 16).toInt.toNat 0) (H.2.1 57 0) (H.2.1 57 1)).toInt true).2 := by
          split
          · exact (zw_ne rfl rfl).trans s4
          · exact s4
        have z1 : (if (xSt S (H.2.1 57 0).toInt (H.2.1 57 1).toInt ((fun c h => xWb (xVl S c h u) (H0.2.1 10) CC (H0.2.1 2 16).toInt.toNat 0) (H.2.1 57 0) (H.2.1 57 1)).toInt true).1 = 0 ∧ (H0.2.1 2 11).toInt ≤ (xSt S (H.2.1 57 0).toInt (H.2.1 57 1).toInt ((fun c h => xWb (xVl S c h u) (H0.2.1 10) CC (H0.2.1 2 16).toInt.toNat 0) (H.2.1 57 0) (H.2.1 57 1)).toInt true).2 % S.1 then zw_I H3 57 2 (Int32.ofInt 4) else H3).2.1 57 1 = (if (xSt S (H.2.1 57 0).toInt (H.2.1 57 1).toInt ((fun c h => xWb (xVl S c h u) (H0.2.1 10) CC (H0.2.1 2 16).toInt.toNat 0) (H.2.1 57 0) (H.2.1 57 1)).toInt true).1 = 0 then H.2.1 57 1 + Int32.ofInt 1 else H.2.1 57 1) := by
          split
          · exact (zw_ne rfl rfl).trans s6
          · exact s6
        have z2 : (if (xSt S (H.2.1 57 0).toInt (H.2.1 57 1).toInt ((fun c h => xWb (xVl S c h u) (H0.2.1 10) CC (H0.2.1 2 16).toInt.toNat 0) (H.2.1 57 0) (H.2.1 57 1)).toInt true).1 = 0 ∧ (H0.2.1 2 11).toInt ≤ (xSt S (H.2.1 57 0).toInt (H.2.1 57 1).toInt ((fun c h => xWb (xVl S c h u) (H0.2.1 10) CC (H0.2.1 2 16).toInt.toNat 0) (H.2.1 57 0) (H.2.1 57 1)).toInt true).2 % S.1 then zw_I H3 57 2 (Int32.ofInt 4) else H3).2.1 57 2 = (if (xSt S (H.2.1 57 0).toInt (H.2.1 57 1).toInt ((fun c h => xWb (xVl S c h u) (H0.2.1 10) CC (H0.2.1 2 16).toInt.toNat 0) (H.2.1 57 0) (H.2.1 57 1)).toInt true).1 = 0 ∧ (H0.2.1 2 11).toInt ≤ (xSt S (H.2.1 57 0).toInt (H.2.1 57 1).toInt ((fun c h => xWb (xVl S c h u) (H0.2.1 10) CC (H0.2.1 2 16).toInt.toNat 0) (H.2.1 57 0) (H.2.1 57 1)).toInt true).2 % S.1 then Int32.ofInt 4 else Int32.ofInt (xSt S (H.2.1 57 0).toInt (H.2.1 57 1).toInt ((fun c h => xWb (xVl S c h u) (H0.2.1 10) CC (H0.2.1 2 16).toInt.toNat 0) (H.2.1 57 0) (H.2.1 57 1)).toInt true).1) := by
          by_cases h9 : (xSt S (H.2.1 57 0).toInt (H.2.1 57 1).toInt ((fun c h => xWb (xVl S c h u) (H0.2.1 10) CC (H0.2.1 2 16).toInt.toNat 0) (H.2.1 57 0) (H.2.1 57 1)).toInt true).1 = 0 ∧ (H0.2.1 2 11).toInt ≤ (xSt S (H.2.1 57 0).toInt (H.2.1 57 1).toInt ((fun c h => xWb (xVl S c h u) (H0.2.1 10) CC (H0.2.1 2 16).toInt.toNat 0) (H.2.1 57 0) (H.2.1 57 1)).toInt true).2 % S.1
          · rw [if_pos h9, if_pos h9]
            exact zw_eq
          · rw [if_neg h9, if_neg h9]
            exact s5
        generalize hH4 : (if (xSt S (H.2.1 57 0).toInt (H.2.1 57 1).toInt ((fun c h => xWb (xVl S c h u) (H0.2.1 10) CC (H0.2.1 2 16).toInt.toNat 0) (H.2.1 57 0) (H.2.1 57 1)).toInt true).1 = 0 ∧ (H0.2.1 2 11).toInt ≤ (xSt S (H.2.1 57 0).toInt (H.2.1 57 1).toInt ((fun c h => xWb (xVl S c h u) (H0.2.1 10) CC (H0.2.1 2 16).toInt.toNat 0) (H.2.1 57 0) (H.2.1 57 1)).toInt true).2 % S.1 then zw_I H3 57 2 (Int32.ofInt 4) else H3) = H4 at FL z0 z1 z2 ⊢
        refine ih H4 _ (i + Int32.ofInt 1) (xFg_W FL W3) (xFg_t hF (xFg_t F3 FL)) (by rw [z0, ho.2]; exact hb.1) (by omega) (by omega) (zw_gt l0 rfl rfl) (zw_gt l1 rfl rfl) (zw_gt l3 rfl rfl) zw_g1 (fun K w1 w2 w3 w4 => hP K w1 w2 w3 ?_)
        rw [xPl_y h2, w4, z0, z1, z2]

theorem xh_sb2 {L : Nat} {σ : Nat → Int32} {d : Nat} {p : Int32} {S : xSea} {u : Int64} {CC : Nat → List xIt} {H0 : zp_H} (hS : xOk S) (hC : xSC 2 H0 S) (hCC : xCC 2 CC H0) (W : zw_W H0) (hp : 0 ≤ p.toInt ∧ p.toInt < 4) (hc : xIn S (H0.2.1 7 p.toInt.toNat).toInt) : ∃ X, zp_Call L σ (d + 5) 35 [.inr (.inr (some 57)), .inr (.inr (some 3)), .inl p, .inr (.inl u)] H0 X ∧ ∃ K, X = (.inl none, K) ∧ zw_W K ∧ xFg H0 K ∧ (K.2.1 57 0, K.2.1 57 1, K.2.1 57 2) = xPl S (H0.2.1 2 11).toInt (fun c h => xWb (xVl S c h u) (H0.2.1 10) CC (H0.2.1 2 16).toInt.toNat 0) 60 (H0.2.1 7 p.toInt.toNat) (H0.2.1 8 p.toInt.toNat) (xP0 S (H0.2.1 2 11).toInt (H0.2.1 7 p.toInt.toNat)) := by
  obtain ⟨_, a1, H1, rfl, W1, a2, a3, a4, a5⟩ := xh_bg (L := L) (σ := σ) (d := d + 2) (x1 := (H0.2.1 7 p.toInt.toNat)) (x2 := (H0.2.1 8 p.toInt.toNat)) W
  have f1 : ∀ q k, q < 56 → H1.2.1 q k = H0.2.1 q k := fun q k hq => a2.2.2.1 q k (by omega)
  have q := xh_lg2 (L := L) (σ := σ) (d := d + 2) (H := H1) W1 (by rw [f1 2 0 (by decide)]; have := hC.1; have := hS.1; omega) (by rw [a3]; exact hc.1)
  rw [a3, a5, f1 2 0 (by decide), f1 2 11 (by decide), hC.1] at q
  refine zw_met zm_35_t rfl rfl ?_
  refine zw_ld (n := 1) (k := 0) (f := zp_isR) (pc' := 1) rfl rfl rfl rfl rfl ?_
  refine zw_gR (q := 56) (pc' := 4) W rfl rfl rfl rfl (W.2 56 0 _ rfl) rfl ?_
  refine zw_ld (n := 1) (k := 1) (f := zp_isR) (pc' := 5) rfl rfl rfl rfl rfl ?_
  refine zw_gR (q := 2) (pc' := 8) W rfl rfl rfl rfl (W.2 2 13 _ rfl) rfl ?_
  refine zw_ld (n := 1) (k := 2) (f := zp_isI) (pc' := 9) rfl rfl rfl rfl rfl ?_
  refine zw_ia (q := 7) (pc' := 10) W rfl rfl (by decide) (⟨hp.1, by show _ < ((4 : Nat) : Int); omega⟩) rfl rfl ?_
  refine zw_ld (n := 1) (k := 1) (f := zp_isR) (pc' := 11) rfl rfl rfl rfl rfl ?_
  refine zw_gR (q := 2) (pc' := 14) W rfl rfl rfl rfl (W.2 2 14 _ rfl) rfl ?_
  refine zw_ld (n := 1) (k := 2) (f := zp_isI) (pc' := 15) rfl rfl rfl rfl rfl ?_
  refine zw_ia (q := 8) (pc' := 16) W rfl rfl (by decide) (⟨hp.1, by show _ < ((4 : Nat) : Int); omega⟩) rfl rfl ?_
  refine zw_cn (pc' := 19) (zw_cv (q := 57) (Y := zm_25) W.1 rfl rfl zm_25_t rfl rfl) rfl rfl rfl rfl rfl (a1) ?_
  refine zw_ld (n := 1) (k := 0) (f := zp_isR) (pc' := 20) rfl rfl rfl rfl rfl ?_
  refine zw_ld (n := 1) (k := 1) (f := zp_isR) (pc' := 21) rfl rfl rfl rfl rfl ?_
  refine zw_cn (pc' := 24) (zw_cv (q := 56) (Y := zm_36) W1.1 rfl rfl zm_36_t rfl rfl) rfl rfl rfl rfl rfl (q) ?_
  refine zw_s (pc' := 25) rfl rfl ?_
  refine zw_st (n := 2) (k := 5) (f := zp_isI) (pc' := 27) rfl rfl rfl rfl rfl ?_
  have FL : xFg H1 (if (Int32.ofInt 0).toInt = 0 ∧ (H0.2.1 2 11).toInt ≤ (H0.2.1 7 p.toInt.toNat).toInt % S.1 then zw_I H1 57 2 (Int32.ofInt 4) else H1) := by
    split
    · exact xFg_I
    · exact xFg_r H1
  have z0 : (if (Int32.ofInt 0).toInt = 0 ∧ (H0.2.1 2 11).toInt ≤ (H0.2.1 7 p.toInt.toNat).toInt % S.1 then zw_I H1 57 2 (Int32.ofInt 4) else H1).2.1 57 0 = (H0.2.1 7 p.toInt.toNat) := by
    split
    · exact (zw_ne rfl rfl).trans a3
    · exact a3
  have z1 : (if (Int32.ofInt 0).toInt = 0 ∧ (H0.2.1 2 11).toInt ≤ (H0.2.1 7 p.toInt.toNat).toInt % S.1 then zw_I H1 57 2 (Int32.ofInt 4) else H1).2.1 57 1 = (H0.2.1 8 p.toInt.toNat) := by
    split
    · exact (zw_ne rfl rfl).trans a4
    · exact a4
  have z2 : (if (Int32.ofInt 0).toInt = 0 ∧ (H0.2.1 2 11).toInt ≤ (H0.2.1 7 p.toInt.toNat).toInt % S.1 then zw_I H1 57 2 (Int32.ofInt 4) else H1).2.1 57 2 = xP0 S (H0.2.1 2 11).toInt (H0.2.1 7 p.toInt.toNat) := by
    unfold xP0
    by_cases h9 : (H0.2.1 2 11).toInt ≤ (H0.2.1 7 p.toInt.toNat).toInt % S.1
    · rw [if_pos ⟨by decide, h9⟩, if_pos h9]
      exact zw_eq
    · rw [if_neg (fun h8 => h9 h8.2), if_neg h9]
      exact a5
  generalize hH4 : (if (Int32.ofInt 0).toInt = 0 ∧ (H0.2.1 2 11).toInt ≤ (H0.2.1 7 p.toInt.toNat).toInt % S.1 then zw_I H1 57 2 (Int32.ofInt 4) else H1) = H4 at FL z0 z1 z2 ⊢
  refine xh_sbL2 hS hC hCC 60 H4 _ (Int32.ofInt 0) (xFg_W FL W1) (xFg_t (xFg_v a2) FL) (by rw [z0]; exact hc) (by decide) (by decide) (zw_gt rfl rfl rfl) (zw_gt rfl rfl rfl) (zw_gt rfl rfl rfl) zw_g1 (fun K w1 w2 w3 w4 => ⟨K, rfl, w1, w2, ?_⟩)
  rw [w4, z0, z1, z2]

theorem xh_sbL22 {L : Nat} {σ : Nat → Int32} {d : Nat} {P : zp_X → Prop} {S : xSea} {u : Int64} {CC : Nat → List xIt} {H0 : zp_H} (hS : xOk S) (hC : xSC 22 H0 S) (hCC : xCC 22 CC H0) : ∀ (n : Nat) (H : zp_H) (lv : zp_LV) (i : Int32), zw_W H → xFg H0 H → xIn S (H.2.1 57 0).toInt → 0 ≤ i.toInt → i.toInt + (n : Int) = 60 → zp_get lv 0 = some (.inr (.inr (some 57))) → zp_get lv 1 = some (.inr (.inr (some 23))) → zp_get lv 3 = some (.inr (.inl u)) → zp_get lv 5 = some (.inl i) → (∀ K, zw_W K → xFg H0 K → xIn S (K.2.1 57 0).toInt → (K.2.1 57 0, K.2.1 57 1, K.2.1 57 2) = xPl S (H0.2.1 22 11).toInt (fun c h => xWb (xVl S c h u) (H0.2.1 30) CC (H0.2.1 22 16).toInt.toNat 0) n (H.2.1 57 0) (H.2.1 57 1) (H.2.1 57 2) → P (.inl none, K)) → zs_Safe L σ P zm_35 [] (d + 4) (27, lv, [], H, (0, 0)) := by
  intro n
  induction n with
  | zero =>
    intro H lv i W hF hc h5 hn l0 l1 l3 l5 hP
    refine zw_ld (n := 2) (k := 5) (f := zp_isI) (pc' := 29) rfl rfl l5 rfl rfl ?_
    refine zw_s (pc' := 31) rfl rfl ?_
    refine zw_bge2 (g := 75) (pc' := 34) rfl rfl rfl rfl (rfl : _ = (60 : Int)) (fun h1 => ?_) (fun h1 => ?_)
    · refine zw_rn rfl rfl ?_
      exact hP H W hF hc rfl
    · have h1 : i.toInt < (60 : Int) := h1
      omega
  | succ n ih =>
    intro H lv i W hF hc h5 hn l0 l1 l3 l5 hP
    refine zw_ld (n := 2) (k := 5) (f := zp_isI) (pc' := 29) rfl rfl l5 rfl rfl ?_
    refine zw_s (pc' := 31) rfl rfl ?_
    refine zw_bge2 (g := 75) (pc' := 34) rfl rfl rfl rfl (rfl : _ = (60 : Int)) (fun h1 => ?_) (fun h1 => ?_)
    · have h1 : (60 : Int) ≤ i.toInt := h1
      omega
    · refine zw_ld (n := 1) (k := 0) (f := zp_isR) (pc' := 35) rfl rfl l0 rfl rfl ?_
      refine zw_gR (q := 56) (pc' := 38) W rfl rfl rfl rfl (W.2 56 0 _ rfl) rfl ?_
      refine zw_gI (q := 57) (pc' := 41) W rfl rfl rfl rfl rfl rfl ?_
      refine zw_bne1 (g := 75) (pc' := 44) rfl rfl rfl rfl (fun h2 => ?_) (fun h2 => ?_)
      · refine zw_rn rfl rfl ?_
        exact hP H W hF hc (xPl_n h2 _).symm
      · have h2 : (H.2.1 57 2).toInt = 0 := h2
        have ei : (i + Int32.ofInt 1).toInt = i.toInt + 1 := zw_p1 (by omega)
        have f5 := xFg_5 hF
        obtain ⟨_, a1, H1, rfl, W1, a2, a3, a4⟩ := xh_la22 (L := L) (σ := σ) (d := d + 1) (u := u) hS (xSC_g hF (by decide) hC) hc W
        have F1 : xFg H H1 := xFg_9 a2 a3
        have f51 : ∀ p k, p < 56 → H1.2.1 p k = H0.2.1 p k := fun p k hp => (xFg_5 F1 p k hp).trans (f5 p k hp)
        have c1 : xCC 22 CC H1 := xCC_f (by decide) f51 hCC
        obtain ⟨_, b1, H2, rfl, W2, b2⟩ := xh_wb22 (L := L) (σ := σ) (d := d) c1.1 a4 c1.2.1 W1
        rw [show H1.2.1 30 = H0.2.1 30 from funext (fun k => f51 30 k (by decide)), f51 22 16 (by decide)] at b1
        have hwb := xWb_b (V := xVl S (H.2.1 57 0) (H.2.1 57 1) u) (wy := H0.2.1 30) (CC := CC) (H0.2.1 22 16).toInt.toNat 0 (fun k hk => hCC.2.2 k (by have := hCC.1.1; omega))
        have F2 := xFg_t F1 (xFg_h b2)
        have e0 : H2.2.1 57 0 = H.2.1 57 0 := (b2.2.2.1 57 0 (by decide) (by decide)).trans (a2.2.2.1 57 0 (by decide))
        have e1 : H2.2.1 57 1 = H.2.1 57 1 := (b2.2.2.1 57 1 (by decide) (by decide)).trans (a2.2.2.1 57 1 (by decide))
        have e2 : H2.2.1 57 2 = H.2.1 57 2 := (b2.2.2.1 57 2 (by decide) (by decide)).trans (a2.2.2.1 57 2 (by decide))
        obtain ⟨_, s1, H3, rfl, W3, s2, s3, s4, s5, s6⟩ := xc57_sail22_1 (L := L) (σ := σ) (d := d + 1) (H := H2) (x2 := xWb (xVl S (H.2.1 57 0) (H.2.1 57 1) u) (H0.2.1 30) CC (H0.2.1 22 16).toInt.toNat 0) W2 hS (xSC_g (xFg_t hF F2) (by decide) hC) (by rw [e0]; exact hc) (by rw [e2]; exact h2) hwb
        rw [e0, e1] at s4 s5 s6
        have F3 := xFg_t F2 (xFg_s s2)
        have hb := xSt_b (hr := (H.2.1 57 1).toInt) (d := ((fun c h => xWb (xVl S c h u) (H0.2.1 30) CC (H0.2.1 22 16).toInt.toNat 0) (H.2.1 57 0) (H.2.1 57 1)).toInt) (t := true) hS hc
        have ho := xSt_o (hr := (H.2.1 57 1).toInt) (d := ((fun c h => xWb (xVl S c h u) (H0.2.1 30) CC (H0.2.1 22 16).toInt.toNat 0) (H.2.1 57 0) (H.2.1 57 1)).toInt) (t := true) hS hc
        have s4 : H3.2.1 57 0 = Int32.ofInt (xSt S (H.2.1 57 0).toInt (H.2.1 57 1).toInt ((fun c h => xWb (xVl S c h u) (H0.2.1 30) CC (H0.2.1 22 16).toInt.toNat 0) (H.2.1 57 0) (H.2.1 57 1)).toInt true).2 := s4
        have s5 : H3.2.1 57 2 = Int32.ofInt (xSt S (H.2.1 57 0).toInt (H.2.1 57 1).toInt ((fun c h => xWb (xVl S c h u) (H0.2.1 30) CC (H0.2.1 22 16).toInt.toNat 0) (H.2.1 57 0) (H.2.1 57 1)).toInt true).1 := s5
        have s6 : H3.2.1 57 1 = (if (xSt S (H.2.1 57 0).toInt (H.2.1 57 1).toInt ((fun c h => xWb (xVl S c h u) (H0.2.1 30) CC (H0.2.1 22 16).toInt.toNat 0) (H.2.1 57 0) (H.2.1 57 1)).toInt true).1 = 0 then H.2.1 57 1 + Int32.ofInt 1 else H.2.1 57 1) := s6
        have f53 : ∀ p k, p < 56 → H3.2.1 p k = H0.2.1 p k := fun p k hp => (xFg_5 F3 p k hp).trans (f5 p k hp)
        have q := xh_lg22 (L := L) (σ := σ) (d := d + 2) (H := H3) W3 (by rw [f53 22 0 (by decide)]; have := hC.1; have := hS.1; omega) (by rw [s4, ho.2]; exact hb.1.1)
        rw [s4, s5, ho.1, ho.2, f53 22 0 (by decide), f53 22 11 (by decide), hC.1] at q
        refine zw_ld (n := 1) (k := 0) (f := zp_isR) (pc' := 45) rfl rfl l0 rfl rfl ?_
        refine zw_ld (n := 1) (k := 1) (f := zp_isR) (pc' := 46) rfl rfl l1 rfl rfl ?_
        refine zw_ld (n := 1) (k := 3) (f := zp_isL) (pc' := 47) rfl rfl l3 rfl rfl ?_
        refine zw_cn (pc' := 50) (zw_cv (q := 56) (Y := zm_38) W.1 rfl rfl zm_38_t rfl rfl) rfl rfl rfl rfl rfl (a1) ?_
        refine zw_ld (n := 1) (k := 0) (f := zp_isR) (pc' := 51) rfl rfl l0 rfl rfl ?_
        refine zw_gR (q := 56) (pc' := 54) W1 rfl rfl rfl rfl (W1.2 56 0 _ rfl) rfl ?_
        refine zw_ld (n := 1) (k := 1) (f := zp_isR) (pc' := 55) rfl rfl l1 rfl rfl ?_
        refine zw_ld (n := 1) (k := 0) (f := zp_isR) (pc' := 56) rfl rfl l0 rfl rfl ?_
        refine zw_ld (n := 1) (k := 1) (f := zp_isR) (pc' := 57) rfl rfl l1 rfl rfl ?_
        refine zw_c (pc' := 60) (zw_cv (q := 56) (Y := zm_40) W1.1 rfl rfl zm_40_t rfl rfl) rfl rfl rfl rfl rfl (b1) ?_
        refine zw_s (pc' := 61) rfl rfl ?_
        refine zw_cn (pc' := 64) (zw_cv (q := 57) (Y := zm_29) W2.1 rfl rfl zm_29_t rfl rfl) rfl rfl rfl rfl rfl (s1) ?_
        refine zw_ld (n := 1) (k := 0) (f := zp_isR) (pc' := 65) rfl rfl l0 rfl rfl ?_
        refine zw_ld (n := 1) (k := 1) (f := zp_isR) (pc' := 66) rfl rfl l1 rfl rfl ?_
        refine zw_cn (pc' := 69) (zw_cv (q := 56) (Y := zm_36) W3.1 rfl rfl zm_36_t rfl rfl) rfl rfl rfl rfl rfl (q) ?_
        refine zw_ii (pc' := 72) rfl l5 rfl rfl ?_
        refine zw_s (pc' := 27) rfl rfl ?_
        have FL : xFg H3 (if (xSt S (H.2.1 57 0).toInt (H.2.1 57 1).toInt ((fun c h => xWb (xVl S c h u) (H0.2.1 30) CC (H0.2.1 22 16).toInt.toNat 0) (H.2.1 57 0) (H.2.1 57 1)).toInt true).1 = 0 ∧ (H0.2.1 22 11).toInt ≤ (xSt S (H.2.1 57 0).toInt (H.2.1 57 1).toInt ((fun c h => xWb (xVl S c h u) (H0.2.1 30) CC (H0.2.1 22 16).toInt.toNat 0) (H.2.1 57 0) (H.2.1 57 1)).toInt true).2 % S.1 then zw_I H3 57 2 (Int32.ofInt 4) else H3) := by
          split
          · exact xFg_I
          · exact xFg_r H3
        have z0 : (if (xSt S (H.2.1 57 0).toInt (H.2.1 57 1).toInt ((fun c h => xWb (xVl S c h u) (H0.2.1 30) CC (H0.2.1 22 16).toInt.toNat 0) (H.2.1 57 0) (H.2.1 57 1)).toInt true).1 = 0 ∧ (H0.2.1 22 11).toInt ≤ (xSt S (H.2.1 57 0).toInt (H.2.1 57 1).toInt ((fun c h => xWb (xVl S c h u) (H0.2.1 30) CC (H0.2.1 22 16).toInt.toNat 0) (H.2.1 57 0) (H.2.1 57 1)).toInt true).2 % S.1 then zw_I H3 57 2 (Int32.ofInt 4) else H3).2.1 57 0 = Int32.ofInt (xSt S (H.2.1 57 0).toInt (H.2.1 57 1).toInt ((fun c h => xWb (xVl S c h u) (H0.2.1 30) CC (H0.2.1 22 16).toInt.toNat 0) (H.2.1 57 0) (H.2.1 57 1)).toInt true).2 := by
          split
          · exact (zw_ne rfl rfl).trans s4
          · exact s4
        have z1 : (if (xSt S (H.2.1 57 0).toInt (H.2.1 57 1).toInt ((fun c h => xWb (xVl S c h u) (H0.2.1 30) CC (H0.2.1 22 16).toInt.toNat 0) (H.2.1 57 0) (H.2.1 57 1)).toInt true).1 = 0 ∧ (H0.2.1 22 11).toInt ≤ (xSt S (H.2.1 57 0).toInt (H.2.1 57 1).toInt ((fun c h => xWb (xVl S c h u) (H0.2.1 30) CC (H0.2.1 22 16).toInt.toNat 0) (H.2.1 57 0) (H.2.1 57 1)).toInt true).2 % S.1 then zw_I H3 57 2 (Int32.ofInt 4) else H3).2.1 57 1 = (if (xSt S (H.2.1 57 0).toInt (H.2.1 57 1).toInt ((fun c h => xWb (xVl S c h u) (H0.2.1 30) CC (H0.2.1 22 16).toInt.toNat 0) (H.2.1 57 0) (H.2.1 57 1)).toInt true).1 = 0 then H.2.1 57 1 + Int32.ofInt 1 else H.2.1 57 1) := by
          split
          · exact (zw_ne rfl rfl).trans s6
          · exact s6
        have z2 : (if (xSt S (H.2.1 57 0).toInt (H.2.1 57 1).toInt ((fun c h => xWb (xVl S c h u) (H0.2.1 30) CC (H0.2.1 22 16).toInt.toNat 0) (H.2.1 57 0) (H.2.1 57 1)).toInt true).1 = 0 ∧ (H0.2.1 22 11).toInt ≤ (xSt S (H.2.1 57 0).toInt (H.2.1 57 1).toInt ((fun c h => xWb (xVl S c h u) (H0.2.1 30) CC (H0.2.1 22 16).toInt.toNat 0) (H.2.1 57 0) (H.2.1 57 1)).toInt true).2 % S.1 then zw_I H3 57 2 (Int32.ofInt 4) else H3).2.1 57 2 = (if (xSt S (H.2.1 57 0).toInt (H.2.1 57 1).toInt ((fun c h => xWb (xVl S c h u) (H0.2.1 30) CC (H0.2.1 22 16).toInt.toNat 0) (H.2.1 57 0) (H.2.1 57 1)).toInt true).1 = 0 ∧ (H0.2.1 22 11).toInt ≤ (xSt S (H.2.1 57 0).toInt (H.2.1 57 1).toInt ((fun c h => xWb (xVl S c h u) (H0.2.1 30) CC (H0.2.1 22 16).toInt.toNat 0) (H.2.1 57 0) (H.2.1 57 1)).toInt true).2 % S.1 then Int32.ofInt 4 else Int32.ofInt (xSt S (H.2.1 57 0).toInt (H.2.1 57 1).toInt ((fun c h => xWb (xVl S c h u) (H0.2.1 30) CC (H0.2.1 22 16).toInt.toNat 0) (H.2.1 57 0) (H.2.1 57 1)).toInt true).1) := by
          by_cases h9 : (xSt S (H.2.1 57 0).toInt (H.2.1 57 1).toInt ((fun c h => xWb (xVl S c h u) (H0.2.1 30) CC (H0.2.1 22 16).toInt.toNat 0) (H.2.1 57 0) (H.2.1 57 1)).toInt true).1 = 0 ∧ (H0.2.1 22 11).toInt ≤ (xSt S (H.2.1 57 0).toInt (H.2.1 57 1).toInt ((fun c h => xWb (xVl S c h u) (H0.2.1 30) CC (H0.2.1 22 16).toInt.toNat 0) (H.2.1 57 0) (H.2.1 57 1)).toInt true).2 % S.1
          · rw [if_pos h9, if_pos h9]
            exact zw_eq
          · rw [if_neg h9, if_neg h9]
            exact s5
        generalize hH4 : (if (xSt S (H.2.1 57 0).toInt (H.2.1 57 1).toInt ((fun c h => xWb (xVl S c h u) (H0.2.1 30) CC (H0.2.1 22 16).toInt.toNat 0) (H.2.1 57 0) (H.2.1 57 1)).toInt true).1 = 0 ∧ (H0.2.1 22 11).toInt ≤ (xSt S (H.2.1 57 0).toInt (H.2.1 57 1).toInt ((fun c h => xWb (xVl S c h u) (H0.2.1 30) CC (H0.2.1 22 16).toInt.toNat 0) (H.2.1 57 0) (H.2.1 57 1)).toInt true).2 % S.1 then zw_I H3 57 2 (Int32.ofInt 4) else H3) = H4 at FL z0 z1 z2 ⊢
        refine ih H4 _ (i + Int32.ofInt 1) (xFg_W FL W3) (xFg_t hF (xFg_t F3 FL)) (by rw [z0, ho.2]; exact hb.1) (by omega) (by omega) (zw_gt l0 rfl rfl) (zw_gt l1 rfl rfl) (zw_gt l3 rfl rfl) zw_g1 (fun K w1 w2 w3 w4 => hP K w1 w2 w3 ?_)
        rw [xPl_y h2, w4, z0, z1, z2]

theorem xh_sb22 {L : Nat} {σ : Nat → Int32} {d : Nat} {p : Int32} {S : xSea} {u : Int64} {CC : Nat → List xIt} {H0 : zp_H} (hS : xOk S) (hC : xSC 22 H0 S) (hCC : xCC 22 CC H0) (W : zw_W H0) (hp : 0 ≤ p.toInt ∧ p.toInt < 4) (hc : xIn S (H0.2.1 27 p.toInt.toNat).toInt) : ∃ X, zp_Call L σ (d + 5) 35 [.inr (.inr (some 57)), .inr (.inr (some 23)), .inl p, .inr (.inl u)] H0 X ∧ ∃ K, X = (.inl none, K) ∧ zw_W K ∧ xFg H0 K ∧ (K.2.1 57 0, K.2.1 57 1, K.2.1 57 2) = xPl S (H0.2.1 22 11).toInt (fun c h => xWb (xVl S c h u) (H0.2.1 30) CC (H0.2.1 22 16).toInt.toNat 0) 60 (H0.2.1 27 p.toInt.toNat) (H0.2.1 28 p.toInt.toNat) (xP0 S (H0.2.1 22 11).toInt (H0.2.1 27 p.toInt.toNat)) := by
  obtain ⟨_, a1, H1, rfl, W1, a2, a3, a4, a5⟩ := xh_bg (L := L) (σ := σ) (d := d + 2) (x1 := (H0.2.1 27 p.toInt.toNat)) (x2 := (H0.2.1 28 p.toInt.toNat)) W
  have f1 : ∀ q k, q < 56 → H1.2.1 q k = H0.2.1 q k := fun q k hq => a2.2.2.1 q k (by omega)
  have q := xh_lg22 (L := L) (σ := σ) (d := d + 2) (H := H1) W1 (by rw [f1 22 0 (by decide)]; have := hC.1; have := hS.1; omega) (by rw [a3]; exact hc.1)
  rw [a3, a5, f1 22 0 (by decide), f1 22 11 (by decide), hC.1] at q
  refine zw_met zm_35_t rfl rfl ?_
  refine zw_ld (n := 1) (k := 0) (f := zp_isR) (pc' := 1) rfl rfl rfl rfl rfl ?_
  refine zw_gR (q := 56) (pc' := 4) W rfl rfl rfl rfl (W.2 56 0 _ rfl) rfl ?_
  refine zw_ld (n := 1) (k := 1) (f := zp_isR) (pc' := 5) rfl rfl rfl rfl rfl ?_
  refine zw_gR (q := 22) (pc' := 8) W rfl rfl rfl rfl (W.2 22 13 _ rfl) rfl ?_
  refine zw_ld (n := 1) (k := 2) (f := zp_isI) (pc' := 9) rfl rfl rfl rfl rfl ?_
  refine zw_ia (q := 27) (pc' := 10) W rfl rfl (by decide) (⟨hp.1, by show _ < ((4 : Nat) : Int); omega⟩) rfl rfl ?_
  refine zw_ld (n := 1) (k := 1) (f := zp_isR) (pc' := 11) rfl rfl rfl rfl rfl ?_
  refine zw_gR (q := 22) (pc' := 14) W rfl rfl rfl rfl (W.2 22 14 _ rfl) rfl ?_
  refine zw_ld (n := 1) (k := 2) (f := zp_isI) (pc' := 15) rfl rfl rfl rfl rfl ?_
  refine zw_ia (q := 28) (pc' := 16) W rfl rfl (by decide) (⟨hp.1, by show _ < ((4 : Nat) : Int); omega⟩) rfl rfl ?_
  refine zw_cn (pc' := 19) (zw_cv (q := 57) (Y := zm_25) W.1 rfl rfl zm_25_t rfl rfl) rfl rfl rfl rfl rfl (a1) ?_
  refine zw_ld (n := 1) (k := 0) (f := zp_isR) (pc' := 20) rfl rfl rfl rfl rfl ?_
  refine zw_ld (n := 1) (k := 1) (f := zp_isR) (pc' := 21) rfl rfl rfl rfl rfl ?_
  refine zw_cn (pc' := 24) (zw_cv (q := 56) (Y := zm_36) W1.1 rfl rfl zm_36_t rfl rfl) rfl rfl rfl rfl rfl (q) ?_
  refine zw_s (pc' := 25) rfl rfl ?_
  refine zw_st (n := 2) (k := 5) (f := zp_isI) (pc' := 27) rfl rfl rfl rfl rfl ?_
  have FL : xFg H1 (if (Int32.ofInt 0).toInt = 0 ∧ (H0.2.1 22 11).toInt ≤ (H0.2.1 27 p.toInt.toNat).toInt % S.1 then zw_I H1 57 2 (Int32.ofInt 4) else H1) := by
    split
    · exact xFg_I
    · exact xFg_r H1
  have z0 : (if (Int32.ofInt 0).toInt = 0 ∧ (H0.2.1 22 11).toInt ≤ (H0.2.1 27 p.toInt.toNat).toInt % S.1 then zw_I H1 57 2 (Int32.ofInt 4) else H1).2.1 57 0 = (H0.2.1 27 p.toInt.toNat) := by
    split
    · exact (zw_ne rfl rfl).trans a3
    · exact a3
  have z1 : (if (Int32.ofInt 0).toInt = 0 ∧ (H0.2.1 22 11).toInt ≤ (H0.2.1 27 p.toInt.toNat).toInt % S.1 then zw_I H1 57 2 (Int32.ofInt 4) else H1).2.1 57 1 = (H0.2.1 28 p.toInt.toNat) := by
    split
    · exact (zw_ne rfl rfl).trans a4
    · exact a4
  have z2 : (if (Int32.ofInt 0).toInt = 0 ∧ (H0.2.1 22 11).toInt ≤ (H0.2.1 27 p.toInt.toNat).toInt % S.1 then zw_I H1 57 2 (Int32.ofInt 4) else H1).2.1 57 2 = xP0 S (H0.2.1 22 11).toInt (H0.2.1 27 p.toInt.toNat) := by
    unfold xP0
    by_cases h9 : (H0.2.1 22 11).toInt ≤ (H0.2.1 27 p.toInt.toNat).toInt % S.1
    · rw [if_pos ⟨by decide, h9⟩, if_pos h9]
      exact zw_eq
    · rw [if_neg (fun h8 => h9 h8.2), if_neg h9]
      exact a5
  generalize hH4 : (if (Int32.ofInt 0).toInt = 0 ∧ (H0.2.1 22 11).toInt ≤ (H0.2.1 27 p.toInt.toNat).toInt % S.1 then zw_I H1 57 2 (Int32.ofInt 4) else H1) = H4 at FL z0 z1 z2 ⊢
  refine xh_sbL22 hS hC hCC 60 H4 _ (Int32.ofInt 0) (xFg_W FL W1) (xFg_t (xFg_v a2) FL) (by rw [z0]; exact hc) (by decide) (by decide) (zw_gt rfl rfl rfl) (zw_gt rfl rfl rfl) (zw_gt rfl rfl rfl) zw_g1 (fun K w1 w2 w3 w4 => ⟨K, rfl, w1, w2, ?_⟩)
  rw [w4, z0, z1, z2]

theorem xh_knL2 {L : Nat} {σ : Nat → Int32} {d : Nat} {P : zp_X → Prop} {S : xSea} {set : Int32} {H0 : zp_H} (hS : xOk S) (hC : xSC 2 H0 S) (hn0 : 0 ≤ (H0.2.1 13 0).toInt ∧ (H0.2.1 13 0).toInt ≤ 8) (hm : ∀ s : Nat, (s : Int) < (H0.2.1 13 0).toInt → 0 ≤ (H0.2.1 16 s).toInt ∧ (H0.2.1 16 s).toInt ≤ 8) (hw : ∀ s : Nat, (s : Int) < (H0.2.1 13 0).toInt → ∀ j, j < (H0.2.1 16 s).toInt.toNat → -1 ≤ (H0.2.1 18 (8 * s + j)).toInt ∧ (H0.2.1 18 (8 * s + j)).toInt ≤ 3) (hc : ∀ s : Nat, (s : Int) < (H0.2.1 13 0).toInt → xIn S (H0.2.1 14 s).toInt) : ∀ (n : Nat) (H : zp_H) (lv : zp_LV) (i : Int32) (u : Int64), zw_W H → xFv 54 H0 H → 0 ≤ i.toInt → i.toInt + (n : Int) = (H0.2.1 13 0).toInt → zp_get lv 0 = some (.inr (.inr (some 55))) → zp_get lv 1 = some (.inr (.inr (some 3))) → zp_get lv 2 = some (.inr (.inr (some 14))) → zp_get lv 3 = some (.inl set) → zp_get lv 4 = some (.inr (.inl u)) → zp_get lv 6 = some (.inl i) → (∀ H1, zw_W H1 → xFv 54 H0 H1 → P (.inl (some (.inr (.inl (xKn (fun s => xWk (xVyc S 13 H0 s)) set n i u)))), H1)) → zs_Safe L σ P zm_23 [] (d + 5) (6, lv, [], H, (0, 0)) := by
  intro n
  induction n with
  | zero =>
    intro H lv i u W hF h5 hn l0 l1 l2 l3 l4 l6 hP
    have hN : H.2.1 13 0 = H0.2.1 13 0 := hF.2.2.1 13 0 (by decide)
    refine zw_ld (n := 2) (k := 6) (f := zp_isI) (pc' := 8) rfl rfl l6 rfl rfl ?_
    refine zw_ld (n := 1) (k := 2) (f := zp_isR) (pc' := 9) rfl rfl l2 rfl rfl ?_
    refine zw_gI (q := 13) (pc' := 12) W rfl rfl rfl rfl rfl rfl ?_
    rw [hN]
    refine zw_bge2 (g := 47) (pc' := 15) rfl rfl rfl rfl rfl (fun h1 => ?_) (fun h1 => ?_)
    · refine zw_ld (n := 2) (k := 4) (f := zp_isL) (pc' := 49) rfl rfl l4 rfl rfl ?_
      refine zw_rl rfl rfl ?_
      exact hP H W hF
    · have hn : i.toInt + ((0 : Nat) : Int) = (H0.2.1 13 0).toInt := hn
      omega
  | succ n ih =>
    intro H lv i u W hF h5 hn l0 l1 l2 l3 l4 l6 hP
    have hN : H.2.1 13 0 = H0.2.1 13 0 := hF.2.2.1 13 0 (by decide)
    refine zw_ld (n := 2) (k := 6) (f := zp_isI) (pc' := 8) rfl rfl l6 rfl rfl ?_
    refine zw_ld (n := 1) (k := 2) (f := zp_isR) (pc' := 9) rfl rfl l2 rfl rfl ?_
    refine zw_gI (q := 13) (pc' := 12) W rfl rfl rfl rfl rfl rfl ?_
    rw [hN]
    refine zw_bge2 (g := 47) (pc' := 15) rfl rfl rfl rfl rfl (fun h1 => ?_) (fun h1 => ?_)
    · omega
    · have ei : (i + Int32.ofInt 1).toInt = i.toInt + 1 := zw_p1 (by omega)
      refine zw_ld (n := 1) (k := 3) (f := zp_isI) (pc' := 16) rfl rfl l3 rfl rfl ?_
      refine zw_ld (n := 2) (k := 6) (f := zp_isI) (pc' := 18) rfl rfl l6 rfl rfl ?_
      refine zw_ishr (pc' := 19) rfl rfl ?_
      refine zw_s (pc' := 20) rfl rfl ?_
      refine zw_iand (pc' := 21) rfl rfl ?_
      refine zw_beq1 (g := 41) (pc' := 24) rfl rfl rfl rfl (fun h2 => ?_) (fun h2 => ?_)
      · rw [xKn_n h2] at hP
        refine zw_ii (pc' := 44) rfl l6 rfl rfl ?_
        refine zw_s (pc' := 6) rfl rfl ?_
        exact ih H _ (i + Int32.ofInt 1) u W hF (by omega) (by omega) (zw_gt l0 rfl rfl) (zw_gt l1 rfl rfl) (zw_gt l2 rfl rfl) (zw_gt l3 rfl rfl) (zw_gt l4 rfl rfl) zw_g1 hP
      · rw [xKn_y h2] at hP
        have hi : ((i.toInt.toNat : Nat) : Int) < (H0.2.1 13 0).toInt := by omega
        have fc : ∀ p k, 14 ≤ p → p ≤ 19 → H.2.1 p k = H0.2.1 p k := fun p k p1 p2 => hF.2.2.1 p k (by omega)
        obtain ⟨_, q1, H1, rfl, W1, q2, q3⟩ := xc_fo2 (L := L) (σ := σ) (d := d) (s := i) W hS (xSC_v hF ⟨by decide, by decide, by decide⟩ hC) ⟨h5, by omega⟩ (by rw [fc 16 _ (by decide) (by decide)]; exact hm _ hi) (fun j hj => by rw [fc 16 _ (by decide) (by decide)] at hj; rw [fc 18 _ (by decide) (by decide)]; exact hw _ hi j hj) (by rw [fc 14 _ (by decide) (by decide)]; exact hc _ hi)
        have q3 : xE7 54 H1 (xVyc S 13 H i.toInt.toNat) := q3
        rw [xVyc_f (cp := 13) (fun p k p1 p2 => fc p k (by omega) (by omega))] at q3
        have qw := yc_wr (L := L) (σ := σ) (d := d + 3) (H := H1) W1
        have ew : (if (H1.2.1 54 2).toInt = 1 ∨ (H1.2.1 54 2).toInt = 2 then za_shl0 (Int64.ofNat 1) (H1.2.1 54 0) else Int64.ofNat 0) = xWk (xVyc S 13 H0 i.toInt.toNat) := by
          rw [q3.1, q3.2.2.1]
          unfold xWk
          by_cases h9 : xWr (xVyc S 13 H0 i.toInt.toNat) = true
          · rw [if_pos h9, if_pos (xWr_t.mp h9)]
          · rw [if_neg h9, if_neg (fun h8 => h9 (xWr_t.mpr h8))]
        rw [ew] at qw
        refine zw_ld (n := 1) (k := 0) (f := zp_isR) (pc' := 25) rfl rfl l0 rfl rfl ?_
        refine zw_ld (n := 1) (k := 1) (f := zp_isR) (pc' := 26) rfl rfl l1 rfl rfl ?_
        refine zw_ld (n := 1) (k := 2) (f := zp_isR) (pc' := 27) rfl rfl l2 rfl rfl ?_
        refine zw_ld (n := 2) (k := 6) (f := zp_isI) (pc' := 29) rfl rfl l6 rfl rfl ?_
        refine zw_cn (pc' := 32) (zw_cv (q := 54) (Y := zm_24) W.1 rfl rfl zm_24_t rfl rfl) rfl rfl rfl rfl rfl (q1) ?_
        refine zw_ld (n := 2) (k := 4) (f := zp_isL) (pc' := 34) rfl rfl l4 rfl rfl ?_
        refine zw_ld (n := 1) (k := 0) (f := zp_isR) (pc' := 35) rfl rfl l0 rfl rfl ?_
        refine zw_c (pc' := 38) (zw_cv (q := 54) (Y := zm_34) W1.1 rfl rfl zm_34_t rfl rfl) rfl rfl rfl rfl rfl (qw) ?_
        refine zw_lor (pc' := 39) rfl rfl ?_
        refine zw_sl (n := 2) (k := 4) (pc' := 41) rfl rfl rfl rfl ?_
        refine zw_ii (pc' := 44) rfl (zw_gt2 l6 rfl rfl) rfl rfl ?_
        refine zw_s (pc' := 6) rfl rfl ?_
        exact ih H1 _ (i + Int32.ofInt 1) _ W1 (xFv_t hF q2) (by omega) (by omega) (zw_gt (zw_gt2 l0 rfl rfl) rfl rfl) (zw_gt (zw_gt2 l1 rfl rfl) rfl rfl) (zw_gt (zw_gt2 l2 rfl rfl) rfl rfl) (zw_gt (zw_gt2 l3 rfl rfl) rfl rfl) (zw_gt zw_g2 rfl rfl) zw_g1 hP

theorem xh_kn2 {L : Nat} {σ : Nat → Int32} {d : Nat} {S : xSea} {set : Int32} {H0 : zp_H} (hS : xOk S) (hC : xSC 2 H0 S) (hn0 : 0 ≤ (H0.2.1 13 0).toInt ∧ (H0.2.1 13 0).toInt ≤ 8) (hm : ∀ s : Nat, (s : Int) < (H0.2.1 13 0).toInt → 0 ≤ (H0.2.1 16 s).toInt ∧ (H0.2.1 16 s).toInt ≤ 8) (hw : ∀ s : Nat, (s : Int) < (H0.2.1 13 0).toInt → ∀ j, j < (H0.2.1 16 s).toInt.toNat → -1 ≤ (H0.2.1 18 (8 * s + j)).toInt ∧ (H0.2.1 18 (8 * s + j)).toInt ≤ 3) (hc : ∀ s : Nat, (s : Int) < (H0.2.1 13 0).toInt → xIn S (H0.2.1 14 s).toInt) (W : zw_W H0) : ∃ X, zp_Call L σ (d + 6) 23 [.inr (.inr (some 55)), .inr (.inr (some 3)), .inr (.inr (some 14)), .inl set] H0 X ∧ ∃ H1, X = (.inl (some (.inr (.inl (xKn (fun s => xWk (xVyc S 13 H0 s)) set (H0.2.1 13 0).toInt.toNat (Int32.ofInt 0) (Int64.ofNat 0))))), H1) ∧ zw_W H1 ∧ xFv 54 H0 H1 := by
  refine zw_met zm_23_t rfl rfl ?_
  refine zw_s (pc' := 1) rfl rfl ?_
  refine zw_sl (n := 2) (k := 4) (pc' := 3) rfl rfl rfl rfl ?_
  refine zw_s (pc' := 4) rfl rfl ?_
  refine zw_st (n := 2) (k := 6) (f := zp_isI) (pc' := 6) rfl rfl rfl rfl rfl ?_
  exact xh_knL2 hS hC hn0 hm hw hc (H0.2.1 13 0).toInt.toNat _ _ (Int32.ofInt 0) (Int64.ofNat 0) W (xFv_r H0) (by decide) (by rw [show (Int32.ofInt 0).toInt = 0 by decide]; omega) (zw_gt (zw_gt2 rfl rfl rfl) rfl rfl) (zw_gt (zw_gt2 rfl rfl rfl) rfl rfl) (zw_gt (zw_gt2 rfl rfl rfl) rfl rfl) (zw_gt (zw_gt2 rfl rfl rfl) rfl rfl) (zw_gt zw_g2 rfl rfl) zw_g1 (fun H1 w1 w2 => ⟨H1, rfl, w1, w2⟩)

theorem xh_knL22 {L : Nat} {σ : Nat → Int32} {d : Nat} {P : zp_X → Prop} {S : xSea} {set : Int32} {H0 : zp_H} (hS : xOk S) (hC : xSC 22 H0 S) (hn0 : 0 ≤ (H0.2.1 33 0).toInt ∧ (H0.2.1 33 0).toInt ≤ 8) (hm : ∀ s : Nat, (s : Int) < (H0.2.1 33 0).toInt → 0 ≤ (H0.2.1 36 s).toInt ∧ (H0.2.1 36 s).toInt ≤ 8) (hw : ∀ s : Nat, (s : Int) < (H0.2.1 33 0).toInt → ∀ j, j < (H0.2.1 36 s).toInt.toNat → -1 ≤ (H0.2.1 38 (8 * s + j)).toInt ∧ (H0.2.1 38 (8 * s + j)).toInt ≤ 3) (hc : ∀ s : Nat, (s : Int) < (H0.2.1 33 0).toInt → xIn S (H0.2.1 34 s).toInt) : ∀ (n : Nat) (H : zp_H) (lv : zp_LV) (i : Int32) (u : Int64), zw_W H → xFv 54 H0 H → 0 ≤ i.toInt → i.toInt + (n : Int) = (H0.2.1 33 0).toInt → zp_get lv 0 = some (.inr (.inr (some 55))) → zp_get lv 1 = some (.inr (.inr (some 23))) → zp_get lv 2 = some (.inr (.inr (some 34))) → zp_get lv 3 = some (.inl set) → zp_get lv 4 = some (.inr (.inl u)) → zp_get lv 6 = some (.inl i) → (∀ H1, zw_W H1 → xFv 54 H0 H1 → P (.inl (some (.inr (.inl (xKn (fun s => xWk (xVyc S 33 H0 s)) set n i u)))), H1)) → zs_Safe L σ P zm_23 [] (d + 5) (6, lv, [], H, (0, 0)) := by
  intro n
  induction n with
  | zero =>
    intro H lv i u W hF h5 hn l0 l1 l2 l3 l4 l6 hP
    have hN : H.2.1 33 0 = H0.2.1 33 0 := hF.2.2.1 33 0 (by decide)
    refine zw_ld (n := 2) (k := 6) (f := zp_isI) (pc' := 8) rfl rfl l6 rfl rfl ?_
    refine zw_ld (n := 1) (k := 2) (f := zp_isR) (pc' := 9) rfl rfl l2 rfl rfl ?_
    refine zw_gI (q := 33) (pc' := 12) W rfl rfl rfl rfl rfl rfl ?_
    rw [hN]
    refine zw_bge2 (g := 47) (pc' := 15) rfl rfl rfl rfl rfl (fun h1 => ?_) (fun h1 => ?_)
    · refine zw_ld (n := 2) (k := 4) (f := zp_isL) (pc' := 49) rfl rfl l4 rfl rfl ?_
      refine zw_rl rfl rfl ?_
      exact hP H W hF
    · have hn : i.toInt + ((0 : Nat) : Int) = (H0.2.1 33 0).toInt := hn
      omega
  | succ n ih =>
    intro H lv i u W hF h5 hn l0 l1 l2 l3 l4 l6 hP
    have hN : H.2.1 33 0 = H0.2.1 33 0 := hF.2.2.1 33 0 (by decide)
    refine zw_ld (n := 2) (k := 6) (f := zp_isI) (pc' := 8) rfl rfl l6 rfl rfl ?_
    refine zw_ld (n := 1) (k := 2) (f := zp_isR) (pc' := 9) rfl rfl l2 rfl rfl ?_
    refine zw_gI (q := 33) (pc' := 12) W rfl rfl rfl rfl rfl rfl ?_
    rw [hN]
    refine zw_bge2 (g := 47) (pc' := 15) rfl rfl rfl rfl rfl (fun h1 => ?_) (fun h1 => ?_)
    · omega
    · have ei : (i + Int32.ofInt 1).toInt = i.toInt + 1 := zw_p1 (by omega)
      refine zw_ld (n := 1) (k := 3) (f := zp_isI) (pc' := 16) rfl rfl l3 rfl rfl ?_
      refine zw_ld (n := 2) (k := 6) (f := zp_isI) (pc' := 18) rfl rfl l6 rfl rfl ?_
      refine zw_ishr (pc' := 19) rfl rfl ?_
      refine zw_s (pc' := 20) rfl rfl ?_
      refine zw_iand (pc' := 21) rfl rfl ?_
      refine zw_beq1 (g := 41) (pc' := 24) rfl rfl rfl rfl (fun h2 => ?_) (fun h2 => ?_)
      · rw [xKn_n h2] at hP
        refine zw_ii (pc' := 44) rfl l6 rfl rfl ?_
        refine zw_s (pc' := 6) rfl rfl ?_
        exact ih H _ (i + Int32.ofInt 1) u W hF (by omega) (by omega) (zw_gt l0 rfl rfl) (zw_gt l1 rfl rfl) (zw_gt l2 rfl rfl) (zw_gt l3 rfl rfl) (zw_gt l4 rfl rfl) zw_g1 hP
      · rw [xKn_y h2] at hP
        have hi : ((i.toInt.toNat : Nat) : Int) < (H0.2.1 33 0).toInt := by omega
        have fc : ∀ p k, 34 ≤ p → p ≤ 39 → H.2.1 p k = H0.2.1 p k := fun p k p1 p2 => hF.2.2.1 p k (by omega)
        obtain ⟨_, q1, H1, rfl, W1, q2, q3⟩ := xc_fo22 (L := L) (σ := σ) (d := d) (s := i) W hS (xSC_v hF ⟨by decide, by decide, by decide⟩ hC) ⟨h5, by omega⟩ (by rw [fc 36 _ (by decide) (by decide)]; exact hm _ hi) (fun j hj => by rw [fc 36 _ (by decide) (by decide)] at hj; rw [fc 38 _ (by decide) (by decide)]; exact hw _ hi j hj) (by rw [fc 34 _ (by decide) (by decide)]; exact hc _ hi)
        have q3 : xE7 54 H1 (xVyc S 33 H i.toInt.toNat) := q3
        rw [xVyc_f (cp := 33) (fun p k p1 p2 => fc p k (by omega) (by omega))] at q3
        have qw := yc_wr (L := L) (σ := σ) (d := d + 3) (H := H1) W1
        have ew : (if (H1.2.1 54 2).toInt = 1 ∨ (H1.2.1 54 2).toInt = 2 then za_shl0 (Int64.ofNat 1) (H1.2.1 54 0) else Int64.ofNat 0) = xWk (xVyc S 33 H0 i.toInt.toNat) := by
          rw [q3.1, q3.2.2.1]
          unfold xWk
          by_cases h9 : xWr (xVyc S 33 H0 i.toInt.toNat) = true
          · rw [if_pos h9, if_pos (xWr_t.mp h9)]
          · rw [if_neg h9, if_neg (fun h8 => h9 (xWr_t.mpr h8))]
        rw [ew] at qw
        refine zw_ld (n := 1) (k := 0) (f := zp_isR) (pc' := 25) rfl rfl l0 rfl rfl ?_
        refine zw_ld (n := 1) (k := 1) (f := zp_isR) (pc' := 26) rfl rfl l1 rfl rfl ?_
        refine zw_ld (n := 1) (k := 2) (f := zp_isR) (pc' := 27) rfl rfl l2 rfl rfl ?_
        refine zw_ld (n := 2) (k := 6) (f := zp_isI) (pc' := 29) rfl rfl l6 rfl rfl ?_
        refine zw_cn (pc' := 32) (zw_cv (q := 54) (Y := zm_24) W.1 rfl rfl zm_24_t rfl rfl) rfl rfl rfl rfl rfl (q1) ?_
        refine zw_ld (n := 2) (k := 4) (f := zp_isL) (pc' := 34) rfl rfl l4 rfl rfl ?_
        refine zw_ld (n := 1) (k := 0) (f := zp_isR) (pc' := 35) rfl rfl l0 rfl rfl ?_
        refine zw_c (pc' := 38) (zw_cv (q := 54) (Y := zm_34) W1.1 rfl rfl zm_34_t rfl rfl) rfl rfl rfl rfl rfl (qw) ?_
        refine zw_lor (pc' := 39) rfl rfl ?_
        refine zw_sl (n := 2) (k := 4) (pc' := 41) rfl rfl rfl rfl ?_
        refine zw_ii (pc' := 44) rfl (zw_gt2 l6 rfl rfl) rfl rfl ?_
        refine zw_s (pc' := 6) rfl rfl ?_
        exact ih H1 _ (i + Int32.ofInt 1) _ W1 (xFv_t hF q2) (by omega) (by omega) (zw_gt (zw_gt2 l0 rfl rfl) rfl rfl) (zw_gt (zw_gt2 l1 rfl rfl) rfl rfl) (zw_gt (zw_gt2 l2 rfl rfl) rfl rfl) (zw_gt (zw_gt2 l3 rfl rfl) rfl rfl) (zw_gt zw_g2 rfl rfl) zw_g1 hP

theorem xh_kn22 {L : Nat} {σ : Nat → Int32} {d : Nat} {S : xSea} {set : Int32} {H0 : zp_H} (hS : xOk S) (hC : xSC 22 H0 S) (hn0 : 0 ≤ (H0.2.1 33 0).toInt ∧ (H0.2.1 33 0).toInt ≤ 8) (hm : ∀ s : Nat, (s : Int) < (H0.2.1 33 0).toInt → 0 ≤ (H0.2.1 36 s).toInt ∧ (H0.2.1 36 s).toInt ≤ 8) (hw : ∀ s : Nat, (s : Int) < (H0.2.1 33 0).toInt → ∀ j, j < (H0.2.1 36 s).toInt.toNat → -1 ≤ (H0.2.1 38 (8 * s + j)).toInt ∧ (H0.2.1 38 (8 * s + j)).toInt ≤ 3) (hc : ∀ s : Nat, (s : Int) < (H0.2.1 33 0).toInt → xIn S (H0.2.1 34 s).toInt) (W : zw_W H0) : ∃ X, zp_Call L σ (d + 6) 23 [.inr (.inr (some 55)), .inr (.inr (some 23)), .inr (.inr (some 34)), .inl set] H0 X ∧ ∃ H1, X = (.inl (some (.inr (.inl (xKn (fun s => xWk (xVyc S 33 H0 s)) set (H0.2.1 33 0).toInt.toNat (Int32.ofInt 0) (Int64.ofNat 0))))), H1) ∧ zw_W H1 ∧ xFv 54 H0 H1 := by
  refine zw_met zm_23_t rfl rfl ?_
  refine zw_s (pc' := 1) rfl rfl ?_
  refine zw_sl (n := 2) (k := 4) (pc' := 3) rfl rfl rfl rfl ?_
  refine zw_s (pc' := 4) rfl rfl ?_
  refine zw_st (n := 2) (k := 6) (f := zp_isI) (pc' := 6) rfl rfl rfl rfl rfl ?_
  exact xh_knL22 hS hC hn0 hm hw hc (H0.2.1 33 0).toInt.toNat _ _ (Int32.ofInt 0) (Int64.ofNat 0) W (xFv_r H0) (by decide) (by rw [show (Int32.ofInt 0).toInt = 0 by decide]; omega) (zw_gt (zw_gt2 rfl rfl rfl) rfl rfl) (zw_gt (zw_gt2 rfl rfl rfl) rfl rfl) (zw_gt (zw_gt2 rfl rfl rfl) rfl rfl) (zw_gt (zw_gt2 rfl rfl rfl) rfl rfl) (zw_gt zw_g2 rfl rfl) zw_g1 (fun H1 w1 w2 => ⟨H1, rfl, w1, w2⟩)
