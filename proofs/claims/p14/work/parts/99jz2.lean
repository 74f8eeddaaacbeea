/-! ===== where he may be: the reference, a step of all ===== -/
def zm_226 : za_MI := (yX12_stepsAll, prog_14_method_63_code, 7, none, 12, 0, 0, [], za_i226)
theorem zm_226_t : za_MT 226 = some zm_226 := rfl
/-- but where the ship is and the three rows of masks nothing is changed -/
def xFw (H H1 : zp_H) : Prop := H1.1 = H.1 ∧ H1.2.2.2 = H.2.2.2 ∧ (∀ p k, ¬ (p = 72 ∧ k = 64) → H1.2.1 p k = H.2.1 p k) ∧ ∀ p k, ¬ (p = 72 ∧ k = 65) → ¬ (94 ≤ p ∧ p ≤ 96) → H1.2.2.1 p k = H.2.2.1 p k
theorem xFw_r (H : zp_H) : xFw H H := ⟨rfl, rfl, fun _ _ _ => rfl, fun _ _ _ _ => rfl⟩
theorem xFw_t {H H1 H2 : zp_H} (h1 : xFw H H1) (h2 : xFw H1 H2) : xFw H H2 := ⟨h2.1.trans h1.1, h2.2.1.trans h1.2.1, fun p k h => (h2.2.2.1 p k h).trans (h1.2.2.1 p k h), fun p k h h' => (h2.2.2.2 p k h h').trans (h1.2.2.2 p k h h')⟩
theorem xFw_I {H H1 : zp_H} {x : Int32} (h : xFw H H1) : xFw H (zw_I H1 72 64 x) := ⟨h.1, h.2.1, fun p j hn => (y_ne (fun h9 => hn h9)).trans (h.2.2.1 p j hn), h.2.2.2⟩
theorem xJne {H : zp_H} {q k p i : Nat} {v : Int64} (h : ¬ p = q) : (zw_J H q k v).2.2.1 p i = H.2.2.1 p i := zp_u_ne (fun h9 => h h9.1)
theorem xJns {H : zp_H} {q k : Nat} {v : Int64} : (zw_J H q k v).2.2.1 q k = v := zp_u_self _ _ _ _
theorem xJ96 {H : zp_H} {k p i : Nat} {v : Int64} (h : ¬ p = 96) : (zw_J H 96 k v).2.2.1 p i = H.2.2.1 p i := zp_u_ne (fun h9 => h h9.1)
theorem xJ9k {H : zp_H} {k i : Nat} {v : Int64} (h : ¬ i = k) : (zw_J H 96 k v).2.2.1 96 i = H.2.2.1 96 i := zp_u_ne (fun h9 => h h9.2)
theorem xJ9s {H : zp_H} {k : Nat} {v : Int64} : (zw_J H 96 k v).2.2.1 96 k = v := zp_u_self _ _ _ _
theorem xI0z : (Int32.ofInt 0).toInt.toNat = 0 := by decide
theorem xSq4 {S : xSea} (hS : xOk S) : 4 ≤ S.1 * S.2.1 ∧ S.1 * S.2.1 ≤ 64 := ⟨Int.mul_le_mul (a := 2) (b := 2) (c := S.1) (d := S.2.1) hS.1.1 hS.2.1.1 (by decide) (by have := hS.1.1; omega), Int.mul_le_mul (c := 8) (d := 8) hS.1.2 hS.2.1.2 (by have := hS.2.1.1; omega) (by decide)⟩
theorem xFw_J {q k : Nat} {H H1 : zp_H} {u : Int64} (h : xFw H H1) (hq : 94 ≤ q ∧ q ≤ 96) : xFw H (zw_J H1 q k u) := ⟨h.1, h.2.1, h.2.2.1, fun p j hn hn' => (zp_u_ne (fun h9 => hn' (by obtain ⟨e, -⟩ := h9; omega))).trans (h.2.2.2 p j hn hn')⟩
theorem xFs_w {H H1 : zp_H} (h : xFs 64 64 H H1) : xFw H H1 := ⟨h.1, h.2.1, fun p k hn => h.2.2.1 p k (fun h9 => hn ⟨h9.1, by have := h9.2; omega⟩), fun p k hn _ => h.2.2.2 p k hn⟩
theorem xSR_w {H H1 : zp_H} {S : xSea} (h : xFw H H1) (hR : xSR H S) : xSR H1 S := ⟨(congrArg Int32.toInt (h.2.2.1 72 1 (by decide))).trans hR.1, (congrArg Int32.toInt (h.2.2.1 72 2 (by decide))).trans hR.2.1, (h.2.2.2 72 12 (by decide) (by decide)).trans hR.2.2.1, fun k hk => (congrArg Int32.toInt (h.2.2.1 73 k (fun h9 => absurd h9.1 (by decide)))).trans (hR.2.2.2 k hk)⟩
/-- what wraps keeps its parity -/
theorem x_par {x y : Int32} : (x + y).toInt % 2 = (x.toInt + y.toInt) % 2 := by
  rw [Int32.toInt_add]
  have h : (2 ^ 32 : Nat) = 4294967296 := by decide
  rw [Int.bmod_def, h]
  by_cases h9 : (x.toInt + y.toInt) % ((4294967296 : Nat) : Int) < (((4294967296 : Nat) : Int) + 1) / 2
  · rw [if_pos h9]
    omega
  · rw [if_neg h9]
    omega
theorem x_par1 {x : Int32} : (x - Int32.ofInt 1).toInt % 2 = (x.toInt - 1) % 2 := by
  rw [Int32.toInt_sub, show (Int32.ofInt 1).toInt = 1 by decide]
  have h : (2 ^ 32 : Nat) = 4294967296 := by decide
  rw [Int.bmod_def, h]
  by_cases h9 : (x.toInt - 1) % ((4294967296 : Nat) : Int) < (((4294967296 : Nat) : Int) + 1) / 2
  · rw [if_pos h9]
    omega
  · rw [if_neg h9]
    omega
/-- the image of the cells below c -/
def xPc9 (S : xSea) (w hr : Int) (X : Int64) (c : Nat) (v : Int64) : Prop := ∀ k : Nat, k < 64 → (yTb v k = true ↔ ∃ e : Nat, e < c ∧ yTb X e = true ∧ xSt S e hr w true = (0, (k : Int)))
theorem xPc9_n {S : xSea} {w hr : Int} {X v : Int64} {c : Nat} (h : xPc9 S w hr X c v) (hn : yTb X c = true → (xSt S c hr w true).1 ≠ 0) : xPc9 S w hr X (c + 1) v := by
  intro k hk
  rw [h k hk]
  constructor
  · rintro ⟨e, e1, e2, e3⟩
    exact ⟨e, by omega, e2, e3⟩
  · rintro ⟨e, e1, e2, e3⟩
    by_cases h9 : e = c
    · subst h9
      exact absurd (congrArg Prod.fst e3) (hn e2)
    · exact ⟨e, by omega, e2, e3⟩
theorem xPc9_y {S : xSea} {w hr : Int} {X v : Int64} {c : Nat} {a : Int32} (h : xPc9 S w hr X c v) (h1 : yTb X c = true) (h2 : xSt S c hr w true = (0, a.toInt)) (ha : 0 ≤ a.toInt ∧ a.toInt ≤ 63) : xPc9 S w hr X (c + 1) (v ||| za_shl0 (Int64.ofNat 1) a) := by
  intro k hk
  rw [tb_or, Bool.or_eq_true_iff, h k hk, tb_bit ha hk, decide_eq_true_iff]
  constructor
  · rintro (⟨e, e1, e2, e3⟩ | e)
    · exact ⟨e, by omega, e2, e3⟩
    · exact ⟨c, by omega, h1, by rw [h2, e]; exact congrArg (fun z : Int => ((0 : Int), z)) (by omega)⟩
  · rintro ⟨e, e1, e2, e3⟩
    by_cases h9 : e = c
    · subst h9
      rw [h2] at e3
      have e4 : a.toInt = (k : Int) := congrArg Prod.snd e3
      exact Or.inr (by omega)
    · exact Or.inl ⟨e, by omega, e2, e3⟩
theorem xPc9_0 {S : xSea} {w hr : Int} {X : Int64} : xPc9 S w hr X 0 (Int64.ofNat 0) := by
  intro k _
  rw [tb_0]
  exact ⟨fun h => (by cases h), fun ⟨e, h, _⟩ => absurd h (Nat.not_lt_zero _)⟩
theorem xPc9_e {S : xSea} {w hr : Int} {X v : Int64} {c : Nat} (hc : (c : Int) = S.1 * S.2.1) (h : xPc9 S w hr X c v) : xSs S w hr X v := by
  intro k hk
  rw [h k hk]
  constructor
  · rintro ⟨e, e1, e2, e3⟩
    exact ⟨e, by omega, e2, e3⟩
  · rintro ⟨e, e1, e2, e3⟩
    exact ⟨e, by omega, e2, e3⟩
theorem xSs_p {S : xSea} {w hr hr' : Int} {X Y : Int64} (e : hr % 2 = hr' % 2) (h : xSs S w hr X Y) : xSs S w (hr' % 2) X Y := by
  intro k hk
  rw [h k hk]
  constructor
  · rintro ⟨c, c1, c2, c3⟩
    rw [xSt_p, e] at c3
    exact ⟨c, c1, c2, c3⟩
  · rintro ⟨c, c1, c2, c3⟩
    exact ⟨c, c1, c2, by rw [xSt_p, e]; exact c3⟩

theorem yr_sIn {L : Nat} {σ : Nat → Int32} {d : Nat} {P : zp_X → Prop} {H0 : zp_H} {x y h : Int32} {S : xSea} (hS : xOk S) (sq : 4 ≤ S.1 * S.2.1 ∧ S.1 * S.2.1 ≤ 64) (hR : xSR H0 S) (hh : 1 ≤ h.toInt ∧ h.toInt ≤ 72) : ∀ (n : Nat) (H : zp_H) (lv : zp_LV) (c : Int32) (v : Int64), zw_W H → xFw H0 H → (∀ g, H.2.2.1 96 g = H0.2.2.1 96 g) → (∀ g, H.2.2.1 94 g = H0.2.2.1 94 g) ∧ (∀ g, H.2.2.1 95 g = H0.2.2.1 95 g) → xPc9 S x.toInt (y + h - Int32.ofInt 1).toInt (H0.2.2.1 96 (h.toInt.toNat - 1)) c.toInt.toNat v → 0 ≤ c.toInt → c.toInt + n = S.1 * S.2.1 → zp_get lv 0 = some (.inr (.inr (some 73))) → zp_get lv 1 = some (.inl x) → zp_get lv 2 = some (.inl y) → zp_get lv 3 = some (.inl h) → zp_get lv 4 = some (.inr (.inl v)) → zp_get lv 6 = some (.inl c) → (∀ H1 lv1 v1, zw_W H1 → xFw H0 H1 → (∀ g, H1.2.2.1 96 g = H0.2.2.1 96 g) → (∀ g, H1.2.2.1 94 g = H0.2.2.1 94 g) ∧ (∀ g, H1.2.2.1 95 g = H0.2.2.1 95 g) → xSs S x.toInt (y + h - Int32.ofInt 1).toInt (H0.2.2.1 96 (h.toInt.toNat - 1)) v1 → zp_get lv1 0 = some (.inr (.inr (some 73))) → zp_get lv1 1 = some (.inl x) → zp_get lv1 2 = some (.inl y) → zp_get lv1 3 = some (.inl h) → zp_get lv1 4 = some (.inr (.inl v1)) → zs_Safe L σ P zm_226 [] (d + 2) (85, lv1, [], H1, (0, 0))) → zs_Safe L σ P zm_226 [] (d + 2) (13, lv, [], H, (0, 0)) := by
  intro n
  induction n with
  | zero =>
    intro H lv c v W hF hM hO hv h5 hn l0 l1 l2 l3 l4 l6 hP
    have hR1 := xSR_w hF hR
    have es : (H.2.1 72 1 * H.2.1 72 2).toInt = S.1 * S.2.1 := by
      rw [Int32.toInt_mul, hR1.1, hR1.2.1]
      exact Int.bmod_eq_of_le (by omega) (by omega)
    refine zw_ld (n := 2) (k := 6) (f := zp_isI) (pc' := 15) rfl rfl l6 rfl rfl ?_
    refine zw_ld (n := 1) (k := 0) (f := zp_isR) (pc' := 16) rfl rfl l0 rfl rfl ?_
    refine zw_gI (q := 72) (pc' := 19) W rfl rfl rfl rfl rfl rfl ?_
    refine zw_ld (n := 1) (k := 0) (f := zp_isR) (pc' := 20) rfl rfl l0 rfl rfl ?_
    refine zw_gI (q := 72) (pc' := 23) W rfl rfl rfl rfl rfl rfl ?_
    refine zw_imul (pc' := 24) rfl rfl ?_
    refine zw_bge2 (g := 85) (pc' := 27) rfl rfl rfl rfl rfl (fun h1 => ?_) (fun h1 => ?_)
    · refine hP H lv v W hF hM hO (xPc9_e (c := c.toInt.toNat) (by omega) hv) l0 l1 l2 l3 l4
    · have h1 : c.toInt < (H.2.1 72 1 * H.2.1 72 2).toInt := h1
      rw [es] at h1
      omega
  | succ n ih =>
    intro H lv c v W hF hM hO hv h5 hn l0 l1 l2 l3 l4 l6 hP
    have hR1 := xSR_w hF hR
    have es : (H.2.1 72 1 * H.2.1 72 2).toInt = S.1 * S.2.1 := by
      rw [Int32.toInt_mul, hR1.1, hR1.2.1]
      exact Int.bmod_eq_of_le (by omega) (by omega)
    refine zw_ld (n := 2) (k := 6) (f := zp_isI) (pc' := 15) rfl rfl l6 rfl rfl ?_
    refine zw_ld (n := 1) (k := 0) (f := zp_isR) (pc' := 16) rfl rfl l0 rfl rfl ?_
    refine zw_gI (q := 72) (pc' := 19) W rfl rfl rfl rfl rfl rfl ?_
    refine zw_ld (n := 1) (k := 0) (f := zp_isR) (pc' := 20) rfl rfl l0 rfl rfl ?_
    refine zw_gI (q := 72) (pc' := 23) W rfl rfl rfl rfl rfl rfl ?_
    refine zw_imul (pc' := 24) rfl rfl ?_
    refine zw_bge2 (g := 85) (pc' := 27) rfl rfl rfl rfl rfl (fun h1 => ?_) (fun h1 => ?_)
    · have h1 : (H.2.1 72 1 * H.2.1 72 2).toInt ≤ c.toInt := h1
      rw [es] at h1
      omega
    · have h1 : c.toInt < (H.2.1 72 1 * H.2.1 72 2).toInt := h1
      rw [es] at h1
      have ec : (c + Int32.ofInt 1).toInt = c.toInt + 1 := zw_p1 (by omega)
      have en : (c + Int32.ofInt 1).toInt.toNat = c.toInt.toNat + 1 := by omega
      have eh : (h - Int32.ofInt 1).toInt = h.toInt - 1 := zw_m1 (by omega)
      have eh2 : (h - Int32.ofInt 1).toInt.toNat = h.toInt.toNat - 1 := by omega
      have ecc : ((c.toInt.toNat : Nat) : Int) = c.toInt := by omega
      refine zw_ld (n := 1) (k := 0) (f := zp_isR) (pc' := 28) rfl rfl l0 rfl rfl ?_
      refine zw_gR (q := 72) (pc' := 31) W rfl rfl rfl rfl (W.2 72 74 _ rfl) rfl ?_
      refine zw_ld (n := 1) (k := 3) (f := zp_isI) (pc' := 32) rfl rfl l3 rfl rfl ?_
      refine zw_s (pc' := 33) rfl rfl ?_
      refine zw_isub (pc' := 34) rfl rfl ?_
      refine zw_la (q := 96) (pc' := 35) W rfl rfl (⟨by omega, by show _ < ((73 : Nat) : Int); omega⟩) rfl ?_
      rw [eh2, hM]
      refine zw_ld (n := 2) (k := 6) (f := zp_isI) (pc' := 37) rfl rfl l6 rfl rfl ?_
      refine zw_lshr (pc' := 38) rfl rfl ?_
      refine zw_s (pc' := 39) rfl rfl ?_
      refine zw_land (pc' := 40) rfl rfl ?_
      rw [show za_shr0 (H0.2.2.1 96 (h.toInt.toNat - 1)) c &&& Int64.ofNat ((1 : Fin 2) : Nat) = za_shr0 (H0.2.2.1 96 (h.toInt.toNat - 1)) c &&& Int64.ofNat 1 from rfl, y_shv (r := (H0.2.2.1 96 (h.toInt.toNat - 1))) (c := c) ⟨by omega, by omega⟩]
      by_cases hb : yTb (H0.2.2.1 96 (h.toInt.toNat - 1)) c.toInt.toNat = true
      · rw [if_pos hb]
        refine zw_s (pc' := 41) rfl rfl ?_
        refine zw_s (pc' := 42) rfl rfl ?_
        refine zw_bne1 (g := 48) (pc' := 45) rfl rfl rfl rfl (fun h2 => ?_) (fun h2 => ?_)
        · have hat : (zw_I H 72 64 c).2.1 72 64 = c := zw_eq
          have f0 : xFw H0 (zw_I H 72 64 c) := xFw_I hF
          obtain ⟨_, q1, H1, rfl, W1, q2, q3⟩ := xr_st1 (L := L) (σ := σ) (d := d) (H := (zw_I H 72 64 c)) (x1 := x) (x2 := y + h - Int32.ofInt 1) (zw_W_I W) hS (xSR_w f0 hR) (by rw [hat]; exact ⟨h5, by omega⟩)
          rw [hat] at q1 q3
          have f1 : xFw H0 H1 := xFw_t f0 (xFs_w q2)
          have hM1 : ∀ g, H1.2.2.1 96 g = H0.2.2.1 96 g := fun g => (q2.2.2.2 96 g (fun h9 => absurd h9.1 (by decide))).trans (hM g)
          have hb2 := xSt_b (hr := (y + h - Int32.ofInt 1).toInt) (d := x.toInt) (t := true) hS (show xIn S c.toInt from ⟨h5, by omega⟩)
          have ho2 := xSt_o (hr := (y + h - Int32.ofInt 1).toInt) (d := x.toInt) (t := true) hS (show xIn S c.toInt from ⟨h5, by omega⟩)
          have h64 := xIn_64 hS hb2.1
          refine zw_ld (n := 1) (k := 0) (f := zp_isR) (pc' := 49) rfl rfl l0 rfl rfl ?_
          refine zw_ld (n := 2) (k := 6) (f := zp_isI) (pc' := 51) rfl rfl l6 rfl rfl ?_
          refine zw_pI (q := 72) (pc' := 54) W rfl rfl rfl rfl rfl rfl ?_
          refine zw_ld (n := 1) (k := 0) (f := zp_isR) (pc' := 55) rfl rfl l0 rfl rfl ?_
          refine zw_ld (n := 1) (k := 1) (f := zp_isI) (pc' := 56) rfl rfl l1 rfl rfl ?_
          refine zw_ld (n := 1) (k := 2) (f := zp_isI) (pc' := 57) rfl rfl l2 rfl rfl ?_
          refine zw_ld (n := 1) (k := 3) (f := zp_isI) (pc' := 58) rfl rfl l3 rfl rfl ?_
          refine zw_iadd (pc' := 59) rfl rfl ?_
          refine zw_s (pc' := 60) rfl rfl ?_
          refine zw_isub (pc' := 61) rfl rfl ?_
          refine zw_s (pc' := 62) rfl rfl ?_
          refine zw_c (pc' := 65) (zw_cv (q := 72) (Y := zm_221) (zw_W_I W).1 rfl rfl zm_221_t rfl rfl) rfl rfl rfl rfl rfl (q1) ?_
          refine zw_bne1 (g := 79) (pc' := 68) rfl rfl rfl rfl (fun h3 => ?_) (fun h3 => ?_)
          · have h3 : ¬ (Int32.ofInt (xSt S c.toInt (y + h - Int32.ofInt 1).toInt x.toInt true).1).toInt = 0 := h3
            rw [ho2.1] at h3
            refine zw_ii (pc' := 82) rfl l6 rfl rfl ?_
            refine zw_s (pc' := 13) rfl rfl ?_
            exact ih H1 _ (c + Int32.ofInt 1) v W1 f1 hM1 ⟨fun g => (q2.2.2.2 94 g (fun h9 => absurd h9.1 (by decide))).trans (hO.1 g), fun g => (q2.2.2.2 95 g (fun h9 => absurd h9.1 (by decide))).trans (hO.2 g)⟩ (by rw [en]; exact xPc9_n hv (fun _ => by rw [ecc]; exact h3)) (by omega) (by omega) (zw_gt l0 rfl rfl) (zw_gt l1 rfl rfl) (zw_gt l2 rfl rfl) (zw_gt l3 rfl rfl) (zw_gt l4 rfl rfl) zw_g1 hP
          · have h3 : (Int32.ofInt (xSt S c.toInt (y + h - Int32.ofInt 1).toInt x.toInt true).1).toInt = 0 := h3
            rw [ho2.1] at h3
            refine zw_ld (n := 2) (k := 4) (f := zp_isL) (pc' := 70) rfl rfl l4 rfl rfl ?_
            refine zw_s (pc' := 71) rfl rfl ?_
            refine zw_ld (n := 1) (k := 0) (f := zp_isR) (pc' := 72) rfl rfl l0 rfl rfl ?_
            refine zw_gI (q := 72) (pc' := 75) W1 rfl rfl rfl rfl rfl rfl ?_
            rw [q3]
            refine zw_lshl (pc' := 76) rfl rfl ?_
            refine zw_lor (pc' := 77) rfl rfl ?_
            refine zw_sl (n := 2) (k := 4) (pc' := 79) rfl rfl rfl rfl ?_
            refine zw_ii (pc' := 82) rfl (zw_gt2 l6 rfl rfl) rfl rfl ?_
            refine zw_s (pc' := 13) rfl rfl ?_
            exact ih H1 _ (c + Int32.ofInt 1) _ W1 f1 hM1 ⟨fun g => (q2.2.2.2 94 g (fun h9 => absurd h9.1 (by decide))).trans (hO.1 g), fun g => (q2.2.2.2 95 g (fun h9 => absurd h9.1 (by decide))).trans (hO.2 g)⟩ (by rw [en]; exact xPc9_y hv hb (by rw [ecc, ho2.2]; exact Prod.ext h3 rfl) (by rw [ho2.2]; exact h64)) (by omega) (by omega) (zw_gt (zw_gt2 l0 rfl rfl) rfl rfl) (zw_gt (zw_gt2 l1 rfl rfl) rfl rfl) (zw_gt (zw_gt2 l2 rfl rfl) rfl rfl) (zw_gt (zw_gt2 l3 rfl rfl) rfl rfl) (zw_gt zw_g2 rfl rfl) zw_g1 hP
        · exact absurd h2 (by decide)
      · rw [if_neg hb]
        refine zw_s (pc' := 41) rfl rfl ?_
        refine zw_s (pc' := 42) rfl rfl ?_
        refine zw_bne1 (g := 48) (pc' := 45) rfl rfl rfl rfl (fun h2 => ?_) (fun h2 => ?_)
        · exact absurd (show (lg_cmp (Int64.ofNat 0) (Int64.ofNat 0)).toInt = 0 by decide) h2
        · refine zw_s (pc' := 79) rfl rfl ?_
          refine zw_ii (pc' := 82) rfl l6 rfl rfl ?_
          refine zw_s (pc' := 13) rfl rfl ?_
          exact ih H _ (c + Int32.ofInt 1) v W hF hM hO (by rw [en]; exact xPc9_n hv (fun h9 => absurd h9 hb)) (by omega) (by omega) (zw_gt l0 rfl rfl) (zw_gt l1 rfl rfl) (zw_gt l2 rfl rfl) (zw_gt l3 rfl rfl) (zw_gt l4 rfl rfl) zw_g1 hP

theorem yr_sOut {L : Nat} {σ : Nat → Int32} {d : Nat} {P : zp_X → Prop} {H0 : zp_H} {x y : Int32} {S : xSea} (hS : xOk S) (sq : 4 ≤ S.1 * S.2.1 ∧ S.1 * S.2.1 ≤ 64) (hR : xSR H0 S) : ∀ (n : Nat) (H : zp_H) (lv : zp_LV) (h : Int32), zw_W H → xFw H0 H → (∀ g, H.2.2.1 94 g = H0.2.2.1 94 g) → (∀ g, H.2.2.1 95 g = H0.2.2.1 95 g) → h.toInt = n → h.toInt ≤ 72 → (∀ g : Nat, (g : Int) ≤ h.toInt → H.2.2.1 96 g = H0.2.2.1 96 g) → (∀ g : Nat, h.toInt ≤ (g : Int) → g < 72 → xSs S x.toInt ((y.toInt + g) % 2) (H0.2.2.1 96 g) (H.2.2.1 96 (g + 1))) → zp_get lv 0 = some (.inr (.inr (some 73))) → zp_get lv 1 = some (.inl x) → zp_get lv 2 = some (.inl y) → zp_get lv 3 = some (.inl h) → (∀ H1, zw_W H1 → xFw H0 H1 → (∀ g, H1.2.2.1 94 g = H0.2.2.1 94 g) → (∀ g, H1.2.2.1 95 g = H0.2.2.1 95 g) → H1.2.2.1 96 0 = Int64.ofNat 0 → (∀ g : Nat, g < 72 → xSs S x.toInt ((y.toInt + g) % 2) (H0.2.2.1 96 g) (H1.2.2.1 96 (g + 1))) → P (.inl none, H1)) → zs_Safe L σ P zm_226 [] (d + 2) (3, lv, [], H, (0, 0)) := by
  intro n
  induction n with
  | zero =>
    intro H lv h W hF h94 h95 h5 h72 hU hD l0 l1 l2 l3 hP
    refine zw_ld (n := 1) (k := 3) (f := zp_isI) (pc' := 4) rfl rfl l3 rfl rfl ?_
    refine zw_ble1 (g := 99) (pc' := 7) rfl rfl rfl rfl (fun h1 => ?_) (fun h1 => ?_)
    · refine zw_ld (n := 1) (k := 0) (f := zp_isR) (pc' := 100) rfl rfl l0 rfl rfl ?_
      refine zw_gR (q := 72) (pc' := 103) W rfl rfl rfl rfl (W.2 72 74 _ rfl) rfl ?_
      refine zw_s (pc' := 104) rfl rfl ?_
      refine zw_s (pc' := 105) rfl rfl ?_
      refine zw_ls (q := 96) (pc' := 106) W rfl rfl (⟨by decide, by show (Int32.ofInt 0).toInt < ((73 : Nat) : Int); decide⟩) rfl ?_
      refine zw_rn rfl rfl ?_
      refine hP _ (zw_W_J W) (xFw_J hF ⟨by decide, by decide⟩) (fun g => (xJ96 (by decide)).trans (h94 g)) (fun g => (xJ96 (by decide)).trans (h95 g)) ?_ (fun g hg => ?_)
      · rw [xI0z]
        exact xJ9s
      · rw [xI0z, xJ9k (show ¬ g + 1 = 0 by omega)]
        exact hD g (by omega) hg
    · omega
  | succ n ih =>
    intro H lv h W hF h94 h95 h5 h72 hU hD l0 l1 l2 l3 hP
    refine zw_ld (n := 1) (k := 3) (f := zp_isI) (pc' := 4) rfl rfl l3 rfl rfl ?_
    refine zw_ble1 (g := 99) (pc' := 7) rfl rfl rfl rfl (fun h1 => ?_) (fun h1 => ?_)
    · omega
    · have eh : (h - Int32.ofInt 1).toInt = h.toInt - 1 := zw_m1 (by omega)
      obtain ⟨hm, ehm⟩ : ∃ hm : Int32, h + Int32.ofInt (-1) = hm := ⟨_, rfl⟩
      have eh1 : hm.toInt = h.toInt - 1 := by
        rw [← ehm, x_ad ⟨by decide, by decide⟩ (by omega) (by omega)]
        omega
      have eg : h.toInt.toNat - 1 + 1 = h.toInt.toNat := by omega
      refine zw_s (pc' := 8) rfl rfl ?_
      refine zw_sl (n := 2) (k := 4) (pc' := 10) rfl rfl rfl rfl ?_
      refine zw_s (pc' := 11) rfl rfl ?_
      refine zw_st (n := 2) (k := 6) (f := zp_isI) (pc' := 13) rfl rfl rfl rfl rfl ?_
      refine yr_sIn (H0 := H) (x := x) (y := y) (h := h) hS sq (xSR_w hF hR) ⟨by omega, by omega⟩ (S.1 * S.2.1).toNat H _ (Int32.ofInt 0) (Int64.ofNat 0) W (xFw_r H) (fun _ => rfl) ⟨fun _ => rfl, fun _ => rfl⟩ (by rw [show (Int32.ofInt 0).toInt.toNat = 0 by decide]; exact xPc9_0) (by decide) (by rw [show (Int32.ofInt 0).toInt = 0 by decide]; omega) (zw_gt (zw_gt2 l0 rfl rfl) rfl rfl) (zw_gt (zw_gt2 l1 rfl rfl) rfl rfl) (zw_gt (zw_gt2 l2 rfl rfl) rfl rfl) (zw_gt (zw_gt2 l3 rfl rfl) rfl rfl) (zw_gt zw_g2 rfl rfl) zw_g1 (fun H1 lv1 v1 w1 w2 w3 w9 w4 m0 m1 m2 m3 m4 => ?_)
      refine zw_ld (n := 1) (k := 0) (f := zp_isR) (pc' := 86) rfl rfl m0 rfl rfl ?_
      refine zw_gR (q := 72) (pc' := 89) w1 rfl rfl rfl rfl (w1.2 72 74 _ rfl) rfl ?_
      refine zw_ld (n := 1) (k := 3) (f := zp_isI) (pc' := 90) rfl rfl m3 rfl rfl ?_
      refine zw_ld (n := 2) (k := 4) (f := zp_isL) (pc' := 92) rfl rfl m4 rfl rfl ?_
      refine zw_ls (q := 96) (pc' := 93) w1 rfl rfl (⟨by omega, by show _ < ((73 : Nat) : Int); omega⟩) rfl ?_
      refine zw_iiy (pc' := 96) rfl m3 rfl rfl ehm ?_
      refine zw_s (pc' := 3) rfl rfl ?_
      refine ih (zw_J H1 96 h.toInt.toNat v1) _ hm (zw_W_J w1) (xFw_J (xFw_t hF w2) ⟨by decide, by decide⟩) ?_ ?_ (by omega) (by omega) (fun g hg => ?_) (fun g hg hg2 => ?_) (zw_gt m0 rfl rfl) (zw_gt m1 rfl rfl) (zw_gt m2 rfl rfl) zw_g1 hP
      · exact fun g => (xJ96 (by decide)).trans ((w9.1 g).trans (h94 g))
      · exact fun g => (xJ96 (by decide)).trans ((w9.2 g).trans (h95 g))
      · exact (xJ9k (by omega)).trans ((w3 g).trans (hU g (by omega)))
      · by_cases h9 : g + 1 = h.toInt.toNat
        · have e96 : (zw_J H1 96 h.toInt.toNat v1).2.2.1 96 (g + 1) = v1 := by rw [h9]; exact zp_u_self _ _ _ _
          rw [e96]
          have e8 : h.toInt.toNat - 1 = g := by omega
          rw [e8, hU g (by omega)] at w4
          refine xSs_p ?_ w4
          have p1 := x_par1 (x := y + h)
          have p2 := x_par (x := y) (y := h)
          omega
        · rw [show (zw_J H1 96 h.toInt.toNat v1).2.2.1 96 (g + 1) = H1.2.2.1 96 (g + 1) from xJ9k h9, w3]
          exact hD g (by omega) hg2

theorem yr_stepsAll {L : Nat} {σ : Nat → Int32} {d : Nat} {H0 : zp_H} {x y : Int32} {S : xSea} (hS : xOk S) (hR : xSR H0 S) (W : zw_W H0) : ∃ Z, zp_Call L σ (d + 3) 226 [.inr (.inr (some 73)), .inl x, .inl y] H0 Z ∧ ∃ H1, Z = (.inl none, H1) ∧ zw_W H1 ∧ xFw H0 H1 ∧ (∀ g, H1.2.2.1 94 g = H0.2.2.1 94 g) ∧ (∀ g, H1.2.2.1 95 g = H0.2.2.1 95 g) ∧ H1.2.2.1 96 0 = Int64.ofNat 0 ∧ ∀ g : Nat, g < 72 → xSs S x.toInt ((y.toInt + g) % 2) (H0.2.2.1 96 g) (H1.2.2.1 96 (g + 1)) := by
  refine zw_met zm_226_t rfl rfl ?_
  refine zw_s (pc' := 2) rfl rfl ?_
  refine zw_st (n := 1) (k := 3) (f := zp_isI) (pc' := 3) rfl rfl rfl rfl rfl ?_
  exact yr_sOut hS (xSq4 hS) hR 72 H0 _ (Int32.ofInt 72) W (xFw_r H0) (fun _ => rfl) (fun _ => rfl) (by decide) (by decide) (fun _ _ => rfl) (fun g hg hg2 => absurd hg (by rw [show (Int32.ofInt 72).toInt = 72 by decide]; omega)) (zw_gt rfl rfl rfl) (zw_gt rfl rfl rfl) (zw_gt rfl rfl rfl) zw_g1 (fun H1 w1 w2 w3 w4 w5 w6 => ⟨H1, rfl, w1, w2, w3, w4, w5, w6⟩)
