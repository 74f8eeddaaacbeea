/-! ===== a dive ===== -/
def zm_152 : za_MI := (yL_dive, method_17_code, 5, (some FieldType.int), 13, 2, 12, [(0, 10, 13, 18), (0, 10, 17, 13)], za_i152)
theorem zm_152_t : za_MT 152 = some zm_152 := rfl
def zm_153 : za_MI := (yX11_dive, prog_1_method_22_code, 7, (some FieldType.int), 11, 2, 12, [], za_i153)
theorem zm_153_t : za_MT 153 = some zm_153 := rfl
def zm_154 : za_MI := (yX1_wrecksNear, prog_3_method_5_code, 6, (some FieldType.int), 1, 0, 0, [], za_i154)
theorem zm_154_t : za_MT 154 = some zm_154 := rfl
def zm_243 : za_MI := (yX12_dive, prog_14_method_79_code, 8, (some FieldType.int), 12, 0, 0, [], za_i243)
set_option maxRecDepth 8000 in
theorem zm_243_t : za_MT 243 = some zm_243 := rfl
theorem x_p0 {x : Int32} : x + Int32.ofInt 0 = x := Int32.toInt_inj.mp (by
  have e : (Int32.ofInt 0).toInt = 0 := by decide
  have h1 : -2147483648 ≤ x.toInt := Int32.le_toInt x
  have h2 : x.toInt ≤ 2147483647 := Int32.toInt_le x
  rw [zq_add (by omega) (by omega), e, Int.add_zero])
/-- how many -/
def xCn (f : Nat → Bool) : Nat → Int32 → Int32 → Int32
  | 0, _, a => a
  | n + 1, s, a => xCn f n (s + Int32.ofInt 1) (if f s.toInt.toNat = true then a + Int32.ofInt 1 else a)
theorem xCn_y {f : Nat → Bool} {n : Nat} {s a : Int32} (h : f s.toInt.toNat = true) : xCn f (n + 1) s a = xCn f n (s + Int32.ofInt 1) (a + Int32.ofInt 1) := congrArg (xCn f n (s + Int32.ofInt 1)) (if_pos h)
theorem xCn_n {f : Nat → Bool} {n : Nat} {s a : Int32} (h : ¬ f s.toInt.toNat = true) : xCn f (n + 1) s a = xCn f n (s + Int32.ofInt 1) a := congrArg (xCn f n (s + Int32.ofInt 1)) (if_neg h)
theorem xCn_b {f : Nat → Bool} : ∀ (n : Nat) (s a : Int32), 0 ≤ a.toInt → a.toInt + n ≤ 1000 → 0 ≤ (xCn f n s a).toInt ∧ (xCn f n s a).toInt ≤ a.toInt + n := by
  intro n
  induction n with
  | zero => exact fun s a h1 h2 => ⟨h1, by show a.toInt ≤ _; omega⟩
  | succ n ih =>
    intro s a h1 h2
    have e3 : (a + Int32.ofInt 1).toInt = a.toInt + 1 := zw_p1 (by omega)
    by_cases h : f s.toInt.toNat = true
    · rw [xCn_y h]
      have := ih (s + Int32.ofInt 1) (a + Int32.ofInt 1) (by omega) (by omega)
      omega
    · rw [xCn_n h]
      have := ih (s + Int32.ofInt 1) a (by omega) (by omega)
      omega
theorem xCn_c {f g : Nat → Bool} {m : Nat} (hm : m ≤ 8) (e : ∀ j, j < m → f j = g j) : ∀ (n : Nat) (s a : Int32), 0 ≤ s.toInt → s.toInt + n ≤ m → xCn f n s a = xCn g n s a := by
  intro n
  induction n with
  | zero => exact fun _ _ _ _ => rfl
  | succ n ih =>
    intro s a h1 h2
    have e3 : (s + Int32.ofInt 1).toInt = s.toInt + 1 := zw_p1 (by omega)
    have e1 := e s.toInt.toNat (by omega)
    by_cases h : f s.toInt.toNat = true
    · rw [xCn_y h, xCn_y (e1 ▸ h)]
      exact ih _ _ (by omega) (by omega)
    · rw [xCn_n h, xCn_n (e1 ▸ h)]
      exact ih _ _ (by omega) (by omega)
/-- best, most: as the class looks for it, as the reference does -/
def xDv (g : Int32 → Int32) : Nat → Int32 → Int32 × Int32 → Int32 × Int32
  | 0, _, r => r
  | n + 1, c, r => xDv g n (c + Int32.ofInt 1) (if r.2.toInt < (g c).toInt then (c, g c) else r)
def xDm (g : Int32 → Int32) : Nat → Int32 → Int32 × Int32 → Int32 × Int32
  | 0, _, r => r
  | n + 1, c, r => xDm g n (c + Int32.ofInt 1) (if ¬ r.1.toInt = -1 ∧ (g c).toInt ≤ r.2.toInt then r else (c, g c))
theorem xDv_y {g : Int32 → Int32} {n : Nat} {c : Int32} {r : Int32 × Int32} (h : r.2.toInt < (g c).toInt) : xDv g (n + 1) c r = xDv g n (c + Int32.ofInt 1) (c, g c) := congrArg (xDv g n (c + Int32.ofInt 1)) (if_pos h)
theorem xDv_n {g : Int32 → Int32} {n : Nat} {c : Int32} {r : Int32 × Int32} (h : ¬ r.2.toInt < (g c).toInt) : xDv g (n + 1) c r = xDv g n (c + Int32.ofInt 1) r := congrArg (xDv g n (c + Int32.ofInt 1)) (if_neg h)
theorem xDm_n {g : Int32 → Int32} {n : Nat} {c : Int32} {r : Int32 × Int32} (h : ¬ r.1.toInt = -1 ∧ (g c).toInt ≤ r.2.toInt) : xDm g (n + 1) c r = xDm g n (c + Int32.ofInt 1) r := congrArg (xDm g n (c + Int32.ofInt 1)) (if_pos h)
theorem xDm_y {g : Int32 → Int32} {n : Nat} {c : Int32} {r : Int32 × Int32} (h : ¬ (¬ r.1.toInt = -1 ∧ (g c).toInt ≤ r.2.toInt)) : xDm g (n + 1) c r = xDm g n (c + Int32.ofInt 1) (c, g c) := congrArg (xDm g n (c + Int32.ofInt 1)) (if_neg h)
theorem xDm_v {g : Int32 → Int32} : ∀ (n : Nat) (c : Int32) (r : Int32 × Int32), 0 ≤ c.toInt → c.toInt + n ≤ 64 → 0 ≤ r.1.toInt → xDm g n c r = xDv g n c r := by
  intro n
  induction n with
  | zero => exact fun _ _ _ _ _ => rfl
  | succ n ih =>
    intro c r h1 h2 h3
    have e3 : (c + Int32.ofInt 1).toInt = c.toInt + 1 := zw_p1 (by omega)
    by_cases h : r.2.toInt < (g c).toInt
    · rw [xDv_y h, xDm_y (fun h9 => by have := h9.2; omega)]
      exact ih _ _ (by omega) (by omega) h1
    · rw [xDv_n h, xDm_n ⟨by omega, by omega⟩]
      exact ih _ _ (by omega) (by omega) h3
theorem xDm_0 {g : Int32 → Int32} {n : Nat} (hn : n + 1 ≤ 64) (h0 : 0 ≤ (g (Int32.ofInt 0)).toInt) : xDm g (n + 1) (Int32.ofInt 0) (Int32.ofInt (-1), Int32.ofInt 0) = xDv g (n + 1) (Int32.ofInt 0) (Int32.ofInt 0, Int32.ofInt 0) := by
  have e0 : (Int32.ofInt 0).toInt = 0 := by decide
  have e1 : (Int32.ofInt (-1)).toInt = -1 := by decide
  have e2 : (Int32.ofInt 0 + Int32.ofInt 1).toInt = 1 := by decide
  rw [xDm_y (fun h9 => h9.1 e1)]
  rw [xDm_v n _ _ (by omega) (by omega) (by show 0 ≤ (Int32.ofInt 0).toInt; omega)]
  by_cases h : (Int32.ofInt 0).toInt < (g (Int32.ofInt 0)).toInt
  · rw [xDv_y h]
  · rw [xDv_n h]
    have e : g (Int32.ofInt 0) = Int32.ofInt 0 := Int32.toInt_inj.mp (by omega)
    rw [e]
theorem xDv_c {g g' : Int32 → Int32} {m : Nat} (hm : m ≤ 64) (e : ∀ c : Int32, 0 ≤ c.toInt → c.toInt < m → g c = g' c) : ∀ (n : Nat) (c : Int32) (r : Int32 × Int32), 0 ≤ c.toInt → c.toInt + n ≤ m → xDv g n c r = xDv g' n c r := by
  intro n
  induction n with
  | zero => exact fun _ _ _ _ => rfl
  | succ n ih =>
    intro c r h1 h2
    have e3 : (c + Int32.ofInt 1).toInt = c.toInt + 1 := zw_p1 (by omega)
    have e1 := e c (by omega) (by omega)
    by_cases h : r.2.toInt < (g c).toInt
    · rw [xDv_y h, xDv_y (e1 ▸ h), e1]
      exact ih _ _ (by omega) (by omega)
    · rw [xDv_n h, xDv_n (e1 ▸ h)]
      exact ih _ _ (by omega) (by omega)
/-- wrecked no farther than r from c -/
def xNw (w : Int) (c r : Int) (v : Int32 × Int32 × Int32 × Int32 × Int32 × Int32 × Int32) : Bool := (xWr v).and (xNb w c v.1.toInt r)
theorem xSq {S : xSea} (hS : xOk S) : 4 ≤ S.1 * S.2.1 ∧ S.1 * S.2.1 ≤ 64 := ⟨Int.mul_le_mul (a := 2) (b := 2) (c := S.1) (d := S.2.1) hS.1.1 hS.2.1.1 (by decide) (by have := hS.1; omega), Int.mul_le_mul (a := S.1) (b := S.2.1) (c := 8) (d := 8) hS.1.2 hS.2.1.2 (by have := hS.2.1; omega) (by decide)⟩

theorem yc_wnL0 {L : Nat} {σ : Nat → Int32} {d : Nat} {P : zp_X → Prop} {S : xSea} {H0 H : zp_H} {x r : Int32} (W : zw_W H) (hS : xOk S) (hC : xSC 2 H S) (hL : ∀ j : Nat, (j : Int) < (H0.2.1 13 0).toInt → xLd S 13 H0 H j) (h6 : H.2.1 60 0 = (H0.2.1 13 0)) (hn0 : 0 ≤ (H0.2.1 13 0).toInt ∧ (H0.2.1 13 0).toInt ≤ 8) (hV : ∀ s : Nat, (s : Int) < (H0.2.1 13 0).toInt → xIn S (xVyc S 13 H0 s).1.toInt) (hx : 0 ≤ x.toInt ∧ x.toInt ≤ 63) : ∀ (n : Nat) (lv : zp_LV) (s a : Int32), 0 ≤ s.toInt → s.toInt + n = (H0.2.1 13 0).toInt → zp_get lv 0 = some (.inr (.inr (some 61))) → zp_get lv 1 = some (.inr (.inr (some 3))) → zp_get lv 2 = some (.inl x) → zp_get lv 3 = some (.inl r) → zp_get lv 4 = some (.inl a) → zp_get lv 5 = some (.inl s) → P (.inl (some (.inl (xCn (fun j => xNw S.1 x.toInt r.toInt (xVyc S 13 H0 j)) n s a))), H) → zs_Safe L σ P zm_154 [] (d + 2) (6, lv, [], H, (0, 0)) := by
  intro n
  induction n with
  | zero =>
    intro lv s a h5 hn l0 l1 l2 l3 l4 l5 hP
    refine zw_ld (n := 2) (k := 5) (f := zp_isI) (pc' := 8) rfl rfl l5 rfl rfl ?_
    refine zw_ld (n := 1) (k := 0) (f := zp_isR) (pc' := 9) rfl rfl l0 rfl rfl ?_
    refine zw_gI (q := 60) (pc' := 12) W rfl rfl rfl rfl rfl rfl ?_
    rw [h6]
    refine zw_bge2 (g := 52) (pc' := 15) rfl rfl rfl rfl rfl (fun h1 => ?_) (fun h1 => ?_)
    · refine zw_ld (n := 2) (k := 4) (f := zp_isI) (pc' := 54) rfl rfl l4 rfl rfl ?_
      refine zw_ri rfl rfl ?_
      exact hP
    · omega
  | succ n ih =>
    intro lv s a h5 hn l0 l1 l2 l3 l4 l5 hP
    refine zw_ld (n := 2) (k := 5) (f := zp_isI) (pc' := 8) rfl rfl l5 rfl rfl ?_
    refine zw_ld (n := 1) (k := 0) (f := zp_isR) (pc' := 9) rfl rfl l0 rfl rfl ?_
    refine zw_gI (q := 60) (pc' := 12) W rfl rfl rfl rfl rfl rfl ?_
    rw [h6]
    refine zw_bge2 (g := 52) (pc' := 15) rfl rfl rfl rfl rfl (fun h1 => ?_) (fun h1 => ?_)
    · omega
    · have ei : (s + Int32.ofInt 1).toInt = s.toInt + 1 := zw_p1 (by omega)
      have hi : ((s.toInt.toNat : Nat) : Int) < (H0.2.1 13 0).toInt := by omega
      obtain ⟨-, g2, g3, -⟩ := hL _ hi
      have v64 := xIn_64 hS (hV _ hi)
      refine zw_ld (n := 1) (k := 0) (f := zp_isR) (pc' := 16) rfl rfl l0 rfl rfl ?_
      refine zw_gR (q := 60) (pc' := 19) W rfl rfl rfl rfl (W.2 60 3 _ rfl) rfl ?_
      refine zw_ld (n := 2) (k := 5) (f := zp_isI) (pc' := 21) rfl rfl l5 rfl rfl ?_
      refine zw_la (q := 63) (pc' := 22) W rfl rfl (⟨h5, by show _ < ((8 : Nat) : Int); omega⟩) rfl ?_
      refine zw_s (pc' := 23) rfl rfl ?_
      refine zw_s (pc' := 24) rfl rfl ?_
      rw [g3]
      refine zw_beq1 (g := 46) (pc' := 27) rfl rfl rfl rfl (fun h2 => ?_) (fun h2 => ?_)
      · have h2 : (lg_cmp (xWk (xVyc S 13 H0 s.toInt.toNat)) (Int64.ofNat 0)).toInt = 0 := h2
        have hf : ¬ (fun j => xNw S.1 x.toInt r.toInt (xVyc S 13 H0 j)) s.toInt.toNat = true := fun h9 => (xWk_z v64).mp h2 (Bool.and_eq_true_iff.mp h9).1
        refine zw_ii (pc' := 49) rfl l5 rfl rfl ?_
        refine zw_s (pc' := 6) rfl rfl ?_
        exact ih _ (s + Int32.ofInt 1) _ (by omega) (by omega) (zw_gt l0 rfl rfl) (zw_gt l1 rfl rfl) (zw_gt l2 rfl rfl) (zw_gt l3 rfl rfl) (zw_gt l4 rfl rfl) zw_g1 (by rw [xCn_n hf] at hP; exact hP)
      · have h2 : ¬ (lg_cmp (xWk (xVyc S 13 H0 s.toInt.toNat)) (Int64.ofNat 0)).toInt = 0 := h2
        have hwr : xWr (xVyc S 13 H0 s.toInt.toNat) = true := Classical.byContradiction (fun h9 => h2 ((xWk_z v64).mpr h9))
        obtain ⟨_, p1, v, rfl, p2⟩ := yc_far2 (L := L) (σ := σ) (d := d) (H := H) (x := x) (y := (xVyc S 13 H0 s.toInt.toNat).1) W (by rw [hC.1]; exact hS.1.1) hx v64
        rw [hC.1] at p2
        have p2 := p2 r.toInt
        refine zw_ld (n := 1) (k := 1) (f := zp_isR) (pc' := 28) rfl rfl l1 rfl rfl ?_
        refine zw_ld (n := 1) (k := 2) (f := zp_isI) (pc' := 29) rfl rfl l2 rfl rfl ?_
        refine zw_ld (n := 1) (k := 0) (f := zp_isR) (pc' := 30) rfl rfl l0 rfl rfl ?_
        refine zw_gR (q := 60) (pc' := 33) W rfl rfl rfl rfl (W.2 60 2 _ rfl) rfl ?_
        refine zw_ld (n := 2) (k := 5) (f := zp_isI) (pc' := 35) rfl rfl l5 rfl rfl ?_
        refine zw_ia (q := 62) (pc' := 36) W rfl rfl (by decide) (⟨h5, by show _ < ((8 : Nat) : Int); omega⟩) rfl rfl ?_
        rw [g2]
        refine zw_c (pc' := 39) (zw_cv (q := 2) (Y := zm_143) W.1 rfl rfl zm_143_t rfl rfl) rfl rfl rfl rfl rfl (p1) ?_
        refine zw_ld (n := 1) (k := 3) (f := zp_isI) (pc' := 40) rfl rfl l3 rfl rfl ?_
        refine zw_bgt2 (g := 46) (pc' := 43) rfl rfl rfl rfl rfl (fun h3 => ?_) (fun h3 => ?_)
        · have hf : ¬ (fun j => xNw S.1 x.toInt r.toInt (xVyc S 13 H0 j)) s.toInt.toNat = true := fun h9 => by have := p2.mpr (Bool.and_eq_true_iff.mp h9).2; omega
          refine zw_ii (pc' := 49) rfl l5 rfl rfl ?_
          refine zw_s (pc' := 6) rfl rfl ?_
          exact ih _ (s + Int32.ofInt 1) _ (by omega) (by omega) (zw_gt l0 rfl rfl) (zw_gt l1 rfl rfl) (zw_gt l2 rfl rfl) (zw_gt l3 rfl rfl) (zw_gt l4 rfl rfl) zw_g1 (by rw [xCn_n hf] at hP; exact hP)
        · have hf : (fun j => xNw S.1 x.toInt r.toInt (xVyc S 13 H0 j)) s.toInt.toNat = true := Bool.and_eq_true_iff.mpr ⟨hwr, p2.mp (by omega)⟩
          refine zw_ii (pc' := 46) rfl l4 rfl rfl ?_
          refine zw_ii (pc' := 49) rfl (zw_gt l5 rfl rfl) rfl rfl ?_
          refine zw_s (pc' := 6) rfl rfl ?_
          exact ih _ (s + Int32.ofInt 1) _ (by omega) (by omega) (zw_gt (zw_gt l0 rfl rfl) rfl rfl) (zw_gt (zw_gt l1 rfl rfl) rfl rfl) (zw_gt (zw_gt l2 rfl rfl) rfl rfl) (zw_gt (zw_gt l3 rfl rfl) rfl rfl) (zw_gt zw_g1 rfl rfl) zw_g1 (by rw [xCn_y hf] at hP; exact hP)

theorem yc_wn0 {L : Nat} {σ : Nat → Int32} {d : Nat} {H : zp_H} {S : xSea} {H0 : zp_H} {x r : Int32} (W : zw_W H) (hS : xOk S) (hC : xSC 2 H S) (hL : ∀ j : Nat, (j : Int) < (H0.2.1 13 0).toInt → xLd S 13 H0 H j) (h6 : H.2.1 60 0 = (H0.2.1 13 0)) (hn0 : 0 ≤ (H0.2.1 13 0).toInt ∧ (H0.2.1 13 0).toInt ≤ 8) (hV : ∀ s : Nat, (s : Int) < (H0.2.1 13 0).toInt → xIn S (xVyc S 13 H0 s).1.toInt) (hx : 0 ≤ x.toInt ∧ x.toInt ≤ 63) : zp_Call L σ (d + 3) 154 [.inr (.inr (some 61)), .inr (.inr (some 3)), .inl x, .inl r] H (.inl (some (.inl ((fun x => xCn (fun j => xNw S.1 x.toInt r.toInt (xVyc S 13 H0 j)) (H0.2.1 13 0).toInt.toNat (Int32.ofInt 0) (Int32.ofInt 0)) x))), H) := by
  refine zw_ex (zw_met zm_154_t rfl rfl ?_)
  refine zw_s (pc' := 1) rfl rfl ?_
  refine zw_st (n := 2) (k := 4) (f := zp_isI) (pc' := 3) rfl rfl rfl rfl rfl ?_
  refine zw_s (pc' := 4) rfl rfl ?_
  refine zw_st (n := 2) (k := 5) (f := zp_isI) (pc' := 6) rfl rfl rfl rfl rfl ?_
  exact yc_wnL0 W hS hC hL h6 hn0 hV hx (H0.2.1 13 0).toInt.toNat _ (Int32.ofInt 0) (Int32.ofInt 0) (by decide) (by rw [show (Int32.ofInt 0).toInt = 0 by decide]; omega) (zw_gt (zw_gt rfl rfl rfl) rfl rfl) (zw_gt (zw_gt rfl rfl rfl) rfl rfl) (zw_gt (zw_gt rfl rfl rfl) rfl rfl) (zw_gt (zw_gt rfl rfl rfl) rfl rfl) (zw_gt zw_g1 rfl rfl) zw_g1 rfl

theorem yc_dvL0 {L : Nat} {σ : Nat → Int32} {d : Nat} {P : zp_X → Prop} {S : xSea} {H0 H : zp_H} {r wt : Int32} (W : zw_W H) (g5 : H.2.2.2 0 5 = some 3) (hS : xOk S) (hC : xSC 2 H S) (hsq : (H.2.1 2 0 * H.2.1 2 1).toInt ≤ 64) (hL : ∀ j : Nat, (j : Int) < (H0.2.1 13 0).toInt → xLd S 13 H0 H j) (h6 : H.2.1 60 0 = (H0.2.1 13 0)) (hn0 : 0 ≤ (H0.2.1 13 0).toInt ∧ (H0.2.1 13 0).toInt ≤ 8) (hV : ∀ s : Nat, (s : Int) < (H0.2.1 13 0).toInt → xIn S (xVyc S 13 H0 s).1.toInt) : ∀ (n : Nat) (lv : zp_LV) (x : Int32) (b : Int32 × Int32), 0 ≤ x.toInt → x.toInt + n = (H.2.1 2 0 * H.2.1 2 1).toInt → zp_get lv 0 = some (.inr (.inr (some 1))) → zp_get lv 1 = some (.inl r) → zp_get lv 2 = some (.inl wt) → zp_get lv 3 = some (.inl b.1) → zp_get lv 4 = some (.inl b.2) → zp_get lv 5 = some (.inl x) → (∀ lv1, zp_get lv1 0 = some (.inr (.inr (some 1))) → zp_get lv1 1 = some (.inl r) → zp_get lv1 2 = some (.inl wt) → zp_get lv1 3 = some (.inl (xDv (fun x => xCn (fun j => xNw S.1 x.toInt r.toInt (xVyc S 13 H0 j)) (H0.2.1 13 0).toInt.toNat (Int32.ofInt 0) (Int32.ofInt 0)) n x b).1) → zp_get lv1 4 = some (.inl (xDv (fun x => xCn (fun j => xNw S.1 x.toInt r.toInt (xVyc S 13 H0 j)) (H0.2.1 13 0).toInt.toNat (Int32.ofInt 0) (Int32.ofInt 0)) n x b).2) → zs_Safe L σ P zm_153 [] (d + 3) (101, lv1, [], H, (1, 6))) → zs_Safe L σ P zm_153 [] (d + 3) (53, lv, [], H, (1, 6)) := by
  intro n
  induction n with
  | zero =>
    intro lv x b h5 hn l0 l1 l2 l3 l4 l5 hP
    refine zw_ld (n := 2) (k := 5) (f := zp_isI) (pc' := 55) rfl rfl l5 rfl rfl ?_
    refine zw_ld (n := 1) (k := 0) (f := zp_isR) (pc' := 56) rfl rfl l0 rfl rfl ?_
    refine zw_gR (q := 0) (pc' := 59) W rfl rfl rfl rfl g5 rfl ?_
    refine zw_c (pc' := 62) (zw_cv (q := 2) (Y := zm_105) W.1 rfl rfl zm_105_t rfl rfl) rfl rfl rfl rfl rfl (yc_cells2 W) ?_
    refine zw_bge2 (g := 101) (pc' := 65) rfl rfl rfl rfl rfl (fun h1 => ?_) (fun h1 => ?_)
    · exact hP lv l0 l1 l2 l3 l4
    · have h1 : x.toInt < (H.2.1 2 0 * H.2.1 2 1).toInt := h1
      omega
  | succ n ih =>
    intro lv x b h5 hn l0 l1 l2 l3 l4 l5 hP
    refine zw_ld (n := 2) (k := 5) (f := zp_isI) (pc' := 55) rfl rfl l5 rfl rfl ?_
    refine zw_ld (n := 1) (k := 0) (f := zp_isR) (pc' := 56) rfl rfl l0 rfl rfl ?_
    refine zw_gR (q := 0) (pc' := 59) W rfl rfl rfl rfl g5 rfl ?_
    refine zw_c (pc' := 62) (zw_cv (q := 2) (Y := zm_105) W.1 rfl rfl zm_105_t rfl rfl) rfl rfl rfl rfl rfl (yc_cells2 W) ?_
    refine zw_bge2 (g := 101) (pc' := 65) rfl rfl rfl rfl rfl (fun h1 => ?_) (fun h1 => ?_)
    · have h1 : (H.2.1 2 0 * H.2.1 2 1).toInt ≤ x.toInt := h1
      omega
    · have h1 : x.toInt < (H.2.1 2 0 * H.2.1 2 1).toInt := h1
      have ei : (x + Int32.ofInt 1).toInt = x.toInt + 1 := zw_p1 (by omega)
      have qa := yc_wn0 (L := L) (σ := σ) (d := d) (x := x) (r := r) W hS hC hL h6 hn0 hV ⟨h5, by omega⟩
      refine zw_ld (n := 1) (k := 0) (f := zp_isR) (pc' := 66) rfl rfl l0 rfl rfl ?_
      refine zw_gR (q := 0) (pc' := 69) W rfl rfl rfl rfl (W.2 0 15 _ rfl) rfl ?_
      refine zw_ld (n := 1) (k := 0) (f := zp_isR) (pc' := 70) rfl rfl l0 rfl rfl ?_
      refine zw_gR (q := 0) (pc' := 73) W rfl rfl rfl rfl g5 rfl ?_
      refine zw_ld (n := 2) (k := 5) (f := zp_isI) (pc' := 75) rfl rfl l5 rfl rfl ?_
      refine zw_ld (n := 1) (k := 1) (f := zp_isI) (pc' := 76) rfl rfl l1 rfl rfl ?_
      refine zw_c (pc' := 79) (zw_cv (q := 60) (Y := zm_154) W.1 rfl rfl zm_154_t rfl rfl) rfl rfl rfl rfl rfl (qa) ?_
      refine zw_st (n := 2) (k := 6) (f := zp_isI) (pc' := 81) rfl rfl rfl rfl rfl ?_
      refine zw_ld (n := 2) (k := 6) (f := zp_isI) (pc' := 83) rfl rfl zw_g1 rfl rfl ?_
      refine zw_ld (n := 2) (k := 4) (f := zp_isI) (pc' := 85) rfl rfl (zw_gt l4 rfl rfl) rfl rfl ?_
      refine zw_ble2 (g := 95) (pc' := 88) rfl rfl rfl rfl rfl (fun h2 => ?_) (fun h2 => ?_)
      · have h3 : ¬ b.2.toInt < ((fun x => xCn (fun j => xNw S.1 x.toInt r.toInt (xVyc S 13 H0 j)) (H0.2.1 13 0).toInt.toNat (Int32.ofInt 0) (Int32.ofInt 0)) x).toInt := Int.not_lt.mpr h2
        refine zw_ii (pc' := 98) rfl (zw_gt l5 rfl rfl) rfl rfl ?_
        refine zw_s (pc' := 53) rfl rfl ?_
        exact ih _ (x + Int32.ofInt 1) b (by omega) (by omega) (zw_gt (zw_gt l0 rfl rfl) rfl rfl) (zw_gt (zw_gt l1 rfl rfl) rfl rfl) (zw_gt (zw_gt l2 rfl rfl) rfl rfl) (zw_gt (zw_gt l3 rfl rfl) rfl rfl) (zw_gt (zw_gt l4 rfl rfl) rfl rfl) zw_g1 (by rw [xDv_n (g := (fun x => xCn (fun j => xNw S.1 x.toInt r.toInt (xVyc S 13 H0 j)) (H0.2.1 13 0).toInt.toNat (Int32.ofInt 0) (Int32.ofInt 0))) h3] at hP; exact hP)
      · have h3 : b.2.toInt < ((fun x => xCn (fun j => xNw S.1 x.toInt r.toInt (xVyc S 13 H0 j)) (H0.2.1 13 0).toInt.toNat (Int32.ofInt 0) (Int32.ofInt 0)) x).toInt := h2
        refine zw_ld (n := 2) (k := 5) (f := zp_isI) (pc' := 90) rfl rfl (zw_gt l5 rfl rfl) rfl rfl ?_
        refine zw_st (n := 1) (k := 3) (f := zp_isI) (pc' := 91) rfl rfl rfl rfl rfl ?_
        refine zw_ld (n := 2) (k := 6) (f := zp_isI) (pc' := 93) rfl rfl (zw_gt zw_g1 rfl rfl) rfl rfl ?_
        refine zw_st (n := 2) (k := 4) (f := zp_isI) (pc' := 95) rfl rfl rfl rfl rfl ?_
        refine zw_ii (pc' := 98) rfl (zw_gt (zw_gt (zw_gt l5 rfl rfl) rfl rfl) rfl rfl) rfl rfl ?_
        refine zw_s (pc' := 53) rfl rfl ?_
        exact ih _ (x + Int32.ofInt 1) (x, ((fun x => xCn (fun j => xNw S.1 x.toInt r.toInt (xVyc S 13 H0 j)) (H0.2.1 13 0).toInt.toNat (Int32.ofInt 0) (Int32.ofInt 0)) x)) (by omega) (by omega) (zw_gt (zw_gt (zw_gt (zw_gt l0 rfl rfl) rfl rfl) rfl rfl) rfl rfl) (zw_gt (zw_gt (zw_gt (zw_gt l1 rfl rfl) rfl rfl) rfl rfl) rfl rfl) (zw_gt (zw_gt (zw_gt (zw_gt l2 rfl rfl) rfl rfl) rfl rfl) rfl rfl) (zw_gt (zw_gt zw_g1 rfl rfl) rfl rfl) (zw_gt zw_g1 rfl rfl) zw_g1 (by rw [xDv_y (g := (fun x => xCn (fun j => xNw S.1 x.toInt r.toInt (xVyc S 13 H0 j)) (H0.2.1 13 0).toInt.toNat (Int32.ofInt 0) (Int32.ofInt 0))) h3] at hP; exact hP)

theorem yc_dv0_0 {L : Nat} {σ : Nat → Int32} {d : Nat} {H : zp_H} {x1 : Int32} (hB : zk_Bs (zB_c 0) zg zJc H) {S : xSea} (hS : xOk S) (hC : xSC 2 H S) (hm : ∀ s : Nat, (s : Int) < (H.2.1 13 0).toInt → 0 ≤ (H.2.1 16 s).toInt ∧ (H.2.1 16 s).toInt ≤ 8) (hw : ∀ s : Nat, (s : Int) < (H.2.1 13 0).toInt → ∀ j, j < (H.2.1 16 s).toInt.toNat → -1 ≤ (H.2.1 18 (8 * s + j)).toInt ∧ (H.2.1 18 (8 * s + j)).toInt ≤ 3) (hc : ∀ s : Nat, (s : Int) < (H.2.1 13 0).toInt → xIn S (H.2.1 14 s).toInt) (hr : 0 ≤ x1.toInt ∧ x1.toInt ≤ 7) : ∃ X, zp_Call L σ (d + 7) 153 [.inr (.inr (some 1)), .inl x1, .inl (Int32.ofInt 0)] H X ∧ ∃ H1, X = (.inl (some (.inl (xDv (fun x => xCn (fun j => xNw S.1 x.toInt x1.toInt (xVyc S 13 H j)) (H.2.1 13 0).toInt.toNat (Int32.ofInt 0) (Int32.ofInt 0)) (S.1 * S.2.1).toNat (Int32.ofInt 0) (Int32.ofInt 0, Int32.ofInt 0)).1)), H1) ∧ xFd H H1 := by
  have W := zB_Wd (zB_dn (zB_Bc hB))
  have g5 : H.2.2.2 0 5 = some 3 := hB.2.1 0 5 _ rfl
  have g6 : H.2.2.2 0 6 = some 14 := hB.2.1 0 6 _ rfl
  have g7 : H.2.2.2 0 7 = some 23 := hB.2.1 0 7 _ rfl
  have g8 : H.2.2.2 0 8 = some 34 := hB.2.1 0 8 _ rfl
  have r13_0 := zB_fr1 (zB_dn (zB_Bc hB)) (p := 13) (k := 0) (r := (0, 8)) rfl
  have r13_0 : 0 ≤ (H.2.1 13 0).toInt ∧ (H.2.1 13 0).toInt ≤ 8 := r13_0
  obtain ⟨_, q1, H1, rfl, W1, q2, q3, q4⟩ := yc_le2 (L := L) (σ := σ) (d := d) hS hC r13_0 hm hw hc W
  have k5 : H1.2.2.2 0 5 = some 3 := (congrFun (congrFun q2.2.1 0) 5).trans g5
  have hC1 := xSC_d q2 (by decide) hC
  have sq := xSq hS
  have es : (H1.2.1 2 0 * H1.2.1 2 1).toInt = S.1 * S.2.1 := by
    rw [Int32.toInt_mul, hC1.1, hC1.2.1]
    exact Int.bmod_eq_of_le (by omega) (by omega)
  refine zw_met zm_153_t rfl rfl ?_
  refine zw_ld (n := 1) (k := 2) (f := zp_isI) (pc' := 1) rfl rfl rfl rfl rfl ?_
  refine zw_s (pc' := 2) rfl rfl ?_
  refine zw_ctn (pc' := 5) (c' := (1, 6)) (zw_cs (Y := zm_104) rfl rfl zm_104_t) (zw_pb_ok rfl) rfl rfl rfl rfl (yc_nw1 ⟨by decide, by decide⟩) ?_
  refine zw_ld (n := 1) (k := 1) (f := zp_isI) (pc' := 6) rfl rfl rfl rfl rfl ?_
  refine zw_blt1 (g := 15) (pc' := 9) rfl rfl rfl rfl (fun h1 => ?_) (fun h1 => ?_)
  · have h1 : x1.toInt < 0 := h1
    omega
  · refine zw_ld (n := 1) (k := 1) (f := zp_isI) (pc' := 10) rfl rfl rfl rfl rfl ?_
    refine zw_s (pc' := 12) rfl rfl ?_
    refine zw_ble2 (g := 26) (pc' := 15) rfl rfl rfl rfl (rfl : _ = (7 : Int)) (fun h2 => ?_) (fun h2 => ?_)
    · refine zw_ld (n := 1) (k := 0) (f := zp_isR) (pc' := 27) rfl rfl rfl rfl rfl ?_
      refine zw_gR (q := 0) (pc' := 30) W rfl rfl rfl rfl (W.2 0 15 _ rfl) rfl ?_
      refine zw_ld (n := 1) (k := 0) (f := zp_isR) (pc' := 31) rfl rfl rfl rfl rfl ?_
      refine zw_gR (q := 0) (pc' := 34) W rfl rfl rfl rfl g5 rfl ?_
      refine zw_ld (n := 1) (k := 0) (f := zp_isR) (pc' := 35) rfl rfl rfl rfl rfl ?_
      refine zw_gR (q := 0) (pc' := 38) W rfl rfl rfl rfl g6 rfl ?_
      refine zw_ld (n := 1) (k := 0) (f := zp_isR) (pc' := 39) rfl rfl rfl rfl rfl ?_
      refine zw_gR (q := 0) (pc' := 42) W rfl rfl rfl rfl (W.2 0 12 _ rfl) rfl ?_
      refine zw_cn (pc' := 45) (zw_cv (q := 60) (Y := zm_139) W.1 rfl rfl zm_139_t rfl rfl) rfl rfl rfl rfl rfl (q1) ?_
      refine zw_s (pc' := 46) rfl rfl ?_
      refine zw_st (n := 1) (k := 3) (f := zp_isI) (pc' := 47) rfl rfl rfl rfl rfl ?_
      refine zw_s (pc' := 48) rfl rfl ?_
      refine zw_st (n := 2) (k := 4) (f := zp_isI) (pc' := 50) rfl rfl rfl rfl rfl ?_
      refine zw_s (pc' := 51) rfl rfl ?_
      refine zw_st (n := 2) (k := 5) (f := zp_isI) (pc' := 53) rfl rfl rfl rfl rfl ?_
      refine yc_dvL0 (H0 := H) W1 k5 hS hC1 (by rw [es]; exact sq.2) q4 q3 r13_0 (fun s hs => (xVy_b hS _ _ _ _ (hc s hs)).1) (S.1 * S.2.1).toNat _ (Int32.ofInt 0) (Int32.ofInt 0, Int32.ofInt 0) (by decide) (by rw [es, show (Int32.ofInt 0).toInt = 0 by decide]; omega) (zw_gt (zw_gt (zw_gt rfl rfl rfl) rfl rfl) rfl rfl) (zw_gt (zw_gt (zw_gt rfl rfl rfl) rfl rfl) rfl rfl) (zw_gt (zw_gt (zw_gt rfl rfl rfl) rfl rfl) rfl rfl) (zw_gt (zw_gt zw_g1 rfl rfl) rfl rfl) (zw_gt zw_g1 rfl rfl) zw_g1 (fun lv1 m0 m1 m2 m3 m4 => ?_)
      refine zw_ld (n := 1) (k := 2) (f := zp_isI) (pc' := 102) rfl rfl m2 rfl rfl ?_
      refine zw_bne1 (g := 109) (pc' := 105) rfl rfl rfl (rfl : _ = (0 : Int)) (fun h9 => absurd h9 (by decide)) (fun h8 => ?_)
      refine zw_ld (n := 1) (k := 3) (f := zp_isI) (pc' := 106) rfl rfl m3 rfl rfl ?_
      refine zw_s (pc' := 111) rfl rfl ?_
      refine zw_rig rfl rfl ⟨by decide, by decide⟩ ?_
      exact ⟨H1, rfl, q2⟩
    · exact absurd hr.2 (Int.not_le.mpr h2)

theorem yl_dv0_0 {L : Nat} {σ : Nat → Int32} {d : Nat} {H : zp_H} {x1 : Int32} (hB : zk_Bs (zB_c 0) zg zJc H) {S : xSea} (hS : xOk S) (hC : xSC 2 H S) (hm : ∀ s : Nat, (s : Int) < (H.2.1 13 0).toInt → 0 ≤ (H.2.1 16 s).toInt ∧ (H.2.1 16 s).toInt ≤ 8) (hw : ∀ s : Nat, (s : Int) < (H.2.1 13 0).toInt → ∀ j, j < (H.2.1 16 s).toInt.toNat → -1 ≤ (H.2.1 18 (8 * s + j)).toInt ∧ (H.2.1 18 (8 * s + j)).toInt ≤ 3) (hc : ∀ s : Nat, (s : Int) < (H.2.1 13 0).toInt → xIn S (H.2.1 14 s).toInt) (hr : 0 ≤ x1.toInt ∧ x1.toInt ≤ 7) : ∃ H1, zp_Call L σ (d + 8) 152 [.inr (.inr (some 1)), .inl x1, .inl (Int32.ofInt 0), .inr (.inr (some 105))] H (.inl (some (.inl (Int32.ofInt 0))), zw_J H1 104 0 ((xDv (fun x => xCn (fun j => xNw S.1 x.toInt x1.toInt (xVyc S 13 H j)) (H.2.1 13 0).toInt.toNat (Int32.ofInt 0) (Int32.ofInt 0)) (S.1 * S.2.1).toNat (Int32.ofInt 0) (Int32.ofInt 0, Int32.ofInt 0)).1).toInt64) ∧ xFd H H1 := by
  obtain ⟨_, q1, H1, rfl, q2⟩ := yc_dv0_0 (L := L) (σ := σ) (d := d) hB hS hC hm hw hc hr
  have W := zB_Wd (zB_dn (zB_Bc hB))
  have W1 := xFd_W q2 W
  refine ⟨H1, zw_ex (zw_met zm_152_t rfl rfl ?_), q2⟩
  refine zw_ld (n := 1) (k := 3) (f := zp_isR) (pc' := 1) rfl rfl rfl rfl rfl ?_
  refine zw_s (pc' := 2) rfl rfl ?_
  refine zw_ld (n := 1) (k := 0) (f := zp_isR) (pc' := 3) rfl rfl rfl rfl rfl ?_
  refine zw_ld (n := 1) (k := 1) (f := zp_isI) (pc' := 4) rfl rfl rfl rfl rfl ?_
  refine zw_ld (n := 1) (k := 2) (f := zp_isI) (pc' := 5) rfl rfl rfl rfl rfl ?_
  refine zw_ct (pc' := 8) (c' := (2, 12)) (zw_cv (q := 0) (Y := zm_153) W.1 rfl rfl zm_153_t rfl rfl) (zw_pb_ok rfl) rfl rfl rfl rfl (q1) ?_
  refine zw_s (pc' := 9) rfl rfl ?_
  refine zw_ls (q := 104) (pc' := 10) W1 rfl rfl (⟨by decide, by decide⟩) rfl ?_
  refine zw_s (pc' := 21) rfl rfl ?_
  refine zw_s (pc' := 22) rfl rfl ?_
  refine zw_rig rfl rfl ⟨by decide, by decide⟩ ?_
  rfl

theorem yc_dv0_1 {L : Nat} {σ : Nat → Int32} {d : Nat} {H : zp_H} {x1 : Int32} (hB : zk_Bs (zB_c 0) zg zJc H) {S : xSea} (hS : xOk S) (hC : xSC 2 H S) (hm : ∀ s : Nat, (s : Int) < (H.2.1 13 0).toInt → 0 ≤ (H.2.1 16 s).toInt ∧ (H.2.1 16 s).toInt ≤ 8) (hw : ∀ s : Nat, (s : Int) < (H.2.1 13 0).toInt → ∀ j, j < (H.2.1 16 s).toInt.toNat → -1 ≤ (H.2.1 18 (8 * s + j)).toInt ∧ (H.2.1 18 (8 * s + j)).toInt ≤ 3) (hc : ∀ s : Nat, (s : Int) < (H.2.1 13 0).toInt → xIn S (H.2.1 14 s).toInt) (hr : 0 ≤ x1.toInt ∧ x1.toInt ≤ 7) : ∃ X, zp_Call L σ (d + 7) 153 [.inr (.inr (some 1)), .inl x1, .inl (Int32.ofInt 1)] H X ∧ ∃ H1, X = (.inl (some (.inl (xDv (fun x => xCn (fun j => xNw S.1 x.toInt x1.toInt (xVyc S 13 H j)) (H.2.1 13 0).toInt.toNat (Int32.ofInt 0) (Int32.ofInt 0)) (S.1 * S.2.1).toNat (Int32.ofInt 0) (Int32.ofInt 0, Int32.ofInt 0)).2)), H1) ∧ xFd H H1 := by
  have W := zB_Wd (zB_dn (zB_Bc hB))
  have g5 : H.2.2.2 0 5 = some 3 := hB.2.1 0 5 _ rfl
  have g6 : H.2.2.2 0 6 = some 14 := hB.2.1 0 6 _ rfl
  have g7 : H.2.2.2 0 7 = some 23 := hB.2.1 0 7 _ rfl
  have g8 : H.2.2.2 0 8 = some 34 := hB.2.1 0 8 _ rfl
  have r13_0 := zB_fr1 (zB_dn (zB_Bc hB)) (p := 13) (k := 0) (r := (0, 8)) rfl
  have r13_0 : 0 ≤ (H.2.1 13 0).toInt ∧ (H.2.1 13 0).toInt ≤ 8 := r13_0
  obtain ⟨_, q1, H1, rfl, W1, q2, q3, q4⟩ := yc_le2 (L := L) (σ := σ) (d := d) hS hC r13_0 hm hw hc W
  have k5 : H1.2.2.2 0 5 = some 3 := (congrFun (congrFun q2.2.1 0) 5).trans g5
  have hC1 := xSC_d q2 (by decide) hC
  have sq := xSq hS
  have es : (H1.2.1 2 0 * H1.2.1 2 1).toInt = S.1 * S.2.1 := by
    rw [Int32.toInt_mul, hC1.1, hC1.2.1]
    exact Int.bmod_eq_of_le (by omega) (by omega)
  refine zw_met zm_153_t rfl rfl ?_
  refine zw_ld (n := 1) (k := 2) (f := zp_isI) (pc' := 1) rfl rfl rfl rfl rfl ?_
  refine zw_s (pc' := 2) rfl rfl ?_
  refine zw_ctn (pc' := 5) (c' := (1, 6)) (zw_cs (Y := zm_104) rfl rfl zm_104_t) (zw_pb_ok rfl) rfl rfl rfl rfl (yc_nw1 ⟨by decide, by decide⟩) ?_
  refine zw_ld (n := 1) (k := 1) (f := zp_isI) (pc' := 6) rfl rfl rfl rfl rfl ?_
  refine zw_blt1 (g := 15) (pc' := 9) rfl rfl rfl rfl (fun h1 => ?_) (fun h1 => ?_)
  · have h1 : x1.toInt < 0 := h1
    omega
  · refine zw_ld (n := 1) (k := 1) (f := zp_isI) (pc' := 10) rfl rfl rfl rfl rfl ?_
    refine zw_s (pc' := 12) rfl rfl ?_
    refine zw_ble2 (g := 26) (pc' := 15) rfl rfl rfl rfl (rfl : _ = (7 : Int)) (fun h2 => ?_) (fun h2 => ?_)
    · refine zw_ld (n := 1) (k := 0) (f := zp_isR) (pc' := 27) rfl rfl rfl rfl rfl ?_
      refine zw_gR (q := 0) (pc' := 30) W rfl rfl rfl rfl (W.2 0 15 _ rfl) rfl ?_
      refine zw_ld (n := 1) (k := 0) (f := zp_isR) (pc' := 31) rfl rfl rfl rfl rfl ?_
      refine zw_gR (q := 0) (pc' := 34) W rfl rfl rfl rfl g5 rfl ?_
      refine zw_ld (n := 1) (k := 0) (f := zp_isR) (pc' := 35) rfl rfl rfl rfl rfl ?_
      refine zw_gR (q := 0) (pc' := 38) W rfl rfl rfl rfl g6 rfl ?_
      refine zw_ld (n := 1) (k := 0) (f := zp_isR) (pc' := 39) rfl rfl rfl rfl rfl ?_
      refine zw_gR (q := 0) (pc' := 42) W rfl rfl rfl rfl (W.2 0 12 _ rfl) rfl ?_
      refine zw_cn (pc' := 45) (zw_cv (q := 60) (Y := zm_139) W.1 rfl rfl zm_139_t rfl rfl) rfl rfl rfl rfl rfl (q1) ?_
      refine zw_s (pc' := 46) rfl rfl ?_
      refine zw_st (n := 1) (k := 3) (f := zp_isI) (pc' := 47) rfl rfl rfl rfl rfl ?_
      refine zw_s (pc' := 48) rfl rfl ?_
      refine zw_st (n := 2) (k := 4) (f := zp_isI) (pc' := 50) rfl rfl rfl rfl rfl ?_
      refine zw_s (pc' := 51) rfl rfl ?_
      refine zw_st (n := 2) (k := 5) (f := zp_isI) (pc' := 53) rfl rfl rfl rfl rfl ?_
      refine yc_dvL0 (H0 := H) W1 k5 hS hC1 (by rw [es]; exact sq.2) q4 q3 r13_0 (fun s hs => (xVy_b hS _ _ _ _ (hc s hs)).1) (S.1 * S.2.1).toNat _ (Int32.ofInt 0) (Int32.ofInt 0, Int32.ofInt 0) (by decide) (by rw [es, show (Int32.ofInt 0).toInt = 0 by decide]; omega) (zw_gt (zw_gt (zw_gt rfl rfl rfl) rfl rfl) rfl rfl) (zw_gt (zw_gt (zw_gt rfl rfl rfl) rfl rfl) rfl rfl) (zw_gt (zw_gt (zw_gt rfl rfl rfl) rfl rfl) rfl rfl) (zw_gt (zw_gt zw_g1 rfl rfl) rfl rfl) (zw_gt zw_g1 rfl rfl) zw_g1 (fun lv1 m0 m1 m2 m3 m4 => ?_)
      refine zw_ld (n := 1) (k := 2) (f := zp_isI) (pc' := 102) rfl rfl m2 rfl rfl ?_
      refine zw_bne1 (g := 109) (pc' := 105) rfl rfl rfl (rfl : _ = (1 : Int)) (fun h8 => ?_) (fun h9 => absurd h9 (by decide))
      refine zw_ld (n := 2) (k := 4) (f := zp_isI) (pc' := 111) rfl rfl m4 rfl rfl ?_
      refine zw_rig rfl rfl ⟨by decide, by decide⟩ ?_
      exact ⟨H1, rfl, q2⟩
    · exact absurd hr.2 (Int.not_le.mpr h2)

theorem yl_dv0_1 {L : Nat} {σ : Nat → Int32} {d : Nat} {H : zp_H} {x1 : Int32} (hB : zk_Bs (zB_c 0) zg zJc H) {S : xSea} (hS : xOk S) (hC : xSC 2 H S) (hm : ∀ s : Nat, (s : Int) < (H.2.1 13 0).toInt → 0 ≤ (H.2.1 16 s).toInt ∧ (H.2.1 16 s).toInt ≤ 8) (hw : ∀ s : Nat, (s : Int) < (H.2.1 13 0).toInt → ∀ j, j < (H.2.1 16 s).toInt.toNat → -1 ≤ (H.2.1 18 (8 * s + j)).toInt ∧ (H.2.1 18 (8 * s + j)).toInt ≤ 3) (hc : ∀ s : Nat, (s : Int) < (H.2.1 13 0).toInt → xIn S (H.2.1 14 s).toInt) (hr : 0 ≤ x1.toInt ∧ x1.toInt ≤ 7) : ∃ H1, zp_Call L σ (d + 8) 152 [.inr (.inr (some 1)), .inl x1, .inl (Int32.ofInt 1), .inr (.inr (some 105))] H (.inl (some (.inl (Int32.ofInt 0))), zw_J H1 104 0 ((xDv (fun x => xCn (fun j => xNw S.1 x.toInt x1.toInt (xVyc S 13 H j)) (H.2.1 13 0).toInt.toNat (Int32.ofInt 0) (Int32.ofInt 0)) (S.1 * S.2.1).toNat (Int32.ofInt 0) (Int32.ofInt 0, Int32.ofInt 0)).2).toInt64) ∧ xFd H H1 := by
  obtain ⟨_, q1, H1, rfl, q2⟩ := yc_dv0_1 (L := L) (σ := σ) (d := d) hB hS hC hm hw hc hr
  have W := zB_Wd (zB_dn (zB_Bc hB))
  have W1 := xFd_W q2 W
  refine ⟨H1, zw_ex (zw_met zm_152_t rfl rfl ?_), q2⟩
  refine zw_ld (n := 1) (k := 3) (f := zp_isR) (pc' := 1) rfl rfl rfl rfl rfl ?_
  refine zw_s (pc' := 2) rfl rfl ?_
  refine zw_ld (n := 1) (k := 0) (f := zp_isR) (pc' := 3) rfl rfl rfl rfl rfl ?_
  refine zw_ld (n := 1) (k := 1) (f := zp_isI) (pc' := 4) rfl rfl rfl rfl rfl ?_
  refine zw_ld (n := 1) (k := 2) (f := zp_isI) (pc' := 5) rfl rfl rfl rfl rfl ?_
  refine zw_ct (pc' := 8) (c' := (2, 12)) (zw_cv (q := 0) (Y := zm_153) W.1 rfl rfl zm_153_t rfl rfl) (zw_pb_ok rfl) rfl rfl rfl rfl (q1) ?_
  refine zw_s (pc' := 9) rfl rfl ?_
  refine zw_ls (q := 104) (pc' := 10) W1 rfl rfl (⟨by decide, by decide⟩) rfl ?_
  refine zw_s (pc' := 21) rfl rfl ?_
  refine zw_s (pc' := 22) rfl rfl ?_
  refine zw_rig rfl rfl ⟨by decide, by decide⟩ ?_
  rfl

theorem yc_dvn0 {L : Nat} {σ : Nat → Int32} {d : Nat} {H : zp_H} {x1 x2 : Int32} (hB : zk_Bs (zB_c 0) zg zJc H) (h : ¬ (0 ≤ x2.toInt ∧ x2.toInt ≤ (Int32.ofInt 1).toInt)) : zp_Call L σ (d + 2) 153 [.inr (.inr (some 1)), .inl x1, .inl x2] H (.inr 0, H) := by
  have W := zB_Wd (zB_dn (zB_Bc hB))
  have g5 : H.2.2.2 0 5 = some 3 := hB.2.1 0 5 _ rfl
  have g6 : H.2.2.2 0 6 = some 14 := hB.2.1 0 6 _ rfl
  have g7 : H.2.2.2 0 7 = some 23 := hB.2.1 0 7 _ rfl
  have g8 : H.2.2.2 0 8 = some 34 := hB.2.1 0 8 _ rfl
  refine zw_ex (zw_met zm_153_t rfl rfl ?_)
  refine zw_ld (n := 1) (k := 2) (f := zp_isI) (pc' := 1) rfl rfl rfl rfl rfl ?_
  refine zw_s (pc' := 2) rfl rfl ?_
  refine zw_cthr (ex := 0) (zw_cs (Y := zm_104) rfl rfl zm_104_t) (zw_pb_ok rfl) rfl rfl (yc_nw0 h) ?_
  rfl

theorem yl_dvn0 {L : Nat} {σ : Nat → Int32} {d : Nat} {H : zp_H} {x1 x2 : Int32} (hB : zk_Bs (zB_c 0) zg zJc H) (h : ¬ (0 ≤ x2.toInt ∧ x2.toInt ≤ (Int32.ofInt 1).toInt)) : zp_Call L σ (d + 3) 152 [.inr (.inr (some 1)), .inl x1, .inl x2, .inr (.inr (some 105))] H (.inl (some (.inl (Int32.ofInt 1))), H) := by
  have W := zB_Wd (zB_dn (zB_Bc hB))
  refine zw_ex (zw_met zm_152_t rfl rfl ?_)
  refine zw_ld (n := 1) (k := 3) (f := zp_isR) (pc' := 1) rfl rfl rfl rfl rfl ?_
  refine zw_s (pc' := 2) rfl rfl ?_
  refine zw_ld (n := 1) (k := 0) (f := zp_isR) (pc' := 3) rfl rfl rfl rfl rfl ?_
  refine zw_ld (n := 1) (k := 1) (f := zp_isI) (pc' := 4) rfl rfl rfl rfl rfl ?_
  refine zw_ld (n := 1) (k := 2) (f := zp_isI) (pc' := 5) rfl rfl rfl rfl rfl ?_
  refine zw_cexw (ex := 0) (hp9 := 13) (k9 := 4) (pc' := 15) (c' := (2, 12)) (zw_cv (q := 0) (Y := zm_153) W.1 rfl rfl zm_153_t rfl rfl) (zw_pb_ok rfl) rfl rfl rfl rfl rfl rfl rfl (yc_dvn0 hB h) ?_
  refine zw_s (pc' := 16) rfl rfl ?_
  refine zw_rig rfl rfl ⟨by decide, by decide⟩ ?_
  rfl

theorem yc_dvi0 {L : Nat} {σ : Nat → Int32} {d : Nat} {H : zp_H} {x1 x2 : Int32} (hB : zk_Bs (zB_c 0) zg zJc H) (hw : 0 ≤ x2.toInt ∧ x2.toInt ≤ (Int32.ofInt 1).toInt) (h : ¬ (0 ≤ x1.toInt ∧ x1.toInt ≤ 7)) : zp_Call L σ (d + 2) 153 [.inr (.inr (some 1)), .inl x1, .inl x2] H (.inr 1, H) := by
  have W := zB_Wd (zB_dn (zB_Bc hB))
  have g5 : H.2.2.2 0 5 = some 3 := hB.2.1 0 5 _ rfl
  have g6 : H.2.2.2 0 6 = some 14 := hB.2.1 0 6 _ rfl
  have g7 : H.2.2.2 0 7 = some 23 := hB.2.1 0 7 _ rfl
  have g8 : H.2.2.2 0 8 = some 34 := hB.2.1 0 8 _ rfl
  refine zw_ex (zw_met zm_153_t rfl rfl ?_)
  refine zw_ld (n := 1) (k := 2) (f := zp_isI) (pc' := 1) rfl rfl rfl rfl rfl ?_
  refine zw_s (pc' := 2) rfl rfl ?_
  refine zw_ctn (pc' := 5) (c' := (1, 6)) (zw_cs (Y := zm_104) rfl rfl zm_104_t) (zw_pb_ok rfl) rfl rfl rfl rfl (yc_nw1 hw) ?_
  refine zw_ld (n := 1) (k := 1) (f := zp_isI) (pc' := 6) rfl rfl rfl rfl rfl ?_
  refine zw_blt1 (g := 15) (pc' := 9) rfl rfl rfl rfl (fun h1 => ?_) (fun h1 => ?_)
  · exact zs_end (S := (15, _, [], H, (1, 6))) (X := (.inr 1, H)) rfl rfl rfl
  · refine zw_ld (n := 1) (k := 1) (f := zp_isI) (pc' := 10) rfl rfl rfl rfl rfl ?_
    refine zw_s (pc' := 12) rfl rfl ?_
    refine zw_ble2 (g := 26) (pc' := 15) rfl rfl rfl rfl (rfl : _ = (7 : Int)) (fun h2 => ?_) (fun h2 => ?_)
    · have h1 : 0 ≤ x1.toInt := h1
      exact absurd ⟨h1, h2⟩ h
    · exact zs_end (S := (15, _, [], H, (1, 6))) (X := (.inr 1, H)) rfl rfl rfl

theorem yl_dvi0 {L : Nat} {σ : Nat → Int32} {d : Nat} {H : zp_H} {x1 x2 : Int32} (hB : zk_Bs (zB_c 0) zg zJc H) (hw : 0 ≤ x2.toInt ∧ x2.toInt ≤ (Int32.ofInt 1).toInt) (h : ¬ (0 ≤ x1.toInt ∧ x1.toInt ≤ 7)) : zp_Call L σ (d + 3) 152 [.inr (.inr (some 1)), .inl x1, .inl x2, .inr (.inr (some 105))] H (.inl (some (.inl (Int32.ofInt 2))), H) := by
  have W := zB_Wd (zB_dn (zB_Bc hB))
  refine zw_ex (zw_met zm_152_t rfl rfl ?_)
  refine zw_ld (n := 1) (k := 3) (f := zp_isR) (pc' := 1) rfl rfl rfl rfl rfl ?_
  refine zw_s (pc' := 2) rfl rfl ?_
  refine zw_ld (n := 1) (k := 0) (f := zp_isR) (pc' := 3) rfl rfl rfl rfl rfl ?_
  refine zw_ld (n := 1) (k := 1) (f := zp_isI) (pc' := 4) rfl rfl rfl rfl rfl ?_
  refine zw_ld (n := 1) (k := 2) (f := zp_isI) (pc' := 5) rfl rfl rfl rfl rfl ?_
  refine zw_cexw (ex := 1) (hp9 := 17) (k9 := 4) (pc' := 19) (c' := (2, 12)) (zw_cv (q := 0) (Y := zm_153) W.1 rfl rfl zm_153_t rfl rfl) (zw_pb_ok rfl) rfl rfl rfl rfl rfl rfl rfl (yc_dvi0 hB hw h) ?_
  refine zw_s (pc' := 20) rfl rfl ?_
  refine zw_rig rfl rfl ⟨by decide, by decide⟩ ?_
  rfl

theorem yc_wnL3 {L : Nat} {σ : Nat → Int32} {d : Nat} {P : zp_X → Prop} {S : xSea} {H0 H : zp_H} {x r : Int32} (W : zw_W H) (hS : xOk S) (hC : xSC 22 H S) (hL : ∀ j : Nat, (j : Int) < (H0.2.1 33 0).toInt → xLd S 33 H0 H j) (h6 : H.2.1 60 0 = (H0.2.1 33 0)) (hn0 : 0 ≤ (H0.2.1 33 0).toInt ∧ (H0.2.1 33 0).toInt ≤ 8) (hV : ∀ s : Nat, (s : Int) < (H0.2.1 33 0).toInt → xIn S (xVyc S 33 H0 s).1.toInt) (hx : 0 ≤ x.toInt ∧ x.toInt ≤ 63) : ∀ (n : Nat) (lv : zp_LV) (s a : Int32), 0 ≤ s.toInt → s.toInt + n = (H0.2.1 33 0).toInt → zp_get lv 0 = some (.inr (.inr (some 61))) → zp_get lv 1 = some (.inr (.inr (some 23))) → zp_get lv 2 = some (.inl x) → zp_get lv 3 = some (.inl r) → zp_get lv 4 = some (.inl a) → zp_get lv 5 = some (.inl s) → P (.inl (some (.inl (xCn (fun j => xNw S.1 x.toInt r.toInt (xVyc S 33 H0 j)) n s a))), H) → zs_Safe L σ P zm_154 [] (d + 2) (6, lv, [], H, (0, 0)) := by
  intro n
  induction n with
  | zero =>
    intro lv s a h5 hn l0 l1 l2 l3 l4 l5 hP
    refine zw_ld (n := 2) (k := 5) (f := zp_isI) (pc' := 8) rfl rfl l5 rfl rfl ?_
    refine zw_ld (n := 1) (k := 0) (f := zp_isR) (pc' := 9) rfl rfl l0 rfl rfl ?_
    refine zw_gI (q := 60) (pc' := 12) W rfl rfl rfl rfl rfl rfl ?_
    rw [h6]
    refine zw_bge2 (g := 52) (pc' := 15) rfl rfl rfl rfl rfl (fun h1 => ?_) (fun h1 => ?_)
    · refine zw_ld (n := 2) (k := 4) (f := zp_isI) (pc' := 54) rfl rfl l4 rfl rfl ?_
      refine zw_ri rfl rfl ?_
      exact hP
    · omega
  | succ n ih =>
    intro lv s a h5 hn l0 l1 l2 l3 l4 l5 hP
    refine zw_ld (n := 2) (k := 5) (f := zp_isI) (pc' := 8) rfl rfl l5 rfl rfl ?_
    refine zw_ld (n := 1) (k := 0) (f := zp_isR) (pc' := 9) rfl rfl l0 rfl rfl ?_
    refine zw_gI (q := 60) (pc' := 12) W rfl rfl rfl rfl rfl rfl ?_
    rw [h6]
    refine zw_bge2 (g := 52) (pc' := 15) rfl rfl rfl rfl rfl (fun h1 => ?_) (fun h1 => ?_)
    · omega
    · have ei : (s + Int32.ofInt 1).toInt = s.toInt + 1 := zw_p1 (by omega)
      have hi : ((s.toInt.toNat : Nat) : Int) < (H0.2.1 33 0).toInt := by omega
      obtain ⟨-, g2, g3, -⟩ := hL _ hi
      have v64 := xIn_64 hS (hV _ hi)
      refine zw_ld (n := 1) (k := 0) (f := zp_isR) (pc' := 16) rfl rfl l0 rfl rfl ?_
      refine zw_gR (q := 60) (pc' := 19) W rfl rfl rfl rfl (W.2 60 3 _ rfl) rfl ?_
      refine zw_ld (n := 2) (k := 5) (f := zp_isI) (pc' := 21) rfl rfl l5 rfl rfl ?_
      refine zw_la (q := 63) (pc' := 22) W rfl rfl (⟨h5, by show _ < ((8 : Nat) : Int); omega⟩) rfl ?_
      refine zw_s (pc' := 23) rfl rfl ?_
      refine zw_s (pc' := 24) rfl rfl ?_
      rw [g3]
      refine zw_beq1 (g := 46) (pc' := 27) rfl rfl rfl rfl (fun h2 => ?_) (fun h2 => ?_)
      · have h2 : (lg_cmp (xWk (xVyc S 33 H0 s.toInt.toNat)) (Int64.ofNat 0)).toInt = 0 := h2
        have hf : ¬ (fun j => xNw S.1 x.toInt r.toInt (xVyc S 33 H0 j)) s.toInt.toNat = true := fun h9 => (xWk_z v64).mp h2 (Bool.and_eq_true_iff.mp h9).1
        refine zw_ii (pc' := 49) rfl l5 rfl rfl ?_
        refine zw_s (pc' := 6) rfl rfl ?_
        exact ih _ (s + Int32.ofInt 1) _ (by omega) (by omega) (zw_gt l0 rfl rfl) (zw_gt l1 rfl rfl) (zw_gt l2 rfl rfl) (zw_gt l3 rfl rfl) (zw_gt l4 rfl rfl) zw_g1 (by rw [xCn_n hf] at hP; exact hP)
      · have h2 : ¬ (lg_cmp (xWk (xVyc S 33 H0 s.toInt.toNat)) (Int64.ofNat 0)).toInt = 0 := h2
        have hwr : xWr (xVyc S 33 H0 s.toInt.toNat) = true := Classical.byContradiction (fun h9 => h2 ((xWk_z v64).mpr h9))
        obtain ⟨_, p1, v, rfl, p2⟩ := yc_far22 (L := L) (σ := σ) (d := d) (H := H) (x := x) (y := (xVyc S 33 H0 s.toInt.toNat).1) W (by rw [hC.1]; exact hS.1.1) hx v64
        rw [hC.1] at p2
        have p2 := p2 r.toInt
        refine zw_ld (n := 1) (k := 1) (f := zp_isR) (pc' := 28) rfl rfl l1 rfl rfl ?_
        refine zw_ld (n := 1) (k := 2) (f := zp_isI) (pc' := 29) rfl rfl l2 rfl rfl ?_
        refine zw_ld (n := 1) (k := 0) (f := zp_isR) (pc' := 30) rfl rfl l0 rfl rfl ?_
        refine zw_gR (q := 60) (pc' := 33) W rfl rfl rfl rfl (W.2 60 2 _ rfl) rfl ?_
        refine zw_ld (n := 2) (k := 5) (f := zp_isI) (pc' := 35) rfl rfl l5 rfl rfl ?_
        refine zw_ia (q := 62) (pc' := 36) W rfl rfl (by decide) (⟨h5, by show _ < ((8 : Nat) : Int); omega⟩) rfl rfl ?_
        rw [g2]
        refine zw_c (pc' := 39) (zw_cv (q := 22) (Y := zm_143) W.1 rfl rfl zm_143_t rfl rfl) rfl rfl rfl rfl rfl (p1) ?_
        refine zw_ld (n := 1) (k := 3) (f := zp_isI) (pc' := 40) rfl rfl l3 rfl rfl ?_
        refine zw_bgt2 (g := 46) (pc' := 43) rfl rfl rfl rfl rfl (fun h3 => ?_) (fun h3 => ?_)
        · have hf : ¬ (fun j => xNw S.1 x.toInt r.toInt (xVyc S 33 H0 j)) s.toInt.toNat = true := fun h9 => by have := p2.mpr (Bool.and_eq_true_iff.mp h9).2; omega
          refine zw_ii (pc' := 49) rfl l5 rfl rfl ?_
          refine zw_s (pc' := 6) rfl rfl ?_
          exact ih _ (s + Int32.ofInt 1) _ (by omega) (by omega) (zw_gt l0 rfl rfl) (zw_gt l1 rfl rfl) (zw_gt l2 rfl rfl) (zw_gt l3 rfl rfl) (zw_gt l4 rfl rfl) zw_g1 (by rw [xCn_n hf] at hP; exact hP)
        · have hf : (fun j => xNw S.1 x.toInt r.toInt (xVyc S 33 H0 j)) s.toInt.toNat = true := Bool.and_eq_true_iff.mpr ⟨hwr, p2.mp (by omega)⟩
          refine zw_ii (pc' := 46) rfl l4 rfl rfl ?_
          refine zw_ii (pc' := 49) rfl (zw_gt l5 rfl rfl) rfl rfl ?_
          refine zw_s (pc' := 6) rfl rfl ?_
          exact ih _ (s + Int32.ofInt 1) _ (by omega) (by omega) (zw_gt (zw_gt l0 rfl rfl) rfl rfl) (zw_gt (zw_gt l1 rfl rfl) rfl rfl) (zw_gt (zw_gt l2 rfl rfl) rfl rfl) (zw_gt (zw_gt l3 rfl rfl) rfl rfl) (zw_gt zw_g1 rfl rfl) zw_g1 (by rw [xCn_y hf] at hP; exact hP)

theorem yc_wn3 {L : Nat} {σ : Nat → Int32} {d : Nat} {H : zp_H} {S : xSea} {H0 : zp_H} {x r : Int32} (W : zw_W H) (hS : xOk S) (hC : xSC 22 H S) (hL : ∀ j : Nat, (j : Int) < (H0.2.1 33 0).toInt → xLd S 33 H0 H j) (h6 : H.2.1 60 0 = (H0.2.1 33 0)) (hn0 : 0 ≤ (H0.2.1 33 0).toInt ∧ (H0.2.1 33 0).toInt ≤ 8) (hV : ∀ s : Nat, (s : Int) < (H0.2.1 33 0).toInt → xIn S (xVyc S 33 H0 s).1.toInt) (hx : 0 ≤ x.toInt ∧ x.toInt ≤ 63) : zp_Call L σ (d + 3) 154 [.inr (.inr (some 61)), .inr (.inr (some 23)), .inl x, .inl r] H (.inl (some (.inl ((fun x => xCn (fun j => xNw S.1 x.toInt r.toInt (xVyc S 33 H0 j)) (H0.2.1 33 0).toInt.toNat (Int32.ofInt 0) (Int32.ofInt 0)) x))), H) := by
  refine zw_ex (zw_met zm_154_t rfl rfl ?_)
  refine zw_s (pc' := 1) rfl rfl ?_
  refine zw_st (n := 2) (k := 4) (f := zp_isI) (pc' := 3) rfl rfl rfl rfl rfl ?_
  refine zw_s (pc' := 4) rfl rfl ?_
  refine zw_st (n := 2) (k := 5) (f := zp_isI) (pc' := 6) rfl rfl rfl rfl rfl ?_
  exact yc_wnL3 W hS hC hL h6 hn0 hV hx (H0.2.1 33 0).toInt.toNat _ (Int32.ofInt 0) (Int32.ofInt 0) (by decide) (by rw [show (Int32.ofInt 0).toInt = 0 by decide]; omega) (zw_gt (zw_gt rfl rfl rfl) rfl rfl) (zw_gt (zw_gt rfl rfl rfl) rfl rfl) (zw_gt (zw_gt rfl rfl rfl) rfl rfl) (zw_gt (zw_gt rfl rfl rfl) rfl rfl) (zw_gt zw_g1 rfl rfl) zw_g1 rfl

theorem yc_dvL3 {L : Nat} {σ : Nat → Int32} {d : Nat} {P : zp_X → Prop} {S : xSea} {H0 H : zp_H} {r wt : Int32} (W : zw_W H) (g5 : H.2.2.2 0 5 = some 23) (hS : xOk S) (hC : xSC 22 H S) (hsq : (H.2.1 22 0 * H.2.1 22 1).toInt ≤ 64) (hL : ∀ j : Nat, (j : Int) < (H0.2.1 33 0).toInt → xLd S 33 H0 H j) (h6 : H.2.1 60 0 = (H0.2.1 33 0)) (hn0 : 0 ≤ (H0.2.1 33 0).toInt ∧ (H0.2.1 33 0).toInt ≤ 8) (hV : ∀ s : Nat, (s : Int) < (H0.2.1 33 0).toInt → xIn S (xVyc S 33 H0 s).1.toInt) : ∀ (n : Nat) (lv : zp_LV) (x : Int32) (b : Int32 × Int32), 0 ≤ x.toInt → x.toInt + n = (H.2.1 22 0 * H.2.1 22 1).toInt → zp_get lv 0 = some (.inr (.inr (some 1))) → zp_get lv 1 = some (.inl r) → zp_get lv 2 = some (.inl wt) → zp_get lv 3 = some (.inl b.1) → zp_get lv 4 = some (.inl b.2) → zp_get lv 5 = some (.inl x) → (∀ lv1, zp_get lv1 0 = some (.inr (.inr (some 1))) → zp_get lv1 1 = some (.inl r) → zp_get lv1 2 = some (.inl wt) → zp_get lv1 3 = some (.inl (xDv (fun x => xCn (fun j => xNw S.1 x.toInt r.toInt (xVyc S 33 H0 j)) (H0.2.1 33 0).toInt.toNat (Int32.ofInt 0) (Int32.ofInt 0)) n x b).1) → zp_get lv1 4 = some (.inl (xDv (fun x => xCn (fun j => xNw S.1 x.toInt r.toInt (xVyc S 33 H0 j)) (H0.2.1 33 0).toInt.toNat (Int32.ofInt 0) (Int32.ofInt 0)) n x b).2) → zs_Safe L σ P zm_153 [] (d + 3) (101, lv1, [], H, (1, 6))) → zs_Safe L σ P zm_153 [] (d + 3) (53, lv, [], H, (1, 6)) := by
  intro n
  induction n with
  | zero =>
    intro lv x b h5 hn l0 l1 l2 l3 l4 l5 hP
    refine zw_ld (n := 2) (k := 5) (f := zp_isI) (pc' := 55) rfl rfl l5 rfl rfl ?_
    refine zw_ld (n := 1) (k := 0) (f := zp_isR) (pc' := 56) rfl rfl l0 rfl rfl ?_
    refine zw_gR (q := 0) (pc' := 59) W rfl rfl rfl rfl g5 rfl ?_
    refine zw_c (pc' := 62) (zw_cv (q := 22) (Y := zm_105) W.1 rfl rfl zm_105_t rfl rfl) rfl rfl rfl rfl rfl (yc_cells22 W) ?_
    refine zw_bge2 (g := 101) (pc' := 65) rfl rfl rfl rfl rfl (fun h1 => ?_) (fun h1 => ?_)
    · exact hP lv l0 l1 l2 l3 l4
    · have h1 : x.toInt < (H.2.1 22 0 * H.2.1 22 1).toInt := h1
      omega
  | succ n ih =>
    intro lv x b h5 hn l0 l1 l2 l3 l4 l5 hP
    refine zw_ld (n := 2) (k := 5) (f := zp_isI) (pc' := 55) rfl rfl l5 rfl rfl ?_
    refine zw_ld (n := 1) (k := 0) (f := zp_isR) (pc' := 56) rfl rfl l0 rfl rfl ?_
    refine zw_gR (q := 0) (pc' := 59) W rfl rfl rfl rfl g5 rfl ?_
    refine zw_c (pc' := 62) (zw_cv (q := 22) (Y := zm_105) W.1 rfl rfl zm_105_t rfl rfl) rfl rfl rfl rfl rfl (yc_cells22 W) ?_
    refine zw_bge2 (g := 101) (pc' := 65) rfl rfl rfl rfl rfl (fun h1 => ?_) (fun h1 => ?_)
    · have h1 : (H.2.1 22 0 * H.2.1 22 1).toInt ≤ x.toInt := h1
      omega
    · have h1 : x.toInt < (H.2.1 22 0 * H.2.1 22 1).toInt := h1
      have ei : (x + Int32.ofInt 1).toInt = x.toInt + 1 := zw_p1 (by omega)
      have qa := yc_wn3 (L := L) (σ := σ) (d := d) (x := x) (r := r) W hS hC hL h6 hn0 hV ⟨h5, by omega⟩
      refine zw_ld (n := 1) (k := 0) (f := zp_isR) (pc' := 66) rfl rfl l0 rfl rfl ?_
      refine zw_gR (q := 0) (pc' := 69) W rfl rfl rfl rfl (W.2 0 15 _ rfl) rfl ?_
      refine zw_ld (n := 1) (k := 0) (f := zp_isR) (pc' := 70) rfl rfl l0 rfl rfl ?_
      refine zw_gR (q := 0) (pc' := 73) W rfl rfl rfl rfl g5 rfl ?_
      refine zw_ld (n := 2) (k := 5) (f := zp_isI) (pc' := 75) rfl rfl l5 rfl rfl ?_
      refine zw_ld (n := 1) (k := 1) (f := zp_isI) (pc' := 76) rfl rfl l1 rfl rfl ?_
      refine zw_c (pc' := 79) (zw_cv (q := 60) (Y := zm_154) W.1 rfl rfl zm_154_t rfl rfl) rfl rfl rfl rfl rfl (qa) ?_
      refine zw_st (n := 2) (k := 6) (f := zp_isI) (pc' := 81) rfl rfl rfl rfl rfl ?_
      refine zw_ld (n := 2) (k := 6) (f := zp_isI) (pc' := 83) rfl rfl zw_g1 rfl rfl ?_
      refine zw_ld (n := 2) (k := 4) (f := zp_isI) (pc' := 85) rfl rfl (zw_gt l4 rfl rfl) rfl rfl ?_
      refine zw_ble2 (g := 95) (pc' := 88) rfl rfl rfl rfl rfl (fun h2 => ?_) (fun h2 => ?_)
      · have h3 : ¬ b.2.toInt < ((fun x => xCn (fun j => xNw S.1 x.toInt r.toInt (xVyc S 33 H0 j)) (H0.2.1 33 0).toInt.toNat (Int32.ofInt 0) (Int32.ofInt 0)) x).toInt := Int.not_lt.mpr h2
        refine zw_ii (pc' := 98) rfl (zw_gt l5 rfl rfl) rfl rfl ?_
        refine zw_s (pc' := 53) rfl rfl ?_
        exact ih _ (x + Int32.ofInt 1) b (by omega) (by omega) (zw_gt (zw_gt l0 rfl rfl) rfl rfl) (zw_gt (zw_gt l1 rfl rfl) rfl rfl) (zw_gt (zw_gt l2 rfl rfl) rfl rfl) (zw_gt (zw_gt l3 rfl rfl) rfl rfl) (zw_gt (zw_gt l4 rfl rfl) rfl rfl) zw_g1 (by rw [xDv_n (g := (fun x => xCn (fun j => xNw S.1 x.toInt r.toInt (xVyc S 33 H0 j)) (H0.2.1 33 0).toInt.toNat (Int32.ofInt 0) (Int32.ofInt 0))) h3] at hP; exact hP)
      · have h3 : b.2.toInt < ((fun x => xCn (fun j => xNw S.1 x.toInt r.toInt (xVyc S 33 H0 j)) (H0.2.1 33 0).toInt.toNat (Int32.ofInt 0) (Int32.ofInt 0)) x).toInt := h2
        refine zw_ld (n := 2) (k := 5) (f := zp_isI) (pc' := 90) rfl rfl (zw_gt l5 rfl rfl) rfl rfl ?_
        refine zw_st (n := 1) (k := 3) (f := zp_isI) (pc' := 91) rfl rfl rfl rfl rfl ?_
        refine zw_ld (n := 2) (k := 6) (f := zp_isI) (pc' := 93) rfl rfl (zw_gt zw_g1 rfl rfl) rfl rfl ?_
        refine zw_st (n := 2) (k := 4) (f := zp_isI) (pc' := 95) rfl rfl rfl rfl rfl ?_
        refine zw_ii (pc' := 98) rfl (zw_gt (zw_gt (zw_gt l5 rfl rfl) rfl rfl) rfl rfl) rfl rfl ?_
        refine zw_s (pc' := 53) rfl rfl ?_
        exact ih _ (x + Int32.ofInt 1) (x, ((fun x => xCn (fun j => xNw S.1 x.toInt r.toInt (xVyc S 33 H0 j)) (H0.2.1 33 0).toInt.toNat (Int32.ofInt 0) (Int32.ofInt 0)) x)) (by omega) (by omega) (zw_gt (zw_gt (zw_gt (zw_gt l0 rfl rfl) rfl rfl) rfl rfl) rfl rfl) (zw_gt (zw_gt (zw_gt (zw_gt l1 rfl rfl) rfl rfl) rfl rfl) rfl rfl) (zw_gt (zw_gt (zw_gt (zw_gt l2 rfl rfl) rfl rfl) rfl rfl) rfl rfl) (zw_gt (zw_gt zw_g1 rfl rfl) rfl rfl) (zw_gt zw_g1 rfl rfl) zw_g1 (by rw [xDv_y (g := (fun x => xCn (fun j => xNw S.1 x.toInt r.toInt (xVyc S 33 H0 j)) (H0.2.1 33 0).toInt.toNat (Int32.ofInt 0) (Int32.ofInt 0))) h3] at hP; exact hP)

theorem yc_dv3_0 {L : Nat} {σ : Nat → Int32} {d : Nat} {H : zp_H} {x1 : Int32} (hB : zk_Bs (zB_c 3) zg zJc H) {S : xSea} (hS : xOk S) (hC : xSC 22 H S) (hm : ∀ s : Nat, (s : Int) < (H.2.1 33 0).toInt → 0 ≤ (H.2.1 36 s).toInt ∧ (H.2.1 36 s).toInt ≤ 8) (hw : ∀ s : Nat, (s : Int) < (H.2.1 33 0).toInt → ∀ j, j < (H.2.1 36 s).toInt.toNat → -1 ≤ (H.2.1 38 (8 * s + j)).toInt ∧ (H.2.1 38 (8 * s + j)).toInt ≤ 3) (hc : ∀ s : Nat, (s : Int) < (H.2.1 33 0).toInt → xIn S (H.2.1 34 s).toInt) (hr : 0 ≤ x1.toInt ∧ x1.toInt ≤ 7) : ∃ X, zp_Call L σ (d + 7) 153 [.inr (.inr (some 1)), .inl x1, .inl (Int32.ofInt 0)] H X ∧ ∃ H1, X = (.inl (some (.inl (xDv (fun x => xCn (fun j => xNw S.1 x.toInt x1.toInt (xVyc S 33 H j)) (H.2.1 33 0).toInt.toNat (Int32.ofInt 0) (Int32.ofInt 0)) (S.1 * S.2.1).toNat (Int32.ofInt 0) (Int32.ofInt 0, Int32.ofInt 0)).1)), H1) ∧ xFd H H1 := by
  have W := zB_Wd (zB_dn (zB_Bc hB))
  have g5 : H.2.2.2 0 5 = some 23 := hB.2.1 0 5 _ rfl
  have g6 : H.2.2.2 0 6 = some 34 := hB.2.1 0 6 _ rfl
  have g7 : H.2.2.2 0 7 = some 3 := hB.2.1 0 7 _ rfl
  have g8 : H.2.2.2 0 8 = some 14 := hB.2.1 0 8 _ rfl
  have r33_0 := zB_fr1 (zB_dn (zB_Bc hB)) (p := 33) (k := 0) (r := (0, 8)) rfl
  have r33_0 : 0 ≤ (H.2.1 33 0).toInt ∧ (H.2.1 33 0).toInt ≤ 8 := r33_0
  obtain ⟨_, q1, H1, rfl, W1, q2, q3, q4⟩ := yc_le22 (L := L) (σ := σ) (d := d) hS hC r33_0 hm hw hc W
  have k5 : H1.2.2.2 0 5 = some 23 := (congrFun (congrFun q2.2.1 0) 5).trans g5
  have hC1 := xSC_d q2 (by decide) hC
  have sq := xSq hS
  have es : (H1.2.1 22 0 * H1.2.1 22 1).toInt = S.1 * S.2.1 := by
    rw [Int32.toInt_mul, hC1.1, hC1.2.1]
    exact Int.bmod_eq_of_le (by omega) (by omega)
  refine zw_met zm_153_t rfl rfl ?_
  refine zw_ld (n := 1) (k := 2) (f := zp_isI) (pc' := 1) rfl rfl rfl rfl rfl ?_
  refine zw_s (pc' := 2) rfl rfl ?_
  refine zw_ctn (pc' := 5) (c' := (1, 6)) (zw_cs (Y := zm_104) rfl rfl zm_104_t) (zw_pb_ok rfl) rfl rfl rfl rfl (yc_nw1 ⟨by decide, by decide⟩) ?_
  refine zw_ld (n := 1) (k := 1) (f := zp_isI) (pc' := 6) rfl rfl rfl rfl rfl ?_
  refine zw_blt1 (g := 15) (pc' := 9) rfl rfl rfl rfl (fun h1 => ?_) (fun h1 => ?_)
  · have h1 : x1.toInt < 0 := h1
    omega
  · refine zw_ld (n := 1) (k := 1) (f := zp_isI) (pc' := 10) rfl rfl rfl rfl rfl ?_
    refine zw_s (pc' := 12) rfl rfl ?_
    refine zw_ble2 (g := 26) (pc' := 15) rfl rfl rfl rfl (rfl : _ = (7 : Int)) (fun h2 => ?_) (fun h2 => ?_)
    · refine zw_ld (n := 1) (k := 0) (f := zp_isR) (pc' := 27) rfl rfl rfl rfl rfl ?_
      refine zw_gR (q := 0) (pc' := 30) W rfl rfl rfl rfl (W.2 0 15 _ rfl) rfl ?_
      refine zw_ld (n := 1) (k := 0) (f := zp_isR) (pc' := 31) rfl rfl rfl rfl rfl ?_
      refine zw_gR (q := 0) (pc' := 34) W rfl rfl rfl rfl g5 rfl ?_
      refine zw_ld (n := 1) (k := 0) (f := zp_isR) (pc' := 35) rfl rfl rfl rfl rfl ?_
      refine zw_gR (q := 0) (pc' := 38) W rfl rfl rfl rfl g6 rfl ?_
      refine zw_ld (n := 1) (k := 0) (f := zp_isR) (pc' := 39) rfl rfl rfl rfl rfl ?_
      refine zw_gR (q := 0) (pc' := 42) W rfl rfl rfl rfl (W.2 0 12 _ rfl) rfl ?_
      refine zw_cn (pc' := 45) (zw_cv (q := 60) (Y := zm_139) W.1 rfl rfl zm_139_t rfl rfl) rfl rfl rfl rfl rfl (q1) ?_
      refine zw_s (pc' := 46) rfl rfl ?_
      refine zw_st (n := 1) (k := 3) (f := zp_isI) (pc' := 47) rfl rfl rfl rfl rfl ?_
      refine zw_s (pc' := 48) rfl rfl ?_
      refine zw_st (n := 2) (k := 4) (f := zp_isI) (pc' := 50) rfl rfl rfl rfl rfl ?_
      refine zw_s (pc' := 51) rfl rfl ?_
      refine zw_st (n := 2) (k := 5) (f := zp_isI) (pc' := 53) rfl rfl rfl rfl rfl ?_
      refine yc_dvL3 (H0 := H) W1 k5 hS hC1 (by rw [es]; exact sq.2) q4 q3 r33_0 (fun s hs => (xVy_b hS _ _ _ _ (hc s hs)).1) (S.1 * S.2.1).toNat _ (Int32.ofInt 0) (Int32.ofInt 0, Int32.ofInt 0) (by decide) (by rw [es, show (Int32.ofInt 0).toInt = 0 by decide]; omega) (zw_gt (zw_gt (zw_gt rfl rfl rfl) rfl rfl) rfl rfl) (zw_gt (zw_gt (zw_gt rfl rfl rfl) rfl rfl) rfl rfl) (zw_gt (zw_gt (zw_gt rfl rfl rfl) rfl rfl) rfl rfl) (zw_gt (zw_gt zw_g1 rfl rfl) rfl rfl) (zw_gt zw_g1 rfl rfl) zw_g1 (fun lv1 m0 m1 m2 m3 m4 => ?_)
      refine zw_ld (n := 1) (k := 2) (f := zp_isI) (pc' := 102) rfl rfl m2 rfl rfl ?_
      refine zw_bne1 (g := 109) (pc' := 105) rfl rfl rfl (rfl : _ = (0 : Int)) (fun h9 => absurd h9 (by decide)) (fun h8 => ?_)
      refine zw_ld (n := 1) (k := 3) (f := zp_isI) (pc' := 106) rfl rfl m3 rfl rfl ?_
      refine zw_s (pc' := 111) rfl rfl ?_
      refine zw_rig rfl rfl ⟨by decide, by decide⟩ ?_
      exact ⟨H1, rfl, q2⟩
    · exact absurd hr.2 (Int.not_le.mpr h2)

theorem yl_dv3_0 {L : Nat} {σ : Nat → Int32} {d : Nat} {H : zp_H} {x1 : Int32} (hB : zk_Bs (zB_c 3) zg zJc H) {S : xSea} (hS : xOk S) (hC : xSC 22 H S) (hm : ∀ s : Nat, (s : Int) < (H.2.1 33 0).toInt → 0 ≤ (H.2.1 36 s).toInt ∧ (H.2.1 36 s).toInt ≤ 8) (hw : ∀ s : Nat, (s : Int) < (H.2.1 33 0).toInt → ∀ j, j < (H.2.1 36 s).toInt.toNat → -1 ≤ (H.2.1 38 (8 * s + j)).toInt ∧ (H.2.1 38 (8 * s + j)).toInt ≤ 3) (hc : ∀ s : Nat, (s : Int) < (H.2.1 33 0).toInt → xIn S (H.2.1 34 s).toInt) (hr : 0 ≤ x1.toInt ∧ x1.toInt ≤ 7) : ∃ H1, zp_Call L σ (d + 8) 152 [.inr (.inr (some 1)), .inl x1, .inl (Int32.ofInt 0), .inr (.inr (some 105))] H (.inl (some (.inl (Int32.ofInt 0))), zw_J H1 104 0 ((xDv (fun x => xCn (fun j => xNw S.1 x.toInt x1.toInt (xVyc S 33 H j)) (H.2.1 33 0).toInt.toNat (Int32.ofInt 0) (Int32.ofInt 0)) (S.1 * S.2.1).toNat (Int32.ofInt 0) (Int32.ofInt 0, Int32.ofInt 0)).1).toInt64) ∧ xFd H H1 := by
  obtain ⟨_, q1, H1, rfl, q2⟩ := yc_dv3_0 (L := L) (σ := σ) (d := d) hB hS hC hm hw hc hr
  have W := zB_Wd (zB_dn (zB_Bc hB))
  have W1 := xFd_W q2 W
  refine ⟨H1, zw_ex (zw_met zm_152_t rfl rfl ?_), q2⟩
  refine zw_ld (n := 1) (k := 3) (f := zp_isR) (pc' := 1) rfl rfl rfl rfl rfl ?_
  refine zw_s (pc' := 2) rfl rfl ?_
  refine zw_ld (n := 1) (k := 0) (f := zp_isR) (pc' := 3) rfl rfl rfl rfl rfl ?_
  refine zw_ld (n := 1) (k := 1) (f := zp_isI) (pc' := 4) rfl rfl rfl rfl rfl ?_
  refine zw_ld (n := 1) (k := 2) (f := zp_isI) (pc' := 5) rfl rfl rfl rfl rfl ?_
  refine zw_ct (pc' := 8) (c' := (2, 12)) (zw_cv (q := 0) (Y := zm_153) W.1 rfl rfl zm_153_t rfl rfl) (zw_pb_ok rfl) rfl rfl rfl rfl (q1) ?_
  refine zw_s (pc' := 9) rfl rfl ?_
  refine zw_ls (q := 104) (pc' := 10) W1 rfl rfl (⟨by decide, by decide⟩) rfl ?_
  refine zw_s (pc' := 21) rfl rfl ?_
  refine zw_s (pc' := 22) rfl rfl ?_
  refine zw_rig rfl rfl ⟨by decide, by decide⟩ ?_
  rfl

theorem yc_dv3_1 {L : Nat} {σ : Nat → Int32} {d : Nat} {H : zp_H} {x1 : Int32} (hB : zk_Bs (zB_c 3) zg zJc H) {S : xSea} (hS : xOk S) (hC : xSC 22 H S) (hm : ∀ s : Nat, (s : Int) < (H.2.1 33 0).toInt → 0 ≤ (H.2.1 36 s).toInt ∧ (H.2.1 36 s).toInt ≤ 8) (hw : ∀ s : Nat, (s : Int) < (H.2.1 33 0).toInt → ∀ j, j < (H.2.1 36 s).toInt.toNat → -1 ≤ (H.2.1 38 (8 * s + j)).toInt ∧ (H.2.1 38 (8 * s + j)).toInt ≤ 3) (hc : ∀ s : Nat, (s : Int) < (H.2.1 33 0).toInt → xIn S (H.2.1 34 s).toInt) (hr : 0 ≤ x1.toInt ∧ x1.toInt ≤ 7) : ∃ X, zp_Call L σ (d + 7) 153 [.inr (.inr (some 1)), .inl x1, .inl (Int32.ofInt 1)] H X ∧ ∃ H1, X = (.inl (some (.inl (xDv (fun x => xCn (fun j => xNw S.1 x.toInt x1.toInt (xVyc S 33 H j)) (H.2.1 33 0).toInt.toNat (Int32.ofInt 0) (Int32.ofInt 0)) (S.1 * S.2.1).toNat (Int32.ofInt 0) (Int32.ofInt 0, Int32.ofInt 0)).2)), H1) ∧ xFd H H1 := by
  have W := zB_Wd (zB_dn (zB_Bc hB))
  have g5 : H.2.2.2 0 5 = some 23 := hB.2.1 0 5 _ rfl
  have g6 : H.2.2.2 0 6 = some 34 := hB.2.1 0 6 _ rfl
  have g7 : H.2.2.2 0 7 = some 3 := hB.2.1 0 7 _ rfl
  have g8 : H.2.2.2 0 8 = some 14 := hB.2.1 0 8 _ rfl
  have r33_0 := zB_fr1 (zB_dn (zB_Bc hB)) (p := 33) (k := 0) (r := (0, 8)) rfl
  have r33_0 : 0 ≤ (H.2.1 33 0).toInt ∧ (H.2.1 33 0).toInt ≤ 8 := r33_0
  obtain ⟨_, q1, H1, rfl, W1, q2, q3, q4⟩ := yc_le22 (L := L) (σ := σ) (d := d) hS hC r33_0 hm hw hc W
  have k5 : H1.2.2.2 0 5 = some 23 := (congrFun (congrFun q2.2.1 0) 5).trans g5
  have hC1 := xSC_d q2 (by decide) hC
  have sq := xSq hS
  have es : (H1.2.1 22 0 * H1.2.1 22 1).toInt = S.1 * S.2.1 := by
    rw [Int32.toInt_mul, hC1.1, hC1.2.1]
    exact Int.bmod_eq_of_le (by omega) (by omega)
  refine zw_met zm_153_t rfl rfl ?_
  refine zw_ld (n := 1) (k := 2) (f := zp_isI) (pc' := 1) rfl rfl rfl rfl rfl ?_
  refine zw_s (pc' := 2) rfl rfl ?_
  refine zw_ctn (pc' := 5) (c' := (1, 6)) (zw_cs (Y := zm_104) rfl rfl zm_104_t) (zw_pb_ok rfl) rfl rfl rfl rfl (yc_nw1 ⟨by decide, by decide⟩) ?_
  refine zw_ld (n := 1) (k := 1) (f := zp_isI) (pc' := 6) rfl rfl rfl rfl rfl ?_
  refine zw_blt1 (g := 15) (pc' := 9) rfl rfl rfl rfl (fun h1 => ?_) (fun h1 => ?_)
  · have h1 : x1.toInt < 0 := h1
    omega
  · refine zw_ld (n := 1) (k := 1) (f := zp_isI) (pc' := 10) rfl rfl rfl rfl rfl ?_
    refine zw_s (pc' := 12) rfl rfl ?_
    refine zw_ble2 (g := 26) (pc' := 15) rfl rfl rfl rfl (rfl : _ = (7 : Int)) (fun h2 => ?_) (fun h2 => ?_)
    · refine zw_ld (n := 1) (k := 0) (f := zp_isR) (pc' := 27) rfl rfl rfl rfl rfl ?_
      refine zw_gR (q := 0) (pc' := 30) W rfl rfl rfl rfl (W.2 0 15 _ rfl) rfl ?_
      refine zw_ld (n := 1) (k := 0) (f := zp_isR) (pc' := 31) rfl rfl rfl rfl rfl ?_
      refine zw_gR (q := 0) (pc' := 34) W rfl rfl rfl rfl g5 rfl ?_
      refine zw_ld (n := 1) (k := 0) (f := zp_isR) (pc' := 35) rfl rfl rfl rfl rfl ?_
      refine zw_gR (q := 0) (pc' := 38) W rfl rfl rfl rfl g6 rfl ?_
      refine zw_ld (n := 1) (k := 0) (f := zp_isR) (pc' := 39) rfl rfl rfl rfl rfl ?_
      refine zw_gR (q := 0) (pc' := 42) W rfl rfl rfl rfl (W.2 0 12 _ rfl) rfl ?_
      refine zw_cn (pc' := 45) (zw_cv (q := 60) (Y := zm_139) W.1 rfl rfl zm_139_t rfl rfl) rfl rfl rfl rfl rfl (q1) ?_
      refine zw_s (pc' := 46) rfl rfl ?_
      refine zw_st (n := 1) (k := 3) (f := zp_isI) (pc' := 47) rfl rfl rfl rfl rfl ?_
      refine zw_s (pc' := 48) rfl rfl ?_
      refine zw_st (n := 2) (k := 4) (f := zp_isI) (pc' := 50) rfl rfl rfl rfl rfl ?_
      refine zw_s (pc' := 51) rfl rfl ?_
      refine zw_st (n := 2) (k := 5) (f := zp_isI) (pc' := 53) rfl rfl rfl rfl rfl ?_
      refine yc_dvL3 (H0 := H) W1 k5 hS hC1 (by rw [es]; exact sq.2) q4 q3 r33_0 (fun s hs => (xVy_b hS _ _ _ _ (hc s hs)).1) (S.1 * S.2.1).toNat _ (Int32.ofInt 0) (Int32.ofInt 0, Int32.ofInt 0) (by decide) (by rw [es, show (Int32.ofInt 0).toInt = 0 by decide]; omega) (zw_gt (zw_gt (zw_gt rfl rfl rfl) rfl rfl) rfl rfl) (zw_gt (zw_gt (zw_gt rfl rfl rfl) rfl rfl) rfl rfl) (zw_gt (zw_gt (zw_gt rfl rfl rfl) rfl rfl) rfl rfl) (zw_gt (zw_gt zw_g1 rfl rfl) rfl rfl) (zw_gt zw_g1 rfl rfl) zw_g1 (fun lv1 m0 m1 m2 m3 m4 => ?_)
      refine zw_ld (n := 1) (k := 2) (f := zp_isI) (pc' := 102) rfl rfl m2 rfl rfl ?_
      refine zw_bne1 (g := 109) (pc' := 105) rfl rfl rfl (rfl : _ = (1 : Int)) (fun h8 => ?_) (fun h9 => absurd h9 (by decide))
      refine zw_ld (n := 2) (k := 4) (f := zp_isI) (pc' := 111) rfl rfl m4 rfl rfl ?_
      refine zw_rig rfl rfl ⟨by decide, by decide⟩ ?_
      exact ⟨H1, rfl, q2⟩
    · exact absurd hr.2 (Int.not_le.mpr h2)

theorem yl_dv3_1 {L : Nat} {σ : Nat → Int32} {d : Nat} {H : zp_H} {x1 : Int32} (hB : zk_Bs (zB_c 3) zg zJc H) {S : xSea} (hS : xOk S) (hC : xSC 22 H S) (hm : ∀ s : Nat, (s : Int) < (H.2.1 33 0).toInt → 0 ≤ (H.2.1 36 s).toInt ∧ (H.2.1 36 s).toInt ≤ 8) (hw : ∀ s : Nat, (s : Int) < (H.2.1 33 0).toInt → ∀ j, j < (H.2.1 36 s).toInt.toNat → -1 ≤ (H.2.1 38 (8 * s + j)).toInt ∧ (H.2.1 38 (8 * s + j)).toInt ≤ 3) (hc : ∀ s : Nat, (s : Int) < (H.2.1 33 0).toInt → xIn S (H.2.1 34 s).toInt) (hr : 0 ≤ x1.toInt ∧ x1.toInt ≤ 7) : ∃ H1, zp_Call L σ (d + 8) 152 [.inr (.inr (some 1)), .inl x1, .inl (Int32.ofInt 1), .inr (.inr (some 105))] H (.inl (some (.inl (Int32.ofInt 0))), zw_J H1 104 0 ((xDv (fun x => xCn (fun j => xNw S.1 x.toInt x1.toInt (xVyc S 33 H j)) (H.2.1 33 0).toInt.toNat (Int32.ofInt 0) (Int32.ofInt 0)) (S.1 * S.2.1).toNat (Int32.ofInt 0) (Int32.ofInt 0, Int32.ofInt 0)).2).toInt64) ∧ xFd H H1 := by
  obtain ⟨_, q1, H1, rfl, q2⟩ := yc_dv3_1 (L := L) (σ := σ) (d := d) hB hS hC hm hw hc hr
  have W := zB_Wd (zB_dn (zB_Bc hB))
  have W1 := xFd_W q2 W
  refine ⟨H1, zw_ex (zw_met zm_152_t rfl rfl ?_), q2⟩
  refine zw_ld (n := 1) (k := 3) (f := zp_isR) (pc' := 1) rfl rfl rfl rfl rfl ?_
  refine zw_s (pc' := 2) rfl rfl ?_
  refine zw_ld (n := 1) (k := 0) (f := zp_isR) (pc' := 3) rfl rfl rfl rfl rfl ?_
  refine zw_ld (n := 1) (k := 1) (f := zp_isI) (pc' := 4) rfl rfl rfl rfl rfl ?_
  refine zw_ld (n := 1) (k := 2) (f := zp_isI) (pc' := 5) rfl rfl rfl rfl rfl ?_
  refine zw_ct (pc' := 8) (c' := (2, 12)) (zw_cv (q := 0) (Y := zm_153) W.1 rfl rfl zm_153_t rfl rfl) (zw_pb_ok rfl) rfl rfl rfl rfl (q1) ?_
  refine zw_s (pc' := 9) rfl rfl ?_
  refine zw_ls (q := 104) (pc' := 10) W1 rfl rfl (⟨by decide, by decide⟩) rfl ?_
  refine zw_s (pc' := 21) rfl rfl ?_
  refine zw_s (pc' := 22) rfl rfl ?_
  refine zw_rig rfl rfl ⟨by decide, by decide⟩ ?_
  rfl

theorem yc_dvn3 {L : Nat} {σ : Nat → Int32} {d : Nat} {H : zp_H} {x1 x2 : Int32} (hB : zk_Bs (zB_c 3) zg zJc H) (h : ¬ (0 ≤ x2.toInt ∧ x2.toInt ≤ (Int32.ofInt 1).toInt)) : zp_Call L σ (d + 2) 153 [.inr (.inr (some 1)), .inl x1, .inl x2] H (.inr 0, H) := by
  have W := zB_Wd (zB_dn (zB_Bc hB))
  have g5 : H.2.2.2 0 5 = some 23 := hB.2.1 0 5 _ rfl
  have g6 : H.2.2.2 0 6 = some 34 := hB.2.1 0 6 _ rfl
  have g7 : H.2.2.2 0 7 = some 3 := hB.2.1 0 7 _ rfl
  have g8 : H.2.2.2 0 8 = some 14 := hB.2.1 0 8 _ rfl
  refine zw_ex (zw_met zm_153_t rfl rfl ?_)
  refine zw_ld (n := 1) (k := 2) (f := zp_isI) (pc' := 1) rfl rfl rfl rfl rfl ?_
  refine zw_s (pc' := 2) rfl rfl ?_
  refine zw_cthr (ex := 0) (zw_cs (Y := zm_104) rfl rfl zm_104_t) (zw_pb_ok rfl) rfl rfl (yc_nw0 h) ?_
  rfl

theorem yl_dvn3 {L : Nat} {σ : Nat → Int32} {d : Nat} {H : zp_H} {x1 x2 : Int32} (hB : zk_Bs (zB_c 3) zg zJc H) (h : ¬ (0 ≤ x2.toInt ∧ x2.toInt ≤ (Int32.ofInt 1).toInt)) : zp_Call L σ (d + 3) 152 [.inr (.inr (some 1)), .inl x1, .inl x2, .inr (.inr (some 105))] H (.inl (some (.inl (Int32.ofInt 1))), H) := by
  have W := zB_Wd (zB_dn (zB_Bc hB))
  refine zw_ex (zw_met zm_152_t rfl rfl ?_)
  refine zw_ld (n := 1) (k := 3) (f := zp_isR) (pc' := 1) rfl rfl rfl rfl rfl ?_
  refine zw_s (pc' := 2) rfl rfl ?_
  refine zw_ld (n := 1) (k := 0) (f := zp_isR) (pc' := 3) rfl rfl rfl rfl rfl ?_
  refine zw_ld (n := 1) (k := 1) (f := zp_isI) (pc' := 4) rfl rfl rfl rfl rfl ?_
  refine zw_ld (n := 1) (k := 2) (f := zp_isI) (pc' := 5) rfl rfl rfl rfl rfl ?_
  refine zw_cexw (ex := 0) (hp9 := 13) (k9 := 4) (pc' := 15) (c' := (2, 12)) (zw_cv (q := 0) (Y := zm_153) W.1 rfl rfl zm_153_t rfl rfl) (zw_pb_ok rfl) rfl rfl rfl rfl rfl rfl rfl (yc_dvn3 hB h) ?_
  refine zw_s (pc' := 16) rfl rfl ?_
  refine zw_rig rfl rfl ⟨by decide, by decide⟩ ?_
  rfl

theorem yc_dvi3 {L : Nat} {σ : Nat → Int32} {d : Nat} {H : zp_H} {x1 x2 : Int32} (hB : zk_Bs (zB_c 3) zg zJc H) (hw : 0 ≤ x2.toInt ∧ x2.toInt ≤ (Int32.ofInt 1).toInt) (h : ¬ (0 ≤ x1.toInt ∧ x1.toInt ≤ 7)) : zp_Call L σ (d + 2) 153 [.inr (.inr (some 1)), .inl x1, .inl x2] H (.inr 1, H) := by
  have W := zB_Wd (zB_dn (zB_Bc hB))
  have g5 : H.2.2.2 0 5 = some 23 := hB.2.1 0 5 _ rfl
  have g6 : H.2.2.2 0 6 = some 34 := hB.2.1 0 6 _ rfl
  have g7 : H.2.2.2 0 7 = some 3 := hB.2.1 0 7 _ rfl
  have g8 : H.2.2.2 0 8 = some 14 := hB.2.1 0 8 _ rfl
  refine zw_ex (zw_met zm_153_t rfl rfl ?_)
  refine zw_ld (n := 1) (k := 2) (f := zp_isI) (pc' := 1) rfl rfl rfl rfl rfl ?_
  refine zw_s (pc' := 2) rfl rfl ?_
  refine zw_ctn (pc' := 5) (c' := (1, 6)) (zw_cs (Y := zm_104) rfl rfl zm_104_t) (zw_pb_ok rfl) rfl rfl rfl rfl (yc_nw1 hw) ?_
  refine zw_ld (n := 1) (k := 1) (f := zp_isI) (pc' := 6) rfl rfl rfl rfl rfl ?_
  refine zw_blt1 (g := 15) (pc' := 9) rfl rfl rfl rfl (fun h1 => ?_) (fun h1 => ?_)
  · exact zs_end (S := (15, _, [], H, (1, 6))) (X := (.inr 1, H)) rfl rfl rfl
  · refine zw_ld (n := 1) (k := 1) (f := zp_isI) (pc' := 10) rfl rfl rfl rfl rfl ?_
    refine zw_s (pc' := 12) rfl rfl ?_
    refine zw_ble2 (g := 26) (pc' := 15) rfl rfl rfl rfl (rfl : _ = (7 : Int)) (fun h2 => ?_) (fun h2 => ?_)
    · have h1 : 0 ≤ x1.toInt := h1
      exact absurd ⟨h1, h2⟩ h
    · exact zs_end (S := (15, _, [], H, (1, 6))) (X := (.inr 1, H)) rfl rfl rfl

theorem yl_dvi3 {L : Nat} {σ : Nat → Int32} {d : Nat} {H : zp_H} {x1 x2 : Int32} (hB : zk_Bs (zB_c 3) zg zJc H) (hw : 0 ≤ x2.toInt ∧ x2.toInt ≤ (Int32.ofInt 1).toInt) (h : ¬ (0 ≤ x1.toInt ∧ x1.toInt ≤ 7)) : zp_Call L σ (d + 3) 152 [.inr (.inr (some 1)), .inl x1, .inl x2, .inr (.inr (some 105))] H (.inl (some (.inl (Int32.ofInt 2))), H) := by
  have W := zB_Wd (zB_dn (zB_Bc hB))
  refine zw_ex (zw_met zm_152_t rfl rfl ?_)
  refine zw_ld (n := 1) (k := 3) (f := zp_isR) (pc' := 1) rfl rfl rfl rfl rfl ?_
  refine zw_s (pc' := 2) rfl rfl ?_
  refine zw_ld (n := 1) (k := 0) (f := zp_isR) (pc' := 3) rfl rfl rfl rfl rfl ?_
  refine zw_ld (n := 1) (k := 1) (f := zp_isI) (pc' := 4) rfl rfl rfl rfl rfl ?_
  refine zw_ld (n := 1) (k := 2) (f := zp_isI) (pc' := 5) rfl rfl rfl rfl rfl ?_
  refine zw_cexw (ex := 1) (hp9 := 17) (k9 := 4) (pc' := 19) (c' := (2, 12)) (zw_cv (q := 0) (Y := zm_153) W.1 rfl rfl zm_153_t rfl rfl) (zw_pb_ok rfl) rfl rfl rfl rfl rfl rfl rfl (yc_dvi3 hB hw h) ?_
  refine zw_s (pc' := 20) rfl rfl ?_
  refine zw_rig rfl rfl ⟨by decide, by decide⟩ ?_
  rfl

theorem yr_dvJ {L : Nat} {σ : Nat → Int32} {d : Nat} {P : zp_X → Prop} {S : xSea} {H0 : zp_H} {r wt x : Int32} {b : Int32 × Int32} (hS : xOk S) (hR : xSR H0 S) (hn0 : 0 ≤ (H0.2.1 72 5).toInt ∧ (H0.2.1 72 5).toInt ≤ 8) (hm : ∀ s : Nat, (s : Int) < (H0.2.1 72 5).toInt → 0 ≤ (H0.2.1 74 (4 * s + 2)).toInt ∧ (H0.2.1 74 (4 * s + 2)).toInt ≤ 8) (hc : ∀ s : Nat, (s : Int) < (H0.2.1 72 5).toInt → xIn S (H0.2.1 74 (4 * s)).toInt) (hx : 0 ≤ x.toInt ∧ x.toInt ≤ 63) : ∀ (n : Nat) (H : zp_H) (lv : zp_LV) (s a : Int32), zw_W H → xFs 64 71 H0 H → 0 ≤ s.toInt → s.toInt + n = (H0.2.1 72 5).toInt → zp_get lv 0 = some (.inr (.inr (some 73))) → zp_get lv 1 = some (.inl r) → zp_get lv 2 = some (.inl wt) → zp_get lv 3 = some (.inl b.1) → zp_get lv 4 = some (.inl b.2) → zp_get lv 5 = some (.inl x) → zp_get lv 6 = some (.inl a) → zp_get lv 7 = some (.inl s) → (∀ H1 lv1, zw_W H1 → xFs 64 71 H0 H1 → zp_get lv1 0 = some (.inr (.inr (some 73))) → zp_get lv1 1 = some (.inl r) → zp_get lv1 2 = some (.inl wt) → zp_get lv1 3 = some (.inl b.1) → zp_get lv1 4 = some (.inl b.2) → zp_get lv1 5 = some (.inl x) → zp_get lv1 6 = some (.inl (xCn (fun j => xNw S.1 x.toInt r.toInt (xVyr S H0 j)) n s a)) → zs_Safe L σ P zm_243 [] (d + 3) (120, lv1, [], H1, (0, 0))) → zs_Safe L σ P zm_243 [] (d + 3) (59, lv, [], H, (0, 0)) := by
  intro n
  induction n with
  | zero =>
    intro H lv s a W hF h5 hn l0 l1 l2 l3 l4 l5 l6 l7 hP
    have e5 : H.2.1 72 5 = (H0.2.1 72 5) := hF.2.2.1 72 5 (by decide)
    refine zw_ld (n := 2) (k := 7) (f := zp_isI) (pc' := 61) rfl rfl l7 rfl rfl ?_
    refine zw_ld (n := 1) (k := 0) (f := zp_isR) (pc' := 62) rfl rfl l0 rfl rfl ?_
    refine zw_gI (q := 72) (pc' := 65) W rfl rfl rfl rfl rfl rfl ?_
    rw [e5]
    refine zw_bge2 (g := 120) (pc' := 68) rfl rfl rfl rfl rfl (fun h1 => ?_) (fun h1 => ?_)
    · exact hP H lv W hF l0 l1 l2 l3 l4 l5 l6
    · omega
  | succ n ih =>
    intro H lv s a W hF h5 hn l0 l1 l2 l3 l4 l5 l6 l7 hP
    have e5 : H.2.1 72 5 = (H0.2.1 72 5) := hF.2.2.1 72 5 (by decide)
    refine zw_ld (n := 2) (k := 7) (f := zp_isI) (pc' := 61) rfl rfl l7 rfl rfl ?_
    refine zw_ld (n := 1) (k := 0) (f := zp_isR) (pc' := 62) rfl rfl l0 rfl rfl ?_
    refine zw_gI (q := 72) (pc' := 65) W rfl rfl rfl rfl rfl rfl ?_
    rw [e5]
    refine zw_bge2 (g := 120) (pc' := 68) rfl rfl rfl rfl rfl (fun h1 => ?_) (fun h1 => ?_)
    · omega
    · have ei : (s + Int32.ofInt 1).toInt = s.toInt + 1 := zw_p1 (by omega)
      have hi : ((s.toInt.toNat : Nat) : Int) < (H0.2.1 72 5).toInt := by omega
      have f4 : ∀ k, H.2.1 74 k = H0.2.1 74 k := fun k => hF.2.2.1 74 k (fun h9 => absurd h9.1 (by decide))
      have f5 : ∀ k, H.2.1 75 k = H0.2.1 75 k := fun k => hF.2.2.1 75 k (fun h9 => absurd h9.1 (by decide))
      obtain ⟨_, q1, H1, rfl, W1, q2, q3⟩ := xr_sails (L := L) (σ := σ) (d := d) (s := s) W hS (xSR_f hF (by decide) hR) ⟨h5, by omega⟩ (by rw [f4]; exact hm _ hi) (by rw [f4]; exact hc _ hi)
      have q3 : xR7 H1 (xVyr S H s.toInt.toNat) := q3
      rw [xVyr_f f4 f5] at q3
      obtain ⟨r0, -, r2, -, -, -⟩ := q3
      have v64 : 0 ≤ (xVyr S H0 s.toInt.toNat).1.toInt ∧ (xVyr S H0 s.toInt.toNat).1.toInt ≤ 63 := xIn_64 hS (show xIn S (xVyr S H0 s.toInt.toNat).1.toInt from (xVy_b hS _ _ _ _ (hc _ hi)).1)
      have qn := yr_near (L := L) (σ := σ) (d := d + 1) (H := H1) (x := H1.2.1 72 64) (y := x) (r := r) W1 (by rw [(xSR_f (xFs_t hF q2) (by decide) hR).1]; exact hS.1.1) (by rw [r0]; exact v64) hx
      rw [(xSR_f (xFs_t hF q2) (by decide) hR).1] at qn
      refine zw_ld (n := 1) (k := 0) (f := zp_isR) (pc' := 69) rfl rfl l0 rfl rfl ?_
      refine zw_ld (n := 2) (k := 7) (f := zp_isI) (pc' := 71) rfl rfl l7 rfl rfl ?_
      refine zw_cn (pc' := 74) (zw_cv (q := 72) (Y := zm_220) W.1 rfl rfl zm_220_t rfl rfl) rfl rfl rfl rfl rfl (q1) ?_
      refine zw_ld (n := 2) (k := 6) (f := zp_isI) (pc' := 76) rfl rfl l6 rfl rfl ?_
      refine zw_ld (n := 1) (k := 0) (f := zp_isR) (pc' := 77) rfl rfl l0 rfl rfl ?_
      refine zw_gI (q := 72) (pc' := 80) W1 rfl rfl rfl rfl rfl rfl ?_
      refine zw_s (pc' := 81) rfl rfl ?_
      refine zw_beq2 (g := 92) (pc' := 84) rfl rfl rfl rfl (rfl : _ = (1 : Int)) (fun h2 => ?_) (fun h2 => ?_)
      · have h2 : (H1.2.1 72 66).toInt = 1 := h2
        rw [r2] at h2
        refine zw_ld (n := 1) (k := 0) (f := zp_isR) (pc' := 93) rfl rfl l0 rfl rfl ?_
        refine zw_ld (n := 1) (k := 0) (f := zp_isR) (pc' := 94) rfl rfl l0 rfl rfl ?_
        refine zw_gI (q := 72) (pc' := 97) W1 rfl rfl rfl rfl rfl rfl ?_
        refine zw_ld (n := 2) (k := 5) (f := zp_isI) (pc' := 99) rfl rfl l5 rfl rfl ?_
        refine zw_ld (n := 1) (k := 1) (f := zp_isI) (pc' := 100) rfl rfl l1 rfl rfl ?_
        by_cases hn9 : xNb S.1 (H1.2.1 72 64).toInt x.toInt r.toInt = true
        · rw [if_pos hn9] at qn
          rw [r0, xNb_s] at hn9
          refine zw_c (pc' := 103) (zw_cv (q := 72) (Y := zm_240) W1.1 rfl rfl zm_240_t rfl rfl) rfl rfl rfl rfl rfl (qn) ?_
          refine zw_beq1 (g := 110) (pc' := 106) rfl rfl rfl (rfl : _ = (1 : Int)) (fun h9 => absurd h9 (by decide)) (fun h8 => ?_)
          have hf : (fun j => xNw S.1 x.toInt r.toInt (xVyr S H0 j)) s.toInt.toNat = true := Bool.and_eq_true_iff.mpr ⟨xWr_t.mpr (Or.inl h2), hn9⟩
          refine zw_s (pc' := 107) rfl rfl ?_
          refine zw_s (pc' := 111) rfl rfl ?_
          refine zw_iadd (pc' := 112) rfl rfl ?_
          refine zw_st (n := 2) (k := 6) (f := zp_isI) (pc' := 114) rfl rfl rfl rfl rfl ?_
          refine zw_ii (pc' := 117) rfl (zw_gt l7 rfl rfl) rfl rfl ?_
          refine zw_s (pc' := 59) rfl rfl ?_
          exact ih H1 _ (s + Int32.ofInt 1) _ W1 (xFs_t hF q2) (by omega) (by omega) (zw_gt (zw_gt l0 rfl rfl) rfl rfl) (zw_gt (zw_gt l1 rfl rfl) rfl rfl) (zw_gt (zw_gt l2 rfl rfl) rfl rfl) (zw_gt (zw_gt l3 rfl rfl) rfl rfl) (zw_gt (zw_gt l4 rfl rfl) rfl rfl) (zw_gt (zw_gt l5 rfl rfl) rfl rfl) (zw_gt zw_g1 rfl rfl) zw_g1 (by rw [xCn_y hf] at hP; exact hP)
        · rw [if_neg hn9] at qn
          rw [r0, xNb_s] at hn9
          refine zw_c (pc' := 103) (zw_cv (q := 72) (Y := zm_240) W1.1 rfl rfl zm_240_t rfl rfl) rfl rfl rfl rfl rfl (qn) ?_
          refine zw_beq1 (g := 110) (pc' := 106) rfl rfl rfl (rfl : _ = (0 : Int)) (fun h8 => ?_) (fun h9 => absurd h9 (by decide))
          have hf : ¬ (fun j => xNw S.1 x.toInt r.toInt (xVyr S H0 j)) s.toInt.toNat = true := fun h9 => hn9 (Bool.and_eq_true_iff.mp h9).2
          refine zw_s (pc' := 111) rfl rfl ?_
          refine zw_iadd (pc' := 112) rfl rfl ?_
          rw [x_p0]
          refine zw_st (n := 2) (k := 6) (f := zp_isI) (pc' := 114) rfl rfl rfl rfl rfl ?_
          refine zw_ii (pc' := 117) rfl (zw_gt l7 rfl rfl) rfl rfl ?_
          refine zw_s (pc' := 59) rfl rfl ?_
          exact ih H1 _ (s + Int32.ofInt 1) _ W1 (xFs_t hF q2) (by omega) (by omega) (zw_gt (zw_gt l0 rfl rfl) rfl rfl) (zw_gt (zw_gt l1 rfl rfl) rfl rfl) (zw_gt (zw_gt l2 rfl rfl) rfl rfl) (zw_gt (zw_gt l3 rfl rfl) rfl rfl) (zw_gt (zw_gt l4 rfl rfl) rfl rfl) (zw_gt (zw_gt l5 rfl rfl) rfl rfl) (zw_gt zw_g1 rfl rfl) zw_g1 (by rw [xCn_n hf] at hP; exact hP)
      · have h2 : ¬ (H1.2.1 72 66).toInt = 1 := h2
        rw [r2] at h2
        refine zw_ld (n := 1) (k := 0) (f := zp_isR) (pc' := 85) rfl rfl l0 rfl rfl ?_
        refine zw_gI (q := 72) (pc' := 88) W1 rfl rfl rfl rfl rfl rfl ?_
        refine zw_s (pc' := 89) rfl rfl ?_
        refine zw_bne2 (g := 110) (pc' := 92) rfl rfl rfl rfl (rfl : _ = (2 : Int)) (fun h3 => ?_) (fun h3 => ?_)
        · have h3 : ¬ (H1.2.1 72 66).toInt = 2 := h3
          rw [r2] at h3
          have hf : ¬ (fun j => xNw S.1 x.toInt r.toInt (xVyr S H0 j)) s.toInt.toNat = true := fun h9 => (xWr_t.mp (Bool.and_eq_true_iff.mp h9).1).elim h2 h3
          refine zw_s (pc' := 111) rfl rfl ?_
          refine zw_iadd (pc' := 112) rfl rfl ?_
          rw [x_p0]
          refine zw_st (n := 2) (k := 6) (f := zp_isI) (pc' := 114) rfl rfl rfl rfl rfl ?_
          refine zw_ii (pc' := 117) rfl (zw_gt l7 rfl rfl) rfl rfl ?_
          refine zw_s (pc' := 59) rfl rfl ?_
          exact ih H1 _ (s + Int32.ofInt 1) _ W1 (xFs_t hF q2) (by omega) (by omega) (zw_gt (zw_gt l0 rfl rfl) rfl rfl) (zw_gt (zw_gt l1 rfl rfl) rfl rfl) (zw_gt (zw_gt l2 rfl rfl) rfl rfl) (zw_gt (zw_gt l3 rfl rfl) rfl rfl) (zw_gt (zw_gt l4 rfl rfl) rfl rfl) (zw_gt (zw_gt l5 rfl rfl) rfl rfl) (zw_gt zw_g1 rfl rfl) zw_g1 (by rw [xCn_n hf] at hP; exact hP)
        · have h3 : (H1.2.1 72 66).toInt = 2 := h3
          rw [r2] at h3
          refine zw_ld (n := 1) (k := 0) (f := zp_isR) (pc' := 93) rfl rfl l0 rfl rfl ?_
          refine zw_ld (n := 1) (k := 0) (f := zp_isR) (pc' := 94) rfl rfl l0 rfl rfl ?_
          refine zw_gI (q := 72) (pc' := 97) W1 rfl rfl rfl rfl rfl rfl ?_
          refine zw_ld (n := 2) (k := 5) (f := zp_isI) (pc' := 99) rfl rfl l5 rfl rfl ?_
          refine zw_ld (n := 1) (k := 1) (f := zp_isI) (pc' := 100) rfl rfl l1 rfl rfl ?_
          by_cases hn9 : xNb S.1 (H1.2.1 72 64).toInt x.toInt r.toInt = true
          · rw [if_pos hn9] at qn
            rw [r0, xNb_s] at hn9
            refine zw_c (pc' := 103) (zw_cv (q := 72) (Y := zm_240) W1.1 rfl rfl zm_240_t rfl rfl) rfl rfl rfl rfl rfl (qn) ?_
            refine zw_beq1 (g := 110) (pc' := 106) rfl rfl rfl (rfl : _ = (1 : Int)) (fun h9 => absurd h9 (by decide)) (fun h8 => ?_)
            have hf : (fun j => xNw S.1 x.toInt r.toInt (xVyr S H0 j)) s.toInt.toNat = true := Bool.and_eq_true_iff.mpr ⟨xWr_t.mpr (Or.inr h3), hn9⟩
            refine zw_s (pc' := 107) rfl rfl ?_
            refine zw_s (pc' := 111) rfl rfl ?_
            refine zw_iadd (pc' := 112) rfl rfl ?_
            refine zw_st (n := 2) (k := 6) (f := zp_isI) (pc' := 114) rfl rfl rfl rfl rfl ?_
            refine zw_ii (pc' := 117) rfl (zw_gt l7 rfl rfl) rfl rfl ?_
            refine zw_s (pc' := 59) rfl rfl ?_
            exact ih H1 _ (s + Int32.ofInt 1) _ W1 (xFs_t hF q2) (by omega) (by omega) (zw_gt (zw_gt l0 rfl rfl) rfl rfl) (zw_gt (zw_gt l1 rfl rfl) rfl rfl) (zw_gt (zw_gt l2 rfl rfl) rfl rfl) (zw_gt (zw_gt l3 rfl rfl) rfl rfl) (zw_gt (zw_gt l4 rfl rfl) rfl rfl) (zw_gt (zw_gt l5 rfl rfl) rfl rfl) (zw_gt zw_g1 rfl rfl) zw_g1 (by rw [xCn_y hf] at hP; exact hP)
          · rw [if_neg hn9] at qn
            rw [r0, xNb_s] at hn9
            refine zw_c (pc' := 103) (zw_cv (q := 72) (Y := zm_240) W1.1 rfl rfl zm_240_t rfl rfl) rfl rfl rfl rfl rfl (qn) ?_
            refine zw_beq1 (g := 110) (pc' := 106) rfl rfl rfl (rfl : _ = (0 : Int)) (fun h8 => ?_) (fun h9 => absurd h9 (by decide))
            have hf : ¬ (fun j => xNw S.1 x.toInt r.toInt (xVyr S H0 j)) s.toInt.toNat = true := fun h9 => hn9 (Bool.and_eq_true_iff.mp h9).2
            refine zw_s (pc' := 111) rfl rfl ?_
            refine zw_iadd (pc' := 112) rfl rfl ?_
            rw [x_p0]
            refine zw_st (n := 2) (k := 6) (f := zp_isI) (pc' := 114) rfl rfl rfl rfl rfl ?_
            refine zw_ii (pc' := 117) rfl (zw_gt l7 rfl rfl) rfl rfl ?_
            refine zw_s (pc' := 59) rfl rfl ?_
            exact ih H1 _ (s + Int32.ofInt 1) _ W1 (xFs_t hF q2) (by omega) (by omega) (zw_gt (zw_gt l0 rfl rfl) rfl rfl) (zw_gt (zw_gt l1 rfl rfl) rfl rfl) (zw_gt (zw_gt l2 rfl rfl) rfl rfl) (zw_gt (zw_gt l3 rfl rfl) rfl rfl) (zw_gt (zw_gt l4 rfl rfl) rfl rfl) (zw_gt (zw_gt l5 rfl rfl) rfl rfl) (zw_gt zw_g1 rfl rfl) zw_g1 (by rw [xCn_n hf] at hP; exact hP)

theorem yr_dvL {L : Nat} {σ : Nat → Int32} {d : Nat} {P : zp_X → Prop} {S : xSea} {H0 : zp_H} {r wt : Int32} (hS : xOk S) (sq : 4 ≤ S.1 * S.2.1 ∧ S.1 * S.2.1 ≤ 64) (hR : xSR H0 S) (hn0 : 0 ≤ (H0.2.1 72 5).toInt ∧ (H0.2.1 72 5).toInt ≤ 8) (hm : ∀ s : Nat, (s : Int) < (H0.2.1 72 5).toInt → 0 ≤ (H0.2.1 74 (4 * s + 2)).toInt ∧ (H0.2.1 74 (4 * s + 2)).toInt ≤ 8) (hc : ∀ s : Nat, (s : Int) < (H0.2.1 72 5).toInt → xIn S (H0.2.1 74 (4 * s)).toInt) : ∀ (n : Nat) (H : zp_H) (lv : zp_LV) (x : Int32) (b : Int32 × Int32), zw_W H → xFs 64 71 H0 H → 0 ≤ x.toInt → x.toInt + n = S.1 * S.2.1 → zp_get lv 0 = some (.inr (.inr (some 73))) → zp_get lv 1 = some (.inl r) → zp_get lv 2 = some (.inl wt) → zp_get lv 3 = some (.inl b.1) → zp_get lv 4 = some (.inl b.2) → zp_get lv 5 = some (.inl x) → (∀ H1 lv1, zw_W H1 → xFs 64 71 H0 H1 → zp_get lv1 0 = some (.inr (.inr (some 73))) → zp_get lv1 1 = some (.inl r) → zp_get lv1 2 = some (.inl wt) → zp_get lv1 3 = some (.inl (xDm (fun x => xCn (fun j => xNw S.1 x.toInt r.toInt (xVyr S H0 j)) (H0.2.1 72 5).toInt.toNat (Int32.ofInt 0) (Int32.ofInt 0)) n x b).1) → zp_get lv1 4 = some (.inl (xDm (fun x => xCn (fun j => xNw S.1 x.toInt r.toInt (xVyr S H0 j)) (H0.2.1 72 5).toInt.toNat (Int32.ofInt 0) (Int32.ofInt 0)) n x b).2) → zs_Safe L σ P zm_243 [] (d + 3) (148, lv1, [], H1, (0, 0))) → zs_Safe L σ P zm_243 [] (d + 3) (39, lv, [], H, (0, 0)) := by
  intro n
  induction n with
  | zero =>
    intro H lv x b W hF h5 hn l0 l1 l2 l3 l4 l5 hP
    have hR1 := xSR_f hF (by decide) hR
    have es : (H.2.1 72 1 * H.2.1 72 2).toInt = S.1 * S.2.1 := by
      rw [Int32.toInt_mul, hR1.1, hR1.2.1]
      exact Int.bmod_eq_of_le (by omega) (by omega)
    refine zw_ld (n := 2) (k := 5) (f := zp_isI) (pc' := 41) rfl rfl l5 rfl rfl ?_
    refine zw_ld (n := 1) (k := 0) (f := zp_isR) (pc' := 42) rfl rfl l0 rfl rfl ?_
    refine zw_gI (q := 72) (pc' := 45) W rfl rfl rfl rfl rfl rfl ?_
    refine zw_ld (n := 1) (k := 0) (f := zp_isR) (pc' := 46) rfl rfl l0 rfl rfl ?_
    refine zw_gI (q := 72) (pc' := 49) W rfl rfl rfl rfl rfl rfl ?_
    refine zw_imul (pc' := 50) rfl rfl ?_
    refine zw_bge2 (g := 148) (pc' := 53) rfl rfl rfl rfl rfl (fun h1 => ?_) (fun h1 => ?_)
    · exact hP H lv W hF l0 l1 l2 l3 l4
    · have h1 : x.toInt < (H.2.1 72 1 * H.2.1 72 2).toInt := h1
      rw [es] at h1
      omega
  | succ n ih =>
    intro H lv x b W hF h5 hn l0 l1 l2 l3 l4 l5 hP
    have hR1 := xSR_f hF (by decide) hR
    have es : (H.2.1 72 1 * H.2.1 72 2).toInt = S.1 * S.2.1 := by
      rw [Int32.toInt_mul, hR1.1, hR1.2.1]
      exact Int.bmod_eq_of_le (by omega) (by omega)
    refine zw_ld (n := 2) (k := 5) (f := zp_isI) (pc' := 41) rfl rfl l5 rfl rfl ?_
    refine zw_ld (n := 1) (k := 0) (f := zp_isR) (pc' := 42) rfl rfl l0 rfl rfl ?_
    refine zw_gI (q := 72) (pc' := 45) W rfl rfl rfl rfl rfl rfl ?_
    refine zw_ld (n := 1) (k := 0) (f := zp_isR) (pc' := 46) rfl rfl l0 rfl rfl ?_
    refine zw_gI (q := 72) (pc' := 49) W rfl rfl rfl rfl rfl rfl ?_
    refine zw_imul (pc' := 50) rfl rfl ?_
    refine zw_bge2 (g := 148) (pc' := 53) rfl rfl rfl rfl rfl (fun h1 => ?_) (fun h1 => ?_)
    · have h1 : (H.2.1 72 1 * H.2.1 72 2).toInt ≤ x.toInt := h1
      rw [es] at h1
      omega
    · have h1 : x.toInt < (H.2.1 72 1 * H.2.1 72 2).toInt := h1
      rw [es] at h1
      have ei : (x + Int32.ofInt 1).toInt = x.toInt + 1 := zw_p1 (by omega)
      refine zw_s (pc' := 54) rfl rfl ?_
      refine zw_st (n := 2) (k := 6) (f := zp_isI) (pc' := 56) rfl rfl rfl rfl rfl ?_
      refine zw_s (pc' := 57) rfl rfl ?_
      refine zw_st (n := 2) (k := 7) (f := zp_isI) (pc' := 59) rfl rfl rfl rfl rfl ?_
      refine yr_dvJ (b := b) hS hR hn0 hm hc ⟨h5, by omega⟩ (H0.2.1 72 5).toInt.toNat H _ (Int32.ofInt 0) (Int32.ofInt 0) W hF (by decide) (by rw [show (Int32.ofInt 0).toInt = 0 by decide]; omega) (zw_gt (zw_gt l0 rfl rfl) rfl rfl) (zw_gt (zw_gt l1 rfl rfl) rfl rfl) (zw_gt (zw_gt l2 rfl rfl) rfl rfl) (zw_gt (zw_gt l3 rfl rfl) rfl rfl) (zw_gt (zw_gt l4 rfl rfl) rfl rfl) (zw_gt (zw_gt l5 rfl rfl) rfl rfl) (zw_gt zw_g1 rfl rfl) zw_g1 (fun H1 lv1 w1 w2 m0 m1 m2 m3 m4 m5 m6 => ?_)
      refine zw_ld (n := 1) (k := 3) (f := zp_isI) (pc' := 121) rfl rfl m3 rfl rfl ?_
      refine zw_s (pc' := 122) rfl rfl ?_
      refine zw_beq2 (g := 135) (pc' := 125) rfl rfl rfl rfl (rfl : _ = (-1 : Int)) (fun h3 => ?_) (fun h3 => ?_)
      · have h3 : b.1.toInt = -1 := h3
        refine zw_ld (n := 2) (k := 5) (f := zp_isI) (pc' := 137) rfl rfl m5 rfl rfl ?_
        refine zw_st (n := 1) (k := 3) (f := zp_isI) (pc' := 138) rfl rfl rfl rfl rfl ?_
        refine zw_ld (n := 2) (k := 6) (f := zp_isI) (pc' := 140) rfl rfl (zw_gt m6 rfl rfl) rfl rfl ?_
        refine zw_st (n := 2) (k := 4) (f := zp_isI) (pc' := 142) rfl rfl rfl rfl rfl ?_
        refine zw_ii (pc' := 145) rfl (zw_gt (zw_gt m5 rfl rfl) rfl rfl) rfl rfl ?_
        refine zw_s (pc' := 39) rfl rfl ?_
        exact ih H1 _ (x + Int32.ofInt 1) (x, ((fun x => xCn (fun j => xNw S.1 x.toInt r.toInt (xVyr S H0 j)) (H0.2.1 72 5).toInt.toNat (Int32.ofInt 0) (Int32.ofInt 0)) x)) w1 w2 (by omega) (by omega) (zw_gt (zw_gt (zw_gt m0 rfl rfl) rfl rfl) rfl rfl) (zw_gt (zw_gt (zw_gt m1 rfl rfl) rfl rfl) rfl rfl) (zw_gt (zw_gt (zw_gt m2 rfl rfl) rfl rfl) rfl rfl) (zw_gt (zw_gt zw_g1 rfl rfl) rfl rfl) (zw_gt zw_g1 rfl rfl) zw_g1 (by rw [xDm_y (g := (fun x => xCn (fun j => xNw S.1 x.toInt r.toInt (xVyr S H0 j)) (H0.2.1 72 5).toInt.toNat (Int32.ofInt 0) (Int32.ofInt 0))) (fun h9 => h9.1 h3)] at hP; exact hP)
      · have h3 : ¬ b.1.toInt = -1 := h3
        refine zw_ld (n := 2) (k := 6) (f := zp_isI) (pc' := 127) rfl rfl m6 rfl rfl ?_
        refine zw_ld (n := 2) (k := 4) (f := zp_isI) (pc' := 129) rfl rfl m4 rfl rfl ?_
        refine zw_bgt2 (g := 135) (pc' := 132) rfl rfl rfl rfl rfl (fun h4 => ?_) (fun h4 => ?_)
        · have h4 : b.2.toInt < ((fun x => xCn (fun j => xNw S.1 x.toInt r.toInt (xVyr S H0 j)) (H0.2.1 72 5).toInt.toNat (Int32.ofInt 0) (Int32.ofInt 0)) x).toInt := h4
          refine zw_ld (n := 2) (k := 5) (f := zp_isI) (pc' := 137) rfl rfl m5 rfl rfl ?_
          refine zw_st (n := 1) (k := 3) (f := zp_isI) (pc' := 138) rfl rfl rfl rfl rfl ?_
          refine zw_ld (n := 2) (k := 6) (f := zp_isI) (pc' := 140) rfl rfl (zw_gt m6 rfl rfl) rfl rfl ?_
          refine zw_st (n := 2) (k := 4) (f := zp_isI) (pc' := 142) rfl rfl rfl rfl rfl ?_
          refine zw_ii (pc' := 145) rfl (zw_gt (zw_gt m5 rfl rfl) rfl rfl) rfl rfl ?_
          refine zw_s (pc' := 39) rfl rfl ?_
          exact ih H1 _ (x + Int32.ofInt 1) (x, ((fun x => xCn (fun j => xNw S.1 x.toInt r.toInt (xVyr S H0 j)) (H0.2.1 72 5).toInt.toNat (Int32.ofInt 0) (Int32.ofInt 0)) x)) w1 w2 (by omega) (by omega) (zw_gt (zw_gt (zw_gt m0 rfl rfl) rfl rfl) rfl rfl) (zw_gt (zw_gt (zw_gt m1 rfl rfl) rfl rfl) rfl rfl) (zw_gt (zw_gt (zw_gt m2 rfl rfl) rfl rfl) rfl rfl) (zw_gt (zw_gt zw_g1 rfl rfl) rfl rfl) (zw_gt zw_g1 rfl rfl) zw_g1 (by rw [xDm_y (g := (fun x => xCn (fun j => xNw S.1 x.toInt r.toInt (xVyr S H0 j)) (H0.2.1 72 5).toInt.toNat (Int32.ofInt 0) (Int32.ofInt 0))) (fun h9 => absurd h9.2 (Int.not_le.mpr h4))] at hP; exact hP)
        · have h4 : ((fun x => xCn (fun j => xNw S.1 x.toInt r.toInt (xVyr S H0 j)) (H0.2.1 72 5).toInt.toNat (Int32.ofInt 0) (Int32.ofInt 0)) x).toInt ≤ b.2.toInt := h4
          refine zw_s (pc' := 142) rfl rfl ?_
          refine zw_ii (pc' := 145) rfl m5 rfl rfl ?_
          refine zw_s (pc' := 39) rfl rfl ?_
          exact ih H1 _ (x + Int32.ofInt 1) b w1 w2 (by omega) (by omega) (zw_gt m0 rfl rfl) (zw_gt m1 rfl rfl) (zw_gt m2 rfl rfl) (zw_gt m3 rfl rfl) (zw_gt m4 rfl rfl) zw_g1 (by rw [xDm_n (g := (fun x => xCn (fun j => xNw S.1 x.toInt r.toInt (xVyr S H0 j)) (H0.2.1 72 5).toInt.toNat (Int32.ofInt 0) (Int32.ofInt 0))) ⟨h3, h4⟩] at hP; exact hP)

theorem yr_dv0 {L : Nat} {σ : Nat → Int32} {d : Nat} {H : zp_H} (W : zw_W H) {x1 : Int32} {S : xSea} (hS : xOk S) (hR : xSR H S) (hn0 : 0 ≤ ((zw_I H 72 0 (Int32.ofInt 0)).2.1 72 5).toInt ∧ ((zw_I H 72 0 (Int32.ofInt 0)).2.1 72 5).toInt ≤ 8) (hm : ∀ s : Nat, (s : Int) < ((zw_I H 72 0 (Int32.ofInt 0)).2.1 72 5).toInt → 0 ≤ ((zw_I H 72 0 (Int32.ofInt 0)).2.1 74 (4 * s + 2)).toInt ∧ ((zw_I H 72 0 (Int32.ofInt 0)).2.1 74 (4 * s + 2)).toInt ≤ 8) (hc : ∀ s : Nat, (s : Int) < ((zw_I H 72 0 (Int32.ofInt 0)).2.1 72 5).toInt → xIn S ((zw_I H 72 0 (Int32.ofInt 0)).2.1 74 (4 * s)).toInt) (hr : (Int32.ofInt 0).toInt ≤ x1.toInt ∧ x1.toInt ≤ (Int32.ofInt 7).toInt) : ∃ X, zp_Call L σ (d + 4) 243 [.inr (.inr (some 73)), .inl x1, .inl (Int32.ofInt 0)] H X ∧ ∃ H1, X = (.inl (some (.inl (xDm (fun x => xCn (fun j => xNw S.1 x.toInt x1.toInt (xVyr S (zw_I H 72 0 (Int32.ofInt 0)) j)) ((zw_I H 72 0 (Int32.ofInt 0)).2.1 72 5).toInt.toNat (Int32.ofInt 0) (Int32.ofInt 0)) (S.1 * S.2.1).toNat (Int32.ofInt 0) (Int32.ofInt (-1), Int32.ofInt 0)).1)), H1) ∧ xFs 64 71 (zw_I H 72 0 (Int32.ofInt 0)) H1 := by
  have h0 : ((zw_I H 72 0 (Int32.ofInt 0)).2.1 72 0).toInt = 0 := congrArg Int32.toInt zw_eq
  have e5 : (zw_I H 72 0 (Int32.ofInt 0)).2.1 72 5 = H.2.1 72 5 := zw_ne rfl rfl
  have sq := xSq hS
  refine zw_met zm_243_t rfl rfl ?_
  refine zw_ld (n := 1) (k := 0) (f := zp_isR) (pc' := 1) rfl rfl rfl rfl rfl ?_
  refine zw_s (pc' := 2) rfl rfl ?_
  refine zw_pI (q := 72) (pc' := 5) W rfl rfl rfl rfl rfl rfl ?_
  refine zw_ld (n := 1) (k := 0) (f := zp_isR) (pc' := 6) rfl rfl rfl rfl rfl ?_
  refine zw_ld (n := 1) (k := 2) (f := zp_isI) (pc' := 7) rfl rfl rfl rfl rfl ?_
  refine zw_s (pc' := 8) rfl rfl ?_
  refine zw_c (pc' := 11) (zw_cv (q := 72) (Y := zm_208) (zw_W_I W).1 rfl rfl zm_208_t rfl rfl) rfl rfl rfl rfl rfl (yr_wh1 (zw_W_I W) h0 ⟨by decide, by decide⟩) ?_
  refine zw_beq1 (g := 29) (pc' := 14) rfl rfl rfl (rfl : _ = (1 : Int)) (fun h9 => absurd h9 (by decide)) (fun h7 => ?_)
  refine zw_ld (n := 1) (k := 0) (f := zp_isR) (pc' := 15) rfl rfl rfl rfl rfl ?_
  refine zw_ld (n := 1) (k := 1) (f := zp_isI) (pc' := 16) rfl rfl rfl rfl rfl ?_
  refine zw_s (pc' := 17) rfl rfl ?_
  refine zw_s (pc' := 19) rfl rfl ?_
  refine zw_c (pc' := 22) (zw_cs (Y := zm_185) rfl rfl zm_185_t) rfl rfl rfl rfl rfl (zq_within1 hr) ?_
  refine zw_s (pc' := 23) rfl rfl ?_
  refine zw_c (pc' := 26) (zw_cv (q := 72) (Y := zm_170) (zw_W_I W).1 rfl rfl zm_170_t rfl rfl) rfl rfl rfl rfl rfl (zq_right1 (zw_W_I W) h0) ?_
  refine zw_bne1 (g := 31) (pc' := 29) rfl rfl rfl (rfl : _ = (1 : Int)) (fun h7 => ?_) (fun h9 => absurd h9 (by decide))
  refine zw_s (pc' := 32) rfl rfl ?_
  refine zw_st (n := 1) (k := 3) (f := zp_isI) (pc' := 33) rfl rfl rfl rfl rfl ?_
  refine zw_s (pc' := 34) rfl rfl ?_
  refine zw_st (n := 2) (k := 4) (f := zp_isI) (pc' := 36) rfl rfl rfl rfl rfl ?_
  refine zw_s (pc' := 37) rfl rfl ?_
  refine zw_st (n := 2) (k := 5) (f := zp_isI) (pc' := 39) rfl rfl rfl rfl rfl ?_
  refine yr_dvL (H0 := (zw_I H 72 0 (Int32.ofInt 0))) hS sq (xSR_0 hR) hn0 hm hc (S.1 * S.2.1).toNat _ _ (Int32.ofInt 0) (Int32.ofInt (-1), Int32.ofInt 0) (zw_W_I W) (xFs_r _) (by decide) (by rw [show (Int32.ofInt 0).toInt = 0 by decide]; omega) (zw_gt (zw_gt (zw_gt rfl rfl rfl) rfl rfl) rfl rfl) (zw_gt (zw_gt (zw_gt rfl rfl rfl) rfl rfl) rfl rfl) (zw_gt (zw_gt (zw_gt rfl rfl rfl) rfl rfl) rfl rfl) (zw_gt (zw_gt zw_g1 rfl rfl) rfl rfl) (zw_gt zw_g1 rfl rfl) zw_g1 (fun H1 lv1 w1 w2 m0 m1 m2 m3 m4 => ?_)
  refine zw_ld (n := 1) (k := 2) (f := zp_isI) (pc' := 149) rfl rfl m2 rfl rfl ?_
  refine zw_bne1 (g := 156) (pc' := 152) rfl rfl rfl (rfl : _ = (0 : Int)) (fun h9 => absurd h9 (by decide)) (fun h8 => ?_)
  refine zw_ld (n := 1) (k := 3) (f := zp_isI) (pc' := 153) rfl rfl m3 rfl rfl ?_
  refine zw_s (pc' := 158) rfl rfl ?_
  refine zw_ri rfl rfl ?_
  exact ⟨H1, rfl, w2⟩

theorem yr_dv1 {L : Nat} {σ : Nat → Int32} {d : Nat} {H : zp_H} (W : zw_W H) {x1 : Int32} {S : xSea} (hS : xOk S) (hR : xSR H S) (hn0 : 0 ≤ ((zw_I H 72 0 (Int32.ofInt 0)).2.1 72 5).toInt ∧ ((zw_I H 72 0 (Int32.ofInt 0)).2.1 72 5).toInt ≤ 8) (hm : ∀ s : Nat, (s : Int) < ((zw_I H 72 0 (Int32.ofInt 0)).2.1 72 5).toInt → 0 ≤ ((zw_I H 72 0 (Int32.ofInt 0)).2.1 74 (4 * s + 2)).toInt ∧ ((zw_I H 72 0 (Int32.ofInt 0)).2.1 74 (4 * s + 2)).toInt ≤ 8) (hc : ∀ s : Nat, (s : Int) < ((zw_I H 72 0 (Int32.ofInt 0)).2.1 72 5).toInt → xIn S ((zw_I H 72 0 (Int32.ofInt 0)).2.1 74 (4 * s)).toInt) (hr : (Int32.ofInt 0).toInt ≤ x1.toInt ∧ x1.toInt ≤ (Int32.ofInt 7).toInt) : ∃ X, zp_Call L σ (d + 4) 243 [.inr (.inr (some 73)), .inl x1, .inl (Int32.ofInt 1)] H X ∧ ∃ H1, X = (.inl (some (.inl (xDm (fun x => xCn (fun j => xNw S.1 x.toInt x1.toInt (xVyr S (zw_I H 72 0 (Int32.ofInt 0)) j)) ((zw_I H 72 0 (Int32.ofInt 0)).2.1 72 5).toInt.toNat (Int32.ofInt 0) (Int32.ofInt 0)) (S.1 * S.2.1).toNat (Int32.ofInt 0) (Int32.ofInt (-1), Int32.ofInt 0)).2)), H1) ∧ xFs 64 71 (zw_I H 72 0 (Int32.ofInt 0)) H1 := by
  have h0 : ((zw_I H 72 0 (Int32.ofInt 0)).2.1 72 0).toInt = 0 := congrArg Int32.toInt zw_eq
  have e5 : (zw_I H 72 0 (Int32.ofInt 0)).2.1 72 5 = H.2.1 72 5 := zw_ne rfl rfl
  have sq := xSq hS
  refine zw_met zm_243_t rfl rfl ?_
  refine zw_ld (n := 1) (k := 0) (f := zp_isR) (pc' := 1) rfl rfl rfl rfl rfl ?_
  refine zw_s (pc' := 2) rfl rfl ?_
  refine zw_pI (q := 72) (pc' := 5) W rfl rfl rfl rfl rfl rfl ?_
  refine zw_ld (n := 1) (k := 0) (f := zp_isR) (pc' := 6) rfl rfl rfl rfl rfl ?_
  refine zw_ld (n := 1) (k := 2) (f := zp_isI) (pc' := 7) rfl rfl rfl rfl rfl ?_
  refine zw_s (pc' := 8) rfl rfl ?_
  refine zw_c (pc' := 11) (zw_cv (q := 72) (Y := zm_208) (zw_W_I W).1 rfl rfl zm_208_t rfl rfl) rfl rfl rfl rfl rfl (yr_wh1 (zw_W_I W) h0 ⟨by decide, by decide⟩) ?_
  refine zw_beq1 (g := 29) (pc' := 14) rfl rfl rfl (rfl : _ = (1 : Int)) (fun h9 => absurd h9 (by decide)) (fun h7 => ?_)
  refine zw_ld (n := 1) (k := 0) (f := zp_isR) (pc' := 15) rfl rfl rfl rfl rfl ?_
  refine zw_ld (n := 1) (k := 1) (f := zp_isI) (pc' := 16) rfl rfl rfl rfl rfl ?_
  refine zw_s (pc' := 17) rfl rfl ?_
  refine zw_s (pc' := 19) rfl rfl ?_
  refine zw_c (pc' := 22) (zw_cs (Y := zm_185) rfl rfl zm_185_t) rfl rfl rfl rfl rfl (zq_within1 hr) ?_
  refine zw_s (pc' := 23) rfl rfl ?_
  refine zw_c (pc' := 26) (zw_cv (q := 72) (Y := zm_170) (zw_W_I W).1 rfl rfl zm_170_t rfl rfl) rfl rfl rfl rfl rfl (zq_right1 (zw_W_I W) h0) ?_
  refine zw_bne1 (g := 31) (pc' := 29) rfl rfl rfl (rfl : _ = (1 : Int)) (fun h7 => ?_) (fun h9 => absurd h9 (by decide))
  refine zw_s (pc' := 32) rfl rfl ?_
  refine zw_st (n := 1) (k := 3) (f := zp_isI) (pc' := 33) rfl rfl rfl rfl rfl ?_
  refine zw_s (pc' := 34) rfl rfl ?_
  refine zw_st (n := 2) (k := 4) (f := zp_isI) (pc' := 36) rfl rfl rfl rfl rfl ?_
  refine zw_s (pc' := 37) rfl rfl ?_
  refine zw_st (n := 2) (k := 5) (f := zp_isI) (pc' := 39) rfl rfl rfl rfl rfl ?_
  refine yr_dvL (H0 := (zw_I H 72 0 (Int32.ofInt 0))) hS sq (xSR_0 hR) hn0 hm hc (S.1 * S.2.1).toNat _ _ (Int32.ofInt 0) (Int32.ofInt (-1), Int32.ofInt 0) (zw_W_I W) (xFs_r _) (by decide) (by rw [show (Int32.ofInt 0).toInt = 0 by decide]; omega) (zw_gt (zw_gt (zw_gt rfl rfl rfl) rfl rfl) rfl rfl) (zw_gt (zw_gt (zw_gt rfl rfl rfl) rfl rfl) rfl rfl) (zw_gt (zw_gt (zw_gt rfl rfl rfl) rfl rfl) rfl rfl) (zw_gt (zw_gt zw_g1 rfl rfl) rfl rfl) (zw_gt zw_g1 rfl rfl) zw_g1 (fun H1 lv1 w1 w2 m0 m1 m2 m3 m4 => ?_)
  refine zw_ld (n := 1) (k := 2) (f := zp_isI) (pc' := 149) rfl rfl m2 rfl rfl ?_
  refine zw_bne1 (g := 156) (pc' := 152) rfl rfl rfl (rfl : _ = (1 : Int)) (fun h8 => ?_) (fun h9 => absurd h9 (by decide))
  refine zw_ld (n := 2) (k := 4) (f := zp_isI) (pc' := 158) rfl rfl m4 rfl rfl ?_
  refine zw_ri rfl rfl ?_
  exact ⟨H1, rfl, w2⟩

theorem yr_dvn {L : Nat} {σ : Nat → Int32} {d : Nat} {H : zp_H} (W : zw_W H) {x1 x2 : Int32} (h : ¬ (0 ≤ x2.toInt ∧ x2.toInt ≤ (Int32.ofInt 1).toInt)) : zp_Call L σ (d + 4) 243 [.inr (.inr (some 73)), .inl x1, .inl x2] H (.inl (some (.inl (Int32.ofInt 0))), zw_I (zw_I H 72 0 (Int32.ofInt 0)) 72 0 (Int32.ofInt 1)) := by
  have h0 : ((zw_I H 72 0 (Int32.ofInt 0)).2.1 72 0).toInt = 0 := congrArg Int32.toInt zw_eq
  have e5 : (zw_I H 72 0 (Int32.ofInt 0)).2.1 72 5 = H.2.1 72 5 := zw_ne rfl rfl
  refine zw_ex (zw_met zm_243_t rfl rfl ?_)
  refine zw_ld (n := 1) (k := 0) (f := zp_isR) (pc' := 1) rfl rfl rfl rfl rfl ?_
  refine zw_s (pc' := 2) rfl rfl ?_
  refine zw_pI (q := 72) (pc' := 5) W rfl rfl rfl rfl rfl rfl ?_
  refine zw_ld (n := 1) (k := 0) (f := zp_isR) (pc' := 6) rfl rfl rfl rfl rfl ?_
  refine zw_ld (n := 1) (k := 2) (f := zp_isI) (pc' := 7) rfl rfl rfl rfl rfl ?_
  refine zw_s (pc' := 8) rfl rfl ?_
  refine zw_c (pc' := 11) (zw_cv (q := 72) (Y := zm_208) (zw_W_I W).1 rfl rfl zm_208_t rfl rfl) rfl rfl rfl rfl rfl (yr_wh0 (zw_W_I W) h0 h) ?_
  refine zw_beq1 (g := 29) (pc' := 14) rfl rfl rfl (rfl : _ = (0 : Int)) (fun h7 => ?_) (fun h9 => absurd h9 (by decide))
  refine zw_s (pc' := 30) rfl rfl ?_
  refine zw_ri rfl rfl ?_
  rfl

theorem yr_dvi {L : Nat} {σ : Nat → Int32} {d : Nat} {H : zp_H} (W : zw_W H) {x1 x2 : Int32} (hw : 0 ≤ x2.toInt ∧ x2.toInt ≤ (Int32.ofInt 1).toInt) (h : ¬ ((Int32.ofInt 0).toInt ≤ x1.toInt ∧ x1.toInt ≤ (Int32.ofInt 7).toInt)) : zp_Call L σ (d + 4) 243 [.inr (.inr (some 73)), .inl x1, .inl x2] H (.inl (some (.inl (Int32.ofInt 0))), zw_I (zw_I H 72 0 (Int32.ofInt 0)) 72 0 (Int32.ofInt 2)) := by
  have h0 : ((zw_I H 72 0 (Int32.ofInt 0)).2.1 72 0).toInt = 0 := congrArg Int32.toInt zw_eq
  have e5 : (zw_I H 72 0 (Int32.ofInt 0)).2.1 72 5 = H.2.1 72 5 := zw_ne rfl rfl
  refine zw_ex (zw_met zm_243_t rfl rfl ?_)
  refine zw_ld (n := 1) (k := 0) (f := zp_isR) (pc' := 1) rfl rfl rfl rfl rfl ?_
  refine zw_s (pc' := 2) rfl rfl ?_
  refine zw_pI (q := 72) (pc' := 5) W rfl rfl rfl rfl rfl rfl ?_
  refine zw_ld (n := 1) (k := 0) (f := zp_isR) (pc' := 6) rfl rfl rfl rfl rfl ?_
  refine zw_ld (n := 1) (k := 2) (f := zp_isI) (pc' := 7) rfl rfl rfl rfl rfl ?_
  refine zw_s (pc' := 8) rfl rfl ?_
  refine zw_c (pc' := 11) (zw_cv (q := 72) (Y := zm_208) (zw_W_I W).1 rfl rfl zm_208_t rfl rfl) rfl rfl rfl rfl rfl (yr_wh1 (zw_W_I W) h0 hw) ?_
  refine zw_beq1 (g := 29) (pc' := 14) rfl rfl rfl (rfl : _ = (1 : Int)) (fun h9 => absurd h9 (by decide)) (fun h7 => ?_)
  refine zw_ld (n := 1) (k := 0) (f := zp_isR) (pc' := 15) rfl rfl rfl rfl rfl ?_
  refine zw_ld (n := 1) (k := 1) (f := zp_isI) (pc' := 16) rfl rfl rfl rfl rfl ?_
  refine zw_s (pc' := 17) rfl rfl ?_
  refine zw_s (pc' := 19) rfl rfl ?_
  refine zw_c (pc' := 22) (zw_cs (Y := zm_185) rfl rfl zm_185_t) rfl rfl rfl rfl rfl (zq_within0 h) ?_
  refine zw_s (pc' := 23) rfl rfl ?_
  refine zw_c (pc' := 26) (zw_cv (q := 72) (Y := zm_170) (zw_W_I W).1 rfl rfl zm_170_t rfl rfl) rfl rfl rfl rfl rfl (zq_right0 (zw_W_I W) h0 (by decide)) ?_
  refine zw_bne1 (g := 31) (pc' := 29) rfl rfl rfl (rfl : _ = (0 : Int)) (fun h9 => absurd h9 (by decide)) (fun h7 => ?_)
  refine zw_s (pc' := 30) rfl rfl ?_
  refine zw_ri rfl rfl ?_
  rfl

theorem y01x {x : Int32} (h : 0 ≤ x.toInt ∧ x.toInt ≤ (Int32.ofInt 1).toInt) : x = Int32.ofInt 0 ∨ x = Int32.ofInt 1 := by
  have h2 : x.toInt ≤ 1 := h.2
  rcases (show x.toInt = 0 ∨ x.toInt = 1 by omega) with h9 | h9
  · exact Or.inl (Int32.toInt_inj.mp h9)
  · exact Or.inr (Int32.toInt_inj.mp h9)

theorem xJ_A0 {t : Nat} {H : zp_H} (hI : yJ 0 t H) : (0 ≤ (H.2.1 13 0).toInt ∧ (H.2.1 13 0).toInt ≤ 8) ∧ (H.2.1 13 0).toInt = (H.2.1 72 5).toInt ∧ (∀ s : Nat, (s : Int) < (H.2.1 13 0).toInt → (0 ≤ (H.2.1 16 s).toInt ∧ (H.2.1 16 s).toInt ≤ 8) ∧ H.2.1 74 (4 * s + 2) = H.2.1 16 s ∧ H.2.1 74 (4 * s) = H.2.1 14 s ∧ H.2.1 74 (4 * s + 1) = H.2.1 15 s ∧ xIn (xSo H) (H.2.1 14 s).toInt ∧ (∀ j, j < (H.2.1 16 s).toInt.toNat → (-1 ≤ (H.2.1 18 (8 * s + j)).toInt ∧ (H.2.1 18 (8 * s + j)).toInt ≤ 3) ∧ H.2.1 75 (16 * s + 2 * j) = H.2.1 18 (8 * s + j) ∧ H.2.1 75 (16 * s + 2 * j + 1) = H.2.1 19 (8 * s + j))) := by
  obtain ⟨⟨A, a1, a2, a3⟩, -⟩ := id hI.2
  have hr : yGr H := hI.2.2.2.2.2.2
  have n5 := a3.1
  have n0 : (H.2.1 13 0).toInt = A.1 := a2.1
  have n8 := a1.1
  refine ⟨⟨by omega, by omega⟩, by omega, fun s h => ?_⟩
  have hs : s < A.1 := by omega
  have hm := a1.2.2.1 s hs
  have m0 : H.2.1 16 s = A.2.2.1 s 2 := a2.2.2.1 _ 2 hs (by decide)
  have m1 : H.2.1 14 s = A.2.2.1 s 0 := a2.2.2.1 _ 0 hs (by decide)
  have m2 : H.2.1 15 s = A.2.2.1 s 1 := a2.2.2.1 _ 1 hs (by decide)
  have l0 : H.2.1 74 (4 * s + 2) = A.2.2.1 s 2 := a3.2.2.1 _ 2 hs (by decide)
  have l1 : H.2.1 74 (4 * s) = A.2.2.1 s 0 := a3.2.2.1 _ 0 hs (by decide)
  have l2 : H.2.1 74 (4 * s + 1) = A.2.2.1 s 1 := a3.2.2.1 _ 1 hs (by decide)
  have hcl : xIn (xSo H) (H.2.1 74 (4 * s)).toInt := hr.1 s (by omega)
  refine ⟨by rw [m0]; exact hm, l0.trans m0.symm, l1.trans m1.symm, l2.trans m2.symm, by rw [m1, ← l1]; exact hcl, fun j hj => ?_⟩
  rw [m0] at hj
  have b := zB_ar1 (zB_dn (zB_Bc hI.1.1.1)) (p := 18) (t := 0) (n := 64) (i := 8 * s + j) (r := (0, 3)) rfl (by omega) (by rw [show (zB_al zB_ar 18).1 = 1 from rfl, Nat.mod_one]; rfl)
  have b : 0 ≤ (H.2.1 18 (8 * s + j)).toInt ∧ (H.2.1 18 (8 * s + j)).toInt ≤ 3 := b
  exact ⟨⟨by omega, b.2⟩, (a3.2.2.2.1 s j 0 hs hj (by decide)).trans (a2.2.2.2.1 s j 0 hs hj (by decide)).symm, (a3.2.2.2.1 s j 1 hs hj (by decide)).trans (a2.2.2.2.1 s j 1 hs hj (by decide)).symm⟩
theorem xJ_V0 {t : Nat} {H H1 : zp_H} {S : xSea} (hI : yJ 0 t H) (h4 : ∀ k, H1.2.1 74 k = H.2.1 74 k) (h5 : ∀ k, H1.2.1 75 k = H.2.1 75 k) {s : Nat} (hs : (s : Int) < (H.2.1 13 0).toInt) : xVyr S H1 s = xVyc S 13 H s := by
  obtain ⟨-, -, hA⟩ := xJ_A0 hI
  obtain ⟨a1, a2, a3, a4, -, a6⟩ := hA s hs
  rw [xVyr_f h4 h5]
  show xVy S _ _ (H.2.1 74 (4 * s + 2)).toInt.toNat (Int32.ofInt 0) (H.2.1 74 (4 * s)) (H.2.1 74 (4 * s + 1)) = xVy S _ _ (H.2.1 16 s).toInt.toNat (Int32.ofInt 0) (H.2.1 14 s) (H.2.1 15 s)
  rw [a2, a3, a4]
  exact xVy_c (m := (H.2.1 16 s).toInt.toNat) (fun j hj => (a6 j hj).2) _ _ _ _ (by decide) (by rw [show (Int32.ofInt 0).toInt = 0 by decide]; omega) (by omega)

theorem xJ_A3 {t : Nat} {H : zp_H} (hI : yJ 3 t H) : (0 ≤ (H.2.1 33 0).toInt ∧ (H.2.1 33 0).toInt ≤ 8) ∧ (H.2.1 33 0).toInt = (H.2.1 72 5).toInt ∧ (∀ s : Nat, (s : Int) < (H.2.1 33 0).toInt → (0 ≤ (H.2.1 36 s).toInt ∧ (H.2.1 36 s).toInt ≤ 8) ∧ H.2.1 74 (4 * s + 2) = H.2.1 36 s ∧ H.2.1 74 (4 * s) = H.2.1 34 s ∧ H.2.1 74 (4 * s + 1) = H.2.1 35 s ∧ xIn (xSo H) (H.2.1 34 s).toInt ∧ (∀ j, j < (H.2.1 36 s).toInt.toNat → (-1 ≤ (H.2.1 38 (8 * s + j)).toInt ∧ (H.2.1 38 (8 * s + j)).toInt ≤ 3) ∧ H.2.1 75 (16 * s + 2 * j) = H.2.1 38 (8 * s + j) ∧ H.2.1 75 (16 * s + 2 * j + 1) = H.2.1 39 (8 * s + j))) := by
  obtain ⟨⟨A, a1, a2, a3⟩, -⟩ := id hI.2
  have hr : yGr H := hI.2.2.2.2.2.2
  have n5 := a3.1
  have n0 : (H.2.1 33 0).toInt = A.1 := a2.1
  have n8 := a1.1
  refine ⟨⟨by omega, by omega⟩, by omega, fun s h => ?_⟩
  have hs : s < A.1 := by omega
  have hm := a1.2.2.1 s hs
  have m0 : H.2.1 36 s = A.2.2.1 s 2 := a2.2.2.1 _ 2 hs (by decide)
  have m1 : H.2.1 34 s = A.2.2.1 s 0 := a2.2.2.1 _ 0 hs (by decide)
  have m2 : H.2.1 35 s = A.2.2.1 s 1 := a2.2.2.1 _ 1 hs (by decide)
  have l0 : H.2.1 74 (4 * s + 2) = A.2.2.1 s 2 := a3.2.2.1 _ 2 hs (by decide)
  have l1 : H.2.1 74 (4 * s) = A.2.2.1 s 0 := a3.2.2.1 _ 0 hs (by decide)
  have l2 : H.2.1 74 (4 * s + 1) = A.2.2.1 s 1 := a3.2.2.1 _ 1 hs (by decide)
  have hcl : xIn (xSo H) (H.2.1 74 (4 * s)).toInt := hr.1 s (by omega)
  refine ⟨by rw [m0]; exact hm, l0.trans m0.symm, l1.trans m1.symm, l2.trans m2.symm, by rw [m1, ← l1]; exact hcl, fun j hj => ?_⟩
  rw [m0] at hj
  have b := zB_ar1 (zB_dn (zB_Bc hI.1.1.1)) (p := 38) (t := 0) (n := 64) (i := 8 * s + j) (r := (0, 3)) rfl (by omega) (by rw [show (zB_al zB_ar 38).1 = 1 from rfl, Nat.mod_one]; rfl)
  have b : 0 ≤ (H.2.1 38 (8 * s + j)).toInt ∧ (H.2.1 38 (8 * s + j)).toInt ≤ 3 := b
  exact ⟨⟨by omega, b.2⟩, (a3.2.2.2.1 s j 0 hs hj (by decide)).trans (a2.2.2.2.1 s j 0 hs hj (by decide)).symm, (a3.2.2.2.1 s j 1 hs hj (by decide)).trans (a2.2.2.2.1 s j 1 hs hj (by decide)).symm⟩
theorem xJ_V3 {t : Nat} {H H1 : zp_H} {S : xSea} (hI : yJ 3 t H) (h4 : ∀ k, H1.2.1 74 k = H.2.1 74 k) (h5 : ∀ k, H1.2.1 75 k = H.2.1 75 k) {s : Nat} (hs : (s : Int) < (H.2.1 33 0).toInt) : xVyr S H1 s = xVyc S 33 H s := by
  obtain ⟨-, -, hA⟩ := xJ_A3 hI
  obtain ⟨a1, a2, a3, a4, -, a6⟩ := hA s hs
  rw [xVyr_f h4 h5]
  show xVy S _ _ (H.2.1 74 (4 * s + 2)).toInt.toNat (Int32.ofInt 0) (H.2.1 74 (4 * s)) (H.2.1 74 (4 * s + 1)) = xVy S _ _ (H.2.1 36 s).toInt.toNat (Int32.ofInt 0) (H.2.1 34 s) (H.2.1 35 s)
  rw [a2, a3, a4]
  exact xVy_c (m := (H.2.1 36 s).toInt.toNat) (fun j hj => (a6 j hj).2) _ _ _ _ (by decide) (by rw [show (Int32.ofInt 0).toInt = 0 by decide]; omega) (by omega)

theorem xSR_d {H H1 : zp_H} {S : xSea} (h : xFd H H1) (hR : xSR H S) : xSR H1 S := ⟨(congrArg Int32.toInt (h.2.2.1 72 1 (by decide) (by decide) (by decide))).trans hR.1, (congrArg Int32.toInt (h.2.2.1 72 2 (by decide) (by decide) (by decide))).trans hR.2.1, (h.2.2.2 72 12 (by decide) (by decide)).trans hR.2.2.1, fun k hk => (congrArg Int32.toInt (h.2.2.1 73 k (by decide) (by decide) (by omega))).trans (hR.2.2.2 k hk)⟩

theorem yb_dive {L : Nat} {σ : Nat → Int32} {d c t : Nat} {H : zp_H} {x1 x2 : Int32} (hI : yJ c t H) : ∃ H1 H2 v w, zp_Call L σ (d + 60) 152 [.inr (.inr (some 1)), .inl x1, .inl x2, .inr (.inr (some 105))] H (.inl (some (.inl v)), H1) ∧ zp_Call L σ (d + 60) 243 [.inr (.inr (some 73)), .inl x1, .inl x2] H1 (.inl (some (.inl w)), H2) ∧ H1.1 = zB_sh ∧ yJ c t H2 ∧ (H2.2.1 72 0).toInt = v.toInt ∧ (v.toInt = 0 → H2.2.2.1 104 0 = w.toInt64) := by
  obtain ⟨H1, v, c1, hI1⟩ := yp_dive (L := L) (σ := σ) (d := d) (x1 := x1) (x2 := x2) hI
  obtain ⟨H2, w, c2, hI2⟩ := yq_dive (L := L) (σ := σ) (d := d) (x1 := x1) (x2 := x2) hI1
  have W1 := zB_Wd (zB_dn (zB_Bc hI1.1.1.1))
  have h0 := hI.1.2.2.1
  rcases h0 with rfl | rfl
  · obtain ⟨hS, hC⟩ := xJ_S0 hI
    obtain ⟨hn0, hn5, hA⟩ := xJ_A0 hI
    have sq := xSq hS
    by_cases h : 0 ≤ x2.toInt ∧ x2.toInt ≤ (Int32.ofInt 1).toInt
    · by_cases hr : 0 ≤ x1.toInt ∧ x1.toInt ≤ 7
      · have f4 : ∀ K, xFd H K → ∀ u k, (zw_I (zw_J K 104 0 u) 72 0 (Int32.ofInt 0)).2.1 74 k = H.2.1 74 k := fun K hK u k => (zw_ne rfl rfl : _ = K.2.1 74 k).trans (hK.2.2.1 74 k (by decide) (by decide) (fun h9 => absurd h9.1 (by decide)))
        have f5 : ∀ K, xFd H K → ∀ u k, (zw_I (zw_J K 104 0 u) 72 0 (Int32.ofInt 0)).2.1 75 k = H.2.1 75 k := fun K hK u k => (zw_ne rfl rfl : _ = K.2.1 75 k).trans (hK.2.2.1 75 k (by decide) (by decide) (fun h9 => absurd h9.1 (by decide)))
        have f6 : ∀ K, xFd H K → ∀ u, (zw_I (zw_J K 104 0 u) 72 0 (Int32.ofInt 0)).2.1 72 5 = H.2.1 72 5 := fun K hK u => (zw_ne rfl rfl : _ = K.2.1 72 5).trans (hK.2.2.1 72 5 (by decide) (by decide) (by decide))
        have key : ∀ K, xFd H K → ∀ u, (xDm (fun x => xCn (fun j => xNw (xSo H).1 x.toInt x1.toInt (xVyr (xSo H) (zw_I (zw_J K 104 0 u) 72 0 (Int32.ofInt 0)) j)) ((zw_I (zw_J K 104 0 u) 72 0 (Int32.ofInt 0)).2.1 72 5).toInt.toNat (Int32.ofInt 0) (Int32.ofInt 0)) ((xSo H).1 * (xSo H).2.1).toNat (Int32.ofInt 0) (Int32.ofInt (-1), Int32.ofInt 0)) = (xDv (fun x => xCn (fun j => xNw (xSo H).1 x.toInt x1.toInt (xVyc (xSo H) 13 H j)) (H.2.1 13 0).toInt.toNat (Int32.ofInt 0) (Int32.ofInt 0)) ((xSo H).1 * (xSo H).2.1).toNat (Int32.ofInt 0) (Int32.ofInt 0, Int32.ofInt 0)) := fun K hK u => by
          obtain ⟨m, em⟩ : ∃ m, ((xSo H).1 * (xSo H).2.1).toNat = m + 1 := ⟨((xSo H).1 * (xSo H).2.1).toNat - 1, by omega⟩
          rw [em]
          refine (xDm_0 (by omega) ?_).trans (xDv_c (m := m + 1) (by omega) (fun x hx1 hx2 => ?_) _ _ _ (by decide) (by rw [show (Int32.ofInt 0).toInt = 0 by decide]; omega))
          · show 0 ≤ (xCn _ ((zw_I (zw_J K 104 0 u) 72 0 (Int32.ofInt 0)).2.1 72 5).toInt.toNat _ _).toInt
            exact (xCn_b _ _ _ (by decide) (by rw [f6 K hK, show (Int32.ofInt 0).toInt = 0 by decide]; omega)).1
          show xCn _ ((zw_I (zw_J K 104 0 u) 72 0 (Int32.ofInt 0)).2.1 72 5).toInt.toNat _ _ = xCn _ (H.2.1 13 0).toInt.toNat _ _
          rw [f6 K hK, ← hn5]
          refine xCn_c (m := (H.2.1 13 0).toInt.toNat) (by omega) (fun j hj => ?_) _ _ _ (by decide) (by rw [show (Int32.ofInt 0).toInt = 0 by decide]; omega)
          show xNw _ _ _ (xVyr (xSo H) _ j) = xNw _ _ _ (xVyc (xSo H) 13 H j)
          rw [xJ_V0 hI (f4 K hK u) (f5 K hK u) (show (j : Int) < (H.2.1 13 0).toInt by omega)]
        have hV : ∀ s : Nat, (s : Int) < (H.2.1 13 0).toInt → 0 ≤ (H.2.1 16 s).toInt ∧ (H.2.1 16 s).toInt ≤ 8 := fun s hs => (hA s hs).1
        rcases y01x h with rfl | rfl
        · obtain ⟨K, k1, k2⟩ := yl_dv0_0 (L := L) (σ := σ) (d := d + 52) (x1 := x1) hI.1.1.1 hS hC hV (fun s hs j hj => ((hA s hs).2.2.2.2.2 j hj).1) (fun s hs => (hA s hs).2.2.2.2.1) hr
          have e1 := zp_Call_u c1 k1
          cases e1
          obtain ⟨_, j1, J, rfl, j2⟩ := yr_dv0 (L := L) (σ := σ) (d := d + 56) (S := xSo H) (x1 := x1) W1 hS (show xSR (zw_J K 104 0 ((xDv (fun x => xCn (fun j => xNw (xSo H).1 x.toInt x1.toInt (xVyc (xSo H) 13 H j)) (H.2.1 13 0).toInt.toNat (Int32.ofInt 0) (Int32.ofInt 0)) ((xSo H).1 * (xSo H).2.1).toNat (Int32.ofInt 0) (Int32.ofInt 0, Int32.ofInt 0)).1).toInt64) (xSo H) from xSR_J (xSR_d k2 (xSR_o H))) (by rw [f6 K k2, ← hn5]; exact hn0) (fun s hs => by rw [f6 K k2, ← hn5] at hs; rw [f4 K k2, (hA s hs).2.1]; exact hV s hs) (fun s hs => by rw [f6 K k2, ← hn5] at hs; rw [f4 K k2, (hA s hs).2.2.1]; exact (hA s hs).2.2.2.2.1) hr
          have e2 := zp_Call_u c2 j1
          cases e2
          refine ⟨_, _, _, _, c1, c2, hI1.1.1.1.1, hI2, (congrArg Int32.toInt (j2.2.2.1 72 0 (by decide))).trans (congrArg Int32.toInt zw_eq), fun _ => ?_⟩
          rw [key K k2, j2.2.2.2 104 0 (by decide)]
          exact zp_u_self K.2.2.1 104 0 _
        · obtain ⟨K, k1, k2⟩ := yl_dv0_1 (L := L) (σ := σ) (d := d + 52) (x1 := x1) hI.1.1.1 hS hC hV (fun s hs j hj => ((hA s hs).2.2.2.2.2 j hj).1) (fun s hs => (hA s hs).2.2.2.2.1) hr
          have e1 := zp_Call_u c1 k1
          cases e1
          obtain ⟨_, j1, J, rfl, j2⟩ := yr_dv1 (L := L) (σ := σ) (d := d + 56) (S := xSo H) (x1 := x1) W1 hS (show xSR (zw_J K 104 0 ((xDv (fun x => xCn (fun j => xNw (xSo H).1 x.toInt x1.toInt (xVyc (xSo H) 13 H j)) (H.2.1 13 0).toInt.toNat (Int32.ofInt 0) (Int32.ofInt 0)) ((xSo H).1 * (xSo H).2.1).toNat (Int32.ofInt 0) (Int32.ofInt 0, Int32.ofInt 0)).2).toInt64) (xSo H) from xSR_J (xSR_d k2 (xSR_o H))) (by rw [f6 K k2, ← hn5]; exact hn0) (fun s hs => by rw [f6 K k2, ← hn5] at hs; rw [f4 K k2, (hA s hs).2.1]; exact hV s hs) (fun s hs => by rw [f6 K k2, ← hn5] at hs; rw [f4 K k2, (hA s hs).2.2.1]; exact (hA s hs).2.2.2.2.1) hr
          have e2 := zp_Call_u c2 j1
          cases e2
          refine ⟨_, _, _, _, c1, c2, hI1.1.1.1.1, hI2, (congrArg Int32.toInt (j2.2.2.1 72 0 (by decide))).trans (congrArg Int32.toInt zw_eq), fun _ => ?_⟩
          rw [key K k2, j2.2.2.2 104 0 (by decide)]
          exact zp_u_self K.2.2.1 104 0 _
      · have e1 := zp_Call_u c1 (yl_dvi0 (L := L) (σ := σ) (d := d + 57) hI.1.1.1 h hr)
        cases e1
        have e2 := zp_Call_u c2 (yr_dvi (L := L) (σ := σ) (d := d + 56) W1 h hr)
        cases e2
        exact ⟨_, _, _, _, c1, c2, hI1.1.1.1.1, hI2, congrArg Int32.toInt zw_eq, fun h9 => absurd h9 (by decide)⟩
    · have e1 := zp_Call_u c1 (yl_dvn0 (L := L) (σ := σ) (d := d + 57) hI.1.1.1 h)
      cases e1
      have e2 := zp_Call_u c2 (yr_dvn (L := L) (σ := σ) (d := d + 56) W1 h)
      cases e2
      exact ⟨_, _, _, _, c1, c2, hI1.1.1.1.1, hI2, congrArg Int32.toInt zw_eq, fun h9 => absurd h9 (by decide)⟩
  · obtain ⟨hS, hC⟩ := xJ_S3 hI
    obtain ⟨hn0, hn5, hA⟩ := xJ_A3 hI
    have sq := xSq hS
    by_cases h : 0 ≤ x2.toInt ∧ x2.toInt ≤ (Int32.ofInt 1).toInt
    · by_cases hr : 0 ≤ x1.toInt ∧ x1.toInt ≤ 7
      · have f4 : ∀ K, xFd H K → ∀ u k, (zw_I (zw_J K 104 0 u) 72 0 (Int32.ofInt 0)).2.1 74 k = H.2.1 74 k := fun K hK u k => (zw_ne rfl rfl : _ = K.2.1 74 k).trans (hK.2.2.1 74 k (by decide) (by decide) (fun h9 => absurd h9.1 (by decide)))
        have f5 : ∀ K, xFd H K → ∀ u k, (zw_I (zw_J K 104 0 u) 72 0 (Int32.ofInt 0)).2.1 75 k = H.2.1 75 k := fun K hK u k => (zw_ne rfl rfl : _ = K.2.1 75 k).trans (hK.2.2.1 75 k (by decide) (by decide) (fun h9 => absurd h9.1 (by decide)))
        have f6 : ∀ K, xFd H K → ∀ u, (zw_I (zw_J K 104 0 u) 72 0 (Int32.ofInt 0)).2.1 72 5 = H.2.1 72 5 := fun K hK u => (zw_ne rfl rfl : _ = K.2.1 72 5).trans (hK.2.2.1 72 5 (by decide) (by decide) (by decide))
        have key : ∀ K, xFd H K → ∀ u, (xDm (fun x => xCn (fun j => xNw (xSo H).1 x.toInt x1.toInt (xVyr (xSo H) (zw_I (zw_J K 104 0 u) 72 0 (Int32.ofInt 0)) j)) ((zw_I (zw_J K 104 0 u) 72 0 (Int32.ofInt 0)).2.1 72 5).toInt.toNat (Int32.ofInt 0) (Int32.ofInt 0)) ((xSo H).1 * (xSo H).2.1).toNat (Int32.ofInt 0) (Int32.ofInt (-1), Int32.ofInt 0)) = (xDv (fun x => xCn (fun j => xNw (xSo H).1 x.toInt x1.toInt (xVyc (xSo H) 33 H j)) (H.2.1 33 0).toInt.toNat (Int32.ofInt 0) (Int32.ofInt 0)) ((xSo H).1 * (xSo H).2.1).toNat (Int32.ofInt 0) (Int32.ofInt 0, Int32.ofInt 0)) := fun K hK u => by
          obtain ⟨m, em⟩ : ∃ m, ((xSo H).1 * (xSo H).2.1).toNat = m + 1 := ⟨((xSo H).1 * (xSo H).2.1).toNat - 1, by omega⟩
          rw [em]
          refine (xDm_0 (by omega) ?_).trans (xDv_c (m := m + 1) (by omega) (fun x hx1 hx2 => ?_) _ _ _ (by decide) (by rw [show (Int32.ofInt 0).toInt = 0 by decide]; omega))
          · show 0 ≤ (xCn _ ((zw_I (zw_J K 104 0 u) 72 0 (Int32.ofInt 0)).2.1 72 5).toInt.toNat _ _).toInt
            exact (xCn_b _ _ _ (by decide) (by rw [f6 K hK, show (Int32.ofInt 0).toInt = 0 by decide]; omega)).1
          show xCn _ ((zw_I (zw_J K 104 0 u) 72 0 (Int32.ofInt 0)).2.1 72 5).toInt.toNat _ _ = xCn _ (H.2.1 33 0).toInt.toNat _ _
          rw [f6 K hK, ← hn5]
          refine xCn_c (m := (H.2.1 33 0).toInt.toNat) (by omega) (fun j hj => ?_) _ _ _ (by decide) (by rw [show (Int32.ofInt 0).toInt = 0 by decide]; omega)
          show xNw _ _ _ (xVyr (xSo H) _ j) = xNw _ _ _ (xVyc (xSo H) 33 H j)
          rw [xJ_V3 hI (f4 K hK u) (f5 K hK u) (show (j : Int) < (H.2.1 33 0).toInt by omega)]
        have hV : ∀ s : Nat, (s : Int) < (H.2.1 33 0).toInt → 0 ≤ (H.2.1 36 s).toInt ∧ (H.2.1 36 s).toInt ≤ 8 := fun s hs => (hA s hs).1
        rcases y01x h with rfl | rfl
        · obtain ⟨K, k1, k2⟩ := yl_dv3_0 (L := L) (σ := σ) (d := d + 52) (x1 := x1) hI.1.1.1 hS hC hV (fun s hs j hj => ((hA s hs).2.2.2.2.2 j hj).1) (fun s hs => (hA s hs).2.2.2.2.1) hr
          have e1 := zp_Call_u c1 k1
          cases e1
          obtain ⟨_, j1, J, rfl, j2⟩ := yr_dv0 (L := L) (σ := σ) (d := d + 56) (S := xSo H) (x1 := x1) W1 hS (show xSR (zw_J K 104 0 ((xDv (fun x => xCn (fun j => xNw (xSo H).1 x.toInt x1.toInt (xVyc (xSo H) 33 H j)) (H.2.1 33 0).toInt.toNat (Int32.ofInt 0) (Int32.ofInt 0)) ((xSo H).1 * (xSo H).2.1).toNat (Int32.ofInt 0) (Int32.ofInt 0, Int32.ofInt 0)).1).toInt64) (xSo H) from xSR_J (xSR_d k2 (xSR_o H))) (by rw [f6 K k2, ← hn5]; exact hn0) (fun s hs => by rw [f6 K k2, ← hn5] at hs; rw [f4 K k2, (hA s hs).2.1]; exact hV s hs) (fun s hs => by rw [f6 K k2, ← hn5] at hs; rw [f4 K k2, (hA s hs).2.2.1]; exact (hA s hs).2.2.2.2.1) hr
          have e2 := zp_Call_u c2 j1
          cases e2
          refine ⟨_, _, _, _, c1, c2, hI1.1.1.1.1, hI2, (congrArg Int32.toInt (j2.2.2.1 72 0 (by decide))).trans (congrArg Int32.toInt zw_eq), fun _ => ?_⟩
          rw [key K k2, j2.2.2.2 104 0 (by decide)]
          exact zp_u_self K.2.2.1 104 0 _
        · obtain ⟨K, k1, k2⟩ := yl_dv3_1 (L := L) (σ := σ) (d := d + 52) (x1 := x1) hI.1.1.1 hS hC hV (fun s hs j hj => ((hA s hs).2.2.2.2.2 j hj).1) (fun s hs => (hA s hs).2.2.2.2.1) hr
          have e1 := zp_Call_u c1 k1
          cases e1
          obtain ⟨_, j1, J, rfl, j2⟩ := yr_dv1 (L := L) (σ := σ) (d := d + 56) (S := xSo H) (x1 := x1) W1 hS (show xSR (zw_J K 104 0 ((xDv (fun x => xCn (fun j => xNw (xSo H).1 x.toInt x1.toInt (xVyc (xSo H) 33 H j)) (H.2.1 33 0).toInt.toNat (Int32.ofInt 0) (Int32.ofInt 0)) ((xSo H).1 * (xSo H).2.1).toNat (Int32.ofInt 0) (Int32.ofInt 0, Int32.ofInt 0)).2).toInt64) (xSo H) from xSR_J (xSR_d k2 (xSR_o H))) (by rw [f6 K k2, ← hn5]; exact hn0) (fun s hs => by rw [f6 K k2, ← hn5] at hs; rw [f4 K k2, (hA s hs).2.1]; exact hV s hs) (fun s hs => by rw [f6 K k2, ← hn5] at hs; rw [f4 K k2, (hA s hs).2.2.1]; exact (hA s hs).2.2.2.2.1) hr
          have e2 := zp_Call_u c2 j1
          cases e2
          refine ⟨_, _, _, _, c1, c2, hI1.1.1.1.1, hI2, (congrArg Int32.toInt (j2.2.2.1 72 0 (by decide))).trans (congrArg Int32.toInt zw_eq), fun _ => ?_⟩
          rw [key K k2, j2.2.2.2 104 0 (by decide)]
          exact zp_u_self K.2.2.1 104 0 _
      · have e1 := zp_Call_u c1 (yl_dvi3 (L := L) (σ := σ) (d := d + 57) hI.1.1.1 h hr)
        cases e1
        have e2 := zp_Call_u c2 (yr_dvi (L := L) (σ := σ) (d := d + 56) W1 h hr)
        cases e2
        exact ⟨_, _, _, _, c1, c2, hI1.1.1.1.1, hI2, congrArg Int32.toInt zw_eq, fun h9 => absurd h9 (by decide)⟩
    · have e1 := zp_Call_u c1 (yl_dvn3 (L := L) (σ := σ) (d := d + 57) hI.1.1.1 h)
      cases e1
      have e2 := zp_Call_u c2 (yr_dvn (L := L) (σ := σ) (d := d + 56) W1 h)
      cases e2
      exact ⟨_, _, _, _, c1, c2, hI1.1.1.1.1, hI2, congrArg Int32.toInt zw_eq, fun h9 => absurd h9 (by decide)⟩
