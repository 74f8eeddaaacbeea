/-! ===== copied ===== -/
def zm_162 : za_MI := (yL_copied, method_20_code, 6, (some FieldType.int), 13, 4, 24, [(0, 12, 15, 18), (0, 12, 19, 13)], za_i162)
theorem zm_162_t : za_MT 162 = some zm_162 := rfl
def zm_163 : za_MI := (yX11_copied, prog_1_method_25_code, 4, (some FieldType.int), 11, 4, 24, [], za_i163)
theorem zm_163_t : za_MT 163 = some zm_163 := rfl
def zm_164 : za_MI := (yX6_compare, prog_8_method_2_code, 7, none, 6, 0, 0, [], za_i164)
theorem zm_164_t : za_MT 164 = some zm_164 := rfl
def zm_247 : za_MI := (yX12_copied, prog_14_method_84_code, 9, (some FieldType.int), 12, 0, 0, [], za_i247)
set_option maxRecDepth 8000 in
theorem zm_247_t : za_MT 247 = some zm_247 := rfl
def zm_248 : za_MI := (yX12_alike, prog_14_method_83_code, 6, (some FieldType.int), 12, 0, 0, [], za_i248)
set_option maxRecDepth 8000 in
theorem zm_248_t : za_MT 248 = some zm_248 := rfl
/-- how long two rows are alike -/
def xAk (E : Nat → Nat → Bool) : Nat → Nat → Nat → Nat
  | 0, _, _ => 0
  | n + 1, i, j => if E i j = true then xAk E n (i + 1) (j + 1) + 1 else 0
theorem xAk_y {E : Nat → Nat → Bool} {n i j : Nat} (h : E i j = true) : xAk E (n + 1) i j = xAk E n (i + 1) (j + 1) + 1 := if_pos h
theorem xAk_n {E : Nat → Nat → Bool} {n i j : Nat} (h : ¬ E i j = true) : xAk E (n + 1) i j = 0 := if_neg h
theorem xAk_le {E : Nat → Nat → Bool} : ∀ n i j, xAk E n i j ≤ n := by
  intro n
  induction n with
  | zero => exact fun _ _ => Nat.le_refl _
  | succ n ih =>
    intro i j
    by_cases h : E i j = true
    · rw [xAk_y h]
      have := ih (i + 1) (j + 1)
      omega
    · rw [xAk_n h]
      omega
theorem xAk_c {E E' : Nat → Nat → Bool} {m m' : Nat} (e : ∀ i j, i < m → j < m' → E i j = E' i j) : ∀ n i j, i + n ≤ m → j + n ≤ m' → xAk E n i j = xAk E' n i j := by
  intro n
  induction n with
  | zero => exact fun _ _ _ _ => rfl
  | succ n ih =>
    intro i j h1 h2
    have e1 := e i j (by omega) (by omega)
    by_cases h : E i j = true
    · rw [xAk_y h, xAk_y (e1 ▸ h), ih _ _ (by omega) (by omega)]
    · rw [xAk_n h, xAk_n (e1 ▸ h)]
def xEq (w s w' s' : Nat → Int32) (i j : Nat) : Bool := decide (w i = w' j ∧ s i = s' j)
theorem xEq_t {w s w' s' : Nat → Int32} {i j : Nat} : xEq w s w' s' i j = true ↔ (w i = w' j ∧ s i = s' j) := decide_eq_true_iff
theorem x_k0 {k : Int32} : Int32.ofInt (k.toInt + ((0 : Nat) : Int)) = k := (congrArg Int32.ofInt (Int.add_zero k.toInt)).trans (x_oi k)
theorem x_k1 {z : Int} {u : Nat} : Int32.ofInt (z + ((u + 1 : Nat) : Int)) = Int32.ofInt (z + 1 + (u : Int)) := congrArg Int32.ofInt (by omega)
/-- most, one, two -/
abbrev xT3 : Type := Int32 × Int32 × Int32
def xC1 (al : Nat → Nat → Nat) (i j : Int32) (r : xT3) : xT3 := if r.1.toInt < (al i.toInt.toNat j.toInt.toNat : Int) then (Int32.ofInt (al i.toInt.toNat j.toInt.toNat : Int), i, j) else r
def xCj (al : Nat → Nat → Nat) (i : Int32) : Nat → Int32 → xT3 → xT3
  | 0, _, r => r
  | n + 1, j, r => xCj al i n (j + Int32.ofInt 1) (xC1 al i j r)
def xCi (al : Nat → Nat → Nat) (m : Nat) : Nat → Int32 → xT3 → xT3
  | 0, _, r => r
  | n + 1, i, r => xCi al m n (i + Int32.ofInt 1) (xCj al i m (Int32.ofInt 0) r)
theorem xCj_y {al : Nat → Nat → Nat} {i j : Int32} {n : Nat} {r : xT3} (h : r.1.toInt < (al i.toInt.toNat j.toInt.toNat : Int)) : xCj al i (n + 1) j r = xCj al i n (j + Int32.ofInt 1) (Int32.ofInt (al i.toInt.toNat j.toInt.toNat : Int), i, j) := congrArg (xCj al i n (j + Int32.ofInt 1)) (if_pos h)
theorem xCj_n {al : Nat → Nat → Nat} {i j : Int32} {n : Nat} {r : xT3} (h : ¬ r.1.toInt < (al i.toInt.toNat j.toInt.toNat : Int)) : xCj al i (n + 1) j r = xCj al i n (j + Int32.ofInt 1) r := congrArg (xCj al i n (j + Int32.ofInt 1)) (if_neg h)
theorem xCj_c {al al' : Nat → Nat → Nat} {i : Int32} {m : Nat} (hm : m ≤ 8) (e : ∀ j, j < m → al i.toInt.toNat j = al' i.toInt.toNat j) : ∀ (n : Nat) (j : Int32) (r : xT3), 0 ≤ j.toInt → j.toInt + n ≤ m → xCj al i n j r = xCj al' i n j r := by
  intro n
  induction n with
  | zero => exact fun _ _ _ _ => rfl
  | succ n ih =>
    intro j r h1 h2
    have e1 := e j.toInt.toNat (by omega)
    have e3 : (j + Int32.ofInt 1).toInt = j.toInt + 1 := zw_p1 (by omega)
    by_cases h : r.1.toInt < (al i.toInt.toNat j.toInt.toNat : Int)
    · rw [xCj_y h, xCj_y (e1 ▸ h), e1]
      exact ih _ _ (by omega) (by omega)
    · rw [xCj_n h, xCj_n (e1 ▸ h)]
      exact ih _ _ (by omega) (by omega)
theorem xCi_c {al al' : Nat → Nat → Nat} {m m' : Nat} (hm : m ≤ 8) (hm' : m' ≤ 8) (e : ∀ i j, i < m → j < m' → al i j = al' i j) : ∀ (n : Nat) (i : Int32) (r : xT3), 0 ≤ i.toInt → i.toInt + n ≤ m → xCi al m' n i r = xCi al' m' n i r := by
  intro n
  induction n with
  | zero => exact fun _ _ _ _ => rfl
  | succ n ih =>
    intro i r h1 h2
    have e3 : (i + Int32.ofInt 1).toInt = i.toInt + 1 := zw_p1 (by omega)
    have e4 : xCj al i m' (Int32.ofInt 0) r = xCj al' i m' (Int32.ofInt 0) r := xCj_c hm' (fun j hj => e _ _ (by omega) hj) m' _ _ (by decide) (by rw [show (Int32.ofInt 0).toInt = 0 by decide]; omega)
    show xCi al m' n (i + Int32.ofInt 1) (xCj al i m' (Int32.ofInt 0) r) = xCi al' m' n (i + Int32.ofInt 1) (xCj al' i m' (Int32.ofInt 0) r)
    rw [e4]
    exact ih _ _ (by omega) (by omega)
/-- alike from i and j on: the class's slates, the reference's -/
def xAl (H : zp_H) (cp a b : Nat) (i j : Nat) : Nat := xAk (xEq (fun k => H.2.1 (cp + 5) (8 * a + k)) (fun k => H.2.1 (cp + 6) (8 * a + k)) (fun k => H.2.1 (cp + 5) (8 * b + k)) (fun k => H.2.1 (cp + 6) (8 * b + k))) (min ((H.2.1 (cp + 3) a).toInt.toNat - i) ((H.2.1 (cp + 3) b).toInt.toNat - j)) i j
def xAr (H : zp_H) (a b : Nat) (i j : Nat) : Nat := xAk (xEq (fun k => H.2.1 75 (16 * a + 2 * k)) (fun k => H.2.1 75 (16 * a + 2 * k + 1)) (fun k => H.2.1 75 (16 * b + 2 * k)) (fun k => H.2.1 75 (16 * b + 2 * k + 1))) (min ((H.2.1 74 (4 * a + 2)).toInt.toNat - i) ((H.2.1 74 (4 * b + 2)).toInt.toNat - j)) i j
theorem xAl_f {q cp a b : Nat} {H H1 : zp_H} (h : xFv q H H1) (hq : cp + 3 ≠ q ∧ cp + 5 ≠ q ∧ cp + 6 ≠ q) : xAl H1 cp a b = xAl H cp a b := by
  have e3 : ∀ k, H1.2.1 (cp + 3) k = H.2.1 (cp + 3) k := fun k => h.2.2.1 _ _ hq.1
  have e5 : ∀ k, H1.2.1 (cp + 5) k = H.2.1 (cp + 5) k := fun k => h.2.2.1 _ _ hq.2.1
  have e6 : ∀ k, H1.2.1 (cp + 6) k = H.2.1 (cp + 6) k := fun k => h.2.2.1 _ _ hq.2.2
  unfold xAl
  simp only [e3, e5, e6]
theorem xAl_b {H : zp_H} {cp a b i j : Nat} (h : (H.2.1 (cp + 3) a).toInt ≤ 8) : xAl H cp a b i j ≤ 8 := by
  have := xAk_le (E := xEq (fun k => H.2.1 (cp + 5) (8 * a + k)) (fun k => H.2.1 (cp + 6) (8 * a + k)) (fun k => H.2.1 (cp + 5) (8 * b + k)) (fun k => H.2.1 (cp + 6) (8 * b + k))) (min ((H.2.1 (cp + 3) a).toInt.toNat - i) ((H.2.1 (cp + 3) b).toInt.toNat - j)) i j
  unfold xAl
  omega
theorem xAr_b {H : zp_H} {a b i j : Nat} (h : (H.2.1 74 (4 * a + 2)).toInt ≤ 8) : xAr H a b i j ≤ 8 := by
  have := xAk_le (E := xEq (fun k => H.2.1 75 (16 * a + 2 * k)) (fun k => H.2.1 75 (16 * a + 2 * k + 1)) (fun k => H.2.1 75 (16 * b + 2 * k)) (fun k => H.2.1 75 (16 * b + 2 * k + 1))) (min ((H.2.1 74 (4 * a + 2)).toInt.toNat - i) ((H.2.1 74 (4 * b + 2)).toInt.toNat - j)) i j
  unfold xAr
  omega
def xL3 (H : zp_H) (r : xT3) : Prop := H.2.1 71 0 = r.1 ∧ H.2.1 71 1 = r.2.1 ∧ H.2.1 71 2 = r.2.2

theorem yc_mn {L : Nat} {σ : Nat → Int32} {d : Nat} {H : zp_H} {x y : Int32} : zp_Call L σ (d + 1) 54 [.inl x, .inl y] H (.inl (some (.inl (if x.toInt ≤ y.toInt then x else y))), H) := by
  refine zw_ex (zw_met zm_54_t rfl rfl ?_)
  refine zw_ld (n := 1) (k := 0) (f := zp_isI) (pc' := 1) rfl rfl rfl rfl rfl ?_
  refine zw_ld (n := 1) (k := 1) (f := zp_isI) (pc' := 2) rfl rfl rfl rfl rfl ?_
  refine zw_bgt2 (g := 9) (pc' := 5) rfl rfl rfl rfl rfl (fun h1 => ?_) (fun h1 => ?_)
  · refine zw_ld (n := 1) (k := 1) (f := zp_isI) (pc' := 10) rfl rfl rfl rfl rfl ?_
    refine zw_ri rfl rfl ?_
    exact x_rv (if_neg (show ¬ x.toInt ≤ y.toInt by omega)).symm
  · refine zw_ld (n := 1) (k := 0) (f := zp_isI) (pc' := 6) rfl rfl rfl rfl rfl ?_
    refine zw_s (pc' := 10) rfl rfl ?_
    refine zw_ri rfl rfl ?_
    exact x_rv (if_pos h1).symm

theorem yc_alL13 {L : Nat} {σ : Nat → Int32} {d : Nat} {P : zp_X → Prop} {H : zp_H} {a b i j lg : Int32} (W : zw_W H) (ha : 0 ≤ a.toInt ∧ a.toInt < 8) (hb : 0 ≤ b.toInt ∧ b.toInt < 8) (hi : 0 ≤ i.toInt ∧ i.toInt + lg.toInt ≤ 8) (hj : 0 ≤ j.toInt ∧ j.toInt + lg.toInt ≤ 8) : ∀ (n : Nat) (lv : zp_LV) (k : Int32), 0 ≤ k.toInt → k.toInt + n = lg.toInt → zp_get lv 0 = some (.inr (.inr (some 14))) → zp_get lv 1 = some (.inl a) → zp_get lv 2 = some (.inl i) → zp_get lv 3 = some (.inl b) → zp_get lv 4 = some (.inl j) → zp_get lv 5 = some (.inl lg) → zp_get lv 6 = some (.inl k) → P (.inl (some (.inl (Int32.ofInt (k.toInt + (xAk (xEq (fun k => H.2.1 18 (8 * a.toInt.toNat + k)) (fun k => H.2.1 19 (8 * a.toInt.toNat + k)) (fun k => H.2.1 18 (8 * b.toInt.toNat + k)) (fun k => H.2.1 19 (8 * b.toInt.toNat + k))) n (i.toInt.toNat + k.toInt.toNat) (j.toInt.toNat + k.toInt.toNat) : Int))))), H) → zs_Safe L σ P zm_165 [] (d + 1) (25, lv, [], H, (0, 0)) := by
  intro n
  induction n with
  | zero =>
    intro lv k h5 hn l0 l1 l2 l3 l4 l5 l6 hP
    refine zw_ld (n := 2) (k := 6) (f := zp_isI) (pc' := 27) rfl rfl l6 rfl rfl ?_
    refine zw_ld (n := 2) (k := 5) (f := zp_isI) (pc' := 29) rfl rfl l5 rfl rfl ?_
    refine zw_bge2 (g := 82) (pc' := 32) rfl rfl rfl rfl rfl (fun h1 => ?_) (fun h1 => ?_)
    · refine zw_ld (n := 2) (k := 6) (f := zp_isI) (pc' := 84) rfl rfl l6 rfl rfl ?_
      refine zw_ri rfl rfl ?_
      have hP : P (.inl (some (.inl (Int32.ofInt (k.toInt + ((0 : Nat) : Int))))), H) := hP
      rw [x_k0] at hP
      exact hP
    · omega
  | succ n ih =>
    intro lv k h5 hn l0 l1 l2 l3 l4 l5 l6 hP
    have e1 : (i + k).toInt = i.toInt + k.toInt := zq_add (by omega) (by omega)
    have e2 : (j + k).toInt = j.toInt + k.toInt := zq_add (by omega) (by omega)
    have e3 : (i + k).toInt.toNat = i.toInt.toNat + k.toInt.toNat := by omega
    have e4 : (j + k).toInt.toNat = j.toInt.toNat + k.toInt.toNat := by omega
    have e5 : (k + Int32.ofInt 1).toInt = k.toInt + 1 := zw_p1 (by omega)
    have e6 : (k + Int32.ofInt 1).toInt.toNat = k.toInt.toNat + 1 := by omega
    refine zw_ld (n := 2) (k := 6) (f := zp_isI) (pc' := 27) rfl rfl l6 rfl rfl ?_
    refine zw_ld (n := 2) (k := 5) (f := zp_isI) (pc' := 29) rfl rfl l5 rfl rfl ?_
    refine zw_bge2 (g := 82) (pc' := 32) rfl rfl rfl rfl rfl (fun h1 => ?_) (fun h1 => ?_)
    · omega
    · refine zw_ld (n := 1) (k := 0) (f := zp_isR) (pc' := 33) rfl rfl l0 rfl rfl ?_
      refine zw_ld (n := 1) (k := 1) (f := zp_isI) (pc' := 34) rfl rfl l1 rfl rfl ?_
      refine zw_ld (n := 1) (k := 2) (f := zp_isI) (pc' := 35) rfl rfl l2 rfl rfl ?_
      refine zw_ld (n := 2) (k := 6) (f := zp_isI) (pc' := 37) rfl rfl l6 rfl rfl ?_
      refine zw_iadd (pc' := 38) rfl rfl ?_
      refine zw_c (pc' := 41) (zw_cv (q := 13) (Y := zm_26) W.1 rfl rfl zm_26_t rfl rfl) rfl rfl rfl rfl rfl (yc_wayOf13 W ha ⟨by omega, by omega⟩) ?_
      refine zw_ld (n := 1) (k := 0) (f := zp_isR) (pc' := 42) rfl rfl l0 rfl rfl ?_
      refine zw_ld (n := 1) (k := 3) (f := zp_isI) (pc' := 43) rfl rfl l3 rfl rfl ?_
      refine zw_ld (n := 2) (k := 4) (f := zp_isI) (pc' := 45) rfl rfl l4 rfl rfl ?_
      refine zw_ld (n := 2) (k := 6) (f := zp_isI) (pc' := 47) rfl rfl l6 rfl rfl ?_
      refine zw_iadd (pc' := 48) rfl rfl ?_
      refine zw_c (pc' := 51) (zw_cv (q := 13) (Y := zm_26) W.1 rfl rfl zm_26_t rfl rfl) rfl rfl rfl rfl rfl (yc_wayOf13 W hb ⟨by omega, by omega⟩) ?_
      rw [e3, e4]
      refine zw_bne2 (g := 82) (pc' := 54) rfl rfl rfl rfl rfl (fun h2 => ?_) (fun h2 => ?_)
      · have hE : ¬ (xEq (fun k => H.2.1 18 (8 * a.toInt.toNat + k)) (fun k => H.2.1 19 (8 * a.toInt.toNat + k)) (fun k => H.2.1 18 (8 * b.toInt.toNat + k)) (fun k => H.2.1 19 (8 * b.toInt.toNat + k))) (i.toInt.toNat + k.toInt.toNat) (j.toInt.toNat + k.toInt.toNat) = true := fun h9 => h2 (congrArg Int32.toInt (xEq_t.mp h9).1)
        rw [xAk_n hE, x_k0] at hP
        refine zw_ld (n := 2) (k := 6) (f := zp_isI) (pc' := 84) rfl rfl l6 rfl rfl ?_
        refine zw_ri rfl rfl ?_
        exact hP
      · refine zw_ld (n := 1) (k := 0) (f := zp_isR) (pc' := 55) rfl rfl l0 rfl rfl ?_
        refine zw_ld (n := 1) (k := 1) (f := zp_isI) (pc' := 56) rfl rfl l1 rfl rfl ?_
        refine zw_ld (n := 1) (k := 2) (f := zp_isI) (pc' := 57) rfl rfl l2 rfl rfl ?_
        refine zw_ld (n := 2) (k := 6) (f := zp_isI) (pc' := 59) rfl rfl l6 rfl rfl ?_
        refine zw_iadd (pc' := 60) rfl rfl ?_
        refine zw_c (pc' := 63) (zw_cv (q := 13) (Y := zm_27) W.1 rfl rfl zm_27_t rfl rfl) rfl rfl rfl rfl rfl (yc_stepsOf13 W ha ⟨by omega, by omega⟩) ?_
        refine zw_ld (n := 1) (k := 0) (f := zp_isR) (pc' := 64) rfl rfl l0 rfl rfl ?_
        refine zw_ld (n := 1) (k := 3) (f := zp_isI) (pc' := 65) rfl rfl l3 rfl rfl ?_
        refine zw_ld (n := 2) (k := 4) (f := zp_isI) (pc' := 67) rfl rfl l4 rfl rfl ?_
        refine zw_ld (n := 2) (k := 6) (f := zp_isI) (pc' := 69) rfl rfl l6 rfl rfl ?_
        refine zw_iadd (pc' := 70) rfl rfl ?_
        refine zw_c (pc' := 73) (zw_cv (q := 13) (Y := zm_27) W.1 rfl rfl zm_27_t rfl rfl) rfl rfl rfl rfl rfl (yc_stepsOf13 W hb ⟨by omega, by omega⟩) ?_
        rw [e3, e4]
        refine zw_bne2 (g := 82) (pc' := 76) rfl rfl rfl rfl rfl (fun h3 => ?_) (fun h3 => ?_)
        · have hE : ¬ (xEq (fun k => H.2.1 18 (8 * a.toInt.toNat + k)) (fun k => H.2.1 19 (8 * a.toInt.toNat + k)) (fun k => H.2.1 18 (8 * b.toInt.toNat + k)) (fun k => H.2.1 19 (8 * b.toInt.toNat + k))) (i.toInt.toNat + k.toInt.toNat) (j.toInt.toNat + k.toInt.toNat) = true := fun h9 => h3 (congrArg Int32.toInt (xEq_t.mp h9).2)
          rw [xAk_n hE, x_k0] at hP
          refine zw_ld (n := 2) (k := 6) (f := zp_isI) (pc' := 84) rfl rfl l6 rfl rfl ?_
          refine zw_ri rfl rfl ?_
          exact hP
        · have hE : (xEq (fun k => H.2.1 18 (8 * a.toInt.toNat + k)) (fun k => H.2.1 19 (8 * a.toInt.toNat + k)) (fun k => H.2.1 18 (8 * b.toInt.toNat + k)) (fun k => H.2.1 19 (8 * b.toInt.toNat + k))) (i.toInt.toNat + k.toInt.toNat) (j.toInt.toNat + k.toInt.toNat) = true := xEq_t.mpr ⟨Int32.toInt_inj.mp h2, Int32.toInt_inj.mp h3⟩
          rw [xAk_y hE, x_k1] at hP
          refine zw_ii (pc' := 79) rfl l6 rfl rfl ?_
          refine zw_s (pc' := 25) rfl rfl ?_
          exact ih _ (k + Int32.ofInt 1) (by omega) (by omega) (zw_gt l0 rfl rfl) (zw_gt l1 rfl rfl) (zw_gt l2 rfl rfl) (zw_gt l3 rfl rfl) (zw_gt l4 rfl rfl) (zw_gt l5 rfl rfl) zw_g1 (by rw [e6, e5]; exact hP)

theorem yc_al13 {L : Nat} {σ : Nat → Int32} {d : Nat} {H : zp_H} {a i b j : Int32} (W : zw_W H) (ha : 0 ≤ a.toInt ∧ a.toInt < 8) (hb : 0 ≤ b.toInt ∧ b.toInt < 8) (hma : 0 ≤ (H.2.1 16 a.toInt.toNat).toInt ∧ (H.2.1 16 a.toInt.toNat).toInt ≤ 8) (hmb : 0 ≤ (H.2.1 16 b.toInt.toNat).toInt ∧ (H.2.1 16 b.toInt.toNat).toInt ≤ 8) (hi : 0 ≤ i.toInt ∧ i.toInt < (H.2.1 16 a.toInt.toNat).toInt) (hj : 0 ≤ j.toInt ∧ j.toInt < (H.2.1 16 b.toInt.toNat).toInt) : zp_Call L σ (d + 2) 165 [.inr (.inr (some 14)), .inl a, .inl i, .inl b, .inl j] H (.inl (some (.inl (Int32.ofInt (xAl H 13 a.toInt.toNat b.toInt.toNat i.toInt.toNat j.toInt.toNat : Int)))), H) := by
  have d1 : ((H.2.1 16 a.toInt.toNat) - i).toInt = (H.2.1 16 a.toInt.toNat).toInt - i.toInt := zq_sub (by omega) (by omega)
  have d2 : ((H.2.1 16 b.toInt.toNat) - j).toInt = (H.2.1 16 b.toInt.toNat).toInt - j.toInt := zq_sub (by omega) (by omega)
  refine zw_ex (zw_met zm_165_t rfl rfl ?_)
  refine zw_ld (n := 1) (k := 0) (f := zp_isR) (pc' := 1) rfl rfl rfl rfl rfl ?_
  refine zw_gR (q := 13) (pc' := 4) W rfl rfl rfl rfl (W.2 13 3 _ rfl) rfl ?_
  refine zw_ld (n := 1) (k := 1) (f := zp_isI) (pc' := 5) rfl rfl rfl rfl rfl ?_
  refine zw_ia (q := 16) (pc' := 6) W rfl rfl (by decide) (⟨ha.1, by show _ < ((8 : Nat) : Int); omega⟩) rfl rfl ?_
  refine zw_ld (n := 1) (k := 2) (f := zp_isI) (pc' := 7) rfl rfl rfl rfl rfl ?_
  refine zw_isub (pc' := 8) rfl rfl ?_
  refine zw_ld (n := 1) (k := 0) (f := zp_isR) (pc' := 9) rfl rfl rfl rfl rfl ?_
  refine zw_gR (q := 13) (pc' := 12) W rfl rfl rfl rfl (W.2 13 3 _ rfl) rfl ?_
  refine zw_ld (n := 1) (k := 3) (f := zp_isI) (pc' := 13) rfl rfl rfl rfl rfl ?_
  refine zw_ia (q := 16) (pc' := 14) W rfl rfl (by decide) (⟨hb.1, by show _ < ((8 : Nat) : Int); omega⟩) rfl rfl ?_
  refine zw_ld (n := 2) (k := 4) (f := zp_isI) (pc' := 16) rfl rfl rfl rfl rfl ?_
  refine zw_isub (pc' := 17) rfl rfl ?_
  refine zw_c (pc' := 20) (zw_cs (Y := zm_54) rfl rfl zm_54_t) rfl rfl rfl rfl rfl (yc_mn) ?_
  obtain ⟨lg, hlg⟩ : ∃ lg : Int32, lg = (if ((H.2.1 16 a.toInt.toNat) - i).toInt ≤ ((H.2.1 16 b.toInt.toNat) - j).toInt then (H.2.1 16 a.toInt.toNat) - i else (H.2.1 16 b.toInt.toNat) - j) := ⟨_, rfl⟩
  have hl : lg.toInt = ((min ((H.2.1 16 a.toInt.toNat).toInt.toNat - i.toInt.toNat) ((H.2.1 16 b.toInt.toNat).toInt.toNat - j.toInt.toNat) : Nat) : Int) := by
    rw [hlg]
    by_cases h : ((H.2.1 16 a.toInt.toNat) - i).toInt ≤ ((H.2.1 16 b.toInt.toNat) - j).toInt
    · rw [if_pos h]; omega
    · rw [if_neg h]; omega
  rw [← hlg]
  refine zw_st (n := 2) (k := 5) (f := zp_isI) (pc' := 22) rfl rfl rfl rfl rfl ?_
  refine zw_s (pc' := 23) rfl rfl ?_
  refine zw_st (n := 2) (k := 6) (f := zp_isI) (pc' := 25) rfl rfl rfl rfl rfl ?_
  refine yc_alL13 (lg := lg) W ha hb ⟨hi.1, by omega⟩ ⟨hj.1, by omega⟩ (min ((H.2.1 16 a.toInt.toNat).toInt.toNat - i.toInt.toNat) ((H.2.1 16 b.toInt.toNat).toInt.toNat - j.toInt.toNat)) _ (Int32.ofInt 0) (by decide) (by rw [show (Int32.ofInt 0).toInt = 0 by decide]; omega) (zw_gt (zw_gt rfl rfl rfl) rfl rfl) (zw_gt (zw_gt rfl rfl rfl) rfl rfl) (zw_gt (zw_gt rfl rfl rfl) rfl rfl) (zw_gt (zw_gt rfl rfl rfl) rfl rfl) (zw_gt (zw_gt rfl rfl rfl) rfl rfl) (zw_gt zw_g1 rfl rfl) zw_g1 (x_rv (congrArg Int32.ofInt ?_))
  rw [show (Int32.ofInt 0).toInt = 0 by decide]
  exact Int.zero_add _

theorem yc_cpJ13 {L : Nat} {σ : Nat → Int32} {d : Nat} {P : zp_X → Prop} {H0 : zp_H} {a b i : Int32} (ha : 0 ≤ a.toInt ∧ a.toInt < 8) (hb : 0 ≤ b.toInt ∧ b.toInt < 8) (hma : 0 ≤ (H0.2.1 16 a.toInt.toNat).toInt ∧ (H0.2.1 16 a.toInt.toNat).toInt ≤ 8) (hmb : 0 ≤ (H0.2.1 16 b.toInt.toNat).toInt ∧ (H0.2.1 16 b.toInt.toNat).toInt ≤ 8) (hi : 0 ≤ i.toInt ∧ i.toInt < (H0.2.1 16 a.toInt.toNat).toInt) : ∀ (n : Nat) (H : zp_H) (lv : zp_LV) (j : Int32) (r : xT3), zw_W H → xFv 71 H0 H → xL3 H r → 0 ≤ j.toInt → j.toInt + n = (H0.2.1 16 b.toInt.toNat).toInt → zp_get lv 0 = some (.inr (.inr (some 72))) → zp_get lv 1 = some (.inr (.inr (some 14))) → zp_get lv 2 = some (.inl a) → zp_get lv 3 = some (.inl b) → zp_get lv 4 = some (.inl i) → zp_get lv 5 = some (.inl j) → (∀ H1 lv1, zw_W H1 → xFv 71 H0 H1 → xL3 H1 (xCj (xAl H0 13 a.toInt.toNat b.toInt.toNat) i n j r) → zp_get lv1 0 = some (.inr (.inr (some 72))) → zp_get lv1 1 = some (.inr (.inr (some 14))) → zp_get lv1 2 = some (.inl a) → zp_get lv1 3 = some (.inl b) → zp_get lv1 4 = some (.inl i) → zs_Safe L σ P zm_164 [] (d + 2) (88, lv1, [], H1, (0, 0))) → zs_Safe L σ P zm_164 [] (d + 2) (32, lv, [], H, (0, 0)) := by
  intro n
  induction n with
  | zero =>
    intro H lv j r W hF hr h5 hn l0 l1 l2 l3 l4 l5 hP
    have em : ∀ k, H.2.1 16 k = H0.2.1 16 k := fun k => hF.2.2.1 _ _ (by decide)
    refine zw_ld (n := 2) (k := 5) (f := zp_isI) (pc' := 34) rfl rfl l5 rfl rfl ?_
    refine zw_ld (n := 1) (k := 1) (f := zp_isR) (pc' := 35) rfl rfl l1 rfl rfl ?_
    refine zw_gR (q := 13) (pc' := 38) W rfl rfl rfl rfl (W.2 13 3 _ rfl) rfl ?_
    refine zw_ld (n := 1) (k := 3) (f := zp_isI) (pc' := 39) rfl rfl l3 rfl rfl ?_
    refine zw_ia (q := 16) (pc' := 40) W rfl rfl (by decide) (⟨hb.1, by show _ < ((8 : Nat) : Int); omega⟩) rfl rfl ?_
    rw [em]
    refine zw_bge2 (g := 88) (pc' := 43) rfl rfl rfl rfl rfl (fun h1 => ?_) (fun h1 => ?_)
    · exact hP H lv W hF hr l0 l1 l2 l3 l4
    · omega
  | succ n ih =>
    intro H lv j r W hF hr h5 hn l0 l1 l2 l3 l4 l5 hP
    have em : ∀ k, H.2.1 16 k = H0.2.1 16 k := fun k => hF.2.2.1 _ _ (by decide)
    refine zw_ld (n := 2) (k := 5) (f := zp_isI) (pc' := 34) rfl rfl l5 rfl rfl ?_
    refine zw_ld (n := 1) (k := 1) (f := zp_isR) (pc' := 35) rfl rfl l1 rfl rfl ?_
    refine zw_gR (q := 13) (pc' := 38) W rfl rfl rfl rfl (W.2 13 3 _ rfl) rfl ?_
    refine zw_ld (n := 1) (k := 3) (f := zp_isI) (pc' := 39) rfl rfl l3 rfl rfl ?_
    refine zw_ia (q := 16) (pc' := 40) W rfl rfl (by decide) (⟨hb.1, by show _ < ((8 : Nat) : Int); omega⟩) rfl rfl ?_
    rw [em]
    refine zw_bge2 (g := 88) (pc' := 43) rfl rfl rfl rfl rfl (fun h1 => ?_) (fun h1 => ?_)
    · omega
    · have qa := yc_al13 (L := L) (σ := σ) (d := d) (a := a) (i := i) (b := b) (j := j) W ha hb (by rw [em]; exact hma) (by rw [em]; exact hmb) (by rw [em]; exact hi) (by rw [em]; exact ⟨h5, by omega⟩)
      rw [xAl_f (cp := 13) hF (by decide)] at qa
      have hb8 := xAl_b (H := H0) (cp := 13) (a := a.toInt.toNat) (b := b.toInt.toNat) (i := i.toInt.toNat) (j := j.toInt.toNat) hma.2
      have ea : (Int32.ofInt ((xAl H0 13 a.toInt.toNat b.toInt.toNat) i.toInt.toNat j.toInt.toNat : Int)).toInt = ((xAl H0 13 a.toInt.toNat b.toInt.toNat) i.toInt.toNat j.toInt.toNat : Int) := x_of (by omega) (by omega)
      have ej : (j + Int32.ofInt 1).toInt = j.toInt + 1 := zw_p1 (by omega)
      obtain ⟨r0, r1, r2⟩ := id hr
      refine zw_ld (n := 1) (k := 1) (f := zp_isR) (pc' := 44) rfl rfl l1 rfl rfl ?_
      refine zw_ld (n := 1) (k := 2) (f := zp_isI) (pc' := 45) rfl rfl l2 rfl rfl ?_
      refine zw_ld (n := 2) (k := 4) (f := zp_isI) (pc' := 47) rfl rfl l4 rfl rfl ?_
      refine zw_ld (n := 1) (k := 3) (f := zp_isI) (pc' := 48) rfl rfl l3 rfl rfl ?_
      refine zw_ld (n := 2) (k := 5) (f := zp_isI) (pc' := 50) rfl rfl l5 rfl rfl ?_
      refine zw_c (pc' := 53) (zw_cs (Y := zm_165) rfl rfl zm_165_t) rfl rfl rfl rfl rfl (qa) ?_
      refine zw_st (n := 2) (k := 6) (f := zp_isI) (pc' := 55) rfl rfl rfl rfl rfl ?_
      refine zw_ld (n := 2) (k := 6) (f := zp_isI) (pc' := 57) rfl rfl zw_g1 rfl rfl ?_
      refine zw_ld (n := 1) (k := 0) (f := zp_isR) (pc' := 58) rfl rfl (zw_gt l0 rfl rfl) rfl rfl ?_
      refine zw_gI (q := 71) (pc' := 61) W rfl rfl rfl rfl rfl rfl ?_
      refine zw_ble2 (g := 82) (pc' := 64) rfl rfl rfl rfl rfl (fun h2 => ?_) (fun h2 => ?_)
      · have h2 : (Int32.ofInt ((xAl H0 13 a.toInt.toNat b.toInt.toNat) i.toInt.toNat j.toInt.toNat : Int)).toInt ≤ (H.2.1 71 0).toInt := h2
        rw [ea, r0] at h2
        have h3 : ¬ r.1.toInt < ((xAl H0 13 a.toInt.toNat b.toInt.toNat) i.toInt.toNat j.toInt.toNat : Int) := by omega
        refine zw_ii (pc' := 85) rfl (zw_gt l5 rfl rfl) rfl rfl ?_
        refine zw_s (pc' := 32) rfl rfl ?_
        exact ih H _ (j + Int32.ofInt 1) r W hF hr (by omega) (by omega) (zw_gt (zw_gt l0 rfl rfl) rfl rfl) (zw_gt (zw_gt l1 rfl rfl) rfl rfl) (zw_gt (zw_gt l2 rfl rfl) rfl rfl) (zw_gt (zw_gt l3 rfl rfl) rfl rfl) (zw_gt (zw_gt l4 rfl rfl) rfl rfl) zw_g1 (fun H1 lv1 w1 w2 w3 => hP H1 lv1 w1 w2 (by rw [xCj_n h3]; exact w3))
      · have h2 : (H.2.1 71 0).toInt < (Int32.ofInt ((xAl H0 13 a.toInt.toNat b.toInt.toNat) i.toInt.toNat j.toInt.toNat : Int)).toInt := h2
        rw [ea, r0] at h2
        refine zw_ld (n := 1) (k := 0) (f := zp_isR) (pc' := 65) rfl rfl (zw_gt l0 rfl rfl) rfl rfl ?_
        refine zw_ld (n := 2) (k := 6) (f := zp_isI) (pc' := 67) rfl rfl zw_g1 rfl rfl ?_
        refine zw_pI (q := 71) (pc' := 70) W rfl rfl rfl rfl rfl rfl ?_
        refine zw_ld (n := 1) (k := 0) (f := zp_isR) (pc' := 71) rfl rfl (zw_gt l0 rfl rfl) rfl rfl ?_
        refine zw_ld (n := 2) (k := 4) (f := zp_isI) (pc' := 73) rfl rfl (zw_gt l4 rfl rfl) rfl rfl ?_
        refine zw_pI (q := 71) (pc' := 76) (zw_W_I W) rfl rfl rfl rfl rfl rfl ?_
        refine zw_ld (n := 1) (k := 0) (f := zp_isR) (pc' := 77) rfl rfl (zw_gt l0 rfl rfl) rfl rfl ?_
        refine zw_ld (n := 2) (k := 5) (f := zp_isI) (pc' := 79) rfl rfl (zw_gt l5 rfl rfl) rfl rfl ?_
        refine zw_pI (q := 71) (pc' := 82) (zw_W_I (zw_W_I W)) rfl rfl rfl rfl rfl rfl ?_
        refine zw_ii (pc' := 85) rfl (zw_gt l5 rfl rfl) rfl rfl ?_
        refine zw_s (pc' := 32) rfl rfl ?_
        exact ih _ _ (j + Int32.ofInt 1) ((Int32.ofInt ((xAl H0 13 a.toInt.toNat b.toInt.toNat) i.toInt.toNat j.toInt.toNat : Int)), i, j) (zw_W_I (zw_W_I (zw_W_I W))) (xFv_I (xFv_I (xFv_I hF))) ⟨zw_ne (zw_ne zw_eq rfl) rfl, zw_ne zw_eq rfl, zw_eq⟩ (by omega) (by omega) (zw_gt (zw_gt l0 rfl rfl) rfl rfl) (zw_gt (zw_gt l1 rfl rfl) rfl rfl) (zw_gt (zw_gt l2 rfl rfl) rfl rfl) (zw_gt (zw_gt l3 rfl rfl) rfl rfl) (zw_gt (zw_gt l4 rfl rfl) rfl rfl) zw_g1 (fun H1 lv1 w1 w2 w3 => hP H1 lv1 w1 w2 (by rw [xCj_y h2]; exact w3))

theorem yc_cpI13 {L : Nat} {σ : Nat → Int32} {d : Nat} {P : zp_X → Prop} {H0 : zp_H} {a b : Int32} (ha : 0 ≤ a.toInt ∧ a.toInt < 8) (hb : 0 ≤ b.toInt ∧ b.toInt < 8) (hma : 0 ≤ (H0.2.1 16 a.toInt.toNat).toInt ∧ (H0.2.1 16 a.toInt.toNat).toInt ≤ 8) (hmb : 0 ≤ (H0.2.1 16 b.toInt.toNat).toInt ∧ (H0.2.1 16 b.toInt.toNat).toInt ≤ 8) : ∀ (n : Nat) (H : zp_H) (lv : zp_LV) (i : Int32) (r : xT3), zw_W H → xFv 71 H0 H → xL3 H r → 0 ≤ i.toInt → i.toInt + n = (H0.2.1 16 a.toInt.toNat).toInt → zp_get lv 0 = some (.inr (.inr (some 72))) → zp_get lv 1 = some (.inr (.inr (some 14))) → zp_get lv 2 = some (.inl a) → zp_get lv 3 = some (.inl b) → zp_get lv 4 = some (.inl i) → (∀ H1, zw_W H1 → xFv 71 H0 H1 → xL3 H1 (xCi (xAl H0 13 a.toInt.toNat b.toInt.toNat) (H0.2.1 16 b.toInt.toNat).toInt.toNat n i r) → P (.inl none, H1)) → zs_Safe L σ P zm_164 [] (d + 2) (18, lv, [], H, (0, 0)) := by
  intro n
  induction n with
  | zero =>
    intro H lv i r W hF hr h5 hn l0 l1 l2 l3 l4 hP
    have em : ∀ k, H.2.1 16 k = H0.2.1 16 k := fun k => hF.2.2.1 _ _ (by decide)
    refine zw_ld (n := 2) (k := 4) (f := zp_isI) (pc' := 20) rfl rfl l4 rfl rfl ?_
    refine zw_ld (n := 1) (k := 1) (f := zp_isR) (pc' := 21) rfl rfl l1 rfl rfl ?_
    refine zw_gR (q := 13) (pc' := 24) W rfl rfl rfl rfl (W.2 13 3 _ rfl) rfl ?_
    refine zw_ld (n := 1) (k := 2) (f := zp_isI) (pc' := 25) rfl rfl l2 rfl rfl ?_
    refine zw_ia (q := 16) (pc' := 26) W rfl rfl (by decide) (⟨ha.1, by show _ < ((8 : Nat) : Int); omega⟩) rfl rfl ?_
    rw [em]
    refine zw_bge2 (g := 94) (pc' := 29) rfl rfl rfl rfl rfl (fun h1 => ?_) (fun h1 => ?_)
    · refine zw_rn rfl rfl ?_
      exact hP H W hF hr
    · omega
  | succ n ih =>
    intro H lv i r W hF hr h5 hn l0 l1 l2 l3 l4 hP
    have em : ∀ k, H.2.1 16 k = H0.2.1 16 k := fun k => hF.2.2.1 _ _ (by decide)
    refine zw_ld (n := 2) (k := 4) (f := zp_isI) (pc' := 20) rfl rfl l4 rfl rfl ?_
    refine zw_ld (n := 1) (k := 1) (f := zp_isR) (pc' := 21) rfl rfl l1 rfl rfl ?_
    refine zw_gR (q := 13) (pc' := 24) W rfl rfl rfl rfl (W.2 13 3 _ rfl) rfl ?_
    refine zw_ld (n := 1) (k := 2) (f := zp_isI) (pc' := 25) rfl rfl l2 rfl rfl ?_
    refine zw_ia (q := 16) (pc' := 26) W rfl rfl (by decide) (⟨ha.1, by show _ < ((8 : Nat) : Int); omega⟩) rfl rfl ?_
    rw [em]
    refine zw_bge2 (g := 94) (pc' := 29) rfl rfl rfl rfl rfl (fun h1 => ?_) (fun h1 => ?_)
    · omega
    · have ei : (i + Int32.ofInt 1).toInt = i.toInt + 1 := zw_p1 (by omega)
      refine zw_s (pc' := 30) rfl rfl ?_
      refine zw_st (n := 2) (k := 5) (f := zp_isI) (pc' := 32) rfl rfl rfl rfl rfl ?_
      refine yc_cpJ13 (a := a) (b := b) (i := i) ha hb hma hmb ⟨h5, h1⟩ (H0.2.1 16 b.toInt.toNat).toInt.toNat H _ (Int32.ofInt 0) r W hF hr (by decide) (by rw [show (Int32.ofInt 0).toInt = 0 by decide]; omega) (zw_gt l0 rfl rfl) (zw_gt l1 rfl rfl) (zw_gt l2 rfl rfl) (zw_gt l3 rfl rfl) (zw_gt l4 rfl rfl) zw_g1 (fun H1 lv1 w1 w2 w3 m0 m1 m2 m3 m4 => ?_)
      refine zw_ii (pc' := 91) rfl m4 rfl rfl ?_
      refine zw_s (pc' := 18) rfl rfl ?_
      exact ih H1 _ (i + Int32.ofInt 1) _ w1 w2 w3 (by omega) (by omega) (zw_gt m0 rfl rfl) (zw_gt m1 rfl rfl) (zw_gt m2 rfl rfl) (zw_gt m3 rfl rfl) zw_g1 hP

theorem yc_cp13 {L : Nat} {σ : Nat → Int32} {d : Nat} {H : zp_H} {a b : Int32} (W : zw_W H) (ha : 0 ≤ a.toInt ∧ a.toInt < 8) (hb : 0 ≤ b.toInt ∧ b.toInt < 8) (hma : 0 ≤ (H.2.1 16 a.toInt.toNat).toInt ∧ (H.2.1 16 a.toInt.toNat).toInt ≤ 8) (hmb : 0 ≤ (H.2.1 16 b.toInt.toNat).toInt ∧ (H.2.1 16 b.toInt.toNat).toInt ≤ 8) : ∃ X, zp_Call L σ (d + 3) 164 [.inr (.inr (some 72)), .inr (.inr (some 14)), .inl a, .inl b] H X ∧ ∃ H1, X = (.inl none, H1) ∧ zw_W H1 ∧ xFv 71 H H1 ∧ xL3 H1 (xCi (xAl H 13 a.toInt.toNat b.toInt.toNat) (H.2.1 16 b.toInt.toNat).toInt.toNat (H.2.1 16 a.toInt.toNat).toInt.toNat (Int32.ofInt 0) (Int32.ofInt 0, Int32.ofInt (-1), Int32.ofInt (-1))) := by
  refine zw_met zm_164_t rfl rfl ?_
  refine zw_ld (n := 1) (k := 0) (f := zp_isR) (pc' := 1) rfl rfl rfl rfl rfl ?_
  refine zw_s (pc' := 2) rfl rfl ?_
  refine zw_pI (q := 71) (pc' := 5) W rfl rfl rfl rfl rfl rfl ?_
  refine zw_ld (n := 1) (k := 0) (f := zp_isR) (pc' := 6) rfl rfl rfl rfl rfl ?_
  refine zw_s (pc' := 7) rfl rfl ?_
  refine zw_pI (q := 71) (pc' := 10) (zw_W_I W) rfl rfl rfl rfl rfl rfl ?_
  refine zw_ld (n := 1) (k := 0) (f := zp_isR) (pc' := 11) rfl rfl rfl rfl rfl ?_
  refine zw_s (pc' := 12) rfl rfl ?_
  refine zw_pI (q := 71) (pc' := 15) (zw_W_I (zw_W_I W)) rfl rfl rfl rfl rfl rfl ?_
  refine zw_s (pc' := 16) rfl rfl ?_
  refine zw_st (n := 2) (k := 4) (f := zp_isI) (pc' := 18) rfl rfl rfl rfl rfl ?_
  exact yc_cpI13 (H0 := H) ha hb hma hmb (H.2.1 16 a.toInt.toNat).toInt.toNat _ _ (Int32.ofInt 0) (Int32.ofInt 0, Int32.ofInt (-1), Int32.ofInt (-1)) (zw_W_I (zw_W_I (zw_W_I W))) (xFv_I (xFv_I (xFv_I (xFv_r H)))) ⟨zw_ne (zw_ne zw_eq rfl) rfl, zw_ne zw_eq rfl, zw_eq⟩ (by decide) (by rw [show (Int32.ofInt 0).toInt = 0 by decide]; omega) (zw_gt rfl rfl rfl) (zw_gt rfl rfl rfl) (zw_gt rfl rfl rfl) (zw_gt rfl rfl rfl) zw_g1 (fun H1 w1 w2 w3 => ⟨H1, rfl, w1, w2, w3⟩)

theorem yc_alL33 {L : Nat} {σ : Nat → Int32} {d : Nat} {P : zp_X → Prop} {H : zp_H} {a b i j lg : Int32} (W : zw_W H) (ha : 0 ≤ a.toInt ∧ a.toInt < 8) (hb : 0 ≤ b.toInt ∧ b.toInt < 8) (hi : 0 ≤ i.toInt ∧ i.toInt + lg.toInt ≤ 8) (hj : 0 ≤ j.toInt ∧ j.toInt + lg.toInt ≤ 8) : ∀ (n : Nat) (lv : zp_LV) (k : Int32), 0 ≤ k.toInt → k.toInt + n = lg.toInt → zp_get lv 0 = some (.inr (.inr (some 34))) → zp_get lv 1 = some (.inl a) → zp_get lv 2 = some (.inl i) → zp_get lv 3 = some (.inl b) → zp_get lv 4 = some (.inl j) → zp_get lv 5 = some (.inl lg) → zp_get lv 6 = some (.inl k) → P (.inl (some (.inl (Int32.ofInt (k.toInt + (xAk (xEq (fun k => H.2.1 38 (8 * a.toInt.toNat + k)) (fun k => H.2.1 39 (8 * a.toInt.toNat + k)) (fun k => H.2.1 38 (8 * b.toInt.toNat + k)) (fun k => H.2.1 39 (8 * b.toInt.toNat + k))) n (i.toInt.toNat + k.toInt.toNat) (j.toInt.toNat + k.toInt.toNat) : Int))))), H) → zs_Safe L σ P zm_165 [] (d + 1) (25, lv, [], H, (0, 0)) := by
  intro n
  induction n with
  | zero =>
    intro lv k h5 hn l0 l1 l2 l3 l4 l5 l6 hP
    refine zw_ld (n := 2) (k := 6) (f := zp_isI) (pc' := 27) rfl rfl l6 rfl rfl ?_
    refine zw_ld (n := 2) (k := 5) (f := zp_isI) (pc' := 29) rfl rfl l5 rfl rfl ?_
    refine zw_bge2 (g := 82) (pc' := 32) rfl rfl rfl rfl rfl (fun h1 => ?_) (fun h1 => ?_)
    · refine zw_ld (n := 2) (k := 6) (f := zp_isI) (pc' := 84) rfl rfl l6 rfl rfl ?_
      refine zw_ri rfl rfl ?_
      have hP : P (.inl (some (.inl (Int32.ofInt (k.toInt + ((0 : Nat) : Int))))), H) := hP
      rw [x_k0] at hP
      exact hP
    · omega
  | succ n ih =>
    intro lv k h5 hn l0 l1 l2 l3 l4 l5 l6 hP
    have e1 : (i + k).toInt = i.toInt + k.toInt := zq_add (by omega) (by omega)
    have e2 : (j + k).toInt = j.toInt + k.toInt := zq_add (by omega) (by omega)
    have e3 : (i + k).toInt.toNat = i.toInt.toNat + k.toInt.toNat := by omega
    have e4 : (j + k).toInt.toNat = j.toInt.toNat + k.toInt.toNat := by omega
    have e5 : (k + Int32.ofInt 1).toInt = k.toInt + 1 := zw_p1 (by omega)
    have e6 : (k + Int32.ofInt 1).toInt.toNat = k.toInt.toNat + 1 := by omega
    refine zw_ld (n := 2) (k := 6) (f := zp_isI) (pc' := 27) rfl rfl l6 rfl rfl ?_
    refine zw_ld (n := 2) (k := 5) (f := zp_isI) (pc' := 29) rfl rfl l5 rfl rfl ?_
    refine zw_bge2 (g := 82) (pc' := 32) rfl rfl rfl rfl rfl (fun h1 => ?_) (fun h1 => ?_)
    · omega
    · refine zw_ld (n := 1) (k := 0) (f := zp_isR) (pc' := 33) rfl rfl l0 rfl rfl ?_
      refine zw_ld (n := 1) (k := 1) (f := zp_isI) (pc' := 34) rfl rfl l1 rfl rfl ?_
      refine zw_ld (n := 1) (k := 2) (f := zp_isI) (pc' := 35) rfl rfl l2 rfl rfl ?_
      refine zw_ld (n := 2) (k := 6) (f := zp_isI) (pc' := 37) rfl rfl l6 rfl rfl ?_
      refine zw_iadd (pc' := 38) rfl rfl ?_
      refine zw_c (pc' := 41) (zw_cv (q := 33) (Y := zm_26) W.1 rfl rfl zm_26_t rfl rfl) rfl rfl rfl rfl rfl (yc_wayOf33 W ha ⟨by omega, by omega⟩) ?_
      refine zw_ld (n := 1) (k := 0) (f := zp_isR) (pc' := 42) rfl rfl l0 rfl rfl ?_
      refine zw_ld (n := 1) (k := 3) (f := zp_isI) (pc' := 43) rfl rfl l3 rfl rfl ?_
      refine zw_ld (n := 2) (k := 4) (f := zp_isI) (pc' := 45) rfl rfl l4 rfl rfl ?_
      refine zw_ld (n := 2) (k := 6) (f := zp_isI) (pc' := 47) rfl rfl l6 rfl rfl ?_
      refine zw_iadd (pc' := 48) rfl rfl ?_
      refine zw_c (pc' := 51) (zw_cv (q := 33) (Y := zm_26) W.1 rfl rfl zm_26_t rfl rfl) rfl rfl rfl rfl rfl (yc_wayOf33 W hb ⟨by omega, by omega⟩) ?_
      rw [e3, e4]
      refine zw_bne2 (g := 82) (pc' := 54) rfl rfl rfl rfl rfl (fun h2 => ?_) (fun h2 => ?_)
      · have hE : ¬ (xEq (fun k => H.2.1 38 (8 * a.toInt.toNat + k)) (fun k => H.2.1 39 (8 * a.toInt.toNat + k)) (fun k => H.2.1 38 (8 * b.toInt.toNat + k)) (fun k => H.2.1 39 (8 * b.toInt.toNat + k))) (i.toInt.toNat + k.toInt.toNat) (j.toInt.toNat + k.toInt.toNat) = true := fun h9 => h2 (congrArg Int32.toInt (xEq_t.mp h9).1)
        rw [xAk_n hE, x_k0] at hP
        refine zw_ld (n := 2) (k := 6) (f := zp_isI) (pc' := 84) rfl rfl l6 rfl rfl ?_
        refine zw_ri rfl rfl ?_
        exact hP
      · refine zw_ld (n := 1) (k := 0) (f := zp_isR) (pc' := 55) rfl rfl l0 rfl rfl ?_
        refine zw_ld (n := 1) (k := 1) (f := zp_isI) (pc' := 56) rfl rfl l1 rfl rfl ?_
        refine zw_ld (n := 1) (k := 2) (f := zp_isI) (pc' := 57) rfl rfl l2 rfl rfl ?_
        refine zw_ld (n := 2) (k := 6) (f := zp_isI) (pc' := 59) rfl rfl l6 rfl rfl ?_
        refine zw_iadd (pc' := 60) rfl rfl ?_
        refine zw_c (pc' := 63) (zw_cv (q := 33) (Y := zm_27) W.1 rfl rfl zm_27_t rfl rfl) rfl rfl rfl rfl rfl (yc_stepsOf33 W ha ⟨by omega, by omega⟩) ?_
        refine zw_ld (n := 1) (k := 0) (f := zp_isR) (pc' := 64) rfl rfl l0 rfl rfl ?_
        refine zw_ld (n := 1) (k := 3) (f := zp_isI) (pc' := 65) rfl rfl l3 rfl rfl ?_
        refine zw_ld (n := 2) (k := 4) (f := zp_isI) (pc' := 67) rfl rfl l4 rfl rfl ?_
        refine zw_ld (n := 2) (k := 6) (f := zp_isI) (pc' := 69) rfl rfl l6 rfl rfl ?_
        refine zw_iadd (pc' := 70) rfl rfl ?_
        refine zw_c (pc' := 73) (zw_cv (q := 33) (Y := zm_27) W.1 rfl rfl zm_27_t rfl rfl) rfl rfl rfl rfl rfl (yc_stepsOf33 W hb ⟨by omega, by omega⟩) ?_
        rw [e3, e4]
        refine zw_bne2 (g := 82) (pc' := 76) rfl rfl rfl rfl rfl (fun h3 => ?_) (fun h3 => ?_)
        · have hE : ¬ (xEq (fun k => H.2.1 38 (8 * a.toInt.toNat + k)) (fun k => H.2.1 39 (8 * a.toInt.toNat + k)) (fun k => H.2.1 38 (8 * b.toInt.toNat + k)) (fun k => H.2.1 39 (8 * b.toInt.toNat + k))) (i.toInt.toNat + k.toInt.toNat) (j.toInt.toNat + k.toInt.toNat) = true := fun h9 => h3 (congrArg Int32.toInt (xEq_t.mp h9).2)
          rw [xAk_n hE, x_k0] at hP
          refine zw_ld (n := 2) (k := 6) (f := zp_isI) (pc' := 84) rfl rfl l6 rfl rfl ?_
          refine zw_ri rfl rfl ?_
          exact hP
        · have hE : (xEq (fun k => H.2.1 38 (8 * a.toInt.toNat + k)) (fun k => H.2.1 39 (8 * a.toInt.toNat + k)) (fun k => H.2.1 38 (8 * b.toInt.toNat + k)) (fun k => H.2.1 39 (8 * b.toInt.toNat + k))) (i.toInt.toNat + k.toInt.toNat) (j.toInt.toNat + k.toInt.toNat) = true := xEq_t.mpr ⟨Int32.toInt_inj.mp h2, Int32.toInt_inj.mp h3⟩
          rw [xAk_y hE, x_k1] at hP
          refine zw_ii (pc' := 79) rfl l6 rfl rfl ?_
          refine zw_s (pc' := 25) rfl rfl ?_
          exact ih _ (k + Int32.ofInt 1) (by omega) (by omega) (zw_gt l0 rfl rfl) (zw_gt l1 rfl rfl) (zw_gt l2 rfl rfl) (zw_gt l3 rfl rfl) (zw_gt l4 rfl rfl) (zw_gt l5 rfl rfl) zw_g1 (by rw [e6, e5]; exact hP)

theorem yc_al33 {L : Nat} {σ : Nat → Int32} {d : Nat} {H : zp_H} {a i b j : Int32} (W : zw_W H) (ha : 0 ≤ a.toInt ∧ a.toInt < 8) (hb : 0 ≤ b.toInt ∧ b.toInt < 8) (hma : 0 ≤ (H.2.1 36 a.toInt.toNat).toInt ∧ (H.2.1 36 a.toInt.toNat).toInt ≤ 8) (hmb : 0 ≤ (H.2.1 36 b.toInt.toNat).toInt ∧ (H.2.1 36 b.toInt.toNat).toInt ≤ 8) (hi : 0 ≤ i.toInt ∧ i.toInt < (H.2.1 36 a.toInt.toNat).toInt) (hj : 0 ≤ j.toInt ∧ j.toInt < (H.2.1 36 b.toInt.toNat).toInt) : zp_Call L σ (d + 2) 165 [.inr (.inr (some 34)), .inl a, .inl i, .inl b, .inl j] H (.inl (some (.inl (Int32.ofInt (xAl H 33 a.toInt.toNat b.toInt.toNat i.toInt.toNat j.toInt.toNat : Int)))), H) := by
  have d1 : ((H.2.1 36 a.toInt.toNat) - i).toInt = (H.2.1 36 a.toInt.toNat).toInt - i.toInt := zq_sub (by omega) (by omega)
  have d2 : ((H.2.1 36 b.toInt.toNat) - j).toInt = (H.2.1 36 b.toInt.toNat).toInt - j.toInt := zq_sub (by omega) (by omega)
  refine zw_ex (zw_met zm_165_t rfl rfl ?_)
  refine zw_ld (n := 1) (k := 0) (f := zp_isR) (pc' := 1) rfl rfl rfl rfl rfl ?_
  refine zw_gR (q := 33) (pc' := 4) W rfl rfl rfl rfl (W.2 33 3 _ rfl) rfl ?_
  refine zw_ld (n := 1) (k := 1) (f := zp_isI) (pc' := 5) rfl rfl rfl rfl rfl ?_
  refine zw_ia (q := 36) (pc' := 6) W rfl rfl (by decide) (⟨ha.1, by show _ < ((8 : Nat) : Int); omega⟩) rfl rfl ?_
  refine zw_ld (n := 1) (k := 2) (f := zp_isI) (pc' := 7) rfl rfl rfl rfl rfl ?_
  refine zw_isub (pc' := 8) rfl rfl ?_
  refine zw_ld (n := 1) (k := 0) (f := zp_isR) (pc' := 9) rfl rfl rfl rfl rfl ?_
  refine zw_gR (q := 33) (pc' := 12) W rfl rfl rfl rfl (W.2 33 3 _ rfl) rfl ?_
  refine zw_ld (n := 1) (k := 3) (f := zp_isI) (pc' := 13) rfl rfl rfl rfl rfl ?_
  refine zw_ia (q := 36) (pc' := 14) W rfl rfl (by decide) (⟨hb.1, by show _ < ((8 : Nat) : Int); omega⟩) rfl rfl ?_
  refine zw_ld (n := 2) (k := 4) (f := zp_isI) (pc' := 16) rfl rfl rfl rfl rfl ?_
  refine zw_isub (pc' := 17) rfl rfl ?_
  refine zw_c (pc' := 20) (zw_cs (Y := zm_54) rfl rfl zm_54_t) rfl rfl rfl rfl rfl (yc_mn) ?_
  obtain ⟨lg, hlg⟩ : ∃ lg : Int32, lg = (if ((H.2.1 36 a.toInt.toNat) - i).toInt ≤ ((H.2.1 36 b.toInt.toNat) - j).toInt then (H.2.1 36 a.toInt.toNat) - i else (H.2.1 36 b.toInt.toNat) - j) := ⟨_, rfl⟩
  have hl : lg.toInt = ((min ((H.2.1 36 a.toInt.toNat).toInt.toNat - i.toInt.toNat) ((H.2.1 36 b.toInt.toNat).toInt.toNat - j.toInt.toNat) : Nat) : Int) := by
    rw [hlg]
    by_cases h : ((H.2.1 36 a.toInt.toNat) - i).toInt ≤ ((H.2.1 36 b.toInt.toNat) - j).toInt
    · rw [if_pos h]; omega
    · rw [if_neg h]; omega
  rw [← hlg]
  refine zw_st (n := 2) (k := 5) (f := zp_isI) (pc' := 22) rfl rfl rfl rfl rfl ?_
  refine zw_s (pc' := 23) rfl rfl ?_
  refine zw_st (n := 2) (k := 6) (f := zp_isI) (pc' := 25) rfl rfl rfl rfl rfl ?_
  refine yc_alL33 (lg := lg) W ha hb ⟨hi.1, by omega⟩ ⟨hj.1, by omega⟩ (min ((H.2.1 36 a.toInt.toNat).toInt.toNat - i.toInt.toNat) ((H.2.1 36 b.toInt.toNat).toInt.toNat - j.toInt.toNat)) _ (Int32.ofInt 0) (by decide) (by rw [show (Int32.ofInt 0).toInt = 0 by decide]; omega) (zw_gt (zw_gt rfl rfl rfl) rfl rfl) (zw_gt (zw_gt rfl rfl rfl) rfl rfl) (zw_gt (zw_gt rfl rfl rfl) rfl rfl) (zw_gt (zw_gt rfl rfl rfl) rfl rfl) (zw_gt (zw_gt rfl rfl rfl) rfl rfl) (zw_gt zw_g1 rfl rfl) zw_g1 (x_rv (congrArg Int32.ofInt ?_))
  rw [show (Int32.ofInt 0).toInt = 0 by decide]
  exact Int.zero_add _

theorem yc_cpJ33 {L : Nat} {σ : Nat → Int32} {d : Nat} {P : zp_X → Prop} {H0 : zp_H} {a b i : Int32} (ha : 0 ≤ a.toInt ∧ a.toInt < 8) (hb : 0 ≤ b.toInt ∧ b.toInt < 8) (hma : 0 ≤ (H0.2.1 36 a.toInt.toNat).toInt ∧ (H0.2.1 36 a.toInt.toNat).toInt ≤ 8) (hmb : 0 ≤ (H0.2.1 36 b.toInt.toNat).toInt ∧ (H0.2.1 36 b.toInt.toNat).toInt ≤ 8) (hi : 0 ≤ i.toInt ∧ i.toInt < (H0.2.1 36 a.toInt.toNat).toInt) : ∀ (n : Nat) (H : zp_H) (lv : zp_LV) (j : Int32) (r : xT3), zw_W H → xFv 71 H0 H → xL3 H r → 0 ≤ j.toInt → j.toInt + n = (H0.2.1 36 b.toInt.toNat).toInt → zp_get lv 0 = some (.inr (.inr (some 72))) → zp_get lv 1 = some (.inr (.inr (some 34))) → zp_get lv 2 = some (.inl a) → zp_get lv 3 = some (.inl b) → zp_get lv 4 = some (.inl i) → zp_get lv 5 = some (.inl j) → (∀ H1 lv1, zw_W H1 → xFv 71 H0 H1 → xL3 H1 (xCj (xAl H0 33 a.toInt.toNat b.toInt.toNat) i n j r) → zp_get lv1 0 = some (.inr (.inr (some 72))) → zp_get lv1 1 = some (.inr (.inr (some 34))) → zp_get lv1 2 = some (.inl a) → zp_get lv1 3 = some (.inl b) → zp_get lv1 4 = some (.inl i) → zs_Safe L σ P zm_164 [] (d + 2) (88, lv1, [], H1, (0, 0))) → zs_Safe L σ P zm_164 [] (d + 2) (32, lv, [], H, (0, 0)) := by
  intro n
  induction n with
  | zero =>
    intro H lv j r W hF hr h5 hn l0 l1 l2 l3 l4 l5 hP
    have em : ∀ k, H.2.1 36 k = H0.2.1 36 k := fun k => hF.2.2.1 _ _ (by decide)
    refine zw_ld (n := 2) (k := 5) (f := zp_isI) (pc' := 34) rfl rfl l5 rfl rfl ?_
    refine zw_ld (n := 1) (k := 1) (f := zp_isR) (pc' := 35) rfl rfl l1 rfl rfl ?_
    refine zw_gR (q := 33) (pc' := 38) W rfl rfl rfl rfl (W.2 33 3 _ rfl) rfl ?_
    refine zw_ld (n := 1) (k := 3) (f := zp_isI) (pc' := 39) rfl rfl l3 rfl rfl ?_
    refine zw_ia (q := 36) (pc' := 40) W rfl rfl (by decide) (⟨hb.1, by show _ < ((8 : Nat) : Int); omega⟩) rfl rfl ?_
    rw [em]
    refine zw_bge2 (g := 88) (pc' := 43) rfl rfl rfl rfl rfl (fun h1 => ?_) (fun h1 => ?_)
    · exact hP H lv W hF hr l0 l1 l2 l3 l4
    · omega
  | succ n ih =>
    intro H lv j r W hF hr h5 hn l0 l1 l2 l3 l4 l5 hP
    have em : ∀ k, H.2.1 36 k = H0.2.1 36 k := fun k => hF.2.2.1 _ _ (by decide)
    refine zw_ld (n := 2) (k := 5) (f := zp_isI) (pc' := 34) rfl rfl l5 rfl rfl ?_
    refine zw_ld (n := 1) (k := 1) (f := zp_isR) (pc' := 35) rfl rfl l1 rfl rfl ?_
    refine zw_gR (q := 33) (pc' := 38) W rfl rfl rfl rfl (W.2 33 3 _ rfl) rfl ?_
    refine zw_ld (n := 1) (k := 3) (f := zp_isI) (pc' := 39) rfl rfl l3 rfl rfl ?_
    refine zw_ia (q := 36) (pc' := 40) W rfl rfl (by decide) (⟨hb.1, by show _ < ((8 : Nat) : Int); omega⟩) rfl rfl ?_
    rw [em]
    refine zw_bge2 (g := 88) (pc' := 43) rfl rfl rfl rfl rfl (fun h1 => ?_) (fun h1 => ?_)
    · omega
    · have qa := yc_al33 (L := L) (σ := σ) (d := d) (a := a) (i := i) (b := b) (j := j) W ha hb (by rw [em]; exact hma) (by rw [em]; exact hmb) (by rw [em]; exact hi) (by rw [em]; exact ⟨h5, by omega⟩)
      rw [xAl_f (cp := 33) hF (by decide)] at qa
      have hb8 := xAl_b (H := H0) (cp := 33) (a := a.toInt.toNat) (b := b.toInt.toNat) (i := i.toInt.toNat) (j := j.toInt.toNat) hma.2
      have ea : (Int32.ofInt ((xAl H0 33 a.toInt.toNat b.toInt.toNat) i.toInt.toNat j.toInt.toNat : Int)).toInt = ((xAl H0 33 a.toInt.toNat b.toInt.toNat) i.toInt.toNat j.toInt.toNat : Int) := x_of (by omega) (by omega)
      have ej : (j + Int32.ofInt 1).toInt = j.toInt + 1 := zw_p1 (by omega)
      obtain ⟨r0, r1, r2⟩ := id hr
      refine zw_ld (n := 1) (k := 1) (f := zp_isR) (pc' := 44) rfl rfl l1 rfl rfl ?_
      refine zw_ld (n := 1) (k := 2) (f := zp_isI) (pc' := 45) rfl rfl l2 rfl rfl ?_
      refine zw_ld (n := 2) (k := 4) (f := zp_isI) (pc' := 47) rfl rfl l4 rfl rfl ?_
      refine zw_ld (n := 1) (k := 3) (f := zp_isI) (pc' := 48) rfl rfl l3 rfl rfl ?_
      refine zw_ld (n := 2) (k := 5) (f := zp_isI) (pc' := 50) rfl rfl l5 rfl rfl ?_
      refine zw_c (pc' := 53) (zw_cs (Y := zm_165) rfl rfl zm_165_t) rfl rfl rfl rfl rfl (qa) ?_
      refine zw_st (n := 2) (k := 6) (f := zp_isI) (pc' := 55) rfl rfl rfl rfl rfl ?_
      refine zw_ld (n := 2) (k := 6) (f := zp_isI) (pc' := 57) rfl rfl zw_g1 rfl rfl ?_
      refine zw_ld (n := 1) (k := 0) (f := zp_isR) (pc' := 58) rfl rfl (zw_gt l0 rfl rfl) rfl rfl ?_
      refine zw_gI (q := 71) (pc' := 61) W rfl rfl rfl rfl rfl rfl ?_
      refine zw_ble2 (g := 82) (pc' := 64) rfl rfl rfl rfl rfl (fun h2 => ?_) (fun h2 => ?_)
      · have h2 : (Int32.ofInt ((xAl H0 33 a.toInt.toNat b.toInt.toNat) i.toInt.toNat j.toInt.toNat : Int)).toInt ≤ (H.2.1 71 0).toInt := h2
        rw [ea, r0] at h2
        have h3 : ¬ r.1.toInt < ((xAl H0 33 a.toInt.toNat b.toInt.toNat) i.toInt.toNat j.toInt.toNat : Int) := by omega
        refine zw_ii (pc' := 85) rfl (zw_gt l5 rfl rfl) rfl rfl ?_
        refine zw_s (pc' := 32) rfl rfl ?_
        exact ih H _ (j + Int32.ofInt 1) r W hF hr (by omega) (by omega) (zw_gt (zw_gt l0 rfl rfl) rfl rfl) (zw_gt (zw_gt l1 rfl rfl) rfl rfl) (zw_gt (zw_gt l2 rfl rfl) rfl rfl) (zw_gt (zw_gt l3 rfl rfl) rfl rfl) (zw_gt (zw_gt l4 rfl rfl) rfl rfl) zw_g1 (fun H1 lv1 w1 w2 w3 => hP H1 lv1 w1 w2 (by rw [xCj_n h3]; exact w3))
      · have h2 : (H.2.1 71 0).toInt < (Int32.ofInt ((xAl H0 33 a.toInt.toNat b.toInt.toNat) i.toInt.toNat j.toInt.toNat : Int)).toInt := h2
        rw [ea, r0] at h2
        refine zw_ld (n := 1) (k := 0) (f := zp_isR) (pc' := 65) rfl rfl (zw_gt l0 rfl rfl) rfl rfl ?_
        refine zw_ld (n := 2) (k := 6) (f := zp_isI) (pc' := 67) rfl rfl zw_g1 rfl rfl ?_
        refine zw_pI (q := 71) (pc' := 70) W rfl rfl rfl rfl rfl rfl ?_
        refine zw_ld (n := 1) (k := 0) (f := zp_isR) (pc' := 71) rfl rfl (zw_gt l0 rfl rfl) rfl rfl ?_
        refine zw_ld (n := 2) (k := 4) (f := zp_isI) (pc' := 73) rfl rfl (zw_gt l4 rfl rfl) rfl rfl ?_
        refine zw_pI (q := 71) (pc' := 76) (zw_W_I W) rfl rfl rfl rfl rfl rfl ?_
        refine zw_ld (n := 1) (k := 0) (f := zp_isR) (pc' := 77) rfl rfl (zw_gt l0 rfl rfl) rfl rfl ?_
        refine zw_ld (n := 2) (k := 5) (f := zp_isI) (pc' := 79) rfl rfl (zw_gt l5 rfl rfl) rfl rfl ?_
        refine zw_pI (q := 71) (pc' := 82) (zw_W_I (zw_W_I W)) rfl rfl rfl rfl rfl rfl ?_
        refine zw_ii (pc' := 85) rfl (zw_gt l5 rfl rfl) rfl rfl ?_
        refine zw_s (pc' := 32) rfl rfl ?_
        exact ih _ _ (j + Int32.ofInt 1) ((Int32.ofInt ((xAl H0 33 a.toInt.toNat b.toInt.toNat) i.toInt.toNat j.toInt.toNat : Int)), i, j) (zw_W_I (zw_W_I (zw_W_I W))) (xFv_I (xFv_I (xFv_I hF))) ⟨zw_ne (zw_ne zw_eq rfl) rfl, zw_ne zw_eq rfl, zw_eq⟩ (by omega) (by omega) (zw_gt (zw_gt l0 rfl rfl) rfl rfl) (zw_gt (zw_gt l1 rfl rfl) rfl rfl) (zw_gt (zw_gt l2 rfl rfl) rfl rfl) (zw_gt (zw_gt l3 rfl rfl) rfl rfl) (zw_gt (zw_gt l4 rfl rfl) rfl rfl) zw_g1 (fun H1 lv1 w1 w2 w3 => hP H1 lv1 w1 w2 (by rw [xCj_y h2]; exact w3))

theorem yc_cpI33 {L : Nat} {σ : Nat → Int32} {d : Nat} {P : zp_X → Prop} {H0 : zp_H} {a b : Int32} (ha : 0 ≤ a.toInt ∧ a.toInt < 8) (hb : 0 ≤ b.toInt ∧ b.toInt < 8) (hma : 0 ≤ (H0.2.1 36 a.toInt.toNat).toInt ∧ (H0.2.1 36 a.toInt.toNat).toInt ≤ 8) (hmb : 0 ≤ (H0.2.1 36 b.toInt.toNat).toInt ∧ (H0.2.1 36 b.toInt.toNat).toInt ≤ 8) : ∀ (n : Nat) (H : zp_H) (lv : zp_LV) (i : Int32) (r : xT3), zw_W H → xFv 71 H0 H → xL3 H r → 0 ≤ i.toInt → i.toInt + n = (H0.2.1 36 a.toInt.toNat).toInt → zp_get lv 0 = some (.inr (.inr (some 72))) → zp_get lv 1 = some (.inr (.inr (some 34))) → zp_get lv 2 = some (.inl a) → zp_get lv 3 = some (.inl b) → zp_get lv 4 = some (.inl i) → (∀ H1, zw_W H1 → xFv 71 H0 H1 → xL3 H1 (xCi (xAl H0 33 a.toInt.toNat b.toInt.toNat) (H0.2.1 36 b.toInt.toNat).toInt.toNat n i r) → P (.inl none, H1)) → zs_Safe L σ P zm_164 [] (d + 2) (18, lv, [], H, (0, 0)) := by
  intro n
  induction n with
  | zero =>
    intro H lv i r W hF hr h5 hn l0 l1 l2 l3 l4 hP
    have em : ∀ k, H.2.1 36 k = H0.2.1 36 k := fun k => hF.2.2.1 _ _ (by decide)
    refine zw_ld (n := 2) (k := 4) (f := zp_isI) (pc' := 20) rfl rfl l4 rfl rfl ?_
    refine zw_ld (n := 1) (k := 1) (f := zp_isR) (pc' := 21) rfl rfl l1 rfl rfl ?_
    refine zw_gR (q := 33) (pc' := 24) W rfl rfl rfl rfl (W.2 33 3 _ rfl) rfl ?_
    refine zw_ld (n := 1) (k := 2) (f := zp_isI) (pc' := 25) rfl rfl l2 rfl rfl ?_
    refine zw_ia (q := 36) (pc' := 26) W rfl rfl (by decide) (⟨ha.1, by show _ < ((8 : Nat) : Int); omega⟩) rfl rfl ?_
    rw [em]
    refine zw_bge2 (g := 94) (pc' := 29) rfl rfl rfl rfl rfl (fun h1 => ?_) (fun h1 => ?_)
    · refine zw_rn rfl rfl ?_
      exact hP H W hF hr
    · omega
  | succ n ih =>
    intro H lv i r W hF hr h5 hn l0 l1 l2 l3 l4 hP
    have em : ∀ k, H.2.1 36 k = H0.2.1 36 k := fun k => hF.2.2.1 _ _ (by decide)
    refine zw_ld (n := 2) (k := 4) (f := zp_isI) (pc' := 20) rfl rfl l4 rfl rfl ?_
    refine zw_ld (n := 1) (k := 1) (f := zp_isR) (pc' := 21) rfl rfl l1 rfl rfl ?_
    refine zw_gR (q := 33) (pc' := 24) W rfl rfl rfl rfl (W.2 33 3 _ rfl) rfl ?_
    refine zw_ld (n := 1) (k := 2) (f := zp_isI) (pc' := 25) rfl rfl l2 rfl rfl ?_
    refine zw_ia (q := 36) (pc' := 26) W rfl rfl (by decide) (⟨ha.1, by show _ < ((8 : Nat) : Int); omega⟩) rfl rfl ?_
    rw [em]
    refine zw_bge2 (g := 94) (pc' := 29) rfl rfl rfl rfl rfl (fun h1 => ?_) (fun h1 => ?_)
    · omega
    · have ei : (i + Int32.ofInt 1).toInt = i.toInt + 1 := zw_p1 (by omega)
      refine zw_s (pc' := 30) rfl rfl ?_
      refine zw_st (n := 2) (k := 5) (f := zp_isI) (pc' := 32) rfl rfl rfl rfl rfl ?_
      refine yc_cpJ33 (a := a) (b := b) (i := i) ha hb hma hmb ⟨h5, h1⟩ (H0.2.1 36 b.toInt.toNat).toInt.toNat H _ (Int32.ofInt 0) r W hF hr (by decide) (by rw [show (Int32.ofInt 0).toInt = 0 by decide]; omega) (zw_gt l0 rfl rfl) (zw_gt l1 rfl rfl) (zw_gt l2 rfl rfl) (zw_gt l3 rfl rfl) (zw_gt l4 rfl rfl) zw_g1 (fun H1 lv1 w1 w2 w3 m0 m1 m2 m3 m4 => ?_)
      refine zw_ii (pc' := 91) rfl m4 rfl rfl ?_
      refine zw_s (pc' := 18) rfl rfl ?_
      exact ih H1 _ (i + Int32.ofInt 1) _ w1 w2 w3 (by omega) (by omega) (zw_gt m0 rfl rfl) (zw_gt m1 rfl rfl) (zw_gt m2 rfl rfl) (zw_gt m3 rfl rfl) zw_g1 hP

theorem yc_cp33 {L : Nat} {σ : Nat → Int32} {d : Nat} {H : zp_H} {a b : Int32} (W : zw_W H) (ha : 0 ≤ a.toInt ∧ a.toInt < 8) (hb : 0 ≤ b.toInt ∧ b.toInt < 8) (hma : 0 ≤ (H.2.1 36 a.toInt.toNat).toInt ∧ (H.2.1 36 a.toInt.toNat).toInt ≤ 8) (hmb : 0 ≤ (H.2.1 36 b.toInt.toNat).toInt ∧ (H.2.1 36 b.toInt.toNat).toInt ≤ 8) : ∃ X, zp_Call L σ (d + 3) 164 [.inr (.inr (some 72)), .inr (.inr (some 34)), .inl a, .inl b] H X ∧ ∃ H1, X = (.inl none, H1) ∧ zw_W H1 ∧ xFv 71 H H1 ∧ xL3 H1 (xCi (xAl H 33 a.toInt.toNat b.toInt.toNat) (H.2.1 36 b.toInt.toNat).toInt.toNat (H.2.1 36 a.toInt.toNat).toInt.toNat (Int32.ofInt 0) (Int32.ofInt 0, Int32.ofInt (-1), Int32.ofInt (-1))) := by
  refine zw_met zm_164_t rfl rfl ?_
  refine zw_ld (n := 1) (k := 0) (f := zp_isR) (pc' := 1) rfl rfl rfl rfl rfl ?_
  refine zw_s (pc' := 2) rfl rfl ?_
  refine zw_pI (q := 71) (pc' := 5) W rfl rfl rfl rfl rfl rfl ?_
  refine zw_ld (n := 1) (k := 0) (f := zp_isR) (pc' := 6) rfl rfl rfl rfl rfl ?_
  refine zw_s (pc' := 7) rfl rfl ?_
  refine zw_pI (q := 71) (pc' := 10) (zw_W_I W) rfl rfl rfl rfl rfl rfl ?_
  refine zw_ld (n := 1) (k := 0) (f := zp_isR) (pc' := 11) rfl rfl rfl rfl rfl ?_
  refine zw_s (pc' := 12) rfl rfl ?_
  refine zw_pI (q := 71) (pc' := 15) (zw_W_I (zw_W_I W)) rfl rfl rfl rfl rfl rfl ?_
  refine zw_s (pc' := 16) rfl rfl ?_
  refine zw_st (n := 2) (k := 4) (f := zp_isI) (pc' := 18) rfl rfl rfl rfl rfl ?_
  exact yc_cpI33 (H0 := H) ha hb hma hmb (H.2.1 36 a.toInt.toNat).toInt.toNat _ _ (Int32.ofInt 0) (Int32.ofInt 0, Int32.ofInt (-1), Int32.ofInt (-1)) (zw_W_I (zw_W_I (zw_W_I W))) (xFv_I (xFv_I (xFv_I (xFv_r H)))) ⟨zw_ne (zw_ne zw_eq rfl) rfl, zw_ne zw_eq rfl, zw_eq⟩ (by decide) (by rw [show (Int32.ofInt 0).toInt = 0 by decide]; omega) (zw_gt rfl rfl rfl) (zw_gt rfl rfl rfl) (zw_gt rfl rfl rfl) (zw_gt rfl rfl rfl) zw_g1 (fun H1 w1 w2 w3 => ⟨H1, rfl, w1, w2, w3⟩)

theorem yc_cd0_0 {L : Nat} {σ : Nat → Int32} {d : Nat} {H : zp_H} {x1 x2 : Int32} (hB : zk_Bs (zB_c 0) zg zJc H) (h1 : 0 ≤ x1.toInt ∧ x1.toInt < (H.2.1 13 0).toInt) (h2 : 0 ≤ x2.toInt ∧ x2.toInt < (H.2.1 13 0).toInt) (m1 : 0 ≤ (H.2.1 16 x1.toInt.toNat).toInt ∧ (H.2.1 16 x1.toInt.toNat).toInt ≤ 8) (m2 : 0 ≤ (H.2.1 16 x2.toInt.toNat).toInt ∧ (H.2.1 16 x2.toInt.toNat).toInt ≤ 8) (hn : x1.toInt ≠ x2.toInt) : ∃ X, zp_Call L σ (d + 4) 163 [.inr (.inr (some 1)), .inl x1, .inl x2, .inl (Int32.ofInt 0)] H X ∧ ∃ H1, X = (.inl (some (.inl (xCi (xAl H 13 x1.toInt.toNat x2.toInt.toNat) (H.2.1 16 x2.toInt.toNat).toInt.toNat (H.2.1 16 x1.toInt.toNat).toInt.toNat (Int32.ofInt 0) (Int32.ofInt 0, Int32.ofInt (-1), Int32.ofInt (-1))).1)), H1) ∧ xFv 71 H H1 := by
  have W := zB_Wd (zB_dn (zB_Bc hB))
  have g5 : H.2.2.2 0 5 = some 3 := hB.2.1 0 5 _ rfl
  have g6 : H.2.2.2 0 6 = some 14 := hB.2.1 0 6 _ rfl
  have g7 : H.2.2.2 0 7 = some 23 := hB.2.1 0 7 _ rfl
  have g8 : H.2.2.2 0 8 = some 34 := hB.2.1 0 8 _ rfl
  have r13_0 := zB_fr1 (zB_dn (zB_Bc hB)) (p := 13) (k := 0) (r := (0, 8)) rfl
  have r13_0 : 0 ≤ (H.2.1 13 0).toInt ∧ (H.2.1 13 0).toInt ≤ 8 := r13_0
  obtain ⟨_, q1, H1, rfl, W1, q2, r0, r1, r2⟩ := yc_cp13 (L := L) (σ := σ) (d := d) (a := x1) (b := x2) W ⟨h1.1, by omega⟩ ⟨h2.1, by omega⟩ m1 m2
  refine zw_met zm_163_t rfl rfl ?_
  refine zw_ld (n := 1) (k := 0) (f := zp_isR) (pc' := 1) rfl rfl rfl rfl rfl ?_
  refine zw_ld (n := 1) (k := 1) (f := zp_isI) (pc' := 2) rfl rfl rfl rfl rfl ?_
  refine zw_ctn (pc' := 5) (c' := (1, 6)) (zw_cv (q := 0) (Y := zm_108) W.1 rfl rfl zm_108_t rfl rfl) (zw_pb_ok rfl) rfl rfl rfl rfl (yc_ns1_0 hB h1) ?_
  refine zw_ld (n := 1) (k := 0) (f := zp_isR) (pc' := 6) rfl rfl rfl rfl rfl ?_
  refine zw_ld (n := 1) (k := 2) (f := zp_isI) (pc' := 7) rfl rfl rfl rfl rfl ?_
  refine zw_ctn (pc' := 10) (c' := (2, 12)) (zw_cv (q := 0) (Y := zm_108) W.1 rfl rfl zm_108_t rfl rfl) (zw_pb_ok rfl) rfl rfl rfl rfl (yc_ns1_0 hB h2) ?_
  refine zw_ld (n := 1) (k := 3) (f := zp_isI) (pc' := 11) rfl rfl rfl rfl rfl ?_
  refine zw_s (pc' := 12) rfl rfl ?_
  refine zw_ctn (pc' := 15) (c' := (3, 18)) (zw_cs (Y := zm_104) rfl rfl zm_104_t) (zw_pb_ok rfl) rfl rfl rfl rfl (yc_nw1 ⟨by decide, by decide⟩) ?_
  refine zw_ld (n := 1) (k := 1) (f := zp_isI) (pc' := 16) rfl rfl rfl rfl rfl ?_
  refine zw_ld (n := 1) (k := 2) (f := zp_isI) (pc' := 17) rfl rfl rfl rfl rfl ?_
  refine zw_bne2 (g := 31) (pc' := 20) rfl rfl rfl rfl rfl (fun h3 => ?_) (fun h3 => ?_)
  · refine zw_ld (n := 1) (k := 0) (f := zp_isR) (pc' := 32) rfl rfl rfl rfl rfl ?_
    refine zw_gR (q := 0) (pc' := 35) W rfl rfl rfl rfl (W.2 0 17 _ rfl) rfl ?_
    refine zw_ld (n := 1) (k := 0) (f := zp_isR) (pc' := 36) rfl rfl rfl rfl rfl ?_
    refine zw_gR (q := 0) (pc' := 39) W rfl rfl rfl rfl g6 rfl ?_
    refine zw_ld (n := 1) (k := 1) (f := zp_isI) (pc' := 40) rfl rfl rfl rfl rfl ?_
    refine zw_ld (n := 1) (k := 2) (f := zp_isI) (pc' := 41) rfl rfl rfl rfl rfl ?_
    refine zw_cn (pc' := 44) (zw_cv (q := 71) (Y := zm_164) W.1 rfl rfl zm_164_t rfl rfl) rfl rfl rfl rfl rfl (q1) ?_
    refine zw_ld (n := 1) (k := 3) (f := zp_isI) (pc' := 45) rfl rfl rfl rfl rfl ?_
    refine zw_s (pc' := 72) rfl rfl ?_
    refine zw_ld (n := 1) (k := 0) (f := zp_isR) (pc' := 73) rfl rfl rfl rfl rfl ?_
    refine zw_gR (q := 0) (pc' := 76) W1 rfl rfl rfl rfl (W1.2 0 17 _ rfl) rfl ?_
    refine zw_gI (q := 71) (pc' := 79) W1 rfl rfl rfl rfl rfl rfl ?_
    refine zw_rig rfl rfl ⟨by decide, by decide⟩ ?_
    exact ⟨H1, x_rv r0, q2⟩
  · exact absurd h3 hn

theorem yl_cd0_0 {L : Nat} {σ : Nat → Int32} {d : Nat} {H : zp_H} {x1 x2 : Int32} (hB : zk_Bs (zB_c 0) zg zJc H) (h1 : 0 ≤ x1.toInt ∧ x1.toInt < (H.2.1 13 0).toInt) (h2 : 0 ≤ x2.toInt ∧ x2.toInt < (H.2.1 13 0).toInt) (m1 : 0 ≤ (H.2.1 16 x1.toInt.toNat).toInt ∧ (H.2.1 16 x1.toInt.toNat).toInt ≤ 8) (m2 : 0 ≤ (H.2.1 16 x2.toInt.toNat).toInt ∧ (H.2.1 16 x2.toInt.toNat).toInt ≤ 8) (hn : x1.toInt ≠ x2.toInt) : ∃ H1, zp_Call L σ (d + 5) 162 [.inr (.inr (some 1)), .inl x1, .inl x2, .inl (Int32.ofInt 0), .inr (.inr (some 105))] H (.inl (some (.inl (Int32.ofInt 0))), zw_J H1 104 0 ((xCi (xAl H 13 x1.toInt.toNat x2.toInt.toNat) (H.2.1 16 x2.toInt.toNat).toInt.toNat (H.2.1 16 x1.toInt.toNat).toInt.toNat (Int32.ofInt 0) (Int32.ofInt 0, Int32.ofInt (-1), Int32.ofInt (-1))).1).toInt64) ∧ xFv 71 H H1 := by
  obtain ⟨_, q1, H1, rfl, q2⟩ := yc_cd0_0 (L := L) (σ := σ) (d := d) hB h1 h2 m1 m2 hn
  have W := zB_Wd (zB_dn (zB_Bc hB))
  have W1 := xFv_W q2 W
  refine ⟨H1, zw_ex (zw_met zm_162_t rfl rfl ?_), q2⟩
  refine zw_ld (n := 2) (k := 4) (f := zp_isR) (pc' := 2) rfl rfl rfl rfl rfl ?_
  refine zw_s (pc' := 3) rfl rfl ?_
  refine zw_ld (n := 1) (k := 0) (f := zp_isR) (pc' := 4) rfl rfl rfl rfl rfl ?_
  refine zw_ld (n := 1) (k := 1) (f := zp_isI) (pc' := 5) rfl rfl rfl rfl rfl ?_
  refine zw_ld (n := 1) (k := 2) (f := zp_isI) (pc' := 6) rfl rfl rfl rfl rfl ?_
  refine zw_ld (n := 1) (k := 3) (f := zp_isI) (pc' := 7) rfl rfl rfl rfl rfl ?_
  refine zw_ct (pc' := 10) (c' := (4, 24)) (zw_cv (q := 0) (Y := zm_163) W.1 rfl rfl zm_163_t rfl rfl) (zw_pb_ok rfl) rfl rfl rfl rfl (q1) ?_
  refine zw_s (pc' := 11) rfl rfl ?_
  refine zw_ls (q := 104) (pc' := 12) W1 rfl rfl (⟨by decide, by decide⟩) rfl ?_
  refine zw_s (pc' := 23) rfl rfl ?_
  refine zw_s (pc' := 24) rfl rfl ?_
  refine zw_rig rfl rfl ⟨by decide, by decide⟩ ?_
  rfl

theorem yc_cd0_1 {L : Nat} {σ : Nat → Int32} {d : Nat} {H : zp_H} {x1 x2 : Int32} (hB : zk_Bs (zB_c 0) zg zJc H) (h1 : 0 ≤ x1.toInt ∧ x1.toInt < (H.2.1 13 0).toInt) (h2 : 0 ≤ x2.toInt ∧ x2.toInt < (H.2.1 13 0).toInt) (m1 : 0 ≤ (H.2.1 16 x1.toInt.toNat).toInt ∧ (H.2.1 16 x1.toInt.toNat).toInt ≤ 8) (m2 : 0 ≤ (H.2.1 16 x2.toInt.toNat).toInt ∧ (H.2.1 16 x2.toInt.toNat).toInt ≤ 8) (hn : x1.toInt ≠ x2.toInt) : ∃ X, zp_Call L σ (d + 4) 163 [.inr (.inr (some 1)), .inl x1, .inl x2, .inl (Int32.ofInt 1)] H X ∧ ∃ H1, X = (.inl (some (.inl (xCi (xAl H 13 x1.toInt.toNat x2.toInt.toNat) (H.2.1 16 x2.toInt.toNat).toInt.toNat (H.2.1 16 x1.toInt.toNat).toInt.toNat (Int32.ofInt 0) (Int32.ofInt 0, Int32.ofInt (-1), Int32.ofInt (-1))).2.1)), H1) ∧ xFv 71 H H1 := by
  have W := zB_Wd (zB_dn (zB_Bc hB))
  have g5 : H.2.2.2 0 5 = some 3 := hB.2.1 0 5 _ rfl
  have g6 : H.2.2.2 0 6 = some 14 := hB.2.1 0 6 _ rfl
  have g7 : H.2.2.2 0 7 = some 23 := hB.2.1 0 7 _ rfl
  have g8 : H.2.2.2 0 8 = some 34 := hB.2.1 0 8 _ rfl
  have r13_0 := zB_fr1 (zB_dn (zB_Bc hB)) (p := 13) (k := 0) (r := (0, 8)) rfl
  have r13_0 : 0 ≤ (H.2.1 13 0).toInt ∧ (H.2.1 13 0).toInt ≤ 8 := r13_0
  obtain ⟨_, q1, H1, rfl, W1, q2, r0, r1, r2⟩ := yc_cp13 (L := L) (σ := σ) (d := d) (a := x1) (b := x2) W ⟨h1.1, by omega⟩ ⟨h2.1, by omega⟩ m1 m2
  refine zw_met zm_163_t rfl rfl ?_
  refine zw_ld (n := 1) (k := 0) (f := zp_isR) (pc' := 1) rfl rfl rfl rfl rfl ?_
  refine zw_ld (n := 1) (k := 1) (f := zp_isI) (pc' := 2) rfl rfl rfl rfl rfl ?_
  refine zw_ctn (pc' := 5) (c' := (1, 6)) (zw_cv (q := 0) (Y := zm_108) W.1 rfl rfl zm_108_t rfl rfl) (zw_pb_ok rfl) rfl rfl rfl rfl (yc_ns1_0 hB h1) ?_
  refine zw_ld (n := 1) (k := 0) (f := zp_isR) (pc' := 6) rfl rfl rfl rfl rfl ?_
  refine zw_ld (n := 1) (k := 2) (f := zp_isI) (pc' := 7) rfl rfl rfl rfl rfl ?_
  refine zw_ctn (pc' := 10) (c' := (2, 12)) (zw_cv (q := 0) (Y := zm_108) W.1 rfl rfl zm_108_t rfl rfl) (zw_pb_ok rfl) rfl rfl rfl rfl (yc_ns1_0 hB h2) ?_
  refine zw_ld (n := 1) (k := 3) (f := zp_isI) (pc' := 11) rfl rfl rfl rfl rfl ?_
  refine zw_s (pc' := 12) rfl rfl ?_
  refine zw_ctn (pc' := 15) (c' := (3, 18)) (zw_cs (Y := zm_104) rfl rfl zm_104_t) (zw_pb_ok rfl) rfl rfl rfl rfl (yc_nw1 ⟨by decide, by decide⟩) ?_
  refine zw_ld (n := 1) (k := 1) (f := zp_isI) (pc' := 16) rfl rfl rfl rfl rfl ?_
  refine zw_ld (n := 1) (k := 2) (f := zp_isI) (pc' := 17) rfl rfl rfl rfl rfl ?_
  refine zw_bne2 (g := 31) (pc' := 20) rfl rfl rfl rfl rfl (fun h3 => ?_) (fun h3 => ?_)
  · refine zw_ld (n := 1) (k := 0) (f := zp_isR) (pc' := 32) rfl rfl rfl rfl rfl ?_
    refine zw_gR (q := 0) (pc' := 35) W rfl rfl rfl rfl (W.2 0 17 _ rfl) rfl ?_
    refine zw_ld (n := 1) (k := 0) (f := zp_isR) (pc' := 36) rfl rfl rfl rfl rfl ?_
    refine zw_gR (q := 0) (pc' := 39) W rfl rfl rfl rfl g6 rfl ?_
    refine zw_ld (n := 1) (k := 1) (f := zp_isI) (pc' := 40) rfl rfl rfl rfl rfl ?_
    refine zw_ld (n := 1) (k := 2) (f := zp_isI) (pc' := 41) rfl rfl rfl rfl rfl ?_
    refine zw_cn (pc' := 44) (zw_cv (q := 71) (Y := zm_164) W.1 rfl rfl zm_164_t rfl rfl) rfl rfl rfl rfl rfl (q1) ?_
    refine zw_ld (n := 1) (k := 3) (f := zp_isI) (pc' := 45) rfl rfl rfl rfl rfl ?_
    refine zw_s (pc' := 80) rfl rfl ?_
    refine zw_ld (n := 1) (k := 0) (f := zp_isR) (pc' := 81) rfl rfl rfl rfl rfl ?_
    refine zw_gR (q := 0) (pc' := 84) W1 rfl rfl rfl rfl (W1.2 0 17 _ rfl) rfl ?_
    refine zw_gI (q := 71) (pc' := 87) W1 rfl rfl rfl rfl rfl rfl ?_
    refine zw_rig rfl rfl ⟨by decide, by decide⟩ ?_
    exact ⟨H1, x_rv r1, q2⟩
  · exact absurd h3 hn

theorem yl_cd0_1 {L : Nat} {σ : Nat → Int32} {d : Nat} {H : zp_H} {x1 x2 : Int32} (hB : zk_Bs (zB_c 0) zg zJc H) (h1 : 0 ≤ x1.toInt ∧ x1.toInt < (H.2.1 13 0).toInt) (h2 : 0 ≤ x2.toInt ∧ x2.toInt < (H.2.1 13 0).toInt) (m1 : 0 ≤ (H.2.1 16 x1.toInt.toNat).toInt ∧ (H.2.1 16 x1.toInt.toNat).toInt ≤ 8) (m2 : 0 ≤ (H.2.1 16 x2.toInt.toNat).toInt ∧ (H.2.1 16 x2.toInt.toNat).toInt ≤ 8) (hn : x1.toInt ≠ x2.toInt) : ∃ H1, zp_Call L σ (d + 5) 162 [.inr (.inr (some 1)), .inl x1, .inl x2, .inl (Int32.ofInt 1), .inr (.inr (some 105))] H (.inl (some (.inl (Int32.ofInt 0))), zw_J H1 104 0 ((xCi (xAl H 13 x1.toInt.toNat x2.toInt.toNat) (H.2.1 16 x2.toInt.toNat).toInt.toNat (H.2.1 16 x1.toInt.toNat).toInt.toNat (Int32.ofInt 0) (Int32.ofInt 0, Int32.ofInt (-1), Int32.ofInt (-1))).2.1).toInt64) ∧ xFv 71 H H1 := by
  obtain ⟨_, q1, H1, rfl, q2⟩ := yc_cd0_1 (L := L) (σ := σ) (d := d) hB h1 h2 m1 m2 hn
  have W := zB_Wd (zB_dn (zB_Bc hB))
  have W1 := xFv_W q2 W
  refine ⟨H1, zw_ex (zw_met zm_162_t rfl rfl ?_), q2⟩
  refine zw_ld (n := 2) (k := 4) (f := zp_isR) (pc' := 2) rfl rfl rfl rfl rfl ?_
  refine zw_s (pc' := 3) rfl rfl ?_
  refine zw_ld (n := 1) (k := 0) (f := zp_isR) (pc' := 4) rfl rfl rfl rfl rfl ?_
  refine zw_ld (n := 1) (k := 1) (f := zp_isI) (pc' := 5) rfl rfl rfl rfl rfl ?_
  refine zw_ld (n := 1) (k := 2) (f := zp_isI) (pc' := 6) rfl rfl rfl rfl rfl ?_
  refine zw_ld (n := 1) (k := 3) (f := zp_isI) (pc' := 7) rfl rfl rfl rfl rfl ?_
  refine zw_ct (pc' := 10) (c' := (4, 24)) (zw_cv (q := 0) (Y := zm_163) W.1 rfl rfl zm_163_t rfl rfl) (zw_pb_ok rfl) rfl rfl rfl rfl (q1) ?_
  refine zw_s (pc' := 11) rfl rfl ?_
  refine zw_ls (q := 104) (pc' := 12) W1 rfl rfl (⟨by decide, by decide⟩) rfl ?_
  refine zw_s (pc' := 23) rfl rfl ?_
  refine zw_s (pc' := 24) rfl rfl ?_
  refine zw_rig rfl rfl ⟨by decide, by decide⟩ ?_
  rfl

theorem yc_cd0_2 {L : Nat} {σ : Nat → Int32} {d : Nat} {H : zp_H} {x1 x2 : Int32} (hB : zk_Bs (zB_c 0) zg zJc H) (h1 : 0 ≤ x1.toInt ∧ x1.toInt < (H.2.1 13 0).toInt) (h2 : 0 ≤ x2.toInt ∧ x2.toInt < (H.2.1 13 0).toInt) (m1 : 0 ≤ (H.2.1 16 x1.toInt.toNat).toInt ∧ (H.2.1 16 x1.toInt.toNat).toInt ≤ 8) (m2 : 0 ≤ (H.2.1 16 x2.toInt.toNat).toInt ∧ (H.2.1 16 x2.toInt.toNat).toInt ≤ 8) (hn : x1.toInt ≠ x2.toInt) : ∃ X, zp_Call L σ (d + 4) 163 [.inr (.inr (some 1)), .inl x1, .inl x2, .inl (Int32.ofInt 2)] H X ∧ ∃ H1, X = (.inl (some (.inl (xCi (xAl H 13 x1.toInt.toNat x2.toInt.toNat) (H.2.1 16 x2.toInt.toNat).toInt.toNat (H.2.1 16 x1.toInt.toNat).toInt.toNat (Int32.ofInt 0) (Int32.ofInt 0, Int32.ofInt (-1), Int32.ofInt (-1))).2.2)), H1) ∧ xFv 71 H H1 := by
  have W := zB_Wd (zB_dn (zB_Bc hB))
  have g5 : H.2.2.2 0 5 = some 3 := hB.2.1 0 5 _ rfl
  have g6 : H.2.2.2 0 6 = some 14 := hB.2.1 0 6 _ rfl
  have g7 : H.2.2.2 0 7 = some 23 := hB.2.1 0 7 _ rfl
  have g8 : H.2.2.2 0 8 = some 34 := hB.2.1 0 8 _ rfl
  have r13_0 := zB_fr1 (zB_dn (zB_Bc hB)) (p := 13) (k := 0) (r := (0, 8)) rfl
  have r13_0 : 0 ≤ (H.2.1 13 0).toInt ∧ (H.2.1 13 0).toInt ≤ 8 := r13_0
  obtain ⟨_, q1, H1, rfl, W1, q2, r0, r1, r2⟩ := yc_cp13 (L := L) (σ := σ) (d := d) (a := x1) (b := x2) W ⟨h1.1, by omega⟩ ⟨h2.1, by omega⟩ m1 m2
  refine zw_met zm_163_t rfl rfl ?_
  refine zw_ld (n := 1) (k := 0) (f := zp_isR) (pc' := 1) rfl rfl rfl rfl rfl ?_
  refine zw_ld (n := 1) (k := 1) (f := zp_isI) (pc' := 2) rfl rfl rfl rfl rfl ?_
  refine zw_ctn (pc' := 5) (c' := (1, 6)) (zw_cv (q := 0) (Y := zm_108) W.1 rfl rfl zm_108_t rfl rfl) (zw_pb_ok rfl) rfl rfl rfl rfl (yc_ns1_0 hB h1) ?_
  refine zw_ld (n := 1) (k := 0) (f := zp_isR) (pc' := 6) rfl rfl rfl rfl rfl ?_
  refine zw_ld (n := 1) (k := 2) (f := zp_isI) (pc' := 7) rfl rfl rfl rfl rfl ?_
  refine zw_ctn (pc' := 10) (c' := (2, 12)) (zw_cv (q := 0) (Y := zm_108) W.1 rfl rfl zm_108_t rfl rfl) (zw_pb_ok rfl) rfl rfl rfl rfl (yc_ns1_0 hB h2) ?_
  refine zw_ld (n := 1) (k := 3) (f := zp_isI) (pc' := 11) rfl rfl rfl rfl rfl ?_
  refine zw_s (pc' := 12) rfl rfl ?_
  refine zw_ctn (pc' := 15) (c' := (3, 18)) (zw_cs (Y := zm_104) rfl rfl zm_104_t) (zw_pb_ok rfl) rfl rfl rfl rfl (yc_nw1 ⟨by decide, by decide⟩) ?_
  refine zw_ld (n := 1) (k := 1) (f := zp_isI) (pc' := 16) rfl rfl rfl rfl rfl ?_
  refine zw_ld (n := 1) (k := 2) (f := zp_isI) (pc' := 17) rfl rfl rfl rfl rfl ?_
  refine zw_bne2 (g := 31) (pc' := 20) rfl rfl rfl rfl rfl (fun h3 => ?_) (fun h3 => ?_)
  · refine zw_ld (n := 1) (k := 0) (f := zp_isR) (pc' := 32) rfl rfl rfl rfl rfl ?_
    refine zw_gR (q := 0) (pc' := 35) W rfl rfl rfl rfl (W.2 0 17 _ rfl) rfl ?_
    refine zw_ld (n := 1) (k := 0) (f := zp_isR) (pc' := 36) rfl rfl rfl rfl rfl ?_
    refine zw_gR (q := 0) (pc' := 39) W rfl rfl rfl rfl g6 rfl ?_
    refine zw_ld (n := 1) (k := 1) (f := zp_isI) (pc' := 40) rfl rfl rfl rfl rfl ?_
    refine zw_ld (n := 1) (k := 2) (f := zp_isI) (pc' := 41) rfl rfl rfl rfl rfl ?_
    refine zw_cn (pc' := 44) (zw_cv (q := 71) (Y := zm_164) W.1 rfl rfl zm_164_t rfl rfl) rfl rfl rfl rfl rfl (q1) ?_
    refine zw_ld (n := 1) (k := 3) (f := zp_isI) (pc' := 45) rfl rfl rfl rfl rfl ?_
    refine zw_s (pc' := 88) rfl rfl ?_
    refine zw_ld (n := 1) (k := 0) (f := zp_isR) (pc' := 89) rfl rfl rfl rfl rfl ?_
    refine zw_gR (q := 0) (pc' := 92) W1 rfl rfl rfl rfl (W1.2 0 17 _ rfl) rfl ?_
    refine zw_gI (q := 71) (pc' := 95) W1 rfl rfl rfl rfl rfl rfl ?_
    refine zw_rig rfl rfl ⟨by decide, by decide⟩ ?_
    exact ⟨H1, x_rv r2, q2⟩
  · exact absurd h3 hn

theorem yl_cd0_2 {L : Nat} {σ : Nat → Int32} {d : Nat} {H : zp_H} {x1 x2 : Int32} (hB : zk_Bs (zB_c 0) zg zJc H) (h1 : 0 ≤ x1.toInt ∧ x1.toInt < (H.2.1 13 0).toInt) (h2 : 0 ≤ x2.toInt ∧ x2.toInt < (H.2.1 13 0).toInt) (m1 : 0 ≤ (H.2.1 16 x1.toInt.toNat).toInt ∧ (H.2.1 16 x1.toInt.toNat).toInt ≤ 8) (m2 : 0 ≤ (H.2.1 16 x2.toInt.toNat).toInt ∧ (H.2.1 16 x2.toInt.toNat).toInt ≤ 8) (hn : x1.toInt ≠ x2.toInt) : ∃ H1, zp_Call L σ (d + 5) 162 [.inr (.inr (some 1)), .inl x1, .inl x2, .inl (Int32.ofInt 2), .inr (.inr (some 105))] H (.inl (some (.inl (Int32.ofInt 0))), zw_J H1 104 0 ((xCi (xAl H 13 x1.toInt.toNat x2.toInt.toNat) (H.2.1 16 x2.toInt.toNat).toInt.toNat (H.2.1 16 x1.toInt.toNat).toInt.toNat (Int32.ofInt 0) (Int32.ofInt 0, Int32.ofInt (-1), Int32.ofInt (-1))).2.2).toInt64) ∧ xFv 71 H H1 := by
  obtain ⟨_, q1, H1, rfl, q2⟩ := yc_cd0_2 (L := L) (σ := σ) (d := d) hB h1 h2 m1 m2 hn
  have W := zB_Wd (zB_dn (zB_Bc hB))
  have W1 := xFv_W q2 W
  refine ⟨H1, zw_ex (zw_met zm_162_t rfl rfl ?_), q2⟩
  refine zw_ld (n := 2) (k := 4) (f := zp_isR) (pc' := 2) rfl rfl rfl rfl rfl ?_
  refine zw_s (pc' := 3) rfl rfl ?_
  refine zw_ld (n := 1) (k := 0) (f := zp_isR) (pc' := 4) rfl rfl rfl rfl rfl ?_
  refine zw_ld (n := 1) (k := 1) (f := zp_isI) (pc' := 5) rfl rfl rfl rfl rfl ?_
  refine zw_ld (n := 1) (k := 2) (f := zp_isI) (pc' := 6) rfl rfl rfl rfl rfl ?_
  refine zw_ld (n := 1) (k := 3) (f := zp_isI) (pc' := 7) rfl rfl rfl rfl rfl ?_
  refine zw_ct (pc' := 10) (c' := (4, 24)) (zw_cv (q := 0) (Y := zm_163) W.1 rfl rfl zm_163_t rfl rfl) (zw_pb_ok rfl) rfl rfl rfl rfl (q1) ?_
  refine zw_s (pc' := 11) rfl rfl ?_
  refine zw_ls (q := 104) (pc' := 12) W1 rfl rfl (⟨by decide, by decide⟩) rfl ?_
  refine zw_s (pc' := 23) rfl rfl ?_
  refine zw_s (pc' := 24) rfl rfl ?_
  refine zw_rig rfl rfl ⟨by decide, by decide⟩ ?_
  rfl

theorem yc_cdn0 {L : Nat} {σ : Nat → Int32} {d : Nat} {H : zp_H} {x1 x2 x3 : Int32} (hB : zk_Bs (zB_c 0) zg zJc H) (h : ¬ ((0 ≤ x1.toInt ∧ x1.toInt < (H.2.1 13 0).toInt) ∧ (0 ≤ x2.toInt ∧ x2.toInt < (H.2.1 13 0).toInt) ∧ 0 ≤ x3.toInt ∧ x3.toInt ≤ (Int32.ofInt 2).toInt)) : zp_Call L σ (d + 2) 163 [.inr (.inr (some 1)), .inl x1, .inl x2, .inl x3] H (.inr 0, H) := by
  have W := zB_Wd (zB_dn (zB_Bc hB))
  have g5 : H.2.2.2 0 5 = some 3 := hB.2.1 0 5 _ rfl
  have g6 : H.2.2.2 0 6 = some 14 := hB.2.1 0 6 _ rfl
  have g7 : H.2.2.2 0 7 = some 23 := hB.2.1 0 7 _ rfl
  have g8 : H.2.2.2 0 8 = some 34 := hB.2.1 0 8 _ rfl
  refine zw_ex (zw_met zm_163_t rfl rfl ?_)
  refine zw_ld (n := 1) (k := 0) (f := zp_isR) (pc' := 1) rfl rfl rfl rfl rfl ?_
  refine zw_ld (n := 1) (k := 1) (f := zp_isI) (pc' := 2) rfl rfl rfl rfl rfl ?_
  by_cases h1 : 0 ≤ x1.toInt ∧ x1.toInt < (H.2.1 13 0).toInt
  · refine zw_ctn (pc' := 5) (c' := (1, 6)) (zw_cv (q := 0) (Y := zm_108) W.1 rfl rfl zm_108_t rfl rfl) (zw_pb_ok rfl) rfl rfl rfl rfl (yc_ns1_0 hB h1) ?_
    refine zw_ld (n := 1) (k := 0) (f := zp_isR) (pc' := 6) rfl rfl rfl rfl rfl ?_
    refine zw_ld (n := 1) (k := 2) (f := zp_isI) (pc' := 7) rfl rfl rfl rfl rfl ?_
    by_cases h2 : 0 ≤ x2.toInt ∧ x2.toInt < (H.2.1 13 0).toInt
    · refine zw_ctn (pc' := 10) (c' := (2, 12)) (zw_cv (q := 0) (Y := zm_108) W.1 rfl rfl zm_108_t rfl rfl) (zw_pb_ok rfl) rfl rfl rfl rfl (yc_ns1_0 hB h2) ?_
      refine zw_ld (n := 1) (k := 3) (f := zp_isI) (pc' := 11) rfl rfl rfl rfl rfl ?_
      refine zw_s (pc' := 12) rfl rfl ?_
      refine zw_cthr (ex := 0) (zw_cs (Y := zm_104) rfl rfl zm_104_t) (zw_pb_ok rfl) rfl rfl (yc_nw0 (fun h9 => h ⟨h1, h2, h9⟩)) ?_
      rfl
    · refine zw_cthr (ex := 0) (zw_cv (q := 0) (Y := zm_108) W.1 rfl rfl zm_108_t rfl rfl) (zw_pb_ok rfl) rfl rfl (yc_ns0_0 hB h2) ?_
      rfl
  · refine zw_cthr (ex := 0) (zw_cv (q := 0) (Y := zm_108) W.1 rfl rfl zm_108_t rfl rfl) (zw_pb_ok rfl) rfl rfl (yc_ns0_0 hB h1) ?_
    rfl

theorem yl_cdn0 {L : Nat} {σ : Nat → Int32} {d : Nat} {H : zp_H} {x1 x2 x3 : Int32} (hB : zk_Bs (zB_c 0) zg zJc H) (h : ¬ ((0 ≤ x1.toInt ∧ x1.toInt < (H.2.1 13 0).toInt) ∧ (0 ≤ x2.toInt ∧ x2.toInt < (H.2.1 13 0).toInt) ∧ 0 ≤ x3.toInt ∧ x3.toInt ≤ (Int32.ofInt 2).toInt)) : zp_Call L σ (d + 3) 162 [.inr (.inr (some 1)), .inl x1, .inl x2, .inl x3, .inr (.inr (some 105))] H (.inl (some (.inl (Int32.ofInt 1))), H) := by
  have W := zB_Wd (zB_dn (zB_Bc hB))
  refine zw_ex (zw_met zm_162_t rfl rfl ?_)
  refine zw_ld (n := 2) (k := 4) (f := zp_isR) (pc' := 2) rfl rfl rfl rfl rfl ?_
  refine zw_s (pc' := 3) rfl rfl ?_
  refine zw_ld (n := 1) (k := 0) (f := zp_isR) (pc' := 4) rfl rfl rfl rfl rfl ?_
  refine zw_ld (n := 1) (k := 1) (f := zp_isI) (pc' := 5) rfl rfl rfl rfl rfl ?_
  refine zw_ld (n := 1) (k := 2) (f := zp_isI) (pc' := 6) rfl rfl rfl rfl rfl ?_
  refine zw_ld (n := 1) (k := 3) (f := zp_isI) (pc' := 7) rfl rfl rfl rfl rfl ?_
  refine zw_cexw (ex := 0) (hp9 := 15) (k9 := 5) (pc' := 17) (c' := (4, 24)) (zw_cv (q := 0) (Y := zm_163) W.1 rfl rfl zm_163_t rfl rfl) (zw_pb_ok rfl) rfl rfl rfl rfl rfl rfl rfl (yc_cdn0 hB h) ?_
  refine zw_s (pc' := 18) rfl rfl ?_
  refine zw_rig rfl rfl ⟨by decide, by decide⟩ ?_
  rfl

theorem yc_cdi0 {L : Nat} {σ : Nat → Int32} {d : Nat} {H : zp_H} {x1 x2 x3 : Int32} (hB : zk_Bs (zB_c 0) zg zJc H) (h1 : 0 ≤ x1.toInt ∧ x1.toInt < (H.2.1 13 0).toInt) (h2 : 0 ≤ x2.toInt ∧ x2.toInt < (H.2.1 13 0).toInt) (h3 : 0 ≤ x3.toInt ∧ x3.toInt ≤ (Int32.ofInt 2).toInt) (he : x1.toInt = x2.toInt) : zp_Call L σ (d + 2) 163 [.inr (.inr (some 1)), .inl x1, .inl x2, .inl x3] H (.inr 1, H) := by
  have W := zB_Wd (zB_dn (zB_Bc hB))
  have g5 : H.2.2.2 0 5 = some 3 := hB.2.1 0 5 _ rfl
  have g6 : H.2.2.2 0 6 = some 14 := hB.2.1 0 6 _ rfl
  have g7 : H.2.2.2 0 7 = some 23 := hB.2.1 0 7 _ rfl
  have g8 : H.2.2.2 0 8 = some 34 := hB.2.1 0 8 _ rfl
  refine zw_ex (zw_met zm_163_t rfl rfl ?_)
  refine zw_ld (n := 1) (k := 0) (f := zp_isR) (pc' := 1) rfl rfl rfl rfl rfl ?_
  refine zw_ld (n := 1) (k := 1) (f := zp_isI) (pc' := 2) rfl rfl rfl rfl rfl ?_
  refine zw_ctn (pc' := 5) (c' := (1, 6)) (zw_cv (q := 0) (Y := zm_108) W.1 rfl rfl zm_108_t rfl rfl) (zw_pb_ok rfl) rfl rfl rfl rfl (yc_ns1_0 hB h1) ?_
  refine zw_ld (n := 1) (k := 0) (f := zp_isR) (pc' := 6) rfl rfl rfl rfl rfl ?_
  refine zw_ld (n := 1) (k := 2) (f := zp_isI) (pc' := 7) rfl rfl rfl rfl rfl ?_
  refine zw_ctn (pc' := 10) (c' := (2, 12)) (zw_cv (q := 0) (Y := zm_108) W.1 rfl rfl zm_108_t rfl rfl) (zw_pb_ok rfl) rfl rfl rfl rfl (yc_ns1_0 hB h2) ?_
  refine zw_ld (n := 1) (k := 3) (f := zp_isI) (pc' := 11) rfl rfl rfl rfl rfl ?_
  refine zw_s (pc' := 12) rfl rfl ?_
  refine zw_ctn (pc' := 15) (c' := (3, 18)) (zw_cs (Y := zm_104) rfl rfl zm_104_t) (zw_pb_ok rfl) rfl rfl rfl rfl (yc_nw1 h3) ?_
  refine zw_ld (n := 1) (k := 1) (f := zp_isI) (pc' := 16) rfl rfl rfl rfl rfl ?_
  refine zw_ld (n := 1) (k := 2) (f := zp_isI) (pc' := 17) rfl rfl rfl rfl rfl ?_
  refine zw_bne2 (g := 31) (pc' := 20) rfl rfl rfl rfl rfl (fun h4 => ?_) (fun h4 => ?_)
  · exact absurd he h4
  · exact zs_end (S := (20, _, [], H, (3, 18))) (X := (.inr 1, H)) rfl rfl rfl

theorem yl_cdi0 {L : Nat} {σ : Nat → Int32} {d : Nat} {H : zp_H} {x1 x2 x3 : Int32} (hB : zk_Bs (zB_c 0) zg zJc H) (h1 : 0 ≤ x1.toInt ∧ x1.toInt < (H.2.1 13 0).toInt) (h2 : 0 ≤ x2.toInt ∧ x2.toInt < (H.2.1 13 0).toInt) (h3 : 0 ≤ x3.toInt ∧ x3.toInt ≤ (Int32.ofInt 2).toInt) (he : x1.toInt = x2.toInt) : zp_Call L σ (d + 3) 162 [.inr (.inr (some 1)), .inl x1, .inl x2, .inl x3, .inr (.inr (some 105))] H (.inl (some (.inl (Int32.ofInt 2))), H) := by
  have W := zB_Wd (zB_dn (zB_Bc hB))
  refine zw_ex (zw_met zm_162_t rfl rfl ?_)
  refine zw_ld (n := 2) (k := 4) (f := zp_isR) (pc' := 2) rfl rfl rfl rfl rfl ?_
  refine zw_s (pc' := 3) rfl rfl ?_
  refine zw_ld (n := 1) (k := 0) (f := zp_isR) (pc' := 4) rfl rfl rfl rfl rfl ?_
  refine zw_ld (n := 1) (k := 1) (f := zp_isI) (pc' := 5) rfl rfl rfl rfl rfl ?_
  refine zw_ld (n := 1) (k := 2) (f := zp_isI) (pc' := 6) rfl rfl rfl rfl rfl ?_
  refine zw_ld (n := 1) (k := 3) (f := zp_isI) (pc' := 7) rfl rfl rfl rfl rfl ?_
  refine zw_cexw (ex := 1) (hp9 := 19) (k9 := 5) (pc' := 21) (c' := (4, 24)) (zw_cv (q := 0) (Y := zm_163) W.1 rfl rfl zm_163_t rfl rfl) (zw_pb_ok rfl) rfl rfl rfl rfl rfl rfl rfl (yc_cdi0 hB h1 h2 h3 he) ?_
  refine zw_s (pc' := 22) rfl rfl ?_
  refine zw_rig rfl rfl ⟨by decide, by decide⟩ ?_
  rfl

theorem yc_cd3_0 {L : Nat} {σ : Nat → Int32} {d : Nat} {H : zp_H} {x1 x2 : Int32} (hB : zk_Bs (zB_c 3) zg zJc H) (h1 : 0 ≤ x1.toInt ∧ x1.toInt < (H.2.1 33 0).toInt) (h2 : 0 ≤ x2.toInt ∧ x2.toInt < (H.2.1 33 0).toInt) (m1 : 0 ≤ (H.2.1 36 x1.toInt.toNat).toInt ∧ (H.2.1 36 x1.toInt.toNat).toInt ≤ 8) (m2 : 0 ≤ (H.2.1 36 x2.toInt.toNat).toInt ∧ (H.2.1 36 x2.toInt.toNat).toInt ≤ 8) (hn : x1.toInt ≠ x2.toInt) : ∃ X, zp_Call L σ (d + 4) 163 [.inr (.inr (some 1)), .inl x1, .inl x2, .inl (Int32.ofInt 0)] H X ∧ ∃ H1, X = (.inl (some (.inl (xCi (xAl H 33 x1.toInt.toNat x2.toInt.toNat) (H.2.1 36 x2.toInt.toNat).toInt.toNat (H.2.1 36 x1.toInt.toNat).toInt.toNat (Int32.ofInt 0) (Int32.ofInt 0, Int32.ofInt (-1), Int32.ofInt (-1))).1)), H1) ∧ xFv 71 H H1 := by
  have W := zB_Wd (zB_dn (zB_Bc hB))
  have g5 : H.2.2.2 0 5 = some 23 := hB.2.1 0 5 _ rfl
  have g6 : H.2.2.2 0 6 = some 34 := hB.2.1 0 6 _ rfl
  have g7 : H.2.2.2 0 7 = some 3 := hB.2.1 0 7 _ rfl
  have g8 : H.2.2.2 0 8 = some 14 := hB.2.1 0 8 _ rfl
  have r33_0 := zB_fr1 (zB_dn (zB_Bc hB)) (p := 33) (k := 0) (r := (0, 8)) rfl
  have r33_0 : 0 ≤ (H.2.1 33 0).toInt ∧ (H.2.1 33 0).toInt ≤ 8 := r33_0
  obtain ⟨_, q1, H1, rfl, W1, q2, r0, r1, r2⟩ := yc_cp33 (L := L) (σ := σ) (d := d) (a := x1) (b := x2) W ⟨h1.1, by omega⟩ ⟨h2.1, by omega⟩ m1 m2
  refine zw_met zm_163_t rfl rfl ?_
  refine zw_ld (n := 1) (k := 0) (f := zp_isR) (pc' := 1) rfl rfl rfl rfl rfl ?_
  refine zw_ld (n := 1) (k := 1) (f := zp_isI) (pc' := 2) rfl rfl rfl rfl rfl ?_
  refine zw_ctn (pc' := 5) (c' := (1, 6)) (zw_cv (q := 0) (Y := zm_108) W.1 rfl rfl zm_108_t rfl rfl) (zw_pb_ok rfl) rfl rfl rfl rfl (yc_ns1_3 hB h1) ?_
  refine zw_ld (n := 1) (k := 0) (f := zp_isR) (pc' := 6) rfl rfl rfl rfl rfl ?_
  refine zw_ld (n := 1) (k := 2) (f := zp_isI) (pc' := 7) rfl rfl rfl rfl rfl ?_
  refine zw_ctn (pc' := 10) (c' := (2, 12)) (zw_cv (q := 0) (Y := zm_108) W.1 rfl rfl zm_108_t rfl rfl) (zw_pb_ok rfl) rfl rfl rfl rfl (yc_ns1_3 hB h2) ?_
  refine zw_ld (n := 1) (k := 3) (f := zp_isI) (pc' := 11) rfl rfl rfl rfl rfl ?_
  refine zw_s (pc' := 12) rfl rfl ?_
  refine zw_ctn (pc' := 15) (c' := (3, 18)) (zw_cs (Y := zm_104) rfl rfl zm_104_t) (zw_pb_ok rfl) rfl rfl rfl rfl (yc_nw1 ⟨by decide, by decide⟩) ?_
  refine zw_ld (n := 1) (k := 1) (f := zp_isI) (pc' := 16) rfl rfl rfl rfl rfl ?_
  refine zw_ld (n := 1) (k := 2) (f := zp_isI) (pc' := 17) rfl rfl rfl rfl rfl ?_
  refine zw_bne2 (g := 31) (pc' := 20) rfl rfl rfl rfl rfl (fun h3 => ?_) (fun h3 => ?_)
  · refine zw_ld (n := 1) (k := 0) (f := zp_isR) (pc' := 32) rfl rfl rfl rfl rfl ?_
    refine zw_gR (q := 0) (pc' := 35) W rfl rfl rfl rfl (W.2 0 17 _ rfl) rfl ?_
    refine zw_ld (n := 1) (k := 0) (f := zp_isR) (pc' := 36) rfl rfl rfl rfl rfl ?_
    refine zw_gR (q := 0) (pc' := 39) W rfl rfl rfl rfl g6 rfl ?_
    refine zw_ld (n := 1) (k := 1) (f := zp_isI) (pc' := 40) rfl rfl rfl rfl rfl ?_
    refine zw_ld (n := 1) (k := 2) (f := zp_isI) (pc' := 41) rfl rfl rfl rfl rfl ?_
    refine zw_cn (pc' := 44) (zw_cv (q := 71) (Y := zm_164) W.1 rfl rfl zm_164_t rfl rfl) rfl rfl rfl rfl rfl (q1) ?_
    refine zw_ld (n := 1) (k := 3) (f := zp_isI) (pc' := 45) rfl rfl rfl rfl rfl ?_
    refine zw_s (pc' := 72) rfl rfl ?_
    refine zw_ld (n := 1) (k := 0) (f := zp_isR) (pc' := 73) rfl rfl rfl rfl rfl ?_
    refine zw_gR (q := 0) (pc' := 76) W1 rfl rfl rfl rfl (W1.2 0 17 _ rfl) rfl ?_
    refine zw_gI (q := 71) (pc' := 79) W1 rfl rfl rfl rfl rfl rfl ?_
    refine zw_rig rfl rfl ⟨by decide, by decide⟩ ?_
    exact ⟨H1, x_rv r0, q2⟩
  · exact absurd h3 hn

theorem yl_cd3_0 {L : Nat} {σ : Nat → Int32} {d : Nat} {H : zp_H} {x1 x2 : Int32} (hB : zk_Bs (zB_c 3) zg zJc H) (h1 : 0 ≤ x1.toInt ∧ x1.toInt < (H.2.1 33 0).toInt) (h2 : 0 ≤ x2.toInt ∧ x2.toInt < (H.2.1 33 0).toInt) (m1 : 0 ≤ (H.2.1 36 x1.toInt.toNat).toInt ∧ (H.2.1 36 x1.toInt.toNat).toInt ≤ 8) (m2 : 0 ≤ (H.2.1 36 x2.toInt.toNat).toInt ∧ (H.2.1 36 x2.toInt.toNat).toInt ≤ 8) (hn : x1.toInt ≠ x2.toInt) : ∃ H1, zp_Call L σ (d + 5) 162 [.inr (.inr (some 1)), .inl x1, .inl x2, .inl (Int32.ofInt 0), .inr (.inr (some 105))] H (.inl (some (.inl (Int32.ofInt 0))), zw_J H1 104 0 ((xCi (xAl H 33 x1.toInt.toNat x2.toInt.toNat) (H.2.1 36 x2.toInt.toNat).toInt.toNat (H.2.1 36 x1.toInt.toNat).toInt.toNat (Int32.ofInt 0) (Int32.ofInt 0, Int32.ofInt (-1), Int32.ofInt (-1))).1).toInt64) ∧ xFv 71 H H1 := by
  obtain ⟨_, q1, H1, rfl, q2⟩ := yc_cd3_0 (L := L) (σ := σ) (d := d) hB h1 h2 m1 m2 hn
  have W := zB_Wd (zB_dn (zB_Bc hB))
  have W1 := xFv_W q2 W
  refine ⟨H1, zw_ex (zw_met zm_162_t rfl rfl ?_), q2⟩
  refine zw_ld (n := 2) (k := 4) (f := zp_isR) (pc' := 2) rfl rfl rfl rfl rfl ?_
  refine zw_s (pc' := 3) rfl rfl ?_
  refine zw_ld (n := 1) (k := 0) (f := zp_isR) (pc' := 4) rfl rfl rfl rfl rfl ?_
  refine zw_ld (n := 1) (k := 1) (f := zp_isI) (pc' := 5) rfl rfl rfl rfl rfl ?_
  refine zw_ld (n := 1) (k := 2) (f := zp_isI) (pc' := 6) rfl rfl rfl rfl rfl ?_
  refine zw_ld (n := 1) (k := 3) (f := zp_isI) (pc' := 7) rfl rfl rfl rfl rfl ?_
  refine zw_ct (pc' := 10) (c' := (4, 24)) (zw_cv (q := 0) (Y := zm_163) W.1 rfl rfl zm_163_t rfl rfl) (zw_pb_ok rfl) rfl rfl rfl rfl (q1) ?_
  refine zw_s (pc' := 11) rfl rfl ?_
  refine zw_ls (q := 104) (pc' := 12) W1 rfl rfl (⟨by decide, by decide⟩) rfl ?_
  refine zw_s (pc' := 23) rfl rfl ?_
  refine zw_s (pc' := 24) rfl rfl ?_
  refine zw_rig rfl rfl ⟨by decide, by decide⟩ ?_
  rfl

theorem yc_cd3_1 {L : Nat} {σ : Nat → Int32} {d : Nat} {H : zp_H} {x1 x2 : Int32} (hB : zk_Bs (zB_c 3) zg zJc H) (h1 : 0 ≤ x1.toInt ∧ x1.toInt < (H.2.1 33 0).toInt) (h2 : 0 ≤ x2.toInt ∧ x2.toInt < (H.2.1 33 0).toInt) (m1 : 0 ≤ (H.2.1 36 x1.toInt.toNat).toInt ∧ (H.2.1 36 x1.toInt.toNat).toInt ≤ 8) (m2 : 0 ≤ (H.2.1 36 x2.toInt.toNat).toInt ∧ (H.2.1 36 x2.toInt.toNat).toInt ≤ 8) (hn : x1.toInt ≠ x2.toInt) : ∃ X, zp_Call L σ (d + 4) 163 [.inr (.inr (some 1)), .inl x1, .inl x2, .inl (Int32.ofInt 1)] H X ∧ ∃ H1, X = (.inl (some (.inl (xCi (xAl H 33 x1.toInt.toNat x2.toInt.toNat) (H.2.1 36 x2.toInt.toNat).toInt.toNat (H.2.1 36 x1.toInt.toNat).toInt.toNat (Int32.ofInt 0) (Int32.ofInt 0, Int32.ofInt (-1), Int32.ofInt (-1))).2.1)), H1) ∧ xFv 71 H H1 := by
  have W := zB_Wd (zB_dn (zB_Bc hB))
  have g5 : H.2.2.2 0 5 = some 23 := hB.2.1 0 5 _ rfl
  have g6 : H.2.2.2 0 6 = some 34 := hB.2.1 0 6 _ rfl
  have g7 : H.2.2.2 0 7 = some 3 := hB.2.1 0 7 _ rfl
  have g8 : H.2.2.2 0 8 = some 14 := hB.2.1 0 8 _ rfl
  have r33_0 := zB_fr1 (zB_dn (zB_Bc hB)) (p := 33) (k := 0) (r := (0, 8)) rfl
  have r33_0 : 0 ≤ (H.2.1 33 0).toInt ∧ (H.2.1 33 0).toInt ≤ 8 := r33_0
  obtain ⟨_, q1, H1, rfl, W1, q2, r0, r1, r2⟩ := yc_cp33 (L := L) (σ := σ) (d := d) (a := x1) (b := x2) W ⟨h1.1, by omega⟩ ⟨h2.1, by omega⟩ m1 m2
  refine zw_met zm_163_t rfl rfl ?_
  refine zw_ld (n := 1) (k := 0) (f := zp_isR) (pc' := 1) rfl rfl rfl rfl rfl ?_
  refine zw_ld (n := 1) (k := 1) (f := zp_isI) (pc' := 2) rfl rfl rfl rfl rfl ?_
  refine zw_ctn (pc' := 5) (c' := (1, 6)) (zw_cv (q := 0) (Y := zm_108) W.1 rfl rfl zm_108_t rfl rfl) (zw_pb_ok rfl) rfl rfl rfl rfl (yc_ns1_3 hB h1) ?_
  refine zw_ld (n := 1) (k := 0) (f := zp_isR) (pc' := 6) rfl rfl rfl rfl rfl ?_
  refine zw_ld (n := 1) (k := 2) (f := zp_isI) (pc' := 7) rfl rfl rfl rfl rfl ?_
  refine zw_ctn (pc' := 10) (c' := (2, 12)) (zw_cv (q := 0) (Y := zm_108) W.1 rfl rfl zm_108_t rfl rfl) (zw_pb_ok rfl) rfl rfl rfl rfl (yc_ns1_3 hB h2) ?_
  refine zw_ld (n := 1) (k := 3) (f := zp_isI) (pc' := 11) rfl rfl rfl rfl rfl ?_
  refine zw_s (pc' := 12) rfl rfl ?_
  refine zw_ctn (pc' := 15) (c' := (3, 18)) (zw_cs (Y := zm_104) rfl rfl zm_104_t) (zw_pb_ok rfl) rfl rfl rfl rfl (yc_nw1 ⟨by decide, by decide⟩) ?_
  refine zw_ld (n := 1) (k := 1) (f := zp_isI) (pc' := 16) rfl rfl rfl rfl rfl ?_
  refine zw_ld (n := 1) (k := 2) (f := zp_isI) (pc' := 17) rfl rfl rfl rfl rfl ?_
  refine zw_bne2 (g := 31) (pc' := 20) rfl rfl rfl rfl rfl (fun h3 => ?_) (fun h3 => ?_)
  · refine zw_ld (n := 1) (k := 0) (f := zp_isR) (pc' := 32) rfl rfl rfl rfl rfl ?_
    refine zw_gR (q := 0) (pc' := 35) W rfl rfl rfl rfl (W.2 0 17 _ rfl) rfl ?_
    refine zw_ld (n := 1) (k := 0) (f := zp_isR) (pc' := 36) rfl rfl rfl rfl rfl ?_
    refine zw_gR (q := 0) (pc' := 39) W rfl rfl rfl rfl g6 rfl ?_
    refine zw_ld (n := 1) (k := 1) (f := zp_isI) (pc' := 40) rfl rfl rfl rfl rfl ?_
    refine zw_ld (n := 1) (k := 2) (f := zp_isI) (pc' := 41) rfl rfl rfl rfl rfl ?_
    refine zw_cn (pc' := 44) (zw_cv (q := 71) (Y := zm_164) W.1 rfl rfl zm_164_t rfl rfl) rfl rfl rfl rfl rfl (q1) ?_
    refine zw_ld (n := 1) (k := 3) (f := zp_isI) (pc' := 45) rfl rfl rfl rfl rfl ?_
    refine zw_s (pc' := 80) rfl rfl ?_
    refine zw_ld (n := 1) (k := 0) (f := zp_isR) (pc' := 81) rfl rfl rfl rfl rfl ?_
    refine zw_gR (q := 0) (pc' := 84) W1 rfl rfl rfl rfl (W1.2 0 17 _ rfl) rfl ?_
    refine zw_gI (q := 71) (pc' := 87) W1 rfl rfl rfl rfl rfl rfl ?_
    refine zw_rig rfl rfl ⟨by decide, by decide⟩ ?_
    exact ⟨H1, x_rv r1, q2⟩
  · exact absurd h3 hn

theorem yl_cd3_1 {L : Nat} {σ : Nat → Int32} {d : Nat} {H : zp_H} {x1 x2 : Int32} (hB : zk_Bs (zB_c 3) zg zJc H) (h1 : 0 ≤ x1.toInt ∧ x1.toInt < (H.2.1 33 0).toInt) (h2 : 0 ≤ x2.toInt ∧ x2.toInt < (H.2.1 33 0).toInt) (m1 : 0 ≤ (H.2.1 36 x1.toInt.toNat).toInt ∧ (H.2.1 36 x1.toInt.toNat).toInt ≤ 8) (m2 : 0 ≤ (H.2.1 36 x2.toInt.toNat).toInt ∧ (H.2.1 36 x2.toInt.toNat).toInt ≤ 8) (hn : x1.toInt ≠ x2.toInt) : ∃ H1, zp_Call L σ (d + 5) 162 [.inr (.inr (some 1)), .inl x1, .inl x2, .inl (Int32.ofInt 1), .inr (.inr (some 105))] H (.inl (some (.inl (Int32.ofInt 0))), zw_J H1 104 0 ((xCi (xAl H 33 x1.toInt.toNat x2.toInt.toNat) (H.2.1 36 x2.toInt.toNat).toInt.toNat (H.2.1 36 x1.toInt.toNat).toInt.toNat (Int32.ofInt 0) (Int32.ofInt 0, Int32.ofInt (-1), Int32.ofInt (-1))).2.1).toInt64) ∧ xFv 71 H H1 := by
  obtain ⟨_, q1, H1, rfl, q2⟩ := yc_cd3_1 (L := L) (σ := σ) (d := d) hB h1 h2 m1 m2 hn
  have W := zB_Wd (zB_dn (zB_Bc hB))
  have W1 := xFv_W q2 W
  refine ⟨H1, zw_ex (zw_met zm_162_t rfl rfl ?_), q2⟩
  refine zw_ld (n := 2) (k := 4) (f := zp_isR) (pc' := 2) rfl rfl rfl rfl rfl ?_
  refine zw_s (pc' := 3) rfl rfl ?_
  refine zw_ld (n := 1) (k := 0) (f := zp_isR) (pc' := 4) rfl rfl rfl rfl rfl ?_
  refine zw_ld (n := 1) (k := 1) (f := zp_isI) (pc' := 5) rfl rfl rfl rfl rfl ?_
  refine zw_ld (n := 1) (k := 2) (f := zp_isI) (pc' := 6) rfl rfl rfl rfl rfl ?_
  refine zw_ld (n := 1) (k := 3) (f := zp_isI) (pc' := 7) rfl rfl rfl rfl rfl ?_
  refine zw_ct (pc' := 10) (c' := (4, 24)) (zw_cv (q := 0) (Y := zm_163) W.1 rfl rfl zm_163_t rfl rfl) (zw_pb_ok rfl) rfl rfl rfl rfl (q1) ?_
  refine zw_s (pc' := 11) rfl rfl ?_
  refine zw_ls (q := 104) (pc' := 12) W1 rfl rfl (⟨by decide, by decide⟩) rfl ?_
  refine zw_s (pc' := 23) rfl rfl ?_
  refine zw_s (pc' := 24) rfl rfl ?_
  refine zw_rig rfl rfl ⟨by decide, by decide⟩ ?_
  rfl

theorem yc_cd3_2 {L : Nat} {σ : Nat → Int32} {d : Nat} {H : zp_H} {x1 x2 : Int32} (hB : zk_Bs (zB_c 3) zg zJc H) (h1 : 0 ≤ x1.toInt ∧ x1.toInt < (H.2.1 33 0).toInt) (h2 : 0 ≤ x2.toInt ∧ x2.toInt < (H.2.1 33 0).toInt) (m1 : 0 ≤ (H.2.1 36 x1.toInt.toNat).toInt ∧ (H.2.1 36 x1.toInt.toNat).toInt ≤ 8) (m2 : 0 ≤ (H.2.1 36 x2.toInt.toNat).toInt ∧ (H.2.1 36 x2.toInt.toNat).toInt ≤ 8) (hn : x1.toInt ≠ x2.toInt) : ∃ X, zp_Call L σ (d + 4) 163 [.inr (.inr (some 1)), .inl x1, .inl x2, .inl (Int32.ofInt 2)] H X ∧ ∃ H1, X = (.inl (some (.inl (xCi (xAl H 33 x1.toInt.toNat x2.toInt.toNat) (H.2.1 36 x2.toInt.toNat).toInt.toNat (H.2.1 36 x1.toInt.toNat).toInt.toNat (Int32.ofInt 0) (Int32.ofInt 0, Int32.ofInt (-1), Int32.ofInt (-1))).2.2)), H1) ∧ xFv 71 H H1 := by
  have W := zB_Wd (zB_dn (zB_Bc hB))
  have g5 : H.2.2.2 0 5 = some 23 := hB.2.1 0 5 _ rfl
  have g6 : H.2.2.2 0 6 = some 34 := hB.2.1 0 6 _ rfl
  have g7 : H.2.2.2 0 7 = some 3 := hB.2.1 0 7 _ rfl
  have g8 : H.2.2.2 0 8 = some 14 := hB.2.1 0 8 _ rfl
  have r33_0 := zB_fr1 (zB_dn (zB_Bc hB)) (p := 33) (k := 0) (r := (0, 8)) rfl
  have r33_0 : 0 ≤ (H.2.1 33 0).toInt ∧ (H.2.1 33 0).toInt ≤ 8 := r33_0
  obtain ⟨_, q1, H1, rfl, W1, q2, r0, r1, r2⟩ := yc_cp33 (L := L) (σ := σ) (d := d) (a := x1) (b := x2) W ⟨h1.1, by omega⟩ ⟨h2.1, by omega⟩ m1 m2
  refine zw_met zm_163_t rfl rfl ?_
  refine zw_ld (n := 1) (k := 0) (f := zp_isR) (pc' := 1) rfl rfl rfl rfl rfl ?_
  refine zw_ld (n := 1) (k := 1) (f := zp_isI) (pc' := 2) rfl rfl rfl rfl rfl ?_
  refine zw_ctn (pc' := 5) (c' := (1, 6)) (zw_cv (q := 0) (Y := zm_108) W.1 rfl rfl zm_108_t rfl rfl) (zw_pb_ok rfl) rfl rfl rfl rfl (yc_ns1_3 hB h1) ?_
  refine zw_ld (n := 1) (k := 0) (f := zp_isR) (pc' := 6) rfl rfl rfl rfl rfl ?_
  refine zw_ld (n := 1) (k := 2) (f := zp_isI) (pc' := 7) rfl rfl rfl rfl rfl ?_
  refine zw_ctn (pc' := 10) (c' := (2, 12)) (zw_cv (q := 0) (Y := zm_108) W.1 rfl rfl zm_108_t rfl rfl) (zw_pb_ok rfl) rfl rfl rfl rfl (yc_ns1_3 hB h2) ?_
  refine zw_ld (n := 1) (k := 3) (f := zp_isI) (pc' := 11) rfl rfl rfl rfl rfl ?_
  refine zw_s (pc' := 12) rfl rfl ?_
  refine zw_ctn (pc' := 15) (c' := (3, 18)) (zw_cs (Y := zm_104) rfl rfl zm_104_t) (zw_pb_ok rfl) rfl rfl rfl rfl (yc_nw1 ⟨by decide, by decide⟩) ?_
  refine zw_ld (n := 1) (k := 1) (f := zp_isI) (pc' := 16) rfl rfl rfl rfl rfl ?_
  refine zw_ld (n := 1) (k := 2) (f := zp_isI) (pc' := 17) rfl rfl rfl rfl rfl ?_
  refine zw_bne2 (g := 31) (pc' := 20) rfl rfl rfl rfl rfl (fun h3 => ?_) (fun h3 => ?_)
  · refine zw_ld (n := 1) (k := 0) (f := zp_isR) (pc' := 32) rfl rfl rfl rfl rfl ?_
    refine zw_gR (q := 0) (pc' := 35) W rfl rfl rfl rfl (W.2 0 17 _ rfl) rfl ?_
    refine zw_ld (n := 1) (k := 0) (f := zp_isR) (pc' := 36) rfl rfl rfl rfl rfl ?_
    refine zw_gR (q := 0) (pc' := 39) W rfl rfl rfl rfl g6 rfl ?_
    refine zw_ld (n := 1) (k := 1) (f := zp_isI) (pc' := 40) rfl rfl rfl rfl rfl ?_
    refine zw_ld (n := 1) (k := 2) (f := zp_isI) (pc' := 41) rfl rfl rfl rfl rfl ?_
    refine zw_cn (pc' := 44) (zw_cv (q := 71) (Y := zm_164) W.1 rfl rfl zm_164_t rfl rfl) rfl rfl rfl rfl rfl (q1) ?_
    refine zw_ld (n := 1) (k := 3) (f := zp_isI) (pc' := 45) rfl rfl rfl rfl rfl ?_
    refine zw_s (pc' := 88) rfl rfl ?_
    refine zw_ld (n := 1) (k := 0) (f := zp_isR) (pc' := 89) rfl rfl rfl rfl rfl ?_
    refine zw_gR (q := 0) (pc' := 92) W1 rfl rfl rfl rfl (W1.2 0 17 _ rfl) rfl ?_
    refine zw_gI (q := 71) (pc' := 95) W1 rfl rfl rfl rfl rfl rfl ?_
    refine zw_rig rfl rfl ⟨by decide, by decide⟩ ?_
    exact ⟨H1, x_rv r2, q2⟩
  · exact absurd h3 hn

theorem yl_cd3_2 {L : Nat} {σ : Nat → Int32} {d : Nat} {H : zp_H} {x1 x2 : Int32} (hB : zk_Bs (zB_c 3) zg zJc H) (h1 : 0 ≤ x1.toInt ∧ x1.toInt < (H.2.1 33 0).toInt) (h2 : 0 ≤ x2.toInt ∧ x2.toInt < (H.2.1 33 0).toInt) (m1 : 0 ≤ (H.2.1 36 x1.toInt.toNat).toInt ∧ (H.2.1 36 x1.toInt.toNat).toInt ≤ 8) (m2 : 0 ≤ (H.2.1 36 x2.toInt.toNat).toInt ∧ (H.2.1 36 x2.toInt.toNat).toInt ≤ 8) (hn : x1.toInt ≠ x2.toInt) : ∃ H1, zp_Call L σ (d + 5) 162 [.inr (.inr (some 1)), .inl x1, .inl x2, .inl (Int32.ofInt 2), .inr (.inr (some 105))] H (.inl (some (.inl (Int32.ofInt 0))), zw_J H1 104 0 ((xCi (xAl H 33 x1.toInt.toNat x2.toInt.toNat) (H.2.1 36 x2.toInt.toNat).toInt.toNat (H.2.1 36 x1.toInt.toNat).toInt.toNat (Int32.ofInt 0) (Int32.ofInt 0, Int32.ofInt (-1), Int32.ofInt (-1))).2.2).toInt64) ∧ xFv 71 H H1 := by
  obtain ⟨_, q1, H1, rfl, q2⟩ := yc_cd3_2 (L := L) (σ := σ) (d := d) hB h1 h2 m1 m2 hn
  have W := zB_Wd (zB_dn (zB_Bc hB))
  have W1 := xFv_W q2 W
  refine ⟨H1, zw_ex (zw_met zm_162_t rfl rfl ?_), q2⟩
  refine zw_ld (n := 2) (k := 4) (f := zp_isR) (pc' := 2) rfl rfl rfl rfl rfl ?_
  refine zw_s (pc' := 3) rfl rfl ?_
  refine zw_ld (n := 1) (k := 0) (f := zp_isR) (pc' := 4) rfl rfl rfl rfl rfl ?_
  refine zw_ld (n := 1) (k := 1) (f := zp_isI) (pc' := 5) rfl rfl rfl rfl rfl ?_
  refine zw_ld (n := 1) (k := 2) (f := zp_isI) (pc' := 6) rfl rfl rfl rfl rfl ?_
  refine zw_ld (n := 1) (k := 3) (f := zp_isI) (pc' := 7) rfl rfl rfl rfl rfl ?_
  refine zw_ct (pc' := 10) (c' := (4, 24)) (zw_cv (q := 0) (Y := zm_163) W.1 rfl rfl zm_163_t rfl rfl) (zw_pb_ok rfl) rfl rfl rfl rfl (q1) ?_
  refine zw_s (pc' := 11) rfl rfl ?_
  refine zw_ls (q := 104) (pc' := 12) W1 rfl rfl (⟨by decide, by decide⟩) rfl ?_
  refine zw_s (pc' := 23) rfl rfl ?_
  refine zw_s (pc' := 24) rfl rfl ?_
  refine zw_rig rfl rfl ⟨by decide, by decide⟩ ?_
  rfl

theorem yc_cdn3 {L : Nat} {σ : Nat → Int32} {d : Nat} {H : zp_H} {x1 x2 x3 : Int32} (hB : zk_Bs (zB_c 3) zg zJc H) (h : ¬ ((0 ≤ x1.toInt ∧ x1.toInt < (H.2.1 33 0).toInt) ∧ (0 ≤ x2.toInt ∧ x2.toInt < (H.2.1 33 0).toInt) ∧ 0 ≤ x3.toInt ∧ x3.toInt ≤ (Int32.ofInt 2).toInt)) : zp_Call L σ (d + 2) 163 [.inr (.inr (some 1)), .inl x1, .inl x2, .inl x3] H (.inr 0, H) := by
  have W := zB_Wd (zB_dn (zB_Bc hB))
  have g5 : H.2.2.2 0 5 = some 23 := hB.2.1 0 5 _ rfl
  have g6 : H.2.2.2 0 6 = some 34 := hB.2.1 0 6 _ rfl
  have g7 : H.2.2.2 0 7 = some 3 := hB.2.1 0 7 _ rfl
  have g8 : H.2.2.2 0 8 = some 14 := hB.2.1 0 8 _ rfl
  refine zw_ex (zw_met zm_163_t rfl rfl ?_)
  refine zw_ld (n := 1) (k := 0) (f := zp_isR) (pc' := 1) rfl rfl rfl rfl rfl ?_
  refine zw_ld (n := 1) (k := 1) (f := zp_isI) (pc' := 2) rfl rfl rfl rfl rfl ?_
  by_cases h1 : 0 ≤ x1.toInt ∧ x1.toInt < (H.2.1 33 0).toInt
  · refine zw_ctn (pc' := 5) (c' := (1, 6)) (zw_cv (q := 0) (Y := zm_108) W.1 rfl rfl zm_108_t rfl rfl) (zw_pb_ok rfl) rfl rfl rfl rfl (yc_ns1_3 hB h1) ?_
    refine zw_ld (n := 1) (k := 0) (f := zp_isR) (pc' := 6) rfl rfl rfl rfl rfl ?_
    refine zw_ld (n := 1) (k := 2) (f := zp_isI) (pc' := 7) rfl rfl rfl rfl rfl ?_
    by_cases h2 : 0 ≤ x2.toInt ∧ x2.toInt < (H.2.1 33 0).toInt
    · refine zw_ctn (pc' := 10) (c' := (2, 12)) (zw_cv (q := 0) (Y := zm_108) W.1 rfl rfl zm_108_t rfl rfl) (zw_pb_ok rfl) rfl rfl rfl rfl (yc_ns1_3 hB h2) ?_
      refine zw_ld (n := 1) (k := 3) (f := zp_isI) (pc' := 11) rfl rfl rfl rfl rfl ?_
      refine zw_s (pc' := 12) rfl rfl ?_
      refine zw_cthr (ex := 0) (zw_cs (Y := zm_104) rfl rfl zm_104_t) (zw_pb_ok rfl) rfl rfl (yc_nw0 (fun h9 => h ⟨h1, h2, h9⟩)) ?_
      rfl
    · refine zw_cthr (ex := 0) (zw_cv (q := 0) (Y := zm_108) W.1 rfl rfl zm_108_t rfl rfl) (zw_pb_ok rfl) rfl rfl (yc_ns0_3 hB h2) ?_
      rfl
  · refine zw_cthr (ex := 0) (zw_cv (q := 0) (Y := zm_108) W.1 rfl rfl zm_108_t rfl rfl) (zw_pb_ok rfl) rfl rfl (yc_ns0_3 hB h1) ?_
    rfl

theorem yl_cdn3 {L : Nat} {σ : Nat → Int32} {d : Nat} {H : zp_H} {x1 x2 x3 : Int32} (hB : zk_Bs (zB_c 3) zg zJc H) (h : ¬ ((0 ≤ x1.toInt ∧ x1.toInt < (H.2.1 33 0).toInt) ∧ (0 ≤ x2.toInt ∧ x2.toInt < (H.2.1 33 0).toInt) ∧ 0 ≤ x3.toInt ∧ x3.toInt ≤ (Int32.ofInt 2).toInt)) : zp_Call L σ (d + 3) 162 [.inr (.inr (some 1)), .inl x1, .inl x2, .inl x3, .inr (.inr (some 105))] H (.inl (some (.inl (Int32.ofInt 1))), H) := by
  have W := zB_Wd (zB_dn (zB_Bc hB))
  refine zw_ex (zw_met zm_162_t rfl rfl ?_)
  refine zw_ld (n := 2) (k := 4) (f := zp_isR) (pc' := 2) rfl rfl rfl rfl rfl ?_
  refine zw_s (pc' := 3) rfl rfl ?_
  refine zw_ld (n := 1) (k := 0) (f := zp_isR) (pc' := 4) rfl rfl rfl rfl rfl ?_
  refine zw_ld (n := 1) (k := 1) (f := zp_isI) (pc' := 5) rfl rfl rfl rfl rfl ?_
  refine zw_ld (n := 1) (k := 2) (f := zp_isI) (pc' := 6) rfl rfl rfl rfl rfl ?_
  refine zw_ld (n := 1) (k := 3) (f := zp_isI) (pc' := 7) rfl rfl rfl rfl rfl ?_
  refine zw_cexw (ex := 0) (hp9 := 15) (k9 := 5) (pc' := 17) (c' := (4, 24)) (zw_cv (q := 0) (Y := zm_163) W.1 rfl rfl zm_163_t rfl rfl) (zw_pb_ok rfl) rfl rfl rfl rfl rfl rfl rfl (yc_cdn3 hB h) ?_
  refine zw_s (pc' := 18) rfl rfl ?_
  refine zw_rig rfl rfl ⟨by decide, by decide⟩ ?_
  rfl

theorem yc_cdi3 {L : Nat} {σ : Nat → Int32} {d : Nat} {H : zp_H} {x1 x2 x3 : Int32} (hB : zk_Bs (zB_c 3) zg zJc H) (h1 : 0 ≤ x1.toInt ∧ x1.toInt < (H.2.1 33 0).toInt) (h2 : 0 ≤ x2.toInt ∧ x2.toInt < (H.2.1 33 0).toInt) (h3 : 0 ≤ x3.toInt ∧ x3.toInt ≤ (Int32.ofInt 2).toInt) (he : x1.toInt = x2.toInt) : zp_Call L σ (d + 2) 163 [.inr (.inr (some 1)), .inl x1, .inl x2, .inl x3] H (.inr 1, H) := by
  have W := zB_Wd (zB_dn (zB_Bc hB))
  have g5 : H.2.2.2 0 5 = some 23 := hB.2.1 0 5 _ rfl
  have g6 : H.2.2.2 0 6 = some 34 := hB.2.1 0 6 _ rfl
  have g7 : H.2.2.2 0 7 = some 3 := hB.2.1 0 7 _ rfl
  have g8 : H.2.2.2 0 8 = some 14 := hB.2.1 0 8 _ rfl
  refine zw_ex (zw_met zm_163_t rfl rfl ?_)
  refine zw_ld (n := 1) (k := 0) (f := zp_isR) (pc' := 1) rfl rfl rfl rfl rfl ?_
  refine zw_ld (n := 1) (k := 1) (f := zp_isI) (pc' := 2) rfl rfl rfl rfl rfl ?_
  refine zw_ctn (pc' := 5) (c' := (1, 6)) (zw_cv (q := 0) (Y := zm_108) W.1 rfl rfl zm_108_t rfl rfl) (zw_pb_ok rfl) rfl rfl rfl rfl (yc_ns1_3 hB h1) ?_
  refine zw_ld (n := 1) (k := 0) (f := zp_isR) (pc' := 6) rfl rfl rfl rfl rfl ?_
  refine zw_ld (n := 1) (k := 2) (f := zp_isI) (pc' := 7) rfl rfl rfl rfl rfl ?_
  refine zw_ctn (pc' := 10) (c' := (2, 12)) (zw_cv (q := 0) (Y := zm_108) W.1 rfl rfl zm_108_t rfl rfl) (zw_pb_ok rfl) rfl rfl rfl rfl (yc_ns1_3 hB h2) ?_
  refine zw_ld (n := 1) (k := 3) (f := zp_isI) (pc' := 11) rfl rfl rfl rfl rfl ?_
  refine zw_s (pc' := 12) rfl rfl ?_
  refine zw_ctn (pc' := 15) (c' := (3, 18)) (zw_cs (Y := zm_104) rfl rfl zm_104_t) (zw_pb_ok rfl) rfl rfl rfl rfl (yc_nw1 h3) ?_
  refine zw_ld (n := 1) (k := 1) (f := zp_isI) (pc' := 16) rfl rfl rfl rfl rfl ?_
  refine zw_ld (n := 1) (k := 2) (f := zp_isI) (pc' := 17) rfl rfl rfl rfl rfl ?_
  refine zw_bne2 (g := 31) (pc' := 20) rfl rfl rfl rfl rfl (fun h4 => ?_) (fun h4 => ?_)
  · exact absurd he h4
  · exact zs_end (S := (20, _, [], H, (3, 18))) (X := (.inr 1, H)) rfl rfl rfl

theorem yl_cdi3 {L : Nat} {σ : Nat → Int32} {d : Nat} {H : zp_H} {x1 x2 x3 : Int32} (hB : zk_Bs (zB_c 3) zg zJc H) (h1 : 0 ≤ x1.toInt ∧ x1.toInt < (H.2.1 33 0).toInt) (h2 : 0 ≤ x2.toInt ∧ x2.toInt < (H.2.1 33 0).toInt) (h3 : 0 ≤ x3.toInt ∧ x3.toInt ≤ (Int32.ofInt 2).toInt) (he : x1.toInt = x2.toInt) : zp_Call L σ (d + 3) 162 [.inr (.inr (some 1)), .inl x1, .inl x2, .inl x3, .inr (.inr (some 105))] H (.inl (some (.inl (Int32.ofInt 2))), H) := by
  have W := zB_Wd (zB_dn (zB_Bc hB))
  refine zw_ex (zw_met zm_162_t rfl rfl ?_)
  refine zw_ld (n := 2) (k := 4) (f := zp_isR) (pc' := 2) rfl rfl rfl rfl rfl ?_
  refine zw_s (pc' := 3) rfl rfl ?_
  refine zw_ld (n := 1) (k := 0) (f := zp_isR) (pc' := 4) rfl rfl rfl rfl rfl ?_
  refine zw_ld (n := 1) (k := 1) (f := zp_isI) (pc' := 5) rfl rfl rfl rfl rfl ?_
  refine zw_ld (n := 1) (k := 2) (f := zp_isI) (pc' := 6) rfl rfl rfl rfl rfl ?_
  refine zw_ld (n := 1) (k := 3) (f := zp_isI) (pc' := 7) rfl rfl rfl rfl rfl ?_
  refine zw_cexw (ex := 1) (hp9 := 19) (k9 := 5) (pc' := 21) (c' := (4, 24)) (zw_cv (q := 0) (Y := zm_163) W.1 rfl rfl zm_163_t rfl rfl) (zw_pb_ok rfl) rfl rfl rfl rfl rfl rfl rfl (yc_cdi3 hB h1 h2 h3 he) ?_
  refine zw_s (pc' := 22) rfl rfl ?_
  refine zw_rig rfl rfl ⟨by decide, by decide⟩ ?_
  rfl

theorem yr_alL {L : Nat} {σ : Nat → Int32} {d : Nat} {P : zp_X → Prop} {H : zp_H} {a b i j : Int32} (W : zw_W H) (ha : 0 ≤ a.toInt ∧ a.toInt < 8) (hb : 0 ≤ b.toInt ∧ b.toInt < 8) (hma : 0 ≤ (H.2.1 74 (4 * a.toInt.toNat + 2)).toInt ∧ (H.2.1 74 (4 * a.toInt.toNat + 2)).toInt ≤ 8) (hmb : 0 ≤ (H.2.1 74 (4 * b.toInt.toNat + 2)).toInt ∧ (H.2.1 74 (4 * b.toInt.toNat + 2)).toInt ≤ 8) (hi : 0 ≤ i.toInt ∧ i.toInt < 8) (hj : 0 ≤ j.toInt ∧ j.toInt < 8) : ∀ (n : Nat) (lv : zp_LV) (k : Int32), (0 ≤ k.toInt ∧ k.toInt ≤ 8) → k.toInt.toNat + n = min ((H.2.1 74 (4 * a.toInt.toNat + 2)).toInt.toNat - i.toInt.toNat) ((H.2.1 74 (4 * b.toInt.toNat + 2)).toInt.toNat - j.toInt.toNat) → zp_get lv 0 = some (.inr (.inr (some 73))) → zp_get lv 1 = some (.inl a) → zp_get lv 2 = some (.inl i) → zp_get lv 3 = some (.inl b) → zp_get lv 4 = some (.inl j) → zp_get lv 5 = some (.inl k) → P (.inl (some (.inl (Int32.ofInt (k.toInt + (xAk (xEq (fun k => H.2.1 75 (16 * a.toInt.toNat + 2 * k)) (fun k => H.2.1 75 (16 * a.toInt.toNat + 2 * k + 1)) (fun k => H.2.1 75 (16 * b.toInt.toNat + 2 * k)) (fun k => H.2.1 75 (16 * b.toInt.toNat + 2 * k + 1))) n (i.toInt.toNat + k.toInt.toNat) (j.toInt.toNat + k.toInt.toNat) : Int))))), H) → zs_Safe L σ P zm_248 [] (d + 1) (3, lv, [], H, (0, 0)) := by
  intro n
  induction n with
  | zero =>
    intro lv k h5 hn l0 l1 l2 l3 l4 l5 hP
    have e1 : (i + k).toInt = i.toInt + k.toInt := zq_add (by omega) (by omega)
    have e2 : (j + k).toInt = j.toInt + k.toInt := zq_add (by omega) (by omega)
    refine zw_ld (n := 1) (k := 2) (f := zp_isI) (pc' := 4) rfl rfl l2 rfl rfl ?_
    refine zw_ld (n := 2) (k := 5) (f := zp_isI) (pc' := 6) rfl rfl l5 rfl rfl ?_
    refine zw_iadd (pc' := 7) rfl rfl ?_
    refine zw_ld (n := 1) (k := 0) (f := zp_isR) (pc' := 8) rfl rfl l0 rfl rfl ?_
    refine zw_ld (n := 1) (k := 1) (f := zp_isI) (pc' := 9) rfl rfl l1 rfl rfl ?_
    refine zw_c (pc' := 12) (zw_cv (q := 72) (Y := zm_212) W.1 rfl rfl zm_212_t rfl rfl) rfl rfl rfl rfl rfl (zq_marks W ⟨ha.1, by omega⟩) ?_
    refine zw_bge2 (g := 110) (pc' := 15) rfl rfl rfl rfl rfl (fun h1 => ?_) (fun h1 => ?_)
    · refine zw_ld (n := 2) (k := 5) (f := zp_isI) (pc' := 112) rfl rfl l5 rfl rfl ?_
      refine zw_ri rfl rfl ?_
      have hP : P (.inl (some (.inl (Int32.ofInt (k.toInt + ((0 : Nat) : Int))))), H) := hP
      rw [x_k0] at hP
      exact hP
    · refine zw_ld (n := 2) (k := 4) (f := zp_isI) (pc' := 17) rfl rfl l4 rfl rfl ?_
      refine zw_ld (n := 2) (k := 5) (f := zp_isI) (pc' := 19) rfl rfl l5 rfl rfl ?_
      refine zw_iadd (pc' := 20) rfl rfl ?_
      refine zw_ld (n := 1) (k := 0) (f := zp_isR) (pc' := 21) rfl rfl l0 rfl rfl ?_
      refine zw_ld (n := 1) (k := 3) (f := zp_isI) (pc' := 22) rfl rfl l3 rfl rfl ?_
      refine zw_c (pc' := 25) (zw_cv (q := 72) (Y := zm_212) W.1 rfl rfl zm_212_t rfl rfl) rfl rfl rfl rfl rfl (zq_marks W ⟨hb.1, by omega⟩) ?_
      refine zw_bge2 (g := 110) (pc' := 28) rfl rfl rfl rfl rfl (fun h2 => ?_) (fun h2 => ?_)
      · refine zw_ld (n := 2) (k := 5) (f := zp_isI) (pc' := 112) rfl rfl l5 rfl rfl ?_
        refine zw_ri rfl rfl ?_
        have hP : P (.inl (some (.inl (Int32.ofInt (k.toInt + ((0 : Nat) : Int))))), H) := hP
        rw [x_k0] at hP
        exact hP
      · have h1 : (i + k).toInt < (H.2.1 74 (4 * a.toInt.toNat + 2)).toInt := h1
        have h2 : (j + k).toInt < (H.2.1 74 (4 * b.toInt.toNat + 2)).toInt := h2
        omega
  | succ n ih =>
    intro lv k h5 hn l0 l1 l2 l3 l4 l5 hP
    have e1 : (i + k).toInt = i.toInt + k.toInt := zq_add (by omega) (by omega)
    have e2 : (j + k).toInt = j.toInt + k.toInt := zq_add (by omega) (by omega)
    refine zw_ld (n := 1) (k := 2) (f := zp_isI) (pc' := 4) rfl rfl l2 rfl rfl ?_
    refine zw_ld (n := 2) (k := 5) (f := zp_isI) (pc' := 6) rfl rfl l5 rfl rfl ?_
    refine zw_iadd (pc' := 7) rfl rfl ?_
    refine zw_ld (n := 1) (k := 0) (f := zp_isR) (pc' := 8) rfl rfl l0 rfl rfl ?_
    refine zw_ld (n := 1) (k := 1) (f := zp_isI) (pc' := 9) rfl rfl l1 rfl rfl ?_
    refine zw_c (pc' := 12) (zw_cv (q := 72) (Y := zm_212) W.1 rfl rfl zm_212_t rfl rfl) rfl rfl rfl rfl rfl (zq_marks W ⟨ha.1, by omega⟩) ?_
    refine zw_bge2 (g := 110) (pc' := 15) rfl rfl rfl rfl rfl (fun h1 => ?_) (fun h1 => ?_)
    · have h1 : (H.2.1 74 (4 * a.toInt.toNat + 2)).toInt ≤ (i + k).toInt := h1
      omega
    · refine zw_ld (n := 2) (k := 4) (f := zp_isI) (pc' := 17) rfl rfl l4 rfl rfl ?_
      refine zw_ld (n := 2) (k := 5) (f := zp_isI) (pc' := 19) rfl rfl l5 rfl rfl ?_
      refine zw_iadd (pc' := 20) rfl rfl ?_
      refine zw_ld (n := 1) (k := 0) (f := zp_isR) (pc' := 21) rfl rfl l0 rfl rfl ?_
      refine zw_ld (n := 1) (k := 3) (f := zp_isI) (pc' := 22) rfl rfl l3 rfl rfl ?_
      refine zw_c (pc' := 25) (zw_cv (q := 72) (Y := zm_212) W.1 rfl rfl zm_212_t rfl rfl) rfl rfl rfl rfl rfl (zq_marks W ⟨hb.1, by omega⟩) ?_
      refine zw_bge2 (g := 110) (pc' := 28) rfl rfl rfl rfl rfl (fun h2 => ?_) (fun h2 => ?_)
      · have h2 : (H.2.1 74 (4 * b.toInt.toNat + 2)).toInt ≤ (j + k).toInt := h2
        omega
      · have u1a : (Int32.ofInt 16 * a).toInt = 16 * a.toInt := zt_mul (by decide) (by omega)
        have u2a : (Int32.ofInt 2 * (i + k)).toInt = 2 * (i + k).toInt := zt_mul (by decide) (by omega)
        have u3a : (Int32.ofInt 16 * a + Int32.ofInt 2 * (i + k)).toInt = 16 * a.toInt + 2 * (i + k).toInt := by rw [zq_add (by rw [u1a, u2a]; omega) (by rw [u1a, u2a]; omega), u1a, u2a]
        have u4a : (Int32.ofInt 16 * a + Int32.ofInt 2 * (i + k) + Int32.ofInt 1).toInt = 16 * a.toInt + 2 * (i + k).toInt + 1 := by rw [zt_add (by decide) (by omega), u3a]
        have u5a : (Int32.ofInt 16 * a + Int32.ofInt 2 * (i + k)).toInt.toNat = 16 * a.toInt.toNat + 2 * (i.toInt.toNat + k.toInt.toNat) := by omega
        have u6a : (Int32.ofInt 16 * a + Int32.ofInt 2 * (i + k) + Int32.ofInt 1).toInt.toNat = 16 * a.toInt.toNat + 2 * (i.toInt.toNat + k.toInt.toNat) + 1 := by omega
        have u1b : (Int32.ofInt 16 * b).toInt = 16 * b.toInt := zt_mul (by decide) (by omega)
        have u2b : (Int32.ofInt 2 * (j + k)).toInt = 2 * (j + k).toInt := zt_mul (by decide) (by omega)
        have u3b : (Int32.ofInt 16 * b + Int32.ofInt 2 * (j + k)).toInt = 16 * b.toInt + 2 * (j + k).toInt := by rw [zq_add (by rw [u1b, u2b]; omega) (by rw [u1b, u2b]; omega), u1b, u2b]
        have u4b : (Int32.ofInt 16 * b + Int32.ofInt 2 * (j + k) + Int32.ofInt 1).toInt = 16 * b.toInt + 2 * (j + k).toInt + 1 := by rw [zt_add (by decide) (by omega), u3b]
        have u5b : (Int32.ofInt 16 * b + Int32.ofInt 2 * (j + k)).toInt.toNat = 16 * b.toInt.toNat + 2 * (j.toInt.toNat + k.toInt.toNat) := by omega
        have u6b : (Int32.ofInt 16 * b + Int32.ofInt 2 * (j + k) + Int32.ofInt 1).toInt.toNat = 16 * b.toInt.toNat + 2 * (j.toInt.toNat + k.toInt.toNat) + 1 := by omega
        have e5 : (k + Int32.ofInt 1).toInt = k.toInt + 1 := zw_p1 (by omega)
        have e6 : (k + Int32.ofInt 1).toInt.toNat = k.toInt.toNat + 1 := by omega
        refine zw_ld (n := 1) (k := 0) (f := zp_isR) (pc' := 29) rfl rfl l0 rfl rfl ?_
        refine zw_gR (q := 72) (pc' := 32) W rfl rfl rfl rfl (W.2 72 15 _ rfl) rfl ?_
        refine zw_s (pc' := 34) rfl rfl ?_
        refine zw_ld (n := 1) (k := 1) (f := zp_isI) (pc' := 35) rfl rfl l1 rfl rfl ?_
        refine zw_imul (pc' := 36) rfl rfl ?_
        refine zw_s (pc' := 37) rfl rfl ?_
        refine zw_ld (n := 1) (k := 2) (f := zp_isI) (pc' := 38) rfl rfl l2 rfl rfl ?_
        refine zw_ld (n := 2) (k := 5) (f := zp_isI) (pc' := 40) rfl rfl l5 rfl rfl ?_
        refine zw_iadd (pc' := 41) rfl rfl ?_
        refine zw_imul (pc' := 42) rfl rfl ?_
        refine zw_iadd (pc' := 43) rfl rfl ?_
        refine zw_ia (q := 75) (pc' := 44) W rfl rfl (by decide) (⟨by omega, by show _ < ((128 : Nat) : Int); omega⟩) rfl rfl ?_
        refine zw_ld (n := 1) (k := 0) (f := zp_isR) (pc' := 45) rfl rfl l0 rfl rfl ?_
        refine zw_gR (q := 72) (pc' := 48) W rfl rfl rfl rfl (W.2 72 15 _ rfl) rfl ?_
        refine zw_s (pc' := 50) rfl rfl ?_
        refine zw_ld (n := 1) (k := 3) (f := zp_isI) (pc' := 51) rfl rfl l3 rfl rfl ?_
        refine zw_imul (pc' := 52) rfl rfl ?_
        refine zw_s (pc' := 53) rfl rfl ?_
        refine zw_ld (n := 2) (k := 4) (f := zp_isI) (pc' := 55) rfl rfl l4 rfl rfl ?_
        refine zw_ld (n := 2) (k := 5) (f := zp_isI) (pc' := 57) rfl rfl l5 rfl rfl ?_
        refine zw_iadd (pc' := 58) rfl rfl ?_
        refine zw_imul (pc' := 59) rfl rfl ?_
        refine zw_iadd (pc' := 60) rfl rfl ?_
        refine zw_ia (q := 75) (pc' := 61) W rfl rfl (by decide) (⟨by omega, by show _ < ((128 : Nat) : Int); omega⟩) rfl rfl ?_
        rw [u5a, u5b]
        refine zw_bne2 (g := 110) (pc' := 64) rfl rfl rfl rfl rfl (fun h3 => ?_) (fun h3 => ?_)
        · have hE : ¬ (xEq (fun k => H.2.1 75 (16 * a.toInt.toNat + 2 * k)) (fun k => H.2.1 75 (16 * a.toInt.toNat + 2 * k + 1)) (fun k => H.2.1 75 (16 * b.toInt.toNat + 2 * k)) (fun k => H.2.1 75 (16 * b.toInt.toNat + 2 * k + 1))) (i.toInt.toNat + k.toInt.toNat) (j.toInt.toNat + k.toInt.toNat) = true := fun h9 => h3 (congrArg Int32.toInt (xEq_t.mp h9).1)
          rw [xAk_n hE, x_k0] at hP
          refine zw_ld (n := 2) (k := 5) (f := zp_isI) (pc' := 112) rfl rfl l5 rfl rfl ?_
          refine zw_ri rfl rfl ?_
          exact hP
        · refine zw_ld (n := 1) (k := 0) (f := zp_isR) (pc' := 65) rfl rfl l0 rfl rfl ?_
          refine zw_gR (q := 72) (pc' := 68) W rfl rfl rfl rfl (W.2 72 15 _ rfl) rfl ?_
          refine zw_s (pc' := 70) rfl rfl ?_
          refine zw_ld (n := 1) (k := 1) (f := zp_isI) (pc' := 71) rfl rfl l1 rfl rfl ?_
          refine zw_imul (pc' := 72) rfl rfl ?_
          refine zw_s (pc' := 73) rfl rfl ?_
          refine zw_ld (n := 1) (k := 2) (f := zp_isI) (pc' := 74) rfl rfl l2 rfl rfl ?_
          refine zw_ld (n := 2) (k := 5) (f := zp_isI) (pc' := 76) rfl rfl l5 rfl rfl ?_
          refine zw_iadd (pc' := 77) rfl rfl ?_
          refine zw_imul (pc' := 78) rfl rfl ?_
          refine zw_iadd (pc' := 79) rfl rfl ?_
          refine zw_s (pc' := 80) rfl rfl ?_
          refine zw_iadd (pc' := 81) rfl rfl ?_
          refine zw_ia (q := 75) (pc' := 82) W rfl rfl (by decide) (⟨by omega, by show _ < ((128 : Nat) : Int); omega⟩) rfl rfl ?_
          refine zw_ld (n := 1) (k := 0) (f := zp_isR) (pc' := 83) rfl rfl l0 rfl rfl ?_
          refine zw_gR (q := 72) (pc' := 86) W rfl rfl rfl rfl (W.2 72 15 _ rfl) rfl ?_
          refine zw_s (pc' := 88) rfl rfl ?_
          refine zw_ld (n := 1) (k := 3) (f := zp_isI) (pc' := 89) rfl rfl l3 rfl rfl ?_
          refine zw_imul (pc' := 90) rfl rfl ?_
          refine zw_s (pc' := 91) rfl rfl ?_
          refine zw_ld (n := 2) (k := 4) (f := zp_isI) (pc' := 93) rfl rfl l4 rfl rfl ?_
          refine zw_ld (n := 2) (k := 5) (f := zp_isI) (pc' := 95) rfl rfl l5 rfl rfl ?_
          refine zw_iadd (pc' := 96) rfl rfl ?_
          refine zw_imul (pc' := 97) rfl rfl ?_
          refine zw_iadd (pc' := 98) rfl rfl ?_
          refine zw_s (pc' := 99) rfl rfl ?_
          refine zw_iadd (pc' := 100) rfl rfl ?_
          refine zw_ia (q := 75) (pc' := 101) W rfl rfl (by decide) (⟨by omega, by show _ < ((128 : Nat) : Int); omega⟩) rfl rfl ?_
          rw [u6a, u6b]
          refine zw_bne2 (g := 110) (pc' := 104) rfl rfl rfl rfl rfl (fun h4 => ?_) (fun h4 => ?_)
          · have hE : ¬ (xEq (fun k => H.2.1 75 (16 * a.toInt.toNat + 2 * k)) (fun k => H.2.1 75 (16 * a.toInt.toNat + 2 * k + 1)) (fun k => H.2.1 75 (16 * b.toInt.toNat + 2 * k)) (fun k => H.2.1 75 (16 * b.toInt.toNat + 2 * k + 1))) (i.toInt.toNat + k.toInt.toNat) (j.toInt.toNat + k.toInt.toNat) = true := fun h9 => h4 (congrArg Int32.toInt (xEq_t.mp h9).2)
            rw [xAk_n hE, x_k0] at hP
            refine zw_ld (n := 2) (k := 5) (f := zp_isI) (pc' := 112) rfl rfl l5 rfl rfl ?_
            refine zw_ri rfl rfl ?_
            exact hP
          · have hE : (xEq (fun k => H.2.1 75 (16 * a.toInt.toNat + 2 * k)) (fun k => H.2.1 75 (16 * a.toInt.toNat + 2 * k + 1)) (fun k => H.2.1 75 (16 * b.toInt.toNat + 2 * k)) (fun k => H.2.1 75 (16 * b.toInt.toNat + 2 * k + 1))) (i.toInt.toNat + k.toInt.toNat) (j.toInt.toNat + k.toInt.toNat) = true := xEq_t.mpr ⟨Int32.toInt_inj.mp h3, Int32.toInt_inj.mp h4⟩
            rw [xAk_y hE, x_k1] at hP
            refine zw_ii (pc' := 107) rfl l5 rfl rfl ?_
            refine zw_s (pc' := 3) rfl rfl ?_
            exact ih _ (k + Int32.ofInt 1) (by omega) (by omega) (zw_gt l0 rfl rfl) (zw_gt l1 rfl rfl) (zw_gt l2 rfl rfl) (zw_gt l3 rfl rfl) (zw_gt l4 rfl rfl) zw_g1 (by rw [e6, e5]; exact hP)

theorem yr_al {L : Nat} {σ : Nat → Int32} {d : Nat} {H : zp_H} {a i b j : Int32} (W : zw_W H) (ha : 0 ≤ a.toInt ∧ a.toInt < 8) (hb : 0 ≤ b.toInt ∧ b.toInt < 8) (hma : 0 ≤ (H.2.1 74 (4 * a.toInt.toNat + 2)).toInt ∧ (H.2.1 74 (4 * a.toInt.toNat + 2)).toInt ≤ 8) (hmb : 0 ≤ (H.2.1 74 (4 * b.toInt.toNat + 2)).toInt ∧ (H.2.1 74 (4 * b.toInt.toNat + 2)).toInt ≤ 8) (hi : 0 ≤ i.toInt ∧ i.toInt < 8) (hj : 0 ≤ j.toInt ∧ j.toInt < 8) : zp_Call L σ (d + 2) 248 [.inr (.inr (some 73)), .inl a, .inl i, .inl b, .inl j] H (.inl (some (.inl (Int32.ofInt (xAr H a.toInt.toNat b.toInt.toNat i.toInt.toNat j.toInt.toNat : Int)))), H) := by
  refine zw_ex (zw_met zm_248_t rfl rfl ?_)
  refine zw_s (pc' := 1) rfl rfl ?_
  refine zw_st (n := 2) (k := 5) (f := zp_isI) (pc' := 3) rfl rfl rfl rfl rfl ?_
  refine yr_alL W ha hb hma hmb hi hj (min ((H.2.1 74 (4 * a.toInt.toNat + 2)).toInt.toNat - i.toInt.toNat) ((H.2.1 74 (4 * b.toInt.toNat + 2)).toInt.toNat - j.toInt.toNat)) _ (Int32.ofInt 0) ⟨by decide, by decide⟩ (by rw [show (Int32.ofInt 0).toInt = 0 by decide]; exact Nat.zero_add _) (zw_gt rfl rfl rfl) (zw_gt rfl rfl rfl) (zw_gt rfl rfl rfl) (zw_gt rfl rfl rfl) (zw_gt rfl rfl rfl) zw_g1 (x_rv (congrArg Int32.ofInt ?_))
  rw [show (Int32.ofInt 0).toInt = 0 by decide]
  exact Int.zero_add _

theorem yr_cpJ {L : Nat} {σ : Nat → Int32} {d : Nat} {P : zp_X → Prop} {H : zp_H} {a b i wt : Int32} (W : zw_W H) (ha : 0 ≤ a.toInt ∧ a.toInt < 8) (hb : 0 ≤ b.toInt ∧ b.toInt < 8) (hma : 0 ≤ (H.2.1 74 (4 * a.toInt.toNat + 2)).toInt ∧ (H.2.1 74 (4 * a.toInt.toNat + 2)).toInt ≤ 8) (hmb : 0 ≤ (H.2.1 74 (4 * b.toInt.toNat + 2)).toInt ∧ (H.2.1 74 (4 * b.toInt.toNat + 2)).toInt ≤ 8) (hi : 0 ≤ i.toInt ∧ i.toInt < 8) : ∀ (n : Nat) (lv : zp_LV) (j : Int32) (r : xT3), 0 ≤ j.toInt → j.toInt + n = (H.2.1 74 (4 * b.toInt.toNat + 2)).toInt → zp_get lv 0 = some (.inr (.inr (some 73))) → zp_get lv 1 = some (.inl a) → zp_get lv 2 = some (.inl b) → zp_get lv 3 = some (.inl wt) → zp_get lv 4 = some (.inl r.1) → zp_get lv 5 = some (.inl r.2.1) → zp_get lv 6 = some (.inl r.2.2) → zp_get lv 7 = some (.inl i) → zp_get lv 8 = some (.inl j) → (∀ lv1, zp_get lv1 0 = some (.inr (.inr (some 73))) → zp_get lv1 1 = some (.inl a) → zp_get lv1 2 = some (.inl b) → zp_get lv1 3 = some (.inl wt) → zp_get lv1 4 = some (.inl (xCj (xAr H a.toInt.toNat b.toInt.toNat) i n j r).1) → zp_get lv1 5 = some (.inl (xCj (xAr H a.toInt.toNat b.toInt.toNat) i n j r).2.1) → zp_get lv1 6 = some (.inl (xCj (xAr H a.toInt.toNat b.toInt.toNat) i n j r).2.2) → zp_get lv1 7 = some (.inl i) → zs_Safe L σ P zm_247 [] (d + 2) (129, lv1, [], H, (0, 0))) → zs_Safe L σ P zm_247 [] (d + 2) (75, lv, [], H, (0, 0)) := by
  intro n
  induction n with
  | zero =>
    intro lv j r h5 hn l0 l1 l2 l3 l4 l5 l6 l7 l8 hP
    refine zw_ld (n := 2) (k := 8) (f := zp_isI) (pc' := 77) rfl rfl l8 rfl rfl ?_
    refine zw_ld (n := 1) (k := 0) (f := zp_isR) (pc' := 78) rfl rfl l0 rfl rfl ?_
    refine zw_ld (n := 1) (k := 2) (f := zp_isI) (pc' := 79) rfl rfl l2 rfl rfl ?_
    refine zw_c (pc' := 82) (zw_cv (q := 72) (Y := zm_212) W.1 rfl rfl zm_212_t rfl rfl) rfl rfl rfl rfl rfl (zq_marks W ⟨hb.1, by omega⟩) ?_
    refine zw_bge2 (g := 129) (pc' := 85) rfl rfl rfl rfl rfl (fun h1 => ?_) (fun h1 => ?_)
    · exact hP lv l0 l1 l2 l3 l4 l5 l6 l7
    · have h1 : j.toInt < (H.2.1 74 (4 * b.toInt.toNat + 2)).toInt := h1
      omega
  | succ n ih =>
    intro lv j r h5 hn l0 l1 l2 l3 l4 l5 l6 l7 l8 hP
    refine zw_ld (n := 2) (k := 8) (f := zp_isI) (pc' := 77) rfl rfl l8 rfl rfl ?_
    refine zw_ld (n := 1) (k := 0) (f := zp_isR) (pc' := 78) rfl rfl l0 rfl rfl ?_
    refine zw_ld (n := 1) (k := 2) (f := zp_isI) (pc' := 79) rfl rfl l2 rfl rfl ?_
    refine zw_c (pc' := 82) (zw_cv (q := 72) (Y := zm_212) W.1 rfl rfl zm_212_t rfl rfl) rfl rfl rfl rfl rfl (zq_marks W ⟨hb.1, by omega⟩) ?_
    refine zw_bge2 (g := 129) (pc' := 85) rfl rfl rfl rfl rfl (fun h1 => ?_) (fun h1 => ?_)
    · have h1 : (H.2.1 74 (4 * b.toInt.toNat + 2)).toInt ≤ j.toInt := h1
      omega
    · have qa := yr_al (L := L) (σ := σ) (d := d) (a := a) (i := i) (b := b) (j := j) W ha hb hma hmb hi ⟨h5, by omega⟩
      have hb8 := xAr_b (H := H) (a := a.toInt.toNat) (b := b.toInt.toNat) (i := i.toInt.toNat) (j := j.toInt.toNat) hma.2
      have ea : (Int32.ofInt ((xAr H a.toInt.toNat b.toInt.toNat) i.toInt.toNat j.toInt.toNat : Int)).toInt = ((xAr H a.toInt.toNat b.toInt.toNat) i.toInt.toNat j.toInt.toNat : Int) := x_of (by omega) (by omega)
      have ej : (j + Int32.ofInt 1).toInt = j.toInt + 1 := zw_p1 (by omega)
      refine zw_ld (n := 1) (k := 0) (f := zp_isR) (pc' := 86) rfl rfl l0 rfl rfl ?_
      refine zw_ld (n := 1) (k := 1) (f := zp_isI) (pc' := 87) rfl rfl l1 rfl rfl ?_
      refine zw_ld (n := 2) (k := 7) (f := zp_isI) (pc' := 89) rfl rfl l7 rfl rfl ?_
      refine zw_ld (n := 1) (k := 2) (f := zp_isI) (pc' := 90) rfl rfl l2 rfl rfl ?_
      refine zw_ld (n := 2) (k := 8) (f := zp_isI) (pc' := 92) rfl rfl l8 rfl rfl ?_
      refine zw_c (pc' := 95) (zw_cv (q := 72) (Y := zm_248) W.1 rfl rfl zm_248_t rfl rfl) rfl rfl rfl rfl rfl (qa) ?_
      refine zw_ld (n := 2) (k := 4) (f := zp_isI) (pc' := 97) rfl rfl l4 rfl rfl ?_
      refine zw_bgt2 (g := 103) (pc' := 100) rfl rfl rfl rfl rfl (fun h2 => ?_) (fun h2 => ?_)
      · have h2 : r.1.toInt < (Int32.ofInt ((xAr H a.toInt.toNat b.toInt.toNat) i.toInt.toNat j.toInt.toNat : Int)).toInt := h2
        rw [ea] at h2
        refine zw_ld (n := 1) (k := 0) (f := zp_isR) (pc' := 104) rfl rfl l0 rfl rfl ?_
        refine zw_ld (n := 1) (k := 1) (f := zp_isI) (pc' := 105) rfl rfl l1 rfl rfl ?_
        refine zw_ld (n := 2) (k := 7) (f := zp_isI) (pc' := 107) rfl rfl l7 rfl rfl ?_
        refine zw_ld (n := 1) (k := 2) (f := zp_isI) (pc' := 108) rfl rfl l2 rfl rfl ?_
        refine zw_ld (n := 2) (k := 8) (f := zp_isI) (pc' := 110) rfl rfl l8 rfl rfl ?_
        refine zw_c (pc' := 113) (zw_cv (q := 72) (Y := zm_248) W.1 rfl rfl zm_248_t rfl rfl) rfl rfl rfl rfl rfl (qa) ?_
        refine zw_st (n := 2) (k := 4) (f := zp_isI) (pc' := 115) rfl rfl rfl rfl rfl ?_
        refine zw_ld (n := 2) (k := 7) (f := zp_isI) (pc' := 117) rfl rfl (zw_gt l7 rfl rfl) rfl rfl ?_
        refine zw_st (n := 2) (k := 5) (f := zp_isI) (pc' := 119) rfl rfl rfl rfl rfl ?_
        refine zw_ld (n := 2) (k := 8) (f := zp_isI) (pc' := 121) rfl rfl (zw_gt (zw_gt l8 rfl rfl) rfl rfl) rfl rfl ?_
        refine zw_st (n := 2) (k := 6) (f := zp_isI) (pc' := 123) rfl rfl rfl rfl rfl ?_
        refine zw_ii (pc' := 126) rfl (zw_gt (zw_gt (zw_gt l8 rfl rfl) rfl rfl) rfl rfl) rfl rfl ?_
        refine zw_s (pc' := 75) rfl rfl ?_
        exact ih _ (j + Int32.ofInt 1) ((Int32.ofInt ((xAr H a.toInt.toNat b.toInt.toNat) i.toInt.toNat j.toInt.toNat : Int)), i, j) (by omega) (by omega) (zw_gt (zw_gt (zw_gt (zw_gt l0 rfl rfl) rfl rfl) rfl rfl) rfl rfl) (zw_gt (zw_gt (zw_gt (zw_gt l1 rfl rfl) rfl rfl) rfl rfl) rfl rfl) (zw_gt (zw_gt (zw_gt (zw_gt l2 rfl rfl) rfl rfl) rfl rfl) rfl rfl) (zw_gt (zw_gt (zw_gt (zw_gt l3 rfl rfl) rfl rfl) rfl rfl) rfl rfl) (zw_gt (zw_gt (zw_gt zw_g1 rfl rfl) rfl rfl) rfl rfl) (zw_gt (zw_gt zw_g1 rfl rfl) rfl rfl) (zw_gt zw_g1 rfl rfl) (zw_gt (zw_gt (zw_gt (zw_gt l7 rfl rfl) rfl rfl) rfl rfl) rfl rfl) zw_g1 (fun lv1 => by rw [xCj_y h2] at hP; exact hP lv1)
      · have h2 : (Int32.ofInt ((xAr H a.toInt.toNat b.toInt.toNat) i.toInt.toNat j.toInt.toNat : Int)).toInt ≤ r.1.toInt := h2
        rw [ea] at h2
        have h3 : ¬ r.1.toInt < ((xAr H a.toInt.toNat b.toInt.toNat) i.toInt.toNat j.toInt.toNat : Int) := by omega
        refine zw_s (pc' := 123) rfl rfl ?_
        refine zw_ii (pc' := 126) rfl l8 rfl rfl ?_
        refine zw_s (pc' := 75) rfl rfl ?_
        exact ih _ (j + Int32.ofInt 1) r (by omega) (by omega) (zw_gt l0 rfl rfl) (zw_gt l1 rfl rfl) (zw_gt l2 rfl rfl) (zw_gt l3 rfl rfl) (zw_gt l4 rfl rfl) (zw_gt l5 rfl rfl) (zw_gt l6 rfl rfl) (zw_gt l7 rfl rfl) zw_g1 (fun lv1 => by rw [xCj_n h3] at hP; exact hP lv1)

theorem yr_cpI {L : Nat} {σ : Nat → Int32} {d : Nat} {P : zp_X → Prop} {H : zp_H} {a b wt : Int32} (W : zw_W H) (ha : 0 ≤ a.toInt ∧ a.toInt < 8) (hb : 0 ≤ b.toInt ∧ b.toInt < 8) (hma : 0 ≤ (H.2.1 74 (4 * a.toInt.toNat + 2)).toInt ∧ (H.2.1 74 (4 * a.toInt.toNat + 2)).toInt ≤ 8) (hmb : 0 ≤ (H.2.1 74 (4 * b.toInt.toNat + 2)).toInt ∧ (H.2.1 74 (4 * b.toInt.toNat + 2)).toInt ≤ 8) : ∀ (n : Nat) (lv : zp_LV) (i : Int32) (r : xT3), 0 ≤ i.toInt → i.toInt + n = (H.2.1 74 (4 * a.toInt.toNat + 2)).toInt → zp_get lv 0 = some (.inr (.inr (some 73))) → zp_get lv 1 = some (.inl a) → zp_get lv 2 = some (.inl b) → zp_get lv 3 = some (.inl wt) → zp_get lv 4 = some (.inl r.1) → zp_get lv 5 = some (.inl r.2.1) → zp_get lv 6 = some (.inl r.2.2) → zp_get lv 7 = some (.inl i) → (∀ lv1, zp_get lv1 0 = some (.inr (.inr (some 73))) → zp_get lv1 1 = some (.inl a) → zp_get lv1 2 = some (.inl b) → zp_get lv1 3 = some (.inl wt) → zp_get lv1 4 = some (.inl (xCi (xAr H a.toInt.toNat b.toInt.toNat) (H.2.1 74 (4 * b.toInt.toNat + 2)).toInt.toNat n i r).1) → zp_get lv1 5 = some (.inl (xCi (xAr H a.toInt.toNat b.toInt.toNat) (H.2.1 74 (4 * b.toInt.toNat + 2)).toInt.toNat n i r).2.1) → zp_get lv1 6 = some (.inl (xCi (xAr H a.toInt.toNat b.toInt.toNat) (H.2.1 74 (4 * b.toInt.toNat + 2)).toInt.toNat n i r).2.2) → zs_Safe L σ P zm_247 [] (d + 2) (135, lv1, [], H, (0, 0))) → zs_Safe L σ P zm_247 [] (d + 2) (62, lv, [], H, (0, 0)) := by
  intro n
  induction n with
  | zero =>
    intro lv i r h5 hn l0 l1 l2 l3 l4 l5 l6 l7 hP
    refine zw_ld (n := 2) (k := 7) (f := zp_isI) (pc' := 64) rfl rfl l7 rfl rfl ?_
    refine zw_ld (n := 1) (k := 0) (f := zp_isR) (pc' := 65) rfl rfl l0 rfl rfl ?_
    refine zw_ld (n := 1) (k := 1) (f := zp_isI) (pc' := 66) rfl rfl l1 rfl rfl ?_
    refine zw_c (pc' := 69) (zw_cv (q := 72) (Y := zm_212) W.1 rfl rfl zm_212_t rfl rfl) rfl rfl rfl rfl rfl (zq_marks W ⟨ha.1, by omega⟩) ?_
    refine zw_bge2 (g := 135) (pc' := 72) rfl rfl rfl rfl rfl (fun h1 => ?_) (fun h1 => ?_)
    · exact hP lv l0 l1 l2 l3 l4 l5 l6
    · have h1 : i.toInt < (H.2.1 74 (4 * a.toInt.toNat + 2)).toInt := h1
      omega
  | succ n ih =>
    intro lv i r h5 hn l0 l1 l2 l3 l4 l5 l6 l7 hP
    refine zw_ld (n := 2) (k := 7) (f := zp_isI) (pc' := 64) rfl rfl l7 rfl rfl ?_
    refine zw_ld (n := 1) (k := 0) (f := zp_isR) (pc' := 65) rfl rfl l0 rfl rfl ?_
    refine zw_ld (n := 1) (k := 1) (f := zp_isI) (pc' := 66) rfl rfl l1 rfl rfl ?_
    refine zw_c (pc' := 69) (zw_cv (q := 72) (Y := zm_212) W.1 rfl rfl zm_212_t rfl rfl) rfl rfl rfl rfl rfl (zq_marks W ⟨ha.1, by omega⟩) ?_
    refine zw_bge2 (g := 135) (pc' := 72) rfl rfl rfl rfl rfl (fun h1 => ?_) (fun h1 => ?_)
    · have h1 : (H.2.1 74 (4 * a.toInt.toNat + 2)).toInt ≤ i.toInt := h1
      omega
    · have ei : (i + Int32.ofInt 1).toInt = i.toInt + 1 := zw_p1 (by omega)
      refine zw_s (pc' := 73) rfl rfl ?_
      refine zw_st (n := 2) (k := 8) (f := zp_isI) (pc' := 75) rfl rfl rfl rfl rfl ?_
      refine yr_cpJ (i := i) W ha hb hma hmb ⟨h5, by omega⟩ (H.2.1 74 (4 * b.toInt.toNat + 2)).toInt.toNat _ (Int32.ofInt 0) r (by decide) (by rw [show (Int32.ofInt 0).toInt = 0 by decide]; omega) (zw_gt l0 rfl rfl) (zw_gt l1 rfl rfl) (zw_gt l2 rfl rfl) (zw_gt l3 rfl rfl) (zw_gt l4 rfl rfl) (zw_gt l5 rfl rfl) (zw_gt l6 rfl rfl) (zw_gt l7 rfl rfl) zw_g1 (fun lv1 m0 m1 m2 m3 m4 m5 m6 m7 => ?_)
      refine zw_ii (pc' := 132) rfl m7 rfl rfl ?_
      refine zw_s (pc' := 62) rfl rfl ?_
      exact ih _ (i + Int32.ofInt 1) _ (by omega) (by omega) (zw_gt m0 rfl rfl) (zw_gt m1 rfl rfl) (zw_gt m2 rfl rfl) (zw_gt m3 rfl rfl) (zw_gt m4 rfl rfl) (zw_gt m5 rfl rfl) (zw_gt m6 rfl rfl) zw_g1 hP

theorem yr_cd0 {L : Nat} {σ : Nat → Int32} {d : Nat} {H : zp_H} (W : zw_W H) {x1 x2 : Int32} (h1 : 0 ≤ x1.toInt ∧ x1.toInt < (H.2.1 72 5).toInt) (h2 : 0 ≤ x2.toInt ∧ x2.toInt < (H.2.1 72 5).toInt) (g8 : (H.2.1 72 5).toInt ≤ 8) (m1 : 0 ≤ ((zw_I H 72 0 (Int32.ofInt 0)).2.1 74 (4 * x1.toInt.toNat + 2)).toInt ∧ ((zw_I H 72 0 (Int32.ofInt 0)).2.1 74 (4 * x1.toInt.toNat + 2)).toInt ≤ 8) (m2 : 0 ≤ ((zw_I H 72 0 (Int32.ofInt 0)).2.1 74 (4 * x2.toInt.toNat + 2)).toInt ∧ ((zw_I H 72 0 (Int32.ofInt 0)).2.1 74 (4 * x2.toInt.toNat + 2)).toInt ≤ 8) (hn : x1.toInt ≠ x2.toInt) : zp_Call L σ (d + 3) 247 [.inr (.inr (some 73)), .inl x1, .inl x2, .inl (Int32.ofInt 0)] H (.inl (some (.inl (xCi (xAr (zw_I H 72 0 (Int32.ofInt 0)) x1.toInt.toNat x2.toInt.toNat) ((zw_I H 72 0 (Int32.ofInt 0)).2.1 74 (4 * x2.toInt.toNat + 2)).toInt.toNat ((zw_I H 72 0 (Int32.ofInt 0)).2.1 74 (4 * x1.toInt.toNat + 2)).toInt.toNat (Int32.ofInt 0) (Int32.ofInt 0, Int32.ofInt (-1), Int32.ofInt (-1))).1)), (zw_I H 72 0 (Int32.ofInt 0))) := by
  have h0 : ((zw_I H 72 0 (Int32.ofInt 0)).2.1 72 0).toInt = 0 := congrArg Int32.toInt zw_eq
  have e5 : (zw_I H 72 0 (Int32.ofInt 0)).2.1 72 5 = H.2.1 72 5 := zw_ne rfl rfl
  refine zw_ex (zw_met zm_247_t rfl rfl ?_)
  refine zw_ld (n := 1) (k := 0) (f := zp_isR) (pc' := 1) rfl rfl rfl rfl rfl ?_
  refine zw_s (pc' := 2) rfl rfl ?_
  refine zw_pI (q := 72) (pc' := 5) W rfl rfl rfl rfl rfl rfl ?_
  refine zw_ld (n := 1) (k := 0) (f := zp_isR) (pc' := 6) rfl rfl rfl rfl rfl ?_
  refine zw_ld (n := 1) (k := 1) (f := zp_isI) (pc' := 7) rfl rfl rfl rfl rfl ?_
  refine zw_c (pc' := 10) (zw_cv (q := 72) (Y := zm_210) (zw_W_I W).1 rfl rfl zm_210_t rfl rfl) rfl rfl rfl rfl rfl (zq_slate1 (zw_W_I W) h0 (by rw [e5]; exact h1)) ?_
  refine zw_beq1 (g := 48) (pc' := 13) rfl rfl rfl (rfl : _ = (1 : Int)) (fun h9 => absurd h9 (by decide)) (fun h7 => ?_)
  refine zw_ld (n := 1) (k := 0) (f := zp_isR) (pc' := 14) rfl rfl rfl rfl rfl ?_
  refine zw_ld (n := 1) (k := 2) (f := zp_isI) (pc' := 15) rfl rfl rfl rfl rfl ?_
  refine zw_c (pc' := 18) (zw_cv (q := 72) (Y := zm_210) (zw_W_I W).1 rfl rfl zm_210_t rfl rfl) rfl rfl rfl rfl rfl (zq_slate1 (zw_W_I W) h0 (by rw [e5]; exact h2)) ?_
  refine zw_beq1 (g := 48) (pc' := 21) rfl rfl rfl (rfl : _ = (1 : Int)) (fun h9 => absurd h9 (by decide)) (fun h7 => ?_)
  refine zw_ld (n := 1) (k := 0) (f := zp_isR) (pc' := 22) rfl rfl rfl rfl rfl ?_
  refine zw_ld (n := 1) (k := 3) (f := zp_isI) (pc' := 23) rfl rfl rfl rfl rfl ?_
  refine zw_s (pc' := 24) rfl rfl ?_
  refine zw_c (pc' := 27) (zw_cv (q := 72) (Y := zm_208) (zw_W_I W).1 rfl rfl zm_208_t rfl rfl) rfl rfl rfl rfl rfl (yr_wh1 (zw_W_I W) h0 ⟨by decide, by decide⟩) ?_
  refine zw_beq1 (g := 48) (pc' := 30) rfl rfl rfl (rfl : _ = (1 : Int)) (fun h9 => absurd h9 (by decide)) (fun h7 => ?_)
  refine zw_ld (n := 1) (k := 0) (f := zp_isR) (pc' := 31) rfl rfl rfl rfl rfl ?_
  refine zw_ld (n := 1) (k := 1) (f := zp_isI) (pc' := 32) rfl rfl rfl rfl rfl ?_
  refine zw_ld (n := 1) (k := 2) (f := zp_isI) (pc' := 33) rfl rfl rfl rfl rfl ?_
  refine zw_beq2 (g := 40) (pc' := 36) rfl rfl rfl rfl rfl (fun h3 => ?_) (fun h3 => ?_)
  · exact absurd h3 hn
  · refine zw_s (pc' := 37) rfl rfl ?_
    refine zw_s (pc' := 41) rfl rfl ?_
    refine zw_s (pc' := 42) rfl rfl ?_
    refine zw_c (pc' := 45) (zw_cv (q := 72) (Y := zm_170) (zw_W_I W).1 rfl rfl zm_170_t rfl rfl) rfl rfl rfl rfl rfl (zq_right1 (zw_W_I W) h0) ?_
    refine zw_bne1 (g := 50) (pc' := 48) rfl rfl rfl (rfl : _ = (1 : Int)) (fun h7 => ?_) (fun h9 => absurd h9 (by decide))
    refine zw_s (pc' := 51) rfl rfl ?_
    refine zw_st (n := 2) (k := 4) (f := zp_isI) (pc' := 53) rfl rfl rfl rfl rfl ?_
    refine zw_s (pc' := 54) rfl rfl ?_
    refine zw_st (n := 2) (k := 5) (f := zp_isI) (pc' := 56) rfl rfl rfl rfl rfl ?_
    refine zw_s (pc' := 57) rfl rfl ?_
    refine zw_st (n := 2) (k := 6) (f := zp_isI) (pc' := 59) rfl rfl rfl rfl rfl ?_
    refine zw_s (pc' := 60) rfl rfl ?_
    refine zw_st (n := 2) (k := 7) (f := zp_isI) (pc' := 62) rfl rfl rfl rfl rfl ?_
    refine yr_cpI (zw_W_I W) ⟨h1.1, by omega⟩ ⟨h2.1, by omega⟩ m1 m2 ((zw_I H 72 0 (Int32.ofInt 0)).2.1 74 (4 * x1.toInt.toNat + 2)).toInt.toNat _ (Int32.ofInt 0) (Int32.ofInt 0, Int32.ofInt (-1), Int32.ofInt (-1)) (by decide) (by rw [show (Int32.ofInt 0).toInt = 0 by decide]; omega) (zw_gt (zw_gt (zw_gt (zw_gt rfl rfl rfl) rfl rfl) rfl rfl) rfl rfl) (zw_gt (zw_gt (zw_gt (zw_gt rfl rfl rfl) rfl rfl) rfl rfl) rfl rfl) (zw_gt (zw_gt (zw_gt (zw_gt rfl rfl rfl) rfl rfl) rfl rfl) rfl rfl) (zw_gt (zw_gt (zw_gt (zw_gt rfl rfl rfl) rfl rfl) rfl rfl) rfl rfl) (zw_gt (zw_gt (zw_gt zw_g1 rfl rfl) rfl rfl) rfl rfl) (zw_gt (zw_gt zw_g1 rfl rfl) rfl rfl) (zw_gt zw_g1 rfl rfl) zw_g1 (fun lv1 k0 k1 k2 k3 k4 k5 k6 => ?_)
    refine zw_ld (n := 1) (k := 3) (f := zp_isI) (pc' := 136) rfl rfl k3 rfl rfl ?_
    refine zw_bne1 (g := 144) (pc' := 139) rfl rfl rfl (rfl : _ = (0 : Int)) (fun h9 => absurd h9 (by decide)) (fun h8 => ?_)
    refine zw_ld (n := 2) (k := 4) (f := zp_isI) (pc' := 141) rfl rfl k4 rfl rfl ?_
    refine zw_s (pc' := 156) rfl rfl ?_
    refine zw_ri rfl rfl ?_
    rfl

theorem yr_cd1 {L : Nat} {σ : Nat → Int32} {d : Nat} {H : zp_H} (W : zw_W H) {x1 x2 : Int32} (h1 : 0 ≤ x1.toInt ∧ x1.toInt < (H.2.1 72 5).toInt) (h2 : 0 ≤ x2.toInt ∧ x2.toInt < (H.2.1 72 5).toInt) (g8 : (H.2.1 72 5).toInt ≤ 8) (m1 : 0 ≤ ((zw_I H 72 0 (Int32.ofInt 0)).2.1 74 (4 * x1.toInt.toNat + 2)).toInt ∧ ((zw_I H 72 0 (Int32.ofInt 0)).2.1 74 (4 * x1.toInt.toNat + 2)).toInt ≤ 8) (m2 : 0 ≤ ((zw_I H 72 0 (Int32.ofInt 0)).2.1 74 (4 * x2.toInt.toNat + 2)).toInt ∧ ((zw_I H 72 0 (Int32.ofInt 0)).2.1 74 (4 * x2.toInt.toNat + 2)).toInt ≤ 8) (hn : x1.toInt ≠ x2.toInt) : zp_Call L σ (d + 3) 247 [.inr (.inr (some 73)), .inl x1, .inl x2, .inl (Int32.ofInt 1)] H (.inl (some (.inl (xCi (xAr (zw_I H 72 0 (Int32.ofInt 0)) x1.toInt.toNat x2.toInt.toNat) ((zw_I H 72 0 (Int32.ofInt 0)).2.1 74 (4 * x2.toInt.toNat + 2)).toInt.toNat ((zw_I H 72 0 (Int32.ofInt 0)).2.1 74 (4 * x1.toInt.toNat + 2)).toInt.toNat (Int32.ofInt 0) (Int32.ofInt 0, Int32.ofInt (-1), Int32.ofInt (-1))).2.1)), (zw_I H 72 0 (Int32.ofInt 0))) := by
  have h0 : ((zw_I H 72 0 (Int32.ofInt 0)).2.1 72 0).toInt = 0 := congrArg Int32.toInt zw_eq
  have e5 : (zw_I H 72 0 (Int32.ofInt 0)).2.1 72 5 = H.2.1 72 5 := zw_ne rfl rfl
  refine zw_ex (zw_met zm_247_t rfl rfl ?_)
  refine zw_ld (n := 1) (k := 0) (f := zp_isR) (pc' := 1) rfl rfl rfl rfl rfl ?_
  refine zw_s (pc' := 2) rfl rfl ?_
  refine zw_pI (q := 72) (pc' := 5) W rfl rfl rfl rfl rfl rfl ?_
  refine zw_ld (n := 1) (k := 0) (f := zp_isR) (pc' := 6) rfl rfl rfl rfl rfl ?_
  refine zw_ld (n := 1) (k := 1) (f := zp_isI) (pc' := 7) rfl rfl rfl rfl rfl ?_
  refine zw_c (pc' := 10) (zw_cv (q := 72) (Y := zm_210) (zw_W_I W).1 rfl rfl zm_210_t rfl rfl) rfl rfl rfl rfl rfl (zq_slate1 (zw_W_I W) h0 (by rw [e5]; exact h1)) ?_
  refine zw_beq1 (g := 48) (pc' := 13) rfl rfl rfl (rfl : _ = (1 : Int)) (fun h9 => absurd h9 (by decide)) (fun h7 => ?_)
  refine zw_ld (n := 1) (k := 0) (f := zp_isR) (pc' := 14) rfl rfl rfl rfl rfl ?_
  refine zw_ld (n := 1) (k := 2) (f := zp_isI) (pc' := 15) rfl rfl rfl rfl rfl ?_
  refine zw_c (pc' := 18) (zw_cv (q := 72) (Y := zm_210) (zw_W_I W).1 rfl rfl zm_210_t rfl rfl) rfl rfl rfl rfl rfl (zq_slate1 (zw_W_I W) h0 (by rw [e5]; exact h2)) ?_
  refine zw_beq1 (g := 48) (pc' := 21) rfl rfl rfl (rfl : _ = (1 : Int)) (fun h9 => absurd h9 (by decide)) (fun h7 => ?_)
  refine zw_ld (n := 1) (k := 0) (f := zp_isR) (pc' := 22) rfl rfl rfl rfl rfl ?_
  refine zw_ld (n := 1) (k := 3) (f := zp_isI) (pc' := 23) rfl rfl rfl rfl rfl ?_
  refine zw_s (pc' := 24) rfl rfl ?_
  refine zw_c (pc' := 27) (zw_cv (q := 72) (Y := zm_208) (zw_W_I W).1 rfl rfl zm_208_t rfl rfl) rfl rfl rfl rfl rfl (yr_wh1 (zw_W_I W) h0 ⟨by decide, by decide⟩) ?_
  refine zw_beq1 (g := 48) (pc' := 30) rfl rfl rfl (rfl : _ = (1 : Int)) (fun h9 => absurd h9 (by decide)) (fun h7 => ?_)
  refine zw_ld (n := 1) (k := 0) (f := zp_isR) (pc' := 31) rfl rfl rfl rfl rfl ?_
  refine zw_ld (n := 1) (k := 1) (f := zp_isI) (pc' := 32) rfl rfl rfl rfl rfl ?_
  refine zw_ld (n := 1) (k := 2) (f := zp_isI) (pc' := 33) rfl rfl rfl rfl rfl ?_
  refine zw_beq2 (g := 40) (pc' := 36) rfl rfl rfl rfl rfl (fun h3 => ?_) (fun h3 => ?_)
  · exact absurd h3 hn
  · refine zw_s (pc' := 37) rfl rfl ?_
    refine zw_s (pc' := 41) rfl rfl ?_
    refine zw_s (pc' := 42) rfl rfl ?_
    refine zw_c (pc' := 45) (zw_cv (q := 72) (Y := zm_170) (zw_W_I W).1 rfl rfl zm_170_t rfl rfl) rfl rfl rfl rfl rfl (zq_right1 (zw_W_I W) h0) ?_
    refine zw_bne1 (g := 50) (pc' := 48) rfl rfl rfl (rfl : _ = (1 : Int)) (fun h7 => ?_) (fun h9 => absurd h9 (by decide))
    refine zw_s (pc' := 51) rfl rfl ?_
    refine zw_st (n := 2) (k := 4) (f := zp_isI) (pc' := 53) rfl rfl rfl rfl rfl ?_
    refine zw_s (pc' := 54) rfl rfl ?_
    refine zw_st (n := 2) (k := 5) (f := zp_isI) (pc' := 56) rfl rfl rfl rfl rfl ?_
    refine zw_s (pc' := 57) rfl rfl ?_
    refine zw_st (n := 2) (k := 6) (f := zp_isI) (pc' := 59) rfl rfl rfl rfl rfl ?_
    refine zw_s (pc' := 60) rfl rfl ?_
    refine zw_st (n := 2) (k := 7) (f := zp_isI) (pc' := 62) rfl rfl rfl rfl rfl ?_
    refine yr_cpI (zw_W_I W) ⟨h1.1, by omega⟩ ⟨h2.1, by omega⟩ m1 m2 ((zw_I H 72 0 (Int32.ofInt 0)).2.1 74 (4 * x1.toInt.toNat + 2)).toInt.toNat _ (Int32.ofInt 0) (Int32.ofInt 0, Int32.ofInt (-1), Int32.ofInt (-1)) (by decide) (by rw [show (Int32.ofInt 0).toInt = 0 by decide]; omega) (zw_gt (zw_gt (zw_gt (zw_gt rfl rfl rfl) rfl rfl) rfl rfl) rfl rfl) (zw_gt (zw_gt (zw_gt (zw_gt rfl rfl rfl) rfl rfl) rfl rfl) rfl rfl) (zw_gt (zw_gt (zw_gt (zw_gt rfl rfl rfl) rfl rfl) rfl rfl) rfl rfl) (zw_gt (zw_gt (zw_gt (zw_gt rfl rfl rfl) rfl rfl) rfl rfl) rfl rfl) (zw_gt (zw_gt (zw_gt zw_g1 rfl rfl) rfl rfl) rfl rfl) (zw_gt (zw_gt zw_g1 rfl rfl) rfl rfl) (zw_gt zw_g1 rfl rfl) zw_g1 (fun lv1 k0 k1 k2 k3 k4 k5 k6 => ?_)
    refine zw_ld (n := 1) (k := 3) (f := zp_isI) (pc' := 136) rfl rfl k3 rfl rfl ?_
    refine zw_bne1 (g := 144) (pc' := 139) rfl rfl rfl (rfl : _ = (1 : Int)) (fun h8 => ?_) (fun h9 => absurd h9 (by decide))
    refine zw_ld (n := 1) (k := 3) (f := zp_isI) (pc' := 145) rfl rfl k3 rfl rfl ?_
    refine zw_s (pc' := 146) rfl rfl ?_
    refine zw_bne2 (g := 154) (pc' := 149) rfl rfl rfl (rfl : _ = (1 : Int)) (rfl : _ = (1 : Int)) (fun h9 => absurd h9 (by decide)) (fun h8 => ?_)
    refine zw_ld (n := 2) (k := 5) (f := zp_isI) (pc' := 151) rfl rfl k5 rfl rfl ?_
    refine zw_s (pc' := 156) rfl rfl ?_
    refine zw_ri rfl rfl ?_
    rfl

theorem yr_cd2 {L : Nat} {σ : Nat → Int32} {d : Nat} {H : zp_H} (W : zw_W H) {x1 x2 : Int32} (h1 : 0 ≤ x1.toInt ∧ x1.toInt < (H.2.1 72 5).toInt) (h2 : 0 ≤ x2.toInt ∧ x2.toInt < (H.2.1 72 5).toInt) (g8 : (H.2.1 72 5).toInt ≤ 8) (m1 : 0 ≤ ((zw_I H 72 0 (Int32.ofInt 0)).2.1 74 (4 * x1.toInt.toNat + 2)).toInt ∧ ((zw_I H 72 0 (Int32.ofInt 0)).2.1 74 (4 * x1.toInt.toNat + 2)).toInt ≤ 8) (m2 : 0 ≤ ((zw_I H 72 0 (Int32.ofInt 0)).2.1 74 (4 * x2.toInt.toNat + 2)).toInt ∧ ((zw_I H 72 0 (Int32.ofInt 0)).2.1 74 (4 * x2.toInt.toNat + 2)).toInt ≤ 8) (hn : x1.toInt ≠ x2.toInt) : zp_Call L σ (d + 3) 247 [.inr (.inr (some 73)), .inl x1, .inl x2, .inl (Int32.ofInt 2)] H (.inl (some (.inl (xCi (xAr (zw_I H 72 0 (Int32.ofInt 0)) x1.toInt.toNat x2.toInt.toNat) ((zw_I H 72 0 (Int32.ofInt 0)).2.1 74 (4 * x2.toInt.toNat + 2)).toInt.toNat ((zw_I H 72 0 (Int32.ofInt 0)).2.1 74 (4 * x1.toInt.toNat + 2)).toInt.toNat (Int32.ofInt 0) (Int32.ofInt 0, Int32.ofInt (-1), Int32.ofInt (-1))).2.2)), (zw_I H 72 0 (Int32.ofInt 0))) := by
  have h0 : ((zw_I H 72 0 (Int32.ofInt 0)).2.1 72 0).toInt = 0 := congrArg Int32.toInt zw_eq
  have e5 : (zw_I H 72 0 (Int32.ofInt 0)).2.1 72 5 = H.2.1 72 5 := zw_ne rfl rfl
  refine zw_ex (zw_met zm_247_t rfl rfl ?_)
  refine zw_ld (n := 1) (k := 0) (f := zp_isR) (pc' := 1) rfl rfl rfl rfl rfl ?_
  refine zw_s (pc' := 2) rfl rfl ?_
  refine zw_pI (q := 72) (pc' := 5) W rfl rfl rfl rfl rfl rfl ?_
  refine zw_ld (n := 1) (k := 0) (f := zp_isR) (pc' := 6) rfl rfl rfl rfl rfl ?_
  refine zw_ld (n := 1) (k := 1) (f := zp_isI) (pc' := 7) rfl rfl rfl rfl rfl ?_
  refine zw_c (pc' := 10) (zw_cv (q := 72) (Y := zm_210) (zw_W_I W).1 rfl rfl zm_210_t rfl rfl) rfl rfl rfl rfl rfl (zq_slate1 (zw_W_I W) h0 (by rw [e5]; exact h1)) ?_
  refine zw_beq1 (g := 48) (pc' := 13) rfl rfl rfl (rfl : _ = (1 : Int)) (fun h9 => absurd h9 (by decide)) (fun h7 => ?_)
  refine zw_ld (n := 1) (k := 0) (f := zp_isR) (pc' := 14) rfl rfl rfl rfl rfl ?_
  refine zw_ld (n := 1) (k := 2) (f := zp_isI) (pc' := 15) rfl rfl rfl rfl rfl ?_
  refine zw_c (pc' := 18) (zw_cv (q := 72) (Y := zm_210) (zw_W_I W).1 rfl rfl zm_210_t rfl rfl) rfl rfl rfl rfl rfl (zq_slate1 (zw_W_I W) h0 (by rw [e5]; exact h2)) ?_
  refine zw_beq1 (g := 48) (pc' := 21) rfl rfl rfl (rfl : _ = (1 : Int)) (fun h9 => absurd h9 (by decide)) (fun h7 => ?_)
  refine zw_ld (n := 1) (k := 0) (f := zp_isR) (pc' := 22) rfl rfl rfl rfl rfl ?_
  refine zw_ld (n := 1) (k := 3) (f := zp_isI) (pc' := 23) rfl rfl rfl rfl rfl ?_
  refine zw_s (pc' := 24) rfl rfl ?_
  refine zw_c (pc' := 27) (zw_cv (q := 72) (Y := zm_208) (zw_W_I W).1 rfl rfl zm_208_t rfl rfl) rfl rfl rfl rfl rfl (yr_wh1 (zw_W_I W) h0 ⟨by decide, by decide⟩) ?_
  refine zw_beq1 (g := 48) (pc' := 30) rfl rfl rfl (rfl : _ = (1 : Int)) (fun h9 => absurd h9 (by decide)) (fun h7 => ?_)
  refine zw_ld (n := 1) (k := 0) (f := zp_isR) (pc' := 31) rfl rfl rfl rfl rfl ?_
  refine zw_ld (n := 1) (k := 1) (f := zp_isI) (pc' := 32) rfl rfl rfl rfl rfl ?_
  refine zw_ld (n := 1) (k := 2) (f := zp_isI) (pc' := 33) rfl rfl rfl rfl rfl ?_
  refine zw_beq2 (g := 40) (pc' := 36) rfl rfl rfl rfl rfl (fun h3 => ?_) (fun h3 => ?_)
  · exact absurd h3 hn
  · refine zw_s (pc' := 37) rfl rfl ?_
    refine zw_s (pc' := 41) rfl rfl ?_
    refine zw_s (pc' := 42) rfl rfl ?_
    refine zw_c (pc' := 45) (zw_cv (q := 72) (Y := zm_170) (zw_W_I W).1 rfl rfl zm_170_t rfl rfl) rfl rfl rfl rfl rfl (zq_right1 (zw_W_I W) h0) ?_
    refine zw_bne1 (g := 50) (pc' := 48) rfl rfl rfl (rfl : _ = (1 : Int)) (fun h7 => ?_) (fun h9 => absurd h9 (by decide))
    refine zw_s (pc' := 51) rfl rfl ?_
    refine zw_st (n := 2) (k := 4) (f := zp_isI) (pc' := 53) rfl rfl rfl rfl rfl ?_
    refine zw_s (pc' := 54) rfl rfl ?_
    refine zw_st (n := 2) (k := 5) (f := zp_isI) (pc' := 56) rfl rfl rfl rfl rfl ?_
    refine zw_s (pc' := 57) rfl rfl ?_
    refine zw_st (n := 2) (k := 6) (f := zp_isI) (pc' := 59) rfl rfl rfl rfl rfl ?_
    refine zw_s (pc' := 60) rfl rfl ?_
    refine zw_st (n := 2) (k := 7) (f := zp_isI) (pc' := 62) rfl rfl rfl rfl rfl ?_
    refine yr_cpI (zw_W_I W) ⟨h1.1, by omega⟩ ⟨h2.1, by omega⟩ m1 m2 ((zw_I H 72 0 (Int32.ofInt 0)).2.1 74 (4 * x1.toInt.toNat + 2)).toInt.toNat _ (Int32.ofInt 0) (Int32.ofInt 0, Int32.ofInt (-1), Int32.ofInt (-1)) (by decide) (by rw [show (Int32.ofInt 0).toInt = 0 by decide]; omega) (zw_gt (zw_gt (zw_gt (zw_gt rfl rfl rfl) rfl rfl) rfl rfl) rfl rfl) (zw_gt (zw_gt (zw_gt (zw_gt rfl rfl rfl) rfl rfl) rfl rfl) rfl rfl) (zw_gt (zw_gt (zw_gt (zw_gt rfl rfl rfl) rfl rfl) rfl rfl) rfl rfl) (zw_gt (zw_gt (zw_gt (zw_gt rfl rfl rfl) rfl rfl) rfl rfl) rfl rfl) (zw_gt (zw_gt (zw_gt zw_g1 rfl rfl) rfl rfl) rfl rfl) (zw_gt (zw_gt zw_g1 rfl rfl) rfl rfl) (zw_gt zw_g1 rfl rfl) zw_g1 (fun lv1 k0 k1 k2 k3 k4 k5 k6 => ?_)
    refine zw_ld (n := 1) (k := 3) (f := zp_isI) (pc' := 136) rfl rfl k3 rfl rfl ?_
    refine zw_bne1 (g := 144) (pc' := 139) rfl rfl rfl (rfl : _ = (2 : Int)) (fun h8 => ?_) (fun h9 => absurd h9 (by decide))
    refine zw_ld (n := 1) (k := 3) (f := zp_isI) (pc' := 145) rfl rfl k3 rfl rfl ?_
    refine zw_s (pc' := 146) rfl rfl ?_
    refine zw_bne2 (g := 154) (pc' := 149) rfl rfl rfl (rfl : _ = (2 : Int)) (rfl : _ = (1 : Int)) (fun h8 => ?_) (fun h9 => absurd h9 (by decide))
    refine zw_ld (n := 2) (k := 6) (f := zp_isI) (pc' := 156) rfl rfl k6 rfl rfl ?_
    refine zw_ri rfl rfl ?_
    rfl

theorem yr_cdn {L : Nat} {σ : Nat → Int32} {d : Nat} {H : zp_H} (W : zw_W H) {x1 x2 x3 : Int32} (h : ¬ ((0 ≤ x1.toInt ∧ x1.toInt < (H.2.1 72 5).toInt) ∧ (0 ≤ x2.toInt ∧ x2.toInt < (H.2.1 72 5).toInt) ∧ 0 ≤ x3.toInt ∧ x3.toInt ≤ (Int32.ofInt 2).toInt)) : zp_Call L σ (d + 3) 247 [.inr (.inr (some 73)), .inl x1, .inl x2, .inl x3] H (.inl (some (.inl (Int32.ofInt 0))), zw_I (zw_I H 72 0 (Int32.ofInt 0)) 72 0 (Int32.ofInt 1)) := by
  have h0 : ((zw_I H 72 0 (Int32.ofInt 0)).2.1 72 0).toInt = 0 := congrArg Int32.toInt zw_eq
  have e5 : (zw_I H 72 0 (Int32.ofInt 0)).2.1 72 5 = H.2.1 72 5 := zw_ne rfl rfl
  refine zw_ex (zw_met zm_247_t rfl rfl ?_)
  refine zw_ld (n := 1) (k := 0) (f := zp_isR) (pc' := 1) rfl rfl rfl rfl rfl ?_
  refine zw_s (pc' := 2) rfl rfl ?_
  refine zw_pI (q := 72) (pc' := 5) W rfl rfl rfl rfl rfl rfl ?_
  refine zw_ld (n := 1) (k := 0) (f := zp_isR) (pc' := 6) rfl rfl rfl rfl rfl ?_
  refine zw_ld (n := 1) (k := 1) (f := zp_isI) (pc' := 7) rfl rfl rfl rfl rfl ?_
  by_cases h1 : 0 ≤ x1.toInt ∧ x1.toInt < (H.2.1 72 5).toInt
  · refine zw_c (pc' := 10) (zw_cv (q := 72) (Y := zm_210) (zw_W_I W).1 rfl rfl zm_210_t rfl rfl) rfl rfl rfl rfl rfl (zq_slate1 (zw_W_I W) h0 (by rw [e5]; exact h1)) ?_
    refine zw_beq1 (g := 48) (pc' := 13) rfl rfl rfl (rfl : _ = (1 : Int)) (fun h9 => absurd h9 (by decide)) (fun h7 => ?_)
    refine zw_ld (n := 1) (k := 0) (f := zp_isR) (pc' := 14) rfl rfl rfl rfl rfl ?_
    refine zw_ld (n := 1) (k := 2) (f := zp_isI) (pc' := 15) rfl rfl rfl rfl rfl ?_
    by_cases h2 : 0 ≤ x2.toInt ∧ x2.toInt < (H.2.1 72 5).toInt
    · refine zw_c (pc' := 18) (zw_cv (q := 72) (Y := zm_210) (zw_W_I W).1 rfl rfl zm_210_t rfl rfl) rfl rfl rfl rfl rfl (zq_slate1 (zw_W_I W) h0 (by rw [e5]; exact h2)) ?_
      refine zw_beq1 (g := 48) (pc' := 21) rfl rfl rfl (rfl : _ = (1 : Int)) (fun h9 => absurd h9 (by decide)) (fun h7 => ?_)
      refine zw_ld (n := 1) (k := 0) (f := zp_isR) (pc' := 22) rfl rfl rfl rfl rfl ?_
      refine zw_ld (n := 1) (k := 3) (f := zp_isI) (pc' := 23) rfl rfl rfl rfl rfl ?_
      refine zw_s (pc' := 24) rfl rfl ?_
      refine zw_c (pc' := 27) (zw_cv (q := 72) (Y := zm_208) (zw_W_I W).1 rfl rfl zm_208_t rfl rfl) rfl rfl rfl rfl rfl (yr_wh0 (zw_W_I W) h0 (fun h9 => h ⟨h1, h2, h9⟩)) ?_
      refine zw_beq1 (g := 48) (pc' := 30) rfl rfl rfl (rfl : _ = (0 : Int)) (fun h7 => ?_) (fun h9 => absurd h9 (by decide))
      refine zw_s (pc' := 49) rfl rfl ?_
      refine zw_ri rfl rfl ?_
      rfl
    · refine zw_c (pc' := 18) (zw_cv (q := 72) (Y := zm_210) (zw_W_I W).1 rfl rfl zm_210_t rfl rfl) rfl rfl rfl rfl rfl (zq_slate0 (zw_W_I W) h0 (by rw [e5]; exact h2)) ?_
      refine zw_beq1 (g := 48) (pc' := 21) rfl rfl rfl (rfl : _ = (0 : Int)) (fun h7 => ?_) (fun h9 => absurd h9 (by decide))
      refine zw_s (pc' := 49) rfl rfl ?_
      refine zw_ri rfl rfl ?_
      rfl
  · refine zw_c (pc' := 10) (zw_cv (q := 72) (Y := zm_210) (zw_W_I W).1 rfl rfl zm_210_t rfl rfl) rfl rfl rfl rfl rfl (zq_slate0 (zw_W_I W) h0 (by rw [e5]; exact h1)) ?_
    refine zw_beq1 (g := 48) (pc' := 13) rfl rfl rfl (rfl : _ = (0 : Int)) (fun h7 => ?_) (fun h9 => absurd h9 (by decide))
    refine zw_s (pc' := 49) rfl rfl ?_
    refine zw_ri rfl rfl ?_
    rfl

theorem yr_cdi {L : Nat} {σ : Nat → Int32} {d : Nat} {H : zp_H} (W : zw_W H) {x1 x2 x3 : Int32} (h1 : 0 ≤ x1.toInt ∧ x1.toInt < (H.2.1 72 5).toInt) (h2 : 0 ≤ x2.toInt ∧ x2.toInt < (H.2.1 72 5).toInt) (h3 : 0 ≤ x3.toInt ∧ x3.toInt ≤ (Int32.ofInt 2).toInt) (he : x1.toInt = x2.toInt) : zp_Call L σ (d + 3) 247 [.inr (.inr (some 73)), .inl x1, .inl x2, .inl x3] H (.inl (some (.inl (Int32.ofInt 0))), zw_I (zw_I H 72 0 (Int32.ofInt 0)) 72 0 (Int32.ofInt 2)) := by
  have h0 : ((zw_I H 72 0 (Int32.ofInt 0)).2.1 72 0).toInt = 0 := congrArg Int32.toInt zw_eq
  have e5 : (zw_I H 72 0 (Int32.ofInt 0)).2.1 72 5 = H.2.1 72 5 := zw_ne rfl rfl
  refine zw_ex (zw_met zm_247_t rfl rfl ?_)
  refine zw_ld (n := 1) (k := 0) (f := zp_isR) (pc' := 1) rfl rfl rfl rfl rfl ?_
  refine zw_s (pc' := 2) rfl rfl ?_
  refine zw_pI (q := 72) (pc' := 5) W rfl rfl rfl rfl rfl rfl ?_
  refine zw_ld (n := 1) (k := 0) (f := zp_isR) (pc' := 6) rfl rfl rfl rfl rfl ?_
  refine zw_ld (n := 1) (k := 1) (f := zp_isI) (pc' := 7) rfl rfl rfl rfl rfl ?_
  refine zw_c (pc' := 10) (zw_cv (q := 72) (Y := zm_210) (zw_W_I W).1 rfl rfl zm_210_t rfl rfl) rfl rfl rfl rfl rfl (zq_slate1 (zw_W_I W) h0 (by rw [e5]; exact h1)) ?_
  refine zw_beq1 (g := 48) (pc' := 13) rfl rfl rfl (rfl : _ = (1 : Int)) (fun h9 => absurd h9 (by decide)) (fun h7 => ?_)
  refine zw_ld (n := 1) (k := 0) (f := zp_isR) (pc' := 14) rfl rfl rfl rfl rfl ?_
  refine zw_ld (n := 1) (k := 2) (f := zp_isI) (pc' := 15) rfl rfl rfl rfl rfl ?_
  refine zw_c (pc' := 18) (zw_cv (q := 72) (Y := zm_210) (zw_W_I W).1 rfl rfl zm_210_t rfl rfl) rfl rfl rfl rfl rfl (zq_slate1 (zw_W_I W) h0 (by rw [e5]; exact h2)) ?_
  refine zw_beq1 (g := 48) (pc' := 21) rfl rfl rfl (rfl : _ = (1 : Int)) (fun h9 => absurd h9 (by decide)) (fun h7 => ?_)
  refine zw_ld (n := 1) (k := 0) (f := zp_isR) (pc' := 22) rfl rfl rfl rfl rfl ?_
  refine zw_ld (n := 1) (k := 3) (f := zp_isI) (pc' := 23) rfl rfl rfl rfl rfl ?_
  refine zw_s (pc' := 24) rfl rfl ?_
  refine zw_c (pc' := 27) (zw_cv (q := 72) (Y := zm_208) (zw_W_I W).1 rfl rfl zm_208_t rfl rfl) rfl rfl rfl rfl rfl (yr_wh1 (zw_W_I W) h0 h3) ?_
  refine zw_beq1 (g := 48) (pc' := 30) rfl rfl rfl (rfl : _ = (1 : Int)) (fun h9 => absurd h9 (by decide)) (fun h7 => ?_)
  refine zw_ld (n := 1) (k := 0) (f := zp_isR) (pc' := 31) rfl rfl rfl rfl rfl ?_
  refine zw_ld (n := 1) (k := 1) (f := zp_isI) (pc' := 32) rfl rfl rfl rfl rfl ?_
  refine zw_ld (n := 1) (k := 2) (f := zp_isI) (pc' := 33) rfl rfl rfl rfl rfl ?_
  refine zw_beq2 (g := 40) (pc' := 36) rfl rfl rfl rfl rfl (fun h4 => ?_) (fun h4 => ?_)
  · refine zw_s (pc' := 41) rfl rfl ?_
    refine zw_s (pc' := 42) rfl rfl ?_
    refine zw_c (pc' := 45) (zw_cv (q := 72) (Y := zm_170) (zw_W_I W).1 rfl rfl zm_170_t rfl rfl) rfl rfl rfl rfl rfl (zq_right0 (zw_W_I W) h0 (by decide)) ?_
    refine zw_bne1 (g := 50) (pc' := 48) rfl rfl rfl (rfl : _ = (0 : Int)) (fun h9 => absurd h9 (by decide)) (fun h7 => ?_)
    refine zw_s (pc' := 49) rfl rfl ?_
    refine zw_ri rfl rfl ?_
    rfl
  · exact absurd he h4

theorem y012 {x : Int32} (h : 0 ≤ x.toInt ∧ x.toInt ≤ (Int32.ofInt 2).toInt) : x = Int32.ofInt 0 ∨ x = Int32.ofInt 1 ∨ x = Int32.ofInt 2 := by
  have h2 : x.toInt ≤ 2 := h.2
  rcases (show x.toInt = 0 ∨ x.toInt = 1 ∨ x.toInt = 2 by omega) with h9 | h9 | h9
  · exact Or.inl (Int32.toInt_inj.mp h9)
  · exact Or.inr (Or.inl (Int32.toInt_inj.mp h9))
  · exact Or.inr (Or.inr (Int32.toInt_inj.mp h9))

theorem yb_copied {L : Nat} {σ : Nat → Int32} {d c t : Nat} {H : zp_H} {x1 x2 x3 : Int32} (hI : yJ c t H) : ∃ H1 H2 v w, zp_Call L σ (d + 60) 162 [.inr (.inr (some 1)), .inl x1, .inl x2, .inl x3, .inr (.inr (some 105))] H (.inl (some (.inl v)), H1) ∧ zp_Call L σ (d + 60) 247 [.inr (.inr (some 73)), .inl x1, .inl x2, .inl x3] H1 (.inl (some (.inl w)), H2) ∧ H1.1 = zB_sh ∧ yJ c t H2 ∧ (H2.2.1 72 0).toInt = v.toInt ∧ (v.toInt = 0 → H2.2.2.1 104 0 = w.toInt64) := by
  obtain ⟨H1, v, c1, hI1⟩ := yp_copied (L := L) (σ := σ) (d := d) (x1 := x1) (x2 := x2) (x3 := x3) hI
  obtain ⟨H2, w, c2, hI2⟩ := yq_copied (L := L) (σ := σ) (d := d) (x1 := x1) (x2 := x2) (x3 := x3) hI1
  have W1 := zB_Wd (zB_dn (zB_Bc hI1.1.1.1))
  obtain ⟨⟨A, a1, a2, a3⟩, -⟩ := id hI.2
  have n5 := a3.1
  have n0 := a2.1
  have n8 := a1.1
  have h0 := hI.1.2.2.1
  rcases h0 with rfl | rfl
  · have n0 : (H.2.1 13 0).toInt = A.1 := n0
    by_cases h : (0 ≤ x1.toInt ∧ x1.toInt < (H.2.1 72 5).toInt) ∧ (0 ≤ x2.toInt ∧ x2.toInt < (H.2.1 72 5).toInt) ∧ 0 ≤ x3.toInt ∧ x3.toInt ≤ (Int32.ofInt 2).toInt
    · have hs1 : x1.toInt.toNat < A.1 := by omega
      have hs2 : x2.toInt.toNat < A.1 := by omega
      have h1' : 0 ≤ x1.toInt ∧ x1.toInt < (H.2.1 13 0).toInt := by rw [n0, ← n5]; exact h.1
      have h2' : 0 ≤ x2.toInt ∧ x2.toInt < (H.2.1 13 0).toInt := by rw [n0, ← n5]; exact h.2.1
      by_cases hn : x1.toInt = x2.toInt
      · have e1 := zp_Call_u c1 (yl_cdi0 (L := L) (σ := σ) (d := d + 57) hI.1.1.1 h1' h2' h.2.2 hn)
        cases e1
        have e2 := zp_Call_u c2 (yr_cdi (L := L) (σ := σ) (d := d + 57) W1 h.1 h.2.1 h.2.2 hn)
        cases e2
        exact ⟨_, _, _, _, c1, c2, hI1.1.1.1.1, hI2, congrArg Int32.toInt zw_eq, fun h9 => absurd h9 (by decide)⟩
      have hm1 := a1.2.2.1 x1.toInt.toNat hs1
      have hm2 := a1.2.2.1 x2.toInt.toNat hs2
      have m1 : H.2.1 16 x1.toInt.toNat = A.2.2.1 x1.toInt.toNat 2 := a2.2.2.1 _ 2 hs1 (by decide)
      have m2 : H.2.1 16 x2.toInt.toNat = A.2.2.1 x2.toInt.toNat 2 := a2.2.2.1 _ 2 hs2 (by decide)
      have l1 : H.2.1 74 (4 * x1.toInt.toNat + 2) = A.2.2.1 x1.toInt.toNat 2 := a3.2.2.1 _ 2 hs1 (by decide)
      have l2 : H.2.1 74 (4 * x2.toInt.toNat + 2) = A.2.2.1 x2.toInt.toNat 2 := a3.2.2.1 _ 2 hs2 (by decide)
      have key : ∀ K, xFv 71 H K → ∀ u, (xCi (xAr (zw_I (zw_J K 104 0 u) 72 0 (Int32.ofInt 0)) x1.toInt.toNat x2.toInt.toNat) ((zw_I (zw_J K 104 0 u) 72 0 (Int32.ofInt 0)).2.1 74 (4 * x2.toInt.toNat + 2)).toInt.toNat ((zw_I (zw_J K 104 0 u) 72 0 (Int32.ofInt 0)).2.1 74 (4 * x1.toInt.toNat + 2)).toInt.toNat (Int32.ofInt 0) (Int32.ofInt 0, Int32.ofInt (-1), Int32.ofInt (-1))) = (xCi (xAl H 13 x1.toInt.toNat x2.toInt.toNat) (H.2.1 16 x2.toInt.toNat).toInt.toNat (H.2.1 16 x1.toInt.toNat).toInt.toNat (Int32.ofInt 0) (Int32.ofInt 0, Int32.ofInt (-1), Int32.ofInt (-1))) := fun K hK u => by
        have f4 : ∀ k, (zw_I (zw_J K 104 0 u) 72 0 (Int32.ofInt 0)).2.1 74 k = H.2.1 74 k := fun k => (zw_ne rfl rfl : _ = K.2.1 74 k).trans (hK.2.2.1 74 k (by decide))
        have f5 : ∀ k, (zw_I (zw_J K 104 0 u) 72 0 (Int32.ofInt 0)).2.1 75 k = H.2.1 75 k := fun k => (zw_ne rfl rfl : _ = K.2.1 75 k).trans (hK.2.2.1 75 k (by decide))
        rw [f4, f4, l1, l2, m1, m2]
        refine xCi_c (m := (A.2.2.1 x1.toInt.toNat 2).toInt.toNat) (by omega) (by omega) (fun i j hi hj => ?_) _ _ _ (by decide) (by rw [show (Int32.ofInt 0).toInt = 0 by decide]; omega)
        have g : ∀ s, s < A.1 → ∀ k, k < (A.2.2.1 s 2).toInt.toNat → (zw_I (zw_J K 104 0 u) 72 0 (Int32.ofInt 0)).2.1 75 (16 * s + 2 * k) = H.2.1 18 (8 * s + k) ∧ (zw_I (zw_J K 104 0 u) 72 0 (Int32.ofInt 0)).2.1 75 (16 * s + 2 * k + 1) = H.2.1 19 (8 * s + k) := fun s hs k hk => by
          rw [f5, f5]
          exact ⟨(a3.2.2.2.1 s k 0 hs hk (by decide)).trans (a2.2.2.2.1 s k 0 hs hk (by decide)).symm, (a3.2.2.2.1 s k 1 hs hk (by decide)).trans (a2.2.2.2.1 s k 1 hs hk (by decide)).symm⟩
        show xAk _ (min (((zw_I (zw_J K 104 0 u) 72 0 (Int32.ofInt 0)).2.1 74 (4 * x1.toInt.toNat + 2)).toInt.toNat - i) (((zw_I (zw_J K 104 0 u) 72 0 (Int32.ofInt 0)).2.1 74 (4 * x2.toInt.toNat + 2)).toInt.toNat - j)) i j = xAk _ (min ((H.2.1 16 x1.toInt.toNat).toInt.toNat - i) ((H.2.1 16 x2.toInt.toNat).toInt.toNat - j)) i j
        rw [f4, f4, l1, l2, m1, m2]
        refine xAk_c (m := (A.2.2.1 x1.toInt.toNat 2).toInt.toNat) (m' := (A.2.2.1 x2.toInt.toNat 2).toInt.toNat) (fun i j hi hj => ?_) _ _ _ (by omega) (by omega)
        obtain ⟨g1, g2⟩ := g _ hs1 i hi
        obtain ⟨g3, g4⟩ := g _ hs2 j hj
        show decide ((zw_I (zw_J K 104 0 u) 72 0 (Int32.ofInt 0)).2.1 75 (16 * x1.toInt.toNat + 2 * i) = (zw_I (zw_J K 104 0 u) 72 0 (Int32.ofInt 0)).2.1 75 (16 * x2.toInt.toNat + 2 * j) ∧ (zw_I (zw_J K 104 0 u) 72 0 (Int32.ofInt 0)).2.1 75 (16 * x1.toInt.toNat + 2 * i + 1) = (zw_I (zw_J K 104 0 u) 72 0 (Int32.ofInt 0)).2.1 75 (16 * x2.toInt.toNat + 2 * j + 1)) = decide (H.2.1 18 (8 * x1.toInt.toNat + i) = H.2.1 18 (8 * x2.toInt.toNat + j) ∧ H.2.1 19 (8 * x1.toInt.toNat + i) = H.2.1 19 (8 * x2.toInt.toNat + j))
        rw [g1, g2, g3, g4]
      rcases y012 h.2.2 with rfl | rfl | rfl
      · obtain ⟨K, k1, k2⟩ := yl_cd0_0 (L := L) (σ := σ) (d := d + 55) (x1 := x1) (x2 := x2) hI.1.1.1 h1' h2' (by rw [m1]; exact hm1) (by rw [m2]; exact hm2) hn
        have e1 := zp_Call_u c1 k1
        cases e1
        have f4 : ∀ k, (zw_I (zw_J K 104 0 ((xCi (xAl H 13 x1.toInt.toNat x2.toInt.toNat) (H.2.1 16 x2.toInt.toNat).toInt.toNat (H.2.1 16 x1.toInt.toNat).toInt.toNat (Int32.ofInt 0) (Int32.ofInt 0, Int32.ofInt (-1), Int32.ofInt (-1))).1).toInt64) 72 0 (Int32.ofInt 0)).2.1 74 k = H.2.1 74 k := fun k => (zw_ne rfl rfl : _ = K.2.1 74 k).trans (k2.2.2.1 74 k (by decide))
        have f5 : (zw_J K 104 0 ((xCi (xAl H 13 x1.toInt.toNat x2.toInt.toNat) (H.2.1 16 x2.toInt.toNat).toInt.toNat (H.2.1 16 x1.toInt.toNat).toInt.toNat (Int32.ofInt 0) (Int32.ofInt 0, Int32.ofInt (-1), Int32.ofInt (-1))).1).toInt64).2.1 72 5 = H.2.1 72 5 := k2.2.2.1 72 5 (by decide)
        have j1 := yr_cd0 (L := L) (σ := σ) (d := d + 57) (x1 := x1) (x2 := x2) W1 (by rw [f5]; exact h.1) (by rw [f5]; exact h.2.1) (by rw [f5]; omega) (by rw [f4, l1]; exact hm1) (by rw [f4, l2]; exact hm2) hn
        have e2 := zp_Call_u c2 j1
        cases e2
        refine ⟨_, _, _, _, c1, c2, hI1.1.1.1.1, hI2, congrArg Int32.toInt zw_eq, fun _ => ?_⟩
        rw [key K k2]
        exact zp_u_self K.2.2.1 104 0 _
      · obtain ⟨K, k1, k2⟩ := yl_cd0_1 (L := L) (σ := σ) (d := d + 55) (x1 := x1) (x2 := x2) hI.1.1.1 h1' h2' (by rw [m1]; exact hm1) (by rw [m2]; exact hm2) hn
        have e1 := zp_Call_u c1 k1
        cases e1
        have f4 : ∀ k, (zw_I (zw_J K 104 0 ((xCi (xAl H 13 x1.toInt.toNat x2.toInt.toNat) (H.2.1 16 x2.toInt.toNat).toInt.toNat (H.2.1 16 x1.toInt.toNat).toInt.toNat (Int32.ofInt 0) (Int32.ofInt 0, Int32.ofInt (-1), Int32.ofInt (-1))).2.1).toInt64) 72 0 (Int32.ofInt 0)).2.1 74 k = H.2.1 74 k := fun k => (zw_ne rfl rfl : _ = K.2.1 74 k).trans (k2.2.2.1 74 k (by decide))
        have f5 : (zw_J K 104 0 ((xCi (xAl H 13 x1.toInt.toNat x2.toInt.toNat) (H.2.1 16 x2.toInt.toNat).toInt.toNat (H.2.1 16 x1.toInt.toNat).toInt.toNat (Int32.ofInt 0) (Int32.ofInt 0, Int32.ofInt (-1), Int32.ofInt (-1))).2.1).toInt64).2.1 72 5 = H.2.1 72 5 := k2.2.2.1 72 5 (by decide)
        have j1 := yr_cd1 (L := L) (σ := σ) (d := d + 57) (x1 := x1) (x2 := x2) W1 (by rw [f5]; exact h.1) (by rw [f5]; exact h.2.1) (by rw [f5]; omega) (by rw [f4, l1]; exact hm1) (by rw [f4, l2]; exact hm2) hn
        have e2 := zp_Call_u c2 j1
        cases e2
        refine ⟨_, _, _, _, c1, c2, hI1.1.1.1.1, hI2, congrArg Int32.toInt zw_eq, fun _ => ?_⟩
        rw [key K k2]
        exact zp_u_self K.2.2.1 104 0 _
      · obtain ⟨K, k1, k2⟩ := yl_cd0_2 (L := L) (σ := σ) (d := d + 55) (x1 := x1) (x2 := x2) hI.1.1.1 h1' h2' (by rw [m1]; exact hm1) (by rw [m2]; exact hm2) hn
        have e1 := zp_Call_u c1 k1
        cases e1
        have f4 : ∀ k, (zw_I (zw_J K 104 0 ((xCi (xAl H 13 x1.toInt.toNat x2.toInt.toNat) (H.2.1 16 x2.toInt.toNat).toInt.toNat (H.2.1 16 x1.toInt.toNat).toInt.toNat (Int32.ofInt 0) (Int32.ofInt 0, Int32.ofInt (-1), Int32.ofInt (-1))).2.2).toInt64) 72 0 (Int32.ofInt 0)).2.1 74 k = H.2.1 74 k := fun k => (zw_ne rfl rfl : _ = K.2.1 74 k).trans (k2.2.2.1 74 k (by decide))
        have f5 : (zw_J K 104 0 ((xCi (xAl H 13 x1.toInt.toNat x2.toInt.toNat) (H.2.1 16 x2.toInt.toNat).toInt.toNat (H.2.1 16 x1.toInt.toNat).toInt.toNat (Int32.ofInt 0) (Int32.ofInt 0, Int32.ofInt (-1), Int32.ofInt (-1))).2.2).toInt64).2.1 72 5 = H.2.1 72 5 := k2.2.2.1 72 5 (by decide)
        have j1 := yr_cd2 (L := L) (σ := σ) (d := d + 57) (x1 := x1) (x2 := x2) W1 (by rw [f5]; exact h.1) (by rw [f5]; exact h.2.1) (by rw [f5]; omega) (by rw [f4, l1]; exact hm1) (by rw [f4, l2]; exact hm2) hn
        have e2 := zp_Call_u c2 j1
        cases e2
        refine ⟨_, _, _, _, c1, c2, hI1.1.1.1.1, hI2, congrArg Int32.toInt zw_eq, fun _ => ?_⟩
        rw [key K k2]
        exact zp_u_self K.2.2.1 104 0 _
    · have e1 := zp_Call_u c1 (yl_cdn0 (L := L) (σ := σ) (d := d + 57) hI.1.1.1 (by rw [n0, ← n5]; exact h))
      cases e1
      have e2 := zp_Call_u c2 (yr_cdn (L := L) (σ := σ) (d := d + 57) W1 h)
      cases e2
      exact ⟨_, _, _, _, c1, c2, hI1.1.1.1.1, hI2, congrArg Int32.toInt zw_eq, fun h9 => absurd h9 (by decide)⟩
  · have n0 : (H.2.1 33 0).toInt = A.1 := n0
    by_cases h : (0 ≤ x1.toInt ∧ x1.toInt < (H.2.1 72 5).toInt) ∧ (0 ≤ x2.toInt ∧ x2.toInt < (H.2.1 72 5).toInt) ∧ 0 ≤ x3.toInt ∧ x3.toInt ≤ (Int32.ofInt 2).toInt
    · have hs1 : x1.toInt.toNat < A.1 := by omega
      have hs2 : x2.toInt.toNat < A.1 := by omega
      have h1' : 0 ≤ x1.toInt ∧ x1.toInt < (H.2.1 33 0).toInt := by rw [n0, ← n5]; exact h.1
      have h2' : 0 ≤ x2.toInt ∧ x2.toInt < (H.2.1 33 0).toInt := by rw [n0, ← n5]; exact h.2.1
      by_cases hn : x1.toInt = x2.toInt
      · have e1 := zp_Call_u c1 (yl_cdi3 (L := L) (σ := σ) (d := d + 57) hI.1.1.1 h1' h2' h.2.2 hn)
        cases e1
        have e2 := zp_Call_u c2 (yr_cdi (L := L) (σ := σ) (d := d + 57) W1 h.1 h.2.1 h.2.2 hn)
        cases e2
        exact ⟨_, _, _, _, c1, c2, hI1.1.1.1.1, hI2, congrArg Int32.toInt zw_eq, fun h9 => absurd h9 (by decide)⟩
      have hm1 := a1.2.2.1 x1.toInt.toNat hs1
      have hm2 := a1.2.2.1 x2.toInt.toNat hs2
      have m1 : H.2.1 36 x1.toInt.toNat = A.2.2.1 x1.toInt.toNat 2 := a2.2.2.1 _ 2 hs1 (by decide)
      have m2 : H.2.1 36 x2.toInt.toNat = A.2.2.1 x2.toInt.toNat 2 := a2.2.2.1 _ 2 hs2 (by decide)
      have l1 : H.2.1 74 (4 * x1.toInt.toNat + 2) = A.2.2.1 x1.toInt.toNat 2 := a3.2.2.1 _ 2 hs1 (by decide)
      have l2 : H.2.1 74 (4 * x2.toInt.toNat + 2) = A.2.2.1 x2.toInt.toNat 2 := a3.2.2.1 _ 2 hs2 (by decide)
      have key : ∀ K, xFv 71 H K → ∀ u, (xCi (xAr (zw_I (zw_J K 104 0 u) 72 0 (Int32.ofInt 0)) x1.toInt.toNat x2.toInt.toNat) ((zw_I (zw_J K 104 0 u) 72 0 (Int32.ofInt 0)).2.1 74 (4 * x2.toInt.toNat + 2)).toInt.toNat ((zw_I (zw_J K 104 0 u) 72 0 (Int32.ofInt 0)).2.1 74 (4 * x1.toInt.toNat + 2)).toInt.toNat (Int32.ofInt 0) (Int32.ofInt 0, Int32.ofInt (-1), Int32.ofInt (-1))) = (xCi (xAl H 33 x1.toInt.toNat x2.toInt.toNat) (H.2.1 36 x2.toInt.toNat).toInt.toNat (H.2.1 36 x1.toInt.toNat).toInt.toNat (Int32.ofInt 0) (Int32.ofInt 0, Int32.ofInt (-1), Int32.ofInt (-1))) := fun K hK u => by
        have f4 : ∀ k, (zw_I (zw_J K 104 0 u) 72 0 (Int32.ofInt 0)).2.1 74 k = H.2.1 74 k := fun k => (zw_ne rfl rfl : _ = K.2.1 74 k).trans (hK.2.2.1 74 k (by decide))
        have f5 : ∀ k, (zw_I (zw_J K 104 0 u) 72 0 (Int32.ofInt 0)).2.1 75 k = H.2.1 75 k := fun k => (zw_ne rfl rfl : _ = K.2.1 75 k).trans (hK.2.2.1 75 k (by decide))
        rw [f4, f4, l1, l2, m1, m2]
        refine xCi_c (m := (A.2.2.1 x1.toInt.toNat 2).toInt.toNat) (by omega) (by omega) (fun i j hi hj => ?_) _ _ _ (by decide) (by rw [show (Int32.ofInt 0).toInt = 0 by decide]; omega)
        have g : ∀ s, s < A.1 → ∀ k, k < (A.2.2.1 s 2).toInt.toNat → (zw_I (zw_J K 104 0 u) 72 0 (Int32.ofInt 0)).2.1 75 (16 * s + 2 * k) = H.2.1 38 (8 * s + k) ∧ (zw_I (zw_J K 104 0 u) 72 0 (Int32.ofInt 0)).2.1 75 (16 * s + 2 * k + 1) = H.2.1 39 (8 * s + k) := fun s hs k hk => by
          rw [f5, f5]
          exact ⟨(a3.2.2.2.1 s k 0 hs hk (by decide)).trans (a2.2.2.2.1 s k 0 hs hk (by decide)).symm, (a3.2.2.2.1 s k 1 hs hk (by decide)).trans (a2.2.2.2.1 s k 1 hs hk (by decide)).symm⟩
        show xAk _ (min (((zw_I (zw_J K 104 0 u) 72 0 (Int32.ofInt 0)).2.1 74 (4 * x1.toInt.toNat + 2)).toInt.toNat - i) (((zw_I (zw_J K 104 0 u) 72 0 (Int32.ofInt 0)).2.1 74 (4 * x2.toInt.toNat + 2)).toInt.toNat - j)) i j = xAk _ (min ((H.2.1 36 x1.toInt.toNat).toInt.toNat - i) ((H.2.1 36 x2.toInt.toNat).toInt.toNat - j)) i j
        rw [f4, f4, l1, l2, m1, m2]
        refine xAk_c (m := (A.2.2.1 x1.toInt.toNat 2).toInt.toNat) (m' := (A.2.2.1 x2.toInt.toNat 2).toInt.toNat) (fun i j hi hj => ?_) _ _ _ (by omega) (by omega)
        obtain ⟨g1, g2⟩ := g _ hs1 i hi
        obtain ⟨g3, g4⟩ := g _ hs2 j hj
        show decide ((zw_I (zw_J K 104 0 u) 72 0 (Int32.ofInt 0)).2.1 75 (16 * x1.toInt.toNat + 2 * i) = (zw_I (zw_J K 104 0 u) 72 0 (Int32.ofInt 0)).2.1 75 (16 * x2.toInt.toNat + 2 * j) ∧ (zw_I (zw_J K 104 0 u) 72 0 (Int32.ofInt 0)).2.1 75 (16 * x1.toInt.toNat + 2 * i + 1) = (zw_I (zw_J K 104 0 u) 72 0 (Int32.ofInt 0)).2.1 75 (16 * x2.toInt.toNat + 2 * j + 1)) = decide (H.2.1 38 (8 * x1.toInt.toNat + i) = H.2.1 38 (8 * x2.toInt.toNat + j) ∧ H.2.1 39 (8 * x1.toInt.toNat + i) = H.2.1 39 (8 * x2.toInt.toNat + j))
        rw [g1, g2, g3, g4]
      rcases y012 h.2.2 with rfl | rfl | rfl
      · obtain ⟨K, k1, k2⟩ := yl_cd3_0 (L := L) (σ := σ) (d := d + 55) (x1 := x1) (x2 := x2) hI.1.1.1 h1' h2' (by rw [m1]; exact hm1) (by rw [m2]; exact hm2) hn
        have e1 := zp_Call_u c1 k1
        cases e1
        have f4 : ∀ k, (zw_I (zw_J K 104 0 ((xCi (xAl H 33 x1.toInt.toNat x2.toInt.toNat) (H.2.1 36 x2.toInt.toNat).toInt.toNat (H.2.1 36 x1.toInt.toNat).toInt.toNat (Int32.ofInt 0) (Int32.ofInt 0, Int32.ofInt (-1), Int32.ofInt (-1))).1).toInt64) 72 0 (Int32.ofInt 0)).2.1 74 k = H.2.1 74 k := fun k => (zw_ne rfl rfl : _ = K.2.1 74 k).trans (k2.2.2.1 74 k (by decide))
        have f5 : (zw_J K 104 0 ((xCi (xAl H 33 x1.toInt.toNat x2.toInt.toNat) (H.2.1 36 x2.toInt.toNat).toInt.toNat (H.2.1 36 x1.toInt.toNat).toInt.toNat (Int32.ofInt 0) (Int32.ofInt 0, Int32.ofInt (-1), Int32.ofInt (-1))).1).toInt64).2.1 72 5 = H.2.1 72 5 := k2.2.2.1 72 5 (by decide)
        have j1 := yr_cd0 (L := L) (σ := σ) (d := d + 57) (x1 := x1) (x2 := x2) W1 (by rw [f5]; exact h.1) (by rw [f5]; exact h.2.1) (by rw [f5]; omega) (by rw [f4, l1]; exact hm1) (by rw [f4, l2]; exact hm2) hn
        have e2 := zp_Call_u c2 j1
        cases e2
        refine ⟨_, _, _, _, c1, c2, hI1.1.1.1.1, hI2, congrArg Int32.toInt zw_eq, fun _ => ?_⟩
        rw [key K k2]
        exact zp_u_self K.2.2.1 104 0 _
      · obtain ⟨K, k1, k2⟩ := yl_cd3_1 (L := L) (σ := σ) (d := d + 55) (x1 := x1) (x2 := x2) hI.1.1.1 h1' h2' (by rw [m1]; exact hm1) (by rw [m2]; exact hm2) hn
        have e1 := zp_Call_u c1 k1
        cases e1
        have f4 : ∀ k, (zw_I (zw_J K 104 0 ((xCi (xAl H 33 x1.toInt.toNat x2.toInt.toNat) (H.2.1 36 x2.toInt.toNat).toInt.toNat (H.2.1 36 x1.toInt.toNat).toInt.toNat (Int32.ofInt 0) (Int32.ofInt 0, Int32.ofInt (-1), Int32.ofInt (-1))).2.1).toInt64) 72 0 (Int32.ofInt 0)).2.1 74 k = H.2.1 74 k := fun k => (zw_ne rfl rfl : _ = K.2.1 74 k).trans (k2.2.2.1 74 k (by decide))
        have f5 : (zw_J K 104 0 ((xCi (xAl H 33 x1.toInt.toNat x2.toInt.toNat) (H.2.1 36 x2.toInt.toNat).toInt.toNat (H.2.1 36 x1.toInt.toNat).toInt.toNat (Int32.ofInt 0) (Int32.ofInt 0, Int32.ofInt (-1), Int32.ofInt (-1))).2.1).toInt64).2.1 72 5 = H.2.1 72 5 := k2.2.2.1 72 5 (by decide)
        have j1 := yr_cd1 (L := L) (σ := σ) (d := d + 57) (x1 := x1) (x2 := x2) W1 (by rw [f5]; exact h.1) (by rw [f5]; exact h.2.1) (by rw [f5]; omega) (by rw [f4, l1]; exact hm1) (by rw [f4, l2]; exact hm2) hn
        have e2 := zp_Call_u c2 j1
        cases e2
        refine ⟨_, _, _, _, c1, c2, hI1.1.1.1.1, hI2, congrArg Int32.toInt zw_eq, fun _ => ?_⟩
        rw [key K k2]
        exact zp_u_self K.2.2.1 104 0 _
      · obtain ⟨K, k1, k2⟩ := yl_cd3_2 (L := L) (σ := σ) (d := d + 55) (x1 := x1) (x2 := x2) hI.1.1.1 h1' h2' (by rw [m1]; exact hm1) (by rw [m2]; exact hm2) hn
        have e1 := zp_Call_u c1 k1
        cases e1
        have f4 : ∀ k, (zw_I (zw_J K 104 0 ((xCi (xAl H 33 x1.toInt.toNat x2.toInt.toNat) (H.2.1 36 x2.toInt.toNat).toInt.toNat (H.2.1 36 x1.toInt.toNat).toInt.toNat (Int32.ofInt 0) (Int32.ofInt 0, Int32.ofInt (-1), Int32.ofInt (-1))).2.2).toInt64) 72 0 (Int32.ofInt 0)).2.1 74 k = H.2.1 74 k := fun k => (zw_ne rfl rfl : _ = K.2.1 74 k).trans (k2.2.2.1 74 k (by decide))
        have f5 : (zw_J K 104 0 ((xCi (xAl H 33 x1.toInt.toNat x2.toInt.toNat) (H.2.1 36 x2.toInt.toNat).toInt.toNat (H.2.1 36 x1.toInt.toNat).toInt.toNat (Int32.ofInt 0) (Int32.ofInt 0, Int32.ofInt (-1), Int32.ofInt (-1))).2.2).toInt64).2.1 72 5 = H.2.1 72 5 := k2.2.2.1 72 5 (by decide)
        have j1 := yr_cd2 (L := L) (σ := σ) (d := d + 57) (x1 := x1) (x2 := x2) W1 (by rw [f5]; exact h.1) (by rw [f5]; exact h.2.1) (by rw [f5]; omega) (by rw [f4, l1]; exact hm1) (by rw [f4, l2]; exact hm2) hn
        have e2 := zp_Call_u c2 j1
        cases e2
        refine ⟨_, _, _, _, c1, c2, hI1.1.1.1.1, hI2, congrArg Int32.toInt zw_eq, fun _ => ?_⟩
        rw [key K k2]
        exact zp_u_self K.2.2.1 104 0 _
    · have e1 := zp_Call_u c1 (yl_cdn3 (L := L) (σ := σ) (d := d + 57) hI.1.1.1 (by rw [n0, ← n5]; exact h))
      cases e1
      have e2 := zp_Call_u c2 (yr_cdn (L := L) (σ := σ) (d := d + 57) W1 h)
      cases e2
      exact ⟨_, _, _, _, c1, c2, hI1.1.1.1.1, hI2, congrArg Int32.toInt zw_eq, fun h9 => absurd h9 (by decide)⟩
