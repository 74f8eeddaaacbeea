section
/-! ===== marks followed, a voyage: the class ===== -/
def zm_24 : za_MI := (yX8_follow, prog_10_method_6_code, 6, none, 8, 0, 0, [], za_i24)
theorem zm_24_t : za_MT 24 = some zm_24 := rfl
def zm_25 : za_MI := (yX8_begin, prog_10_method_2_code, 3, none, 8, 0, 0, [], za_i25)
theorem zm_25_t : za_MT 25 = some zm_25 := rfl
def zm_28 : za_MI := (yX8_followMark, prog_10_method_5_code, 6, none, 8, 0, 0, [], za_i28)
theorem zm_28_t : za_MT 28 = some zm_28 := rfl
/-- a mark followed: cell, hour, end, step -/
def xMk (S : xSea) (d : Int) (t : Bool) : Nat → Int32 → Int32 → Int32 → Int32 × Int32 × Int32 × Int32
  | 0, _, c, h => (c, h, Int32.ofInt 0, Int32.ofInt 0)
  | n + 1, i, c, h => if (xSt S c.toInt h.toInt d t).1 = 0 then xMk S d t n (i + Int32.ofInt 1) (Int32.ofInt (xSt S c.toInt h.toInt d t).2) (h + Int32.ofInt 1) else (Int32.ofInt (xSt S c.toInt h.toInt d t).2, h, Int32.ofInt (xSt S c.toInt h.toInt d t).1, i)
theorem xMk_y {S : xSea} {d : Int} {t : Bool} {n : Nat} {i c h : Int32} (k : (xSt S c.toInt h.toInt d t).1 = 0) : xMk S d t (n + 1) i c h = xMk S d t n (i + Int32.ofInt 1) (Int32.ofInt (xSt S c.toInt h.toInt d t).2) (h + Int32.ofInt 1) := if_pos k
theorem xMk_n {S : xSea} {d : Int} {t : Bool} {n : Nat} {i c h : Int32} (k : ¬ (xSt S c.toInt h.toInt d t).1 = 0) : xMk S d t (n + 1) i c h = (Int32.ofInt (xSt S c.toInt h.toInt d t).2, h, Int32.ofInt (xSt S c.toInt h.toInt d t).1, i) := if_neg k
theorem xSt_o {S : xSea} {c hr d : Int} {t : Bool} (hS : xOk S) (hc : xIn S c) : (Int32.ofInt (xSt S c hr d t).1).toInt = (xSt S c hr d t).1 ∧ (Int32.ofInt (xSt S c hr d t).2).toInt = (xSt S c hr d t).2 := by
  have h := xSt_b (hr := hr) (d := d) (t := t) hS hc
  have h2 := xIn_64 hS h.1
  exact ⟨x_of (by omega) (by omega), x_of (by omega) (by omega)⟩
/-- the ship stays at sea; who isn't over stands at step 0 -/
theorem xMk_b {S : xSea} {d : Int} {t : Bool} (hS : xOk S) : ∀ (n : Nat) (i c h : Int32), xIn S c.toInt → xIn S (xMk S d t n i c h).1.toInt ∧ ((xMk S d t n i c h).2.2.1.toInt = 0 → (xMk S d t n i c h).2.2.2 = Int32.ofInt 0) := by
  intro n
  induction n with
  | zero => exact fun i c h hc => ⟨hc, fun _ => rfl⟩
  | succ n ih =>
    intro i c h hc
    have hb := xSt_b (hr := h.toInt) (d := d) (t := t) hS hc
    have ho := xSt_o (hr := h.toInt) (d := d) (t := t) hS hc
    by_cases k : (xSt S c.toInt h.toInt d t).1 = 0
    · rw [xMk_y k]
      exact ih _ _ _ (by rw [ho.2]; exact hb.1)
    · rw [xMk_n k]
      refine ⟨?_, fun h9 => absurd (ho.1.symm.trans h9) k⟩
      show xIn S (Int32.ofInt (xSt S c.toInt h.toInt d t).2).toInt
      rw [ho.2]
      exact hb.1
/-- a voyage: cell, hour, end, step, mark, where and when the mark began -/
def xVy (S : xSea) (wy st : Nat → Int32) : Nat → Int32 → Int32 → Int32 → Int32 × Int32 × Int32 × Int32 × Int32 × Int32 × Int32
  | 0, k, c, h => (c, h, Int32.ofInt 0, Int32.ofInt 0, k, c, h)
  | n + 1, k, c, h => if (xMk S (wy k.toInt.toNat).toInt true (st k.toInt.toNat).toInt.toNat (Int32.ofInt 0) c h).2.2.1.toInt = 0 then xVy S wy st n (k + Int32.ofInt 1) (xMk S (wy k.toInt.toNat).toInt true (st k.toInt.toNat).toInt.toNat (Int32.ofInt 0) c h).1 (xMk S (wy k.toInt.toNat).toInt true (st k.toInt.toNat).toInt.toNat (Int32.ofInt 0) c h).2.1 else ((xMk S (wy k.toInt.toNat).toInt true (st k.toInt.toNat).toInt.toNat (Int32.ofInt 0) c h).1, (xMk S (wy k.toInt.toNat).toInt true (st k.toInt.toNat).toInt.toNat (Int32.ofInt 0) c h).2.1, (xMk S (wy k.toInt.toNat).toInt true (st k.toInt.toNat).toInt.toNat (Int32.ofInt 0) c h).2.2.1, (xMk S (wy k.toInt.toNat).toInt true (st k.toInt.toNat).toInt.toNat (Int32.ofInt 0) c h).2.2.2, k, c, h)
theorem xVy_y {S : xSea} {wy st : Nat → Int32} {n : Nat} {k c h : Int32} {r : Int32 × Int32 × Int32 × Int32} (hr : xMk S (wy k.toInt.toNat).toInt true (st k.toInt.toNat).toInt.toNat (Int32.ofInt 0) c h = r) (h0 : r.2.2.1.toInt = 0) : xVy S wy st (n + 1) k c h = xVy S wy st n (k + Int32.ofInt 1) r.1 r.2.1 := by
  subst hr
  exact if_pos h0
theorem xVy_n {S : xSea} {wy st : Nat → Int32} {n : Nat} {k c h : Int32} {r : Int32 × Int32 × Int32 × Int32} (hr : xMk S (wy k.toInt.toNat).toInt true (st k.toInt.toNat).toInt.toNat (Int32.ofInt 0) c h = r) (h0 : ¬ r.2.2.1.toInt = 0) : xVy S wy st (n + 1) k c h = (r.1, r.2.1, r.2.2.1, r.2.2.2, k, c, h) := by
  subst hr
  exact if_neg h0
/-- who holds the same ways and steps sails the same voyage -/
theorem xVy_c {S : xSea} {wy st wy' st' : Nat → Int32} {m : Nat} (e : ∀ j, j < m → wy j = wy' j ∧ st j = st' j) : ∀ (n : Nat) (k c h : Int32), 0 ≤ k.toInt → k.toInt + n ≤ m → m ≤ 8 → xVy S wy st n k c h = xVy S wy' st' n k c h := by
  intro n
  induction n with
  | zero => exact fun _ _ _ _ _ _ => rfl
  | succ n ih =>
    intro k c h h0 h1 h2
    have h3 : k.toInt.toNat < m := by omega
    obtain ⟨e1, e2⟩ := e _ h3
    have e3 : (k + Int32.ofInt 1).toInt = k.toInt + 1 := zw_p1 (by omega)
    have hr : xMk S (wy k.toInt.toNat).toInt true (st k.toInt.toNat).toInt.toNat (Int32.ofInt 0) c h = xMk S (wy' k.toInt.toNat).toInt true (st' k.toInt.toNat).toInt.toNat (Int32.ofInt 0) c h := by rw [e1, e2]
    by_cases h4 : (xMk S (wy' k.toInt.toNat).toInt true (st' k.toInt.toNat).toInt.toNat (Int32.ofInt 0) c h).2.2.1.toInt = 0
    · rw [xVy_y hr h4, xVy_y rfl h4]
      exact ih _ _ _ (by omega) (by omega) h2
    · rw [xVy_n hr h4, xVy_n rfl h4]
def xE (q : Nat) (H : zp_H) (r : Int32 × Int32 × Int32 × Int32) : Prop := H.2.1 q 0 = r.1 ∧ H.2.1 q 1 = r.2.1 ∧ H.2.1 q 2 = r.2.2.1 ∧ H.2.1 q 4 = r.2.2.2

theorem xc_fmE2_1 {L : Nat} {σ : Nat → Int32} {d : Nat} {H : zp_H} {P : zp_X → Prop} {lv : zp_LV} {x2 x3 i : Int32} (W : zw_W H) (l0 : zp_get lv 0 = some (.inr (.inr (some 55)))) (l1 : zp_get lv 1 = some (.inr (.inr (some 3)))) (l2 : zp_get lv 2 = some (.inl x2)) (l3 : zp_get lv 3 = some (.inl x3)) (l4 : zp_get lv 4 = some (.inl (Int32.ofInt 1))) (l5 : zp_get lv 5 = some (.inl i)) (he : ¬ (H.2.1 54 2).toInt = 0) (hP : P (.inl none, H)) : zs_Safe L σ P zm_28 [] (d + 3) (3, lv, [], H, (0, 0)) := by
  refine zw_ld (n := 2) (k := 5) (f := zp_isI) (pc' := 5) rfl rfl l5 rfl rfl ?_
  refine zw_ld (n := 1) (k := 3) (f := zp_isI) (pc' := 6) rfl rfl l3 rfl rfl ?_
  refine zw_bge2 (g := 36) (pc' := 9) rfl rfl rfl rfl rfl (fun h1 => ?_) (fun h1 => ?_)
  · refine zw_ld (n := 1) (k := 0) (f := zp_isR) (pc' := 37) rfl rfl l0 rfl rfl ?_
    refine zw_gI (q := 54) (pc' := 40) W rfl rfl rfl rfl rfl rfl ?_
    refine zw_bne1 (g := 48) (pc' := 43) rfl rfl rfl rfl (fun h2 => ?_) (fun h2 => ?_)
    · refine zw_rn rfl rfl ?_
      exact hP
    · exact absurd h2 he
  · refine zw_ld (n := 1) (k := 0) (f := zp_isR) (pc' := 10) rfl rfl l0 rfl rfl ?_
    refine zw_gI (q := 54) (pc' := 13) W rfl rfl rfl rfl rfl rfl ?_
    refine zw_bne1 (g := 36) (pc' := 16) rfl rfl rfl rfl (fun h3 => ?_) (fun h3 => ?_)
    · refine zw_ld (n := 1) (k := 0) (f := zp_isR) (pc' := 37) rfl rfl l0 rfl rfl ?_
      refine zw_gI (q := 54) (pc' := 40) W rfl rfl rfl rfl rfl rfl ?_
      refine zw_bne1 (g := 48) (pc' := 43) rfl rfl rfl rfl (fun h2 => ?_) (fun h2 => ?_)
      · refine zw_rn rfl rfl ?_
        exact hP
      · exact absurd h2 he
    · exact absurd h3 he

theorem xc_fmL2_1 {L : Nat} {σ : Nat → Int32} {d : Nat} {S : xSea} {P : zp_X → Prop} {x2 x3 : Int32} (hS : xOk S) (hd : -1 ≤ x2.toInt ∧ x2.toInt ≤ 3) : ∀ (n : Nat) (H : zp_H) (lv : zp_LV) (i : Int32), zw_W H → xSC 2 H S → xIn S (H.2.1 54 0).toInt → (H.2.1 54 2).toInt = 0 → 0 ≤ i.toInt → i.toInt + n = x3.toInt.toNat → zp_get lv 0 = some (.inr (.inr (some 55))) → zp_get lv 1 = some (.inr (.inr (some 3))) → zp_get lv 2 = some (.inl x2) → zp_get lv 3 = some (.inl x3) → zp_get lv 4 = some (.inl (Int32.ofInt 1)) → zp_get lv 5 = some (.inl i) → (∀ H1, zw_W H1 → xFr 54 H H1 → xE 54 H1 (xMk S x2.toInt true n i (H.2.1 54 0) (H.2.1 54 1)) → P (.inl none, H1)) → zs_Safe L σ P zm_28 [] (d + 3) (3, lv, [], H, (0, 0)) := by
  intro n
  induction n with
  | zero =>
    intro H lv i W hC hc he h5 hn l0 l1 l2 l3 l4 l5 hP
    have he0 : H.2.1 54 2 = Int32.ofInt 0 := Int32.toInt_inj.mp (he.trans (by decide))
    refine zw_ld (n := 2) (k := 5) (f := zp_isI) (pc' := 5) rfl rfl l5 rfl rfl ?_
    refine zw_ld (n := 1) (k := 3) (f := zp_isI) (pc' := 6) rfl rfl l3 rfl rfl ?_
    refine zw_bge2 (g := 36) (pc' := 9) rfl rfl rfl rfl rfl (fun h1 => ?_) (fun h1 => ?_)
    · refine zw_ld (n := 1) (k := 0) (f := zp_isR) (pc' := 37) rfl rfl l0 rfl rfl ?_
      refine zw_gI (q := 54) (pc' := 40) W rfl rfl rfl rfl rfl rfl ?_
      refine zw_bne1 (g := 48) (pc' := 43) rfl rfl rfl rfl (fun h2 => ?_) (fun h2 => ?_)
      · exact absurd he h2
      · refine zw_ld (n := 1) (k := 0) (f := zp_isR) (pc' := 44) rfl rfl l0 rfl rfl ?_
        refine zw_s (pc' := 45) rfl rfl ?_
        refine zw_pI (q := 54) (pc' := 48) W rfl rfl rfl rfl rfl rfl ?_
        refine zw_rn rfl rfl ?_
        exact hP _ (zw_W_I W) (xFr_I (xFr_r H) (by decide)) ⟨zw_ne rfl rfl, zw_ne rfl rfl, (zw_ne rfl rfl).trans he0, zw_eq⟩
    · omega
  | succ n ih =>
    intro H lv i W hC hc he h5 hn l0 l1 l2 l3 l4 l5 hP
    refine zw_ld (n := 2) (k := 5) (f := zp_isI) (pc' := 5) rfl rfl l5 rfl rfl ?_
    refine zw_ld (n := 1) (k := 3) (f := zp_isI) (pc' := 6) rfl rfl l3 rfl rfl ?_
    refine zw_bge2 (g := 36) (pc' := 9) rfl rfl rfl rfl rfl (fun h1 => ?_) (fun h1 => ?_)
    · omega
    · refine zw_ld (n := 1) (k := 0) (f := zp_isR) (pc' := 10) rfl rfl l0 rfl rfl ?_
      refine zw_gI (q := 54) (pc' := 13) W rfl rfl rfl rfl rfl rfl ?_
      refine zw_bne1 (g := 36) (pc' := 16) rfl rfl rfl rfl (fun h2 => ?_) (fun h2 => ?_)
      · exact absurd he h2
      · refine zw_ld (n := 1) (k := 0) (f := zp_isR) (pc' := 17) rfl rfl l0 rfl rfl ?_
        refine zw_ld (n := 2) (k := 5) (f := zp_isI) (pc' := 19) rfl rfl l5 rfl rfl ?_
        refine zw_pI (q := 54) (pc' := 22) W rfl rfl rfl rfl rfl rfl ?_
        have e0 : (zw_I H 54 4 i).2.1 54 0 = H.2.1 54 0 := zw_ne rfl rfl
        have e1 : (zw_I H 54 4 i).2.1 54 1 = H.2.1 54 1 := zw_ne rfl rfl
        have e2 : (zw_I H 54 4 i).2.1 54 2 = H.2.1 54 2 := zw_ne rfl rfl
        have e4 : (zw_I H 54 4 i).2.1 54 4 = i := zw_eq
        have fr : xFr 54 H (zw_I H 54 4 i) := xFr_I (xFr_r H) (by decide)
        obtain ⟨_, q1, H1, rfl, W1, q2, q3, q4, q5, q6⟩ := xc54_sail2_1 (L := L) (σ := σ) (d := d) (S := S) (x2 := x2) (zw_W_I (p := 54) (k := 4) (x := i) W) hS (xSC_f fr (by decide) hC) (by rw [e0]; exact hc) (by rw [e2]; exact he) hd
        rw [e0, e1] at q4 q5 q6
        rw [e4] at q3
        have hb := xSt_b (hr := (H.2.1 54 1).toInt) (d := x2.toInt) (t := true) hS hc
        have ho := xSt_o (hr := (H.2.1 54 1).toInt) (d := x2.toInt) (t := true) hS hc
        have fr2 := xFr_t fr q2
        have ei : (i + Int32.ofInt 1).toInt = i.toInt + 1 := zw_p1 (by have h9 : x3.toInt ≤ 2147483647 := Int32.toInt_le x3; omega)
        refine zw_ld (n := 1) (k := 0) (f := zp_isR) (pc' := 23) rfl rfl l0 rfl rfl ?_
        refine zw_ld (n := 1) (k := 1) (f := zp_isR) (pc' := 24) rfl rfl l1 rfl rfl ?_
        refine zw_ld (n := 1) (k := 2) (f := zp_isI) (pc' := 25) rfl rfl l2 rfl rfl ?_
        refine zw_ld (n := 2) (k := 4) (f := zp_isI) (pc' := 27) rfl rfl l4 rfl rfl ?_
        refine zw_cn (pc' := 30) (zw_cv (q := 54) (Y := zm_29) (zw_W_I W).1 rfl rfl zm_29_t rfl rfl) rfl rfl rfl rfl rfl (q1) ?_
        refine zw_ii (pc' := 33) rfl l5 rfl rfl ?_
        refine zw_s (pc' := 3) rfl rfl ?_
        by_cases k : (xSt S (H.2.1 54 0).toInt (H.2.1 54 1).toInt x2.toInt true).1 = 0
        · refine ih H1 _ (i + Int32.ofInt 1) W1 (xSC_f fr2 (by decide) hC) (by rw [q4, ho.2]; exact hb.1) (by rw [q5, ho.1]; exact k) (by omega) (by omega) (zw_gt l0 rfl rfl) (zw_gt l1 rfl rfl) (zw_gt l2 rfl rfl) (zw_gt l3 rfl rfl) (zw_gt l4 rfl rfl) zw_g1 (fun H2 w1 w2 w3 => hP H2 w1 (xFr_t fr2 w2) ?_)
          rw [xMk_y k]
          rw [q4, q6, if_pos k] at w3
          exact w3
        · refine xc_fmE2_1 W1 (zw_gt l0 rfl rfl) (zw_gt l1 rfl rfl) (zw_gt l2 rfl rfl) (zw_gt l3 rfl rfl) (zw_gt l4 rfl rfl) zw_g1 (by rw [q5, ho.1]; exact k) (hP H1 W1 fr2 ?_)
          rw [xMk_n k]
          exact ⟨q4, q6.trans (if_neg k), q5, q3⟩

theorem xc_fm2_1 {L : Nat} {σ : Nat → Int32} {d : Nat} {H : zp_H} {x2 x3 : Int32} {S : xSea} (W : zw_W H) (hS : xOk S) (hC : xSC 2 H S) (hc : xIn S (H.2.1 54 0).toInt) (he : (H.2.1 54 2).toInt = 0) (hd : -1 ≤ x2.toInt ∧ x2.toInt ≤ 3) : ∃ X, zp_Call L σ (d + 4) 28 [.inr (.inr (some 55)), .inr (.inr (some 3)), .inl x2, .inl x3, .inl (Int32.ofInt 1)] H X ∧ ∃ H1, X = (.inl none, H1) ∧ zw_W H1 ∧ xFr 54 H H1 ∧ xE 54 H1 (xMk S x2.toInt true x3.toInt.toNat (Int32.ofInt 0) (H.2.1 54 0) (H.2.1 54 1)) := by
  refine zw_met zm_28_t rfl rfl ?_
  refine zw_s (pc' := 1) rfl rfl ?_
  refine zw_st (n := 2) (k := 5) (f := zp_isI) (pc' := 3) rfl rfl rfl rfl rfl ?_
  exact xc_fmL2_1 hS hd x3.toInt.toNat H _ (Int32.ofInt 0) W hC hc he (by decide) (by rw [show (Int32.ofInt 0).toInt = 0 by decide]; omega) (zw_gt rfl rfl rfl) (zw_gt rfl rfl rfl) (zw_gt rfl rfl rfl) (zw_gt rfl rfl rfl) (zw_gt rfl rfl rfl) zw_g1 (fun H1 w1 w2 w3 => ⟨H1, rfl, w1, w2, w3⟩)

theorem xc_fmE22_1 {L : Nat} {σ : Nat → Int32} {d : Nat} {H : zp_H} {P : zp_X → Prop} {lv : zp_LV} {x2 x3 i : Int32} (W : zw_W H) (l0 : zp_get lv 0 = some (.inr (.inr (some 55)))) (l1 : zp_get lv 1 = some (.inr (.inr (some 23)))) (l2 : zp_get lv 2 = some (.inl x2)) (l3 : zp_get lv 3 = some (.inl x3)) (l4 : zp_get lv 4 = some (.inl (Int32.ofInt 1))) (l5 : zp_get lv 5 = some (.inl i)) (he : ¬ (H.2.1 54 2).toInt = 0) (hP : P (.inl none, H)) : zs_Safe L σ P zm_28 [] (d + 3) (3, lv, [], H, (0, 0)) := by
  refine zw_ld (n := 2) (k := 5) (f := zp_isI) (pc' := 5) rfl rfl l5 rfl rfl ?_
  refine zw_ld (n := 1) (k := 3) (f := zp_isI) (pc' := 6) rfl rfl l3 rfl rfl ?_
  refine zw_bge2 (g := 36) (pc' := 9) rfl rfl rfl rfl rfl (fun h1 => ?_) (fun h1 => ?_)
  · refine zw_ld (n := 1) (k := 0) (f := zp_isR) (pc' := 37) rfl rfl l0 rfl rfl ?_
    refine zw_gI (q := 54) (pc' := 40) W rfl rfl rfl rfl rfl rfl ?_
    refine zw_bne1 (g := 48) (pc' := 43) rfl rfl rfl rfl (fun h2 => ?_) (fun h2 => ?_)
    · refine zw_rn rfl rfl ?_
      exact hP
    · exact absurd h2 he
  · refine zw_ld (n := 1) (k := 0) (f := zp_isR) (pc' := 10) rfl rfl l0 rfl rfl ?_
    refine zw_gI (q := 54) (pc' := 13) W rfl rfl rfl rfl rfl rfl ?_
    refine zw_bne1 (g := 36) (pc' := 16) rfl rfl rfl rfl (fun h3 => ?_) (fun h3 => ?_)
    · refine zw_ld (n := 1) (k := 0) (f := zp_isR) (pc' := 37) rfl rfl l0 rfl rfl ?_
      refine zw_gI (q := 54) (pc' := 40) W rfl rfl rfl rfl rfl rfl ?_
      refine zw_bne1 (g := 48) (pc' := 43) rfl rfl rfl rfl (fun h2 => ?_) (fun h2 => ?_)
      · refine zw_rn rfl rfl ?_
        exact hP
      · exact absurd h2 he
    · exact absurd h3 he

theorem xc_fmL22_1 {L : Nat} {σ : Nat → Int32} {d : Nat} {S : xSea} {P : zp_X → Prop} {x2 x3 : Int32} (hS : xOk S) (hd : -1 ≤ x2.toInt ∧ x2.toInt ≤ 3) : ∀ (n : Nat) (H : zp_H) (lv : zp_LV) (i : Int32), zw_W H → xSC 22 H S → xIn S (H.2.1 54 0).toInt → (H.2.1 54 2).toInt = 0 → 0 ≤ i.toInt → i.toInt + n = x3.toInt.toNat → zp_get lv 0 = some (.inr (.inr (some 55))) → zp_get lv 1 = some (.inr (.inr (some 23))) → zp_get lv 2 = some (.inl x2) → zp_get lv 3 = some (.inl x3) → zp_get lv 4 = some (.inl (Int32.ofInt 1)) → zp_get lv 5 = some (.inl i) → (∀ H1, zw_W H1 → xFr 54 H H1 → xE 54 H1 (xMk S x2.toInt true n i (H.2.1 54 0) (H.2.1 54 1)) → P (.inl none, H1)) → zs_Safe L σ P zm_28 [] (d + 3) (3, lv, [], H, (0, 0)) := by
  intro n
  induction n with
  | zero =>
    intro H lv i W hC hc he h5 hn l0 l1 l2 l3 l4 l5 hP
    have he0 : H.2.1 54 2 = Int32.ofInt 0 := Int32.toInt_inj.mp (he.trans (by decide))
    refine zw_ld (n := 2) (k := 5) (f := zp_isI) (pc' := 5) rfl rfl l5 rfl rfl ?_
    refine zw_ld (n := 1) (k := 3) (f := zp_isI) (pc' := 6) rfl rfl l3 rfl rfl ?_
    refine zw_bge2 (g := 36) (pc' := 9) rfl rfl rfl rfl rfl (fun h1 => ?_) (fun h1 => ?_)
    · refine zw_ld (n := 1) (k := 0) (f := zp_isR) (pc' := 37) rfl rfl l0 rfl rfl ?_
      refine zw_gI (q := 54) (pc' := 40) W rfl rfl rfl rfl rfl rfl ?_
      refine zw_bne1 (g := 48) (pc' := 43) rfl rfl rfl rfl (fun h2 => ?_) (fun h2 => ?_)
      · exact absurd he h2
      · refine zw_ld (n := 1) (k := 0) (f := zp_isR) (pc' := 44) rfl rfl l0 rfl rfl ?_
        refine zw_s (pc' := 45) rfl rfl ?_
        refine zw_pI (q := 54) (pc' := 48) W rfl rfl rfl rfl rfl rfl ?_
        refine zw_rn rfl rfl ?_
        exact hP _ (zw_W_I W) (xFr_I (xFr_r H) (by decide)) ⟨zw_ne rfl rfl, zw_ne rfl rfl, (zw_ne rfl rfl).trans he0, zw_eq⟩
    · omega
  | succ n ih =>
    intro H lv i W hC hc he h5 hn l0 l1 l2 l3 l4 l5 hP
    refine zw_ld (n := 2) (k := 5) (f := zp_isI) (pc' := 5) rfl rfl l5 rfl rfl ?_
    refine zw_ld (n := 1) (k := 3) (f := zp_isI) (pc' := 6) rfl rfl l3 rfl rfl ?_
    refine zw_bge2 (g := 36) (pc' := 9) rfl rfl rfl rfl rfl (fun h1 => ?_) (fun h1 => ?_)
    · omega
    · refine zw_ld (n := 1) (k := 0) (f := zp_isR) (pc' := 10) rfl rfl l0 rfl rfl ?_
      refine zw_gI (q := 54) (pc' := 13) W rfl rfl rfl rfl rfl rfl ?_
      refine zw_bne1 (g := 36) (pc' := 16) rfl rfl rfl rfl (fun h2 => ?_) (fun h2 => ?_)
      · exact absurd he h2
      · refine zw_ld (n := 1) (k := 0) (f := zp_isR) (pc' := 17) rfl rfl l0 rfl rfl ?_
        refine zw_ld (n := 2) (k := 5) (f := zp_isI) (pc' := 19) rfl rfl l5 rfl rfl ?_
        refine zw_pI (q := 54) (pc' := 22) W rfl rfl rfl rfl rfl rfl ?_
        have e0 : (zw_I H 54 4 i).2.1 54 0 = H.2.1 54 0 := zw_ne rfl rfl
        have e1 : (zw_I H 54 4 i).2.1 54 1 = H.2.1 54 1 := zw_ne rfl rfl
        have e2 : (zw_I H 54 4 i).2.1 54 2 = H.2.1 54 2 := zw_ne rfl rfl
        have e4 : (zw_I H 54 4 i).2.1 54 4 = i := zw_eq
        have fr : xFr 54 H (zw_I H 54 4 i) := xFr_I (xFr_r H) (by decide)
        obtain ⟨_, q1, H1, rfl, W1, q2, q3, q4, q5, q6⟩ := xc54_sail22_1 (L := L) (σ := σ) (d := d) (S := S) (x2 := x2) (zw_W_I (p := 54) (k := 4) (x := i) W) hS (xSC_f fr (by decide) hC) (by rw [e0]; exact hc) (by rw [e2]; exact he) hd
        rw [e0, e1] at q4 q5 q6
        rw [e4] at q3
        have hb := xSt_b (hr := (H.2.1 54 1).toInt) (d := x2.toInt) (t := true) hS hc
        have ho := xSt_o (hr := (H.2.1 54 1).toInt) (d := x2.toInt) (t := true) hS hc
        have fr2 := xFr_t fr q2
        have ei : (i + Int32.ofInt 1).toInt = i.toInt + 1 := zw_p1 (by have h9 : x3.toInt ≤ 2147483647 := Int32.toInt_le x3; omega)
        refine zw_ld (n := 1) (k := 0) (f := zp_isR) (pc' := 23) rfl rfl l0 rfl rfl ?_
        refine zw_ld (n := 1) (k := 1) (f := zp_isR) (pc' := 24) rfl rfl l1 rfl rfl ?_
        refine zw_ld (n := 1) (k := 2) (f := zp_isI) (pc' := 25) rfl rfl l2 rfl rfl ?_
        refine zw_ld (n := 2) (k := 4) (f := zp_isI) (pc' := 27) rfl rfl l4 rfl rfl ?_
        refine zw_cn (pc' := 30) (zw_cv (q := 54) (Y := zm_29) (zw_W_I W).1 rfl rfl zm_29_t rfl rfl) rfl rfl rfl rfl rfl (q1) ?_
        refine zw_ii (pc' := 33) rfl l5 rfl rfl ?_
        refine zw_s (pc' := 3) rfl rfl ?_
        by_cases k : (xSt S (H.2.1 54 0).toInt (H.2.1 54 1).toInt x2.toInt true).1 = 0
        · refine ih H1 _ (i + Int32.ofInt 1) W1 (xSC_f fr2 (by decide) hC) (by rw [q4, ho.2]; exact hb.1) (by rw [q5, ho.1]; exact k) (by omega) (by omega) (zw_gt l0 rfl rfl) (zw_gt l1 rfl rfl) (zw_gt l2 rfl rfl) (zw_gt l3 rfl rfl) (zw_gt l4 rfl rfl) zw_g1 (fun H2 w1 w2 w3 => hP H2 w1 (xFr_t fr2 w2) ?_)
          rw [xMk_y k]
          rw [q4, q6, if_pos k] at w3
          exact w3
        · refine xc_fmE22_1 W1 (zw_gt l0 rfl rfl) (zw_gt l1 rfl rfl) (zw_gt l2 rfl rfl) (zw_gt l3 rfl rfl) (zw_gt l4 rfl rfl) zw_g1 (by rw [q5, ho.1]; exact k) (hP H1 W1 fr2 ?_)
          rw [xMk_n k]
          exact ⟨q4, q6.trans (if_neg k), q5, q3⟩

theorem xc_fm22_1 {L : Nat} {σ : Nat → Int32} {d : Nat} {H : zp_H} {x2 x3 : Int32} {S : xSea} (W : zw_W H) (hS : xOk S) (hC : xSC 22 H S) (hc : xIn S (H.2.1 54 0).toInt) (he : (H.2.1 54 2).toInt = 0) (hd : -1 ≤ x2.toInt ∧ x2.toInt ≤ 3) : ∃ X, zp_Call L σ (d + 4) 28 [.inr (.inr (some 55)), .inr (.inr (some 23)), .inl x2, .inl x3, .inl (Int32.ofInt 1)] H X ∧ ∃ H1, X = (.inl none, H1) ∧ zw_W H1 ∧ xFr 54 H H1 ∧ xE 54 H1 (xMk S x2.toInt true x3.toInt.toNat (Int32.ofInt 0) (H.2.1 54 0) (H.2.1 54 1)) := by
  refine zw_met zm_28_t rfl rfl ?_
  refine zw_s (pc' := 1) rfl rfl ?_
  refine zw_st (n := 2) (k := 5) (f := zp_isI) (pc' := 3) rfl rfl rfl rfl rfl ?_
  exact xc_fmL22_1 hS hd x3.toInt.toNat H _ (Int32.ofInt 0) W hC hc he (by decide) (by rw [show (Int32.ofInt 0).toInt = 0 by decide]; omega) (zw_gt rfl rfl rfl) (zw_gt rfl rfl rfl) (zw_gt rfl rfl rfl) (zw_gt rfl rfl rfl) (zw_gt rfl rfl rfl) zw_g1 (fun H1 w1 w2 w3 => ⟨H1, rfl, w1, w2, w3⟩)

/-- but a ship nothing is changed -/
def xFv (q : Nat) (H H1 : zp_H) : Prop := H1.1 = H.1 ∧ H1.2.2.2 = H.2.2.2 ∧ (∀ p k, p ≠ q → H1.2.1 p k = H.2.1 p k) ∧ ∀ p k, p ≠ q → H1.2.2.1 p k = H.2.2.1 p k
theorem xFv_r {q : Nat} (H : zp_H) : xFv q H H := ⟨rfl, rfl, fun _ _ _ => rfl, fun _ _ _ => rfl⟩
theorem xFv_t {q : Nat} {H H1 H2 : zp_H} (h1 : xFv q H H1) (h2 : xFv q H1 H2) : xFv q H H2 := ⟨h2.1.trans h1.1, h2.2.1.trans h1.2.1, fun p k h => (h2.2.2.1 p k h).trans (h1.2.2.1 p k h), fun p k h => (h2.2.2.2 p k h).trans (h1.2.2.2 p k h)⟩
theorem xFr_v {q : Nat} {H H1 : zp_H} (h : xFr q H H1) : xFv q H H1 := ⟨h.1, h.2.1, fun p k hn => h.2.2.1 p k (fun h9 => hn h9.1), h.2.2.2⟩
theorem xFv_I {q k : Nat} {H H1 : zp_H} {x : Int32} (h : xFv q H H1) : xFv q H (zw_I H1 q k x) := ⟨h.1, h.2.1, fun p j hn => (y_ne (fun h9 => hn h9.1)).trans (h.2.2.1 p j hn), h.2.2.2⟩
theorem xFv_J {q k : Nat} {H H1 : zp_H} {u : Int64} (h : xFv q H H1) : xFv q H (zw_J H1 q k u) := ⟨h.1, h.2.1, h.2.2.1, fun p j hn => (zp_u_ne (fun h9 => hn h9.1)).trans (h.2.2.2 p j hn)⟩
theorem xSC_v {q p : Nat} {H H1 : zp_H} {S : xSea} (h : xFv q H H1) (hp : p ≠ q ∧ p + 1 ≠ q ∧ p + 2 ≠ q) (hC : xSC p H S) : xSC p H1 S := by
  have e0 : H1.2.1 p 0 = H.2.1 p 0 := h.2.2.1 p 0 hp.1
  have e1 : H1.2.1 p 1 = H.2.1 p 1 := h.2.2.1 p 1 hp.1
  refine ⟨(congrArg Int32.toInt e0).trans hC.1, (congrArg Int32.toInt e1).trans hC.2.1, (h.2.2.2 p 3 hp.1).trans hC.2.2.1, fun k hk => (congrArg Int32.toInt (h.2.2.1 (p + 2) k hp.2.2)).trans (hC.2.2.2.1 k hk), fun k hk => ?_⟩
  rw [e0, e1]
  exact (h.2.2.2 (p + 1) k hp.2.1).trans (hC.2.2.2.2 k hk)
def xE7 (q : Nat) (H : zp_H) (r : Int32 × Int32 × Int32 × Int32 × Int32 × Int32 × Int32) : Prop := H.2.1 q 0 = r.1 ∧ H.2.1 q 1 = r.2.1 ∧ H.2.1 q 2 = r.2.2.1 ∧ H.2.1 q 4 = r.2.2.2.1 ∧ H.2.1 q 3 = r.2.2.2.2.1 ∧ (¬ r.2.2.1.toInt = 0 → H.2.1 q 5 = r.2.2.2.2.2.1 ∧ H.2.1 q 6 = r.2.2.2.2.2.2)

theorem xc_begin {L : Nat} {σ : Nat → Int32} {d : Nat} {H : zp_H} {x1 x2 : Int32} (W : zw_W H) : ∃ X, zp_Call L σ (d + 2) 25 [.inr (.inr (some 55)), .inl x1, .inl x2] H X ∧ ∃ H1, X = (.inl none, H1) ∧ zw_W H1 ∧ xFv 54 H H1 ∧ H1.2.1 54 0 = x1 ∧ H1.2.1 54 1 = x2 ∧ H1.2.1 54 2 = Int32.ofInt 0 ∧ H1.2.1 54 3 = Int32.ofInt 0 ∧ H1.2.1 54 4 = Int32.ofInt 0 := by
  refine zw_met zm_25_t rfl rfl ?_
  refine zw_ld (n := 1) (k := 0) (f := zp_isR) (pc' := 1) rfl rfl rfl rfl rfl ?_
  refine zw_ld (n := 1) (k := 1) (f := zp_isI) (pc' := 2) rfl rfl rfl rfl rfl ?_
  refine zw_pI (q := 54) (pc' := 5) W rfl rfl rfl rfl rfl rfl ?_
  refine zw_ld (n := 1) (k := 0) (f := zp_isR) (pc' := 6) rfl rfl rfl rfl rfl ?_
  refine zw_ld (n := 1) (k := 2) (f := zp_isI) (pc' := 7) rfl rfl rfl rfl rfl ?_
  refine zw_pI (q := 54) (pc' := 10) (zw_W_I W) rfl rfl rfl rfl rfl rfl ?_
  refine zw_ld (n := 1) (k := 0) (f := zp_isR) (pc' := 11) rfl rfl rfl rfl rfl ?_
  refine zw_s (pc' := 12) rfl rfl ?_
  refine zw_pI (q := 54) (pc' := 15) (zw_W_I (zw_W_I W)) rfl rfl rfl rfl rfl rfl ?_
  refine zw_ld (n := 1) (k := 0) (f := zp_isR) (pc' := 16) rfl rfl rfl rfl rfl ?_
  refine zw_s (pc' := 17) rfl rfl ?_
  refine zw_pI (q := 54) (pc' := 20) (zw_W_I (zw_W_I (zw_W_I W))) rfl rfl rfl rfl rfl rfl ?_
  refine zw_ld (n := 1) (k := 0) (f := zp_isR) (pc' := 21) rfl rfl rfl rfl rfl ?_
  refine zw_s (pc' := 22) rfl rfl ?_
  refine zw_pI (q := 54) (pc' := 25) (zw_W_I (zw_W_I (zw_W_I (zw_W_I W)))) rfl rfl rfl rfl rfl rfl ?_
  refine zw_ld (n := 1) (k := 0) (f := zp_isR) (pc' := 26) rfl rfl rfl rfl rfl ?_
  refine zw_ld (n := 1) (k := 1) (f := zp_isI) (pc' := 27) rfl rfl rfl rfl rfl ?_
  refine zw_cx (pc' := 30) (zw_csx (Y := zm_4) rfl rfl zm_4_t) rfl rfl rfl rfl rfl (zn_bit) ?_
  refine zw_pL (q := 54) (pc' := 33) (zw_W_I (zw_W_I (zw_W_I (zw_W_I (zw_W_I W))))) rfl rfl rfl rfl rfl rfl ?_
  refine zw_rn rfl rfl ?_
  exact ⟨_, rfl, (zw_W_J (zw_W_I (zw_W_I (zw_W_I (zw_W_I (zw_W_I W)))))), xFv_J (xFv_I (xFv_I (xFv_I (xFv_I (xFv_I (xFv_r H)))))), (zw_nj (zw_ne (zw_ne (zw_ne (zw_ne zw_eq rfl) rfl) rfl) rfl)), (zw_nj (zw_ne (zw_ne (zw_ne zw_eq rfl) rfl) rfl)), (zw_nj (zw_ne (zw_ne zw_eq rfl) rfl)), (zw_nj (zw_ne zw_eq rfl)), (zw_nj zw_eq)⟩

theorem xc_foE2 {L : Nat} {σ : Nat → Int32} {d : Nat} {H : zp_H} {P : zp_X → Prop} {lv : zp_LV} {s m i : Int32} (W : zw_W H) (l0 : zp_get lv 0 = some (.inr (.inr (some 55)))) (l1 : zp_get lv 1 = some (.inr (.inr (some 3)))) (l2 : zp_get lv 2 = some (.inr (.inr (some 14)))) (l3 : zp_get lv 3 = some (.inl s)) (l4 : zp_get lv 4 = some (.inl m)) (l5 : zp_get lv 5 = some (.inl i)) (he : ¬ (H.2.1 54 2).toInt = 0) (hP : P (.inl none, H)) : zs_Safe L σ P zm_24 [] (d + 4) (27, lv, [], H, (0, 0)) := by
  refine zw_ld (n := 2) (k := 5) (f := zp_isI) (pc' := 29) rfl rfl l5 rfl rfl ?_
  refine zw_ld (n := 2) (k := 4) (f := zp_isI) (pc' := 31) rfl rfl l4 rfl rfl ?_
  refine zw_bge2 (g := 89) (pc' := 34) rfl rfl rfl rfl rfl (fun h1 => ?_) (fun h1 => ?_)
  · refine zw_ld (n := 1) (k := 0) (f := zp_isR) (pc' := 90) rfl rfl l0 rfl rfl ?_
    refine zw_gI (q := 54) (pc' := 93) W rfl rfl rfl rfl rfl rfl ?_
    refine zw_bne1 (g := 102) (pc' := 96) rfl rfl rfl rfl (fun h2 => ?_) (fun h2 => ?_)
    · refine zw_rn rfl rfl ?_
      exact hP
    · exact absurd h2 he
  · refine zw_ld (n := 1) (k := 0) (f := zp_isR) (pc' := 35) rfl rfl l0 rfl rfl ?_
    refine zw_gI (q := 54) (pc' := 38) W rfl rfl rfl rfl rfl rfl ?_
    refine zw_bne1 (g := 89) (pc' := 41) rfl rfl rfl rfl (fun h3 => ?_) (fun h3 => ?_)
    · refine zw_ld (n := 1) (k := 0) (f := zp_isR) (pc' := 90) rfl rfl l0 rfl rfl ?_
      refine zw_gI (q := 54) (pc' := 93) W rfl rfl rfl rfl rfl rfl ?_
      refine zw_bne1 (g := 102) (pc' := 96) rfl rfl rfl rfl (fun h2 => ?_) (fun h2 => ?_)
      · refine zw_rn rfl rfl ?_
        exact hP
      · exact absurd h2 he
    · exact absurd h3 he

theorem xc_foL2 {L : Nat} {σ : Nat → Int32} {d : Nat} {S : xSea} {P : zp_X → Prop} {H0 : zp_H} {s m : Int32} (hS : xOk S) (hs : 0 ≤ s.toInt ∧ s.toInt < 8) (hm : 0 ≤ m.toInt ∧ m.toInt ≤ 8) (hw : ∀ j, j < m.toInt.toNat → -1 ≤ (H0.2.1 18 (8 * s.toInt.toNat + j)).toInt ∧ (H0.2.1 18 (8 * s.toInt.toNat + j)).toInt ≤ 3) : ∀ (n : Nat) (H : zp_H) (lv : zp_LV) (i : Int32), zw_W H → xFv 54 H0 H → xSC 2 H S → xIn S (H.2.1 54 0).toInt → (H.2.1 54 2).toInt = 0 → H.2.1 54 4 = Int32.ofInt 0 → 0 ≤ i.toInt → i.toInt + n = m.toInt → zp_get lv 0 = some (.inr (.inr (some 55))) → zp_get lv 1 = some (.inr (.inr (some 3))) → zp_get lv 2 = some (.inr (.inr (some 14))) → zp_get lv 3 = some (.inl s) → zp_get lv 4 = some (.inl m) → zp_get lv 5 = some (.inl i) → (∀ H1, zw_W H1 → xFv 54 H H1 → xE7 54 H1 (xVy S (fun j => H0.2.1 18 (8 * s.toInt.toNat + j)) (fun j => H0.2.1 19 (8 * s.toInt.toNat + j)) n i (H.2.1 54 0) (H.2.1 54 1)) → P (.inl none, H1)) → zs_Safe L σ P zm_24 [] (d + 4) (27, lv, [], H, (0, 0)) := by
  intro n
  induction n with
  | zero =>
    intro H lv i W hF hC hc he h4 h5 hn l0 l1 l2 l3 l4 l5 hP
    have he0 : H.2.1 54 2 = Int32.ofInt 0 := Int32.toInt_inj.mp (he.trans (by decide))
    have ei : i = m := Int32.toInt_inj.mp (by omega)
    refine zw_ld (n := 2) (k := 5) (f := zp_isI) (pc' := 29) rfl rfl l5 rfl rfl ?_
    refine zw_ld (n := 2) (k := 4) (f := zp_isI) (pc' := 31) rfl rfl l4 rfl rfl ?_
    refine zw_bge2 (g := 89) (pc' := 34) rfl rfl rfl rfl rfl (fun h1 => ?_) (fun h1 => ?_)
    · refine zw_ld (n := 1) (k := 0) (f := zp_isR) (pc' := 90) rfl rfl l0 rfl rfl ?_
      refine zw_gI (q := 54) (pc' := 93) W rfl rfl rfl rfl rfl rfl ?_
      refine zw_bne1 (g := 102) (pc' := 96) rfl rfl rfl rfl (fun h2 => ?_) (fun h2 => ?_)
      · exact absurd he h2
      · refine zw_ld (n := 1) (k := 0) (f := zp_isR) (pc' := 97) rfl rfl l0 rfl rfl ?_
        refine zw_ld (n := 2) (k := 4) (f := zp_isI) (pc' := 99) rfl rfl l4 rfl rfl ?_
        refine zw_pI (q := 54) (pc' := 102) W rfl rfl rfl rfl rfl rfl ?_
        refine zw_rn rfl rfl ?_
        exact hP _ (zw_W_I W) (xFv_I (xFv_r H)) ⟨zw_ne rfl rfl, zw_ne rfl rfl, (zw_ne rfl rfl).trans he0, (zw_ne rfl rfl).trans h4, zw_eq.trans ei.symm, fun h9 => absurd (show (Int32.ofInt 0).toInt = 0 by decide) h9⟩
    · omega
  | succ n ih =>
    intro H lv i W hF hC hc he h4 h5 hn l0 l1 l2 l3 l4 l5 hP
    refine zw_ld (n := 2) (k := 5) (f := zp_isI) (pc' := 29) rfl rfl l5 rfl rfl ?_
    refine zw_ld (n := 2) (k := 4) (f := zp_isI) (pc' := 31) rfl rfl l4 rfl rfl ?_
    refine zw_bge2 (g := 89) (pc' := 34) rfl rfl rfl rfl rfl (fun h1 => ?_) (fun h1 => ?_)
    · omega
    · refine zw_ld (n := 1) (k := 0) (f := zp_isR) (pc' := 35) rfl rfl l0 rfl rfl ?_
      refine zw_gI (q := 54) (pc' := 38) W rfl rfl rfl rfl rfl rfl ?_
      refine zw_bne1 (g := 89) (pc' := 41) rfl rfl rfl rfl (fun h2 => ?_) (fun h2 => ?_)
      · exact absurd he h2
      · refine zw_ld (n := 1) (k := 0) (f := zp_isR) (pc' := 42) rfl rfl l0 rfl rfl ?_
        refine zw_ld (n := 2) (k := 5) (f := zp_isI) (pc' := 44) rfl rfl l5 rfl rfl ?_
        refine zw_pI (q := 54) (pc' := 47) W rfl rfl rfl rfl rfl rfl ?_
        refine zw_ld (n := 1) (k := 0) (f := zp_isR) (pc' := 48) rfl rfl l0 rfl rfl ?_
        refine zw_ld (n := 1) (k := 0) (f := zp_isR) (pc' := 49) rfl rfl l0 rfl rfl ?_
        refine zw_gI (q := 54) (pc' := 52) (zw_W_I W) rfl rfl rfl rfl (zw_ne rfl rfl) rfl ?_
        refine zw_pI (q := 54) (pc' := 55) (zw_W_I W) rfl rfl rfl rfl rfl rfl ?_
        refine zw_ld (n := 1) (k := 0) (f := zp_isR) (pc' := 56) rfl rfl l0 rfl rfl ?_
        refine zw_ld (n := 1) (k := 0) (f := zp_isR) (pc' := 57) rfl rfl l0 rfl rfl ?_
        refine zw_gI (q := 54) (pc' := 60) (zw_W_I (zw_W_I W)) rfl rfl rfl rfl (zw_ne (zw_ne rfl rfl) rfl) rfl ?_
        refine zw_pI (q := 54) (pc' := 63) (zw_W_I (zw_W_I W)) rfl rfl rfl rfl rfl rfl ?_
        have e0 : (zw_I (zw_I (zw_I H 54 3 i) 54 5 (H.2.1 54 0)) 54 6 (H.2.1 54 1)).2.1 54 0 = H.2.1 54 0 := zw_ne (zw_ne (zw_ne rfl rfl) rfl) rfl
        have e1 : (zw_I (zw_I (zw_I H 54 3 i) 54 5 (H.2.1 54 0)) 54 6 (H.2.1 54 1)).2.1 54 1 = H.2.1 54 1 := zw_ne (zw_ne (zw_ne rfl rfl) rfl) rfl
        have e2 : (zw_I (zw_I (zw_I H 54 3 i) 54 5 (H.2.1 54 0)) 54 6 (H.2.1 54 1)).2.1 54 2 = H.2.1 54 2 := zw_ne (zw_ne (zw_ne rfl rfl) rfl) rfl
        have e3 : (zw_I (zw_I (zw_I H 54 3 i) 54 5 (H.2.1 54 0)) 54 6 (H.2.1 54 1)).2.1 54 3 = i := zw_ne (zw_ne zw_eq rfl) rfl
        have e5 : (zw_I (zw_I (zw_I H 54 3 i) 54 5 (H.2.1 54 0)) 54 6 (H.2.1 54 1)).2.1 54 5 = H.2.1 54 0 := zw_ne zw_eq rfl
        have e6 : (zw_I (zw_I (zw_I H 54 3 i) 54 5 (H.2.1 54 0)) 54 6 (H.2.1 54 1)).2.1 54 6 = H.2.1 54 1 := zw_eq
        have fr : xFv 54 H (zw_I (zw_I (zw_I H 54 3 i) 54 5 (H.2.1 54 0)) 54 6 (H.2.1 54 1)) := xFv_I (xFv_I (xFv_I (xFv_r H)))
        have WA : zw_W (zw_I (zw_I (zw_I H 54 3 i) 54 5 (H.2.1 54 0)) 54 6 (H.2.1 54 1)) := zw_W_I (zw_W_I (zw_W_I W))
        have hi8 : i.toInt.toNat < m.toInt.toNat := by omega
        have kw : (zw_I (zw_I (zw_I H 54 3 i) 54 5 (H.2.1 54 0)) 54 6 (H.2.1 54 1)).2.1 18 (8 * s.toInt.toNat + i.toInt.toNat) = H0.2.1 18 (8 * s.toInt.toNat + i.toInt.toNat) := (fr.2.2.1 _ _ (by decide)).trans (hF.2.2.1 _ _ (by decide))
        have ks : (zw_I (zw_I (zw_I H 54 3 i) 54 5 (H.2.1 54 0)) 54 6 (H.2.1 54 1)).2.1 19 (8 * s.toInt.toNat + i.toInt.toNat) = H0.2.1 19 (8 * s.toInt.toNat + i.toInt.toNat) := (fr.2.2.1 _ _ (by decide)).trans (hF.2.2.1 _ _ (by decide))
        obtain ⟨_, q1, H1, rfl, W1, q2, q3⟩ := xc_fm2_1 (L := L) (σ := σ) (d := d) (S := S) (x2 := H0.2.1 18 (8 * s.toInt.toNat + i.toInt.toNat)) (x3 := H0.2.1 19 (8 * s.toInt.toNat + i.toInt.toNat)) WA hS (xSC_v fr (by decide) hC) (by rw [e0]; exact hc) (by rw [e2]; exact he) (hw _ hi8)
        rw [e0, e1] at q3
        have hb := xMk_b (S := S) (d := (H0.2.1 18 (8 * s.toInt.toNat + i.toInt.toNat)).toInt) (t := true) hS (H0.2.1 19 (8 * s.toInt.toNat + i.toInt.toNat)).toInt.toNat (Int32.ofInt 0) (H.2.1 54 0) (H.2.1 54 1) hc
        have fr2 := xFv_t fr (xFr_v q2)
        have k3 : H1.2.1 54 3 = i := (q2.2.2.1 54 3 (fun h9 => by have := h9.2; omega)).trans e3
        have k5 : H1.2.1 54 5 = H.2.1 54 0 := (q2.2.2.1 54 5 (fun h9 => by have := h9.2; omega)).trans e5
        have k6 : H1.2.1 54 6 = H.2.1 54 1 := (q2.2.2.1 54 6 (fun h9 => by have := h9.2; omega)).trans e6
        have ei : (i + Int32.ofInt 1).toInt = i.toInt + 1 := zw_p1 (by omega)
        obtain ⟨r0, r1, r2, r4⟩ := q3
        refine zw_ld (n := 1) (k := 0) (f := zp_isR) (pc' := 64) rfl rfl l0 rfl rfl ?_
        refine zw_ld (n := 1) (k := 1) (f := zp_isR) (pc' := 65) rfl rfl l1 rfl rfl ?_
        refine zw_ld (n := 1) (k := 2) (f := zp_isR) (pc' := 66) rfl rfl l2 rfl rfl ?_
        refine zw_ld (n := 1) (k := 3) (f := zp_isI) (pc' := 67) rfl rfl l3 rfl rfl ?_
        refine zw_ld (n := 2) (k := 5) (f := zp_isI) (pc' := 69) rfl rfl l5 rfl rfl ?_
        refine zw_c (pc' := 72) (zw_cv (q := 13) (Y := zm_26) WA.1 rfl rfl zm_26_t rfl rfl) rfl rfl rfl rfl rfl (yc_wayOf13 WA ⟨by omega, by omega⟩ ⟨by omega, by omega⟩) ?_
        refine zw_ld (n := 1) (k := 2) (f := zp_isR) (pc' := 73) rfl rfl l2 rfl rfl ?_
        refine zw_ld (n := 1) (k := 3) (f := zp_isI) (pc' := 74) rfl rfl l3 rfl rfl ?_
        refine zw_ld (n := 2) (k := 5) (f := zp_isI) (pc' := 76) rfl rfl l5 rfl rfl ?_
        refine zw_c (pc' := 79) (zw_cv (q := 13) (Y := zm_27) WA.1 rfl rfl zm_27_t rfl rfl) rfl rfl rfl rfl rfl (yc_stepsOf13 WA ⟨by omega, by omega⟩ ⟨by omega, by omega⟩) ?_
        refine zw_s (pc' := 80) rfl rfl ?_
        rw [kw, ks]
        refine zw_cn (pc' := 83) (zw_cv (q := 54) (Y := zm_28) WA.1 rfl rfl zm_28_t rfl rfl) rfl rfl rfl rfl rfl (q1) ?_
        refine zw_ii (pc' := 86) rfl l5 rfl rfl ?_
        refine zw_s (pc' := 27) rfl rfl ?_
        by_cases k : (H1.2.1 54 2).toInt = 0
        · refine ih H1 _ (i + Int32.ofInt 1) W1 (xFv_t hF fr2) (xSC_v fr2 (by decide) hC) (by rw [r0]; exact hb.1) k (r4.trans (hb.2 (r2 ▸ k))) (by omega) (by omega) (zw_gt l0 rfl rfl) (zw_gt l1 rfl rfl) (zw_gt l2 rfl rfl) (zw_gt l3 rfl rfl) (zw_gt l4 rfl rfl) zw_g1 (fun H2 w1 w2 w3 => hP H2 w1 (xFv_t fr2 w2) ?_)
          rw [xVy_y (S := S) (wy := (fun j => H0.2.1 18 (8 * s.toInt.toNat + j))) (st := (fun j => H0.2.1 19 (8 * s.toInt.toNat + j))) (n := n) (k := i) rfl (r2 ▸ k)]
          rw [r0, r1] at w3
          exact w3
        · refine xc_foE2 W1 (zw_gt l0 rfl rfl) (zw_gt l1 rfl rfl) (zw_gt l2 rfl rfl) (zw_gt l3 rfl rfl) (zw_gt l4 rfl rfl) zw_g1 k (hP H1 W1 fr2 ?_)
          rw [xVy_n (S := S) (wy := (fun j => H0.2.1 18 (8 * s.toInt.toNat + j))) (st := (fun j => H0.2.1 19 (8 * s.toInt.toNat + j))) (n := n) (k := i) rfl (fun h9 => k (r2 ▸ h9))]
          exact ⟨r0, r1, r2, r4, k3, fun _ => ⟨k5, k6⟩⟩

theorem xc_fo2 {L : Nat} {σ : Nat → Int32} {d : Nat} {H : zp_H} {s : Int32} {S : xSea} (W : zw_W H) (hS : xOk S) (hC : xSC 2 H S) (hs : 0 ≤ s.toInt ∧ s.toInt < 8) (hm : 0 ≤ (H.2.1 16 s.toInt.toNat).toInt ∧ (H.2.1 16 s.toInt.toNat).toInt ≤ 8) (hw : ∀ j, j < (H.2.1 16 s.toInt.toNat).toInt.toNat → -1 ≤ (H.2.1 18 (8 * s.toInt.toNat + j)).toInt ∧ (H.2.1 18 (8 * s.toInt.toNat + j)).toInt ≤ 3) (hc : xIn S (H.2.1 14 s.toInt.toNat).toInt) : ∃ X, zp_Call L σ (d + 5) 24 [.inr (.inr (some 55)), .inr (.inr (some 3)), .inr (.inr (some 14)), .inl s] H X ∧ ∃ H1, X = (.inl none, H1) ∧ zw_W H1 ∧ xFv 54 H H1 ∧ xE7 54 H1 (xVy S (fun j => H.2.1 18 (8 * s.toInt.toNat + j)) (fun j => H.2.1 19 (8 * s.toInt.toNat + j)) (H.2.1 16 s.toInt.toNat).toInt.toNat (Int32.ofInt 0) (H.2.1 14 s.toInt.toNat) (H.2.1 15 s.toInt.toNat)) := by
  refine zw_met zm_24_t rfl rfl ?_
  refine zw_ld (n := 1) (k := 0) (f := zp_isR) (pc' := 1) rfl rfl rfl rfl rfl ?_
  refine zw_ld (n := 1) (k := 2) (f := zp_isR) (pc' := 2) rfl rfl rfl rfl rfl ?_
  refine zw_gR (q := 13) (pc' := 5) W rfl rfl rfl rfl (W.2 13 1 _ rfl) rfl ?_
  refine zw_ld (n := 1) (k := 3) (f := zp_isI) (pc' := 6) rfl rfl rfl rfl rfl ?_
  refine zw_ia (q := 14) (pc' := 7) W rfl rfl (by decide) (⟨hs.1, by show _ < ((8 : Nat) : Int); omega⟩) rfl rfl ?_
  refine zw_ld (n := 1) (k := 2) (f := zp_isR) (pc' := 8) rfl rfl rfl rfl rfl ?_
  refine zw_gR (q := 13) (pc' := 11) W rfl rfl rfl rfl (W.2 13 2 _ rfl) rfl ?_
  refine zw_ld (n := 1) (k := 3) (f := zp_isI) (pc' := 12) rfl rfl rfl rfl rfl ?_
  refine zw_ia (q := 15) (pc' := 13) W rfl rfl (by decide) (⟨hs.1, by show _ < ((8 : Nat) : Int); omega⟩) rfl rfl ?_
  obtain ⟨_, q1, H1, rfl, W1, q2, r0, r1, r2, r3, r4⟩ := xc_begin (L := L) (σ := σ) (d := d + 2) (x1 := H.2.1 14 s.toInt.toNat) (x2 := H.2.1 15 s.toInt.toNat) W
  have km : H1.2.1 16 s.toInt.toNat = H.2.1 16 s.toInt.toNat := q2.2.2.1 _ _ (by decide)
  refine zw_cn (pc' := 16) (zw_cv (q := 54) (Y := zm_25) W.1 rfl rfl zm_25_t rfl rfl) rfl rfl rfl rfl rfl (q1) ?_
  refine zw_ld (n := 1) (k := 2) (f := zp_isR) (pc' := 17) rfl rfl rfl rfl rfl ?_
  refine zw_gR (q := 13) (pc' := 20) W1 rfl rfl rfl rfl (W1.2 13 3 _ rfl) rfl ?_
  refine zw_ld (n := 1) (k := 3) (f := zp_isI) (pc' := 21) rfl rfl rfl rfl rfl ?_
  refine zw_ia (q := 16) (pc' := 22) W1 rfl rfl (by decide) (⟨hs.1, by show _ < ((8 : Nat) : Int); omega⟩) rfl rfl ?_
  refine zw_st (n := 2) (k := 4) (f := zp_isI) (pc' := 24) rfl rfl rfl rfl rfl ?_
  refine zw_s (pc' := 25) rfl rfl ?_
  refine zw_st (n := 2) (k := 5) (f := zp_isI) (pc' := 27) rfl rfl rfl rfl rfl ?_
  rw [km]
  refine xc_foL2 (H0 := H) (s := s) (m := H.2.1 16 s.toInt.toNat) hS hs hm hw (H.2.1 16 s.toInt.toNat).toInt.toNat H1 _ (Int32.ofInt 0) W1 q2 (xSC_v q2 (by decide) hC) (by rw [r0]; exact hc) (by rw [r2]; decide) r4 (by decide) (by rw [show (Int32.ofInt 0).toInt = 0 by decide]; omega) (zw_gt (zw_gt rfl rfl rfl) rfl rfl) (zw_gt (zw_gt rfl rfl rfl) rfl rfl) (zw_gt (zw_gt rfl rfl rfl) rfl rfl) (zw_gt (zw_gt rfl rfl rfl) rfl rfl) (zw_gt zw_g1 rfl rfl) zw_g1 (fun H2 w1 w2 w3 => ⟨H2, rfl, w1, xFv_t q2 w2, ?_⟩)
  rw [r0, r1] at w3
  exact w3

theorem xc_foE22 {L : Nat} {σ : Nat → Int32} {d : Nat} {H : zp_H} {P : zp_X → Prop} {lv : zp_LV} {s m i : Int32} (W : zw_W H) (l0 : zp_get lv 0 = some (.inr (.inr (some 55)))) (l1 : zp_get lv 1 = some (.inr (.inr (some 23)))) (l2 : zp_get lv 2 = some (.inr (.inr (some 34)))) (l3 : zp_get lv 3 = some (.inl s)) (l4 : zp_get lv 4 = some (.inl m)) (l5 : zp_get lv 5 = some (.inl i)) (he : ¬ (H.2.1 54 2).toInt = 0) (hP : P (.inl none, H)) : zs_Safe L σ P zm_24 [] (d + 4) (27, lv, [], H, (0, 0)) := by
  refine zw_ld (n := 2) (k := 5) (f := zp_isI) (pc' := 29) rfl rfl l5 rfl rfl ?_
  refine zw_ld (n := 2) (k := 4) (f := zp_isI) (pc' := 31) rfl rfl l4 rfl rfl ?_
  refine zw_bge2 (g := 89) (pc' := 34) rfl rfl rfl rfl rfl (fun h1 => ?_) (fun h1 => ?_)
  · refine zw_ld (n := 1) (k := 0) (f := zp_isR) (pc' := 90) rfl rfl l0 rfl rfl ?_
    refine zw_gI (q := 54) (pc' := 93) W rfl rfl rfl rfl rfl rfl ?_
    refine zw_bne1 (g := 102) (pc' := 96) rfl rfl rfl rfl (fun h2 => ?_) (fun h2 => ?_)
    · refine zw_rn rfl rfl ?_
      exact hP
    · exact absurd h2 he
  · refine zw_ld (n := 1) (k := 0) (f := zp_isR) (pc' := 35) rfl rfl l0 rfl rfl ?_
    refine zw_gI (q := 54) (pc' := 38) W rfl rfl rfl rfl rfl rfl ?_
    refine zw_bne1 (g := 89) (pc' := 41) rfl rfl rfl rfl (fun h3 => ?_) (fun h3 => ?_)
    · refine zw_ld (n := 1) (k := 0) (f := zp_isR) (pc' := 90) rfl rfl l0 rfl rfl ?_
      refine zw_gI (q := 54) (pc' := 93) W rfl rfl rfl rfl rfl rfl ?_
      refine zw_bne1 (g := 102) (pc' := 96) rfl rfl rfl rfl (fun h2 => ?_) (fun h2 => ?_)
      · refine zw_rn rfl rfl ?_
        exact hP
      · exact absurd h2 he
    · exact absurd h3 he

theorem xc_foL22 {L : Nat} {σ : Nat → Int32} {d : Nat} {S : xSea} {P : zp_X → Prop} {H0 : zp_H} {s m : Int32} (hS : xOk S) (hs : 0 ≤ s.toInt ∧ s.toInt < 8) (hm : 0 ≤ m.toInt ∧ m.toInt ≤ 8) (hw : ∀ j, j < m.toInt.toNat → -1 ≤ (H0.2.1 38 (8 * s.toInt.toNat + j)).toInt ∧ (H0.2.1 38 (8 * s.toInt.toNat + j)).toInt ≤ 3) : ∀ (n : Nat) (H : zp_H) (lv : zp_LV) (i : Int32), zw_W H → xFv 54 H0 H → xSC 22 H S → xIn S (H.2.1 54 0).toInt → (H.2.1 54 2).toInt = 0 → H.2.1 54 4 = Int32.ofInt 0 → 0 ≤ i.toInt → i.toInt + n = m.toInt → zp_get lv 0 = some (.inr (.inr (some 55))) → zp_get lv 1 = some (.inr (.inr (some 23))) → zp_get lv 2 = some (.inr (.inr (some 34))) → zp_get lv 3 = some (.inl s) → zp_get lv 4 = some (.inl m) → zp_get lv 5 = some (.inl i) → (∀ H1, zw_W H1 → xFv 54 H H1 → xE7 54 H1 (xVy S (fun j => H0.2.1 38 (8 * s.toInt.toNat + j)) (fun j => H0.2.1 39 (8 * s.toInt.toNat + j)) n i (H.2.1 54 0) (H.2.1 54 1)) → P (.inl none, H1)) → zs_Safe L σ P zm_24 [] (d + 4) (27, lv, [], H, (0, 0)) := by
  intro n
  induction n with
  | zero =>
    intro H lv i W hF hC hc he h4 h5 hn l0 l1 l2 l3 l4 l5 hP
    have he0 : H.2.1 54 2 = Int32.ofInt 0 := Int32.toInt_inj.mp (he.trans (by decide))
    have ei : i = m := Int32.toInt_inj.mp (by omega)
    refine zw_ld (n := 2) (k := 5) (f := zp_isI) (pc' := 29) rfl rfl l5 rfl rfl ?_
    refine zw_ld (n := 2) (k := 4) (f := zp_isI) (pc' := 31) rfl rfl l4 rfl rfl ?_
    refine zw_bge2 (g := 89) (pc' := 34) rfl rfl rfl rfl rfl (fun h1 => ?_) (fun h1 => ?_)
    · refine zw_ld (n := 1) (k := 0) (f := zp_isR) (pc' := 90) rfl rfl l0 rfl rfl ?_
      refine zw_gI (q := 54) (pc' := 93) W rfl rfl rfl rfl rfl rfl ?_
      refine zw_bne1 (g := 102) (pc' := 96) rfl rfl rfl rfl (fun h2 => ?_) (fun h2 => ?_)
      · exact absurd he h2
      · refine zw_ld (n := 1) (k := 0) (f := zp_isR) (pc' := 97) rfl rfl l0 rfl rfl ?_
        refine zw_ld (n := 2) (k := 4) (f := zp_isI) (pc' := 99) rfl rfl l4 rfl rfl ?_
        refine zw_pI (q := 54) (pc' := 102) W rfl rfl rfl rfl rfl rfl ?_
        refine zw_rn rfl rfl ?_
        exact hP _ (zw_W_I W) (xFv_I (xFv_r H)) ⟨zw_ne rfl rfl, zw_ne rfl rfl, (zw_ne rfl rfl).trans he0, (zw_ne rfl rfl).trans h4, zw_eq.trans ei.symm, fun h9 => absurd (show (Int32.ofInt 0).toInt = 0 by decide) h9⟩
    · omega
  | succ n ih =>
    intro H lv i W hF hC hc he h4 h5 hn l0 l1 l2 l3 l4 l5 hP
    refine zw_ld (n := 2) (k := 5) (f := zp_isI) (pc' := 29) rfl rfl l5 rfl rfl ?_
    refine zw_ld (n := 2) (k := 4) (f := zp_isI) (pc' := 31) rfl rfl l4 rfl rfl ?_
    refine zw_bge2 (g := 89) (pc' := 34) rfl rfl rfl rfl rfl (fun h1 => ?_) (fun h1 => ?_)
    · omega
    · refine zw_ld (n := 1) (k := 0) (f := zp_isR) (pc' := 35) rfl rfl l0 rfl rfl ?_
      refine zw_gI (q := 54) (pc' := 38) W rfl rfl rfl rfl rfl rfl ?_
      refine zw_bne1 (g := 89) (pc' := 41) rfl rfl rfl rfl (fun h2 => ?_) (fun h2 => ?_)
      · exact absurd he h2
      · refine zw_ld (n := 1) (k := 0) (f := zp_isR) (pc' := 42) rfl rfl l0 rfl rfl ?_
        refine zw_ld (n := 2) (k := 5) (f := zp_isI) (pc' := 44) rfl rfl l5 rfl rfl ?_
        refine zw_pI (q := 54) (pc' := 47) W rfl rfl rfl rfl rfl rfl ?_
        refine zw_ld (n := 1) (k := 0) (f := zp_isR) (pc' := 48) rfl rfl l0 rfl rfl ?_
        refine zw_ld (n := 1) (k := 0) (f := zp_isR) (pc' := 49) rfl rfl l0 rfl rfl ?_
        refine zw_gI (q := 54) (pc' := 52) (zw_W_I W) rfl rfl rfl rfl (zw_ne rfl rfl) rfl ?_
        refine zw_pI (q := 54) (pc' := 55) (zw_W_I W) rfl rfl rfl rfl rfl rfl ?_
        refine zw_ld (n := 1) (k := 0) (f := zp_isR) (pc' := 56) rfl rfl l0 rfl rfl ?_
        refine zw_ld (n := 1) (k := 0) (f := zp_isR) (pc' := 57) rfl rfl l0 rfl rfl ?_
        refine zw_gI (q := 54) (pc' := 60) (zw_W_I (zw_W_I W)) rfl rfl rfl rfl (zw_ne (zw_ne rfl rfl) rfl) rfl ?_
        refine zw_pI (q := 54) (pc' := 63) (zw_W_I (zw_W_I W)) rfl rfl rfl rfl rfl rfl ?_
        have e0 : (zw_I (zw_I (zw_I H 54 3 i) 54 5 (H.2.1 54 0)) 54 6 (H.2.1 54 1)).2.1 54 0 = H.2.1 54 0 := zw_ne (zw_ne (zw_ne rfl rfl) rfl) rfl
        have e1 : (zw_I (zw_I (zw_I H 54 3 i) 54 5 (H.2.1 54 0)) 54 6 (H.2.1 54 1)).2.1 54 1 = H.2.1 54 1 := zw_ne (zw_ne (zw_ne rfl rfl) rfl) rfl
        have e2 : (zw_I (zw_I (zw_I H 54 3 i) 54 5 (H.2.1 54 0)) 54 6 (H.2.1 54 1)).2.1 54 2 = H.2.1 54 2 := zw_ne (zw_ne (zw_ne rfl rfl) rfl) rfl
        have e3 : (zw_I (zw_I (zw_I H 54 3 i) 54 5 (H.2.1 54 0)) 54 6 (H.2.1 54 1)).2.1 54 3 = i := zw_ne (zw_ne zw_eq rfl) rfl
        have e5 : (zw_I (zw_I (zw_I H 54 3 i) 54 5 (H.2.1 54 0)) 54 6 (H.2.1 54 1)).2.1 54 5 = H.2.1 54 0 := zw_ne zw_eq rfl
        have e6 : (zw_I (zw_I (zw_I H 54 3 i) 54 5 (H.2.1 54 0)) 54 6 (H.2.1 54 1)).2.1 54 6 = H.2.1 54 1 := zw_eq
        have fr : xFv 54 H (zw_I (zw_I (zw_I H 54 3 i) 54 5 (H.2.1 54 0)) 54 6 (H.2.1 54 1)) := xFv_I (xFv_I (xFv_I (xFv_r H)))
        have WA : zw_W (zw_I (zw_I (zw_I H 54 3 i) 54 5 (H.2.1 54 0)) 54 6 (H.2.1 54 1)) := zw_W_I (zw_W_I (zw_W_I W))
        have hi8 : i.toInt.toNat < m.toInt.toNat := by omega
        have kw : (zw_I (zw_I (zw_I H 54 3 i) 54 5 (H.2.1 54 0)) 54 6 (H.2.1 54 1)).2.1 38 (8 * s.toInt.toNat + i.toInt.toNat) = H0.2.1 38 (8 * s.toInt.toNat + i.toInt.toNat) := (fr.2.2.1 _ _ (by decide)).trans (hF.2.2.1 _ _ (by decide))
        have ks : (zw_I (zw_I (zw_I H 54 3 i) 54 5 (H.2.1 54 0)) 54 6 (H.2.1 54 1)).2.1 39 (8 * s.toInt.toNat + i.toInt.toNat) = H0.2.1 39 (8 * s.toInt.toNat + i.toInt.toNat) := (fr.2.2.1 _ _ (by decide)).trans (hF.2.2.1 _ _ (by decide))
        obtain ⟨_, q1, H1, rfl, W1, q2, q3⟩ := xc_fm22_1 (L := L) (σ := σ) (d := d) (S := S) (x2 := H0.2.1 38 (8 * s.toInt.toNat + i.toInt.toNat)) (x3 := H0.2.1 39 (8 * s.toInt.toNat + i.toInt.toNat)) WA hS (xSC_v fr (by decide) hC) (by rw [e0]; exact hc) (by rw [e2]; exact he) (hw _ hi8)
        rw [e0, e1] at q3
        have hb := xMk_b (S := S) (d := (H0.2.1 38 (8 * s.toInt.toNat + i.toInt.toNat)).toInt) (t := true) hS (H0.2.1 39 (8 * s.toInt.toNat + i.toInt.toNat)).toInt.toNat (Int32.ofInt 0) (H.2.1 54 0) (H.2.1 54 1) hc
        have fr2 := xFv_t fr (xFr_v q2)
        have k3 : H1.2.1 54 3 = i := (q2.2.2.1 54 3 (fun h9 => by have := h9.2; omega)).trans e3
        have k5 : H1.2.1 54 5 = H.2.1 54 0 := (q2.2.2.1 54 5 (fun h9 => by have := h9.2; omega)).trans e5
        have k6 : H1.2.1 54 6 = H.2.1 54 1 := (q2.2.2.1 54 6 (fun h9 => by have := h9.2; omega)).trans e6
        have ei : (i + Int32.ofInt 1).toInt = i.toInt + 1 := zw_p1 (by omega)
        obtain ⟨r0, r1, r2, r4⟩ := q3
        refine zw_ld (n := 1) (k := 0) (f := zp_isR) (pc' := 64) rfl rfl l0 rfl rfl ?_
        refine zw_ld (n := 1) (k := 1) (f := zp_isR) (pc' := 65) rfl rfl l1 rfl rfl ?_
        refine zw_ld (n := 1) (k := 2) (f := zp_isR) (pc' := 66) rfl rfl l2 rfl rfl ?_
        refine zw_ld (n := 1) (k := 3) (f := zp_isI) (pc' := 67) rfl rfl l3 rfl rfl ?_
        refine zw_ld (n := 2) (k := 5) (f := zp_isI) (pc' := 69) rfl rfl l5 rfl rfl ?_
        refine zw_c (pc' := 72) (zw_cv (q := 33) (Y := zm_26) WA.1 rfl rfl zm_26_t rfl rfl) rfl rfl rfl rfl rfl (yc_wayOf33 WA ⟨by omega, by omega⟩ ⟨by omega, by omega⟩) ?_
        refine zw_ld (n := 1) (k := 2) (f := zp_isR) (pc' := 73) rfl rfl l2 rfl rfl ?_
        refine zw_ld (n := 1) (k := 3) (f := zp_isI) (pc' := 74) rfl rfl l3 rfl rfl ?_
        refine zw_ld (n := 2) (k := 5) (f := zp_isI) (pc' := 76) rfl rfl l5 rfl rfl ?_
        refine zw_c (pc' := 79) (zw_cv (q := 33) (Y := zm_27) WA.1 rfl rfl zm_27_t rfl rfl) rfl rfl rfl rfl rfl (yc_stepsOf33 WA ⟨by omega, by omega⟩ ⟨by omega, by omega⟩) ?_
        refine zw_s (pc' := 80) rfl rfl ?_
        rw [kw, ks]
        refine zw_cn (pc' := 83) (zw_cv (q := 54) (Y := zm_28) WA.1 rfl rfl zm_28_t rfl rfl) rfl rfl rfl rfl rfl (q1) ?_
        refine zw_ii (pc' := 86) rfl l5 rfl rfl ?_
        refine zw_s (pc' := 27) rfl rfl ?_
        by_cases k : (H1.2.1 54 2).toInt = 0
        · refine ih H1 _ (i + Int32.ofInt 1) W1 (xFv_t hF fr2) (xSC_v fr2 (by decide) hC) (by rw [r0]; exact hb.1) k (r4.trans (hb.2 (r2 ▸ k))) (by omega) (by omega) (zw_gt l0 rfl rfl) (zw_gt l1 rfl rfl) (zw_gt l2 rfl rfl) (zw_gt l3 rfl rfl) (zw_gt l4 rfl rfl) zw_g1 (fun H2 w1 w2 w3 => hP H2 w1 (xFv_t fr2 w2) ?_)
          rw [xVy_y (S := S) (wy := (fun j => H0.2.1 38 (8 * s.toInt.toNat + j))) (st := (fun j => H0.2.1 39 (8 * s.toInt.toNat + j))) (n := n) (k := i) rfl (r2 ▸ k)]
          rw [r0, r1] at w3
          exact w3
        · refine xc_foE22 W1 (zw_gt l0 rfl rfl) (zw_gt l1 rfl rfl) (zw_gt l2 rfl rfl) (zw_gt l3 rfl rfl) (zw_gt l4 rfl rfl) zw_g1 k (hP H1 W1 fr2 ?_)
          rw [xVy_n (S := S) (wy := (fun j => H0.2.1 38 (8 * s.toInt.toNat + j))) (st := (fun j => H0.2.1 39 (8 * s.toInt.toNat + j))) (n := n) (k := i) rfl (fun h9 => k (r2 ▸ h9))]
          exact ⟨r0, r1, r2, r4, k3, fun _ => ⟨k5, k6⟩⟩

theorem xc_fo22 {L : Nat} {σ : Nat → Int32} {d : Nat} {H : zp_H} {s : Int32} {S : xSea} (W : zw_W H) (hS : xOk S) (hC : xSC 22 H S) (hs : 0 ≤ s.toInt ∧ s.toInt < 8) (hm : 0 ≤ (H.2.1 36 s.toInt.toNat).toInt ∧ (H.2.1 36 s.toInt.toNat).toInt ≤ 8) (hw : ∀ j, j < (H.2.1 36 s.toInt.toNat).toInt.toNat → -1 ≤ (H.2.1 38 (8 * s.toInt.toNat + j)).toInt ∧ (H.2.1 38 (8 * s.toInt.toNat + j)).toInt ≤ 3) (hc : xIn S (H.2.1 34 s.toInt.toNat).toInt) : ∃ X, zp_Call L σ (d + 5) 24 [.inr (.inr (some 55)), .inr (.inr (some 23)), .inr (.inr (some 34)), .inl s] H X ∧ ∃ H1, X = (.inl none, H1) ∧ zw_W H1 ∧ xFv 54 H H1 ∧ xE7 54 H1 (xVy S (fun j => H.2.1 38 (8 * s.toInt.toNat + j)) (fun j => H.2.1 39 (8 * s.toInt.toNat + j)) (H.2.1 36 s.toInt.toNat).toInt.toNat (Int32.ofInt 0) (H.2.1 34 s.toInt.toNat) (H.2.1 35 s.toInt.toNat)) := by
  refine zw_met zm_24_t rfl rfl ?_
  refine zw_ld (n := 1) (k := 0) (f := zp_isR) (pc' := 1) rfl rfl rfl rfl rfl ?_
  refine zw_ld (n := 1) (k := 2) (f := zp_isR) (pc' := 2) rfl rfl rfl rfl rfl ?_
  refine zw_gR (q := 33) (pc' := 5) W rfl rfl rfl rfl (W.2 33 1 _ rfl) rfl ?_
  refine zw_ld (n := 1) (k := 3) (f := zp_isI) (pc' := 6) rfl rfl rfl rfl rfl ?_
  refine zw_ia (q := 34) (pc' := 7) W rfl rfl (by decide) (⟨hs.1, by show _ < ((8 : Nat) : Int); omega⟩) rfl rfl ?_
  refine zw_ld (n := 1) (k := 2) (f := zp_isR) (pc' := 8) rfl rfl rfl rfl rfl ?_
  refine zw_gR (q := 33) (pc' := 11) W rfl rfl rfl rfl (W.2 33 2 _ rfl) rfl ?_
  refine zw_ld (n := 1) (k := 3) (f := zp_isI) (pc' := 12) rfl rfl rfl rfl rfl ?_
  refine zw_ia (q := 35) (pc' := 13) W rfl rfl (by decide) (⟨hs.1, by show _ < ((8 : Nat) : Int); omega⟩) rfl rfl ?_
  obtain ⟨_, q1, H1, rfl, W1, q2, r0, r1, r2, r3, r4⟩ := xc_begin (L := L) (σ := σ) (d := d + 2) (x1 := H.2.1 34 s.toInt.toNat) (x2 := H.2.1 35 s.toInt.toNat) W
  have km : H1.2.1 36 s.toInt.toNat = H.2.1 36 s.toInt.toNat := q2.2.2.1 _ _ (by decide)
  refine zw_cn (pc' := 16) (zw_cv (q := 54) (Y := zm_25) W.1 rfl rfl zm_25_t rfl rfl) rfl rfl rfl rfl rfl (q1) ?_
  refine zw_ld (n := 1) (k := 2) (f := zp_isR) (pc' := 17) rfl rfl rfl rfl rfl ?_
  refine zw_gR (q := 33) (pc' := 20) W1 rfl rfl rfl rfl (W1.2 33 3 _ rfl) rfl ?_
  refine zw_ld (n := 1) (k := 3) (f := zp_isI) (pc' := 21) rfl rfl rfl rfl rfl ?_
  refine zw_ia (q := 36) (pc' := 22) W1 rfl rfl (by decide) (⟨hs.1, by show _ < ((8 : Nat) : Int); omega⟩) rfl rfl ?_
  refine zw_st (n := 2) (k := 4) (f := zp_isI) (pc' := 24) rfl rfl rfl rfl rfl ?_
  refine zw_s (pc' := 25) rfl rfl ?_
  refine zw_st (n := 2) (k := 5) (f := zp_isI) (pc' := 27) rfl rfl rfl rfl rfl ?_
  rw [km]
  refine xc_foL22 (H0 := H) (s := s) (m := H.2.1 36 s.toInt.toNat) hS hs hm hw (H.2.1 36 s.toInt.toNat).toInt.toNat H1 _ (Int32.ofInt 0) W1 q2 (xSC_v q2 (by decide) hC) (by rw [r0]; exact hc) (by rw [r2]; decide) r4 (by decide) (by rw [show (Int32.ofInt 0).toInt = 0 by decide]; omega) (zw_gt (zw_gt rfl rfl rfl) rfl rfl) (zw_gt (zw_gt rfl rfl rfl) rfl rfl) (zw_gt (zw_gt rfl rfl rfl) rfl rfl) (zw_gt (zw_gt rfl rfl rfl) rfl rfl) (zw_gt zw_g1 rfl rfl) zw_g1 (fun H2 w1 w2 w3 => ⟨H2, rfl, w1, xFv_t q2 w2, ?_⟩)
  rw [r0, r1] at w3
  exact w3
end
section
/-! ===== an hour at sea: the reference ===== -/
def zm_221 : za_MI := (yX12_steps, prog_14_method_59_code, 5, (some FieldType.int), 12, 0, 0, [], za_i221)
theorem zm_221_t : za_MT 221 = some zm_221 := rfl
def zm_222 : za_MI := (yX12_beside, prog_14_method_57_code, 5, (some FieldType.int), 12, 0, 0, [], za_i222)
theorem zm_222_t : za_MT 222 = some zm_222 := rfl
def zm_223 : za_MI := (yX12_isRock, prog_14_method_58_code, 2, (some FieldType.boolean), 12, 0, 0, [], za_i223)
theorem zm_223_t : za_MT 223 = some zm_223 := rfl
theorem zw_div {L : Nat} {σ : Nat → Int32} {P : zp_X → Prop} {M : za_MI} {fs : List zs_F} {d pc pc' : Nat} {lv : zp_LV} {st : List zp_V} {H : zp_H} {c : Nat × Nat} {x y : Int32} (hi : za_fe (za_is M) pc = some .idiv) (hy : y ≠ 0) (hp : pc + 1 = pc') (hS : zs_Safe L σ P M fs d (pc', lv, .inl (x / y) :: st, H, c)) : zs_Safe L σ P M fs d (pc, lv, .inl y :: .inl x :: st, H, c) := by
  refine zs_step (S := (pc, lv, .inl y :: .inl x :: st, H, c)) (S' := (pc', lv, .inl (x / y) :: st, H, c)) hi ?_ hS
  show (if y = 0 then none else zp_go lv (H, c) (pc + 1) (.inl (x / y) :: st)) = _
  rw [if_neg hy, ← hp]
  rfl
/-- the reference's sea -/
def xSR (H : zp_H) (S : xSea) : Prop := (H.2.1 72 1).toInt = S.1 ∧ (H.2.1 72 2).toInt = S.2.1 ∧ H.2.2.1 72 12 = S.2.2.1 ∧ ∀ k, k < 64 → (H.2.1 73 k).toInt = S.2.2.2 k
def xFs (a b : Nat) (H H1 : zp_H) : Prop := H1.1 = H.1 ∧ H1.2.2.2 = H.2.2.2 ∧ (∀ p k, ¬ (p = 72 ∧ a ≤ k ∧ k ≤ b) → H1.2.1 p k = H.2.1 p k) ∧ ∀ p k, ¬ (p = 72 ∧ k = 65) → H1.2.2.1 p k = H.2.2.1 p k
theorem xFs_r {a b : Nat} (H : zp_H) : xFs a b H H := ⟨rfl, rfl, fun _ _ _ => rfl, fun _ _ _ => rfl⟩
theorem xFs_t {a b : Nat} {H H1 H2 : zp_H} (h1 : xFs a b H H1) (h2 : xFs a b H1 H2) : xFs a b H H2 := ⟨h2.1.trans h1.1, h2.2.1.trans h1.2.1, fun p k h => (h2.2.2.1 p k h).trans (h1.2.2.1 p k h), fun p k h => (h2.2.2.2 p k h).trans (h1.2.2.2 p k h)⟩
theorem xFs_m {a b a' b' : Nat} {H H1 : zp_H} (h : xFs a b H H1) (ha : a' ≤ a) (hb : b ≤ b') : xFs a' b' H H1 := ⟨h.1, h.2.1, fun p k hn => h.2.2.1 p k (fun h9 => hn ⟨h9.1, Nat.le_trans ha h9.2.1, Nat.le_trans h9.2.2 hb⟩), h.2.2.2⟩
theorem xFs_I {a b k : Nat} {H H1 : zp_H} {x : Int32} (h : xFs a b H H1) (ha : a ≤ k) (hb : k ≤ b) : xFs a b H (zw_I H1 72 k x) := ⟨h.1, h.2.1, fun p j hn => (y_ne (fun h9 => hn ⟨h9.1, by have := h9.2; omega⟩)).trans (h.2.2.1 p j hn), h.2.2.2⟩
theorem xFs_J {a b : Nat} {H H1 : zp_H} {u : Int64} (h : xFs a b H H1) : xFs a b H (zw_J H1 72 65 u) := ⟨h.1, h.2.1, h.2.2.1, fun p j hn => (zp_u_ne (fun h9 => hn h9)).trans (h.2.2.2 p j hn)⟩
theorem xSR_f {a b : Nat} {H H1 : zp_H} {S : xSea} (h : xFs a b H H1) (ha : 3 ≤ a) (hR : xSR H S) : xSR H1 S := ⟨(congrArg Int32.toInt (h.2.2.1 72 1 (fun h9 => by have := h9.2.1; omega))).trans hR.1, (congrArg Int32.toInt (h.2.2.1 72 2 (fun h9 => by have := h9.2.1; omega))).trans hR.2.1, (h.2.2.2 72 12 (fun h9 => absurd h9.2 (by decide))).trans hR.2.2.1, fun k hk => (congrArg Int32.toInt (h.2.2.1 73 k (fun h9 => absurd h9.1 (by decide)))).trans (hR.2.2.2 k hk)⟩
theorem x_ad {q : Int32} {n : Int} (hn : -1 ≤ n ∧ n ≤ 1) (h0 : 0 ≤ q.toInt) (h1 : q.toInt ≤ 1000) : (q + Int32.ofInt n).toInt = q.toInt + n := by
  have e : (Int32.ofInt n).toInt = n := x_of (by omega) (by omega)
  rw [zq_add (by rw [e]; omega) (by rw [e]; omega), e]
/-- even, as the reference asks it -/
theorem x_od {x : Int32} : ((x - x / Int32.ofInt 2 * Int32.ofInt 2).toInt = 0 ↔ x.toInt % 2 = 0) := by
  have e2 : (Int32.ofInt 2).toInt = 2 := by decide
  have b0 : -2147483648 ≤ x.toInt := Int32.le_toInt x
  have b1 : x.toInt ≤ 2147483647 := Int32.toInt_le x
  have h : ∃ q : Int, x.toInt.tdiv 2 = q ∧ (-1 ≤ x.toInt - 2 * q ∧ x.toInt - 2 * q ≤ 1) ∧ -1073741824 ≤ q ∧ q ≤ 1073741823 := by
    rcases Int.le_total 0 x.toInt with h | h
    · exact ⟨x.toInt / 2, Int.tdiv_eq_ediv_of_nonneg h, by omega, by omega, by omega⟩
    · have h3 : (-(-x.toInt)).tdiv 2 = -((-x.toInt).tdiv 2) := by rw [Int.neg_tdiv]
      rw [Int.neg_neg, Int.tdiv_eq_ediv_of_nonneg (a := -x.toInt) (by omega)] at h3
      exact ⟨-(-x.toInt / 2), h3, by omega, by omega, by omega⟩
  obtain ⟨q, hq, hb, q0, q1⟩ := h
  have d1 : (x / Int32.ofInt 2).toInt = q := by
    rw [Int32.toInt_div, e2, hq]
    exact Int.bmod_eq_of_le (by omega) (by omega)
  have d2 : (x / Int32.ofInt 2 * Int32.ofInt 2).toInt = q * 2 := by
    rw [Int32.toInt_mul, d1, e2]
    exact Int.bmod_eq_of_le (by omega) (by omega)
  have d3 : (x - x / Int32.ofInt 2 * Int32.ofInt 2).toInt = x.toInt - q * 2 := by
    rw [zq_sub (by rw [d2]; omega) (by rw [d2]; omega), d2]
  rw [d3]
  omega
def xBf (w h x y : Int) : Int := if x < 0 ∨ y < 0 ∨ w ≤ x ∨ h ≤ y then -1 else w * y + x
theorem xBe_f {w h c d : Int} : xBe w h c d = xBf w h (c % w + (if d = 1 then 1 else if d = 3 then -1 else 0)) (c / w + (if d = 2 then 1 else if d = 0 then -1 else 0)) := rfl

theorem xr_be54 {L : Nat} {σ : Nat → Int32} {d : Nat} {H : zp_H} {P : zp_X → Prop} {lv : zp_LV} {x y : Int32} {S : xSea} (W : zw_W H) (hS : xOk S) (hR : xSR H S) (l0 : zp_get lv 0 = some (.inr (.inr (some 73)))) (l3 : zp_get lv 3 = some (.inl x)) (l4 : zp_get lv 4 = some (.inl y)) (hx : -1 ≤ x.toInt ∧ x.toInt ≤ 64) (hy : -1 ≤ y.toInt ∧ y.toInt ≤ 64) (hP : P (.inl (some (.inl (Int32.ofInt (xBf S.1 S.2.1 x.toInt y.toInt)))), H)) : zs_Safe L σ P zm_222 [] d (54, lv, [], H, (0, 0)) := by
  have hw := hR.1
  have hh := hR.2.1
  have hS1 := hS.1
  have hS2 := hS.2.1
  refine zw_ld (n := 1) (k := 3) (f := zp_isI) (pc' := 55) rfl rfl l3 rfl rfl ?_
  refine zw_blt1 (g := 80) (pc' := 58) rfl rfl rfl rfl (fun h1 => ?_) (fun h1 => ?_)
  · refine zw_s (pc' := 81) rfl rfl ?_
    refine zw_s (pc' := 93) rfl rfl ?_
    refine zw_ri rfl rfl ?_
    have e : xBf S.1 S.2.1 x.toInt y.toInt = -1 := if_pos (show x.toInt < 0 ∨ y.toInt < 0 ∨ S.1 ≤ x.toInt ∨ S.2.1 ≤ y.toInt by omega)
    rw [e] at hP
    exact hP
  · refine zw_ld (n := 2) (k := 4) (f := zp_isI) (pc' := 60) rfl rfl l4 rfl rfl ?_
    refine zw_blt1 (g := 80) (pc' := 63) rfl rfl rfl rfl (fun h2 => ?_) (fun h2 => ?_)
    · refine zw_s (pc' := 81) rfl rfl ?_
      refine zw_s (pc' := 93) rfl rfl ?_
      refine zw_ri rfl rfl ?_
      have e : xBf S.1 S.2.1 x.toInt y.toInt = -1 := if_pos (show x.toInt < 0 ∨ y.toInt < 0 ∨ S.1 ≤ x.toInt ∨ S.2.1 ≤ y.toInt by omega)
      rw [e] at hP
      exact hP
    · refine zw_ld (n := 1) (k := 3) (f := zp_isI) (pc' := 64) rfl rfl l3 rfl rfl ?_
      refine zw_ld (n := 1) (k := 0) (f := zp_isR) (pc' := 65) rfl rfl l0 rfl rfl ?_
      refine zw_gI (q := 72) (pc' := 68) W rfl rfl rfl rfl rfl rfl ?_
      refine zw_bge2 (g := 80) (pc' := 71) rfl rfl rfl rfl rfl (fun h3 => ?_) (fun h3 => ?_)
      · refine zw_s (pc' := 81) rfl rfl ?_
        refine zw_s (pc' := 93) rfl rfl ?_
        refine zw_ri rfl rfl ?_
        have e : xBf S.1 S.2.1 x.toInt y.toInt = -1 := if_pos (show x.toInt < 0 ∨ y.toInt < 0 ∨ S.1 ≤ x.toInt ∨ S.2.1 ≤ y.toInt by omega)
        rw [e] at hP
        exact hP
      · refine zw_ld (n := 2) (k := 4) (f := zp_isI) (pc' := 73) rfl rfl l4 rfl rfl ?_
        refine zw_ld (n := 1) (k := 0) (f := zp_isR) (pc' := 74) rfl rfl l0 rfl rfl ?_
        refine zw_gI (q := 72) (pc' := 77) W rfl rfl rfl rfl rfl rfl ?_
        refine zw_blt2 (g := 84) (pc' := 80) rfl rfl rfl rfl rfl (fun h4 => ?_) (fun h4 => ?_)
        · refine zw_ld (n := 1) (k := 0) (f := zp_isR) (pc' := 85) rfl rfl l0 rfl rfl ?_
          refine zw_gI (q := 72) (pc' := 88) W rfl rfl rfl rfl rfl rfl ?_
          refine zw_ld (n := 2) (k := 4) (f := zp_isI) (pc' := 90) rfl rfl l4 rfl rfl ?_
          refine zw_imul (pc' := 91) rfl rfl ?_
          refine zw_ld (n := 1) (k := 3) (f := zp_isI) (pc' := 92) rfl rfl l3 rfl rfl ?_
          refine zw_iadd (pc' := 93) rfl rfl ?_
          refine zw_ri rfl rfl ?_
          have m0 : 0 ≤ S.1 * y.toInt := Int.mul_nonneg (by omega) (by omega)
          have m1 : S.1 * y.toInt ≤ 8 * 8 := Int.mul_le_mul (by omega) (by omega) (by omega) (by omega)
          have m2 : (H.2.1 72 1 * y).toInt = S.1 * y.toInt := by
            rw [Int32.toInt_mul, hw]
            exact Int.bmod_eq_of_le (by omega) (by omega)
          have m3 : (H.2.1 72 1 * y + x).toInt = S.1 * y.toInt + x.toInt := by rw [zq_add (by rw [m2]; omega) (by rw [m2]; omega), m2]
          have e : xBf S.1 S.2.1 x.toInt y.toInt = S.1 * y.toInt + x.toInt := if_neg (show ¬ (x.toInt < 0 ∨ y.toInt < 0 ∨ S.1 ≤ x.toInt ∨ S.2.1 ≤ y.toInt) by omega)
          rw [e] at hP
          rw [show H.2.1 72 1 * y + x = Int32.ofInt (S.1 * y.toInt + x.toInt) from Int32.toInt_inj.mp (by rw [x_of (by omega) (by omega), m3])]
          exact hP
        · refine zw_s (pc' := 81) rfl rfl ?_
          refine zw_s (pc' := 93) rfl rfl ?_
          refine zw_ri rfl rfl ?_
          have e : xBf S.1 S.2.1 x.toInt y.toInt = -1 := if_pos (show x.toInt < 0 ∨ y.toInt < 0 ∨ S.1 ≤ x.toInt ∨ S.2.1 ≤ y.toInt by omega)
          rw [e] at hP
          exact hP

theorem xr_be27 {L : Nat} {σ : Nat → Int32} {d : Nat} {H : zp_H} {P : zp_X → Prop} {lv : zp_LV} {x c k : Int32} {S : xSea} (W : zw_W H) (hS : xOk S) (hR : xSR H S) (hc : xIn S c.toInt) (l0 : zp_get lv 0 = some (.inr (.inr (some 73)))) (l1 : zp_get lv 1 = some (.inl c)) (l2 : zp_get lv 2 = some (.inl k)) (l3 : zp_get lv 3 = some (.inl x)) (hx : -1 ≤ x.toInt ∧ x.toInt ≤ 64) (hP : P (.inl (some (.inl (Int32.ofInt (xBf S.1 S.2.1 x.toInt (c.toInt / S.1 + (if k.toInt = 2 then 1 else if k.toInt = 0 then -1 else 0)))))), H)) : zs_Safe L σ P zm_222 [] d (27, lv, [], H, (0, 0)) := by
  have hw := hR.1
  have hS1 := hS.1
  have h8 := xIn_64 hS hc
  have w0 : H.2.1 72 1 ≠ 0 := fun h9 => by
    have : (H.2.1 72 1).toInt = 0 := congrArg Int32.toInt h9
    omega
  have hq : (c / H.2.1 72 1).toInt = c.toInt / S.1 := by rw [x_div h8.1 (by omega), hw]
  have b0 : 0 ≤ c.toInt / S.1 := Int.ediv_nonneg h8.1 (by omega)
  have b1 : c.toInt / S.1 ≤ c.toInt := Int.ediv_le_self _ h8.1
  refine zw_ld (n := 1) (k := 1) (f := zp_isI) (pc' := 28) rfl rfl l1 rfl rfl ?_
  refine zw_ld (n := 1) (k := 0) (f := zp_isR) (pc' := 29) rfl rfl l0 rfl rfl ?_
  refine zw_gI (q := 72) (pc' := 32) W rfl rfl rfl rfl rfl rfl ?_
  refine zw_div (pc' := 33) rfl (w0) rfl ?_
  refine zw_ld (n := 1) (k := 2) (f := zp_isI) (pc' := 34) rfl rfl l2 rfl rfl ?_
  refine zw_s (pc' := 35) rfl rfl ?_
  refine zw_bne2 (g := 42) (pc' := 38) rfl rfl rfl rfl (rfl : _ = (2 : Int)) (fun h1 => ?_) (fun h1 => ?_)
  · refine zw_ld (n := 1) (k := 2) (f := zp_isI) (pc' := 43) rfl rfl l2 rfl rfl ?_
    refine zw_bne1 (g := 50) (pc' := 46) rfl rfl rfl rfl (fun h2 => ?_) (fun h2 => ?_)
    · refine zw_s (pc' := 51) rfl rfl ?_
      refine zw_iadd (pc' := 52) rfl rfl ?_
      refine zw_st (n := 2) (k := 4) (f := zp_isI) (pc' := 54) rfl rfl rfl rfl rfl ?_
      have ey : (c / H.2.1 72 1 + Int32.ofInt 0).toInt = c.toInt / S.1 + 0 := by rw [x_ad ⟨by decide, by decide⟩ (by omega) (by omega), hq]
      have ez : (if k.toInt = 2 then 1 else if k.toInt = 0 then -1 else 0) = 0 := (if_neg h1).trans (if_neg h2)
      rw [ez] at hP
      exact xr_be54 W hS hR (zw_gt l0 rfl rfl) (zw_gt l3 rfl rfl) zw_g1 hx ⟨by omega, by omega⟩ (by rw [ey]; exact hP)
    · refine zw_s (pc' := 47) rfl rfl ?_
      refine zw_s (pc' := 51) rfl rfl ?_
      refine zw_iadd (pc' := 52) rfl rfl ?_
      refine zw_st (n := 2) (k := 4) (f := zp_isI) (pc' := 54) rfl rfl rfl rfl rfl ?_
      have ey : (c / H.2.1 72 1 + Int32.ofInt (-1)).toInt = c.toInt / S.1 + (-1) := by rw [x_ad ⟨by decide, by decide⟩ (by omega) (by omega), hq]
      have ez : (if k.toInt = 2 then 1 else if k.toInt = 0 then -1 else 0) = (-1) := (if_neg h1).trans (if_pos h2)
      rw [ez] at hP
      exact xr_be54 W hS hR (zw_gt l0 rfl rfl) (zw_gt l3 rfl rfl) zw_g1 hx ⟨by omega, by omega⟩ (by rw [ey]; exact hP)
  · refine zw_s (pc' := 39) rfl rfl ?_
    refine zw_s (pc' := 51) rfl rfl ?_
    refine zw_iadd (pc' := 52) rfl rfl ?_
    refine zw_st (n := 2) (k := 4) (f := zp_isI) (pc' := 54) rfl rfl rfl rfl rfl ?_
    have ey : (c / H.2.1 72 1 + Int32.ofInt 1).toInt = c.toInt / S.1 + 1 := by rw [x_ad ⟨by decide, by decide⟩ (by omega) (by omega), hq]
    have ez : (if k.toInt = 2 then 1 else if k.toInt = 0 then -1 else 0) = 1 := if_pos h1
    rw [ez] at hP
    exact xr_be54 W hS hR (zw_gt l0 rfl rfl) (zw_gt l3 rfl rfl) zw_g1 hx ⟨by omega, by omega⟩ (by rw [ey]; exact hP)

theorem xr_be {L : Nat} {σ : Nat → Int32} {d : Nat} {H : zp_H} {c k : Int32} {S : xSea} (W : zw_W H) (hS : xOk S) (hR : xSR H S) (hc : xIn S c.toInt) : zp_Call L σ (d + 1) 222 [.inr (.inr (some 73)), .inl c, .inl k] H (.inl (some (.inl (Int32.ofInt (xBe S.1 S.2.1 c.toInt k.toInt)))), H) := by
  have hw := hR.1
  have hS1 := hS.1
  have h8 := xIn_64 hS hc
  have w0 : H.2.1 72 1 ≠ 0 := fun h9 => by
    have : (H.2.1 72 1).toInt = 0 := congrArg Int32.toInt h9
    omega
  have hq : (c - c / H.2.1 72 1 * H.2.1 72 1).toInt = c.toInt % S.1 := by rw [x_rem h8.1 (by omega), hw]
  have b0 : 0 ≤ c.toInt % S.1 := Int.emod_nonneg _ (by omega)
  have b1 : c.toInt % S.1 < S.1 := Int.emod_lt_of_pos _ (by omega)
  refine zw_ex (zw_met zm_222_t rfl rfl ?_)
  refine zw_ld (n := 1) (k := 1) (f := zp_isI) (pc' := 1) rfl rfl rfl rfl rfl ?_
  refine zw_ld (n := 1) (k := 0) (f := zp_isR) (pc' := 2) rfl rfl rfl rfl rfl ?_
  refine zw_gI (q := 72) (pc' := 5) W rfl rfl rfl rfl rfl rfl ?_
  refine zw_rem (pc' := 6) rfl (w0) rfl ?_
  refine zw_ld (n := 1) (k := 2) (f := zp_isI) (pc' := 7) rfl rfl rfl rfl rfl ?_
  refine zw_s (pc' := 8) rfl rfl ?_
  refine zw_bne2 (g := 15) (pc' := 11) rfl rfl rfl rfl (rfl : _ = (1 : Int)) (fun h1 => ?_) (fun h1 => ?_)
  · refine zw_ld (n := 1) (k := 2) (f := zp_isI) (pc' := 16) rfl rfl rfl rfl rfl ?_
    refine zw_s (pc' := 17) rfl rfl ?_
    refine zw_bne2 (g := 24) (pc' := 20) rfl rfl rfl rfl (rfl : _ = (3 : Int)) (fun h2 => ?_) (fun h2 => ?_)
    · refine zw_s (pc' := 25) rfl rfl ?_
      refine zw_iadd (pc' := 26) rfl rfl ?_
      refine zw_st (n := 1) (k := 3) (f := zp_isI) (pc' := 27) rfl rfl rfl rfl rfl ?_
      have ey : (c - c / H.2.1 72 1 * H.2.1 72 1 + Int32.ofInt 0).toInt = c.toInt % S.1 + 0 := by rw [x_ad ⟨by decide, by decide⟩ (by omega) (by omega), hq]
      have ez : (if k.toInt = 1 then 1 else if k.toInt = 3 then -1 else 0) = 0 := (if_neg h1).trans (if_neg h2)
      exact xr_be27 W hS hR hc (zw_gt rfl rfl rfl) (zw_gt rfl rfl rfl) (zw_gt rfl rfl rfl) zw_g1 ⟨by omega, by omega⟩ (x_rv (congrArg Int32.ofInt (by rw [xBe_f, ez, ey])))
    · refine zw_s (pc' := 21) rfl rfl ?_
      refine zw_s (pc' := 25) rfl rfl ?_
      refine zw_iadd (pc' := 26) rfl rfl ?_
      refine zw_st (n := 1) (k := 3) (f := zp_isI) (pc' := 27) rfl rfl rfl rfl rfl ?_
      have ey : (c - c / H.2.1 72 1 * H.2.1 72 1 + Int32.ofInt (-1)).toInt = c.toInt % S.1 + (-1) := by rw [x_ad ⟨by decide, by decide⟩ (by omega) (by omega), hq]
      have ez : (if k.toInt = 1 then 1 else if k.toInt = 3 then -1 else 0) = (-1) := (if_neg h1).trans (if_pos h2)
      exact xr_be27 W hS hR hc (zw_gt rfl rfl rfl) (zw_gt rfl rfl rfl) (zw_gt rfl rfl rfl) zw_g1 ⟨by omega, by omega⟩ (x_rv (congrArg Int32.ofInt (by rw [xBe_f, ez, ey])))
  · refine zw_s (pc' := 12) rfl rfl ?_
    refine zw_s (pc' := 25) rfl rfl ?_
    refine zw_iadd (pc' := 26) rfl rfl ?_
    refine zw_st (n := 1) (k := 3) (f := zp_isI) (pc' := 27) rfl rfl rfl rfl rfl ?_
    have ey : (c - c / H.2.1 72 1 * H.2.1 72 1 + Int32.ofInt 1).toInt = c.toInt % S.1 + 1 := by rw [x_ad ⟨by decide, by decide⟩ (by omega) (by omega), hq]
    have ez : (if k.toInt = 1 then 1 else if k.toInt = 3 then -1 else 0) = 1 := if_pos h1
    exact xr_be27 W hS hR hc (zw_gt rfl rfl rfl) (zw_gt rfl rfl rfl) (zw_gt rfl rfl rfl) zw_g1 ⟨by omega, by omega⟩ (x_rv (congrArg Int32.ofInt (by rw [xBe_f, ez, ey])))

theorem xr_isr1 {L : Nat} {σ : Nat → Int32} {d : Nat} {H : zp_H} {x : Int32} (W : zw_W H) (hc : 0 ≤ x.toInt ∧ x.toInt ≤ 63) (hb : yTb (H.2.2.1 72 12) x.toInt.toNat = true) : zp_Call L σ (d + 1) 223 [.inr (.inr (some 73)), .inl x] H (.inl (some (.inl (Int32.ofInt 1))), H) := by
  have e := y_shv (r := H.2.2.1 72 12) hc
  rw [if_pos hb] at e
  refine zw_ex (zw_met zm_223_t rfl rfl ?_)
  refine zw_ld (n := 1) (k := 0) (f := zp_isR) (pc' := 1) rfl rfl rfl rfl rfl ?_
  refine zw_gL (q := 72) (pc' := 4) W rfl rfl rfl rfl rfl ?_
  refine zw_ld (n := 1) (k := 1) (f := zp_isI) (pc' := 5) rfl rfl rfl rfl rfl ?_
  refine zw_lshr (pc' := 6) rfl rfl ?_
  refine zw_s (pc' := 7) rfl rfl ?_
  refine zw_land (pc' := 8) rfl rfl ?_
  refine zw_s (pc' := 9) rfl rfl ?_
  refine zw_s (pc' := 10) rfl rfl ?_
  refine zw_bne1 (g := 17) (pc' := 13) rfl rfl rfl rfl (fun h1 => ?_) (fun h1 => ?_)
  · have h1 : (lg_cmp (za_shr0 (H.2.2.1 72 12) x &&& Int64.ofNat 1) (Int64.ofNat 1)).toInt ≠ 0 := h1
    rw [e] at h1
    exact absurd (by decide) h1
  · refine zw_s (pc' := 14) rfl rfl ?_
    refine zw_s (pc' := 18) rfl rfl ?_
    refine zw_rz rfl rfl (by decide) ?_
    rfl

theorem xr_isr0 {L : Nat} {σ : Nat → Int32} {d : Nat} {H : zp_H} {x : Int32} (W : zw_W H) (hc : 0 ≤ x.toInt ∧ x.toInt ≤ 63) (hb : ¬ (yTb (H.2.2.1 72 12) x.toInt.toNat = true)) : zp_Call L σ (d + 1) 223 [.inr (.inr (some 73)), .inl x] H (.inl (some (.inl (Int32.ofInt 0))), H) := by
  have e := y_shv (r := H.2.2.1 72 12) hc
  rw [if_neg hb] at e
  refine zw_ex (zw_met zm_223_t rfl rfl ?_)
  refine zw_ld (n := 1) (k := 0) (f := zp_isR) (pc' := 1) rfl rfl rfl rfl rfl ?_
  refine zw_gL (q := 72) (pc' := 4) W rfl rfl rfl rfl rfl ?_
  refine zw_ld (n := 1) (k := 1) (f := zp_isI) (pc' := 5) rfl rfl rfl rfl rfl ?_
  refine zw_lshr (pc' := 6) rfl rfl ?_
  refine zw_s (pc' := 7) rfl rfl ?_
  refine zw_land (pc' := 8) rfl rfl ?_
  refine zw_s (pc' := 9) rfl rfl ?_
  refine zw_s (pc' := 10) rfl rfl ?_
  refine zw_bne1 (g := 17) (pc' := 13) rfl rfl rfl rfl (fun h1 => ?_) (fun h1 => ?_)
  · refine zw_s (pc' := 18) rfl rfl ?_
    refine zw_rz rfl rfl (by decide) ?_
    rfl
  · have h1 : (lg_cmp (za_shr0 (H.2.2.1 72 12) x &&& Int64.ofNat 1) (Int64.ofNat 1)).toInt = 0 := h1
    rw [e] at h1
    exact absurd h1 (by decide)

theorem xr_s2_1 {L : Nat} {σ : Nat → Int32} {d : Nat} {H : zp_H} {P : zp_X → Prop} {lv : zp_LV} {x2 : Int32} {S : xSea} (W : zw_W H) (hS : xOk S) (hR : xSR H S) (hc : xIn S (H.2.1 72 64).toInt) (l0 : zp_get lv 0 = some (.inr (.inr (some 73)))) (l2 : zp_get lv 2 = some (.inl x2)) (l3 : zp_get lv 3 = some (.inl (Int32.ofInt 1))) (hP : ∀ H1, zw_W H1 → xFs 64 64 H H1 → H1.2.1 72 64 = Int32.ofInt (xS2 S (H.2.1 72 64).toInt x2.toInt true).2 → P (.inl (some (.inl (Int32.ofInt (xS2 S (H.2.1 72 64).toInt x2.toInt true).1))), H1)) : zs_Safe L σ P zm_221 [] (d + 1) (54, lv, [], H, (0, 0)) := by
  have h8 := xIn_64 hS hc
  have hcu : (H.2.1 73 (H.2.1 72 64).toInt.toNat).toInt = S.2.2.2 (H.2.1 72 64).toInt.toNat := hR.2.2.2 _ (by omega)
  have hcb := hS.2.2 (H.2.1 72 64).toInt.toNat
  refine zw_ld (n := 1) (k := 3) (f := zp_isI) (pc' := 55) rfl rfl l3 rfl rfl ?_
  refine zw_beq1 (g := 97) (pc' := 58) rfl rfl rfl (rfl : _ = (1 : Int)) (fun h9 => absurd h9 (by decide)) (fun h0 => ?_)
  refine zw_ld (n := 1) (k := 2) (f := zp_isI) (pc' := 59) rfl rfl l2 rfl rfl ?_
  refine zw_s (pc' := 60) rfl rfl ?_
  refine zw_rem (pc' := 61) rfl (by decide) rfl ?_
  refine zw_bne1 (g := 97) (pc' := 64) rfl rfl rfl rfl (fun h1 => ?_) (fun h1 => ?_)
  · refine zw_s (pc' := 98) rfl rfl ?_
    refine zw_st (n := 2) (k := 4) (f := zp_isI) (pc' := 100) rfl rfl rfl rfl rfl ?_
    refine zw_ld (n := 2) (k := 4) (f := zp_isI) (pc' := 102) rfl rfl zw_g1 rfl rfl ?_
    refine zw_s (pc' := 103) rfl rfl ?_
    refine zw_bne2 (g := 108) (pc' := 106) rfl rfl rfl (rfl : _ = (-1 : Int)) (rfl : _ = (-1 : Int)) (fun h9 => absurd h9 (by decide)) (fun hb => ?_)
    refine zw_s (pc' := 107) rfl rfl ?_
    refine zw_ri rfl rfl ?_
    have es := xS2_n (S := S) (c := (H.2.1 72 64).toInt) (hr := x2.toInt) (t := true) (if_neg (fun h9 => h1 (x_od.mpr h9.2.1)))
    rw [es] at hP
    exact hP H W (xFs_r H) (x_oi _).symm
  · refine zw_ld (n := 1) (k := 0) (f := zp_isR) (pc' := 65) rfl rfl l0 rfl rfl ?_
    refine zw_gR (q := 72) (pc' := 68) W rfl rfl rfl rfl (W.2 72 13 _ rfl) rfl ?_
    refine zw_ld (n := 1) (k := 0) (f := zp_isR) (pc' := 69) rfl rfl l0 rfl rfl ?_
    refine zw_gI (q := 72) (pc' := 72) W rfl rfl rfl rfl rfl rfl ?_
    refine zw_ia (q := 73) (pc' := 73) W rfl rfl (by decide) (⟨h8.1, by show _ < ((64 : Nat) : Int); omega⟩) rfl rfl ?_
    refine zw_s (pc' := 74) rfl rfl ?_
    refine zw_beq2 (g := 97) (pc' := 77) rfl rfl rfl rfl (rfl : _ = (-1 : Int)) (fun h2 => ?_) (fun h2 => ?_)
    · refine zw_s (pc' := 98) rfl rfl ?_
      refine zw_st (n := 2) (k := 4) (f := zp_isI) (pc' := 100) rfl rfl rfl rfl rfl ?_
      refine zw_ld (n := 2) (k := 4) (f := zp_isI) (pc' := 102) rfl rfl zw_g1 rfl rfl ?_
      refine zw_s (pc' := 103) rfl rfl ?_
      refine zw_bne2 (g := 108) (pc' := 106) rfl rfl rfl (rfl : _ = (-1 : Int)) (rfl : _ = (-1 : Int)) (fun h9 => absurd h9 (by decide)) (fun hb => ?_)
      refine zw_s (pc' := 107) rfl rfl ?_
      refine zw_ri rfl rfl ?_
      have es := xS2_n (S := S) (c := (H.2.1 72 64).toInt) (hr := x2.toInt) (t := true) (if_neg (fun h9 => h9.2.2 (hcu.symm.trans h2)))
      rw [es] at hP
      exact hP H W (xFs_r H) (x_oi _).symm
    · refine zw_ld (n := 1) (k := 0) (f := zp_isR) (pc' := 78) rfl rfl l0 rfl rfl ?_
      refine zw_ld (n := 1) (k := 0) (f := zp_isR) (pc' := 79) rfl rfl l0 rfl rfl ?_
      refine zw_gI (q := 72) (pc' := 82) W rfl rfl rfl rfl rfl rfl ?_
      refine zw_ld (n := 1) (k := 0) (f := zp_isR) (pc' := 83) rfl rfl l0 rfl rfl ?_
      refine zw_gR (q := 72) (pc' := 86) W rfl rfl rfl rfl (W.2 72 13 _ rfl) rfl ?_
      refine zw_ld (n := 1) (k := 0) (f := zp_isR) (pc' := 87) rfl rfl l0 rfl rfl ?_
      refine zw_gI (q := 72) (pc' := 90) W rfl rfl rfl rfl rfl rfl ?_
      refine zw_ia (q := 73) (pc' := 91) W rfl rfl (by decide) (⟨h8.1, by show _ < ((64 : Nat) : Int); omega⟩) rfl rfl ?_
      have ed : (xDr S (H.2.1 72 64).toInt x2.toInt true) = xBe S.1 S.2.1 (H.2.1 72 64).toInt (S.2.2.2 (H.2.1 72 64).toInt.toNat) := if_pos ⟨rfl, x_od.mp h1, fun h9 => h2 (hcu.trans h9)⟩
      have qb := xr_be (L := L) (σ := σ) (d := d) (c := H.2.1 72 64) (k := H.2.1 73 (H.2.1 72 64).toInt.toNat) W hS hR hc
      rw [hcu, ← ed] at qb
      have h6 := xDr_64 (c := (H.2.1 72 64).toInt) (hr := x2.toInt) (t := true) hS
      have eo : (Int32.ofInt (xDr S (H.2.1 72 64).toInt x2.toInt true)).toInt = (xDr S (H.2.1 72 64).toInt x2.toInt true) := x_of (by omega) (by omega)
      refine zw_c (pc' := 94) (zw_cv (q := 72) (Y := zm_222) W.1 rfl rfl zm_222_t rfl rfl) rfl rfl rfl rfl rfl (qb) ?_
      refine zw_s (pc' := 98) rfl rfl ?_
      refine zw_st (n := 2) (k := 4) (f := zp_isI) (pc' := 100) rfl rfl rfl rfl rfl ?_
      refine zw_ld (n := 2) (k := 4) (f := zp_isI) (pc' := 102) rfl rfl zw_g1 rfl rfl ?_
      refine zw_s (pc' := 103) rfl rfl ?_
      refine zw_bne2 (g := 108) (pc' := 106) rfl rfl rfl rfl (rfl : _ = (-1 : Int)) (fun h3 => ?_) (fun h3 => ?_)
      · have h3 : ¬ (Int32.ofInt (xDr S (H.2.1 72 64).toInt x2.toInt true)).toInt = -1 := h3
        have h4 : (xDr S (H.2.1 72 64).toInt x2.toInt true) ≠ -1 := by omega
        refine zw_ld (n := 1) (k := 0) (f := zp_isR) (pc' := 109) rfl rfl (zw_gt l0 rfl rfl) rfl rfl ?_
        refine zw_ld (n := 2) (k := 4) (f := zp_isI) (pc' := 111) rfl rfl zw_g1 rfl rfl ?_
        refine zw_pI (q := 72) (pc' := 114) W rfl rfl rfl rfl rfl rfl ?_
        refine zw_ld (n := 1) (k := 0) (f := zp_isR) (pc' := 115) rfl rfl (zw_gt l0 rfl rfl) rfl rfl ?_
        refine zw_ld (n := 2) (k := 4) (f := zp_isI) (pc' := 117) rfl rfl zw_g1 rfl rfl ?_
        by_cases hr : yTb S.2.2.1 (xDr S (H.2.1 72 64).toInt x2.toInt true).toNat = true
        · refine zw_c (pc' := 120) (zw_cv (q := 72) (Y := zm_223) (zw_W_I W).1 rfl rfl zm_223_t rfl rfl) rfl rfl rfl rfl rfl (xr_isr1 (H := zw_I H 72 64 (Int32.ofInt (xDr S (H.2.1 72 64).toInt x2.toInt true))) (zw_W_I W) (by omega) (by rw [eo, show (zw_I H 72 64 (Int32.ofInt (xDr S (H.2.1 72 64).toInt x2.toInt true))).2.2.1 72 12 = S.2.2.1 from hR.2.2.1]; exact hr)) ?_
          refine zw_beq1 (g := 125) (pc' := 123) rfl rfl rfl (rfl : _ = (1 : Int)) (fun h9 => absurd h9 (by decide)) (fun h8 => ?_)
          refine zw_s (pc' := 124) rfl rfl ?_
          refine zw_ri rfl rfl ?_
          have es := xS2_r (S := S) (c := (H.2.1 72 64).toInt) (hr := x2.toInt) (t := true) h4 hr
          rw [es] at hP
          exact hP _ (zw_W_I W) (xFs_I (xFs_r H) (by decide) (by decide)) zw_eq
        · refine zw_c (pc' := 120) (zw_cv (q := 72) (Y := zm_223) (zw_W_I W).1 rfl rfl zm_223_t rfl rfl) rfl rfl rfl rfl rfl (xr_isr0 (H := zw_I H 72 64 (Int32.ofInt (xDr S (H.2.1 72 64).toInt x2.toInt true))) (zw_W_I W) (by omega) (by rw [eo, show (zw_I H 72 64 (Int32.ofInt (xDr S (H.2.1 72 64).toInt x2.toInt true))).2.2.1 72 12 = S.2.2.1 from hR.2.2.1]; exact hr)) ?_
          refine zw_beq1 (g := 125) (pc' := 123) rfl rfl rfl (rfl : _ = (0 : Int)) (fun h8 => ?_) (fun h9 => absurd h9 (by decide))
          refine zw_ld (n := 1) (k := 0) (f := zp_isR) (pc' := 126) rfl rfl (zw_gt l0 rfl rfl) rfl rfl ?_
          refine zw_s (pc' := 127) rfl rfl ?_
          refine zw_gL (q := 72) (pc' := 130) (zw_W_I W) rfl rfl rfl rfl rfl ?_
          refine zw_s (pc' := 131) rfl rfl ?_
          refine zw_ld (n := 2) (k := 4) (f := zp_isI) (pc' := 133) rfl rfl zw_g1 rfl rfl ?_
          refine zw_lshl (pc' := 134) rfl rfl ?_
          refine zw_lor (pc' := 135) rfl rfl ?_
          refine zw_pL (q := 72) (pc' := 138) (zw_W_I W) rfl rfl rfl rfl rfl rfl ?_
          refine zw_s (pc' := 139) rfl rfl ?_
          refine zw_ri rfl rfl ?_
          have es := xS2_f (S := S) (c := (H.2.1 72 64).toInt) (hr := x2.toInt) (t := true) h4 hr
          rw [es] at hP
          exact hP _ (zw_W_J (zw_W_I W)) (xFs_J (xFs_I (xFs_r H) (by decide) (by decide))) (zw_nj zw_eq)
      · have h3 : (Int32.ofInt (xDr S (H.2.1 72 64).toInt x2.toInt true)).toInt = -1 := h3
        have h4 : (xDr S (H.2.1 72 64).toInt x2.toInt true) = -1 := by omega
        refine zw_s (pc' := 107) rfl rfl ?_
        refine zw_ri rfl rfl ?_
        have es := xS2_n (S := S) (c := (H.2.1 72 64).toInt) (hr := x2.toInt) (t := true) h4
        rw [es] at hP
        exact hP H W (xFs_r H) (x_oi _).symm

theorem xr_st1 {L : Nat} {σ : Nat → Int32} {d : Nat} {H : zp_H} {x1 x2 : Int32} {S : xSea} (W : zw_W H) (hS : xOk S) (hR : xSR H S) (hc : xIn S (H.2.1 72 64).toInt) : ∃ X, zp_Call L σ (d + 2) 221 [.inr (.inr (some 73)), .inl x1, .inl x2, .inl (Int32.ofInt 1)] H X ∧ ∃ H1, X = (.inl (some (.inl (Int32.ofInt (xSt S (H.2.1 72 64).toInt x2.toInt x1.toInt true).1))), H1) ∧ zw_W H1 ∧ xFs 64 64 H H1 ∧ H1.2.1 72 64 = Int32.ofInt (xSt S (H.2.1 72 64).toInt x2.toInt x1.toInt true).2 := by
  refine zw_met zm_221_t rfl rfl ?_
  refine zw_ld (n := 1) (k := 1) (f := zp_isI) (pc' := 1) rfl rfl rfl rfl rfl ?_
  refine zw_s (pc' := 2) rfl rfl ?_
  refine zw_beq2 (g := 54) (pc' := 5) rfl rfl rfl rfl (rfl : _ = (-1 : Int)) (fun h1 => ?_) (fun h1 => ?_)
  · have e1 := xS1_n (S := S) (c := (H.2.1 72 64).toInt) h1
    have es : (xSt S (H.2.1 72 64).toInt x2.toInt x1.toInt true) = (xS2 S (H.2.1 72 64).toInt x2.toInt true) := (xSt_0 (congrArg Prod.fst e1)).trans (congrArg (fun z : Int × Int => xS2 S z.2 x2.toInt true) e1)
    refine xr_s2_1 W hS hR hc rfl rfl rfl (fun H1 w1 w2 w3 => ⟨H1, ?_, w1, w2, ?_⟩) <;> rw [es]
    exact w3
  · have h6 := xBe_64 (c := (H.2.1 72 64).toInt) (d := x1.toInt) hS
    have eo : (Int32.ofInt (xBe S.1 S.2.1 (H.2.1 72 64).toInt x1.toInt)).toInt = (xBe S.1 S.2.1 (H.2.1 72 64).toInt x1.toInt) := x_of (by omega) (by omega)
    refine zw_ld (n := 1) (k := 0) (f := zp_isR) (pc' := 6) rfl rfl rfl rfl rfl ?_
    refine zw_ld (n := 1) (k := 0) (f := zp_isR) (pc' := 7) rfl rfl rfl rfl rfl ?_
    refine zw_gI (q := 72) (pc' := 10) W rfl rfl rfl rfl rfl rfl ?_
    refine zw_ld (n := 1) (k := 1) (f := zp_isI) (pc' := 11) rfl rfl rfl rfl rfl ?_
    refine zw_c (pc' := 14) (zw_cv (q := 72) (Y := zm_222) W.1 rfl rfl zm_222_t rfl rfl) rfl rfl rfl rfl rfl (xr_be W hS hR hc) ?_
    refine zw_st (n := 2) (k := 4) (f := zp_isI) (pc' := 16) rfl rfl rfl rfl rfl ?_
    refine zw_ld (n := 2) (k := 4) (f := zp_isI) (pc' := 18) rfl rfl zw_g1 rfl rfl ?_
    refine zw_s (pc' := 19) rfl rfl ?_
    refine zw_bne2 (g := 24) (pc' := 22) rfl rfl rfl rfl (rfl : _ = (-1 : Int)) (fun h3 => ?_) (fun h3 => ?_)
    · have h3 : ¬ (Int32.ofInt (xBe S.1 S.2.1 (H.2.1 72 64).toInt x1.toInt)).toInt = -1 := h3
      have h4 : (xBe S.1 S.2.1 (H.2.1 72 64).toInt x1.toInt) ≠ -1 := by omega
      refine zw_ld (n := 1) (k := 0) (f := zp_isR) (pc' := 25) rfl rfl (zw_gt rfl rfl rfl) rfl rfl ?_
      refine zw_ld (n := 2) (k := 4) (f := zp_isI) (pc' := 27) rfl rfl zw_g1 rfl rfl ?_
      refine zw_pI (q := 72) (pc' := 30) W rfl rfl rfl rfl rfl rfl ?_
      refine zw_ld (n := 1) (k := 0) (f := zp_isR) (pc' := 31) rfl rfl (zw_gt rfl rfl rfl) rfl rfl ?_
      refine zw_ld (n := 2) (k := 4) (f := zp_isI) (pc' := 33) rfl rfl zw_g1 rfl rfl ?_
      by_cases hr : yTb S.2.2.1 (xBe S.1 S.2.1 (H.2.1 72 64).toInt x1.toInt).toNat = true
      · refine zw_c (pc' := 36) (zw_cv (q := 72) (Y := zm_223) (zw_W_I W).1 rfl rfl zm_223_t rfl rfl) rfl rfl rfl rfl rfl (xr_isr1 (H := zw_I H 72 64 (Int32.ofInt (xBe S.1 S.2.1 (H.2.1 72 64).toInt x1.toInt))) (zw_W_I W) (by omega) (by rw [eo, show (zw_I H 72 64 (Int32.ofInt (xBe S.1 S.2.1 (H.2.1 72 64).toInt x1.toInt))).2.2.1 72 12 = S.2.2.1 from hR.2.2.1]; exact hr)) ?_
        refine zw_beq1 (g := 41) (pc' := 39) rfl rfl rfl (rfl : _ = (1 : Int)) (fun h9 => absurd h9 (by decide)) (fun h8 => ?_)
        refine zw_s (pc' := 40) rfl rfl ?_
        refine zw_ri rfl rfl ?_
        have e1 := xS1_r (S := S) h1 h4 hr
        have es : (xSt S (H.2.1 72 64).toInt x2.toInt x1.toInt true) = (1, (xBe S.1 S.2.1 (H.2.1 72 64).toInt x1.toInt)) := (xSt_1 (fun h9 => absurd (show (1 : Int) = 0 from (congrArg Prod.fst e1).symm.trans h9) (by decide))).trans e1
        rw [es]
        exact ⟨_, rfl, zw_W_I W, xFs_I (xFs_r H) (by decide) (by decide), zw_eq⟩
      · refine zw_c (pc' := 36) (zw_cv (q := 72) (Y := zm_223) (zw_W_I W).1 rfl rfl zm_223_t rfl rfl) rfl rfl rfl rfl rfl (xr_isr0 (H := zw_I H 72 64 (Int32.ofInt (xBe S.1 S.2.1 (H.2.1 72 64).toInt x1.toInt))) (zw_W_I W) (by omega) (by rw [eo, show (zw_I H 72 64 (Int32.ofInt (xBe S.1 S.2.1 (H.2.1 72 64).toInt x1.toInt))).2.2.1 72 12 = S.2.2.1 from hR.2.2.1]; exact hr)) ?_
        refine zw_beq1 (g := 41) (pc' := 39) rfl rfl rfl (rfl : _ = (0 : Int)) (fun h8 => ?_) (fun h9 => absurd h9 (by decide))
        refine zw_ld (n := 1) (k := 0) (f := zp_isR) (pc' := 42) rfl rfl (zw_gt rfl rfl rfl) rfl rfl ?_
        refine zw_s (pc' := 43) rfl rfl ?_
        refine zw_gL (q := 72) (pc' := 46) (zw_W_I W) rfl rfl rfl rfl rfl ?_
        refine zw_s (pc' := 47) rfl rfl ?_
        refine zw_ld (n := 2) (k := 4) (f := zp_isI) (pc' := 49) rfl rfl zw_g1 rfl rfl ?_
        refine zw_lshl (pc' := 50) rfl rfl ?_
        refine zw_lor (pc' := 51) rfl rfl ?_
        refine zw_pL (q := 72) (pc' := 54) (zw_W_I W) rfl rfl rfl rfl rfl rfl ?_
        have e1 := xS1_f (S := S) h1 h4 hr
        have es : (xSt S (H.2.1 72 64).toInt x2.toInt x1.toInt true) = xS2 S (xBe S.1 S.2.1 (H.2.1 72 64).toInt x1.toInt) x2.toInt true := (xSt_0 (congrArg Prod.fst e1)).trans (congrArg (fun z : Int × Int => xS2 S z.2 x2.toInt true) e1)
        have k0 : (zw_J (zw_I H 72 64 (Int32.ofInt (xBe S.1 S.2.1 (H.2.1 72 64).toInt x1.toInt))) 72 65 (H.2.2.1 72 65 ||| za_shl0 (Int64.ofNat 1) (Int32.ofInt (xBe S.1 S.2.1 (H.2.1 72 64).toInt x1.toInt)))).2.1 72 64 = Int32.ofInt (xBe S.1 S.2.1 (H.2.1 72 64).toInt x1.toInt) := zw_nj zw_eq
        have fr : xFs 64 64 H (zw_J (zw_I H 72 64 (Int32.ofInt (xBe S.1 S.2.1 (H.2.1 72 64).toInt x1.toInt))) 72 65 (H.2.2.1 72 65 ||| za_shl0 (Int64.ofNat 1) (Int32.ofInt (xBe S.1 S.2.1 (H.2.1 72 64).toInt x1.toInt)))) := xFs_J (xFs_I (xFs_r H) (by decide) (by decide))
        have hi : xIn S (xBe S.1 S.2.1 (H.2.1 72 64).toInt x1.toInt) := (xBe_b hS.1.1).resolve_left h4
        refine xr_s2_1 (S := S) (H := zw_J (zw_I H 72 64 (Int32.ofInt (xBe S.1 S.2.1 (H.2.1 72 64).toInt x1.toInt))) 72 65 (H.2.2.1 72 65 ||| za_shl0 (Int64.ofNat 1) (Int32.ofInt (xBe S.1 S.2.1 (H.2.1 72 64).toInt x1.toInt)))) (zw_W_J (zw_W_I W)) hS (xSR_f fr (by decide) hR) (by rw [k0, eo]; exact hi) (zw_gt rfl rfl rfl) (zw_gt rfl rfl rfl) (zw_gt rfl rfl rfl) (fun H1 w1 w2 w3 => ?_)
        rw [k0, eo] at w3
        rw [k0, eo, es]
        exact ⟨H1, rfl, w1, xFs_t fr w2, w3⟩
    · have h3 : (Int32.ofInt (xBe S.1 S.2.1 (H.2.1 72 64).toInt x1.toInt)).toInt = -1 := h3
      have h4 : (xBe S.1 S.2.1 (H.2.1 72 64).toInt x1.toInt) = -1 := by omega
      refine zw_s (pc' := 23) rfl rfl ?_
      refine zw_ri rfl rfl ?_
      have e1 := xS1_l (S := S) h1 h4
      have es : (xSt S (H.2.1 72 64).toInt x2.toInt x1.toInt true) = (3, (H.2.1 72 64).toInt) := (xSt_1 (fun h9 => absurd (show (3 : Int) = 0 from (congrArg Prod.fst e1).symm.trans h9) (by decide))).trans e1
      rw [es]
      exact ⟨H, rfl, W, xFs_r H, (x_oi _).symm⟩
end
