/-! ===== marks followed, a voyage: the class ===== -/
def zm_24 : za_MI := (yX8_follow, prog_10_method_6_code, 6, none, 8, 0, 0, [], za_i24)
theorem zm_24_t : za_MT 24 = some zm_24 := rfl
def zm_25 : za_MI := (yX8_begin, prog_10_method_2_code, 3, none, 8, 0, 0, [], za_i25)
theorem zm_25_t : za_MT 25 = some zm_25 := rfl
def zm_28 : za_MI := (yX8_followMark, prog_10_method_5_code, 6, none, 8, 0, 0, [], za_i28)
theorem zm_28_t : za_MT 28 = some zm_28 := rfl
/-- a mark followed: cell, hour, end, step -/
def xMk (S : xSea) (d : Int) (t : Bool) : Nat → Int32 → Int32 → Int32 → Int32 × Int32 × Int32 × Int32
  | 0, _, c, h => (c, h, Int32.ofInt 0, Int32.ofInt 0)
  | n + 1, i, c, h => if (xSt S c.toInt h.toInt d t).1 = 0 then xMk S d t n (i + Int32.ofInt 1) (Int32.ofInt (xSt S c.toInt h.toInt d t).2) (h + Int32.ofInt 1) else (Int32.ofInt (xSt S c.toInt h.toInt d t).2, h, Int32.ofInt (xSt S c.toInt h.toInt d t).1, i)
theorem xMk_y {S : xSea} {d : Int} {t : Bool} {n : Nat} {i c h : Int32} (k : (xSt S c.toInt h.toInt d t).1 = 0) : xMk S d t (n + 1) i c h = xMk S d t n (i + Int32.ofInt 1) (Int32.ofInt (xSt S c.toInt h.toInt d t).2) (h + Int32.ofInt 1) := if_pos k
theorem xMk_n {S : xSea} {d : Int} {t : Bool} {n : Nat} {i c h : Int32} (k : ¬ (xSt S c.toInt h.toInt d t).1 = 0) : xMk S d t (n + 1) i c h = (Int32.ofInt (xSt S c.toInt h.toInt d t).2, h, Int32.ofInt (xSt S c.toInt h.toInt d t).1, i) := if_neg k
theorem xSt_o {S : xSea} {c hr d : Int} {t : Bool} (hS : xOk S) (hc : xIn S c) : (Int32.ofInt (xSt S c hr d t).1).toInt = (xSt S c hr d t).1 ∧ (Int32.ofInt (xSt S c hr d t).2).toInt = (xSt S c hr d t).2 := by
  have h := xSt_b (hr := hr) (d := d) (t := t) hS hc
  have h2 := xIn_64 hS h.1
  exact ⟨x_of (by omega) (by omega), x_of (by omega) (by omega)⟩
/-- the ship stays at sea; who isn't over stands at step 0 -/
theorem xMk_b {S : xSea} {d : Int} {t : Bool} (hS : xOk S) : ∀ (n : Nat) (i c h : Int32), xIn S c.toInt → xIn S (xMk S d t n i c h).1.toInt ∧ ((xMk S d t n i c h).2.2.1.toInt = 0 → (xMk S d t n i c h).2.2.2 = Int32.ofInt 0) := by
  intro n
  induction n with
  | zero => exact fun i c h hc => ⟨hc, fun _ => rfl⟩
  | succ n ih =>
    intro i c h hc
    have hb := xSt_b (hr := h.toInt) (d := d) (t := t) hS hc
    have ho := xSt_o (hr := h.toInt) (d := d) (t := t) hS hc
    by_cases k : (xSt S c.toInt h.toInt d t).1 = 0
    · rw [xMk_y k]
      exact ih _ _ _ (by rw [ho.2]; exact hb.1)
    · rw [xMk_n k]
      refine ⟨?_, fun h9 => absurd (ho.1.symm.trans h9) k⟩
      show xIn S (Int32.ofInt (xSt S c.toInt h.toInt d t).2).toInt
      rw [ho.2]
      exact hb.1
/-- a voyage: cell, hour, end, step, mark, where and when the mark began -/
def xVy (S : xSea) (wy st : Nat → Int32) : Nat → Int32 → Int32 → Int32 → Int32 × Int32 × Int32 × Int32 × Int32 × Int32 × Int32
  | 0, k, c, h => (c, h, Int32.ofInt 0, Int32.ofInt 0, k, c, h)
  | n + 1, k, c, h => if (xMk S (wy k.toInt.toNat).toInt true (st k.toInt.toNat).toInt.toNat (Int32.ofInt 0) c h).2.2.1.toInt = 0 then xVy S wy st n (k + Int32.ofInt 1) (xMk S (wy k.toInt.toNat).toInt true (st k.toInt.toNat).toInt.toNat (Int32.ofInt 0) c h).1 (xMk S (wy k.toInt.toNat).toInt true (st k.toInt.toNat).toInt.toNat (Int32.ofInt 0) c h).2.1 else ((xMk S (wy k.toInt.toNat).toInt true (st k.toInt.toNat).toInt.toNat (Int32.ofInt 0) c h).1, (xMk S (wy k.toInt.toNat).toInt true (st k.toInt.toNat).toInt.toNat (Int32.ofInt 0) c h).2.1, (xMk S (wy k.toInt.toNat).toInt true (st k.toInt.toNat).toInt.toNat (Int32.ofInt 0) c h).2.2.1, (xMk S (wy k.toInt.toNat).toInt true (st k.toInt.toNat).toInt.toNat (Int32.ofInt 0) c h).2.2.2, k, c, h)
theorem xVy_y {S : xSea} {wy st : Nat → Int32} {n : Nat} {k c h : Int32} {r : Int32 × Int32 × Int32 × Int32} (hr : xMk S (wy k.toInt.toNat).toInt true (st k.toInt.toNat).toInt.toNat (Int32.ofInt 0) c h = r) (h0 : r.2.2.1.toInt = 0) : xVy S wy st (n + 1) k c h = xVy S wy st n (k + Int32.ofInt 1) r.1 r.2.1 := by
  subst hr
  exact if_pos h0
theorem xVy_n {S : xSea} {wy st : Nat → Int32} {n : Nat} {k c h : Int32} {r : Int32 × Int32 × Int32 × Int32} (hr : xMk S (wy k.toInt.toNat).toInt true (st k.toInt.toNat).toInt.toNat (Int32.ofInt 0) c h = r) (h0 : ¬ r.2.2.1.toInt = 0) : xVy S wy st (n + 1) k c h = (r.1, r.2.1, r.2.2.1, r.2.2.2, k, c, h) := by
  subst hr
  exact if_neg h0
/-- who holds the same ways and steps sails the same voyage -/
theorem xVy_c {S : xSea} {wy st wy' st' : Nat → Int32} {m : Nat} (e : ∀ j, j < m → wy j = wy' j ∧ st j = st' j) : ∀ (n : Nat) (k c h : Int32), 0 ≤ k.toInt → k.toInt + n ≤ m → m ≤ 8 → xVy S wy st n k c h = xVy S wy' st' n k c h := by
  intro n
  induction n with
  | zero => exact fun _ _ _ _ _ _ => rfl
  | succ n ih =>
    intro k c h h0 h1 h2
    have h3 : k.toInt.toNat < m := by omega
    obtain ⟨e1, e2⟩ := e _ h3
    have e3 : (k + Int32.ofInt 1).toInt = k.toInt + 1 := zw_p1 (by omega)
    have hr : xMk S (wy k.toInt.toNat).toInt true (st k.toInt.toNat).toInt.toNat (Int32.ofInt 0) c h = xMk S (wy' k.toInt.toNat).toInt true (st' k.toInt.toNat).toInt.toNat (Int32.ofInt 0) c h := by rw [e1, e2]
    by_cases h4 : (xMk S (wy' k.toInt.toNat).toInt true (st' k.toInt.toNat).toInt.toNat (Int32.ofInt 0) c h).2.2.1.toInt = 0
    · rw [xVy_y hr h4, xVy_y rfl h4]
      exact ih _ _ _ (by omega) (by omega) h2
    · rw [xVy_n hr h4, xVy_n rfl h4]
def xE (q : Nat) (H : zp_H) (r : Int32 × Int32 × Int32 × Int32) : Prop := H.2.1 q 0 = r.1 ∧ H.2.1 q 1 = r.2.1 ∧ H.2.1 q 2 = r.2.2.1 ∧ H.2.1 q 4 = r.2.2.2

theorem xc_fmE2_0 {L : Nat} {σ : Nat → Int32} {d : Nat} {H : zp_H} {P : zp_X → Prop} {lv : zp_LV} {x2 x3 i : Int32} (W : zw_W H) (l0 : zp_get lv 0 = some (.inr (.inr (some 55)))) (l1 : zp_get lv 1 = some (.inr (.inr (some 3)))) (l2 : zp_get lv 2 = some (.inl x2)) (l3 : zp_get lv 3 = some (.inl x3)) (l4 : zp_get lv 4 = some (.inl (Int32.ofInt 0))) (l5 : zp_get lv 5 = some (.inl i)) (he : ¬ (H.2.1 54 2).toInt = 0) (hP : P (.inl none, H)) : zs_Safe L σ P zm_28 [] (d + 3) (3, lv, [], H, (0, 0)) := by
  refine zw_ld (n := 2) (k := 5) (f := zp_isI) (pc' := 5) rfl rfl l5 rfl rfl ?_
  refine zw_ld (n := 1) (k := 3) (f := zp_isI) (pc' := 6) rfl rfl l3 rfl rfl ?_
  refine zw_bge2 (g := 36) (pc' := 9) rfl rfl rfl rfl rfl (fun h1 => ?_) (fun h1 => ?_)
  · refine zw_ld (n := 1) (k := 0) (f := zp_isR) (pc' := 37) rfl rfl l0 rfl rfl ?_
    refine zw_gI (q := 54) (pc' := 40) W rfl rfl rfl rfl rfl rfl ?_
    refine zw_bne1 (g := 48) (pc' := 43) rfl rfl rfl rfl (fun h2 => ?_) (fun h2 => ?_)
    · refine zw_rn rfl rfl ?_
      exact hP
    · exact absurd h2 he
  · refine zw_ld (n := 1) (k := 0) (f := zp_isR) (pc' := 10) rfl rfl l0 rfl rfl ?_
    refine zw_gI (q := 54) (pc' := 13) W rfl rfl rfl rfl rfl rfl ?_
    refine zw_bne1 (g := 36) (pc' := 16) rfl rfl rfl rfl (fun h3 => ?_) (fun h3 => ?_)
    · refine zw_ld (n := 1) (k := 0) (f := zp_isR) (pc' := 37) rfl rfl l0 rfl rfl ?_
      refine zw_gI (q := 54) (pc' := 40) W rfl rfl rfl rfl rfl rfl ?_
      refine zw_bne1 (g := 48) (pc' := 43) rfl rfl rfl rfl (fun h2 => ?_) (fun h2 => ?_)
      · refine zw_rn rfl rfl ?_
        exact hP
      · exact absurd h2 he
    · exact absurd h3 he

theorem xc_fmL2_0 {L : Nat} {σ : Nat → Int32} {d : Nat} {S : xSea} {P : zp_X → Prop} {x2 x3 : Int32} (hS : xOk S) (hd : -1 ≤ x2.toInt ∧ x2.toInt ≤ 3) : ∀ (n : Nat) (H : zp_H) (lv : zp_LV) (i : Int32), zw_W H → xSC 2 H S → xIn S (H.2.1 54 0).toInt → (H.2.1 54 2).toInt = 0 → 0 ≤ i.toInt → i.toInt + n = x3.toInt.toNat → zp_get lv 0 = some (.inr (.inr (some 55))) → zp_get lv 1 = some (.inr (.inr (some 3))) → zp_get lv 2 = some (.inl x2) → zp_get lv 3 = some (.inl x3) → zp_get lv 4 = some (.inl (Int32.ofInt 0)) → zp_get lv 5 = some (.inl i) → (∀ H1, zw_W H1 → xFr 54 H H1 → xE 54 H1 (xMk S x2.toInt false n i (H.2.1 54 0) (H.2.1 54 1)) → P (.inl none, H1)) → zs_Safe L σ P zm_28 [] (d + 3) (3, lv, [], H, (0, 0)) := by
  intro n
  induction n with
  | zero =>
    intro H lv i W hC hc he h5 hn l0 l1 l2 l3 l4 l5 hP
    have he0 : H.2.1 54 2 = Int32.ofInt 0 := Int32.toInt_inj.mp (he.trans (by decide))
    refine zw_ld (n := 2) (k := 5) (f := zp_isI) (pc' := 5) rfl rfl l5 rfl rfl ?_
    refine zw_ld (n := 1) (k := 3) (f := zp_isI) (pc' := 6) rfl rfl l3 rfl rfl ?_
    refine zw_bge2 (g := 36) (pc' := 9) rfl rfl rfl rfl rfl (fun h1 => ?_) (fun h1 => ?_)
    · refine zw_ld (n := 1) (k := 0) (f := zp_isR) (pc' := 37) rfl rfl l0 rfl rfl ?_
      refine zw_gI (q := 54) (pc' := 40) W rfl rfl rfl rfl rfl rfl ?_
      refine zw_bne1 (g := 48) (pc' := 43) rfl rfl rfl rfl (fun h2 => ?_) (fun h2 => ?_)
      · exact absurd he h2
      · refine zw_ld (n := 1) (k := 0) (f := zp_isR) (pc' := 44) rfl rfl l0 rfl rfl ?_
        refine zw_s (pc' := 45) rfl rfl ?_
        refine zw_pI (q := 54) (pc' := 48) W rfl rfl rfl rfl rfl rfl ?_
        refine zw_rn rfl rfl ?_
        exact hP _ (zw_W_I W) (xFr_I (xFr_r H) (by decide)) ⟨zw_ne rfl rfl, zw_ne rfl rfl, (zw_ne rfl rfl).trans he0, zw_eq⟩
    · omega
  | succ n ih =>
    intro H lv i W hC hc he h5 hn l0 l1 l2 l3 l4 l5 hP
    refine zw_ld (n := 2) (k := 5) (f := zp_isI) (pc' := 5) rfl rfl l5 rfl rfl ?_
    refine zw_ld (n := 1) (k := 3) (f := zp_isI) (pc' := 6) rfl rfl l3 rfl rfl ?_
    refine zw_bge2 (g := 36) (pc' := 9) rfl rfl rfl rfl rfl (fun h1 => ?_) (fun h1 => ?_)
    · omega
    · refine zw_ld (n := 1) (k := 0) (f := zp_isR) (pc' := 10) rfl rfl l0 rfl rfl ?_
      refine zw_gI (q := 54) (pc' := 13) W rfl rfl rfl rfl rfl rfl ?_
      refine zw_bne1 (g := 36) (pc' := 16) rfl rfl rfl rfl (fun h2 => ?_) (fun h2 => ?_)
      · exact absurd he h2
      · refine zw_ld (n := 1) (k := 0) (f := zp_isR) (pc' := 17) rfl rfl l0 rfl rfl ?_
        refine zw_ld (n := 2) (k := 5) (f := zp_isI) (pc' := 19) rfl rfl l5 rfl rfl ?_
        refine zw_pI (q := 54) (pc' := 22) W rfl rfl rfl rfl rfl rfl ?_
        have e0 : (zw_I H 54 4 i).2.1 54 0 = H.2.1 54 0 := zw_ne rfl rfl
        have e1 : (zw_I H 54 4 i).2.1 54 1 = H.2.1 54 1 := zw_ne rfl rfl
        have e2 : (zw_I H 54 4 i).2.1 54 2 = H.2.1 54 2 := zw_ne rfl rfl
        have e4 : (zw_I H 54 4 i).2.1 54 4 = i := zw_eq
        have fr : xFr 54 H (zw_I H 54 4 i) := xFr_I (xFr_r H) (by decide)
        obtain ⟨_, q1, H1, rfl, W1, q2, q3, q4, q5, q6⟩ := xc54_sail2_0 (L := L) (σ := σ) (d := d) (S := S) (x2 := x2) (zw_W_I (p := 54) (k := 4) (x := i) W) hS (xSC_f fr (by decide) hC) (by rw [e0]; exact hc) (by rw [e2]; exact he) hd
        rw [e0, e1] at q4 q5 q6
        rw [e4] at q3
        have hb := xSt_b (hr := (H.2.1 54 1).toInt) (d := x2.toInt) (t := false) hS hc
        have ho := xSt_o (hr := (H.2.1 54 1).toInt) (d := x2.toInt) (t := false) hS hc
        have fr2 := xFr_t fr q2
        have ei : (i + Int32.ofInt 1).toInt = i.toInt + 1 := zw_p1 (by have h9 : x3.toInt ≤ 2147483647 := Int32.toInt_le x3; omega)
        refine zw_ld (n := 1) (k := 0) (f := zp_isR) (pc' := 23) rfl rfl l0 rfl rfl ?_
        refine zw_ld (n := 1) (k := 1) (f := zp_isR) (pc' := 24) rfl rfl l1 rfl rfl ?_
        refine zw_ld (n := 1) (k := 2) (f := zp_isI) (pc' := 25) rfl rfl l2 rfl rfl ?_
        refine zw_ld (n := 2) (k := 4) (f := zp_isI) (pc' := 27) rfl rfl l4 rfl rfl ?_
        refine zw_cn (pc' := 30) (zw_cv (q := 54) (Y := zm_29) (zw_W_I W).1 rfl rfl zm_29_t rfl rfl) rfl rfl rfl rfl rfl (q1) ?_
        refine zw_ii (pc' := 33) rfl l5 rfl rfl ?_
        refine zw_s (pc' := 3) rfl rfl ?_
        by_cases k : (xSt S (H.2.1 54 0).toInt (H.2.1 54 1).toInt x2.toInt false).1 = 0
        · refine ih H1 _ (i + Int32.ofInt 1) W1 (xSC_f fr2 (by decide) hC) (by rw [q4, ho.2]; exact hb.1) (by rw [q5, ho.1]; exact k) (by omega) (by omega) (zw_gt l0 rfl rfl) (zw_gt l1 rfl rfl) (zw_gt l2 rfl rfl) (zw_gt l3 rfl rfl) (zw_gt l4 rfl rfl) zw_g1 (fun H2 w1 w2 w3 => hP H2 w1 (xFr_t fr2 w2) ?_)
          rw [xMk_y k]
          rw [q4, q6, if_pos k] at w3
          exact w3
        · refine xc_fmE2_0 W1 (zw_gt l0 rfl rfl) (zw_gt l1 rfl rfl) (zw_gt l2 rfl rfl) (zw_gt l3 rfl rfl) (zw_gt l4 rfl rfl) zw_g1 (by rw [q5, ho.1]; exact k) (hP H1 W1 fr2 ?_)
          rw [xMk_n k]
          exact ⟨q4, q6.trans (if_neg k), q5, q3⟩

theorem xc_fm2_0 {L : Nat} {σ : Nat → Int32} {d : Nat} {H : zp_H} {x2 x3 : Int32} {S : xSea} (W : zw_W H) (hS : xOk S) (hC : xSC 2 H S) (hc : xIn S (H.2.1 54 0).toInt) (he : (H.2.1 54 2).toInt = 0) (hd : -1 ≤ x2.toInt ∧ x2.toInt ≤ 3) : ∃ X, zp_Call L σ (d + 4) 28 [.inr (.inr (some 55)), .inr (.inr (some 3)), .inl x2, .inl x3, .inl (Int32.ofInt 0)] H X ∧ ∃ H1, X = (.inl none, H1) ∧ zw_W H1 ∧ xFr 54 H H1 ∧ xE 54 H1 (xMk S x2.toInt false x3.toInt.toNat (Int32.ofInt 0) (H.2.1 54 0) (H.2.1 54 1)) := by
  refine zw_met zm_28_t rfl rfl ?_
  refine zw_s (pc' := 1) rfl rfl ?_
  refine zw_st (n := 2) (k := 5) (f := zp_isI) (pc' := 3) rfl rfl rfl rfl rfl ?_
  exact xc_fmL2_0 hS hd x3.toInt.toNat H _ (Int32.ofInt 0) W hC hc he (by decide) (by rw [show (Int32.ofInt 0).toInt = 0 by decide]; omega) (zw_gt rfl rfl rfl) (zw_gt rfl rfl rfl) (zw_gt rfl rfl rfl) (zw_gt rfl rfl rfl) (zw_gt rfl rfl rfl) zw_g1 (fun H1 w1 w2 w3 => ⟨H1, rfl, w1, w2, w3⟩)

theorem xc_fmE2_1 {L : Nat} {σ : Nat → Int32} {d : Nat} {H : zp_H} {P : zp_X → Prop} {lv : zp_LV} {x2 x3 i : Int32} (W : zw_W H) (l0 : zp_get lv 0 = some (.inr (.inr (some 55)))) (l1 : zp_get lv 1 = some (.inr (.inr (some 3)))) (l2 : zp_get lv 2 = some (.inl x2)) (l3 : zp_get lv 3 = some (.inl x3)) (l4 : zp_get lv 4 = some (.inl (Int32.ofInt 1))) (l5 : zp_get lv 5 = some (.inl i)) (he : ¬ (H.2.1 54 2).toInt = 0) (hP : P (.inl none, H)) : zs_Safe L σ P zm_28 [] (d + 3) (3, lv, [], H, (0, 0)) := by
  refine zw_ld (n := 2) (k := 5) (f := zp_isI) (pc' := 5) rfl rfl l5 rfl rfl ?_
  refine zw_ld (n := 1) (k := 3) (f := zp_isI) (pc' := 6) rfl rfl l3 rfl rfl ?_
  refine zw_bge2 (g := 36) (pc' := 9) rfl rfl rfl rfl rfl (fun h1 => ?_) (fun h1 => ?_)
  · refine zw_ld (n := 1) (k := 0) (f := zp_isR) (pc' := 37) rfl rfl l0 rfl rfl ?_
    refine zw_gI (q := 54) (pc' := 40) W rfl rfl rfl rfl rfl rfl ?_
    refine zw_bne1 (g := 48) (pc' := 43) rfl rfl rfl rfl (fun h2 => ?_) (fun h2 => ?_)
    · refine zw_rn rfl rfl ?_
      exact hP
    · exact absurd h2 he
  · refine zw_ld (n := 1) (k := 0) (f := zp_isR) (pc' := 10) rfl rfl l0 rfl rfl ?_
    refine zw_gI (q := 54) (pc' := 13) W rfl rfl rfl rfl rfl rfl ?_
    refine zw_bne1 (g := 36) (pc' := 16) rfl rfl rfl rfl (fun h3 => ?_) (fun h3 => ?_)
    · refine zw_ld (n := 1) (k := 0) (f := zp_isR) (pc' := 37) rfl rfl l0 rfl rfl ?_
      refine zw_gI (q := 54) (pc' := 40) W rfl rfl rfl rfl rfl rfl ?_
      refine zw_bne1 (g := 48) (pc' := 43) rfl rfl rfl rfl (fun h2 => ?_) (fun h2 => ?_)
      · refine zw_rn rfl rfl ?_
        exact hP
      · exact absurd h2 he
    · exact absurd h3 he

theorem xc_fmL2_1 {L : Nat} {σ : Nat → Int32} {d : Nat} {S : xSea} {P : zp_X → Prop} {x2 x3 : Int32} (hS : xOk S) (hd : -1 ≤ x2.toInt ∧ x2.toInt ≤ 3) : ∀ (n : Nat) (H : zp_H) (lv : zp_LV) (i : Int32), zw_W H → xSC 2 H S → xIn S (H.2.1 54 0).toInt → (H.2.1 54 2).toInt = 0 → 0 ≤ i.toInt → i.toInt + n = x3.toInt.toNat → zp_get lv 0 = some (.inr (.inr (some 55))) → zp_get lv 1 = some (.inr (.inr (some 3))) → zp_get lv 2 = some (.inl x2) → zp_get lv 3 = some (.inl x3) → zp_get lv 4 = some (.inl (Int32.ofInt 1)) → zp_get lv 5 = some (.inl i) → (∀ H1, zw_W H1 → xFr 54 H H1 → xE 54 H1 (xMk S x2.toInt true n i (H.2.1 54 0) (H.2.1 54 1)) → P (.inl none, H1)) → zs_Safe L σ P zm_28 [] (d + 3) (3, lv, [], H, (0, 0)) := by
  intro n
  induction n with
  | zero =>
    intro H lv i W hC hc he h5 hn l0 l1 l2 l3 l4 l5 hP
    have he0 : H.2.1 54 2 = Int32.ofInt 0 := Int32.toInt_inj.mp (he.trans (by decide))
    refine zw_ld (n := 2) (k := 5) (f := zp_isI) (pc' := 5) rfl rfl l5 rfl rfl ?_
    refine zw_ld (n := 1) (k := 3) (f := zp_isI) (pc' := 6) rfl rfl l3 rfl rfl ?_
    refine zw_bge2 (g := 36) (pc' := 9) rfl rfl rfl rfl rfl (fun h1 => ?_) (fun h1 => ?_)
    · refine zw_ld (n := 1) (k := 0) (f := zp_isR) (pc' := 37) rfl rfl l0 rfl rfl ?_
      refine zw_gI (q := 54) (pc' := 40) W rfl rfl rfl rfl rfl rfl ?_
      refine zw_bne1 (g := 48) (pc' := 43) rfl rfl rfl rfl (fun h2 => ?_) (fun h2 => ?_)
      · exact absurd he h2
      · refine zw_ld (n := 1) (k := 0) (f := zp_isR) (pc' := 44) rfl rfl l0 rfl rfl ?_
        refine zw_s (pc' := 45) rfl rfl ?_
        refine zw_pI (q := 54) (pc' := 48) W rfl rfl rfl rfl rfl rfl ?_
        refine zw_rn rfl rfl ?_
        exact hP _ (zw_W_I W) (xFr_I (xFr_r H) (by decide)) ⟨zw_ne rfl rfl, zw_ne rfl rfl, (zw_ne rfl rfl).trans he0, zw_eq⟩
    · omega
  | succ n ih =>
    intro H lv i W hC hc he h5 hn l0 l1 l2 l3 l4 l5 hP
    refine zw_ld (n := 2) (k := 5) (f := zp_isI) (pc' := 5) rfl rfl l5 rfl rfl ?_
    refine zw_ld (n := 1) (k := 3) (f := zp_isI) (pc' := 6) rfl rfl l3 rfl rfl ?_
    refine zw_bge2 (g := 36) (pc' := 9) rfl rfl rfl rfl rfl (fun h1 => ?_) (fun h1 => ?_)
    · omega
    · refine zw_ld (n := 1) (k := 0) (f := zp_isR) (pc' := 10) rfl rfl l0 rfl rfl ?_
      refine zw_gI (q := 54) (pc' := 13) W rfl rfl rfl rfl rfl rfl ?_
      refine zw_bne1 (g := 36) (pc' := 16) rfl rfl rfl rfl (fun h2 => ?_) (fun h2 => ?_)
      · exact absurd he h2
      · refine zw_ld (n := 1) (k := 0) (f := zp_isR) (pc' := 17) rfl rfl l0 rfl rfl ?_
        refine zw_ld (n := 2) (k := 5) (f := zp_isI) (pc' := 19) rfl rfl l5 rfl rfl ?_
        refine zw_pI (q := 54) (pc' := 22) W rfl rfl rfl rfl rfl rfl ?_
        have e0 : (zw_I H 54 4 i).2.1 54 0 = H.2.1 54 0 := zw_ne rfl rfl
        have e1 : (zw_I H 54 4 i).2.1 54 1 = H.2.1 54 1 := zw_ne rfl rfl
        have e2 : (zw_I H 54 4 i).2.1 54 2 = H.2.1 54 2 := zw_ne rfl rfl
        have e4 : (zw_I H 54 4 i).2.1 54 4 = i := zw_eq
        have fr : xFr 54 H (zw_I H 54 4 i) := xFr_I (xFr_r H) (by decide)
        obtain ⟨_, q1, H1, rfl, W1, q2, q3, q4, q5, q6⟩ := xc54_sail2_1 (L := L) (σ := σ) (d := d) (S := S) (x2 := x2) (zw_W_I (p := 54) (k := 4) (x := i) W) hS (xSC_f fr (by decide) hC) (by rw [e0]; exact hc) (by rw [e2]; exact he) hd
        rw [e0, e1] at q4 q5 q6
        rw [e4] at q3
        have hb := xSt_b (hr := (H.2.1 54 1).toInt) (d := x2.toInt) (t := true) hS hc
        have ho := xSt_o (hr := (H.2.1 54 1).toInt) (d := x2.toInt) (t := true) hS hc
        have fr2 := xFr_t fr q2
        have ei : (i + Int32.ofInt 1).toInt = i.toInt + 1 := zw_p1 (by have h9 : x3.toInt ≤ 2147483647 := Int32.toInt_le x3; omega)
        refine zw_ld (n := 1) (k := 0) (f := zp_isR) (pc' := 23) rfl rfl l0 rfl rfl ?_
        refine zw_ld (n := 1) (k := 1) (f := zp_isR) (pc' := 24) rfl rfl l1 rfl rfl ?_
        refine zw_ld (n := 1) (k := 2) (f := zp_isI) (pc' := 25) rfl rfl l2 rfl rfl ?_
        refine zw_ld (n := 2) (k := 4) (f := zp_isI) (pc' := 27) rfl rfl l4 rfl rfl ?_
        refine zw_cn (pc' := 30) (zw_cv (q := 54) (Y := zm_29) (zw_W_I W).1 rfl rfl zm_29_t rfl rfl) rfl rfl rfl rfl rfl (q1) ?_
        refine zw_ii (pc' := 33) rfl l5 rfl rfl ?_
        refine zw_s (pc' := 3) rfl rfl ?_
        by_cases k : (xSt S (H.2.1 54 0).toInt (H.2.1 54 1).toInt x2.toInt true).1 = 0
        · refine ih H1 _ (i + Int32.ofInt 1) W1 (xSC_f fr2 (by decide) hC) (by rw [q4, ho.2]; exact hb.1) (by rw [q5, ho.1]; exact k) (by omega) (by omega) (zw_gt l0 rfl rfl) (zw_gt l1 rfl rfl) (zw_gt l2 rfl rfl) (zw_gt l3 rfl rfl) (zw_gt l4 rfl rfl) zw_g1 (fun H2 w1 w2 w3 => hP H2 w1 (xFr_t fr2 w2) ?_)
          rw [xMk_y k]
          rw [q4, q6, if_pos k] at w3
          exact w3
        · refine xc_fmE2_1 W1 (zw_gt l0 rfl rfl) (zw_gt l1 rfl rfl) (zw_gt l2 rfl rfl) (zw_gt l3 rfl rfl) (zw_gt l4 rfl rfl) zw_g1 (by rw [q5, ho.1]; exact k) (hP H1 W1 fr2 ?_)
          rw [xMk_n k]
          exact ⟨q4, q6.trans (if_neg k), q5, q3⟩

theorem xc_fm2_1 {L : Nat} {σ : Nat → Int32} {d : Nat} {H : zp_H} {x2 x3 : Int32} {S : xSea} (W : zw_W H) (hS : xOk S) (hC : xSC 2 H S) (hc : xIn S (H.2.1 54 0).toInt) (he : (H.2.1 54 2).toInt = 0) (hd : -1 ≤ x2.toInt ∧ x2.toInt ≤ 3) : ∃ X, zp_Call L σ (d + 4) 28 [.inr (.inr (some 55)), .inr (.inr (some 3)), .inl x2, .inl x3, .inl (Int32.ofInt 1)] H X ∧ ∃ H1, X = (.inl none, H1) ∧ zw_W H1 ∧ xFr 54 H H1 ∧ xE 54 H1 (xMk S x2.toInt true x3.toInt.toNat (Int32.ofInt 0) (H.2.1 54 0) (H.2.1 54 1)) := by
  refine zw_met zm_28_t rfl rfl ?_
  refine zw_s (pc' := 1) rfl rfl ?_
  refine zw_st (n := 2) (k := 5) (f := zp_isI) (pc' := 3) rfl rfl rfl rfl rfl ?_
  exact xc_fmL2_1 hS hd x3.toInt.toNat H _ (Int32.ofInt 0) W hC hc he (by decide) (by rw [show (Int32.ofInt 0).toInt = 0 by decide]; omega) (zw_gt rfl rfl rfl) (zw_gt rfl rfl rfl) (zw_gt rfl rfl rfl) (zw_gt rfl rfl rfl) (zw_gt rfl rfl rfl) zw_g1 (fun H1 w1 w2 w3 => ⟨H1, rfl, w1, w2, w3⟩)

theorem xc_fmE22_0 {L : Nat} {σ : Nat → Int32} {d : Nat} {H : zp_H} {P : zp_X → Prop} {lv : zp_LV} {x2 x3 i : Int32} (W : zw_W H) (l0 : zp_get lv 0 = some (.inr (.inr (some 55)))) (l1 : zp_get lv 1 = some (.inr (.inr (some 23)))) (l2 : zp_get lv 2 = some (.inl x2)) (l3 : zp_get lv 3 = some (.inl x3)) (l4 : zp_get lv 4 = some (.inl (Int32.ofInt 0))) (l5 : zp_get lv 5 = some (.inl i)) (he : ¬ (H.2.1 54 2).toInt = 0) (hP : P (.inl none, H)) : zs_Safe L σ P zm_28 [] (d + 3) (3, lv, [], H, (0, 0)) := by
  refine zw_ld (n := 2) (k := 5) (f := zp_isI) (pc' := 5) rfl rfl l5 rfl rfl ?_
  refine zw_ld (n := 1) (k := 3) (f := zp_isI) (pc' := 6) rfl rfl l3 rfl rfl ?_
  refine zw_bge2 (g := 36) (pc' := 9) rfl rfl rfl rfl rfl (fun h1 => ?_) (fun h1 => ?_)
  · refine zw_ld (n := 1) (k := 0) (f := zp_isR) (pc' := 37) rfl rfl l0 rfl rfl ?_
    refine zw_gI (q := 54) (pc' := 40) W rfl rfl rfl rfl rfl rfl ?_
    refine zw_bne1 (g := 48) (pc' := 43) rfl rfl rfl rfl (fun h2 => ?_) (fun h2 => ?_)
    · refine zw_rn rfl rfl ?_
      exact hP
    · exact absurd h2 he
  · refine zw_ld (n := 1) (k := 0) (f := zp_isR) (pc' := 10) rfl rfl l0 rfl rfl ?_
    refine zw_gI (q := 54) (pc' := 13) W rfl rfl rfl rfl rfl rfl ?_
    refine zw_bne1 (g := 36) (pc' := 16) rfl rfl rfl rfl (fun h3 => ?_) (fun h3 => ?_)
    · refine zw_ld (n := 1) (k := 0) (f := zp_isR) (pc' := 37) rfl rfl l0 rfl rfl ?_
      refine zw_gI (q := 54) (pc' := 40) W rfl rfl rfl rfl rfl rfl ?_
      refine zw_bne1 (g := 48) (pc' := 43) rfl rfl rfl rfl (fun h2 => ?_) (fun h2 => ?_)
      · refine zw_rn rfl rfl ?_
        exact hP
      · exact absurd h2 he
    · exact absurd h3 he

theorem xc_fmL22_0 {L : Nat} {σ : Nat → Int32} {d : Nat} {S : xSea} {P : zp_X → Prop} {x2 x3 : Int32} (hS : xOk S) (hd : -1 ≤ x2.toInt ∧ x2.toInt ≤ 3) : ∀ (n : Nat) (H : zp_H) (lv : zp_LV) (i : Int32), zw_W H → xSC 22 H S → xIn S (H.2.1 54 0).toInt → (H.2.1 54 2).toInt = 0 → 0 ≤ i.toInt → i.toInt + n = x3.toInt.toNat → zp_get lv 0 = some (.inr (.inr (some 55))) → zp_get lv 1 = some (.inr (.inr (some 23))) → zp_get lv 2 = some (.inl x2) → zp_get lv 3 = some (.inl x3) → zp_get lv 4 = some (.inl (Int32.ofInt 0)) → zp_get lv 5 = some (.inl i) → (∀ H1, zw_W H1 → xFr 54 H H1 → xE 54 H1 (xMk S x2.toInt false n i (H.2.1 54 0) (H.2.1 54 1)) → P (.inl none, H1)) → zs_Safe L σ P zm_28 [] (d + 3) (3, lv, [], H, (0, 0)) := by
  intro n
  induction n with
  | zero =>
    intro H lv i W hC hc he h5 hn l0 l1 l2 l3 l4 l5 hP
    have he0 : H.2.1 54 2 = Int32.ofInt 0 := Int32.toInt_inj.mp (he.trans (by decide))
    refine zw_ld (n := 2) (k := 5) (f := zp_isI) (pc' := 5) rfl rfl l5 rfl rfl ?_
    refine zw_ld (n := 1) (k := 3) (f := zp_isI) (pc' := 6) rfl rfl l3 rfl rfl ?_
    refine zw_bge2 (g := 36) (pc' := 9) rfl rfl rfl rfl rfl (fun h1 => ?_) (fun h1 => ?_)
    · refine zw_ld (n := 1) (k := 0) (f := zp_isR) (pc' := 37) rfl rfl l0 rfl rfl ?_
      refine zw_gI (q := 54) (pc' := 40) W rfl rfl rfl rfl rfl rfl ?_
      refine zw_bne1 (g := 48) (pc' := 43) rfl rfl rfl rfl (fun h2 => ?_) (fun h2 => ?_)
      · exact absurd he h2
      · refine zw_ld (n := 1) (k := 0) (f := zp_isR) (pc' := 44) rfl rfl l0 rfl rfl ?_
        refine zw_s (pc' := 45) rfl rfl ?_
        refine zw_pI (q := 54) (pc' := 48) W rfl rfl rfl rfl rfl rfl ?_
        refine zw_rn rfl rfl ?_
        exact hP _ (zw_W_I W) (xFr_I (xFr_r H) (by decide)) ⟨zw_ne rfl rfl, zw_ne rfl rfl, (zw_ne rfl rfl).trans he0, zw_eq⟩
    · omega
  | succ n ih =>
    intro H lv i W hC hc he h5 hn l0 l1 l2 l3 l4 l5 hP
    refine zw_ld (n := 2) (k := 5) (f := zp_isI) (pc' := 5) rfl rfl l5 rfl rfl ?_
    refine zw_ld (n := 1) (k := 3) (f := zp_isI) (pc' := 6) rfl rfl l3 rfl rfl ?_
    refine zw_bge2 (g := 36) (pc' := 9) rfl rfl rfl rfl rfl (fun h1 => ?_) (fun h1 => ?_)
    · omega
    · refine zw_ld (n := 1) (k := 0) (f := zp_isR) (pc' := 10) rfl rfl l0 rfl rfl ?_
      refine zw_gI (q := 54) (pc' := 13) W rfl rfl rfl rfl rfl rfl ?_
      refine zw_bne1 (g := 36) (pc' := 16) rfl rfl rfl rfl (fun h2 => ?_) (fun h2 => ?_)
      · exact absurd he h2
      · refine zw_ld (n := 1) (k := 0) (f := zp_isR) (pc' := 17) rfl rfl l0 rfl rfl ?_
        refine zw_ld (n := 2) (k := 5) (f := zp_isI) (pc' := 19) rfl rfl l5 rfl rfl ?_
        refine zw_pI (q := 54) (pc' := 22) W rfl rfl rfl rfl rfl rfl ?_
        have e0 : (zw_I H 54 4 i).2.1 54 0 = H.2.1 54 0 := zw_ne rfl rfl
        have e1 : (zw_I H 54 4 i).2.1 54 1 = H.2.1 54 1 := zw_ne rfl rfl
        have e2 : (zw_I H 54 4 i).2.1 54 2 = H.2.1 54 2 := zw_ne rfl rfl
        have e4 : (zw_I H 54 4 i).2.1 54 4 = i := zw_eq
        have fr : xFr 54 H (zw_I H 54 4 i) := xFr_I (xFr_r H) (by decide)
        obtain ⟨_, q1, H1, rfl, W1, q2, q3, q4, q5, q6⟩ := xc54_sail22_0 (L := L) (σ := σ) (d := d) (S := S) (x2 := x2) (zw_W_I (p := 54) (k := 4) (x := i) W) hS (xSC_f fr (by decide) hC) (by rw [e0]; exact hc) (by rw [e2]; exact he) hd
        rw [e0, e1] at q4 q5 q6
        rw [e4] at q3
        have hb := xSt_b (hr := (H.2.1 54 1).toInt) (d := x2.toInt) (t := false) hS hc
        have ho := xSt_o (hr := (H.2.1 54 1).toInt) (d := x2.toInt) (t := false) hS hc
        have fr2 := xFr_t fr q2
        have ei : (i + Int32.ofInt 1).toInt = i.toInt + 1 := zw_p1 (by have h9 : x3.toInt ≤ 2147483647 := Int32.toInt_le x3; omega)
        refine zw_ld (n := 1) (k := 0) (f := zp_isR) (pc' := 23) rfl rfl l0 rfl rfl ?_
        refine zw_ld (n := 1) (k := 1) (f := zp_isR) (pc' := 24) rfl rfl l1 rfl rfl ?_
        refine zw_ld (n := 1) (k := 2) (f := zp_isI) (pc' := 25) rfl rfl l2 rfl rfl ?_
        refine zw_ld (n := 2) (k := 4) (f := zp_isI) (pc' := 27) rfl rfl l4 rfl rfl ?_
        refine zw_cn (pc' := 30) (zw_cv (q := 54) (Y := zm_29) (zw_W_I W).1 rfl rfl zm_29_t rfl rfl) rfl rfl rfl rfl rfl (q1) ?_
        refine zw_ii (pc' := 33) rfl l5 rfl rfl ?_
        refine zw_s (pc' := 3) rfl rfl ?_
        by_cases k : (xSt S (H.2.1 54 0).toInt (H.2.1 54 1).toInt x2.toInt false).1 = 0
        · refine ih H1 _ (i + Int32.ofInt 1) W1 (xSC_f fr2 (by decide) hC) (by rw [q4, ho.2]; exact hb.1) (by rw [q5, ho.1]; exact k) (by omega) (by omega) (zw_gt l0 rfl rfl) (zw_gt l1 rfl rfl) (zw_gt l2 rfl rfl) (zw_gt l3 rfl rfl) (zw_gt l4 rfl rfl) zw_g1 (fun H2 w1 w2 w3 => hP H2 w1 (xFr_t fr2 w2) ?_)
          rw [xMk_y k]
          rw [q4, q6, if_pos k] at w3
          exact w3
        · refine xc_fmE22_0 W1 (zw_gt l0 rfl rfl) (zw_gt l1 rfl rfl) (zw_gt l2 rfl rfl) (zw_gt l3 rfl rfl) (zw_gt l4 rfl rfl) zw_g1 (by rw [q5, ho.1]; exact k) (hP H1 W1 fr2 ?_)
          rw [xMk_n k]
          exact ⟨q4, q6.trans (if_neg k), q5, q3⟩

theorem xc_fm22_0 {L : Nat} {σ : Nat → Int32} {d : Nat} {H : zp_H} {x2 x3 : Int32} {S : xSea} (W : zw_W H) (hS : xOk S) (hC : xSC 22 H S) (hc : xIn S (H.2.1 54 0).toInt) (he : (H.2.1 54 2).toInt = 0) (hd : -1 ≤ x2.toInt ∧ x2.toInt ≤ 3) : ∃ X, zp_Call L σ (d + 4) 28 [.inr (.inr (some 55)), .inr (.inr (some 23)), .inl x2, .inl x3, .inl (Int32.ofInt 0)] H X ∧ ∃ H1, X = (.inl none, H1) ∧ zw_W H1 ∧ xFr 54 H H1 ∧ xE 54 H1 (xMk S x2.toInt false x3.toInt.toNat (Int32.ofInt 0) (H.2.1 54 0) (H.2.1 54 1)) := by
  refine zw_met zm_28_t rfl rfl ?_
  refine zw_s (pc' := 1) rfl rfl ?_
  refine zw_st (n := 2) (k := 5) (f := zp_isI) (pc' := 3) rfl rfl rfl rfl rfl ?_
  exact xc_fmL22_0 hS hd x3.toInt.toNat H _ (Int32.ofInt 0) W hC hc he (by decide) (by rw [show (Int32.ofInt 0).toInt = 0 by decide]; omega) (zw_gt rfl rfl rfl) (zw_gt rfl rfl rfl) (zw_gt rfl rfl rfl) (zw_gt rfl rfl rfl) (zw_gt rfl rfl rfl) zw_g1 (fun H1 w1 w2 w3 => ⟨H1, rfl, w1, w2, w3⟩)

theorem xc_fmE22_1 {L : Nat} {σ : Nat → Int32} {d : Nat} {H : zp_H} {P : zp_X → Prop} {lv : zp_LV} {x2 x3 i : Int32} (W : zw_W H) (l0 : zp_get lv 0 = some (.inr (.inr (some 55)))) (l1 : zp_get lv 1 = some (.inr (.inr (some 23)))) (l2 : zp_get lv 2 = some (.inl x2)) (l3 : zp_get lv 3 = some (.inl x3)) (l4 : zp_get lv 4 = some (.inl (Int32.ofInt 1))) (l5 : zp_get lv 5 = some (.inl i)) (he : ¬ (H.2.1 54 2).toInt = 0) (hP : P (.inl none, H)) : zs_Safe L σ P zm_28 [] (d + 3) (3, lv, [], H, (0, 0)) := by
  refine zw_ld (n := 2) (k := 5) (f := zp_isI) (pc' := 5) rfl rfl l5 rfl rfl ?_
  refine zw_ld (n := 1) (k := 3) (f := zp_isI) (pc' := 6) rfl rfl l3 rfl rfl ?_
  refine zw_bge2 (g := 36) (pc' := 9) rfl rfl rfl rfl rfl (fun h1 => ?_) (fun h1 => ?_)
  · refine zw_ld (n := 1) (k := 0) (f := zp_isR) (pc' := 37) rfl rfl l0 rfl rfl ?_
    refine zw_gI (q := 54) (pc' := 40) W rfl rfl rfl rfl rfl rfl ?_
    refine zw_bne1 (g := 48) (pc' := 43) rfl rfl rfl rfl (fun h2 => ?_) (fun h2 => ?_)
    · refine zw_rn rfl rfl ?_
      exact hP
    · exact absurd h2 he
  · refine zw_ld (n := 1) (k := 0) (f := zp_isR) (pc' := 10) rfl rfl l0 rfl rfl ?_
    refine zw_gI (q := 54) (pc' := 13) W rfl rfl rfl rfl rfl rfl ?_
    refine zw_bne1 (g := 36) (pc' := 16) rfl rfl rfl rfl (fun h3 => ?_) (fun h3 => ?_)
    · refine zw_ld (n := 1) (k := 0) (f := zp_isR) (pc' := 37) rfl rfl l0 rfl rfl ?_
      refine zw_gI (q := 54) (pc' := 40) W rfl rfl rfl rfl rfl rfl ?_
      refine zw_bne1 (g := 48) (pc' := 43) rfl rfl rfl rfl (fun h2 => ?_) (fun h2 => ?_)
      · refine zw_rn rfl rfl ?_
        exact hP
      · exact absurd h2 he
    · exact absurd h3 he

theorem xc_fmL22_1 {L : Nat} {σ : Nat → Int32} {d : Nat} {S : xSea} {P : zp_X → Prop} {x2 x3 : Int32} (hS : xOk S) (hd : -1 ≤ x2.toInt ∧ x2.toInt ≤ 3) : ∀ (n : Nat) (H : zp_H) (lv : zp_LV) (i : Int32), zw_W H → xSC 22 H S → xIn S (H.2.1 54 0).toInt → (H.2.1 54 2).toInt = 0 → 0 ≤ i.toInt → i.toInt + n = x3.toInt.toNat → zp_get lv 0 = some (.inr (.inr (some 55))) → zp_get lv 1 = some (.inr (.inr (some 23))) → zp_get lv 2 = some (.inl x2) → zp_get lv 3 = some (.inl x3) → zp_get lv 4 = some (.inl (Int32.ofInt 1)) → zp_get lv 5 = some (.inl i) → (∀ H1, zw_W H1 → xFr 54 H H1 → xE 54 H1 (xMk S x2.toInt true n i (H.2.1 54 0) (H.2.1 54 1)) → P (.inl none, H1)) → zs_Safe L σ P zm_28 [] (d + 3) (3, lv, [], H, (0, 0)) := by
  intro n
  induction n with
  | zero =>
    intro H lv i W hC hc he h5 hn l0 l1 l2 l3 l4 l5 hP
    have he0 : H.2.1 54 2 = Int32.ofInt 0 := Int32.toInt_inj.mp (he.trans (by decide))
    refine zw_ld (n := 2) (k := 5) (f := zp_isI) (pc' := 5) rfl rfl l5 rfl rfl ?_
    refine zw_ld (n := 1) (k := 3) (f := zp_isI) (pc' := 6) rfl rfl l3 rfl rfl ?_
    refine zw_bge2 (g := 36) (pc' := 9) rfl rfl rfl rfl rfl (fun h1 => ?_) (fun h1 => ?_)
    · refine zw_ld (n := 1) (k := 0) (f := zp_isR) (pc' := 37) rfl rfl l0 rfl rfl ?_
      refine zw_gI (q := 54) (pc' := 40) W rfl rfl rfl rfl rfl rfl ?_
      refine zw_bne1 (g := 48) (pc' := 43) rfl rfl rfl rfl (fun h2 => ?_) (fun h2 => ?_)
      · exact absurd he h2
      · refine zw_ld (n := 1) (k := 0) (f := zp_isR) (pc' := 44) rfl rfl l0 rfl rfl ?_
        refine zw_s (pc' := 45) rfl rfl ?_
        refine zw_pI (q := 54) (pc' := 48) W rfl rfl rfl rfl rfl rfl ?_
        refine zw_rn rfl rfl ?_
        exact hP _ (zw_W_I W) (xFr_I (xFr_r H) (by decide)) ⟨zw_ne rfl rfl, zw_ne rfl rfl, (zw_ne rfl rfl).trans he0, zw_eq⟩
    · omega
  | succ n ih =>
    intro H lv i W hC hc he h5 hn l0 l1 l2 l3 l4 l5 hP
    refine zw_ld (n := 2) (k := 5) (f := zp_isI) (pc' := 5) rfl rfl l5 rfl rfl ?_
    refine zw_ld (n := 1) (k := 3) (f := zp_isI) (pc' := 6) rfl rfl l3 rfl rfl ?_
    refine zw_bge2 (g := 36) (pc' := 9) rfl rfl rfl rfl rfl (fun h1 => ?_) (fun h1 => ?_)
    · omega
    · refine zw_ld (n := 1) (k := 0) (f := zp_isR) (pc' := 10) rfl rfl l0 rfl rfl ?_
      refine zw_gI (q := 54) (pc' := 13) W rfl rfl rfl rfl rfl rfl ?_
      refine zw_bne1 (g := 36) (pc' := 16) rfl rfl rfl rfl (fun h2 => ?_) (fun h2 => ?_)
      · exact absurd he h2
      · refine zw_ld (n := 1) (k := 0) (f := zp_isR) (pc' := 17) rfl rfl l0 rfl rfl ?_
        refine zw_ld (n := 2) (k := 5) (f := zp_isI) (pc' := 19) rfl rfl l5 rfl rfl ?_
        refine zw_pI (q := 54) (pc' := 22) W rfl rfl rfl rfl rfl rfl ?_
        have e0 : (zw_I H 54 4 i).2.1 54 0 = H.2.1 54 0 := zw_ne rfl rfl
        have e1 : (zw_I H 54 4 i).2.1 54 1 = H.2.1 54 1 := zw_ne rfl rfl
        have e2 : (zw_I H 54 4 i).2.1 54 2 = H.2.1 54 2 := zw_ne rfl rfl
        have e4 : (zw_I H 54 4 i).2.1 54 4 = i := zw_eq
        have fr : xFr 54 H (zw_I H 54 4 i) := xFr_I (xFr_r H) (by decide)
        obtain ⟨_, q1, H1, rfl, W1, q2, q3, q4, q5, q6⟩ := xc54_sail22_1 (L := L) (σ := σ) (d := d) (S := S) (x2 := x2) (zw_W_I (p := 54) (k := 4) (x := i) W) hS (xSC_f fr (by decide) hC) (by rw [e0]; exact hc) (by rw [e2]; exact he) hd
        rw [e0, e1] at q4 q5 q6
        rw [e4] at q3
        have hb := xSt_b (hr := (H.2.1 54 1).toInt) (d := x2.toInt) (t := true) hS hc
        have ho := xSt_o (hr := (H.2.1 54 1).toInt) (d := x2.toInt) (t := true) hS hc
        have fr2 := xFr_t fr q2
        have ei : (i + Int32.ofInt 1).toInt = i.toInt + 1 := zw_p1 (by have h9 : x3.toInt ≤ 2147483647 := Int32.toInt_le x3; omega)
        refine zw_ld (n := 1) (k := 0) (f := zp_isR) (pc' := 23) rfl rfl l0 rfl rfl ?_
        refine zw_ld (n := 1) (k := 1) (f := zp_isR) (pc' := 24) rfl rfl l1 rfl rfl ?_
        refine zw_ld (n := 1) (k := 2) (f := zp_isI) (pc' := 25) rfl rfl l2 rfl rfl ?_
        refine zw_ld (n := 2) (k := 4) (f := zp_isI) (pc' := 27) rfl rfl l4 rfl rfl ?_
        refine zw_cn (pc' := 30) (zw_cv (q := 54) (Y := zm_29) (zw_W_I W).1 rfl rfl zm_29_t rfl rfl) rfl rfl rfl rfl rfl (q1) ?_
        refine zw_ii (pc' := 33) rfl l5 rfl rfl ?_
        refine zw_s (pc' := 3) rfl rfl ?_
        by_cases k : (xSt S (H.2.1 54 0).toInt (H.2.1 54 1).toInt x2.toInt true).1 = 0
        · refine ih H1 _ (i + Int32.ofInt 1) W1 (xSC_f fr2 (by decide) hC) (by rw [q4, ho.2]; exact hb.1) (by rw [q5, ho.1]; exact k) (by omega) (by omega) (zw_gt l0 rfl rfl) (zw_gt l1 rfl rfl) (zw_gt l2 rfl rfl) (zw_gt l3 rfl rfl) (zw_gt l4 rfl rfl) zw_g1 (fun H2 w1 w2 w3 => hP H2 w1 (xFr_t fr2 w2) ?_)
          rw [xMk_y k]
          rw [q4, q6, if_pos k] at w3
          exact w3
        · refine xc_fmE22_1 W1 (zw_gt l0 rfl rfl) (zw_gt l1 rfl rfl) (zw_gt l2 rfl rfl) (zw_gt l3 rfl rfl) (zw_gt l4 rfl rfl) zw_g1 (by rw [q5, ho.1]; exact k) (hP H1 W1 fr2 ?_)
          rw [xMk_n k]
          exact ⟨q4, q6.trans (if_neg k), q5, q3⟩

theorem xc_fm22_1 {L : Nat} {σ : Nat → Int32} {d : Nat} {H : zp_H} {x2 x3 : Int32} {S : xSea} (W : zw_W H) (hS : xOk S) (hC : xSC 22 H S) (hc : xIn S (H.2.1 54 0).toInt) (he : (H.2.1 54 2).toInt = 0) (hd : -1 ≤ x2.toInt ∧ x2.toInt ≤ 3) : ∃ X, zp_Call L σ (d + 4) 28 [.inr (.inr (some 55)), .inr (.inr (some 23)), .inl x2, .inl x3, .inl (Int32.ofInt 1)] H X ∧ ∃ H1, X = (.inl none, H1) ∧ zw_W H1 ∧ xFr 54 H H1 ∧ xE 54 H1 (xMk S x2.toInt true x3.toInt.toNat (Int32.ofInt 0) (H.2.1 54 0) (H.2.1 54 1)) := by
  refine zw_met zm_28_t rfl rfl ?_
  refine zw_s (pc' := 1) rfl rfl ?_
  refine zw_st (n := 2) (k := 5) (f := zp_isI) (pc' := 3) rfl rfl rfl rfl rfl ?_
  exact xc_fmL22_1 hS hd x3.toInt.toNat H _ (Int32.ofInt 0) W hC hc he (by decide) (by rw [show (Int32.ofInt 0).toInt = 0 by decide]; omega) (zw_gt rfl rfl rfl) (zw_gt rfl rfl rfl) (zw_gt rfl rfl rfl) (zw_gt rfl rfl rfl) (zw_gt rfl rfl rfl) zw_g1 (fun H1 w1 w2 w3 => ⟨H1, rfl, w1, w2, w3⟩)

/-- but a ship nothing is changed -/
def xFv (q : Nat) (H H1 : zp_H) : Prop := H1.1 = H.1 ∧ H1.2.2.2 = H.2.2.2 ∧ (∀ p k, p ≠ q → H1.2.1 p k = H.2.1 p k) ∧ ∀ p k, p ≠ q → H1.2.2.1 p k = H.2.2.1 p k
theorem xFv_r {q : Nat} (H : zp_H) : xFv q H H := ⟨rfl, rfl, fun _ _ _ => rfl, fun _ _ _ => rfl⟩
theorem xFv_t {q : Nat} {H H1 H2 : zp_H} (h1 : xFv q H H1) (h2 : xFv q H1 H2) : xFv q H H2 := ⟨h2.1.trans h1.1, h2.2.1.trans h1.2.1, fun p k h => (h2.2.2.1 p k h).trans (h1.2.2.1 p k h), fun p k h => (h2.2.2.2 p k h).trans (h1.2.2.2 p k h)⟩
theorem xFr_v {q : Nat} {H H1 : zp_H} (h : xFr q H H1) : xFv q H H1 := ⟨h.1, h.2.1, fun p k hn => h.2.2.1 p k (fun h9 => hn h9.1), h.2.2.2⟩
theorem xFv_I {q k : Nat} {H H1 : zp_H} {x : Int32} (h : xFv q H H1) : xFv q H (zw_I H1 q k x) := ⟨h.1, h.2.1, fun p j hn => (y_ne (fun h9 => hn h9.1)).trans (h.2.2.1 p j hn), h.2.2.2⟩
theorem xFv_J {q k : Nat} {H H1 : zp_H} {u : Int64} (h : xFv q H H1) : xFv q H (zw_J H1 q k u) := ⟨h.1, h.2.1, h.2.2.1, fun p j hn => (zp_u_ne (fun h9 => hn h9.1)).trans (h.2.2.2 p j hn)⟩
theorem xSC_v {q p : Nat} {H H1 : zp_H} {S : xSea} (h : xFv q H H1) (hp : p ≠ q ∧ p + 1 ≠ q ∧ p + 2 ≠ q) (hC : xSC p H S) : xSC p H1 S := by
  have e0 : H1.2.1 p 0 = H.2.1 p 0 := h.2.2.1 p 0 hp.1
  have e1 : H1.2.1 p 1 = H.2.1 p 1 := h.2.2.1 p 1 hp.1
  refine ⟨(congrArg Int32.toInt e0).trans hC.1, (congrArg Int32.toInt e1).trans hC.2.1, (h.2.2.2 p 3 hp.1).trans hC.2.2.1, fun k hk => (congrArg Int32.toInt (h.2.2.1 (p + 2) k hp.2.2)).trans (hC.2.2.2.1 k hk), fun k hk => ?_⟩
  rw [e0, e1]
  exact (h.2.2.2 (p + 1) k hp.2.1).trans (hC.2.2.2.2 k hk)
def xE7 (q : Nat) (H : zp_H) (r : Int32 × Int32 × Int32 × Int32 × Int32 × Int32 × Int32) : Prop := H.2.1 q 0 = r.1 ∧ H.2.1 q 1 = r.2.1 ∧ H.2.1 q 2 = r.2.2.1 ∧ H.2.1 q 4 = r.2.2.2.1 ∧ H.2.1 q 3 = r.2.2.2.2.1 ∧ (¬ r.2.2.1.toInt = 0 → H.2.1 q 5 = r.2.2.2.2.2.1 ∧ H.2.1 q 6 = r.2.2.2.2.2.2)

theorem xc_begin {L : Nat} {σ : Nat → Int32} {d : Nat} {H : zp_H} {x1 x2 : Int32} (W : zw_W H) : ∃ X, zp_Call L σ (d + 2) 25 [.inr (.inr (some 55)), .inl x1, .inl x2] H X ∧ ∃ H1, X = (.inl none, H1) ∧ zw_W H1 ∧ xFv 54 H H1 ∧ H1.2.1 54 0 = x1 ∧ H1.2.1 54 1 = x2 ∧ H1.2.1 54 2 = Int32.ofInt 0 ∧ H1.2.1 54 3 = Int32.ofInt 0 ∧ H1.2.1 54 4 = Int32.ofInt 0 := by
  refine zw_met zm_25_t rfl rfl ?_
  refine zw_ld (n := 1) (k := 0) (f := zp_isR) (pc' := 1) rfl rfl rfl rfl rfl ?_
  refine zw_ld (n := 1) (k := 1) (f := zp_isI) (pc' := 2) rfl rfl rfl rfl rfl ?_
  refine zw_pI (q := 54) (pc' := 5) W rfl rfl rfl rfl rfl rfl ?_
  refine zw_ld (n := 1) (k := 0) (f := zp_isR) (pc' := 6) rfl rfl rfl rfl rfl ?_
  refine zw_ld (n := 1) (k := 2) (f := zp_isI) (pc' := 7) rfl rfl rfl rfl rfl ?_
  refine zw_pI (q := 54) (pc' := 10) (zw_W_I W) rfl rfl rfl rfl rfl rfl ?_
  refine zw_ld (n := 1) (k := 0) (f := zp_isR) (pc' := 11) rfl rfl rfl rfl rfl ?_
  refine zw_s (pc' := 12) rfl rfl ?_
  refine zw_pI (q := 54) (pc' := 15) (zw_W_I (zw_W_I W)) rfl rfl rfl rfl rfl rfl ?_
  refine zw_ld (n := 1) (k := 0) (f := zp_isR) (pc' := 16) rfl rfl rfl rfl rfl ?_
  refine zw_s (pc' := 17) rfl rfl ?_
  refine zw_pI (q := 54) (pc' := 20) (zw_W_I (zw_W_I (zw_W_I W))) rfl rfl rfl rfl rfl rfl ?_
  refine zw_ld (n := 1) (k := 0) (f := zp_isR) (pc' := 21) rfl rfl rfl rfl rfl ?_
  refine zw_s (pc' := 22) rfl rfl ?_
  refine zw_pI (q := 54) (pc' := 25) (zw_W_I (zw_W_I (zw_W_I (zw_W_I W)))) rfl rfl rfl rfl rfl rfl ?_
  refine zw_ld (n := 1) (k := 0) (f := zp_isR) (pc' := 26) rfl rfl rfl rfl rfl ?_
  refine zw_ld (n := 1) (k := 1) (f := zp_isI) (pc' := 27) rfl rfl rfl rfl rfl ?_
  refine zw_cx (pc' := 30) (zw_csx (Y := zm_4) rfl rfl zm_4_t) rfl rfl rfl rfl rfl (zn_bit) ?_
  refine zw_pL (q := 54) (pc' := 33) (zw_W_I (zw_W_I (zw_W_I (zw_W_I (zw_W_I W))))) rfl rfl rfl rfl rfl rfl ?_
  refine zw_rn rfl rfl ?_
  exact ⟨_, rfl, (zw_W_J (zw_W_I (zw_W_I (zw_W_I (zw_W_I (zw_W_I W)))))), xFv_J (xFv_I (xFv_I (xFv_I (xFv_I (xFv_I (xFv_r H)))))), (zw_nj (zw_ne (zw_ne (zw_ne (zw_ne zw_eq rfl) rfl) rfl) rfl)), (zw_nj (zw_ne (zw_ne (zw_ne zw_eq rfl) rfl) rfl)), (zw_nj (zw_ne (zw_ne zw_eq rfl) rfl)), (zw_nj (zw_ne zw_eq rfl)), (zw_nj zw_eq)⟩

theorem xc_foE2 {L : Nat} {σ : Nat → Int32} {d : Nat} {H : zp_H} {P : zp_X → Prop} {lv : zp_LV} {s m i : Int32} (W : zw_W H) (l0 : zp_get lv 0 = some (.inr (.inr (some 55)))) (l1 : zp_get lv 1 = some (.inr (.inr (some 3)))) (l2 : zp_get lv 2 = some (.inr (.inr (some 14)))) (l3 : zp_get lv 3 = some (.inl s)) (l4 : zp_get lv 4 = some (.inl m)) (l5 : zp_get lv 5 = some (.inl i)) (he : ¬ (H.2.1 54 2).toInt = 0) (hP : P (.inl none, H)) : zs_Safe L σ P zm_24 [] (d + 4) (27, lv, [], H, (0, 0)) := by
  refine zw_ld (n := 2) (k := 5) (f := zp_isI) (pc' := 29) rfl rfl l5 rfl rfl ?_
  refine zw_ld (n := 2) (k := 4) (f := zp_isI) (pc' := 31) rfl rfl l4 rfl rfl ?_
  refine zw_bge2 (g := 89) (pc' := 34) rfl rfl rfl rfl rfl (fun h1 => ?_) (fun h1 => ?_)
  · refine zw_ld (n := 1) (k := 0) (f := zp_isR) (pc' := 90) rfl rfl l0 rfl rfl ?_
    refine zw_gI (q := 54) (pc' := 93) W rfl rfl rfl rfl rfl rfl ?_
    refine zw_bne1 (g := 102) (pc' := 96) rfl rfl rfl rfl (fun h2 => ?_) (fun h2 => ?_)
    · refine zw_rn rfl rfl ?_
      exact hP
    · exact absurd h2 he
  · refine zw_ld (n := 1) (k := 0) (f := zp_isR) (pc' := 35) rfl rfl l0 rfl rfl ?_
    refine zw_gI (q := 54) (pc' := 38) W rfl rfl rfl rfl rfl rfl ?_
    refine zw_bne1 (g := 89) (pc' := 41) rfl rfl rfl rfl (fun h3 => ?_) (fun h3 => ?_)
    · refine zw_ld (n := 1) (k := 0) (f := zp_isR) (pc' := 90) rfl rfl l0 rfl rfl ?_
      refine zw_gI (q := 54) (pc' := 93) W rfl rfl rfl rfl rfl rfl ?_
      refine zw_bne1 (g := 102) (pc' := 96) rfl rfl rfl rfl (fun h2 => ?_) (fun h2 => ?_)
      · refine zw_rn rfl rfl ?_
        exact hP
      · exact absurd h2 he
    · exact absurd h3 he

theorem xc_foL2 {L : Nat} {σ : Nat → Int32} {d : Nat} {S : xSea} {P : zp_X → Prop} {H0 : zp_H} {s m : Int32} (hS : xOk S) (hs : 0 ≤ s.toInt ∧ s.toInt < 8) (hm : 0 ≤ m.toInt ∧ m.toInt ≤ 8) (hw : ∀ j, j < m.toInt.toNat → -1 ≤ (H0.2.1 18 (8 * s.toInt.toNat + j)).toInt ∧ (H0.2.1 18 (8 * s.toInt.toNat + j)).toInt ≤ 3) : ∀ (n : Nat) (H : zp_H) (lv : zp_LV) (i : Int32), zw_W H → xFv 54 H0 H → xSC 2 H S → xIn S (H.2.1 54 0).toInt → (H.2.1 54 2).toInt = 0 → H.2.1 54 4 = Int32.ofInt 0 → 0 ≤ i.toInt → i.toInt + n = m.toInt → zp_get lv 0 = some (.inr (.inr (some 55))) → zp_get lv 1 = some (.inr (.inr (some 3))) → zp_get lv 2 = some (.inr (.inr (some 14))) → zp_get lv 3 = some (.inl s) → zp_get lv 4 = some (.inl m) → zp_get lv 5 = some (.inl i) → (∀ H1, zw_W H1 → xFv 54 H H1 → xE7 54 H1 (xVy S (fun j => H0.2.1 18 (8 * s.toInt.toNat + j)) (fun j => H0.2.1 19 (8 * s.toInt.toNat + j)) n i (H.2.1 54 0) (H.2.1 54 1)) → P (.inl none, H1)) → zs_Safe L σ P zm_24 [] (d + 4) (27, lv, [], H, (0, 0)) := by
  intro n
  induction n with
  | zero =>
    intro H lv i W hF hC hc he h4 h5 hn l0 l1 l2 l3 l4 l5 hP
    have he0 : H.2.1 54 2 = Int32.ofInt 0 := Int32.toInt_inj.mp (he.trans (by decide))
    have ei : i = m := Int32.toInt_inj.mp (by omega)
    refine zw_ld (n := 2) (k := 5) (f := zp_isI) (pc' := 29) rfl rfl l5 rfl rfl ?_
    refine zw_ld (n := 2) (k := 4) (f := zp_isI) (pc' := 31) rfl rfl l4 rfl rfl ?_
    refine zw_bge2 (g := 89) (pc' := 34) rfl rfl rfl rfl rfl (fun h1 => ?_) (fun h1 => ?_)
    · refine zw_ld (n := 1) (k := 0) (f := zp_isR) (pc' := 90) rfl rfl l0 rfl rfl ?_
      refine zw_gI (q := 54) (pc' := 93) W rfl rfl rfl rfl rfl rfl ?_
      refine zw_bne1 (g := 102) (pc' := 96) rfl rfl rfl rfl (fun h2 => ?_) (fun h2 => ?_)
      · exact absurd he h2
      · refine zw_ld (n := 1) (k := 0) (f := zp_isR) (pc' := 97) rfl rfl l0 rfl rfl ?_
        refine zw_ld (n := 2) (k := 4) (f := zp_isI) (pc' := 99) rfl rfl l4 rfl rfl ?_
        refine zw_pI (q := 54) (pc' := 102) W rfl rfl rfl rfl rfl rfl ?_
        refine zw_rn rfl rfl ?_
        exact hP _ (zw_W_I W) (xFv_I (xFv_r H)) ⟨zw_ne rfl rfl, zw_ne rfl rfl, (zw_ne rfl rfl).trans he0, (zw_ne rfl rfl).trans h4, zw_eq.trans ei.symm, fun h9 => absurd (show (Int32.ofInt 0).toInt = 0 by decide) h9⟩
    · omega
  | succ n ih =>
    intro H lv i W hF hC hc he h4 h5 hn l0 l1 l2 l3 l4 l5 hP
    refine zw_ld (n := 2) (k := 5) (f := zp_isI) (pc' := 29) rfl rfl l5 rfl rfl ?_
    refine zw_ld (n := 2) (k := 4) (f := zp_isI) (pc' := 31) rfl rfl l4 rfl rfl ?_
    refine zw_bge2 (g := 89) (pc' := 34) rfl rfl rfl rfl rfl (fun h1 => ?_) (fun h1 => ?_)
    · omega
    · refine zw_ld (n := 1) (k := 0) (f := zp_isR) (pc' := 35) rfl rfl l0 rfl rfl ?_
      refine zw_gI (q := 54) (pc' := 38) W rfl rfl rfl rfl rfl rfl ?_
      refine zw_bne1 (g := 89) (pc' := 41) rfl rfl rfl rfl (fun h2 => ?_) (fun h2 => ?_)
      · exact absurd he h2
      · refine zw_ld (n := 1) (k := 0) (f := zp_isR) (pc' := 42) rfl rfl l0 rfl rfl ?_
        refine zw_ld (n := 2) (k := 5) (f := zp_isI) (pc' := 44) rfl rfl l5 rfl rfl ?_
        refine zw_pI (q := 54) (pc' := 47) W rfl rfl rfl rfl rfl rfl ?_
        refine zw_ld (n := 1) (k := 0) (f := zp_isR) (pc' := 48) rfl rfl l0 rfl rfl ?_
        refine zw_ld (n := 1) (k := 0) (f := zp_isR) (pc' := 49) rfl rfl l0 rfl rfl ?_
        refine zw_gI (q := 54) (pc' := 52) (zw_W_I W) rfl rfl rfl rfl (zw_ne rfl rfl) rfl ?_
        refine zw_pI (q := 54) (pc' := 55) (zw_W_I W) rfl rfl rfl rfl rfl rfl ?_
        refine zw_ld (n := 1) (k := 0) (f := zp_isR) (pc' := 56) rfl rfl l0 rfl rfl ?_
        refine zw_ld (n := 1) (k := 0) (f := zp_isR) (pc' := 57) rfl rfl l0 rfl rfl ?_
        refine zw_gI (q := 54) (pc' := 60) (zw_W_I (zw_W_I W)) rfl rfl rfl rfl (zw_ne (zw_ne rfl rfl) rfl) rfl ?_
        refine zw_pI (q := 54) (pc' := 63) (zw_W_I (zw_W_I W)) rfl rfl rfl rfl rfl rfl ?_
        have e0 : (zw_I (zw_I (zw_I H 54 3 i) 54 5 (H.2.1 54 0)) 54 6 (H.2.1 54 1)).2.1 54 0 = H.2.1 54 0 := zw_ne (zw_ne (zw_ne rfl rfl) rfl) rfl
        have e1 : (zw_I (zw_I (zw_I H 54 3 i) 54 5 (H.2.1 54 0)) 54 6 (H.2.1 54 1)).2.1 54 1 = H.2.1 54 1 := zw_ne (zw_ne (zw_ne rfl rfl) rfl) rfl
        have e2 : (zw_I (zw_I (zw_I H 54 3 i) 54 5 (H.2.1 54 0)) 54 6 (H.2.1 54 1)).2.1 54 2 = H.2.1 54 2 := zw_ne (zw_ne (zw_ne rfl rfl) rfl) rfl
        have e3 : (zw_I (zw_I (zw_I H 54 3 i) 54 5 (H.2.1 54 0)) 54 6 (H.2.1 54 1)).2.1 54 3 = i := zw_ne (zw_ne zw_eq rfl) rfl
        have e5 : (zw_I (zw_I (zw_I H 54 3 i) 54 5 (H.2.1 54 0)) 54 6 (H.2.1 54 1)).2.1 54 5 = H.2.1 54 0 := zw_ne zw_eq rfl
        have e6 : (zw_I (zw_I (zw_I H 54 3 i) 54 5 (H.2.1 54 0)) 54 6 (H.2.1 54 1)).2.1 54 6 = H.2.1 54 1 := zw_eq
        have fr : xFv 54 H (zw_I (zw_I (zw_I H 54 3 i) 54 5 (H.2.1 54 0)) 54 6 (H.2.1 54 1)) := xFv_I (xFv_I (xFv_I (xFv_r H)))
        have WA : zw_W (zw_I (zw_I (zw_I H 54 3 i) 54 5 (H.2.1 54 0)) 54 6 (H.2.1 54 1)) := zw_W_I (zw_W_I (zw_W_I W))
        have hi8 : i.toInt.toNat < m.toInt.toNat := by omega
        have kw : (zw_I (zw_I (zw_I H 54 3 i) 54 5 (H.2.1 54 0)) 54 6 (H.2.1 54 1)).2.1 18 (8 * s.toInt.toNat + i.toInt.toNat) = H0.2.1 18 (8 * s.toInt.toNat + i.toInt.toNat) := (fr.2.2.1 _ _ (by decide)).trans (hF.2.2.1 _ _ (by decide))
        have ks : (zw_I (zw_I (zw_I H 54 3 i) 54 5 (H.2.1 54 0)) 54 6 (H.2.1 54 1)).2.1 19 (8 * s.toInt.toNat + i.toInt.toNat) = H0.2.1 19 (8 * s.toInt.toNat + i.toInt.toNat) := (fr.2.2.1 _ _ (by decide)).trans (hF.2.2.1 _ _ (by decide))
        obtain ⟨_, q1, H1, rfl, W1, q2, q3⟩ := xc_fm2_1 (L := L) (σ := σ) (d := d) (S := S) (x2 := H0.2.1 18 (8 * s.toInt.toNat + i.toInt.toNat)) (x3 := H0.2.1 19 (8 * s.toInt.toNat + i.toInt.toNat)) WA hS (xSC_v fr (by decide) hC) (by rw [e0]; exact hc) (by rw [e2]; exact he) (hw _ hi8)
        rw [e0, e1] at q3
        have hb := xMk_b (S := S) (d := (H0.2.1 18 (8 * s.toInt.toNat + i.toInt.toNat)).toInt) (t := true) hS (H0.2.1 19 (8 * s.toInt.toNat + i.toInt.toNat)).toInt.toNat (Int32.ofInt 0) (H.2.1 54 0) (H.2.1 54 1) hc
        have fr2 := xFv_t fr (xFr_v q2)
        have k3 : H1.2.1 54 3 = i := (q2.2.2.1 54 3 (fun h9 => by have := h9.2; omega)).trans e3
        have k5 : H1.2.1 54 5 = H.2.1 54 0 := (q2.2.2.1 54 5 (fun h9 => by have := h9.2; omega)).trans e5
        have k6 : H1.2.1 54 6 = H.2.1 54 1 := (q2.2.2.1 54 6 (fun h9 => by have := h9.2; omega)).trans e6
        have ei : (i + Int32.ofInt 1).toInt = i.toInt + 1 := zw_p1 (by omega)
        obtain ⟨r0, r1, r2, r4⟩ := q3
        refine zw_ld (n := 1) (k := 0) (f := zp_isR) (pc' := 64) rfl rfl l0 rfl rfl ?_
        refine zw_ld (n := 1) (k := 1) (f := zp_isR) (pc' := 65) rfl rfl l1 rfl rfl ?_
        refine zw_ld (n := 1) (k := 2) (f := zp_isR) (pc' := 66) rfl rfl l2 rfl rfl ?_
        refine zw_ld (n := 1) (k := 3) (f := zp_isI) (pc' := 67) rfl rfl l3 rfl rfl ?_
        refine zw_ld (n := 2) (k := 5) (f := zp_isI) (pc' := 69) rfl rfl l5 rfl rfl ?_
        refine zw_c (pc' := 72) (zw_cv (q := 13) (Y := zm_26) WA.1 rfl rfl zm_26_t rfl rfl) rfl rfl rfl rfl rfl (yc_wayOf13 WA ⟨by omega, by omega⟩ ⟨by omega, by omega⟩) ?_
        refine zw_ld (n := 1) (k := 2) (f := zp_isR) (pc' := 73) rfl rfl l2 rfl rfl ?_
        refine zw_ld (n := 1) (k := 3) (f := zp_isI) (pc' := 74) rfl rfl l3 rfl rfl ?_
        refine zw_ld (n := 2) (k := 5) (f := zp_isI) (pc' := 76) rfl rfl l5 rfl rfl ?_
        refine zw_c (pc' := 79) (zw_cv (q := 13) (Y := zm_27) WA.1 rfl rfl zm_27_t rfl rfl) rfl rfl rfl rfl rfl (yc_stepsOf13 WA ⟨by omega, by omega⟩ ⟨by omega, by omega⟩) ?_
        refine zw_s (pc' := 80) rfl rfl ?_
        rw [kw, ks]
        refine zw_cn (pc' := 83) (zw_cv (q := 54) (Y := zm_28) WA.1 rfl rfl zm_28_t rfl rfl) rfl rfl rfl rfl rfl (q1) ?_
        refine zw_ii (pc' := 86) rfl l5 rfl rfl ?_
        refine zw_s (pc' := 27) rfl rfl ?_
        by_cases k : (H1.2.1 54 2).toInt = 0
        · refine ih H1 _ (i + Int32.ofInt 1) W1 (xFv_t hF fr2) (xSC_v fr2 (by decide) hC) (by rw [r0]; exact hb.1) k (r4.trans (hb.2 (r2 ▸ k))) (by omega) (by omega) (zw_gt l0 rfl rfl) (zw_gt l1 rfl rfl) (zw_gt l2 rfl rfl) (zw_gt l3 rfl rfl) (zw_gt l4 rfl rfl) zw_g1 (fun H2 w1 w2 w3 => hP H2 w1 (xFv_t fr2 w2) ?_)
          rw [xVy_y (S := S) (wy := (fun j => H0.2.1 18 (8 * s.toInt.toNat + j))) (st := (fun j => H0.2.1 19 (8 * s.toInt.toNat + j))) (n := n) (k := i) rfl (r2 ▸ k)]
          rw [r0, r1] at w3
          exact w3
        · refine xc_foE2 W1 (zw_gt l0 rfl rfl) (zw_gt l1 rfl rfl) (zw_gt l2 rfl rfl) (zw_gt l3 rfl rfl) (zw_gt l4 rfl rfl) zw_g1 k (hP H1 W1 fr2 ?_)
          rw [xVy_n (S := S) (wy := (fun j => H0.2.1 18 (8 * s.toInt.toNat + j))) (st := (fun j => H0.2.1 19 (8 * s.toInt.toNat + j))) (n := n) (k := i) rfl (fun h9 => k (r2 ▸ h9))]
          exact ⟨r0, r1, r2, r4, k3, fun _ => ⟨k5, k6⟩⟩

theorem xc_fo2 {L : Nat} {σ : Nat → Int32} {d : Nat} {H : zp_H} {s : Int32} {S : xSea} (W : zw_W H) (hS : xOk S) (hC : xSC 2 H S) (hs : 0 ≤ s.toInt ∧ s.toInt < 8) (hm : 0 ≤ (H.2.1 16 s.toInt.toNat).toInt ∧ (H.2.1 16 s.toInt.toNat).toInt ≤ 8) (hw : ∀ j, j < (H.2.1 16 s.toInt.toNat).toInt.toNat → -1 ≤ (H.2.1 18 (8 * s.toInt.toNat + j)).toInt ∧ (H.2.1 18 (8 * s.toInt.toNat + j)).toInt ≤ 3) (hc : xIn S (H.2.1 14 s.toInt.toNat).toInt) : ∃ X, zp_Call L σ (d + 5) 24 [.inr (.inr (some 55)), .inr (.inr (some 3)), .inr (.inr (some 14)), .inl s] H X ∧ ∃ H1, X = (.inl none, H1) ∧ zw_W H1 ∧ xFv 54 H H1 ∧ xE7 54 H1 (xVy S (fun j => H.2.1 18 (8 * s.toInt.toNat + j)) (fun j => H.2.1 19 (8 * s.toInt.toNat + j)) (H.2.1 16 s.toInt.toNat).toInt.toNat (Int32.ofInt 0) (H.2.1 14 s.toInt.toNat) (H.2.1 15 s.toInt.toNat)) := by
  refine zw_met zm_24_t rfl rfl ?_
  refine zw_ld (n := 1) (k := 0) (f := zp_isR) (pc' := 1) rfl rfl rfl rfl rfl ?_
  refine zw_ld (n := 1) (k := 2) (f := zp_isR) (pc' := 2) rfl rfl rfl rfl rfl ?_
  refine zw_gR (q := 13) (pc' := 5) W rfl rfl rfl rfl (W.2 13 1 _ rfl) rfl ?_
  refine zw_ld (n := 1) (k := 3) (f := zp_isI) (pc' := 6) rfl rfl rfl rfl rfl ?_
  refine zw_ia (q := 14) (pc' := 7) W rfl rfl (by decide) (⟨hs.1, by show _ < ((8 : Nat) : Int); omega⟩) rfl rfl ?_
  refine zw_ld (n := 1) (k := 2) (f := zp_isR) (pc' := 8) rfl rfl rfl rfl rfl ?_
  refine zw_gR (q := 13) (pc' := 11) W rfl rfl rfl rfl (W.2 13 2 _ rfl) rfl ?_
  refine zw_ld (n := 1) (k := 3) (f := zp_isI) (pc' := 12) rfl rfl rfl rfl rfl ?_
  refine zw_ia (q := 15) (pc' := 13) W rfl rfl (by decide) (⟨hs.1, by show _ < ((8 : Nat) : Int); omega⟩) rfl rfl ?_
  obtain ⟨_, q1, H1, rfl, W1, q2, r0, r1, r2, r3, r4⟩ := xc_begin (L := L) (σ := σ) (d := d + 2) (x1 := H.2.1 14 s.toInt.toNat) (x2 := H.2.1 15 s.toInt.toNat) W
  have km : H1.2.1 16 s.toInt.toNat = H.2.1 16 s.toInt.toNat := q2.2.2.1 _ _ (by decide)
  refine zw_cn (pc' := 16) (zw_cv (q := 54) (Y := zm_25) W.1 rfl rfl zm_25_t rfl rfl) rfl rfl rfl rfl rfl (q1) ?_
  refine zw_ld (n := 1) (k := 2) (f := zp_isR) (pc' := 17) rfl rfl rfl rfl rfl ?_
  refine zw_gR (q := 13) (pc' := 20) W1 rfl rfl rfl rfl (W1.2 13 3 _ rfl) rfl ?_
  refine zw_ld (n := 1) (k := 3) (f := zp_isI) (pc' := 21) rfl rfl rfl rfl rfl ?_
  refine zw_ia (q := 16) (pc' := 22) W1 rfl rfl (by decide) (⟨hs.1, by show _ < ((8 : Nat) : Int); omega⟩) rfl rfl ?_
  refine zw_st (n := 2) (k := 4) (f := zp_isI) (pc' := 24) rfl rfl rfl rfl rfl ?_
  refine zw_s (pc' := 25) rfl rfl ?_
  refine zw_st (n := 2) (k := 5) (f := zp_isI) (pc' := 27) rfl rfl rfl rfl rfl ?_
  rw [km]
  refine xc_foL2 (H0 := H) (s := s) (m := H.2.1 16 s.toInt.toNat) hS hs hm hw (H.2.1 16 s.toInt.toNat).toInt.toNat H1 _ (Int32.ofInt 0) W1 q2 (xSC_v q2 (by decide) hC) (by rw [r0]; exact hc) (by rw [r2]; decide) r4 (by decide) (by rw [show (Int32.ofInt 0).toInt = 0 by decide]; omega) (zw_gt (zw_gt rfl rfl rfl) rfl rfl) (zw_gt (zw_gt rfl rfl rfl) rfl rfl) (zw_gt (zw_gt rfl rfl rfl) rfl rfl) (zw_gt (zw_gt rfl rfl rfl) rfl rfl) (zw_gt zw_g1 rfl rfl) zw_g1 (fun H2 w1 w2 w3 => ⟨H2, rfl, w1, xFv_t q2 w2, ?_⟩)
  rw [r0, r1] at w3
  exact w3

theorem xc_foE22 {L : Nat} {σ : Nat → Int32} {d : Nat} {H : zp_H} {P : zp_X → Prop} {lv : zp_LV} {s m i : Int32} (W : zw_W H) (l0 : zp_get lv 0 = some (.inr (.inr (some 55)))) (l1 : zp_get lv 1 = some (.inr (.inr (some 23)))) (l2 : zp_get lv 2 = some (.inr (.inr (some 34)))) (l3 : zp_get lv 3 = some (.inl s)) (l4 : zp_get lv 4 = some (.inl m)) (l5 : zp_get lv 5 = some (.inl i)) (he : ¬ (H.2.1 54 2).toInt = 0) (hP : P (.inl none, H)) : zs_Safe L σ P zm_24 [] (d + 4) (27, lv, [], H, (0, 0)) := by
  refine zw_ld (n := 2) (k := 5) (f := zp_isI) (pc' := 29) rfl rfl l5 rfl rfl ?_
  refine zw_ld (n := 2) (k := 4) (f := zp_isI) (pc' := 31) rfl rfl l4 rfl rfl ?_
  refine zw_bge2 (g := 89) (pc' := 34) rfl rfl rfl rfl rfl (fun h1 => ?_) (fun h1 => ?_)
  · refine zw_ld (n := 1) (k := 0) (f := zp_isR) (pc' := 90) rfl rfl l0 rfl rfl ?_
    refine zw_gI (q := 54) (pc' := 93) W rfl rfl rfl rfl rfl rfl ?_
    refine zw_bne1 (g := 102) (pc' := 96) rfl rfl rfl rfl (fun h2 => ?_) (fun h2 => ?_)
    · refine zw_rn rfl rfl ?_
      exact hP
    · exact absurd h2 he
  · refine zw_ld (n := 1) (k := 0) (f := zp_isR) (pc' := 35) rfl rfl l0 rfl rfl ?_
    refine zw_gI (q := 54) (pc' := 38) W rfl rfl rfl rfl rfl rfl ?_
    refine zw_bne1 (g := 89) (pc' := 41) rfl rfl rfl rfl (fun h3 => ?_) (fun h3 => ?_)
    · refine zw_ld (n := 1) (k := 0) (f := zp_isR) (pc' := 90) rfl rfl l0 rfl rfl ?_
      refine zw_gI (q := 54) (pc' := 93) W rfl rfl rfl rfl rfl rfl ?_
      refine zw_bne1 (g := 102) (pc' := 96) rfl rfl rfl rfl (fun h2 => ?_) (fun h2 => ?_)
      · refine zw_rn rfl rfl ?_
        exact hP
      · exact absurd h2 he
    · exact absurd h3 he

theorem xc_foL22 {L : Nat} {σ : Nat → Int32} {d : Nat} {S : xSea} {P : zp_X → Prop} {H0 : zp_H} {s m : Int32} (hS : xOk S) (hs : 0 ≤ s.toInt ∧ s.toInt < 8) (hm : 0 ≤ m.toInt ∧ m.toInt ≤ 8) (hw : ∀ j, j < m.toInt.toNat → -1 ≤ (H0.2.1 38 (8 * s.toInt.toNat + j)).toInt ∧ (H0.2.1 38 (8 * s.toInt.toNat + j)).toInt ≤ 3) : ∀ (n : Nat) (H : zp_H) (lv : zp_LV) (i : Int32), zw_W H → xFv 54 H0 H → xSC 22 H S → xIn S (H.2.1 54 0).toInt → (H.2.1 54 2).toInt = 0 → H.2.1 54 4 = Int32.ofInt 0 → 0 ≤ i.toInt → i.toInt + n = m.toInt → zp_get lv 0 = some (.inr (.inr (some 55))) → zp_get lv 1 = some (.inr (.inr (some 23))) → zp_get lv 2 = some (.inr (.inr (some 34))) → zp_get lv 3 = some (.inl s) → zp_get lv 4 = some (.inl m) → zp_get lv 5 = some (.inl i) → (∀ H1, zw_W H1 → xFv 54 H H1 → xE7 54 H1 (xVy S (fun j => H0.2.1 38 (8 * s.toInt.toNat + j)) (fun j => H0.2.1 39 (8 * s.toInt.toNat + j)) n i (H.2.1 54 0) (H.2.1 54 1)) → P (.inl none, H1)) → zs_Safe L σ P zm_24 [] (d + 4) (27, lv, [], H, (0, 0)) := by
  intro n
  induction n with
  | zero =>
    intro H lv i W hF hC hc he h4 h5 hn l0 l1 l2 l3 l4 l5 hP
    have he0 : H.2.1 54 2 = Int32.ofInt 0 := Int32.toInt_inj.mp (he.trans (by decide))
    have ei : i = m := Int32.toInt_inj.mp (by omega)
    refine zw_ld (n := 2) (k := 5) (f := zp_isI) (pc' := 29) rfl rfl l5 rfl rfl ?_
    refine zw_ld (n := 2) (k := 4) (f := zp_isI) (pc' := 31) rfl rfl l4 rfl rfl ?_
    refine zw_bge2 (g := 89) (pc' := 34) rfl rfl rfl rfl rfl (fun h1 => ?_) (fun h1 => ?_)
    · refine zw_ld (n := 1) (k := 0) (f := zp_isR) (pc' := 90) rfl rfl l0 rfl rfl ?_
      refine zw_gI (q := 54) (pc' := 93) W rfl rfl rfl rfl rfl rfl ?_
      refine zw_bne1 (g := 102) (pc' := 96) rfl rfl rfl rfl (fun h2 => ?_) (fun h2 => ?_)
      · exact absurd he h2
      · refine zw_ld (n := 1) (k := 0) (f := zp_isR) (pc' := 97) rfl rfl l0 rfl rfl ?_
        refine zw_ld (n := 2) (k := 4) (f := zp_isI) (pc' := 99) rfl rfl l4 rfl rfl ?_
        refine zw_pI (q := 54) (pc' := 102) W rfl rfl rfl rfl rfl rfl ?_
        refine zw_rn rfl rfl ?_
        exact hP _ (zw_W_I W) (xFv_I (xFv_r H)) ⟨zw_ne rfl rfl, zw_ne rfl rfl, (zw_ne rfl rfl).trans he0, (zw_ne rfl rfl).trans h4, zw_eq.trans ei.symm, fun h9 => absurd (show (Int32.ofInt 0).toInt = 0 by decide) h9⟩
    · omega
  | succ n ih =>
    intro H lv i W hF hC hc he h4 h5 hn l0 l1 l2 l3 l4 l5 hP
    refine zw_ld (n := 2) (k := 5) (f := zp_isI) (pc' := 29) rfl rfl l5 rfl rfl ?_
    refine zw_ld (n := 2) (k := 4) (f := zp_isI) (pc' := 31) rfl rfl l4 rfl rfl ?_
    refine zw_bge2 (g := 89) (pc' := 34) rfl rfl rfl rfl rfl (fun h1 => ?_) (fun h1 => ?_)
    · omega
    · refine zw_ld (n := 1) (k := 0) (f := zp_isR) (pc' := 35) rfl rfl l0 rfl rfl ?_
      refine zw_gI (q := 54) (pc' := 38) W rfl rfl rfl rfl rfl rfl ?_
      refine zw_bne1 (g := 89) (pc' := 41) rfl rfl rfl rfl (fun h2 => ?_) (fun h2 => ?_)
      · exact absurd he h2
      · refine zw_ld (n := 1) (k := 0) (f := zp_isR) (pc' := 42) rfl rfl l0 rfl rfl ?_
        refine zw_ld (n := 2) (k := 5) (f := zp_isI) (pc' := 44) rfl rfl l5 rfl rfl ?_
        refine zw_pI (q := 54) (pc' := 47) W rfl rfl rfl rfl rfl rfl ?_
        refine zw_ld (n := 1) (k := 0) (f := zp_isR) (pc' := 48) rfl rfl l0 rfl rfl ?_
        refine zw_ld (n := 1) (k := 0) (f := zp_isR) (pc' := 49) rfl rfl l0 rfl rfl ?_
        refine zw_gI (q := 54) (pc' := 52) (zw_W_I W) rfl rfl rfl rfl (zw_ne rfl rfl) rfl ?_
        refine zw_pI (q := 54) (pc' := 55) (zw_W_I W) rfl rfl rfl rfl rfl rfl ?_
        refine zw_ld (n := 1) (k := 0) (f := zp_isR) (pc' := 56) rfl rfl l0 rfl rfl ?_
        refine zw_ld (n := 1) (k := 0) (f := zp_isR) (pc' := 57) rfl rfl l0 rfl rfl ?_
        refine zw_gI (q := 54) (pc' := 60) (zw_W_I (zw_W_I W)) rfl rfl rfl rfl (zw_ne (zw_ne rfl rfl) rfl) rfl ?_
        refine zw_pI (q := 54) (pc' := 63) (zw_W_I (zw_W_I W)) rfl rfl rfl rfl rfl rfl ?_
        have e0 : (zw_I (zw_I (zw_I H 54 3 i) 54 5 (H.2.1 54 0)) 54 6 (H.2.1 54 1)).2.1 54 0 = H.2.1 54 0 := zw_ne (zw_ne (zw_ne rfl rfl) rfl) rfl
        have e1 : (zw_I (zw_I (zw_I H 54 3 i) 54 5 (H.2.1 54 0)) 54 6 (H.2.1 54 1)).2.1 54 1 = H.2.1 54 1 := zw_ne (zw_ne (zw_ne rfl rfl) rfl) rfl
        have e2 : (zw_I (zw_I (zw_I H 54 3 i) 54 5 (H.2.1 54 0)) 54 6 (H.2.1 54 1)).2.1 54 2 = H.2.1 54 2 := zw_ne (zw_ne (zw_ne rfl rfl) rfl) rfl
        have e3 : (zw_I (zw_I (zw_I H 54 3 i) 54 5 (H.2.1 54 0)) 54 6 (H.2.1 54 1)).2.1 54 3 = i := zw_ne (zw_ne zw_eq rfl) rfl
        have e5 : (zw_I (zw_I (zw_I H 54 3 i) 54 5 (H.2.1 54 0)) 54 6 (H.2.1 54 1)).2.1 54 5 = H.2.1 54 0 := zw_ne zw_eq rfl
        have e6 : (zw_I (zw_I (zw_I H 54 3 i) 54 5 (H.2.1 54 0)) 54 6 (H.2.1 54 1)).2.1 54 6 = H.2.1 54 1 := zw_eq
        have fr : xFv 54 H (zw_I (zw_I (zw_I H 54 3 i) 54 5 (H.2.1 54 0)) 54 6 (H.2.1 54 1)) := xFv_I (xFv_I (xFv_I (xFv_r H)))
        have WA : zw_W (zw_I (zw_I (zw_I H 54 3 i) 54 5 (H.2.1 54 0)) 54 6 (H.2.1 54 1)) := zw_W_I (zw_W_I (zw_W_I W))
        have hi8 : i.toInt.toNat < m.toInt.toNat := by omega
        have kw : (zw_I (zw_I (zw_I H 54 3 i) 54 5 (H.2.1 54 0)) 54 6 (H.2.1 54 1)).2.1 38 (8 * s.toInt.toNat + i.toInt.toNat) = H0.2.1 38 (8 * s.toInt.toNat + i.toInt.toNat) := (fr.2.2.1 _ _ (by decide)).trans (hF.2.2.1 _ _ (by decide))
        have ks : (zw_I (zw_I (zw_I H 54 3 i) 54 5 (H.2.1 54 0)) 54 6 (H.2.1 54 1)).2.1 39 (8 * s.toInt.toNat + i.toInt.toNat) = H0.2.1 39 (8 * s.toInt.toNat + i.toInt.toNat) := (fr.2.2.1 _ _ (by decide)).trans (hF.2.2.1 _ _ (by decide))
        obtain ⟨_, q1, H1, rfl, W1, q2, q3⟩ := xc_fm22_1 (L := L) (σ := σ) (d := d) (S := S) (x2 := H0.2.1 38 (8 * s.toInt.toNat + i.toInt.toNat)) (x3 := H0.2.1 39 (8 * s.toInt.toNat + i.toInt.toNat)) WA hS (xSC_v fr (by decide) hC) (by rw [e0]; exact hc) (by rw [e2]; exact he) (hw _ hi8)
        rw [e0, e1] at q3
        have hb := xMk_b (S := S) (d := (H0.2.1 38 (8 * s.toInt.toNat + i.toInt.toNat)).toInt) (t := true) hS (H0.2.1 39 (8 * s.toInt.toNat + i.toInt.toNat)).toInt.toNat (Int32.ofInt 0) (H.2.1 54 0) (H.2.1 54 1) hc
        have fr2 := xFv_t fr (xFr_v q2)
        have k3 : H1.2.1 54 3 = i := (q2.2.2.1 54 3 (fun h9 => by have := h9.2; omega)).trans e3
        have k5 : H1.2.1 54 5 = H.2.1 54 0 := (q2.2.2.1 54 5 (fun h9 => by have := h9.2; omega)).trans e5
        have k6 : H1.2.1 54 6 = H.2.1 54 1 := (q2.2.2.1 54 6 (fun h9 => by have := h9.2; omega)).trans e6
        have ei : (i + Int32.ofInt 1).toInt = i.toInt + 1 := zw_p1 (by omega)
        obtain ⟨r0, r1, r2, r4⟩ := q3
        refine zw_ld (n := 1) (k := 0) (f := zp_isR) (pc' := 64) rfl rfl l0 rfl rfl ?_
        refine zw_ld (n := 1) (k := 1) (f := zp_isR) (pc' := 65) rfl rfl l1 rfl rfl ?_
        refine zw_ld (n := 1) (k := 2) (f := zp_isR) (pc' := 66) rfl rfl l2 rfl rfl ?_
        refine zw_ld (n := 1) (k := 3) (f := zp_isI) (pc' := 67) rfl rfl l3 rfl rfl ?_
        refine zw_ld (n := 2) (k := 5) (f := zp_isI) (pc' := 69) rfl rfl l5 rfl rfl ?_
        refine zw_c (pc' := 72) (zw_cv (q := 33) (Y := zm_26) WA.1 rfl rfl zm_26_t rfl rfl) rfl rfl rfl rfl rfl (yc_wayOf33 WA ⟨by omega, by omega⟩ ⟨by omega, by omega⟩) ?_
        refine zw_ld (n := 1) (k := 2) (f := zp_isR) (pc' := 73) rfl rfl l2 rfl rfl ?_
        refine zw_ld (n := 1) (k := 3) (f := zp_isI) (pc' := 74) rfl rfl l3 rfl rfl ?_
        refine zw_ld (n := 2) (k := 5) (f := zp_isI) (pc' := 76) rfl rfl l5 rfl rfl ?_
        refine zw_c (pc' := 79) (zw_cv (q := 33) (Y := zm_27) WA.1 rfl rfl zm_27_t rfl rfl) rfl rfl rfl rfl rfl (yc_stepsOf33 WA ⟨by omega, by omega⟩ ⟨by omega, by omega⟩) ?_
        refine zw_s (pc' := 80) rfl rfl ?_
        rw [kw, ks]
        refine zw_cn (pc' := 83) (zw_cv (q := 54) (Y := zm_28) WA.1 rfl rfl zm_28_t rfl rfl) rfl rfl rfl rfl rfl (q1) ?_
        refine zw_ii (pc' := 86) rfl l5 rfl rfl ?_
        refine zw_s (pc' := 27) rfl rfl ?_
        by_cases k : (H1.2.1 54 2).toInt = 0
        · refine ih H1 _ (i + Int32.ofInt 1) W1 (xFv_t hF fr2) (xSC_v fr2 (by decide) hC) (by rw [r0]; exact hb.1) k (r4.trans (hb.2 (r2 ▸ k))) (by omega) (by omega) (zw_gt l0 rfl rfl) (zw_gt l1 rfl rfl) (zw_gt l2 rfl rfl) (zw_gt l3 rfl rfl) (zw_gt l4 rfl rfl) zw_g1 (fun H2 w1 w2 w3 => hP H2 w1 (xFv_t fr2 w2) ?_)
          rw [xVy_y (S := S) (wy := (fun j => H0.2.1 38 (8 * s.toInt.toNat + j))) (st := (fun j => H0.2.1 39 (8 * s.toInt.toNat + j))) (n := n) (k := i) rfl (r2 ▸ k)]
          rw [r0, r1] at w3
          exact w3
        · refine xc_foE22 W1 (zw_gt l0 rfl rfl) (zw_gt l1 rfl rfl) (zw_gt l2 rfl rfl) (zw_gt l3 rfl rfl) (zw_gt l4 rfl rfl) zw_g1 k (hP H1 W1 fr2 ?_)
          rw [xVy_n (S := S) (wy := (fun j => H0.2.1 38 (8 * s.toInt.toNat + j))) (st := (fun j => H0.2.1 39 (8 * s.toInt.toNat + j))) (n := n) (k := i) rfl (fun h9 => k (r2 ▸ h9))]
          exact ⟨r0, r1, r2, r4, k3, fun _ => ⟨k5, k6⟩⟩

theorem xc_fo22 {L : Nat} {σ : Nat → Int32} {d : Nat} {H : zp_H} {s : Int32} {S : xSea} (W : zw_W H) (hS : xOk S) (hC : xSC 22 H S) (hs : 0 ≤ s.toInt ∧ s.toInt < 8) (hm : 0 ≤ (H.2.1 36 s.toInt.toNat).toInt ∧ (H.2.1 36 s.toInt.toNat).toInt ≤ 8) (hw : ∀ j, j < (H.2.1 36 s.toInt.toNat).toInt.toNat → -1 ≤ (H.2.1 38 (8 * s.toInt.toNat + j)).toInt ∧ (H.2.1 38 (8 * s.toInt.toNat + j)).toInt ≤ 3) (hc : xIn S (H.2.1 34 s.toInt.toNat).toInt) : ∃ X, zp_Call L σ (d + 5) 24 [.inr (.inr (some 55)), .inr (.inr (some 23)), .inr (.inr (some 34)), .inl s] H X ∧ ∃ H1, X = (.inl none, H1) ∧ zw_W H1 ∧ xFv 54 H H1 ∧ xE7 54 H1 (xVy S (fun j => H.2.1 38 (8 * s.toInt.toNat + j)) (fun j => H.2.1 39 (8 * s.toInt.toNat + j)) (H.2.1 36 s.toInt.toNat).toInt.toNat (Int32.ofInt 0) (H.2.1 34 s.toInt.toNat) (H.2.1 35 s.toInt.toNat)) := by
  refine zw_met zm_24_t rfl rfl ?_
  refine zw_ld (n := 1) (k := 0) (f := zp_isR) (pc' := 1) rfl rfl rfl rfl rfl ?_
  refine zw_ld (n := 1) (k := 2) (f := zp_isR) (pc' := 2) rfl rfl rfl rfl rfl ?_
  refine zw_gR (q := 33) (pc' := 5) W rfl rfl rfl rfl (W.2 33 1 _ rfl) rfl ?_
  refine zw_ld (n := 1) (k := 3) (f := zp_isI) (pc' := 6) rfl rfl rfl rfl rfl ?_
  refine zw_ia (q := 34) (pc' := 7) W rfl rfl (by decide) (⟨hs.1, by show _ < ((8 : Nat) : Int); omega⟩) rfl rfl ?_
  refine zw_ld (n := 1) (k := 2) (f := zp_isR) (pc' := 8) rfl rfl rfl rfl rfl ?_
  refine zw_gR (q := 33) (pc' := 11) W rfl rfl rfl rfl (W.2 33 2 _ rfl) rfl ?_
  refine zw_ld (n := 1) (k := 3) (f := zp_isI) (pc' := 12) rfl rfl rfl rfl rfl ?_
  refine zw_ia (q := 35) (pc' := 13) W rfl rfl (by decide) (⟨hs.1, by show _ < ((8 : Nat) : Int); omega⟩) rfl rfl ?_
  obtain ⟨_, q1, H1, rfl, W1, q2, r0, r1, r2, r3, r4⟩ := xc_begin (L := L) (σ := σ) (d := d + 2) (x1 := H.2.1 34 s.toInt.toNat) (x2 := H.2.1 35 s.toInt.toNat) W
  have km : H1.2.1 36 s.toInt.toNat = H.2.1 36 s.toInt.toNat := q2.2.2.1 _ _ (by decide)
  refine zw_cn (pc' := 16) (zw_cv (q := 54) (Y := zm_25) W.1 rfl rfl zm_25_t rfl rfl) rfl rfl rfl rfl rfl (q1) ?_
  refine zw_ld (n := 1) (k := 2) (f := zp_isR) (pc' := 17) rfl rfl rfl rfl rfl ?_
  refine zw_gR (q := 33) (pc' := 20) W1 rfl rfl rfl rfl (W1.2 33 3 _ rfl) rfl ?_
  refine zw_ld (n := 1) (k := 3) (f := zp_isI) (pc' := 21) rfl rfl rfl rfl rfl ?_
  refine zw_ia (q := 36) (pc' := 22) W1 rfl rfl (by decide) (⟨hs.1, by show _ < ((8 : Nat) : Int); omega⟩) rfl rfl ?_
  refine zw_st (n := 2) (k := 4) (f := zp_isI) (pc' := 24) rfl rfl rfl rfl rfl ?_
  refine zw_s (pc' := 25) rfl rfl ?_
  refine zw_st (n := 2) (k := 5) (f := zp_isI) (pc' := 27) rfl rfl rfl rfl rfl ?_
  rw [km]
  refine xc_foL22 (H0 := H) (s := s) (m := H.2.1 36 s.toInt.toNat) hS hs hm hw (H.2.1 36 s.toInt.toNat).toInt.toNat H1 _ (Int32.ofInt 0) W1 q2 (xSC_v q2 (by decide) hC) (by rw [r0]; exact hc) (by rw [r2]; decide) r4 (by decide) (by rw [show (Int32.ofInt 0).toInt = 0 by decide]; omega) (zw_gt (zw_gt rfl rfl rfl) rfl rfl) (zw_gt (zw_gt rfl rfl rfl) rfl rfl) (zw_gt (zw_gt rfl rfl rfl) rfl rfl) (zw_gt (zw_gt rfl rfl rfl) rfl rfl) (zw_gt zw_g1 rfl rfl) zw_g1 (fun H2 w1 w2 w3 => ⟨H2, rfl, w1, xFv_t q2 w2, ?_⟩)
  rw [r0, r1] at w3
  exact w3
