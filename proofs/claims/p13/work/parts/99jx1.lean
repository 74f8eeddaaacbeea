/-! ===== explained ===== -/
def zm_120 : za_MI := (yL_explained, method_11_code, 4, (some FieldType.int), 13, 1, 6, [(0, 16, 19, 18)], za_i120)
theorem zm_120_t : za_MT 120 = some zm_120 := rfl
def zm_121 : za_MI := (yX11_explained, prog_1_method_15_code, 3, (some FieldType.boolean), 11, 1, 6, [], za_i121)
theorem zm_121_t : za_MT 121 = some zm_121 := rfl
def zm_224 : za_MI := (yX12_explained, prog_14_method_62_code, 4, (some FieldType.boolean), 12, 0, 0, [], za_i224)
theorem zm_224_t : za_MT 224 = some zm_224 := rfl
theorem xSt_h {S : xSea} {c hr hr' d : Int} : xSt S c hr d false = xSt S c hr' d false := by
  by_cases h : (xS1 S c d).1 = 0
  · rw [xSt_0 h, xSt_0 h, xS2_n xDr_f, xS2_n xDr_f]
  · rw [xSt_1 h, xSt_1 h]
theorem xMk_z {S : xSea} {d : Int} {t : Bool} {i c h : Int32} : xMk S d t 0 i c h = (c, h, Int32.ofInt 0, Int32.ofInt 0) := rfl
theorem xMk_h {S : xSea} {d : Int} : ∀ (n : Nat) (i i' c h h' : Int32), (xMk S d false n i c h).2.2.1 = (xMk S d false n i' c h').2.2.1 := by
  intro n
  induction n with
  | zero =>
    intro i i' c h h'
    rw [xMk_z, xMk_z]
  | succ n ih =>
    intro i i' c h h'
    have e : xSt S c.toInt h.toInt d false = xSt S c.toInt h'.toInt d false := xSt_h
    by_cases k : (xSt S c.toInt h'.toInt d false).1 = 0
    · have k' : (xSt S c.toInt h.toInt d false).1 = 0 := by rw [e]; exact k
      rw [xMk_y k, xMk_y k', e]
      exact ih _ _ _ _ _
    · have k' : ¬ (xSt S c.toInt h.toInt d false).1 = 0 := by rw [e]; exact k
      rw [xMk_n k, xMk_n k', e]
/-- 1, if a mark is done where no current drives -/
def xEv (S : xSea) (dw : Int32) (n : Nat) (c : Int32) : Int32 := if (xMk S dw.toInt false n (Int32.ofInt 0) c (Int32.ofInt 0)).2.2.1.toInt = 0 then Int32.ofInt 1 else Int32.ofInt 0
theorem xEv_0 {S : xSea} {dw c : Int32} : xEv S dw 0 c = Int32.ofInt 1 := if_pos (show (Int32.ofInt 0).toInt = 0 by decide)
theorem xEv_y {S : xSea} {dw c h : Int32} {n : Nat} (k : (xSt S c.toInt h.toInt dw.toInt false).1 = 0) : xEv S dw (n + 1) c = xEv S dw n (Int32.ofInt (xSt S c.toInt h.toInt dw.toInt false).2) := by
  have e : xSt S c.toInt h.toInt dw.toInt false = xSt S c.toInt (Int32.ofInt 0).toInt dw.toInt false := xSt_h
  rw [e] at k ⊢
  unfold xEv
  rw [xMk_y k, xMk_h n _ (Int32.ofInt 0) _ _ (Int32.ofInt 0)]
theorem xEv_n {S : xSea} {dw c h : Int32} {n : Nat} (hS : xOk S) (hc : xIn S c.toInt) (k : ¬ (xSt S c.toInt h.toInt dw.toInt false).1 = 0) : xEv S dw (n + 1) c = Int32.ofInt 0 := by
  have e : xSt S c.toInt h.toInt dw.toInt false = xSt S c.toInt (Int32.ofInt 0).toInt dw.toInt false := xSt_h
  rw [e] at k
  unfold xEv
  rw [xMk_n k]
  exact if_neg (fun h9 => k ((xSt_o hS hc).1.symm.trans h9))
theorem xEv_m {S : xSea} {dw c h : Int32} {n : Nat} : (if (xMk S dw.toInt false n (Int32.ofInt 0) c h).2.2.1.toInt = 0 then Int32.ofInt 1 else Int32.ofInt 0) = xEv S dw n c := by
  unfold xEv
  rw [xMk_h n _ (Int32.ofInt 0) _ h (Int32.ofInt 0)]
/-- where a voyage was over, a mark had begun -/
theorem xVy_e {S : xSea} {wy st : Nat → Int32} (hS : xOk S) : ∀ (n : Nat) (k c h : Int32), xIn S c.toInt → 0 ≤ k.toInt → k.toInt + n ≤ 8 → ¬ (xVy S wy st n k c h).2.2.1.toInt = 0 → 0 ≤ (xVy S wy st n k c h).2.2.2.2.1.toInt ∧ (xVy S wy st n k c h).2.2.2.2.1.toInt < k.toInt + n ∧ xIn S (xVy S wy st n k c h).2.2.2.2.2.1.toInt := by
  intro n
  induction n with
  | zero => exact fun k c h _ _ _ h9 => absurd (show (Int32.ofInt 0).toInt = 0 by decide) h9
  | succ n ih =>
    intro k c h hc h0 h1 h9
    by_cases h4 : (xMk S (wy k.toInt.toNat).toInt true (st k.toInt.toNat).toInt.toNat (Int32.ofInt 0) c h).2.2.1.toInt = 0
    · rw [xVy_y rfl h4] at h9 ⊢
      have e3 : (k + Int32.ofInt 1).toInt = k.toInt + 1 := zw_p1 (by omega)
      obtain ⟨a, b, b2⟩ := ih _ _ _ (xMk_b hS _ _ _ _ hc).1 (by omega) (by omega) h9
      exact ⟨a, by omega, b2⟩
    · rw [xVy_n rfl h4]
      exact ⟨h0, by show k.toInt < _; omega, hc⟩
/-- explained, of a voyage -/
def xXp (S : xSea) (wy st : Nat → Int32) (r : Int32 × Int32 × Int32 × Int32 × Int32 × Int32 × Int32) : Int32 := if r.2.2.1.toInt = 2 then xEv S (wy r.2.2.2.2.1.toInt.toNat) (st r.2.2.2.2.1.toInt.toNat).toInt.toNat r.2.2.2.2.2.1 else Int32.ofInt 0
theorem xEv_01 (S : xSea) (dw : Int32) (n : Nat) (c : Int32) : xEv S dw n c = Int32.ofInt 0 ∨ xEv S dw n c = Int32.ofInt 1 := by
  unfold xEv
  by_cases h : (xMk S dw.toInt false n (Int32.ofInt 0) c (Int32.ofInt 0)).2.2.1.toInt = 0
  · exact Or.inr (if_pos h)
  · exact Or.inl (if_neg h)
theorem xXp_01 (S : xSea) (wy st : Nat → Int32) (r : Int32 × Int32 × Int32 × Int32 × Int32 × Int32 × Int32) : xXp S wy st r = Int32.ofInt 0 ∨ xXp S wy st r = Int32.ofInt 1 := by
  unfold xXp
  by_cases h : r.2.2.1.toInt = 2
  · rw [if_pos h]
    exact xEv_01 _ _ _ _
  · exact Or.inl (if_neg h)

theorem yc_ex0 {L : Nat} {σ : Nat → Int32} {d : Nat} {H : zp_H} {x1 : Int32} (hB : zk_Bs (zB_c 0) zg zJc H) {S : xSea} (hS : xOk S) (hC : xSC 2 H S) (hs : 0 ≤ x1.toInt ∧ x1.toInt < (H.2.1 13 0).toInt) (hm : 0 ≤ (H.2.1 16 x1.toInt.toNat).toInt ∧ (H.2.1 16 x1.toInt.toNat).toInt ≤ 8) (hw : ∀ j, j < (H.2.1 16 x1.toInt.toNat).toInt.toNat → -1 ≤ (H.2.1 18 (8 * x1.toInt.toNat + j)).toInt ∧ (H.2.1 18 (8 * x1.toInt.toNat + j)).toInt ≤ 3) (hc : xIn S (H.2.1 14 x1.toInt.toNat).toInt) : ∃ X, zp_Call L σ (d + 6) 121 [.inr (.inr (some 1)), .inl x1] H X ∧ ∃ H1, X = (.inl (some (.inl (xXp S (fun j => H.2.1 18 (8 * x1.toInt.toNat + j)) (fun j => H.2.1 19 (8 * x1.toInt.toNat + j)) (xVy S (fun j => H.2.1 18 (8 * x1.toInt.toNat + j)) (fun j => H.2.1 19 (8 * x1.toInt.toNat + j)) (H.2.1 16 x1.toInt.toNat).toInt.toNat (Int32.ofInt 0) (H.2.1 14 x1.toInt.toNat) (H.2.1 15 x1.toInt.toNat))))), H1) ∧ xFv 54 H H1 := by
  have W := zB_Wd (zB_dn (zB_Bc hB))
  have g5 : H.2.2.2 0 5 = some 3 := hB.2.1 0 5 _ rfl
  have g6 : H.2.2.2 0 6 = some 14 := hB.2.1 0 6 _ rfl
  have g7 : H.2.2.2 0 7 = some 23 := hB.2.1 0 7 _ rfl
  have g8 : H.2.2.2 0 8 = some 34 := hB.2.1 0 8 _ rfl
  have r13_0 := zB_fr1 (zB_dn (zB_Bc hB)) (p := 13) (k := 0) (r := (0, 8)) rfl
  have r13_0 : 0 ≤ (H.2.1 13 0).toInt ∧ (H.2.1 13 0).toInt ≤ 8 := r13_0
  obtain ⟨_, q1, H1, rfl, W1, q2, r0, r1, r2, r4, r3, r5⟩ := xc_fo2 (L := L) (σ := σ) (d := d) (s := x1) W hS hC ⟨hs.1, by omega⟩ hm hw hc
  have hE := xVy_e (wy := (fun j => H.2.1 18 (8 * x1.toInt.toNat + j))) (st := (fun j => H.2.1 19 (8 * x1.toInt.toNat + j))) hS (H.2.1 16 x1.toInt.toNat).toInt.toNat (Int32.ofInt 0) (H.2.1 14 x1.toInt.toNat) (H.2.1 15 x1.toInt.toNat) hc (by decide) (by rw [show (Int32.ofInt 0).toInt = 0 by decide]; omega)
  generalize hr : (xVy S (fun j => H.2.1 18 (8 * x1.toInt.toNat + j)) (fun j => H.2.1 19 (8 * x1.toInt.toNat + j)) (H.2.1 16 x1.toInt.toNat).toInt.toNat (Int32.ofInt 0) (H.2.1 14 x1.toInt.toNat) (H.2.1 15 x1.toInt.toNat)) = r at r0 r1 r2 r3 r4 r5 hE ⊢
  have f5 : H1.2.2.2 0 5 = some 3 := (congrFun (congrFun q2.2.1 0) 5).trans g5
  have f6 : H1.2.2.2 0 6 = some 14 := (congrFun (congrFun q2.2.1 0) 6).trans g6
  refine zw_met zm_121_t rfl rfl ?_
  refine zw_ld (n := 1) (k := 0) (f := zp_isR) (pc' := 1) rfl rfl rfl rfl rfl ?_
  refine zw_ld (n := 1) (k := 1) (f := zp_isI) (pc' := 2) rfl rfl rfl rfl rfl ?_
  refine zw_ctn (pc' := 5) (c' := (1, 6)) (zw_cv (q := 0) (Y := zm_108) W.1 rfl rfl zm_108_t rfl rfl) (zw_pb_ok rfl) rfl rfl rfl rfl (yc_ns1_0 hB hs) ?_
  refine zw_ld (n := 1) (k := 0) (f := zp_isR) (pc' := 6) rfl rfl rfl rfl rfl ?_
  refine zw_gR (q := 0) (pc' := 9) W rfl rfl rfl rfl (W.2 0 12 _ rfl) rfl ?_
  refine zw_ld (n := 1) (k := 0) (f := zp_isR) (pc' := 10) rfl rfl rfl rfl rfl ?_
  refine zw_gR (q := 0) (pc' := 13) W rfl rfl rfl rfl g5 rfl ?_
  refine zw_ld (n := 1) (k := 0) (f := zp_isR) (pc' := 14) rfl rfl rfl rfl rfl ?_
  refine zw_gR (q := 0) (pc' := 17) W rfl rfl rfl rfl g6 rfl ?_
  refine zw_ld (n := 1) (k := 1) (f := zp_isI) (pc' := 18) rfl rfl rfl rfl rfl ?_
  refine zw_cn (pc' := 21) (zw_cv (q := 54) (Y := zm_24) W.1 rfl rfl zm_24_t rfl rfl) rfl rfl rfl rfl rfl (q1) ?_
  refine zw_ld (n := 1) (k := 0) (f := zp_isR) (pc' := 22) rfl rfl rfl rfl rfl ?_
  refine zw_gR (q := 0) (pc' := 25) W1 rfl rfl rfl rfl (W1.2 0 12 _ rfl) rfl ?_
  refine zw_gI (q := 54) (pc' := 28) W1 rfl rfl rfl rfl rfl rfl ?_
  refine zw_s (pc' := 29) rfl rfl ?_
  refine zw_beq2 (g := 34) (pc' := 32) rfl rfl rfl rfl (rfl : _ = (2 : Int)) (fun h2 => ?_) (fun h2 => ?_)
  · have h2 : (H1.2.1 54 2).toInt = 2 := h2
    rw [r2] at h2
    obtain ⟨e0, e1, e2⟩ := hE (by omega)
    rw [show (Int32.ofInt 0).toInt = 0 by decide] at e1
    obtain ⟨e5, e6⟩ := r5 (by omega)
    have hj : r.2.2.2.2.1.toInt.toNat < (H.2.1 16 x1.toInt.toNat).toInt.toNat := by omega
    obtain ⟨_, p1, H2, rfl, W2, p2, b0, b1, b2, b3, b4⟩ := xc_begin (L := L) (σ := σ) (d := d + 3) (x1 := H1.2.1 54 5) (x2 := H1.2.1 54 6) W1
    have fr := xFv_t q2 p2
    have k5 : H2.2.2.2 0 5 = some 3 := (congrFun (congrFun p2.2.1 0) 5).trans f5
    have k6 : H2.2.2.2 0 6 = some 14 := (congrFun (congrFun p2.2.1 0) 6).trans f6
    have kw : ∀ j, H2.2.1 18 j = H.2.1 18 j := fun j => fr.2.2.1 _ _ (by decide)
    have ks : ∀ j, H2.2.1 19 j = H.2.1 19 j := fun j => fr.2.2.1 _ _ (by decide)
    have hd := hw _ hj
    obtain ⟨_, m1, H3, rfl, W3, m2, n0, n1, n2, n4⟩ := xc_fm2_0 (L := L) (σ := σ) (d := d + 1) (S := S) (x2 := H.2.1 18 (8 * x1.toInt.toNat + r.2.2.2.2.1.toInt.toNat)) (x3 := H.2.1 19 (8 * x1.toInt.toNat + r.2.2.2.2.1.toInt.toNat)) W2 hS (xSC_v fr (by decide) hC) (by rw [b0, e5]; exact e2) (by rw [b2]; decide) hd
    rw [b0, b1, e5] at n2
    have f3 := xFv_t fr (xFr_v m2)
    refine zw_ld (n := 1) (k := 0) (f := zp_isR) (pc' := 35) rfl rfl rfl rfl rfl ?_
    refine zw_gR (q := 0) (pc' := 38) W1 rfl rfl rfl rfl (W1.2 0 12 _ rfl) rfl ?_
    refine zw_gI (q := 54) (pc' := 41) W1 rfl rfl rfl rfl rfl rfl ?_
    refine zw_st (n := 1) (k := 2) (f := zp_isI) (pc' := 42) rfl rfl rfl rfl rfl ?_
    refine zw_ld (n := 1) (k := 0) (f := zp_isR) (pc' := 43) rfl rfl (zw_gt rfl rfl rfl) rfl rfl ?_
    refine zw_gR (q := 0) (pc' := 46) W1 rfl rfl rfl rfl (W1.2 0 12 _ rfl) rfl ?_
    refine zw_ld (n := 1) (k := 0) (f := zp_isR) (pc' := 47) rfl rfl (zw_gt rfl rfl rfl) rfl rfl ?_
    refine zw_gR (q := 0) (pc' := 50) W1 rfl rfl rfl rfl (W1.2 0 12 _ rfl) rfl ?_
    refine zw_gI (q := 54) (pc' := 53) W1 rfl rfl rfl rfl rfl rfl ?_
    refine zw_ld (n := 1) (k := 0) (f := zp_isR) (pc' := 54) rfl rfl (zw_gt rfl rfl rfl) rfl rfl ?_
    refine zw_gR (q := 0) (pc' := 57) W1 rfl rfl rfl rfl (W1.2 0 12 _ rfl) rfl ?_
    refine zw_gI (q := 54) (pc' := 60) W1 rfl rfl rfl rfl rfl rfl ?_
    refine zw_cn (pc' := 63) (zw_cv (q := 54) (Y := zm_25) W1.1 rfl rfl zm_25_t rfl rfl) rfl rfl rfl rfl rfl (p1) ?_
    rw [r3]
    refine zw_ld (n := 1) (k := 0) (f := zp_isR) (pc' := 64) rfl rfl (zw_gt rfl rfl rfl) rfl rfl ?_
    refine zw_gR (q := 0) (pc' := 67) W2 rfl rfl rfl rfl (W2.2 0 12 _ rfl) rfl ?_
    refine zw_ld (n := 1) (k := 0) (f := zp_isR) (pc' := 68) rfl rfl (zw_gt rfl rfl rfl) rfl rfl ?_
    refine zw_gR (q := 0) (pc' := 71) W2 rfl rfl rfl rfl k5 rfl ?_
    refine zw_ld (n := 1) (k := 0) (f := zp_isR) (pc' := 72) rfl rfl (zw_gt rfl rfl rfl) rfl rfl ?_
    refine zw_gR (q := 0) (pc' := 75) W2 rfl rfl rfl rfl k6 rfl ?_
    refine zw_ld (n := 1) (k := 1) (f := zp_isI) (pc' := 76) rfl rfl (zw_gt rfl rfl rfl) rfl rfl ?_
    refine zw_ld (n := 1) (k := 2) (f := zp_isI) (pc' := 77) rfl rfl zw_g1 rfl rfl ?_
    refine zw_c (pc' := 80) (zw_cv (q := 13) (Y := zm_26) W2.1 rfl rfl zm_26_t rfl rfl) rfl rfl rfl rfl rfl (yc_wayOf13 W2 ⟨by omega, by omega⟩ ⟨by omega, by omega⟩) ?_
    refine zw_ld (n := 1) (k := 0) (f := zp_isR) (pc' := 81) rfl rfl (zw_gt rfl rfl rfl) rfl rfl ?_
    refine zw_gR (q := 0) (pc' := 84) W2 rfl rfl rfl rfl k6 rfl ?_
    refine zw_ld (n := 1) (k := 1) (f := zp_isI) (pc' := 85) rfl rfl (zw_gt rfl rfl rfl) rfl rfl ?_
    refine zw_ld (n := 1) (k := 2) (f := zp_isI) (pc' := 86) rfl rfl zw_g1 rfl rfl ?_
    refine zw_c (pc' := 89) (zw_cv (q := 13) (Y := zm_27) W2.1 rfl rfl zm_27_t rfl rfl) rfl rfl rfl rfl rfl (yc_stepsOf13 W2 ⟨by omega, by omega⟩ ⟨by omega, by omega⟩) ?_
    refine zw_s (pc' := 90) rfl rfl ?_
    rw [kw, ks]
    refine zw_cn (pc' := 93) (zw_cv (q := 54) (Y := zm_28) W2.1 rfl rfl zm_28_t rfl rfl) rfl rfl rfl rfl rfl (m1) ?_
    refine zw_ld (n := 1) (k := 0) (f := zp_isR) (pc' := 94) rfl rfl (zw_gt rfl rfl rfl) rfl rfl ?_
    refine zw_gR (q := 0) (pc' := 97) W3 rfl rfl rfl rfl (W3.2 0 12 _ rfl) rfl ?_
    refine zw_gI (q := 54) (pc' := 100) W3 rfl rfl rfl rfl rfl rfl ?_
    refine zw_bne1 (g := 107) (pc' := 103) rfl rfl rfl rfl (fun h4 => ?_) (fun h4 => ?_)
    · have h4 : ¬ (H3.2.1 54 2).toInt = 0 := h4
      rw [n2] at h4
      have eE : Int32.ofInt 0 = (xEv S (H.2.1 18 (8 * x1.toInt.toNat + r.2.2.2.2.1.toInt.toNat)) (H.2.1 19 (8 * x1.toInt.toNat + r.2.2.2.2.1.toInt.toNat)).toInt.toNat r.2.2.2.2.2.1) := (if_neg h4).symm.trans (xEv_m (h := H1.2.1 54 6))
      refine zw_s (pc' := 108) rfl rfl ?_
      refine zw_rzg rfl rfl (Or.inl rfl) ⟨by decide, by decide⟩ ?_
      exact ⟨H3, x_rv (eE.trans (show (xEv S (H.2.1 18 (8 * x1.toInt.toNat + r.2.2.2.2.1.toInt.toNat)) (H.2.1 19 (8 * x1.toInt.toNat + r.2.2.2.2.1.toInt.toNat)).toInt.toNat r.2.2.2.2.2.1) = xXp S (fun j => H.2.1 18 (8 * x1.toInt.toNat + j)) (fun j => H.2.1 19 (8 * x1.toInt.toNat + j)) r from (if_pos h2).symm)), f3⟩
    · have h4 :  (H3.2.1 54 2).toInt = 0 := h4
      rw [n2] at h4
      have eE : Int32.ofInt 1 = (xEv S (H.2.1 18 (8 * x1.toInt.toNat + r.2.2.2.2.1.toInt.toNat)) (H.2.1 19 (8 * x1.toInt.toNat + r.2.2.2.2.1.toInt.toNat)).toInt.toNat r.2.2.2.2.2.1) := (if_pos h4).symm.trans (xEv_m (h := H1.2.1 54 6))
      refine zw_s (pc' := 104) rfl rfl ?_
      refine zw_s (pc' := 108) rfl rfl ?_
      refine zw_rzg rfl rfl (Or.inr rfl) ⟨by decide, by decide⟩ ?_
      exact ⟨H3, x_rv (eE.trans (show (xEv S (H.2.1 18 (8 * x1.toInt.toNat + r.2.2.2.2.1.toInt.toNat)) (H.2.1 19 (8 * x1.toInt.toNat + r.2.2.2.2.1.toInt.toNat)).toInt.toNat r.2.2.2.2.2.1) = xXp S (fun j => H.2.1 18 (8 * x1.toInt.toNat + j)) (fun j => H.2.1 19 (8 * x1.toInt.toNat + j)) r from (if_pos h2).symm)), f3⟩
  · have h2 : ¬ (H1.2.1 54 2).toInt = 2 := h2
    rw [r2] at h2
    refine zw_s (pc' := 33) rfl rfl ?_
    refine zw_rzg rfl rfl (Or.inl rfl) ⟨by decide, by decide⟩ ?_
    exact ⟨H1, x_rv (show Int32.ofInt 0 = xXp S (fun j => H.2.1 18 (8 * x1.toInt.toNat + j)) (fun j => H.2.1 19 (8 * x1.toInt.toNat + j)) r from (if_neg h2).symm), q2⟩

theorem yl_ex0_0 {L : Nat} {σ : Nat → Int32} {d : Nat} {H : zp_H} {x1 : Int32} (hB : zk_Bs (zB_c 0) zg zJc H) {S : xSea} (hS : xOk S) (hC : xSC 2 H S) (hs : 0 ≤ x1.toInt ∧ x1.toInt < (H.2.1 13 0).toInt) (hm : 0 ≤ (H.2.1 16 x1.toInt.toNat).toInt ∧ (H.2.1 16 x1.toInt.toNat).toInt ≤ 8) (hw : ∀ j, j < (H.2.1 16 x1.toInt.toNat).toInt.toNat → -1 ≤ (H.2.1 18 (8 * x1.toInt.toNat + j)).toInt ∧ (H.2.1 18 (8 * x1.toInt.toNat + j)).toInt ≤ 3) (hc : xIn S (H.2.1 14 x1.toInt.toNat).toInt) (hv : (xXp S (fun j => H.2.1 18 (8 * x1.toInt.toNat + j)) (fun j => H.2.1 19 (8 * x1.toInt.toNat + j)) (xVy S (fun j => H.2.1 18 (8 * x1.toInt.toNat + j)) (fun j => H.2.1 19 (8 * x1.toInt.toNat + j)) (H.2.1 16 x1.toInt.toNat).toInt.toNat (Int32.ofInt 0) (H.2.1 14 x1.toInt.toNat) (H.2.1 15 x1.toInt.toNat))) = Int32.ofInt 0) : ∃ H1, zp_Call L σ (d + 7) 120 [.inr (.inr (some 1)), .inl x1, .inr (.inr (some 105))] H (.inl (some (.inl (Int32.ofInt 0))), zw_J H1 104 0 (Int64.ofNat 0)) ∧ xFv 54 H H1 := by
  obtain ⟨_, q1, H1, rfl, q2⟩ := yc_ex0 (L := L) (σ := σ) (d := d) hB hS hC hs hm hw hc
  rw [hv] at q1
  have W := zB_Wd (zB_dn (zB_Bc hB))
  have W1 := xFv_W q2 W
  refine ⟨H1, zw_ex (zw_met zm_120_t rfl rfl ?_), q2⟩
  refine zw_ld (n := 1) (k := 2) (f := zp_isR) (pc' := 1) rfl rfl rfl rfl rfl ?_
  refine zw_s (pc' := 2) rfl rfl ?_
  refine zw_ld (n := 1) (k := 0) (f := zp_isR) (pc' := 3) rfl rfl rfl rfl rfl ?_
  refine zw_ld (n := 1) (k := 1) (f := zp_isI) (pc' := 4) rfl rfl rfl rfl rfl ?_
  refine zw_ct (pc' := 7) (c' := (1, 6)) (zw_cv (q := 0) (Y := zm_121) W.1 rfl rfl zm_121_t rfl rfl) (zw_pb_ok rfl) rfl rfl rfl rfl (q1) ?_
  refine zw_beq1 (g := 14) (pc' := 10) rfl rfl rfl (rfl : _ = (0 : Int)) (fun h1 => ?_) (fun h9 => absurd h9 (by decide))
  refine zw_s (pc' := 15) rfl rfl ?_
  refine zw_ls (q := 104) (pc' := 16) W1 rfl rfl (⟨by decide, by decide⟩) rfl ?_
  refine zw_s (pc' := 22) rfl rfl ?_
  refine zw_s (pc' := 23) rfl rfl ?_
  refine zw_rig rfl rfl ⟨by decide, by decide⟩ ?_
  rfl

theorem yl_ex0_1 {L : Nat} {σ : Nat → Int32} {d : Nat} {H : zp_H} {x1 : Int32} (hB : zk_Bs (zB_c 0) zg zJc H) {S : xSea} (hS : xOk S) (hC : xSC 2 H S) (hs : 0 ≤ x1.toInt ∧ x1.toInt < (H.2.1 13 0).toInt) (hm : 0 ≤ (H.2.1 16 x1.toInt.toNat).toInt ∧ (H.2.1 16 x1.toInt.toNat).toInt ≤ 8) (hw : ∀ j, j < (H.2.1 16 x1.toInt.toNat).toInt.toNat → -1 ≤ (H.2.1 18 (8 * x1.toInt.toNat + j)).toInt ∧ (H.2.1 18 (8 * x1.toInt.toNat + j)).toInt ≤ 3) (hc : xIn S (H.2.1 14 x1.toInt.toNat).toInt) (hv : (xXp S (fun j => H.2.1 18 (8 * x1.toInt.toNat + j)) (fun j => H.2.1 19 (8 * x1.toInt.toNat + j)) (xVy S (fun j => H.2.1 18 (8 * x1.toInt.toNat + j)) (fun j => H.2.1 19 (8 * x1.toInt.toNat + j)) (H.2.1 16 x1.toInt.toNat).toInt.toNat (Int32.ofInt 0) (H.2.1 14 x1.toInt.toNat) (H.2.1 15 x1.toInt.toNat))) = Int32.ofInt 1) : ∃ H1, zp_Call L σ (d + 7) 120 [.inr (.inr (some 1)), .inl x1, .inr (.inr (some 105))] H (.inl (some (.inl (Int32.ofInt 0))), zw_J H1 104 0 (Int64.ofNat 1)) ∧ xFv 54 H H1 := by
  obtain ⟨_, q1, H1, rfl, q2⟩ := yc_ex0 (L := L) (σ := σ) (d := d) hB hS hC hs hm hw hc
  rw [hv] at q1
  have W := zB_Wd (zB_dn (zB_Bc hB))
  have W1 := xFv_W q2 W
  refine ⟨H1, zw_ex (zw_met zm_120_t rfl rfl ?_), q2⟩
  refine zw_ld (n := 1) (k := 2) (f := zp_isR) (pc' := 1) rfl rfl rfl rfl rfl ?_
  refine zw_s (pc' := 2) rfl rfl ?_
  refine zw_ld (n := 1) (k := 0) (f := zp_isR) (pc' := 3) rfl rfl rfl rfl rfl ?_
  refine zw_ld (n := 1) (k := 1) (f := zp_isI) (pc' := 4) rfl rfl rfl rfl rfl ?_
  refine zw_ct (pc' := 7) (c' := (1, 6)) (zw_cv (q := 0) (Y := zm_121) W.1 rfl rfl zm_121_t rfl rfl) (zw_pb_ok rfl) rfl rfl rfl rfl (q1) ?_
  refine zw_beq1 (g := 14) (pc' := 10) rfl rfl rfl (rfl : _ = (1 : Int)) (fun h9 => absurd h9 (by decide)) (fun h1 => ?_)
  refine zw_s (pc' := 11) rfl rfl ?_
  refine zw_s (pc' := 15) rfl rfl ?_
  refine zw_ls (q := 104) (pc' := 16) W1 rfl rfl (⟨by decide, by decide⟩) rfl ?_
  refine zw_s (pc' := 22) rfl rfl ?_
  refine zw_s (pc' := 23) rfl rfl ?_
  refine zw_rig rfl rfl ⟨by decide, by decide⟩ ?_
  rfl

theorem yc_exn0 {L : Nat} {σ : Nat → Int32} {d : Nat} {H : zp_H} {x1 : Int32} (hB : zk_Bs (zB_c 0) zg zJc H) (h : ¬ (0 ≤ x1.toInt ∧ x1.toInt < (H.2.1 13 0).toInt)) : zp_Call L σ (d + 2) 121 [.inr (.inr (some 1)), .inl x1] H (.inr 0, H) := by
  have W := zB_Wd (zB_dn (zB_Bc hB))
  have g5 : H.2.2.2 0 5 = some 3 := hB.2.1 0 5 _ rfl
  have g6 : H.2.2.2 0 6 = some 14 := hB.2.1 0 6 _ rfl
  have g7 : H.2.2.2 0 7 = some 23 := hB.2.1 0 7 _ rfl
  have g8 : H.2.2.2 0 8 = some 34 := hB.2.1 0 8 _ rfl
  refine zw_ex (zw_met zm_121_t rfl rfl ?_)
  refine zw_ld (n := 1) (k := 0) (f := zp_isR) (pc' := 1) rfl rfl rfl rfl rfl ?_
  refine zw_ld (n := 1) (k := 1) (f := zp_isI) (pc' := 2) rfl rfl rfl rfl rfl ?_
  refine zw_cthr (ex := 0) (zw_cv (q := 0) (Y := zm_108) W.1 rfl rfl zm_108_t rfl rfl) (zw_pb_ok rfl) rfl rfl (yc_ns0_0 hB h) ?_
  rfl

theorem yl_exn0 {L : Nat} {σ : Nat → Int32} {d : Nat} {H : zp_H} {x1 : Int32} (hB : zk_Bs (zB_c 0) zg zJc H) (h : ¬ (0 ≤ x1.toInt ∧ x1.toInt < (H.2.1 13 0).toInt)) : zp_Call L σ (d + 3) 120 [.inr (.inr (some 1)), .inl x1, .inr (.inr (some 105))] H (.inl (some (.inl (Int32.ofInt 1))), H) := by
  have W := zB_Wd (zB_dn (zB_Bc hB))
  refine zw_ex (zw_met zm_120_t rfl rfl ?_)
  refine zw_ld (n := 1) (k := 2) (f := zp_isR) (pc' := 1) rfl rfl rfl rfl rfl ?_
  refine zw_s (pc' := 2) rfl rfl ?_
  refine zw_ld (n := 1) (k := 0) (f := zp_isR) (pc' := 3) rfl rfl rfl rfl rfl ?_
  refine zw_ld (n := 1) (k := 1) (f := zp_isI) (pc' := 4) rfl rfl rfl rfl rfl ?_
  refine zw_cex (ex := 0) (hp9 := 19) (pc' := 20) (c' := (1, 6)) (zw_cv (q := 0) (Y := zm_121) W.1 rfl rfl zm_121_t rfl rfl) (zw_pb_ok rfl) rfl rfl rfl rfl rfl rfl rfl (yc_exn0 hB h) ?_
  refine zw_s (pc' := 21) rfl rfl ?_
  refine zw_rig rfl rfl ⟨by decide, by decide⟩ ?_
  rfl

theorem yc_ex3 {L : Nat} {σ : Nat → Int32} {d : Nat} {H : zp_H} {x1 : Int32} (hB : zk_Bs (zB_c 3) zg zJc H) {S : xSea} (hS : xOk S) (hC : xSC 22 H S) (hs : 0 ≤ x1.toInt ∧ x1.toInt < (H.2.1 33 0).toInt) (hm : 0 ≤ (H.2.1 36 x1.toInt.toNat).toInt ∧ (H.2.1 36 x1.toInt.toNat).toInt ≤ 8) (hw : ∀ j, j < (H.2.1 36 x1.toInt.toNat).toInt.toNat → -1 ≤ (H.2.1 38 (8 * x1.toInt.toNat + j)).toInt ∧ (H.2.1 38 (8 * x1.toInt.toNat + j)).toInt ≤ 3) (hc : xIn S (H.2.1 34 x1.toInt.toNat).toInt) : ∃ X, zp_Call L σ (d + 6) 121 [.inr (.inr (some 1)), .inl x1] H X ∧ ∃ H1, X = (.inl (some (.inl (xXp S (fun j => H.2.1 38 (8 * x1.toInt.toNat + j)) (fun j => H.2.1 39 (8 * x1.toInt.toNat + j)) (xVy S (fun j => H.2.1 38 (8 * x1.toInt.toNat + j)) (fun j => H.2.1 39 (8 * x1.toInt.toNat + j)) (H.2.1 36 x1.toInt.toNat).toInt.toNat (Int32.ofInt 0) (H.2.1 34 x1.toInt.toNat) (H.2.1 35 x1.toInt.toNat))))), H1) ∧ xFv 54 H H1 := by
  have W := zB_Wd (zB_dn (zB_Bc hB))
  have g5 : H.2.2.2 0 5 = some 23 := hB.2.1 0 5 _ rfl
  have g6 : H.2.2.2 0 6 = some 34 := hB.2.1 0 6 _ rfl
  have g7 : H.2.2.2 0 7 = some 3 := hB.2.1 0 7 _ rfl
  have g8 : H.2.2.2 0 8 = some 14 := hB.2.1 0 8 _ rfl
  have r33_0 := zB_fr1 (zB_dn (zB_Bc hB)) (p := 33) (k := 0) (r := (0, 8)) rfl
  have r33_0 : 0 ≤ (H.2.1 33 0).toInt ∧ (H.2.1 33 0).toInt ≤ 8 := r33_0
  obtain ⟨_, q1, H1, rfl, W1, q2, r0, r1, r2, r4, r3, r5⟩ := xc_fo22 (L := L) (σ := σ) (d := d) (s := x1) W hS hC ⟨hs.1, by omega⟩ hm hw hc
  have hE := xVy_e (wy := (fun j => H.2.1 38 (8 * x1.toInt.toNat + j))) (st := (fun j => H.2.1 39 (8 * x1.toInt.toNat + j))) hS (H.2.1 36 x1.toInt.toNat).toInt.toNat (Int32.ofInt 0) (H.2.1 34 x1.toInt.toNat) (H.2.1 35 x1.toInt.toNat) hc (by decide) (by rw [show (Int32.ofInt 0).toInt = 0 by decide]; omega)
  generalize hr : (xVy S (fun j => H.2.1 38 (8 * x1.toInt.toNat + j)) (fun j => H.2.1 39 (8 * x1.toInt.toNat + j)) (H.2.1 36 x1.toInt.toNat).toInt.toNat (Int32.ofInt 0) (H.2.1 34 x1.toInt.toNat) (H.2.1 35 x1.toInt.toNat)) = r at r0 r1 r2 r3 r4 r5 hE ⊢
  have f5 : H1.2.2.2 0 5 = some 23 := (congrFun (congrFun q2.2.1 0) 5).trans g5
  have f6 : H1.2.2.2 0 6 = some 34 := (congrFun (congrFun q2.2.1 0) 6).trans g6
  refine zw_met zm_121_t rfl rfl ?_
  refine zw_ld (n := 1) (k := 0) (f := zp_isR) (pc' := 1) rfl rfl rfl rfl rfl ?_
  refine zw_ld (n := 1) (k := 1) (f := zp_isI) (pc' := 2) rfl rfl rfl rfl rfl ?_
  refine zw_ctn (pc' := 5) (c' := (1, 6)) (zw_cv (q := 0) (Y := zm_108) W.1 rfl rfl zm_108_t rfl rfl) (zw_pb_ok rfl) rfl rfl rfl rfl (yc_ns1_3 hB hs) ?_
  refine zw_ld (n := 1) (k := 0) (f := zp_isR) (pc' := 6) rfl rfl rfl rfl rfl ?_
  refine zw_gR (q := 0) (pc' := 9) W rfl rfl rfl rfl (W.2 0 12 _ rfl) rfl ?_
  refine zw_ld (n := 1) (k := 0) (f := zp_isR) (pc' := 10) rfl rfl rfl rfl rfl ?_
  refine zw_gR (q := 0) (pc' := 13) W rfl rfl rfl rfl g5 rfl ?_
  refine zw_ld (n := 1) (k := 0) (f := zp_isR) (pc' := 14) rfl rfl rfl rfl rfl ?_
  refine zw_gR (q := 0) (pc' := 17) W rfl rfl rfl rfl g6 rfl ?_
  refine zw_ld (n := 1) (k := 1) (f := zp_isI) (pc' := 18) rfl rfl rfl rfl rfl ?_
  refine zw_cn (pc' := 21) (zw_cv (q := 54) (Y := zm_24) W.1 rfl rfl zm_24_t rfl rfl) rfl rfl rfl rfl rfl (q1) ?_
  refine zw_ld (n := 1) (k := 0) (f := zp_isR) (pc' := 22) rfl rfl rfl rfl rfl ?_
  refine zw_gR (q := 0) (pc' := 25) W1 rfl rfl rfl rfl (W1.2 0 12 _ rfl) rfl ?_
  refine zw_gI (q := 54) (pc' := 28) W1 rfl rfl rfl rfl rfl rfl ?_
  refine zw_s (pc' := 29) rfl rfl ?_
  refine zw_beq2 (g := 34) (pc' := 32) rfl rfl rfl rfl (rfl : _ = (2 : Int)) (fun h2 => ?_) (fun h2 => ?_)
  · have h2 : (H1.2.1 54 2).toInt = 2 := h2
    rw [r2] at h2
    obtain ⟨e0, e1, e2⟩ := hE (by omega)
    rw [show (Int32.ofInt 0).toInt = 0 by decide] at e1
    obtain ⟨e5, e6⟩ := r5 (by omega)
    have hj : r.2.2.2.2.1.toInt.toNat < (H.2.1 36 x1.toInt.toNat).toInt.toNat := by omega
    obtain ⟨_, p1, H2, rfl, W2, p2, b0, b1, b2, b3, b4⟩ := xc_begin (L := L) (σ := σ) (d := d + 3) (x1 := H1.2.1 54 5) (x2 := H1.2.1 54 6) W1
    have fr := xFv_t q2 p2
    have k5 : H2.2.2.2 0 5 = some 23 := (congrFun (congrFun p2.2.1 0) 5).trans f5
    have k6 : H2.2.2.2 0 6 = some 34 := (congrFun (congrFun p2.2.1 0) 6).trans f6
    have kw : ∀ j, H2.2.1 38 j = H.2.1 38 j := fun j => fr.2.2.1 _ _ (by decide)
    have ks : ∀ j, H2.2.1 39 j = H.2.1 39 j := fun j => fr.2.2.1 _ _ (by decide)
    have hd := hw _ hj
    obtain ⟨_, m1, H3, rfl, W3, m2, n0, n1, n2, n4⟩ := xc_fm22_0 (L := L) (σ := σ) (d := d + 1) (S := S) (x2 := H.2.1 38 (8 * x1.toInt.toNat + r.2.2.2.2.1.toInt.toNat)) (x3 := H.2.1 39 (8 * x1.toInt.toNat + r.2.2.2.2.1.toInt.toNat)) W2 hS (xSC_v fr (by decide) hC) (by rw [b0, e5]; exact e2) (by rw [b2]; decide) hd
    rw [b0, b1, e5] at n2
    have f3 := xFv_t fr (xFr_v m2)
    refine zw_ld (n := 1) (k := 0) (f := zp_isR) (pc' := 35) rfl rfl rfl rfl rfl ?_
    refine zw_gR (q := 0) (pc' := 38) W1 rfl rfl rfl rfl (W1.2 0 12 _ rfl) rfl ?_
    refine zw_gI (q := 54) (pc' := 41) W1 rfl rfl rfl rfl rfl rfl ?_
    refine zw_st (n := 1) (k := 2) (f := zp_isI) (pc' := 42) rfl rfl rfl rfl rfl ?_
    refine zw_ld (n := 1) (k := 0) (f := zp_isR) (pc' := 43) rfl rfl (zw_gt rfl rfl rfl) rfl rfl ?_
    refine zw_gR (q := 0) (pc' := 46) W1 rfl rfl rfl rfl (W1.2 0 12 _ rfl) rfl ?_
    refine zw_ld (n := 1) (k := 0) (f := zp_isR) (pc' := 47) rfl rfl (zw_gt rfl rfl rfl) rfl rfl ?_
    refine zw_gR (q := 0) (pc' := 50) W1 rfl rfl rfl rfl (W1.2 0 12 _ rfl) rfl ?_
    refine zw_gI (q := 54) (pc' := 53) W1 rfl rfl rfl rfl rfl rfl ?_
    refine zw_ld (n := 1) (k := 0) (f := zp_isR) (pc' := 54) rfl rfl (zw_gt rfl rfl rfl) rfl rfl ?_
    refine zw_gR (q := 0) (pc' := 57) W1 rfl rfl rfl rfl (W1.2 0 12 _ rfl) rfl ?_
    refine zw_gI (q := 54) (pc' := 60) W1 rfl rfl rfl rfl rfl rfl ?_
    refine zw_cn (pc' := 63) (zw_cv (q := 54) (Y := zm_25) W1.1 rfl rfl zm_25_t rfl rfl) rfl rfl rfl rfl rfl (p1) ?_
    rw [r3]
    refine zw_ld (n := 1) (k := 0) (f := zp_isR) (pc' := 64) rfl rfl (zw_gt rfl rfl rfl) rfl rfl ?_
    refine zw_gR (q := 0) (pc' := 67) W2 rfl rfl rfl rfl (W2.2 0 12 _ rfl) rfl ?_
    refine zw_ld (n := 1) (k := 0) (f := zp_isR) (pc' := 68) rfl rfl (zw_gt rfl rfl rfl) rfl rfl ?_
    refine zw_gR (q := 0) (pc' := 71) W2 rfl rfl rfl rfl k5 rfl ?_
    refine zw_ld (n := 1) (k := 0) (f := zp_isR) (pc' := 72) rfl rfl (zw_gt rfl rfl rfl) rfl rfl ?_
    refine zw_gR (q := 0) (pc' := 75) W2 rfl rfl rfl rfl k6 rfl ?_
    refine zw_ld (n := 1) (k := 1) (f := zp_isI) (pc' := 76) rfl rfl (zw_gt rfl rfl rfl) rfl rfl ?_
    refine zw_ld (n := 1) (k := 2) (f := zp_isI) (pc' := 77) rfl rfl zw_g1 rfl rfl ?_
    refine zw_c (pc' := 80) (zw_cv (q := 33) (Y := zm_26) W2.1 rfl rfl zm_26_t rfl rfl) rfl rfl rfl rfl rfl (yc_wayOf33 W2 ⟨by omega, by omega⟩ ⟨by omega, by omega⟩) ?_
    refine zw_ld (n := 1) (k := 0) (f := zp_isR) (pc' := 81) rfl rfl (zw_gt rfl rfl rfl) rfl rfl ?_
    refine zw_gR (q := 0) (pc' := 84) W2 rfl rfl rfl rfl k6 rfl ?_
    refine zw_ld (n := 1) (k := 1) (f := zp_isI) (pc' := 85) rfl rfl (zw_gt rfl rfl rfl) rfl rfl ?_
    refine zw_ld (n := 1) (k := 2) (f := zp_isI) (pc' := 86) rfl rfl zw_g1 rfl rfl ?_
    refine zw_c (pc' := 89) (zw_cv (q := 33) (Y := zm_27) W2.1 rfl rfl zm_27_t rfl rfl) rfl rfl rfl rfl rfl (yc_stepsOf33 W2 ⟨by omega, by omega⟩ ⟨by omega, by omega⟩) ?_
    refine zw_s (pc' := 90) rfl rfl ?_
    rw [kw, ks]
    refine zw_cn (pc' := 93) (zw_cv (q := 54) (Y := zm_28) W2.1 rfl rfl zm_28_t rfl rfl) rfl rfl rfl rfl rfl (m1) ?_
    refine zw_ld (n := 1) (k := 0) (f := zp_isR) (pc' := 94) rfl rfl (zw_gt rfl rfl rfl) rfl rfl ?_
    refine zw_gR (q := 0) (pc' := 97) W3 rfl rfl rfl rfl (W3.2 0 12 _ rfl) rfl ?_
    refine zw_gI (q := 54) (pc' := 100) W3 rfl rfl rfl rfl rfl rfl ?_
    refine zw_bne1 (g := 107) (pc' := 103) rfl rfl rfl rfl (fun h4 => ?_) (fun h4 => ?_)
    · have h4 : ¬ (H3.2.1 54 2).toInt = 0 := h4
      rw [n2] at h4
      have eE : Int32.ofInt 0 = (xEv S (H.2.1 38 (8 * x1.toInt.toNat + r.2.2.2.2.1.toInt.toNat)) (H.2.1 39 (8 * x1.toInt.toNat + r.2.2.2.2.1.toInt.toNat)).toInt.toNat r.2.2.2.2.2.1) := (if_neg h4).symm.trans (xEv_m (h := H1.2.1 54 6))
      refine zw_s (pc' := 108) rfl rfl ?_
      refine zw_rzg rfl rfl (Or.inl rfl) ⟨by decide, by decide⟩ ?_
      exact ⟨H3, x_rv (eE.trans (show (xEv S (H.2.1 38 (8 * x1.toInt.toNat + r.2.2.2.2.1.toInt.toNat)) (H.2.1 39 (8 * x1.toInt.toNat + r.2.2.2.2.1.toInt.toNat)).toInt.toNat r.2.2.2.2.2.1) = xXp S (fun j => H.2.1 38 (8 * x1.toInt.toNat + j)) (fun j => H.2.1 39 (8 * x1.toInt.toNat + j)) r from (if_pos h2).symm)), f3⟩
    · have h4 :  (H3.2.1 54 2).toInt = 0 := h4
      rw [n2] at h4
      have eE : Int32.ofInt 1 = (xEv S (H.2.1 38 (8 * x1.toInt.toNat + r.2.2.2.2.1.toInt.toNat)) (H.2.1 39 (8 * x1.toInt.toNat + r.2.2.2.2.1.toInt.toNat)).toInt.toNat r.2.2.2.2.2.1) := (if_pos h4).symm.trans (xEv_m (h := H1.2.1 54 6))
      refine zw_s (pc' := 104) rfl rfl ?_
      refine zw_s (pc' := 108) rfl rfl ?_
      refine zw_rzg rfl rfl (Or.inr rfl) ⟨by decide, by decide⟩ ?_
      exact ⟨H3, x_rv (eE.trans (show (xEv S (H.2.1 38 (8 * x1.toInt.toNat + r.2.2.2.2.1.toInt.toNat)) (H.2.1 39 (8 * x1.toInt.toNat + r.2.2.2.2.1.toInt.toNat)).toInt.toNat r.2.2.2.2.2.1) = xXp S (fun j => H.2.1 38 (8 * x1.toInt.toNat + j)) (fun j => H.2.1 39 (8 * x1.toInt.toNat + j)) r from (if_pos h2).symm)), f3⟩
  · have h2 : ¬ (H1.2.1 54 2).toInt = 2 := h2
    rw [r2] at h2
    refine zw_s (pc' := 33) rfl rfl ?_
    refine zw_rzg rfl rfl (Or.inl rfl) ⟨by decide, by decide⟩ ?_
    exact ⟨H1, x_rv (show Int32.ofInt 0 = xXp S (fun j => H.2.1 38 (8 * x1.toInt.toNat + j)) (fun j => H.2.1 39 (8 * x1.toInt.toNat + j)) r from (if_neg h2).symm), q2⟩

theorem yl_ex3_0 {L : Nat} {σ : Nat → Int32} {d : Nat} {H : zp_H} {x1 : Int32} (hB : zk_Bs (zB_c 3) zg zJc H) {S : xSea} (hS : xOk S) (hC : xSC 22 H S) (hs : 0 ≤ x1.toInt ∧ x1.toInt < (H.2.1 33 0).toInt) (hm : 0 ≤ (H.2.1 36 x1.toInt.toNat).toInt ∧ (H.2.1 36 x1.toInt.toNat).toInt ≤ 8) (hw : ∀ j, j < (H.2.1 36 x1.toInt.toNat).toInt.toNat → -1 ≤ (H.2.1 38 (8 * x1.toInt.toNat + j)).toInt ∧ (H.2.1 38 (8 * x1.toInt.toNat + j)).toInt ≤ 3) (hc : xIn S (H.2.1 34 x1.toInt.toNat).toInt) (hv : (xXp S (fun j => H.2.1 38 (8 * x1.toInt.toNat + j)) (fun j => H.2.1 39 (8 * x1.toInt.toNat + j)) (xVy S (fun j => H.2.1 38 (8 * x1.toInt.toNat + j)) (fun j => H.2.1 39 (8 * x1.toInt.toNat + j)) (H.2.1 36 x1.toInt.toNat).toInt.toNat (Int32.ofInt 0) (H.2.1 34 x1.toInt.toNat) (H.2.1 35 x1.toInt.toNat))) = Int32.ofInt 0) : ∃ H1, zp_Call L σ (d + 7) 120 [.inr (.inr (some 1)), .inl x1, .inr (.inr (some 105))] H (.inl (some (.inl (Int32.ofInt 0))), zw_J H1 104 0 (Int64.ofNat 0)) ∧ xFv 54 H H1 := by
  obtain ⟨_, q1, H1, rfl, q2⟩ := yc_ex3 (L := L) (σ := σ) (d := d) hB hS hC hs hm hw hc
  rw [hv] at q1
  have W := zB_Wd (zB_dn (zB_Bc hB))
  have W1 := xFv_W q2 W
  refine ⟨H1, zw_ex (zw_met zm_120_t rfl rfl ?_), q2⟩
  refine zw_ld (n := 1) (k := 2) (f := zp_isR) (pc' := 1) rfl rfl rfl rfl rfl ?_
  refine zw_s (pc' := 2) rfl rfl ?_
  refine zw_ld (n := 1) (k := 0) (f := zp_isR) (pc' := 3) rfl rfl rfl rfl rfl ?_
  refine zw_ld (n := 1) (k := 1) (f := zp_isI) (pc' := 4) rfl rfl rfl rfl rfl ?_
  refine zw_ct (pc' := 7) (c' := (1, 6)) (zw_cv (q := 0) (Y := zm_121) W.1 rfl rfl zm_121_t rfl rfl) (zw_pb_ok rfl) rfl rfl rfl rfl (q1) ?_
  refine zw_beq1 (g := 14) (pc' := 10) rfl rfl rfl (rfl : _ = (0 : Int)) (fun h1 => ?_) (fun h9 => absurd h9 (by decide))
  refine zw_s (pc' := 15) rfl rfl ?_
  refine zw_ls (q := 104) (pc' := 16) W1 rfl rfl (⟨by decide, by decide⟩) rfl ?_
  refine zw_s (pc' := 22) rfl rfl ?_
  refine zw_s (pc' := 23) rfl rfl ?_
  refine zw_rig rfl rfl ⟨by decide, by decide⟩ ?_
  rfl

theorem yl_ex3_1 {L : Nat} {σ : Nat → Int32} {d : Nat} {H : zp_H} {x1 : Int32} (hB : zk_Bs (zB_c 3) zg zJc H) {S : xSea} (hS : xOk S) (hC : xSC 22 H S) (hs : 0 ≤ x1.toInt ∧ x1.toInt < (H.2.1 33 0).toInt) (hm : 0 ≤ (H.2.1 36 x1.toInt.toNat).toInt ∧ (H.2.1 36 x1.toInt.toNat).toInt ≤ 8) (hw : ∀ j, j < (H.2.1 36 x1.toInt.toNat).toInt.toNat → -1 ≤ (H.2.1 38 (8 * x1.toInt.toNat + j)).toInt ∧ (H.2.1 38 (8 * x1.toInt.toNat + j)).toInt ≤ 3) (hc : xIn S (H.2.1 34 x1.toInt.toNat).toInt) (hv : (xXp S (fun j => H.2.1 38 (8 * x1.toInt.toNat + j)) (fun j => H.2.1 39 (8 * x1.toInt.toNat + j)) (xVy S (fun j => H.2.1 38 (8 * x1.toInt.toNat + j)) (fun j => H.2.1 39 (8 * x1.toInt.toNat + j)) (H.2.1 36 x1.toInt.toNat).toInt.toNat (Int32.ofInt 0) (H.2.1 34 x1.toInt.toNat) (H.2.1 35 x1.toInt.toNat))) = Int32.ofInt 1) : ∃ H1, zp_Call L σ (d + 7) 120 [.inr (.inr (some 1)), .inl x1, .inr (.inr (some 105))] H (.inl (some (.inl (Int32.ofInt 0))), zw_J H1 104 0 (Int64.ofNat 1)) ∧ xFv 54 H H1 := by
  obtain ⟨_, q1, H1, rfl, q2⟩ := yc_ex3 (L := L) (σ := σ) (d := d) hB hS hC hs hm hw hc
  rw [hv] at q1
  have W := zB_Wd (zB_dn (zB_Bc hB))
  have W1 := xFv_W q2 W
  refine ⟨H1, zw_ex (zw_met zm_120_t rfl rfl ?_), q2⟩
  refine zw_ld (n := 1) (k := 2) (f := zp_isR) (pc' := 1) rfl rfl rfl rfl rfl ?_
  refine zw_s (pc' := 2) rfl rfl ?_
  refine zw_ld (n := 1) (k := 0) (f := zp_isR) (pc' := 3) rfl rfl rfl rfl rfl ?_
  refine zw_ld (n := 1) (k := 1) (f := zp_isI) (pc' := 4) rfl rfl rfl rfl rfl ?_
  refine zw_ct (pc' := 7) (c' := (1, 6)) (zw_cv (q := 0) (Y := zm_121) W.1 rfl rfl zm_121_t rfl rfl) (zw_pb_ok rfl) rfl rfl rfl rfl (q1) ?_
  refine zw_beq1 (g := 14) (pc' := 10) rfl rfl rfl (rfl : _ = (1 : Int)) (fun h9 => absurd h9 (by decide)) (fun h1 => ?_)
  refine zw_s (pc' := 11) rfl rfl ?_
  refine zw_s (pc' := 15) rfl rfl ?_
  refine zw_ls (q := 104) (pc' := 16) W1 rfl rfl (⟨by decide, by decide⟩) rfl ?_
  refine zw_s (pc' := 22) rfl rfl ?_
  refine zw_s (pc' := 23) rfl rfl ?_
  refine zw_rig rfl rfl ⟨by decide, by decide⟩ ?_
  rfl

theorem yc_exn3 {L : Nat} {σ : Nat → Int32} {d : Nat} {H : zp_H} {x1 : Int32} (hB : zk_Bs (zB_c 3) zg zJc H) (h : ¬ (0 ≤ x1.toInt ∧ x1.toInt < (H.2.1 33 0).toInt)) : zp_Call L σ (d + 2) 121 [.inr (.inr (some 1)), .inl x1] H (.inr 0, H) := by
  have W := zB_Wd (zB_dn (zB_Bc hB))
  have g5 : H.2.2.2 0 5 = some 23 := hB.2.1 0 5 _ rfl
  have g6 : H.2.2.2 0 6 = some 34 := hB.2.1 0 6 _ rfl
  have g7 : H.2.2.2 0 7 = some 3 := hB.2.1 0 7 _ rfl
  have g8 : H.2.2.2 0 8 = some 14 := hB.2.1 0 8 _ rfl
  refine zw_ex (zw_met zm_121_t rfl rfl ?_)
  refine zw_ld (n := 1) (k := 0) (f := zp_isR) (pc' := 1) rfl rfl rfl rfl rfl ?_
  refine zw_ld (n := 1) (k := 1) (f := zp_isI) (pc' := 2) rfl rfl rfl rfl rfl ?_
  refine zw_cthr (ex := 0) (zw_cv (q := 0) (Y := zm_108) W.1 rfl rfl zm_108_t rfl rfl) (zw_pb_ok rfl) rfl rfl (yc_ns0_3 hB h) ?_
  rfl

theorem yl_exn3 {L : Nat} {σ : Nat → Int32} {d : Nat} {H : zp_H} {x1 : Int32} (hB : zk_Bs (zB_c 3) zg zJc H) (h : ¬ (0 ≤ x1.toInt ∧ x1.toInt < (H.2.1 33 0).toInt)) : zp_Call L σ (d + 3) 120 [.inr (.inr (some 1)), .inl x1, .inr (.inr (some 105))] H (.inl (some (.inl (Int32.ofInt 1))), H) := by
  have W := zB_Wd (zB_dn (zB_Bc hB))
  refine zw_ex (zw_met zm_120_t rfl rfl ?_)
  refine zw_ld (n := 1) (k := 2) (f := zp_isR) (pc' := 1) rfl rfl rfl rfl rfl ?_
  refine zw_s (pc' := 2) rfl rfl ?_
  refine zw_ld (n := 1) (k := 0) (f := zp_isR) (pc' := 3) rfl rfl rfl rfl rfl ?_
  refine zw_ld (n := 1) (k := 1) (f := zp_isI) (pc' := 4) rfl rfl rfl rfl rfl ?_
  refine zw_cex (ex := 0) (hp9 := 19) (pc' := 20) (c' := (1, 6)) (zw_cv (q := 0) (Y := zm_121) W.1 rfl rfl zm_121_t rfl rfl) (zw_pb_ok rfl) rfl rfl rfl rfl rfl rfl rfl (yc_exn3 hB h) ?_
  refine zw_s (pc' := 21) rfl rfl ?_
  refine zw_rig rfl rfl ⟨by decide, by decide⟩ ?_
  rfl

theorem xr_exL {L : Nat} {σ : Nat → Int32} {d : Nat} {S : xSea} {P : zp_X → Prop} {s m dw ns : Int32} (hS : xOk S) (hs : 0 ≤ s.toInt ∧ s.toInt < 8) (hm : 0 ≤ m.toInt ∧ m.toInt < 8) : ∀ (n : Nat) (H : zp_H) (lv : zp_LV) (k : Int32), zw_W H → xSR H S → xIn S (H.2.1 72 64).toInt → H.2.1 75 (16 * s.toInt.toNat + 2 * m.toInt.toNat) = dw → H.2.1 75 (16 * s.toInt.toNat + 2 * m.toInt.toNat + 1) = ns → 0 ≤ k.toInt → k.toInt + n = ns.toInt.toNat → zp_get lv 0 = some (.inr (.inr (some 73))) → zp_get lv 1 = some (.inl s) → zp_get lv 2 = some (.inl m) → zp_get lv 3 = some (.inl k) → (∀ H1, zw_W H1 → xFs 64 71 H H1 → P (.inl (some (.inl (xEv S dw n (H.2.1 72 64)))), H1)) → zs_Safe L σ P zm_224 [] (d + 2) (45, lv, [], H, (0, 0)) := by
  intro n
  induction n with
  | zero =>
    intro H lv k W hR hc hwy hst h5 hn l0 l1 l2 l3 hP
    have i1 : (Int32.ofInt 16 * s).toInt = 16 * s.toInt := zt_mul (by decide) (by omega)
    have i2 : (Int32.ofInt 2 * m).toInt = 2 * m.toInt := zt_mul (by decide) (by omega)
    have i3 : (Int32.ofInt 16 * s + Int32.ofInt 2 * m).toInt = 16 * s.toInt + 2 * m.toInt := by rw [zq_add (by rw [i1, i2]; omega) (by rw [i1, i2]; omega), i1, i2]
    have i4 : (Int32.ofInt 16 * s + Int32.ofInt 2 * m + Int32.ofInt 1).toInt = 16 * s.toInt + 2 * m.toInt + 1 := by rw [zt_add (by decide) (by omega), i3]
    have i5 : (Int32.ofInt 16 * s + Int32.ofInt 2 * m + Int32.ofInt 1).toInt.toNat = 16 * s.toInt.toNat + 2 * m.toInt.toNat + 1 := by omega
    have i6 : (Int32.ofInt 16 * s + Int32.ofInt 2 * m).toInt.toNat = 16 * s.toInt.toNat + 2 * m.toInt.toNat := by omega
    refine zw_ld (n := 1) (k := 3) (f := zp_isI) (pc' := 46) rfl rfl l3 rfl rfl ?_
    refine zw_ld (n := 1) (k := 0) (f := zp_isR) (pc' := 47) rfl rfl l0 rfl rfl ?_
    refine zw_gR (q := 72) (pc' := 50) W rfl rfl rfl rfl (W.2 72 15 _ rfl) rfl ?_
    refine zw_s (pc' := 52) rfl rfl ?_
    refine zw_ld (n := 1) (k := 1) (f := zp_isI) (pc' := 53) rfl rfl l1 rfl rfl ?_
    refine zw_imul (pc' := 54) rfl rfl ?_
    refine zw_s (pc' := 55) rfl rfl ?_
    refine zw_ld (n := 1) (k := 2) (f := zp_isI) (pc' := 56) rfl rfl l2 rfl rfl ?_
    refine zw_imul (pc' := 57) rfl rfl ?_
    refine zw_iadd (pc' := 58) rfl rfl ?_
    refine zw_s (pc' := 59) rfl rfl ?_
    refine zw_iadd (pc' := 60) rfl rfl ?_
    refine zw_ia (q := 75) (pc' := 61) W rfl rfl (by decide) (⟨by omega, by show _ < ((128 : Nat) : Int); omega⟩) rfl rfl ?_
    refine zw_bge2 (g := 99) (pc' := 64) rfl rfl rfl rfl rfl (fun h1 => ?_) (fun h1 => ?_)
    · refine zw_s (pc' := 100) rfl rfl ?_
      refine zw_rz rfl rfl (by decide) ?_
      rw [xEv_0] at hP
      exact hP H W (xFs_r H)
    · have h1 : k.toInt < (H.2.1 75 (Int32.ofInt 16 * s + Int32.ofInt 2 * m + Int32.ofInt 1).toInt.toNat).toInt := h1
      rw [i5, hst] at h1
      omega
  | succ n ih =>
    intro H lv k W hR hc hwy hst h5 hn l0 l1 l2 l3 hP
    have i1 : (Int32.ofInt 16 * s).toInt = 16 * s.toInt := zt_mul (by decide) (by omega)
    have i2 : (Int32.ofInt 2 * m).toInt = 2 * m.toInt := zt_mul (by decide) (by omega)
    have i3 : (Int32.ofInt 16 * s + Int32.ofInt 2 * m).toInt = 16 * s.toInt + 2 * m.toInt := by rw [zq_add (by rw [i1, i2]; omega) (by rw [i1, i2]; omega), i1, i2]
    have i4 : (Int32.ofInt 16 * s + Int32.ofInt 2 * m + Int32.ofInt 1).toInt = 16 * s.toInt + 2 * m.toInt + 1 := by rw [zt_add (by decide) (by omega), i3]
    have i5 : (Int32.ofInt 16 * s + Int32.ofInt 2 * m + Int32.ofInt 1).toInt.toNat = 16 * s.toInt.toNat + 2 * m.toInt.toNat + 1 := by omega
    have i6 : (Int32.ofInt 16 * s + Int32.ofInt 2 * m).toInt.toNat = 16 * s.toInt.toNat + 2 * m.toInt.toNat := by omega
    refine zw_ld (n := 1) (k := 3) (f := zp_isI) (pc' := 46) rfl rfl l3 rfl rfl ?_
    refine zw_ld (n := 1) (k := 0) (f := zp_isR) (pc' := 47) rfl rfl l0 rfl rfl ?_
    refine zw_gR (q := 72) (pc' := 50) W rfl rfl rfl rfl (W.2 72 15 _ rfl) rfl ?_
    refine zw_s (pc' := 52) rfl rfl ?_
    refine zw_ld (n := 1) (k := 1) (f := zp_isI) (pc' := 53) rfl rfl l1 rfl rfl ?_
    refine zw_imul (pc' := 54) rfl rfl ?_
    refine zw_s (pc' := 55) rfl rfl ?_
    refine zw_ld (n := 1) (k := 2) (f := zp_isI) (pc' := 56) rfl rfl l2 rfl rfl ?_
    refine zw_imul (pc' := 57) rfl rfl ?_
    refine zw_iadd (pc' := 58) rfl rfl ?_
    refine zw_s (pc' := 59) rfl rfl ?_
    refine zw_iadd (pc' := 60) rfl rfl ?_
    refine zw_ia (q := 75) (pc' := 61) W rfl rfl (by decide) (⟨by omega, by show _ < ((128 : Nat) : Int); omega⟩) rfl rfl ?_
    refine zw_bge2 (g := 99) (pc' := 64) rfl rfl rfl rfl rfl (fun h1 => ?_) (fun h1 => ?_)
    · have h1 : (H.2.1 75 (Int32.ofInt 16 * s + Int32.ofInt 2 * m + Int32.ofInt 1).toInt.toNat).toInt ≤ k.toInt := h1
      rw [i5, hst] at h1
      omega
    · refine zw_ld (n := 1) (k := 0) (f := zp_isR) (pc' := 65) rfl rfl l0 rfl rfl ?_
      refine zw_ld (n := 1) (k := 0) (f := zp_isR) (pc' := 66) rfl rfl l0 rfl rfl ?_
      refine zw_gR (q := 72) (pc' := 69) W rfl rfl rfl rfl (W.2 72 15 _ rfl) rfl ?_
      refine zw_s (pc' := 71) rfl rfl ?_
      refine zw_ld (n := 1) (k := 1) (f := zp_isI) (pc' := 72) rfl rfl l1 rfl rfl ?_
      refine zw_imul (pc' := 73) rfl rfl ?_
      refine zw_s (pc' := 74) rfl rfl ?_
      refine zw_ld (n := 1) (k := 2) (f := zp_isI) (pc' := 75) rfl rfl l2 rfl rfl ?_
      refine zw_imul (pc' := 76) rfl rfl ?_
      refine zw_iadd (pc' := 77) rfl rfl ?_
      refine zw_ia (q := 75) (pc' := 78) W rfl rfl (by decide) (⟨by omega, by show _ < ((128 : Nat) : Int); omega⟩) rfl rfl ?_
      refine zw_ld (n := 1) (k := 0) (f := zp_isR) (pc' := 79) rfl rfl l0 rfl rfl ?_
      refine zw_gI (q := 72) (pc' := 82) W rfl rfl rfl rfl rfl rfl ?_
      refine zw_ld (n := 1) (k := 3) (f := zp_isI) (pc' := 83) rfl rfl l3 rfl rfl ?_
      refine zw_iadd (pc' := 84) rfl rfl ?_
      refine zw_s (pc' := 85) rfl rfl ?_
      obtain ⟨_, q1, H1, rfl, W1, q2, q3⟩ := xr_st0 (L := L) (σ := σ) (d := d) (x1 := dw) (x2 := H.2.1 72 71 + k) W hS hR hc
      have hb := xSt_b (hr := (H.2.1 72 71 + k).toInt) (d := dw.toInt) (t := false) hS hc
      have ho := xSt_o (hr := (H.2.1 72 71 + k).toInt) (d := dw.toInt) (t := false) hS hc
      rw [i6, hwy]
      refine zw_c (pc' := 88) (zw_cv (q := 72) (Y := zm_221) W.1 rfl rfl zm_221_t rfl rfl) rfl rfl rfl rfl rfl (q1) ?_
      have fr : xFs 64 71 H H1 := xFs_m q2 (by decide) (by decide)
      have km : ∀ j, H1.2.1 75 j = H.2.1 75 j := fun j => fr.2.2.1 75 j (fun h9 => absurd h9.1 (by decide))
      refine zw_beq1 (g := 93) (pc' := 91) rfl rfl rfl rfl (fun h2 => ?_) (fun h2 => ?_)
      · have h2 : (Int32.ofInt (xSt S (H.2.1 72 64).toInt (H.2.1 72 71 + k).toInt dw.toInt false).1).toInt = 0 := h2
        rw [ho.1] at h2
        rw [xEv_y h2] at hP
        have ei : (k + Int32.ofInt 1).toInt = k.toInt + 1 := zw_p1 (by have h9 : ns.toInt ≤ 2147483647 := Int32.toInt_le _; omega)
        refine zw_ii (pc' := 96) rfl l3 rfl rfl ?_
        refine zw_s (pc' := 45) rfl rfl ?_
        refine ih H1 _ (k + Int32.ofInt 1) W1 (xSR_f fr (by decide) hR) (by rw [q3, ho.2]; exact hb.1) ((km _).trans hwy) ((km _).trans hst) (by omega) (by omega) (zw_gt l0 rfl rfl) (zw_gt l1 rfl rfl) (zw_gt l2 rfl rfl) zw_g1 (fun H2 w1 w2 => ?_)
        rw [q3]
        exact hP H2 w1 (xFs_t fr w2)
      · have h2 : ¬ (Int32.ofInt (xSt S (H.2.1 72 64).toInt (H.2.1 72 71 + k).toInt dw.toInt false).1).toInt = 0 := h2
        rw [ho.1] at h2
        rw [xEv_n hS hc h2] at hP
        refine zw_s (pc' := 92) rfl rfl ?_
        refine zw_rz rfl rfl (by decide) ?_
        exact hP H1 W1 fr

theorem yr_ex {L : Nat} {σ : Nat → Int32} {d : Nat} {H : zp_H} {S : xSea} {x1 : Int32} (W : zw_W H) (hS : xOk S) (hR : xSR H S) (hx : 0 ≤ x1.toInt ∧ x1.toInt < (H.2.1 72 5).toInt) (h8 : x1.toInt < 8) (hm : 0 ≤ ((zw_I H 72 0 (Int32.ofInt 0)).2.1 74 (4 * x1.toInt.toNat + 2)).toInt ∧ ((zw_I H 72 0 (Int32.ofInt 0)).2.1 74 (4 * x1.toInt.toNat + 2)).toInt ≤ 8) (hc : xIn S ((zw_I H 72 0 (Int32.ofInt 0)).2.1 74 (4 * x1.toInt.toNat)).toInt) : ∃ X, zp_Call L σ (d + 4) 224 [.inr (.inr (some 73)), .inl x1] H X ∧ ∃ H1, X = (.inl (some (.inl (xXp S (fun j => (zw_I H 72 0 (Int32.ofInt 0)).2.1 75 (16 * x1.toInt.toNat + 2 * j)) (fun j => (zw_I H 72 0 (Int32.ofInt 0)).2.1 75 (16 * x1.toInt.toNat + 2 * j + 1)) (xVy S (fun j => (zw_I H 72 0 (Int32.ofInt 0)).2.1 75 (16 * x1.toInt.toNat + 2 * j)) (fun j => (zw_I H 72 0 (Int32.ofInt 0)).2.1 75 (16 * x1.toInt.toNat + 2 * j + 1)) ((zw_I H 72 0 (Int32.ofInt 0)).2.1 74 (4 * x1.toInt.toNat + 2)).toInt.toNat (Int32.ofInt 0) ((zw_I H 72 0 (Int32.ofInt 0)).2.1 74 (4 * x1.toInt.toNat)) ((zw_I H 72 0 (Int32.ofInt 0)).2.1 74 (4 * x1.toInt.toNat + 1)))))), H1) ∧ xFs 64 71 (zw_I H 72 0 (Int32.ofInt 0)) H1 := by
  have h0 : ((zw_I H 72 0 (Int32.ofInt 0)).2.1 72 0).toInt = 0 := congrArg Int32.toInt zw_eq
  have e5 : (zw_I H 72 0 (Int32.ofInt 0)).2.1 72 5 = H.2.1 72 5 := zw_ne rfl rfl
  obtain ⟨_, q1, H1, rfl, W1, q2, r0, r1, r2, r4, r3, r5⟩ := xr_sails (L := L) (σ := σ) (d := d) (s := x1) (zw_W_I (p := 72) (k := 0) (x := Int32.ofInt 0) W) hS (xSR_0 hR) ⟨hx.1, by omega⟩ hm hc
  have hE := xVy_e (wy := (fun j => (zw_I H 72 0 (Int32.ofInt 0)).2.1 75 (16 * x1.toInt.toNat + 2 * j))) (st := (fun j => (zw_I H 72 0 (Int32.ofInt 0)).2.1 75 (16 * x1.toInt.toNat + 2 * j + 1))) hS ((zw_I H 72 0 (Int32.ofInt 0)).2.1 74 (4 * x1.toInt.toNat + 2)).toInt.toNat (Int32.ofInt 0) ((zw_I H 72 0 (Int32.ofInt 0)).2.1 74 (4 * x1.toInt.toNat)) ((zw_I H 72 0 (Int32.ofInt 0)).2.1 74 (4 * x1.toInt.toNat + 1)) hc (by decide) (by rw [show (Int32.ofInt 0).toInt = 0 by decide]; omega)
  generalize hr : (xVy S (fun j => (zw_I H 72 0 (Int32.ofInt 0)).2.1 75 (16 * x1.toInt.toNat + 2 * j)) (fun j => (zw_I H 72 0 (Int32.ofInt 0)).2.1 75 (16 * x1.toInt.toNat + 2 * j + 1)) ((zw_I H 72 0 (Int32.ofInt 0)).2.1 74 (4 * x1.toInt.toNat + 2)).toInt.toNat (Int32.ofInt 0) ((zw_I H 72 0 (Int32.ofInt 0)).2.1 74 (4 * x1.toInt.toNat)) ((zw_I H 72 0 (Int32.ofInt 0)).2.1 74 (4 * x1.toInt.toNat + 1))) = r at r0 r1 r2 r3 r4 r5 hE ⊢
  refine zw_met zm_224_t rfl rfl ?_
  refine zw_ld (n := 1) (k := 0) (f := zp_isR) (pc' := 1) rfl rfl rfl rfl rfl ?_
  refine zw_s (pc' := 2) rfl rfl ?_
  refine zw_pI (q := 72) (pc' := 5) W rfl rfl rfl rfl rfl rfl ?_
  refine zw_ld (n := 1) (k := 0) (f := zp_isR) (pc' := 6) rfl rfl rfl rfl rfl ?_
  refine zw_ld (n := 1) (k := 1) (f := zp_isI) (pc' := 7) rfl rfl rfl rfl rfl ?_
  refine zw_c (pc' := 10) (zw_cv (q := 72) (Y := zm_210) (zw_W_I W).1 rfl rfl zm_210_t rfl rfl) rfl rfl rfl rfl rfl (zq_slate1 (zw_W_I W) h0 (by rw [e5]; exact hx)) ?_
  refine zw_bne1 (g := 15) (pc' := 13) rfl rfl rfl (rfl : _ = (1 : Int)) (fun h1 => ?_) (fun h9 => absurd h9 (by decide))
  refine zw_ld (n := 1) (k := 0) (f := zp_isR) (pc' := 16) rfl rfl rfl rfl rfl ?_
  refine zw_ld (n := 1) (k := 1) (f := zp_isI) (pc' := 17) rfl rfl rfl rfl rfl ?_
  refine zw_cn (pc' := 20) (zw_cv (q := 72) (Y := zm_220) (zw_W_I W).1 rfl rfl zm_220_t rfl rfl) rfl rfl rfl rfl rfl (q1) ?_
  refine zw_ld (n := 1) (k := 0) (f := zp_isR) (pc' := 21) rfl rfl rfl rfl rfl ?_
  refine zw_gI (q := 72) (pc' := 24) W1 rfl rfl rfl rfl rfl rfl ?_
  refine zw_s (pc' := 25) rfl rfl ?_
  refine zw_beq2 (g := 30) (pc' := 28) rfl rfl rfl rfl (rfl : _ = (2 : Int)) (fun h2 => ?_) (fun h2 => ?_)
  · have h2 : (H1.2.1 72 66).toInt = 2 := h2
    rw [r2] at h2
    obtain ⟨e0, e1, e2⟩ := hE (by omega)
    rw [show (Int32.ofInt 0).toInt = 0 by decide] at e1
    obtain ⟨e7, e8⟩ := r5 (by omega)
    have fr : xFs 64 71 (zw_I H 72 0 (Int32.ofInt 0)) (zw_I H1 72 64 (H1.2.1 72 70)) := xFs_I q2 (by decide) (by decide)
    have km : ∀ j, (zw_I H1 72 64 (H1.2.1 72 70)).2.1 75 j = (zw_I H 72 0 (Int32.ofInt 0)).2.1 75 j := fun j => fr.2.2.1 75 j (fun h9 => absurd h9.1 (by decide))
    have k64 : (zw_I H1 72 64 (H1.2.1 72 70)).2.1 72 64 = r.2.2.2.2.2.1 := zw_eq.trans e7
    refine zw_ld (n := 1) (k := 0) (f := zp_isR) (pc' := 31) rfl rfl rfl rfl rfl ?_
    refine zw_gI (q := 72) (pc' := 34) W1 rfl rfl rfl rfl rfl rfl ?_
    refine zw_st (n := 1) (k := 2) (f := zp_isI) (pc' := 35) rfl rfl rfl rfl rfl ?_
    refine zw_ld (n := 1) (k := 0) (f := zp_isR) (pc' := 36) rfl rfl (zw_gt rfl rfl rfl) rfl rfl ?_
    refine zw_ld (n := 1) (k := 0) (f := zp_isR) (pc' := 37) rfl rfl (zw_gt rfl rfl rfl) rfl rfl ?_
    refine zw_gI (q := 72) (pc' := 40) W1 rfl rfl rfl rfl rfl rfl ?_
    refine zw_pI (q := 72) (pc' := 43) W1 rfl rfl rfl rfl rfl rfl ?_
    refine zw_s (pc' := 44) rfl rfl ?_
    refine zw_st (n := 1) (k := 3) (f := zp_isI) (pc' := 45) rfl rfl rfl rfl rfl ?_
    rw [r3]
    refine xr_exL (S := S) (s := x1) (m := r.2.2.2.2.1) hS ⟨hx.1, by omega⟩ ⟨e0, by omega⟩ ((zw_I H 72 0 (Int32.ofInt 0)).2.1 75 (16 * x1.toInt.toNat + 2 * r.2.2.2.2.1.toInt.toNat + 1)).toInt.toNat _ _ (Int32.ofInt 0) (zw_W_I W1) (xSR_f fr (by decide) (xSR_0 hR)) (by rw [k64]; exact e2) (km _) (km _) (by decide) (by rw [show (Int32.ofInt 0).toInt = 0 by decide]; omega) (zw_gt (zw_gt rfl rfl rfl) rfl rfl) (zw_gt (zw_gt rfl rfl rfl) rfl rfl) (zw_gt zw_g1 rfl rfl) zw_g1 (fun H2 w1 w2 => ⟨H2, ?_, xFs_t fr w2⟩)
    rw [k64]
    exact x_rv (show _ = xXp S (fun j => (zw_I H 72 0 (Int32.ofInt 0)).2.1 75 (16 * x1.toInt.toNat + 2 * j)) (fun j => (zw_I H 72 0 (Int32.ofInt 0)).2.1 75 (16 * x1.toInt.toNat + 2 * j + 1)) r from (if_pos h2).symm)
  · have h2 : ¬ (H1.2.1 72 66).toInt = 2 := h2
    rw [r2] at h2
    refine zw_s (pc' := 29) rfl rfl ?_
    refine zw_rz rfl rfl (by decide) ?_
    exact ⟨H1, x_rv (show Int32.ofInt 0 = xXp S (fun j => (zw_I H 72 0 (Int32.ofInt 0)).2.1 75 (16 * x1.toInt.toNat + 2 * j)) (fun j => (zw_I H 72 0 (Int32.ofInt 0)).2.1 75 (16 * x1.toInt.toNat + 2 * j + 1)) r from (if_neg h2).symm), q2⟩

theorem yr_exn {L : Nat} {σ : Nat → Int32} {d : Nat} {H : zp_H} (W : zw_W H) {x1 : Int32} (h : ¬ (0 ≤ x1.toInt ∧ x1.toInt < (H.2.1 72 5).toInt)) : zp_Call L σ (d + 4) 224 [.inr (.inr (some 73)), .inl x1] H (.inl (some (.inl (Int32.ofInt 0))), zw_I (zw_I H 72 0 (Int32.ofInt 0)) 72 0 (Int32.ofInt 1)) := by
  have h0 : ((zw_I H 72 0 (Int32.ofInt 0)).2.1 72 0).toInt = 0 := congrArg Int32.toInt zw_eq
  have e5 : (zw_I H 72 0 (Int32.ofInt 0)).2.1 72 5 = H.2.1 72 5 := zw_ne rfl rfl
  refine zw_ex (zw_met zm_224_t rfl rfl ?_)
  refine zw_ld (n := 1) (k := 0) (f := zp_isR) (pc' := 1) rfl rfl rfl rfl rfl ?_
  refine zw_s (pc' := 2) rfl rfl ?_
  refine zw_pI (q := 72) (pc' := 5) W rfl rfl rfl rfl rfl rfl ?_
  refine zw_ld (n := 1) (k := 0) (f := zp_isR) (pc' := 6) rfl rfl rfl rfl rfl ?_
  refine zw_ld (n := 1) (k := 1) (f := zp_isI) (pc' := 7) rfl rfl rfl rfl rfl ?_
  refine zw_c (pc' := 10) (zw_cv (q := 72) (Y := zm_210) (zw_W_I W).1 rfl rfl zm_210_t rfl rfl) rfl rfl rfl rfl rfl (zq_slate0 (zw_W_I W) h0 (by rw [e5]; exact h)) ?_
  refine zw_bne1 (g := 15) (pc' := 13) rfl rfl rfl (rfl : _ = (0 : Int)) (fun h9 => absurd h9 (by decide)) (fun h1 => ?_)
  refine zw_s (pc' := 14) rfl rfl ?_
  refine zw_rz rfl rfl (by decide) ?_
  rfl

theorem xXp_c {S : xSea} {wy st wy' st' : Nat → Int32} {m : Nat} {r : Int32 × Int32 × Int32 × Int32 × Int32 × Int32 × Int32} (e : ∀ j, j < m → wy j = wy' j ∧ st j = st' j) (hr : ¬ r.2.2.1.toInt = 0 → r.2.2.2.2.1.toInt.toNat < m) : xXp S wy st r = xXp S wy' st' r := by
  unfold xXp
  by_cases h : r.2.2.1.toInt = 2
  · rw [if_pos h, if_pos h]
    obtain ⟨e1, e2⟩ := e _ (hr (by omega))
    rw [e1, e2]
  · rw [if_neg h, if_neg h]

theorem yb_explained {L : Nat} {σ : Nat → Int32} {d c t : Nat} {H : zp_H} {x1 : Int32} (hI : yJ c t H) : ∃ H1 H2 v w, zp_Call L σ (d + 60) 120 [.inr (.inr (some 1)), .inl x1, .inr (.inr (some 105))] H (.inl (some (.inl v)), H1) ∧ zp_Call L σ (d + 60) 224 [.inr (.inr (some 73)), .inl x1] H1 (.inl (some (.inl w)), H2) ∧ H1.1 = zB_sh ∧ yJ c t H2 ∧ (H2.2.1 72 0).toInt = v.toInt ∧ (v.toInt = 0 → (w = Int32.ofInt 0 ∧ H2.2.2.1 104 0 = Int64.ofNat 0) ∨ (w = Int32.ofInt 1 ∧ H2.2.2.1 104 0 = Int64.ofNat 1)) := by
  obtain ⟨H1, v, c1, hI1⟩ := yp_explained (L := L) (σ := σ) (d := d) (x1 := x1) hI
  obtain ⟨H2, w, c2, hI2⟩ := yq_explained (L := L) (σ := σ) (d := d) (x1 := x1) hI1
  have W1 := zB_Wd (zB_dn (zB_Bc hI1.1.1.1))
  obtain ⟨⟨A, a1, a2, a3⟩, -⟩ := id hI.2
  have hr : yGr H := hI.2.2.2.2.2.2
  have n5 := a3.1
  have n0 := a2.1
  have n8 := a1.1
  have h0 := hI.1.2.2.1
  rcases h0 with rfl | rfl
  · have n0 : (H.2.1 13 0).toInt = A.1 := n0
    by_cases h : 0 ≤ x1.toInt ∧ x1.toInt < (H.2.1 72 5).toInt
    · have hs : x1.toInt.toNat < A.1 := by omega
      obtain ⟨hS, hC⟩ := xJ_S0 hI
      have hm := a1.2.2.1 x1.toInt.toNat hs
      have m0 : H.2.1 16 x1.toInt.toNat = A.2.2.1 x1.toInt.toNat 2 := a2.2.2.1 _ 2 hs (by decide)
      have m1 : H.2.1 14 x1.toInt.toNat = A.2.2.1 x1.toInt.toNat 0 := a2.2.2.1 _ 0 hs (by decide)
      have m2 : H.2.1 15 x1.toInt.toNat = A.2.2.1 x1.toInt.toNat 1 := a2.2.2.1 _ 1 hs (by decide)
      have l0 : H.2.1 74 (4 * x1.toInt.toNat + 2) = A.2.2.1 x1.toInt.toNat 2 := a3.2.2.1 _ 2 hs (by decide)
      have l1 : H.2.1 74 (4 * x1.toInt.toNat) = A.2.2.1 x1.toInt.toNat 0 := a3.2.2.1 _ 0 hs (by decide)
      have l2 : H.2.1 74 (4 * x1.toInt.toNat + 1) = A.2.2.1 x1.toInt.toNat 1 := a3.2.2.1 _ 1 hs (by decide)
      have hcl : xIn (xSo H) (A.2.2.1 x1.toInt.toNat 0).toInt := by
        rw [← l1]
        exact hr.1 x1.toInt.toNat (by omega)
      have hw : ∀ j, j < (H.2.1 16 x1.toInt.toNat).toInt.toNat → -1 ≤ (H.2.1 18 (8 * x1.toInt.toNat + j)).toInt ∧ (H.2.1 18 (8 * x1.toInt.toNat + j)).toInt ≤ 3 := fun j hj => by
        rw [m0] at hj
        have b := zB_ar1 (zB_dn (zB_Bc hI.1.1.1)) (p := 18) (t := 0) (n := 64) (i := 8 * x1.toInt.toNat + j) (r := (0, 3)) rfl (by omega) (by rw [show (zB_al zB_ar 18).1 = 1 from rfl, Nat.mod_one]; rfl)
        have b : 0 ≤ (H.2.1 18 (8 * x1.toInt.toNat + j)).toInt ∧ (H.2.1 18 (8 * x1.toInt.toNat + j)).toInt ≤ 3 := b
        exact ⟨by omega, b.2⟩
      have hs' : 0 ≤ x1.toInt ∧ x1.toInt < (H.2.1 13 0).toInt := by rw [n0, ← n5]; exact h
      have hE := xVy_e (wy := (fun j => H.2.1 18 (8 * x1.toInt.toNat + j))) (st := (fun j => H.2.1 19 (8 * x1.toInt.toNat + j))) hS (H.2.1 16 x1.toInt.toNat).toInt.toNat (Int32.ofInt 0) (H.2.1 14 x1.toInt.toNat) (H.2.1 15 x1.toInt.toNat) (by rw [m1]; exact hcl) (by decide) (by rw [m0, show (Int32.ofInt 0).toInt = 0 by decide]; omega)
      have key : ∀ K, xFv 54 H K → ∀ u, xXp (xSo H) (fun j => (zw_I (zw_J K 104 0 u) 72 0 (Int32.ofInt 0)).2.1 75 (16 * x1.toInt.toNat + 2 * j)) (fun j => (zw_I (zw_J K 104 0 u) 72 0 (Int32.ofInt 0)).2.1 75 (16 * x1.toInt.toNat + 2 * j + 1)) (xVy (xSo H) (fun j => (zw_I (zw_J K 104 0 u) 72 0 (Int32.ofInt 0)).2.1 75 (16 * x1.toInt.toNat + 2 * j)) (fun j => (zw_I (zw_J K 104 0 u) 72 0 (Int32.ofInt 0)).2.1 75 (16 * x1.toInt.toNat + 2 * j + 1)) ((zw_I (zw_J K 104 0 u) 72 0 (Int32.ofInt 0)).2.1 74 (4 * x1.toInt.toNat + 2)).toInt.toNat (Int32.ofInt 0) ((zw_I (zw_J K 104 0 u) 72 0 (Int32.ofInt 0)).2.1 74 (4 * x1.toInt.toNat)) ((zw_I (zw_J K 104 0 u) 72 0 (Int32.ofInt 0)).2.1 74 (4 * x1.toInt.toNat + 1))) = xXp (xSo H) (fun j => H.2.1 18 (8 * x1.toInt.toNat + j)) (fun j => H.2.1 19 (8 * x1.toInt.toNat + j)) (xVy (xSo H) (fun j => H.2.1 18 (8 * x1.toInt.toNat + j)) (fun j => H.2.1 19 (8 * x1.toInt.toNat + j)) (H.2.1 16 x1.toInt.toNat).toInt.toNat (Int32.ofInt 0) (H.2.1 14 x1.toInt.toNat) (H.2.1 15 x1.toInt.toNat)) := fun K hK u => by
        have f4 : ∀ k, (zw_I (zw_J K 104 0 u) 72 0 (Int32.ofInt 0)).2.1 74 k = H.2.1 74 k := fun k => (zw_ne rfl rfl : _ = K.2.1 74 k).trans (hK.2.2.1 74 k (by decide))
        have f5 : ∀ k, (zw_I (zw_J K 104 0 u) 72 0 (Int32.ofInt 0)).2.1 75 k = H.2.1 75 k := fun k => (zw_ne rfl rfl : _ = K.2.1 75 k).trans (hK.2.2.1 75 k (by decide))
        have ej : ∀ j, j < (A.2.2.1 x1.toInt.toNat 2).toInt.toNat → (zw_I (zw_J K 104 0 u) 72 0 (Int32.ofInt 0)).2.1 75 (16 * x1.toInt.toNat + 2 * j) = H.2.1 18 (8 * x1.toInt.toNat + j) ∧ (zw_I (zw_J K 104 0 u) 72 0 (Int32.ofInt 0)).2.1 75 (16 * x1.toInt.toNat + 2 * j + 1) = H.2.1 19 (8 * x1.toInt.toNat + j) := fun j hj => by
          rw [f5, f5]
          exact ⟨(a3.2.2.2.1 x1.toInt.toNat j 0 hs hj (by decide)).trans (a2.2.2.2.1 x1.toInt.toNat j 0 hs hj (by decide)).symm, (a3.2.2.2.1 x1.toInt.toNat j 1 hs hj (by decide)).trans (a2.2.2.2.1 x1.toInt.toNat j 1 hs hj (by decide)).symm⟩
        have e1 : (xVy (xSo H) (fun j => (zw_I (zw_J K 104 0 u) 72 0 (Int32.ofInt 0)).2.1 75 (16 * x1.toInt.toNat + 2 * j)) (fun j => (zw_I (zw_J K 104 0 u) 72 0 (Int32.ofInt 0)).2.1 75 (16 * x1.toInt.toNat + 2 * j + 1)) ((zw_I (zw_J K 104 0 u) 72 0 (Int32.ofInt 0)).2.1 74 (4 * x1.toInt.toNat + 2)).toInt.toNat (Int32.ofInt 0) ((zw_I (zw_J K 104 0 u) 72 0 (Int32.ofInt 0)).2.1 74 (4 * x1.toInt.toNat)) ((zw_I (zw_J K 104 0 u) 72 0 (Int32.ofInt 0)).2.1 74 (4 * x1.toInt.toNat + 1))) = (xVy (xSo H) (fun j => H.2.1 18 (8 * x1.toInt.toNat + j)) (fun j => H.2.1 19 (8 * x1.toInt.toNat + j)) (H.2.1 16 x1.toInt.toNat).toInt.toNat (Int32.ofInt 0) (H.2.1 14 x1.toInt.toNat) (H.2.1 15 x1.toInt.toNat)) := by
          rw [f4, f4, f4, l0, l1, l2, m0, m1, m2]
          exact xVy_c (m := (A.2.2.1 x1.toInt.toNat 2).toInt.toNat) ej _ _ _ _ (by decide) (by rw [show (Int32.ofInt 0).toInt = 0 by decide]; omega) (by omega)
        rw [e1]
        refine xXp_c (m := (A.2.2.1 x1.toInt.toNat 2).toInt.toNat) ej (fun h9 => ?_)
        have h8 := hE h9
        rw [show (Int32.ofInt 0).toInt = 0 by decide] at h8
        obtain ⟨h7, h6, -⟩ := h8
        rw [m0] at h6 h7
        rw [m0]
        omega
      rcases xXp_01 (xSo H) (fun j => H.2.1 18 (8 * x1.toInt.toNat + j)) (fun j => H.2.1 19 (8 * x1.toInt.toNat + j)) (xVy (xSo H) (fun j => H.2.1 18 (8 * x1.toInt.toNat + j)) (fun j => H.2.1 19 (8 * x1.toInt.toNat + j)) (H.2.1 16 x1.toInt.toNat).toInt.toNat (Int32.ofInt 0) (H.2.1 14 x1.toInt.toNat) (H.2.1 15 x1.toInt.toNat)) with hv | hv
      · obtain ⟨K, k1, k2⟩ := yl_ex0_0 (L := L) (σ := σ) (d := d + 53) (x1 := x1) hI.1.1.1 hS hC hs' (by rw [m0]; exact hm) hw (by rw [m1]; exact hcl) hv
        have e1 := zp_Call_u c1 k1
        cases e1
        have f4 : ∀ k, (zw_I (zw_J K 104 0 (Int64.ofNat 0)) 72 0 (Int32.ofInt 0)).2.1 74 k = H.2.1 74 k := fun k => (zw_ne rfl rfl : _ = K.2.1 74 k).trans (k2.2.2.1 74 k (by decide))
        obtain ⟨_, j1, J, rfl, j2⟩ := yr_ex (L := L) (σ := σ) (d := d + 56) (S := xSo H) (x1 := x1) W1 hS (show xSR (zw_J K 104 0 (Int64.ofNat 0)) (xSo H) from xSR_J (xSR_v k2 (by decide) (xSR_o H))) (by rw [show (zw_J K 104 0 (Int64.ofNat 0)).2.1 72 5 = H.2.1 72 5 from k2.2.2.1 72 5 (by decide)]; exact h) (by omega) (by rw [f4, l0]; exact hm) (by rw [f4, l1]; exact hcl)
        have e2 := zp_Call_u c2 j1
        cases e2
        refine ⟨_, _, _, _, c1, c2, hI1.1.1.1.1, hI2, (congrArg Int32.toInt (j2.2.2.1 72 0 (by decide))).trans (congrArg Int32.toInt zw_eq), fun _ => Or.inl ⟨(key K k2 _).trans hv, ?_⟩⟩
        rw [j2.2.2.2 104 0 (by decide)]
        exact zp_u_self K.2.2.1 104 0 _
      · obtain ⟨K, k1, k2⟩ := yl_ex0_1 (L := L) (σ := σ) (d := d + 53) (x1 := x1) hI.1.1.1 hS hC hs' (by rw [m0]; exact hm) hw (by rw [m1]; exact hcl) hv
        have e1 := zp_Call_u c1 k1
        cases e1
        have f4 : ∀ k, (zw_I (zw_J K 104 0 (Int64.ofNat 1)) 72 0 (Int32.ofInt 0)).2.1 74 k = H.2.1 74 k := fun k => (zw_ne rfl rfl : _ = K.2.1 74 k).trans (k2.2.2.1 74 k (by decide))
        obtain ⟨_, j1, J, rfl, j2⟩ := yr_ex (L := L) (σ := σ) (d := d + 56) (S := xSo H) (x1 := x1) W1 hS (show xSR (zw_J K 104 0 (Int64.ofNat 1)) (xSo H) from xSR_J (xSR_v k2 (by decide) (xSR_o H))) (by rw [show (zw_J K 104 0 (Int64.ofNat 1)).2.1 72 5 = H.2.1 72 5 from k2.2.2.1 72 5 (by decide)]; exact h) (by omega) (by rw [f4, l0]; exact hm) (by rw [f4, l1]; exact hcl)
        have e2 := zp_Call_u c2 j1
        cases e2
        refine ⟨_, _, _, _, c1, c2, hI1.1.1.1.1, hI2, (congrArg Int32.toInt (j2.2.2.1 72 0 (by decide))).trans (congrArg Int32.toInt zw_eq), fun _ => Or.inr ⟨(key K k2 _).trans hv, ?_⟩⟩
        rw [j2.2.2.2 104 0 (by decide)]
        exact zp_u_self K.2.2.1 104 0 _
    · have e1 := zp_Call_u c1 (yl_exn0 (L := L) (σ := σ) (d := d + 57) hI.1.1.1 (by rw [n0, ← n5]; exact h))
      cases e1
      have e2 := zp_Call_u c2 (yr_exn (L := L) (σ := σ) (d := d + 56) W1 h)
      cases e2
      exact ⟨_, _, _, _, c1, c2, hI1.1.1.1.1, hI2, congrArg Int32.toInt zw_eq, fun h9 => absurd h9 (by decide)⟩
  · have n0 : (H.2.1 33 0).toInt = A.1 := n0
    by_cases h : 0 ≤ x1.toInt ∧ x1.toInt < (H.2.1 72 5).toInt
    · have hs : x1.toInt.toNat < A.1 := by omega
      obtain ⟨hS, hC⟩ := xJ_S3 hI
      have hm := a1.2.2.1 x1.toInt.toNat hs
      have m0 : H.2.1 36 x1.toInt.toNat = A.2.2.1 x1.toInt.toNat 2 := a2.2.2.1 _ 2 hs (by decide)
      have m1 : H.2.1 34 x1.toInt.toNat = A.2.2.1 x1.toInt.toNat 0 := a2.2.2.1 _ 0 hs (by decide)
      have m2 : H.2.1 35 x1.toInt.toNat = A.2.2.1 x1.toInt.toNat 1 := a2.2.2.1 _ 1 hs (by decide)
      have l0 : H.2.1 74 (4 * x1.toInt.toNat + 2) = A.2.2.1 x1.toInt.toNat 2 := a3.2.2.1 _ 2 hs (by decide)
      have l1 : H.2.1 74 (4 * x1.toInt.toNat) = A.2.2.1 x1.toInt.toNat 0 := a3.2.2.1 _ 0 hs (by decide)
      have l2 : H.2.1 74 (4 * x1.toInt.toNat + 1) = A.2.2.1 x1.toInt.toNat 1 := a3.2.2.1 _ 1 hs (by decide)
      have hcl : xIn (xSo H) (A.2.2.1 x1.toInt.toNat 0).toInt := by
        rw [← l1]
        exact hr.1 x1.toInt.toNat (by omega)
      have hw : ∀ j, j < (H.2.1 36 x1.toInt.toNat).toInt.toNat → -1 ≤ (H.2.1 38 (8 * x1.toInt.toNat + j)).toInt ∧ (H.2.1 38 (8 * x1.toInt.toNat + j)).toInt ≤ 3 := fun j hj => by
        rw [m0] at hj
        have b := zB_ar1 (zB_dn (zB_Bc hI.1.1.1)) (p := 38) (t := 0) (n := 64) (i := 8 * x1.toInt.toNat + j) (r := (0, 3)) rfl (by omega) (by rw [show (zB_al zB_ar 38).1 = 1 from rfl, Nat.mod_one]; rfl)
        have b : 0 ≤ (H.2.1 38 (8 * x1.toInt.toNat + j)).toInt ∧ (H.2.1 38 (8 * x1.toInt.toNat + j)).toInt ≤ 3 := b
        exact ⟨by omega, b.2⟩
      have hs' : 0 ≤ x1.toInt ∧ x1.toInt < (H.2.1 33 0).toInt := by rw [n0, ← n5]; exact h
      have hE := xVy_e (wy := (fun j => H.2.1 38 (8 * x1.toInt.toNat + j))) (st := (fun j => H.2.1 39 (8 * x1.toInt.toNat + j))) hS (H.2.1 36 x1.toInt.toNat).toInt.toNat (Int32.ofInt 0) (H.2.1 34 x1.toInt.toNat) (H.2.1 35 x1.toInt.toNat) (by rw [m1]; exact hcl) (by decide) (by rw [m0, show (Int32.ofInt 0).toInt = 0 by decide]; omega)
      have key : ∀ K, xFv 54 H K → ∀ u, xXp (xSo H) (fun j => (zw_I (zw_J K 104 0 u) 72 0 (Int32.ofInt 0)).2.1 75 (16 * x1.toInt.toNat + 2 * j)) (fun j => (zw_I (zw_J K 104 0 u) 72 0 (Int32.ofInt 0)).2.1 75 (16 * x1.toInt.toNat + 2 * j + 1)) (xVy (xSo H) (fun j => (zw_I (zw_J K 104 0 u) 72 0 (Int32.ofInt 0)).2.1 75 (16 * x1.toInt.toNat + 2 * j)) (fun j => (zw_I (zw_J K 104 0 u) 72 0 (Int32.ofInt 0)).2.1 75 (16 * x1.toInt.toNat + 2 * j + 1)) ((zw_I (zw_J K 104 0 u) 72 0 (Int32.ofInt 0)).2.1 74 (4 * x1.toInt.toNat + 2)).toInt.toNat (Int32.ofInt 0) ((zw_I (zw_J K 104 0 u) 72 0 (Int32.ofInt 0)).2.1 74 (4 * x1.toInt.toNat)) ((zw_I (zw_J K 104 0 u) 72 0 (Int32.ofInt 0)).2.1 74 (4 * x1.toInt.toNat + 1))) = xXp (xSo H) (fun j => H.2.1 38 (8 * x1.toInt.toNat + j)) (fun j => H.2.1 39 (8 * x1.toInt.toNat + j)) (xVy (xSo H) (fun j => H.2.1 38 (8 * x1.toInt.toNat + j)) (fun j => H.2.1 39 (8 * x1.toInt.toNat + j)) (H.2.1 36 x1.toInt.toNat).toInt.toNat (Int32.ofInt 0) (H.2.1 34 x1.toInt.toNat) (H.2.1 35 x1.toInt.toNat)) := fun K hK u => by
        have f4 : ∀ k, (zw_I (zw_J K 104 0 u) 72 0 (Int32.ofInt 0)).2.1 74 k = H.2.1 74 k := fun k => (zw_ne rfl rfl : _ = K.2.1 74 k).trans (hK.2.2.1 74 k (by decide))
        have f5 : ∀ k, (zw_I (zw_J K 104 0 u) 72 0 (Int32.ofInt 0)).2.1 75 k = H.2.1 75 k := fun k => (zw_ne rfl rfl : _ = K.2.1 75 k).trans (hK.2.2.1 75 k (by decide))
        have ej : ∀ j, j < (A.2.2.1 x1.toInt.toNat 2).toInt.toNat → (zw_I (zw_J K 104 0 u) 72 0 (Int32.ofInt 0)).2.1 75 (16 * x1.toInt.toNat + 2 * j) = H.2.1 38 (8 * x1.toInt.toNat + j) ∧ (zw_I (zw_J K 104 0 u) 72 0 (Int32.ofInt 0)).2.1 75 (16 * x1.toInt.toNat + 2 * j + 1) = H.2.1 39 (8 * x1.toInt.toNat + j) := fun j hj => by
          rw [f5, f5]
          exact ⟨(a3.2.2.2.1 x1.toInt.toNat j 0 hs hj (by decide)).trans (a2.2.2.2.1 x1.toInt.toNat j 0 hs hj (by decide)).symm, (a3.2.2.2.1 x1.toInt.toNat j 1 hs hj (by decide)).trans (a2.2.2.2.1 x1.toInt.toNat j 1 hs hj (by decide)).symm⟩
        have e1 : (xVy (xSo H) (fun j => (zw_I (zw_J K 104 0 u) 72 0 (Int32.ofInt 0)).2.1 75 (16 * x1.toInt.toNat + 2 * j)) (fun j => (zw_I (zw_J K 104 0 u) 72 0 (Int32.ofInt 0)).2.1 75 (16 * x1.toInt.toNat + 2 * j + 1)) ((zw_I (zw_J K 104 0 u) 72 0 (Int32.ofInt 0)).2.1 74 (4 * x1.toInt.toNat + 2)).toInt.toNat (Int32.ofInt 0) ((zw_I (zw_J K 104 0 u) 72 0 (Int32.ofInt 0)).2.1 74 (4 * x1.toInt.toNat)) ((zw_I (zw_J K 104 0 u) 72 0 (Int32.ofInt 0)).2.1 74 (4 * x1.toInt.toNat + 1))) = (xVy (xSo H) (fun j => H.2.1 38 (8 * x1.toInt.toNat + j)) (fun j => H.2.1 39 (8 * x1.toInt.toNat + j)) (H.2.1 36 x1.toInt.toNat).toInt.toNat (Int32.ofInt 0) (H.2.1 34 x1.toInt.toNat) (H.2.1 35 x1.toInt.toNat)) := by
          rw [f4, f4, f4, l0, l1, l2, m0, m1, m2]
          exact xVy_c (m := (A.2.2.1 x1.toInt.toNat 2).toInt.toNat) ej _ _ _ _ (by decide) (by rw [show (Int32.ofInt 0).toInt = 0 by decide]; omega) (by omega)
        rw [e1]
        refine xXp_c (m := (A.2.2.1 x1.toInt.toNat 2).toInt.toNat) ej (fun h9 => ?_)
        have h8 := hE h9
        rw [show (Int32.ofInt 0).toInt = 0 by decide] at h8
        obtain ⟨h7, h6, -⟩ := h8
        rw [m0] at h6 h7
        rw [m0]
        omega
      rcases xXp_01 (xSo H) (fun j => H.2.1 38 (8 * x1.toInt.toNat + j)) (fun j => H.2.1 39 (8 * x1.toInt.toNat + j)) (xVy (xSo H) (fun j => H.2.1 38 (8 * x1.toInt.toNat + j)) (fun j => H.2.1 39 (8 * x1.toInt.toNat + j)) (H.2.1 36 x1.toInt.toNat).toInt.toNat (Int32.ofInt 0) (H.2.1 34 x1.toInt.toNat) (H.2.1 35 x1.toInt.toNat)) with hv | hv
      · obtain ⟨K, k1, k2⟩ := yl_ex3_0 (L := L) (σ := σ) (d := d + 53) (x1 := x1) hI.1.1.1 hS hC hs' (by rw [m0]; exact hm) hw (by rw [m1]; exact hcl) hv
        have e1 := zp_Call_u c1 k1
        cases e1
        have f4 : ∀ k, (zw_I (zw_J K 104 0 (Int64.ofNat 0)) 72 0 (Int32.ofInt 0)).2.1 74 k = H.2.1 74 k := fun k => (zw_ne rfl rfl : _ = K.2.1 74 k).trans (k2.2.2.1 74 k (by decide))
        obtain ⟨_, j1, J, rfl, j2⟩ := yr_ex (L := L) (σ := σ) (d := d + 56) (S := xSo H) (x1 := x1) W1 hS (show xSR (zw_J K 104 0 (Int64.ofNat 0)) (xSo H) from xSR_J (xSR_v k2 (by decide) (xSR_o H))) (by rw [show (zw_J K 104 0 (Int64.ofNat 0)).2.1 72 5 = H.2.1 72 5 from k2.2.2.1 72 5 (by decide)]; exact h) (by omega) (by rw [f4, l0]; exact hm) (by rw [f4, l1]; exact hcl)
        have e2 := zp_Call_u c2 j1
        cases e2
        refine ⟨_, _, _, _, c1, c2, hI1.1.1.1.1, hI2, (congrArg Int32.toInt (j2.2.2.1 72 0 (by decide))).trans (congrArg Int32.toInt zw_eq), fun _ => Or.inl ⟨(key K k2 _).trans hv, ?_⟩⟩
        rw [j2.2.2.2 104 0 (by decide)]
        exact zp_u_self K.2.2.1 104 0 _
      · obtain ⟨K, k1, k2⟩ := yl_ex3_1 (L := L) (σ := σ) (d := d + 53) (x1 := x1) hI.1.1.1 hS hC hs' (by rw [m0]; exact hm) hw (by rw [m1]; exact hcl) hv
        have e1 := zp_Call_u c1 k1
        cases e1
        have f4 : ∀ k, (zw_I (zw_J K 104 0 (Int64.ofNat 1)) 72 0 (Int32.ofInt 0)).2.1 74 k = H.2.1 74 k := fun k => (zw_ne rfl rfl : _ = K.2.1 74 k).trans (k2.2.2.1 74 k (by decide))
        obtain ⟨_, j1, J, rfl, j2⟩ := yr_ex (L := L) (σ := σ) (d := d + 56) (S := xSo H) (x1 := x1) W1 hS (show xSR (zw_J K 104 0 (Int64.ofNat 1)) (xSo H) from xSR_J (xSR_v k2 (by decide) (xSR_o H))) (by rw [show (zw_J K 104 0 (Int64.ofNat 1)).2.1 72 5 = H.2.1 72 5 from k2.2.2.1 72 5 (by decide)]; exact h) (by omega) (by rw [f4, l0]; exact hm) (by rw [f4, l1]; exact hcl)
        have e2 := zp_Call_u c2 j1
        cases e2
        refine ⟨_, _, _, _, c1, c2, hI1.1.1.1.1, hI2, (congrArg Int32.toInt (j2.2.2.1 72 0 (by decide))).trans (congrArg Int32.toInt zw_eq), fun _ => Or.inr ⟨(key K k2 _).trans hv, ?_⟩⟩
        rw [j2.2.2.2 104 0 (by decide)]
        exact zp_u_self K.2.2.1 104 0 _
    · have e1 := zp_Call_u c1 (yl_exn3 (L := L) (σ := σ) (d := d + 57) hI.1.1.1 (by rw [n0, ← n5]; exact h))
      cases e1
      have e2 := zp_Call_u c2 (yr_exn (L := L) (σ := σ) (d := d + 56) W1 h)
      cases e2
      exact ⟨_, _, _, _, c1, c2, hI1.1.1.1.1, hI2, congrArg Int32.toInt zw_eq, fun h9 => absurd h9 (by decide)⟩
