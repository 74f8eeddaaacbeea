section
/-! ===== sails ===== -/
def zm_134 : za_MI := (yX11_needPilot, prog_1_method_29_code, 2, none, 11, 1, 6, [], za_i134)
theorem zm_134_t : za_MT 134 = some zm_134 := rfl
def zm_135 : za_MI := (yL_sails, method_14_code, 6, (some FieldType.int), 13, 3, 18, [(0, 12, 15, 18), (0, 12, 19, 13)], za_i135)
theorem zm_135_t : za_MT 135 = some zm_135 := rfl
def zm_228 : za_MI := (yX12_isPilot, prog_14_method_46_code, 2, (some FieldType.boolean), 12, 0, 0, [], za_i228)
theorem zm_228_t : za_MT 228 = some zm_228 := rfl
def zm_229 : za_MI := (yX12_sails, prog_14_method_72_code, 4, (some FieldType.int), 12, 0, 0, [], za_i229)
theorem zm_229_t : za_MT 229 = some zm_229 := rfl
/-- but both ships and the helm nothing is changed -/
def xFk (H H1 : zp_H) : Prop := H1.1 = H.1 ∧ H1.2.2.2 = H.2.2.2 ∧ (∀ p k, p ≠ 54 → p ≠ 57 → p ≠ 58 → p ≠ 59 → ¬ (p = 56 ∧ k = 2) → H1.2.1 p k = H.2.1 p k) ∧ ∀ p k, p ≠ 54 → p ≠ 57 → H1.2.2.1 p k = H.2.2.1 p k
theorem xCC_v {wp : Nat} {CC : Nat → List xIt} {H H1 : zp_H} (hp : wp = 2 ∨ wp = 22) (e : ∀ p k, p < 54 → H1.2.1 p k = H.2.1 p k) (h : xCC wp CC H) : xCC wp CC H1 := by
  obtain ⟨h1, h2, h3⟩ := h
  have e16 := e wp 16 (by omega)
  unfold xCC
  rw [e16]
  refine ⟨h1, fun r hr => ?_, fun r hr => by rw [e _ _ (by omega)]; exact h3 r hr⟩
  obtain ⟨a, b, c⟩ := h2 r hr
  exact ⟨a, xCl_e (fun k _ => e _ k (by omega)) (fun k _ => e _ k (by omega)) b, by rw [e _ _ (by omega)]; exact c⟩

theorem yc_np1_0 {L : Nat} {σ : Nat → Int32} {d : Nat} {H : zp_H} {x : Int32} (hB : zk_Bs (zB_c 0) zg zJc H) (h : (0 ≤ x.toInt ∧ x.toInt < (H.2.1 2 12).toInt)) : zp_Call L σ (d + 1) 134 [.inr (.inr (some 1)), .inl x] H (.inl none, H) := by
  have W := zB_Wd (zB_dn (zB_Bc hB))
  have g5 : H.2.2.2 0 5 = some 3 := hB.2.1 0 5 _ rfl
  have g6 : H.2.2.2 0 6 = some 14 := hB.2.1 0 6 _ rfl
  have g7 : H.2.2.2 0 7 = some 23 := hB.2.1 0 7 _ rfl
  have g8 : H.2.2.2 0 8 = some 34 := hB.2.1 0 8 _ rfl
  refine zw_ex (zw_met zm_134_t rfl rfl ?_)
  refine zw_ld (n := 1) (k := 1) (f := zp_isI) (pc' := 1) rfl rfl rfl rfl rfl ?_
  refine zw_blt1 (g := 15) (pc' := 4) rfl rfl rfl rfl (fun h1 => ?_) (fun h1 => ?_)
  · omega
  · refine zw_ld (n := 1) (k := 1) (f := zp_isI) (pc' := 5) rfl rfl rfl rfl rfl ?_
    refine zw_ld (n := 1) (k := 0) (f := zp_isR) (pc' := 6) rfl rfl rfl rfl rfl ?_
    refine zw_gR (q := 0) (pc' := 9) W rfl rfl rfl rfl g5 rfl ?_
    refine zw_gI (q := 2) (pc' := 12) W rfl rfl rfl rfl rfl rfl ?_
    refine zw_blt2 (g := 26) (pc' := 15) rfl rfl rfl rfl rfl (fun h2 => ?_) (fun h2 => ?_)
    · refine zw_rn rfl rfl ?_
      rfl
    · omega

theorem yc_np0_0 {L : Nat} {σ : Nat → Int32} {d : Nat} {H : zp_H} {x : Int32} (hB : zk_Bs (zB_c 0) zg zJc H) (h : ¬ (0 ≤ x.toInt ∧ x.toInt < (H.2.1 2 12).toInt)) : zp_Call L σ (d + 1) 134 [.inr (.inr (some 1)), .inl x] H (.inr 0, H) := by
  have W := zB_Wd (zB_dn (zB_Bc hB))
  have g5 : H.2.2.2 0 5 = some 3 := hB.2.1 0 5 _ rfl
  have g6 : H.2.2.2 0 6 = some 14 := hB.2.1 0 6 _ rfl
  have g7 : H.2.2.2 0 7 = some 23 := hB.2.1 0 7 _ rfl
  have g8 : H.2.2.2 0 8 = some 34 := hB.2.1 0 8 _ rfl
  refine zw_ex (zw_met zm_134_t rfl rfl ?_)
  refine zw_ld (n := 1) (k := 1) (f := zp_isI) (pc' := 1) rfl rfl rfl rfl rfl ?_
  refine zw_blt1 (g := 15) (pc' := 4) rfl rfl rfl rfl (fun h1 => ?_) (fun h1 => ?_)
  · exact zs_end (S := (15, _, [], H, (0, 0))) (X := (.inr 0, H)) rfl rfl rfl
  · refine zw_ld (n := 1) (k := 1) (f := zp_isI) (pc' := 5) rfl rfl rfl rfl rfl ?_
    refine zw_ld (n := 1) (k := 0) (f := zp_isR) (pc' := 6) rfl rfl rfl rfl rfl ?_
    refine zw_gR (q := 0) (pc' := 9) W rfl rfl rfl rfl g5 rfl ?_
    refine zw_gI (q := 2) (pc' := 12) W rfl rfl rfl rfl rfl rfl ?_
    refine zw_blt2 (g := 26) (pc' := 15) rfl rfl rfl rfl rfl (fun h2 => ?_) (fun h2 => ?_)
    · omega
    · exact zs_end (S := (15, _, [], H, (0, 0))) (X := (.inr 0, H)) rfl rfl rfl

theorem yc_np1_3 {L : Nat} {σ : Nat → Int32} {d : Nat} {H : zp_H} {x : Int32} (hB : zk_Bs (zB_c 3) zg zJc H) (h : (0 ≤ x.toInt ∧ x.toInt < (H.2.1 22 12).toInt)) : zp_Call L σ (d + 1) 134 [.inr (.inr (some 1)), .inl x] H (.inl none, H) := by
  have W := zB_Wd (zB_dn (zB_Bc hB))
  have g5 : H.2.2.2 0 5 = some 23 := hB.2.1 0 5 _ rfl
  have g6 : H.2.2.2 0 6 = some 34 := hB.2.1 0 6 _ rfl
  have g7 : H.2.2.2 0 7 = some 3 := hB.2.1 0 7 _ rfl
  have g8 : H.2.2.2 0 8 = some 14 := hB.2.1 0 8 _ rfl
  refine zw_ex (zw_met zm_134_t rfl rfl ?_)
  refine zw_ld (n := 1) (k := 1) (f := zp_isI) (pc' := 1) rfl rfl rfl rfl rfl ?_
  refine zw_blt1 (g := 15) (pc' := 4) rfl rfl rfl rfl (fun h1 => ?_) (fun h1 => ?_)
  · omega
  · refine zw_ld (n := 1) (k := 1) (f := zp_isI) (pc' := 5) rfl rfl rfl rfl rfl ?_
    refine zw_ld (n := 1) (k := 0) (f := zp_isR) (pc' := 6) rfl rfl rfl rfl rfl ?_
    refine zw_gR (q := 0) (pc' := 9) W rfl rfl rfl rfl g5 rfl ?_
    refine zw_gI (q := 22) (pc' := 12) W rfl rfl rfl rfl rfl rfl ?_
    refine zw_blt2 (g := 26) (pc' := 15) rfl rfl rfl rfl rfl (fun h2 => ?_) (fun h2 => ?_)
    · refine zw_rn rfl rfl ?_
      rfl
    · omega

theorem yc_np0_3 {L : Nat} {σ : Nat → Int32} {d : Nat} {H : zp_H} {x : Int32} (hB : zk_Bs (zB_c 3) zg zJc H) (h : ¬ (0 ≤ x.toInt ∧ x.toInt < (H.2.1 22 12).toInt)) : zp_Call L σ (d + 1) 134 [.inr (.inr (some 1)), .inl x] H (.inr 0, H) := by
  have W := zB_Wd (zB_dn (zB_Bc hB))
  have g5 : H.2.2.2 0 5 = some 23 := hB.2.1 0 5 _ rfl
  have g6 : H.2.2.2 0 6 = some 34 := hB.2.1 0 6 _ rfl
  have g7 : H.2.2.2 0 7 = some 3 := hB.2.1 0 7 _ rfl
  have g8 : H.2.2.2 0 8 = some 14 := hB.2.1 0 8 _ rfl
  refine zw_ex (zw_met zm_134_t rfl rfl ?_)
  refine zw_ld (n := 1) (k := 1) (f := zp_isI) (pc' := 1) rfl rfl rfl rfl rfl ?_
  refine zw_blt1 (g := 15) (pc' := 4) rfl rfl rfl rfl (fun h1 => ?_) (fun h1 => ?_)
  · exact zs_end (S := (15, _, [], H, (0, 0))) (X := (.inr 0, H)) rfl rfl rfl
  · refine zw_ld (n := 1) (k := 1) (f := zp_isI) (pc' := 5) rfl rfl rfl rfl rfl ?_
    refine zw_ld (n := 1) (k := 0) (f := zp_isR) (pc' := 6) rfl rfl rfl rfl rfl ?_
    refine zw_gR (q := 0) (pc' := 9) W rfl rfl rfl rfl g5 rfl ?_
    refine zw_gI (q := 22) (pc' := 12) W rfl rfl rfl rfl rfl rfl ?_
    refine zw_blt2 (g := 26) (pc' := 15) rfl rfl rfl rfl rfl (fun h2 => ?_) (fun h2 => ?_)
    · omega
    · exact zs_end (S := (15, _, [], H, (0, 0))) (X := (.inr 0, H)) rfl rfl rfl

theorem yr_ip1 {L : Nat} {σ : Nat → Int32} {d : Nat} {H : zp_H} (W : zw_W H) {x : Int32} (h0 : (H.2.1 72 0).toInt = 0) (h : (0 ≤ x.toInt ∧ x.toInt < (H.2.1 72 7).toInt)) : zp_Call L σ (d + 2) 228 [.inr (.inr (some 73)), .inl x] H (.inl (some (.inl (Int32.ofInt 1))), H) := by
  refine zw_ex (zw_met zm_228_t rfl rfl ?_)
  refine zw_ld (n := 1) (k := 0) (f := zp_isR) (pc' := 1) rfl rfl rfl rfl rfl ?_
  refine zw_ld (n := 1) (k := 1) (f := zp_isI) (pc' := 2) rfl rfl rfl rfl rfl ?_
  refine zw_blt1 (g := 17) (pc' := 5) rfl rfl rfl rfl (fun h1 => ?_) (fun h1 => ?_)
  · omega
  · refine zw_ld (n := 1) (k := 1) (f := zp_isI) (pc' := 6) rfl rfl rfl rfl rfl ?_
    refine zw_ld (n := 1) (k := 0) (f := zp_isR) (pc' := 7) rfl rfl rfl rfl rfl ?_
    refine zw_gI (q := 72) (pc' := 10) W rfl rfl rfl rfl rfl rfl ?_
    refine zw_bge2 (g := 17) (pc' := 13) rfl rfl rfl rfl rfl (fun h2 => ?_) (fun h2 => ?_)
    · omega
    · refine zw_s (pc' := 14) rfl rfl ?_
      refine zw_s (pc' := 18) rfl rfl ?_
      refine zw_s (pc' := 19) rfl rfl ?_
      refine zw_c (pc' := 22) (zw_cv (q := 72) (Y := zm_170) W.1 rfl rfl zm_170_t rfl rfl) rfl rfl rfl rfl rfl (zq_right1 W h0) ?_
      refine zw_rz rfl rfl (by decide) ?_
      rfl

theorem yr_ip0 {L : Nat} {σ : Nat → Int32} {d : Nat} {H : zp_H} (W : zw_W H) {x : Int32} (h0 : (H.2.1 72 0).toInt = 0) (h : ¬ (0 ≤ x.toInt ∧ x.toInt < (H.2.1 72 7).toInt)) : zp_Call L σ (d + 2) 228 [.inr (.inr (some 73)), .inl x] H (.inl (some (.inl (Int32.ofInt 0))), zw_I H 72 0 (Int32.ofInt 1)) := by
  refine zw_ex (zw_met zm_228_t rfl rfl ?_)
  refine zw_ld (n := 1) (k := 0) (f := zp_isR) (pc' := 1) rfl rfl rfl rfl rfl ?_
  refine zw_ld (n := 1) (k := 1) (f := zp_isI) (pc' := 2) rfl rfl rfl rfl rfl ?_
  refine zw_blt1 (g := 17) (pc' := 5) rfl rfl rfl rfl (fun h1 => ?_) (fun h1 => ?_)
  · refine zw_s (pc' := 18) rfl rfl ?_
    refine zw_s (pc' := 19) rfl rfl ?_
    refine zw_c (pc' := 22) (zw_cv (q := 72) (Y := zm_170) W.1 rfl rfl zm_170_t rfl rfl) rfl rfl rfl rfl rfl (zq_right0 W h0 (by decide)) ?_
    refine zw_rz rfl rfl (by decide) ?_
    rfl
  · refine zw_ld (n := 1) (k := 1) (f := zp_isI) (pc' := 6) rfl rfl rfl rfl rfl ?_
    refine zw_ld (n := 1) (k := 0) (f := zp_isR) (pc' := 7) rfl rfl rfl rfl rfl ?_
    refine zw_gI (q := 72) (pc' := 10) W rfl rfl rfl rfl rfl rfl ?_
    refine zw_bge2 (g := 17) (pc' := 13) rfl rfl rfl rfl rfl (fun h2 => ?_) (fun h2 => ?_)
    · refine zw_s (pc' := 18) rfl rfl ?_
      refine zw_s (pc' := 19) rfl rfl ?_
      refine zw_c (pc' := 22) (zw_cv (q := 72) (Y := zm_170) W.1 rfl rfl zm_170_t rfl rfl) rfl rfl rfl rfl rfl (zq_right0 W h0 (by decide)) ?_
      refine zw_rz rfl rfl (by decide) ?_
      rfl
    · omega

theorem xJ_C0 {t : Nat} {H : zp_H} (hJ : yJ 0 t H) : ∃ CC, xCC 2 CC H ∧ xCR CC H ∧ H.2.1 2 16 = H.2.1 72 8 ∧ (∀ r : Nat, (r : Int) < (H.2.1 72 8).toInt → H.2.1 10 r = H.2.1 79 r) ∧ H.2.1 2 12 = H.2.1 72 7 ∧ (∀ p : Nat, (p : Int) < (H.2.1 72 7).toInt → H.2.1 7 p = H.2.1 77 (3 * p) ∧ H.2.1 8 p = H.2.1 77 (3 * p + 1)) ∧ H.2.1 2 11 = H.2.1 72 11 ∧ (0 ≤ (H.2.1 72 7).toInt ∧ (H.2.1 72 7).toInt ≤ 4) := by
  have hB := hJ.1.1.1
  obtain ⟨-, q2, -, -, -, -, q7, q8⟩ := hJ.1.2.2
  have e16 : H.2.1 2 16 = H.2.1 72 8 := q2 (16, 8) (by decide)
  have e12 : H.2.1 2 12 = H.2.1 72 7 := q2 (12, 7) (by decide)
  have e11 : H.2.1 2 11 = H.2.1 72 11 := q2 (11, 11) (by decide)
  have b16 := zB_fr1 (zB_dn (zB_Bc hB)) (p := 2) (k := 16) (r := (0, 8)) rfl
  have b16 : 0 ≤ (H.2.1 2 16).toInt ∧ (H.2.1 2 16).toInt ≤ 8 := b16
  have b12 := zB_fr1 (zB_dn (zB_Bc hB)) (p := 2) (k := 12) (r := (0, 4)) rfl
  have b12 : 0 ≤ (H.2.1 2 12).toInt ∧ (H.2.1 2 12).toInt ≤ 4 := b12
  have hex : ∀ r : Nat, (r : Int) < (H.2.1 72 8).toInt → ∃ C, xOp 37 C ∧ xCl (ywp 0) H r C ∧ xRl 78 80 H r C ∧ (H.2.1 78 r).toInt + ((xR2 C).length : Int) + 1 ≤ 1600 := fun r hr => (q8 r hr).2.2
  have hk : ∀ r : Nat, ∃ C, (r : Int) < (H.2.1 72 8).toInt → xOp 37 C ∧ xCl (ywp 0) H r C ∧ xRl 78 80 H r C ∧ (H.2.1 78 r).toInt + ((xR2 C).length : Int) + 1 ≤ 1600 := fun r => by
    by_cases hr : (r : Int) < (H.2.1 72 8).toInt
    · obtain ⟨C, h⟩ := hex r hr
      exact ⟨C, fun _ => h⟩
    · exact ⟨[], fun h => absurd h hr⟩
  refine ⟨fun r => Classical.choose (hk r), ⟨b16, fun r hr => ?_, fun r hr => ?_⟩, ⟨by rw [← e16]; exact b16, fun r hr => ?_⟩, e16, fun r hr => (q8 r hr).1, e12, fun p hp => ⟨(q7 p hp).1, (q7 p hp).2.1⟩, e11, by rw [← e12]; exact b12⟩
  · rw [e16] at hr
    obtain ⟨a, b, -, -⟩ := Classical.choose_spec (hk r) hr
    exact ⟨a, b, (q8 r hr).2.1⟩
  · have b := zB_ar1 (zB_dn (zB_Bc hB)) (p := 10) (t := 0) (n := 8) (i := r) (r := (0, 3)) rfl (by omega) (by rw [show (zB_al zB_ar 10).1 = 1 from rfl, Nat.mod_one]; rfl)
    have b : 0 ≤ (H.2.1 10 r).toInt ∧ (H.2.1 10 r).toInt ≤ 3 := b
    show -1 ≤ (H.2.1 10 r).toInt ∧ (H.2.1 10 r).toInt ≤ 3
    omega
  · obtain ⟨a, -, b, e⟩ := Classical.choose_spec (hk r) hr
    exact ⟨a, b, e⟩

theorem xJ_C3 {t : Nat} {H : zp_H} (hJ : yJ 3 t H) : ∃ CC, xCC 22 CC H ∧ xCR CC H ∧ H.2.1 22 16 = H.2.1 72 8 ∧ (∀ r : Nat, (r : Int) < (H.2.1 72 8).toInt → H.2.1 30 r = H.2.1 79 r) ∧ H.2.1 22 12 = H.2.1 72 7 ∧ (∀ p : Nat, (p : Int) < (H.2.1 72 7).toInt → H.2.1 27 p = H.2.1 77 (3 * p) ∧ H.2.1 28 p = H.2.1 77 (3 * p + 1)) ∧ H.2.1 22 11 = H.2.1 72 11 ∧ (0 ≤ (H.2.1 72 7).toInt ∧ (H.2.1 72 7).toInt ≤ 4) := by
  have hB := hJ.1.1.1
  obtain ⟨-, q2, -, -, -, -, q7, q8⟩ := hJ.1.2.2
  have e16 : H.2.1 22 16 = H.2.1 72 8 := q2 (16, 8) (by decide)
  have e12 : H.2.1 22 12 = H.2.1 72 7 := q2 (12, 7) (by decide)
  have e11 : H.2.1 22 11 = H.2.1 72 11 := q2 (11, 11) (by decide)
  have b16 := zB_fr1 (zB_dn (zB_Bc hB)) (p := 22) (k := 16) (r := (0, 8)) rfl
  have b16 : 0 ≤ (H.2.1 22 16).toInt ∧ (H.2.1 22 16).toInt ≤ 8 := b16
  have b12 := zB_fr1 (zB_dn (zB_Bc hB)) (p := 22) (k := 12) (r := (0, 4)) rfl
  have b12 : 0 ≤ (H.2.1 22 12).toInt ∧ (H.2.1 22 12).toInt ≤ 4 := b12
  have hex : ∀ r : Nat, (r : Int) < (H.2.1 72 8).toInt → ∃ C, xOp 37 C ∧ xCl (ywp 3) H r C ∧ xRl 78 80 H r C ∧ (H.2.1 78 r).toInt + ((xR2 C).length : Int) + 1 ≤ 1600 := fun r hr => (q8 r hr).2.2
  have hk : ∀ r : Nat, ∃ C, (r : Int) < (H.2.1 72 8).toInt → xOp 37 C ∧ xCl (ywp 3) H r C ∧ xRl 78 80 H r C ∧ (H.2.1 78 r).toInt + ((xR2 C).length : Int) + 1 ≤ 1600 := fun r => by
    by_cases hr : (r : Int) < (H.2.1 72 8).toInt
    · obtain ⟨C, h⟩ := hex r hr
      exact ⟨C, fun _ => h⟩
    · exact ⟨[], fun h => absurd h hr⟩
  refine ⟨fun r => Classical.choose (hk r), ⟨b16, fun r hr => ?_, fun r hr => ?_⟩, ⟨by rw [← e16]; exact b16, fun r hr => ?_⟩, e16, fun r hr => (q8 r hr).1, e12, fun p hp => ⟨(q7 p hp).1, (q7 p hp).2.1⟩, e11, by rw [← e12]; exact b12⟩
  · rw [e16] at hr
    obtain ⟨a, b, -, -⟩ := Classical.choose_spec (hk r) hr
    exact ⟨a, b, (q8 r hr).2.1⟩
  · have b := zB_ar1 (zB_dn (zB_Bc hB)) (p := 30) (t := 0) (n := 8) (i := r) (r := (0, 3)) rfl (by omega) (by rw [show (zB_al zB_ar 30).1 = 1 from rfl, Nat.mod_one]; rfl)
    have b : 0 ≤ (H.2.1 30 r).toInt ∧ (H.2.1 30 r).toInt ≤ 3 := b
    show -1 ≤ (H.2.1 30 r).toInt ∧ (H.2.1 30 r).toInt ≤ 3
    omega
  · obtain ⟨a, -, b, e⟩ := Classical.choose_spec (hk r) hr
    exact ⟨a, b, e⟩
end
section
/-! ===== a pilot, both sides ===== -/

/-- how a pilot fares who has read these slates: the class's, the reference's -/
def xPc (S : xSea) (CC : Nat → List xIt) (wp cp : Nat) (H : zp_H) (p : Nat) (set : Int32) : Int32 × Int32 × Int32 := xPl S (H.2.1 wp 11).toInt (fun c h => xWb (xVl S c h (xKn (fun s => xWk (xVyc S cp H s)) set (H.2.1 cp 0).toInt.toNat (Int32.ofInt 0) (Int64.ofNat 0))) (H.2.1 (wp + 8)) CC (H.2.1 wp 16).toInt.toNat 0) 60 (H.2.1 (wp + 5) p) (H.2.1 (wp + 6) p) (xP0 S (H.2.1 wp 11).toInt (H.2.1 (wp + 5) p))
def xPr (S : xSea) (CC : Nat → List xIt) (H : zp_H) (p : Nat) (set : Int32) : Int32 × Int32 × Int32 := xPl S (H.2.1 72 11).toInt (fun c h => xWb (xVl S c h (xKn (fun s => xWk (xVyr S H s)) set (H.2.1 72 5).toInt.toNat (Int32.ofInt 0) (Int64.ofNat 0))) (H.2.1 79) CC (H.2.1 72 8).toInt.toNat 0) 60 (H.2.1 77 (3 * p)) (H.2.1 77 (3 * p + 1)) (xP0 S (H.2.1 72 11).toInt (H.2.1 77 (3 * p)))
theorem xPr_f {S : xSea} {CC : Nat → List xIt} {H K : zp_H} {p : Nat} {set : Int32} (e : ∀ k, k = 5 ∨ k = 8 ∨ k = 11 → K.2.1 72 k = H.2.1 72 k) (e2 : ∀ q k, q = 74 ∨ q = 75 ∨ q = 77 ∨ q = 79 → K.2.1 q k = H.2.1 q k) : xPr S CC K p set = xPr S CC H p set := by
  have ev : (fun s => xWk (xVyr S K s)) = fun s => xWk (xVyr S H s) := funext fun s => by
    rw [xVyr_f (fun k => e2 74 k (by decide)) (fun k => e2 75 k (by decide))]
  have e9 : K.2.1 79 = H.2.1 79 := funext fun k => e2 79 k (by decide)
  unfold xPr
  rw [ev, e9, e 5 (by decide), e 8 (by decide), e 11 (by decide), e2 77 _ (by decide), e2 77 _ (by decide)]
/-- what the class's slates keep to -/
def xMk9 (S : xSea) (cp : Nat) (H : zp_H) : Prop := (0 ≤ (H.2.1 cp 0).toInt ∧ (H.2.1 cp 0).toInt ≤ 8) ∧ (∀ s : Nat, (s : Int) < (H.2.1 cp 0).toInt → 0 ≤ (H.2.1 (cp + 3) s).toInt ∧ (H.2.1 (cp + 3) s).toInt ≤ 8) ∧ (∀ s : Nat, (s : Int) < (H.2.1 cp 0).toInt → ∀ j, j < (H.2.1 (cp + 3) s).toInt.toNat → -1 ≤ (H.2.1 (cp + 5) (8 * s + j)).toInt ∧ (H.2.1 (cp + 5) (8 * s + j)).toInt ≤ 3) ∧ ∀ s : Nat, (s : Int) < (H.2.1 cp 0).toInt → xIn S (H.2.1 (cp + 1) s).toInt
/-- what the reference's slates keep to -/
def xMr9 (S : xSea) (H : zp_H) : Prop := (0 ≤ (H.2.1 72 5).toInt ∧ (H.2.1 72 5).toInt ≤ 8) ∧ (∀ s : Nat, (s : Int) < (H.2.1 72 5).toInt → 0 ≤ (H.2.1 74 (4 * s + 2)).toInt ∧ (H.2.1 74 (4 * s + 2)).toInt ≤ 8) ∧ ∀ s : Nat, (s : Int) < (H.2.1 72 5).toInt → xIn S (H.2.1 74 (4 * s)).toInt
theorem xMr9_f {S : xSea} {H H1 : zp_H} (e5 : H1.2.1 72 5 = H.2.1 72 5) (e : ∀ k, H1.2.1 74 k = H.2.1 74 k) (h : xMr9 S H) : xMr9 S H1 := by
  unfold xMr9
  rw [e5]
  exact ⟨h.1, fun s hs => by rw [e]; exact h.2.1 s hs, fun s hs => by rw [e]; exact h.2.2 s hs⟩

theorem xJ_M0 {t : Nat} {H : zp_H} (hI : yJ 0 t H) : xMk9 (xSo H) 13 H ∧ xMr9 (xSo H) H ∧ H.2.1 13 0 = H.2.1 72 5 ∧ (∀ p : Nat, (p : Int) < (H.2.1 72 7).toInt → xIn (xSo H) (H.2.1 77 (3 * p)).toInt) ∧ ∀ K : zp_H, (∀ k, K.2.1 74 k = H.2.1 74 k) → (∀ k, K.2.1 75 k = H.2.1 75 k) → ∀ s : Nat, (s : Int) < (H.2.1 72 5).toInt → xVyr (xSo H) K s = xVyc (xSo H) 13 H s := by
  obtain ⟨⟨A, a1, a2, a3⟩, -⟩ := id hI.2
  have hr : yGr H := hI.2.2.2.2.2.2
  have n5 := a3.1
  have n0 := a2.1
  have n0 : (H.2.1 13 0).toInt = A.1 := n0
  have n8 := a1.1
  have e05 : H.2.1 13 0 = H.2.1 72 5 := Int32.toInt_inj.mp (by rw [n0, ← n5])
  refine ⟨⟨⟨by omega, by omega⟩, fun s hs => ?_, fun s hs j hj => ?_, fun s hs => ?_⟩, ⟨⟨by omega, by omega⟩, fun s hs => ?_, fun s hs => hr.1 s hs⟩, e05, fun p hp => hr.2.2 p hp, fun K f4 f5 s hs => ?_⟩
  · have e : H.2.1 16 s = A.2.2.1 s 2 := a2.2.2.1 s 2 (by omega) (by decide)
    rw [e]
    exact a1.2.2.1 s (by omega)
  · have e : H.2.1 16 s = A.2.2.1 s 2 := a2.2.2.1 s 2 (by omega) (by decide)
    have hm9 := a1.2.2.1 s (show s < A.1 by omega)
    have hj : j < (H.2.1 16 s).toInt.toNat := hj
    rw [e] at hj
    have b := zB_ar1 (zB_dn (zB_Bc hI.1.1.1)) (p := 18) (t := 0) (n := 64) (i := 8 * s + j) (r := (0, 3)) rfl (by omega) (by rw [show (zB_al zB_ar 18).1 = 1 from rfl, Nat.mod_one]; rfl)
    have b : 0 ≤ (H.2.1 18 (8 * s + j)).toInt ∧ (H.2.1 18 (8 * s + j)).toInt ≤ 3 := b
    exact ⟨by show -1 ≤ (H.2.1 18 (8 * s + j)).toInt; omega, b.2⟩
  · have e : H.2.1 14 s = A.2.2.1 s 0 := a2.2.2.1 s 0 (by omega) (by decide)
    have e2 : H.2.1 74 (4 * s) = A.2.2.1 s 0 := a3.2.2.1 s 0 (by omega) (by decide)
    rw [e, ← e2]
    exact hr.1 s (by omega)
  · have e : H.2.1 74 (4 * s + 2) = A.2.2.1 s 2 := a3.2.2.1 s 2 (by omega) (by decide)
    rw [e]
    exact a1.2.2.1 s (by omega)
  · have hsA : s < A.1 := by omega
    have l0 : H.2.1 74 (4 * s + 2) = A.2.2.1 s 2 := a3.2.2.1 _ 2 hsA (by decide)
    have l1 : H.2.1 74 (4 * s) = A.2.2.1 s 0 := a3.2.2.1 _ 0 hsA (by decide)
    have l2 : H.2.1 74 (4 * s + 1) = A.2.2.1 s 1 := a3.2.2.1 _ 1 hsA (by decide)
    have k0 : H.2.1 16 s = A.2.2.1 s 2 := a2.2.2.1 _ 2 hsA (by decide)
    have k1 : H.2.1 14 s = A.2.2.1 s 0 := a2.2.2.1 _ 0 hsA (by decide)
    have k2 : H.2.1 15 s = A.2.2.1 s 1 := a2.2.2.1 _ 1 hsA (by decide)
    have hm9 := a1.2.2.1 s hsA
    unfold xVyr xVyc
    show xVy (xSo H) _ _ (K.2.1 74 (4 * s + 2)).toInt.toNat (Int32.ofInt 0) (K.2.1 74 (4 * s)) (K.2.1 74 (4 * s + 1)) = xVy (xSo H) _ _ (H.2.1 16 s).toInt.toNat (Int32.ofInt 0) (H.2.1 14 s) (H.2.1 15 s)
    rw [f4, f4, f4, l0, l1, l2, k0, k1, k2]
    refine xVy_c (m := (A.2.2.1 s 2).toInt.toNat) (fun j hj => ⟨?_, ?_⟩) _ _ _ _ (by decide) (by rw [show (Int32.ofInt 0).toInt = 0 by decide]; omega) (by omega)
    · show K.2.1 75 (16 * s + 2 * j) = H.2.1 18 (8 * s + j)
      rw [f5]
      exact (a3.2.2.2.1 s j 0 hsA hj (by decide)).trans (a2.2.2.2.1 s j 0 hsA hj (by decide)).symm
    · show K.2.1 75 (16 * s + 2 * j + 1) = H.2.1 19 (8 * s + j)
      rw [f5]
      exact (a3.2.2.2.1 s j 1 hsA hj (by decide)).trans (a2.2.2.2.1 s j 1 hsA hj (by decide)).symm
/-- both sides say the same of a pilot -/
theorem xJ_P0 {t : Nat} {H : zp_H} (hI : yJ 0 t H) {CC : Nat → List xIt} (e16 : H.2.1 2 16 = H.2.1 72 8) (h8 : 0 ≤ (H.2.1 72 8).toInt ∧ (H.2.1 72 8).toInt ≤ 8) (e79 : ∀ r : Nat, (r : Int) < (H.2.1 72 8).toInt → H.2.1 10 r = H.2.1 79 r) (e77 : ∀ p : Nat, (p : Int) < (H.2.1 72 7).toInt → H.2.1 7 p = H.2.1 77 (3 * p) ∧ H.2.1 8 p = H.2.1 77 (3 * p + 1)) (e11 : H.2.1 2 11 = H.2.1 72 11) {p : Nat} (hp : (p : Int) < (H.2.1 72 7).toInt) (set : Int32) : xPr (xSo H) CC H p set = xPc (xSo H) CC 2 13 H p set := by
  obtain ⟨m1, m2, e05, m3, m4⟩ := xJ_M0 hI
  obtain ⟨p5, p6⟩ := e77 p hp
  have gk : xKn (fun s => xWk (xVyr (xSo H) H s)) set (H.2.1 72 5).toInt.toNat (Int32.ofInt 0) (Int64.ofNat 0) = xKn (fun s => xWk (xVyc (xSo H) 13 H s)) set (H.2.1 72 5).toInt.toNat (Int32.ofInt 0) (Int64.ofNat 0) := by
    have b5 := m2.1
    refine xKn_c _ _ _ (by decide) (by rw [show (Int32.ofInt 0).toInt = 0 by decide]; omega) (fun s hs => ?_)
    rw [show (Int32.ofInt 0).toInt = 0 by decide] at hs
    show xWk _ = xWk _
    rw [m4 H (fun _ => rfl) (fun _ => rfl) s (by omega)]
  unfold xPr xPc
  show xPl (xSo H) _ _ 60 _ _ (xP0 (xSo H) _ _) = xPl (xSo H) (H.2.1 2 11).toInt (fun c h => xWb (xVl (xSo H) c h (xKn (fun s => xWk (xVyc (xSo H) 13 H s)) set (H.2.1 13 0).toInt.toNat (Int32.ofInt 0) (Int64.ofNat 0))) (H.2.1 10) CC (H.2.1 2 16).toInt.toNat 0) 60 (H.2.1 7 p) (H.2.1 8 p) (xP0 (xSo H) (H.2.1 2 11).toInt (H.2.1 7 p))
  rw [gk, p5, p6, e11, e05, e16]
  refine congrFun (congrFun (congrFun (congrFun (xPl_c (fun c h => xWb_c _ _ (fun r hr9 => ?_))) _) _) _) _
  have hr9 : r < 0 + (H.2.1 72 8).toInt.toNat := hr9
  exact (e79 r (by omega)).symm

theorem xJ_M3 {t : Nat} {H : zp_H} (hI : yJ 3 t H) : xMk9 (xSo H) 33 H ∧ xMr9 (xSo H) H ∧ H.2.1 33 0 = H.2.1 72 5 ∧ (∀ p : Nat, (p : Int) < (H.2.1 72 7).toInt → xIn (xSo H) (H.2.1 77 (3 * p)).toInt) ∧ ∀ K : zp_H, (∀ k, K.2.1 74 k = H.2.1 74 k) → (∀ k, K.2.1 75 k = H.2.1 75 k) → ∀ s : Nat, (s : Int) < (H.2.1 72 5).toInt → xVyr (xSo H) K s = xVyc (xSo H) 33 H s := by
  obtain ⟨⟨A, a1, a2, a3⟩, -⟩ := id hI.2
  have hr : yGr H := hI.2.2.2.2.2.2
  have n5 := a3.1
  have n0 := a2.1
  have n0 : (H.2.1 33 0).toInt = A.1 := n0
  have n8 := a1.1
  have e05 : H.2.1 33 0 = H.2.1 72 5 := Int32.toInt_inj.mp (by rw [n0, ← n5])
  refine ⟨⟨⟨by omega, by omega⟩, fun s hs => ?_, fun s hs j hj => ?_, fun s hs => ?_⟩, ⟨⟨by omega, by omega⟩, fun s hs => ?_, fun s hs => hr.1 s hs⟩, e05, fun p hp => hr.2.2 p hp, fun K f4 f5 s hs => ?_⟩
  · have e : H.2.1 36 s = A.2.2.1 s 2 := a2.2.2.1 s 2 (by omega) (by decide)
    rw [e]
    exact a1.2.2.1 s (by omega)
  · have e : H.2.1 36 s = A.2.2.1 s 2 := a2.2.2.1 s 2 (by omega) (by decide)
    have hm9 := a1.2.2.1 s (show s < A.1 by omega)
    have hj : j < (H.2.1 36 s).toInt.toNat := hj
    rw [e] at hj
    have b := zB_ar1 (zB_dn (zB_Bc hI.1.1.1)) (p := 38) (t := 0) (n := 64) (i := 8 * s + j) (r := (0, 3)) rfl (by omega) (by rw [show (zB_al zB_ar 38).1 = 1 from rfl, Nat.mod_one]; rfl)
    have b : 0 ≤ (H.2.1 38 (8 * s + j)).toInt ∧ (H.2.1 38 (8 * s + j)).toInt ≤ 3 := b
    exact ⟨by show -1 ≤ (H.2.1 38 (8 * s + j)).toInt; omega, b.2⟩
  · have e : H.2.1 34 s = A.2.2.1 s 0 := a2.2.2.1 s 0 (by omega) (by decide)
    have e2 : H.2.1 74 (4 * s) = A.2.2.1 s 0 := a3.2.2.1 s 0 (by omega) (by decide)
    rw [e, ← e2]
    exact hr.1 s (by omega)
  · have e : H.2.1 74 (4 * s + 2) = A.2.2.1 s 2 := a3.2.2.1 s 2 (by omega) (by decide)
    rw [e]
    exact a1.2.2.1 s (by omega)
  · have hsA : s < A.1 := by omega
    have l0 : H.2.1 74 (4 * s + 2) = A.2.2.1 s 2 := a3.2.2.1 _ 2 hsA (by decide)
    have l1 : H.2.1 74 (4 * s) = A.2.2.1 s 0 := a3.2.2.1 _ 0 hsA (by decide)
    have l2 : H.2.1 74 (4 * s + 1) = A.2.2.1 s 1 := a3.2.2.1 _ 1 hsA (by decide)
    have k0 : H.2.1 36 s = A.2.2.1 s 2 := a2.2.2.1 _ 2 hsA (by decide)
    have k1 : H.2.1 34 s = A.2.2.1 s 0 := a2.2.2.1 _ 0 hsA (by decide)
    have k2 : H.2.1 35 s = A.2.2.1 s 1 := a2.2.2.1 _ 1 hsA (by decide)
    have hm9 := a1.2.2.1 s hsA
    unfold xVyr xVyc
    show xVy (xSo H) _ _ (K.2.1 74 (4 * s + 2)).toInt.toNat (Int32.ofInt 0) (K.2.1 74 (4 * s)) (K.2.1 74 (4 * s + 1)) = xVy (xSo H) _ _ (H.2.1 36 s).toInt.toNat (Int32.ofInt 0) (H.2.1 34 s) (H.2.1 35 s)
    rw [f4, f4, f4, l0, l1, l2, k0, k1, k2]
    refine xVy_c (m := (A.2.2.1 s 2).toInt.toNat) (fun j hj => ⟨?_, ?_⟩) _ _ _ _ (by decide) (by rw [show (Int32.ofInt 0).toInt = 0 by decide]; omega) (by omega)
    · show K.2.1 75 (16 * s + 2 * j) = H.2.1 38 (8 * s + j)
      rw [f5]
      exact (a3.2.2.2.1 s j 0 hsA hj (by decide)).trans (a2.2.2.2.1 s j 0 hsA hj (by decide)).symm
    · show K.2.1 75 (16 * s + 2 * j + 1) = H.2.1 39 (8 * s + j)
      rw [f5]
      exact (a3.2.2.2.1 s j 1 hsA hj (by decide)).trans (a2.2.2.2.1 s j 1 hsA hj (by decide)).symm
/-- both sides say the same of a pilot -/
theorem xJ_P3 {t : Nat} {H : zp_H} (hI : yJ 3 t H) {CC : Nat → List xIt} (e16 : H.2.1 22 16 = H.2.1 72 8) (h8 : 0 ≤ (H.2.1 72 8).toInt ∧ (H.2.1 72 8).toInt ≤ 8) (e79 : ∀ r : Nat, (r : Int) < (H.2.1 72 8).toInt → H.2.1 30 r = H.2.1 79 r) (e77 : ∀ p : Nat, (p : Int) < (H.2.1 72 7).toInt → H.2.1 27 p = H.2.1 77 (3 * p) ∧ H.2.1 28 p = H.2.1 77 (3 * p + 1)) (e11 : H.2.1 22 11 = H.2.1 72 11) {p : Nat} (hp : (p : Int) < (H.2.1 72 7).toInt) (set : Int32) : xPr (xSo H) CC H p set = xPc (xSo H) CC 22 33 H p set := by
  obtain ⟨m1, m2, e05, m3, m4⟩ := xJ_M3 hI
  obtain ⟨p5, p6⟩ := e77 p hp
  have gk : xKn (fun s => xWk (xVyr (xSo H) H s)) set (H.2.1 72 5).toInt.toNat (Int32.ofInt 0) (Int64.ofNat 0) = xKn (fun s => xWk (xVyc (xSo H) 33 H s)) set (H.2.1 72 5).toInt.toNat (Int32.ofInt 0) (Int64.ofNat 0) := by
    have b5 := m2.1
    refine xKn_c _ _ _ (by decide) (by rw [show (Int32.ofInt 0).toInt = 0 by decide]; omega) (fun s hs => ?_)
    rw [show (Int32.ofInt 0).toInt = 0 by decide] at hs
    show xWk _ = xWk _
    rw [m4 H (fun _ => rfl) (fun _ => rfl) s (by omega)]
  unfold xPr xPc
  show xPl (xSo H) _ _ 60 _ _ (xP0 (xSo H) _ _) = xPl (xSo H) (H.2.1 22 11).toInt (fun c h => xWb (xVl (xSo H) c h (xKn (fun s => xWk (xVyc (xSo H) 33 H s)) set (H.2.1 33 0).toInt.toNat (Int32.ofInt 0) (Int64.ofNat 0))) (H.2.1 30) CC (H.2.1 22 16).toInt.toNat 0) 60 (H.2.1 27 p) (H.2.1 28 p) (xP0 (xSo H) (H.2.1 22 11).toInt (H.2.1 27 p))
  rw [gk, p5, p6, e11, e05, e16]
  refine congrFun (congrFun (congrFun (congrFun (xPl_c (fun c h => xWb_c _ _ (fun r hr9 => ?_))) _) _) _) _
  have hr9 : r < 0 + (H.2.1 72 8).toInt.toNat := hr9
  exact (e79 r (by omega)).symm
end
section
/-! ===== rows of slates: which can be read, the first one ===== -/
/-- s can be read next when P are read -/
def tR (A : Nat → Bool) (B : Nat → Nat → Bool) (P : List Nat) (s : Nat) : Prop := A s = true ∨ ∃ t, t ∈ P ∧ B t s = true
/-- each of a row can be read, behind P -/
def tV (n : Nat) (A : Nat → Bool) (B : Nat → Nat → Bool) : List Nat → List Nat → Prop
  | _, [] => True
  | P, s :: r => s < n ∧ ¬ s ∈ P ∧ tR A B P s ∧ tV n A B (s :: P) r
/-- a row as a number -/
def tN : List Nat → Nat → Nat
  | [], a => a
  | s :: r, a => tN r (a * 16 + s)
section
variable {n : Nat} {A : Nat → Bool} {B : Nat → Nat → Bool}
theorem tR_m {P P' : List Nat} {s : Nat} (h : ∀ t, t ∈ P → t ∈ P') (h1 : tR A B P s) : tR A B P' s := h1.elim Or.inl (fun ⟨t, h2, h3⟩ => Or.inr ⟨t, h t h2, h3⟩)
theorem tV_p : ∀ {r P : List Nat}, tV n A B P r → ∀ s, s ∈ r → s < n ∧ ¬ s ∈ P
  | [], _, _, s, hs => absurd hs List.not_mem_nil
  | g :: r, P, h, s, hs => by
    rcases List.mem_cons.mp hs with h9 | h9
    · rw [h9]
      exact ⟨h.1, h.2.1⟩
    · have k := tV_p h.2.2.2 s h9
      exact ⟨k.1, fun h8 => k.2 (List.mem_cons_of_mem _ h8)⟩
theorem tV_m : ∀ {r P P' : List Nat}, (∀ t, t ∈ P → t ∈ P') → (∀ s, s ∈ r → ¬ s ∈ P') → tV n A B P r → tV n A B P' r
  | [], _, _, _, _, _ => trivial
  | g :: r, P, P', h, h1, h2 => by
    refine ⟨h2.1, h1 g List.mem_cons_self, tR_m h h2.2.2.1, tV_m (fun t ht => ?_) (fun s hs h9 => ?_) h2.2.2.2⟩
    · rcases List.mem_cons.mp ht with h9 | h9
      · rw [h9]
        exact List.mem_cons_self
      · exact List.mem_cons_of_mem _ (h t h9)
    · rcases List.mem_cons.mp h9 with h8 | h8
      · rw [h8] at hs
        exact (tV_p h2.2.2.2 g hs).2 List.mem_cons_self
      · exact h1 s (List.mem_cons_of_mem _ hs) h8
/-- a slate that can be read comes first -/
theorem tV_e : ∀ {r P : List Nat} {g : Nat}, tV n A B P r → g ∈ r → tR A B P g → tV n A B (g :: P) (r.erase g)
  | [], _, _, _, hg, _ => absurd hg List.not_mem_nil
  | s :: r, P, g, h, hg, hr => by
    by_cases h9 : s = g
    · rw [h9, List.erase_cons_head, ← h9]
      exact h.2.2.2
    · have hg' : g ∈ r := (List.mem_cons.mp hg).resolve_left (fun h8 => h9 h8.symm)
      rw [List.erase_cons_tail (by simpa using h9)]
      have ih := tV_e h.2.2.2 hg' (tR_m (fun t ht => List.mem_cons_of_mem _ ht) hr)
      have nd : ∀ t, t ∈ r.erase g → ¬ t ∈ g :: s :: P := fun t ht => (tV_p ih t ht).2
      refine ⟨h.1, fun h8 => ?_, tR_m (fun t ht => List.mem_cons_of_mem _ ht) h.2.2.1, tV_m (fun t ht => ?_) (fun t ht h8 => nd t ht ?_) ih⟩
      · rcases List.mem_cons.mp h8 with h7 | h7
        · exact h9 h7
        · exact h.2.1 h7
      · rcases List.mem_cons.mp ht with h7 | h7
        · rw [h7]
          exact List.mem_cons_of_mem _ List.mem_cons_self
        · rcases List.mem_cons.mp h7 with h6 | h6
          · rw [h6]
            exact List.mem_cons_self
          · exact List.mem_cons_of_mem _ (List.mem_cons_of_mem _ h6)
      · rcases List.mem_cons.mp h8 with h7 | h7
        · rw [h7]
          exact List.mem_cons_of_mem _ List.mem_cons_self
        · rcases List.mem_cons.mp h7 with h6 | h6
          · rw [h6]
            exact List.mem_cons_self
          · exact List.mem_cons_of_mem _ (List.mem_cons_of_mem _ h6)
theorem tV_nd : ∀ {r P : List Nat}, tV n A B P r → r.Nodup
  | [], _, _ => List.nodup_nil
  | g :: r, P, h => List.nodup_cons.mpr ⟨fun h9 => (tV_p h.2.2.2 g h9).2 List.mem_cons_self, tV_nd h.2.2.2⟩
/-- what is in a row without g -/
theorem t_er {r : List Nat} {g s : Nat} (h : r.Nodup) : s ∈ r.erase g ↔ (s ∈ r ∧ s ≠ g) := by
  rw [h.mem_erase_iff]
  exact ⟨fun h9 => ⟨h9.2, h9.1⟩, fun h9 => ⟨h9.2, h9.1⟩⟩
/-! numbers -/
theorem tN_lo : ∀ (r : List Nat) (a : Nat), a * 16 ^ r.length ≤ tN r a
  | [], a => by rw [List.length_nil, Nat.pow_zero, Nat.mul_one]; exact Nat.le_refl _
  | s :: r, a => by
    have h := tN_lo r (a * 16 + s)
    rw [List.length_cons, Nat.pow_succ]
    refine Nat.le_trans ?_ h
    rw [show a * (16 ^ r.length * 16) = (a * 16) * 16 ^ r.length by rw [Nat.mul_comm (16 ^ r.length) 16, Nat.mul_assoc]]
    exact Nat.mul_le_mul_right _ (Nat.le_add_right _ _)
theorem tN_hi : ∀ (r : List Nat) (a : Nat), (∀ s, s ∈ r → s < 16) → tN r a < (a + 1) * 16 ^ r.length
  | [], a, _ => by rw [List.length_nil, Nat.pow_zero, Nat.mul_one]; exact Nat.lt_succ_self _
  | s :: r, a, h => by
    have hs := h s List.mem_cons_self
    have h1 := tN_hi r (a * 16 + s) (fun t ht => h t (List.mem_cons_of_mem _ ht))
    rw [List.length_cons, Nat.pow_succ]
    refine Nat.lt_of_lt_of_le h1 ?_
    rw [show (a + 1) * (16 ^ r.length * 16) = ((a + 1) * 16) * 16 ^ r.length by rw [Nat.mul_comm (16 ^ r.length) 16, Nat.mul_assoc]]
    exact Nat.mul_le_mul_right _ (by omega)
theorem tN_inj : ∀ {r r' : List Nat} {a a' : Nat}, r.length = r'.length → (∀ s, s ∈ r → s < 16) → (∀ s, s ∈ r' → s < 16) → tN r a = tN r' a' → a = a' ∧ r = r'
  | [], [], _, _, _, _, _, h => ⟨h, rfl⟩
  | [], _ :: _, _, _, hl, _, _, _ => by cases hl
  | _ :: _, [], _, _, hl, _, _, _ => by cases hl
  | s :: r, s' :: r', a, a', hl, h1, h2, h => by
    obtain ⟨e1, e2⟩ := tN_inj (r := r) (r' := r') (a := a * 16 + s) (a' := a' * 16 + s') (Nat.succ.inj hl) (fun t ht => h1 t (List.mem_cons_of_mem _ ht)) (fun t ht => h2 t (List.mem_cons_of_mem _ ht)) h
    have b1 := h1 s List.mem_cons_self
    have b2 := h2 s' List.mem_cons_self
    have e3 : a = a' ∧ s = s' := by omega
    exact ⟨e3.1, by rw [e3.2, e2]⟩
theorem tN_app : ∀ (r : List Nat) (s a : Nat), tN (r ++ [s]) a = tN r a * 16 + s
  | [], _, _ => rfl
  | g :: r, s, a => tN_app r s (a * 16 + g)
theorem tN_a2 : ∀ (r q : List Nat) (a : Nat), tN (r ++ q) a = tN q (tN r a)
  | [], _, _ => rfl
  | g :: r, q, a => tN_a2 r q (a * 16 + g)
/-! the greedy row of a set -/
def tG (A : Nat → Bool) (B : Nat → Nat → Bool) : List Nat → (Nat → Bool) → List Nat → Prop
  | _, L, [] => ∀ s, L s = false
  | P, L, g :: r => L g = true ∧ tR A B P g ∧ (∀ s, s < g → L s = true → ¬ tR A B P s) ∧ tG A B (g :: P) (fun s => L s && decide (s ≠ g)) r
/-- there is none -/
def tF (A : Nat → Bool) (B : Nat → Nat → Bool) : List Nat → (Nat → Bool) → List Nat → Prop
  | P, L, [] => (∃ s, L s = true) ∧ ∀ s, L s = true → ¬ tR A B P s
  | P, L, g :: r => L g = true ∧ tR A B P g ∧ (∀ s, s < g → L s = true → ¬ tR A B P s) ∧ tF A B (g :: P) (fun s => L s && decide (s ≠ g)) r
theorem t_an {L : Nat → Bool} {g s : Nat} : (L s && decide (s ≠ g)) = true ↔ (L s = true ∧ s ≠ g) := by
  rw [Bool.and_eq_true]
  exact ⟨fun h => ⟨h.1, of_decide_eq_true h.2⟩, fun h => ⟨h.1, decide_eq_true h.2⟩⟩
theorem tG_mem : ∀ {r P : List Nat} {L : Nat → Bool}, tG A B P L r → ∀ s, s ∈ r ↔ L s = true
  | [], P, L, h, s => ⟨fun h9 => absurd h9 List.not_mem_nil, fun h9 => by rw [h s] at h9; cases h9⟩
  | g :: r, P, L, h, s => by
    have ih := tG_mem h.2.2.2 s
    rw [List.mem_cons, ih, t_an]
    by_cases h9 : s = g
    · rw [h9]
      exact ⟨fun _ => h.1, fun _ => Or.inl rfl⟩
    · exact ⟨fun h8 => h8.elim (fun h7 => absurd h7 h9) (fun h7 => h7.1), fun h8 => Or.inr ⟨h8, h9⟩⟩
theorem tG_V : ∀ {r P : List Nat} {L : Nat → Bool}, tG A B P L r → (∀ s, L s = true → s < n ∧ ¬ s ∈ P) → tV n A B P r
  | [], _, _, _, _ => trivial
  | g :: r, P, L, h, h1 => by
    refine ⟨(h1 g h.1).1, (h1 g h.1).2, h.2.1, tG_V h.2.2.2 (fun s hs => ?_)⟩
    obtain ⟨a, b⟩ := t_an.mp hs
    refine ⟨(h1 s a).1, fun h9 => ?_⟩
    rcases List.mem_cons.mp h9 with h8 | h8
    · exact b h8
    · exact (h1 s a).2 h8
/-- where a valid row of the set is, there is a greedy one -/
theorem tF_no : ∀ {r P r0 : List Nat} {L : Nat → Bool}, tV n A B P r0 → (∀ s, s ∈ r0 ↔ L s = true) → ¬ tF A B P L r
  | [], P, r0, L, hv, hm, h => by
    obtain ⟨⟨s, hs⟩, h2⟩ := h
    match r0, hv, hm with
    | [], _, hm => exact absurd ((hm s).mpr hs) List.not_mem_nil
    | g :: r0, hv, hm => exact h2 g ((hm g).mp List.mem_cons_self) hv.2.2.1
  | g :: r, P, r0, L, hv, hm, h => by
    have hg : g ∈ r0 := (hm g).mpr h.1
    refine tF_no (tV_e hv hg h.2.1) (fun s => ?_) h.2.2.2
    rw [t_er (tV_nd hv), t_an, hm s]
/-- and it is the first one -/
theorem tG_le : ∀ {r P r0 : List Nat} {L : Nat → Bool} {a : Nat}, n ≤ 16 → tV n A B P r0 → (∀ s, s ∈ r0 ↔ L s = true) → tG A B P L r → (∀ s, L s = true → s < n ∧ ¬ s ∈ P) → r.length = r0.length ∧ tN r a ≤ tN r0 a
  | [], P, r0, L, a, _, hv, hm, h, _ => by
    match r0, hm with
    | [], _ => exact ⟨rfl, Nat.le_refl _⟩
    | g :: r0, hm => exact absurd ((hm g).mp List.mem_cons_self) (by rw [h g]; decide)
  | g :: r, P, r0, L, a, hn, hv, hm, h, hL => by
    have hg : g ∈ r0 := (hm g).mpr h.1
    have nd := tV_nd hv
    have he := tV_e hv hg h.2.1
    have hme : ∀ s, s ∈ r0.erase g ↔ (L s && decide (s ≠ g)) = true := fun s => by rw [t_er nd, t_an, hm s]
    have hL' : ∀ s, (L s && decide (s ≠ g)) = true → s < n ∧ ¬ s ∈ g :: P := fun s hs => by
      obtain ⟨b, c⟩ := t_an.mp hs
      refine ⟨(hL s b).1, fun h9 => ?_⟩
      rcases List.mem_cons.mp h9 with h8 | h8
      · exact c h8
      · exact (hL s b).2 h8
    have ih := tG_le (a := a * 16 + g) hn he hme h.2.2.2 hL'
    have hlen : r.length + 1 = r0.length := by
      have e := List.length_erase_of_mem hg
      have p := List.length_pos_of_mem hg
      omega
    refine ⟨hlen, ?_⟩
    match r0, hv, hm, hg, he, ih, hlen with
    | q :: r0', hv, hm, hg, he, ih, hlen =>
      have hq : L q = true := (hm q).mp List.mem_cons_self
      have hle : g ≤ q := Nat.le_of_not_lt (fun h9 => h.2.2.1 q h9 hq hv.2.2.1)
      show tN r (a * 16 + g) ≤ tN r0' (a * 16 + q)
      by_cases h9 : q = g
      · have e : (q :: r0').erase g = r0' := by rw [h9]; exact List.erase_cons_head ..
        rw [e] at ih
        rw [h9]
        exact ih.2
      · have hr : ∀ s, s ∈ r → s < 16 := fun s hs => by
          have := (hL' s ((tG_mem h.2.2.2 s).mp hs)).1
          omega
        have k1 := tN_hi r (a * 16 + g) hr
        have k2 := tN_lo r0' (a * 16 + q)
        have hl : r.length = r0'.length := Nat.succ.inj hlen
        rw [hl] at k1
        have k3 : (a * 16 + g + 1) * 16 ^ r0'.length ≤ (a * 16 + q) * 16 ^ r0'.length := Nat.mul_le_mul_right _ (by omega)
        omega
end
/-! the first row of m slates that is good -/
def tOk (n : Nat) (A : Nat → Bool) (B : Nat → Nat → Bool) (T : (Nat → Bool) → Prop) (m : Nat) (r : List Nat) : Prop := r.length = m ∧ tV n A B [] r ∧ T (fun s => decide (s ∈ r))
def tFi (n : Nat) (A : Nat → Bool) (B : Nat → Nat → Bool) (T : (Nat → Bool) → Prop) (m : Nat) (r : List Nat) : Prop := tOk n A B T m r ∧ ∀ r', tOk n A B T m r' → tN r 0 ≤ tN r' 0
theorem tFi_u {n : Nat} {A : Nat → Bool} {B : Nat → Nat → Bool} {T : (Nat → Bool) → Prop} {m : Nat} {r r' : List Nat} (hn : n ≤ 16) (h : tFi n A B T m r) (h' : tFi n A B T m r') : r = r' := by
  have e : tN r 0 = tN r' 0 := Nat.le_antisymm (h.2 r' h'.1) (h'.2 r h.1)
  exact (tN_inj (h.1.1.trans h'.1.1.symm) (fun s hs => by have := (tV_p h.1.2.1 s hs).1; omega) (fun s hs => by have := (tV_p h'.1.2.1 s hs).1; omega) e).2
/-- from a set that is good to the first row -/
theorem tOk_G {n : Nat} {A : Nat → Bool} {B : Nat → Nat → Bool} {T : (Nat → Bool) → Prop} {m : Nat} {r : List Nat} {L : Nat → Bool} (hL : ∀ s, L s = true → s < n) (h : tG A B [] L r) (hm : r.length = m) (hT : T L) : tOk n A B T m r := by
  have e : (fun s => decide (s ∈ r)) = L := funext fun s => by
    cases hs : L s with
    | true => exact decide_eq_true ((tG_mem h s).mpr hs)
    | false => exact decide_eq_false (fun h9 => by rw [(tG_mem h s).mp h9] at hs; cases hs)
  exact ⟨hm, tG_V h (fun s hs => ⟨hL s hs, List.not_mem_nil⟩), by rw [e]; exact hT⟩
end
section
/-! ===== sets of slates as numbers ===== -/

theorem tm_z : Int32.ofInt 0 = Int32.ofNat 0 := Int32.toInt_inj.mp (by decide)
theorem tm_and {a b : Nat} : Int32.ofNat a &&& Int32.ofNat b = Int32.ofNat (a &&& b) := by
  show Int32.ofBitVec (BitVec.ofNat 32 a) &&& Int32.ofBitVec (BitVec.ofNat 32 b) = Int32.ofBitVec (BitVec.ofNat 32 (a &&& b))
  rw [BitVec.ofNat_and]
  rfl
theorem tm_or {a b : Nat} : Int32.ofNat a ||| Int32.ofNat b = Int32.ofNat (a ||| b) := by
  show Int32.ofBitVec (BitVec.ofNat 32 a) ||| Int32.ofBitVec (BitVec.ofNat 32 b) = Int32.ofBitVec (BitVec.ofNat 32 (a ||| b))
  rw [BitVec.ofNat_or]
  rfl
theorem tm_to {a : Nat} (h : a < 256) : (Int32.ofNat a).toInt = (a : Int) := Int32.toInt_ofNat_of_lt (by show a < 2147483648; omega)
theorem tm_0 {a : Nat} (h : a < 256) : (Int32.ofNat a).toInt = 0 ↔ a = 0 := by
  rw [tm_to h]
  omega
theorem tm_8 {a s : Nat} (h : a < 256) (hb : a.testBit s = true) : s < 8 := by
  refine Nat.lt_of_not_le (fun h9 => ?_)
  have h7 : (2 : Nat) ^ 8 ≤ 2 ^ s := Nat.pow_le_pow_right (by decide) h9
  rw [Nat.testBit_lt_two_pow (Nat.lt_of_lt_of_le h h7)] at hb
  cases hb
theorem tm_f8 {a s : Nat} (h : a < 256) (hs : ¬ s < 8) : a.testBit s = false := by
  cases hb : a.testBit s with
  | true => exact absurd (tm_8 h hb) hs
  | false => rfl
theorem tm_o {x : Int32} (h : 0 ≤ x.toInt) : x = Int32.ofNat x.toInt.toNat := by
  have h1 : x.toInt ≤ 2147483647 := Int32.toInt_le x
  exact Int32.toInt_inj.mp (by rw [Int32.toInt_ofNat_of_lt (by show _ < 2147483648; omega)]; omega)
/-- how many; without one -/
def tC (a : Nat) : Nat := (yIb (Int32.ofNat a)).toInt.toNat
def tc (a g : Nat) : Nat := a &&& (255 - 2 ^ g)
theorem tC_0 : tC 0 = 0 := by decide +kernel
theorem tC_t : (List.range 256).all (fun a => decide ((yIb (Int32.ofNat a)).toInt = ((tC a : Nat) : Int) ∧ tC a ≤ 8)) = true := by decide +kernel
theorem tC_b {a : Nat} (h : a < 256) : (yIb (Int32.ofNat a)).toInt = ((tC a : Nat) : Int) ∧ tC a ≤ 8 := of_decide_eq_true (List.all_eq_true.mp tC_t a (List.mem_range.mpr h))
theorem tm_cl_t : (List.range 256).all (fun a => (List.range 8).all (fun g => (decide ((Int32.ofNat a &&& (Int32.ofInt 1 <<< (Int32.ofNat g &&& 31) ^^^ Int32.ofInt (-1))).toInt = ((tc a g : Nat) : Int))).and ((decide (tc a g < 256)).and (((List.range 8).all (fun s => decide ((tc a g).testBit s = (a.testBit s && decide (s ≠ g))))).and (decide (a.testBit g = true → tC (tc a g) + 1 = tC a)))))) = true := by decide +kernel
theorem tm_cl {a g : Nat} (ha : a < 256) (hg : g < 8) : (Int32.ofNat a &&& (Int32.ofInt 1 <<< (Int32.ofNat g &&& 31) ^^^ Int32.ofInt (-1))) = Int32.ofNat (tc a g) ∧ tc a g < 256 ∧ (∀ s, (tc a g).testBit s = (a.testBit s && decide (s ≠ g))) ∧ (a.testBit g = true → tC (tc a g) + 1 = tC a) := by
  have t0 := List.all_eq_true.mp tm_cl_t a (List.mem_range.mpr ha)
  have t := List.all_eq_true.mp t0 g (List.mem_range.mpr hg)
  obtain ⟨t1, t2⟩ := Bool.and_eq_true_iff.mp t
  obtain ⟨t2, t3⟩ := Bool.and_eq_true_iff.mp t2
  obtain ⟨t3, t4⟩ := Bool.and_eq_true_iff.mp t3
  have b : tc a g < 256 := of_decide_eq_true t2
  refine ⟨Int32.toInt_inj.mp ((of_decide_eq_true t1).trans (tm_to b).symm), b, fun s => ?_, of_decide_eq_true t4⟩
  by_cases hs : s < 8
  · exact of_decide_eq_true (List.all_eq_true.mp t3 s (List.mem_range.mpr hs))
  · rw [tm_f8 b hs, tm_f8 ha hs]
    rfl
theorem tm_nz_t : (List.range 255).all (fun n => (decide ((zq_n0 (Int32.ofNat (n + 1))).toInt.toNat < 8)).and ((decide ((n + 1).testBit (zq_n0 (Int32.ofNat (n + 1))).toInt.toNat = true)).and ((List.range 8).all (fun s => decide (s < (zq_n0 (Int32.ofNat (n + 1))).toInt.toNat → (n + 1).testBit s = false))))) = true := by decide +kernel
theorem tm_nz {a : Nat} (h : a ≠ 0) (ha : a < 256) : ∃ g, g < 8 ∧ zq_n0 (Int32.ofNat a) = Int32.ofNat g ∧ a.testBit g = true ∧ ∀ s, s < g → a.testBit s = false := by
  obtain ⟨n, rfl⟩ : ∃ n, a = n + 1 := ⟨a - 1, by omega⟩
  have hn : n < 255 := by omega
  obtain ⟨z1, z2⟩ := zq_ntz_ok hn
  have t := List.all_eq_true.mp tm_nz_t n (List.mem_range.mpr hn)
  obtain ⟨t1, t2⟩ := Bool.and_eq_true_iff.mp t
  obtain ⟨t2, t3⟩ := Bool.and_eq_true_iff.mp t2
  have t1 : (zq_n0 (Int32.ofNat (n + 1))).toInt.toNat < 8 := of_decide_eq_true t1
  exact ⟨(zq_n0 (Int32.ofNat (n + 1))).toInt.toNat, t1, tm_o z1, of_decide_eq_true t2, fun s hs => (show s < (zq_n0 (Int32.ofNat (n + 1))).toInt.toNat → (n + 1).testBit s = false from of_decide_eq_true (List.all_eq_true.mp t3 s (List.mem_range.mpr (by omega)))) hs⟩
theorem tm_bt_t : (List.range 256).all (fun a => (List.range 8).all (fun s => decide ((Int32.ofNat a >>> (Int32.ofNat s &&& 31) &&& Int32.ofInt 1).toInt = 0 ↔ a.testBit s = false))) = true := by decide +kernel
theorem tm_bt {a : Nat} {s : Int32} (ha : a < 256) (h0 : 0 ≤ s.toInt) (h8 : s.toInt < 8) : (Int32.ofNat a >>> (s &&& 31) &&& Int32.ofInt 1).toInt = 0 ↔ a.testBit s.toInt.toNat = false := by
  have t0 := List.all_eq_true.mp tm_bt_t a (List.mem_range.mpr ha)
  have t : (Int32.ofNat a >>> (Int32.ofNat s.toInt.toNat &&& 31) &&& Int32.ofInt 1).toInt = 0 ↔ a.testBit s.toInt.toNat = false := of_decide_eq_true (List.all_eq_true.mp t0 s.toInt.toNat (List.mem_range.mpr (by omega)))
  rw [← tm_o h0] at t
  exact t
theorem tm_sh_t : (List.range 8).all (fun s => decide ((Int32.ofInt 1 <<< (Int32.ofNat s &&& 31)).toInt = (((2 ^ s : Nat)) : Int))) = true := by decide +kernel
theorem tm_p2 {s : Nat} (h : s < 8) : 2 ^ s < 256 := by
  have h7 : (2 : Nat) ^ s ≤ 2 ^ 7 := Nat.pow_le_pow_right (by decide) (by omega)
  omega
theorem tm_sh {s : Int32} (h0 : 0 ≤ s.toInt) (h8 : s.toInt < 8) : Int32.ofInt 1 <<< (s &&& 31) = Int32.ofNat (2 ^ s.toInt.toNat) := by
  have t : (Int32.ofInt 1 <<< (Int32.ofNat s.toInt.toNat &&& 31)).toInt = (((2 ^ s.toInt.toNat : Nat)) : Int) := of_decide_eq_true (List.all_eq_true.mp tm_sh_t s.toInt.toNat (List.mem_range.mpr (by omega)))
  rw [← tm_o h0] at t
  exact Int32.toInt_inj.mp (t.trans (tm_to (tm_p2 (by omega))).symm)
theorem tm_o2 {a b : Nat} (ha : a < 256) (hb : b < 256) : a ||| b < 256 := Nat.or_lt_two_pow (n := 8) ha hb
theorem tm_ob {a b j : Nat} : (a ||| b).testBit j = true ↔ (a.testBit j = true ∨ b.testBit j = true) := by
  rw [Nat.testBit_or, Bool.or_eq_true]
theorem tm_pb {g j : Nat} : (2 ^ g).testBit j = true ↔ j = g := by
  rw [Nat.testBit_two_pow]
  exact ⟨fun h => (of_decide_eq_true h).symm, fun h => decide_eq_true h.symm⟩
theorem tm_ad {a : Nat} {s : Int32} (ha : a < 256) (h0 : 0 ≤ s.toInt) (h8 : s.toInt < 8) : Int32.ofNat a ||| Int32.ofInt 1 <<< (s &&& 31) = Int32.ofNat (a ||| 2 ^ s.toInt.toNat) ∧ a ||| 2 ^ s.toInt.toNat < 256 ∧ ∀ j, (a ||| 2 ^ s.toInt.toNat).testBit j = true ↔ (a.testBit j = true ∨ j = s.toInt.toNat) := by
  refine ⟨by rw [tm_sh h0 h8, tm_or], tm_o2 ha (tm_p2 (by omega)), fun j => ?_⟩
  rw [tm_ob, tm_pb]
/-- the slates for which f holds -/
def tBn (f : Nat → Bool) : Nat → Int32 → Int32 → Int32
  | 0, _, v => v
  | n + 1, s, v => tBn f n (s + Int32.ofInt 1) (if f s.toInt.toNat = true then v ||| Int32.ofInt 1 <<< (s &&& 31) else v)
theorem tBn_y {f : Nat → Bool} {n : Nat} {s v : Int32} (h : f s.toInt.toNat = true) : tBn f (n + 1) s v = tBn f n (s + Int32.ofInt 1) (v ||| Int32.ofInt 1 <<< (s &&& 31)) := by
  show tBn f n (s + Int32.ofInt 1) (if _ then _ else _) = _
  rw [if_pos h]
theorem tBn_n {f : Nat → Bool} {n : Nat} {s v : Int32} (h : ¬ f s.toInt.toNat = true) : tBn f (n + 1) s v = tBn f n (s + Int32.ofInt 1) v := by
  show tBn f n (s + Int32.ofInt 1) (if _ then _ else _) = _
  rw [if_neg h]
theorem tBn_m {f : Nat → Bool} : ∀ (n : Nat) (s : Int32) (a : Nat), a < 256 → 0 ≤ s.toInt → s.toInt + n ≤ 8 → ∃ b, b < 256 ∧ tBn f n s (Int32.ofNat a) = Int32.ofNat b ∧ ∀ j : Nat, b.testBit j = true ↔ (a.testBit j = true ∨ ((s.toInt ≤ (j : Int) ∧ (j : Int) < s.toInt + n) ∧ f j = true))
  | 0, s, a, ha, _, _ => ⟨a, ha, rfl, fun j => ⟨Or.inl, fun h => h.elim id (fun h9 => by have := h9.1; omega)⟩⟩
  | n + 1, s, a, ha, h0, h8 => by
    have e : (s + Int32.ofInt 1).toInt = s.toInt + 1 := zw_p1 (by omega)
    by_cases h9 : f s.toInt.toNat = true
    · obtain ⟨k1, k2, k3⟩ := tm_ad (a := a) (s := s) ha h0 (by omega)
      obtain ⟨b, b1, b2, b3⟩ := tBn_m n (s + Int32.ofInt 1) _ k2 (by omega) (by omega)
      refine ⟨b, b1, by rw [tBn_y h9, k1, b2], fun j => (b3 j).trans ?_⟩
      rw [k3 j, e]
      constructor
      · rintro ((h | h) | h)
        · exact Or.inl h
        · exact Or.inr ⟨by omega, by rw [h]; exact h9⟩
        · exact Or.inr ⟨by have := h.1; omega, h.2⟩
      · rintro (h | h)
        · exact Or.inl (Or.inl h)
        · by_cases hj : j = s.toInt.toNat
          · exact Or.inl (Or.inr hj)
          · exact Or.inr ⟨by have := h.1; omega, h.2⟩
    · obtain ⟨b, b1, b2, b3⟩ := tBn_m n (s + Int32.ofInt 1) a ha (by omega) (by omega)
      refine ⟨b, b1, by rw [tBn_n h9, b2], fun j => (b3 j).trans ?_⟩
      rw [e]
      constructor
      · rintro (h | h)
        · exact Or.inl h
        · exact Or.inr ⟨by have := h.1; omega, h.2⟩
      · rintro (h | h)
        · exact Or.inl h
        · by_cases hj : j = s.toInt.toNat
          · exact absurd (by rw [← hj]; exact h.2) h9
          · exact Or.inr ⟨by have := h.1; omega, h.2⟩
/-- the lessons of a set -/
def tLs (g : Nat → Int32) (set : Int32) : Nat → Int32 → Int32 → Int32
  | 0, _, v => v
  | n + 1, s, v => tLs g set n (s + Int32.ofInt 1) (if (set >>> (s &&& 31) &&& Int32.ofInt 1).toInt = 0 then v else v ||| g s.toInt.toNat)
theorem tLs_n {g : Nat → Int32} {set s v : Int32} {n : Nat} (h : (set >>> (s &&& 31) &&& Int32.ofInt 1).toInt = 0) : tLs g set (n + 1) s v = tLs g set n (s + Int32.ofInt 1) v := by
  show tLs g set n (s + Int32.ofInt 1) (if _ then _ else _) = _
  rw [if_pos h]
theorem tLs_y {g : Nat → Int32} {set s v : Int32} {n : Nat} (h : ¬ (set >>> (s &&& 31) &&& Int32.ofInt 1).toInt = 0) : tLs g set (n + 1) s v = tLs g set n (s + Int32.ofInt 1) (v ||| g s.toInt.toNat) := by
  show tLs g set n (s + Int32.ofInt 1) (if _ then _ else _) = _
  rw [if_neg h]
theorem tLs_m {g : Nat → Int32} {m : Nat → Nat} {a : Nat} (ha : a < 256) : ∀ (n : Nat) (s : Int32) (v : Nat), v < 256 → 0 ≤ s.toInt → s.toInt + n ≤ 8 → (∀ j : Nat, (j : Int) < s.toInt + n → g j = Int32.ofNat (m j) ∧ m j < 256) → ∃ b, b < 256 ∧ tLs g (Int32.ofNat a) n s (Int32.ofNat v) = Int32.ofNat b ∧ ∀ e : Nat, b.testBit e = true ↔ (v.testBit e = true ∨ ∃ j : Nat, (s.toInt ≤ (j : Int) ∧ (j : Int) < s.toInt + n) ∧ a.testBit j = true ∧ (m j).testBit e = true)
  | 0, s, v, hv, _, _, _ => ⟨v, hv, rfl, fun e => ⟨Or.inl, fun h => h.elim id (fun ⟨j, h9, _⟩ => by omega)⟩⟩
  | n + 1, s, v, hv, h0, h8, hg => by
    have e : (s + Int32.ofInt 1).toInt = s.toInt + 1 := zw_p1 (by omega)
    have hg' : ∀ j : Nat, (j : Int) < (s + Int32.ofInt 1).toInt + n → g j = Int32.ofNat (m j) ∧ m j < 256 := fun j hj => hg j (by omega)
    have bt := tm_bt (a := a) (s := s) ha h0 (by omega)
    by_cases h9 : (Int32.ofNat a >>> (s &&& 31) &&& Int32.ofInt 1).toInt = 0
    · obtain ⟨b, b1, b2, b3⟩ := tLs_m (g := g) ha n (s + Int32.ofInt 1) v hv (by omega) (by omega) hg'
      refine ⟨b, b1, by rw [tLs_n h9, b2], fun k => (b3 k).trans ?_⟩
      have f9 := bt.mp h9
      constructor
      · rintro (h | ⟨j, h1, h2⟩)
        · exact Or.inl h
        · exact Or.inr ⟨j, by omega, h2⟩
      · rintro (h | ⟨j, h1, h2⟩)
        · exact Or.inl h
        · refine Or.inr ⟨j, ?_, h2⟩
          by_cases hj : j = s.toInt.toNat
          · rw [hj, f9] at h2
            exact absurd h2.1 (by decide)
          · omega
    · have t9 : a.testBit s.toInt.toNat = true := by
        cases hb : a.testBit s.toInt.toNat with
        | true => rfl
        | false => exact absurd (bt.mpr hb) h9
      obtain ⟨g1, g2⟩ := hg s.toInt.toNat (by omega)
      obtain ⟨b, b1, b2, b3⟩ := tLs_m (g := g) ha n (s + Int32.ofInt 1) (v ||| m s.toInt.toNat) (tm_o2 hv g2) (by omega) (by omega) hg'
      refine ⟨b, b1, by rw [tLs_y h9, g1, tm_or, b2], fun k => (b3 k).trans ?_⟩
      rw [tm_ob]
      constructor
      · rintro ((h | h) | ⟨j, h1, h2⟩)
        · exact Or.inl h
        · exact Or.inr ⟨s.toInt.toNat, by omega, t9, h⟩
        · exact Or.inr ⟨j, by omega, h2⟩
      · rintro (h | ⟨j, h1, h2⟩)
        · exact Or.inl (Or.inl h)
        · by_cases hj : j = s.toInt.toNat
          · rw [hj] at h2
            exact Or.inl (Or.inr h2.2)
          · exact Or.inr ⟨j, by omega, h2⟩
/-- what a set teaches, bit by bit -/
def tI (u : Int64) (k : Nat) : Bool := u.toBitVec.getLsbD k
theorem tI_or {u v : Int64} {k : Nat} : tI (u ||| v) k = true ↔ (tI u k = true ∨ tI v k = true) := by
  unfold tI
  rw [Int64.toBitVec_or, BitVec.getLsbD_or, Bool.or_eq_true]
theorem tI_0 {k : Nat} : tI (Int64.ofNat 0) k = false := by
  show (BitVec.ofNat 64 0).getLsbD k = false
  exact BitVec.getLsbD_zero
theorem tI_e {u v : Int64} (h : ∀ k, tI u k = true ↔ tI v k = true) : u = v := by
  refine Int64.toBitVec_inj.mp (BitVec.eq_of_getLsbD_eq (fun k _ => ?_))
  exact Bool.eq_iff_iff.mpr (h k)
theorem tKn_b {f : Nat → Int64} {a : Nat} (ha : a < 256) : ∀ (n : Nat) (s : Int32) (u : Int64), 0 ≤ s.toInt → s.toInt + n ≤ 8 → ∀ k : Nat, tI (xKn f (Int32.ofNat a) n s u) k = true ↔ (tI u k = true ∨ ∃ j : Nat, (s.toInt ≤ (j : Int) ∧ (j : Int) < s.toInt + n) ∧ a.testBit j = true ∧ tI (f j) k = true)
  | 0, s, u, _, _, k => ⟨Or.inl, fun h => h.elim id (fun ⟨j, h9, _⟩ => by omega)⟩
  | n + 1, s, u, h0, h8, k => by
    have e : (s + Int32.ofInt 1).toInt = s.toInt + 1 := zw_p1 (by omega)
    have bt := tm_bt (a := a) (s := s) ha h0 (by omega)
    by_cases h9 : (Int32.ofNat a >>> (s &&& 31) &&& Int32.ofInt 1).toInt = 0
    · rw [xKn_n h9]
      refine (tKn_b ha n (s + Int32.ofInt 1) u (by omega) (by omega) k).trans ?_
      have f9 := bt.mp h9
      constructor
      · rintro (h | ⟨j, h1, h2⟩)
        · exact Or.inl h
        · exact Or.inr ⟨j, by omega, h2⟩
      · rintro (h | ⟨j, h1, h2⟩)
        · exact Or.inl h
        · refine Or.inr ⟨j, ?_, h2⟩
          by_cases hj : j = s.toInt.toNat
          · rw [hj, f9] at h2
            exact absurd h2.1 (by decide)
          · omega
    · have t9 : a.testBit s.toInt.toNat = true := by
        cases hb : a.testBit s.toInt.toNat with
        | true => rfl
        | false => exact absurd (bt.mpr hb) h9
      rw [xKn_y h9]
      refine (tKn_b ha n (s + Int32.ofInt 1) _ (by omega) (by omega) k).trans ?_
      rw [tI_or]
      constructor
      · rintro ((h | h) | ⟨j, h1, h2⟩)
        · exact Or.inl h
        · exact Or.inr ⟨s.toInt.toNat, by omega, t9, h⟩
        · exact Or.inr ⟨j, by omega, h2⟩
      · rintro (h | ⟨j, h1, h2⟩)
        · exact Or.inl (Or.inl h)
        · by_cases hj : j = s.toInt.toNat
          · rw [hj] at h2
            exact Or.inl (Or.inr h2.2)
          · exact Or.inr ⟨j, by omega, h2⟩
/-- a lesson, as a number -/
theorem tLo_L {f : Nat → Int64} {s : Int32} (hs : 0 ≤ s.toInt ∧ s.toInt < 8) : ∀ (n : Nat) (e : Int32), 0 ≤ e.toInt → e.toInt + n = s.toInt → ∃ g : Nat, (g : Int) ≤ s.toInt ∧ xLoL f s n e = Int32.ofNat (2 ^ g) ∧ f g = f s.toInt.toNat
  | 0, e, _, _ => ⟨s.toInt.toNat, by omega, tm_sh hs.1 hs.2, rfl⟩
  | n + 1, e, h0, hn => by
    have e1 : (e + Int32.ofInt 1).toInt = e.toInt + 1 := zw_p1 (by omega)
    by_cases h : (lg_cmp (f e.toInt.toNat) (f s.toInt.toNat)).toInt = 0
    · exact ⟨e.toInt.toNat, by omega, (xLoL_y h).trans (tm_sh h0 (by omega)), y_cmp.mp h⟩
    · obtain ⟨g, g1, g2, g3⟩ := tLo_L hs n (e + Int32.ofInt 1) (by omega) (by omega)
      exact ⟨g, g1, (xLoL_n h).trans g2, g3⟩
theorem tLo {f : Nat → Int64} {s : Nat} (hs : s < 8) : ∃ m, m < 256 ∧ xLo f (Int32.ofNat s) = Int32.ofNat m ∧ (∀ e, m.testBit e = true → e ≤ s ∧ f e = f s) ∧ (f s = Int64.ofNat 0 ∨ ∃ e, m.testBit e = true) := by
  have t : (Int32.ofNat s).toInt = (s : Int) := tm_to (by omega)
  have tn : (Int32.ofNat s).toInt.toNat = s := by omega
  unfold xLo
  rw [tn]
  by_cases h : (lg_cmp (f s) (Int64.ofNat 0)).toInt = 0
  · rw [if_pos h]
    exact ⟨0, by decide, tm_z, fun e he => absurd he (by rw [Nat.zero_testBit]; decide), Or.inl (y_cmp.mp h)⟩
  · rw [if_neg h]
    obtain ⟨g, g1, g2, g3⟩ := tLo_L (f := f) (s := Int32.ofNat s) ⟨by omega, by omega⟩ s (Int32.ofInt 0) (by decide) (by rw [show (Int32.ofInt 0).toInt = 0 by decide]; omega)
    rw [tn] at g3
    refine ⟨2 ^ g, tm_p2 (by omega), g2, fun e he => ?_, Or.inr ⟨g, tm_pb.mpr rfl⟩⟩
    rw [tm_pb.mp he]
    exact ⟨by omega, g3⟩
/-- a set teaches what its lessons teach -/
theorem tKn_l {f : Nat → Int64} {g : Nat → Int32} {a n l : Nat} (ha : a < 256) (hl : l < 256) (hn : n ≤ 8) (hg : ∀ s, s < n → g s = xLo f (Int32.ofNat s)) (h : tLs g (Int32.ofNat a) n (Int32.ofInt 0) (Int32.ofInt 0) = Int32.ofNat l) : xKn f (Int32.ofNat l) n (Int32.ofInt 0) (Int64.ofNat 0) = xKn f (Int32.ofNat a) n (Int32.ofInt 0) (Int64.ofNat 0) := by
  have z0 : (Int32.ofInt 0).toInt = 0 := by decide
  have hm : ∀ s, ∃ m, s < n → m < 256 ∧ xLo f (Int32.ofNat s) = Int32.ofNat m ∧ (∀ e, m.testBit e = true → e ≤ s ∧ f e = f s) ∧ (f s = Int64.ofNat 0 ∨ ∃ e, m.testBit e = true) := fun s => by
    by_cases hs : s < n
    · obtain ⟨m, hm⟩ := tLo (f := f) (s := s) (by omega)
      exact ⟨m, fun _ => hm⟩
    · exact ⟨0, fun h9 => absurd h9 hs⟩
  have hm9 : ∃ m : Nat → Nat, ∀ s, s < n → m s < 256 ∧ xLo f (Int32.ofNat s) = Int32.ofNat (m s) ∧ (∀ e, (m s).testBit e = true → e ≤ s ∧ f e = f s) ∧ (f s = Int64.ofNat 0 ∨ ∃ e, (m s).testBit e = true) := ⟨fun s => Classical.choose (hm s), fun s => Classical.choose_spec (hm s)⟩
  obtain ⟨m, hm⟩ := hm9
  obtain ⟨b, b1, b2, b3⟩ := tLs_m (g := g) (m := m) ha n (Int32.ofInt 0) 0 (by decide) (by decide) (by rw [z0]; omega) (fun j hj => by
    rw [z0] at hj
    obtain ⟨k1, k2, -⟩ := hm j (by omega)
    exact ⟨(hg j (by omega)).trans k2, k1⟩)
  have eb : b = l := by
    rw [← tm_z] at b2
    have e : Int32.ofNat b = Int32.ofNat l := b2.symm.trans h
    have e := congrArg Int32.toInt e
    rw [tm_to b1, tm_to hl] at e
    omega
  rw [eb, z0] at b3
  refine tI_e (fun k => ?_)
  have q1 := tKn_b (f := f) hl n (Int32.ofInt 0) (Int64.ofNat 0) (by decide) (by rw [z0]; omega) k
  have q2 := tKn_b (f := f) ha n (Int32.ofInt 0) (Int64.ofNat 0) (by decide) (by rw [z0]; omega) k
  rw [tI_0, z0] at q1 q2
  refine q1.trans (Iff.trans ?_ q2.symm)
  constructor
  · rintro (h9 | ⟨e, h1, h2, h3⟩)
    · cases h9
    · rcases (b3 e).mp h2 with h9 | ⟨j, k1, k2, k3⟩
      · rw [Nat.zero_testBit] at h9
        cases h9
      · obtain ⟨-, -, k4, -⟩ := hm j (by omega)
        refine Or.inr ⟨j, k1, k2, ?_⟩
        rw [← (k4 e k3).2]
        exact h3
  · rintro (h9 | ⟨j, h1, h2, h3⟩)
    · cases h9
    · obtain ⟨-, -, k4, k5⟩ := hm j (by omega)
      rcases k5 with k5 | ⟨e, k5⟩
      · rw [k5, tI_0] at h3
        cases h3
      · have k6 := k4 e k5
        refine Or.inr ⟨e, by omega, (b3 e).mpr (Or.inr ⟨j, h1, h2, k5⟩), ?_⟩
        rw [k6.2]
        exact h3

theorem yc_ntz {L : Nat} {σ : Nat → Int32} {d : Nat} {H : zp_H} {x : Int32} (hx : 1 ≤ x.toInt ∧ x.toInt ≤ 255) : ∃ X, zp_Call L σ (d + 1) 147 [.inl x] H X ∧ (fun X : zp_X => ∃ v : Int32, X = (.inl (some (.inl v)), H) ∧ v = zq_n0 x) X := by
  obtain ⟨n, hn, rfl⟩ := zq_i (n := 1) (m := 255) (x := x) (by omega) (by omega) (by decide)
  refine zw_met zm_147_t rfl rfl ?_
  refine zw_ld (n := 1) (k := 0) (f := zp_isI) (pc' := 1) rfl rfl rfl rfl rfl ?_
  refine zw_s (pc' := 2) rfl rfl ?_
  refine zw_ixor (pc' := 3) rfl rfl ?_
  refine zw_ld (n := 1) (k := 0) (f := zp_isI) (pc' := 4) rfl rfl rfl rfl rfl ?_
  refine zw_s (pc' := 5) rfl rfl ?_
  refine zw_isub (pc' := 6) rfl rfl ?_
  refine zw_iand (pc' := 7) rfl rfl ?_
  refine zw_st (n := 1) (k := 0) (f := zp_isI) (pc' := 8) rfl rfl rfl rfl rfl ?_
  refine zw_ld (n := 1) (k := 0) (f := zp_isI) (pc' := 9) rfl rfl zw_g1 rfl rfl ?_
  refine zw_bgt1 (g := 17) (pc' := 12) rfl rfl rfl rfl (fun hb0 => ?_) (fun hb0 => ?_)
  · have hz0 : zq_n0 (Int32.ofNat (n + 1)) = zq_n1 (((Int32.ofNat (n + 1) ^^^ Int32.ofInt (-1)) &&& (Int32.ofNat (n + 1) - Int32.ofInt 1))) (Int32.ofInt 1) := if_pos hb0
    refine zw_s (pc' := 18) rfl rfl ?_
    refine zw_st (n := 1) (k := 1) (f := zp_isI) (pc' := 19) rfl rfl rfl rfl rfl ?_
    refine zw_ld (n := 1) (k := 0) (f := zp_isI) (pc' := 20) rfl rfl (zw_gt zw_g1 rfl rfl) rfl rfl ?_
    refine zw_s (pc' := 23) rfl rfl ?_
    refine zw_ble2 (g := 34) (pc' := 26) rfl rfl rfl rfl (rfl : _ = (65536 : Int)) (fun hb1 => ?_) (fun hb1 => ?_)
    · have hz1 : zq_n1 (((Int32.ofNat (n + 1) ^^^ Int32.ofInt (-1)) &&& (Int32.ofNat (n + 1) - Int32.ofInt 1))) (Int32.ofInt 1) = zq_n2 (((Int32.ofNat (n + 1) ^^^ Int32.ofInt (-1)) &&& (Int32.ofNat (n + 1) - Int32.ofInt 1))) (Int32.ofInt 1) := if_pos hb1
      refine zw_ld (n := 1) (k := 0) (f := zp_isI) (pc' := 35) rfl rfl (zw_gt zw_g1 rfl rfl) rfl rfl ?_
      refine zw_s (pc' := 38) rfl rfl ?_
      refine zw_ble2 (g := 49) (pc' := 41) rfl rfl rfl rfl (rfl : _ = (256 : Int)) (fun hb2 => ?_) (fun hb2 => ?_)
      · have hz2 : zq_n2 (((Int32.ofNat (n + 1) ^^^ Int32.ofInt (-1)) &&& (Int32.ofNat (n + 1) - Int32.ofInt 1))) (Int32.ofInt 1) = zq_n3 (((Int32.ofNat (n + 1) ^^^ Int32.ofInt (-1)) &&& (Int32.ofNat (n + 1) - Int32.ofInt 1))) (Int32.ofInt 1) := if_pos hb2
        refine zw_ld (n := 1) (k := 0) (f := zp_isI) (pc' := 50) rfl rfl (zw_gt zw_g1 rfl rfl) rfl rfl ?_
        refine zw_s (pc' := 52) rfl rfl ?_
        refine zw_ble2 (g := 62) (pc' := 55) rfl rfl rfl rfl (rfl : _ = (16 : Int)) (fun hb3 => ?_) (fun hb3 => ?_)
        · have hz3 : zq_n3 (((Int32.ofNat (n + 1) ^^^ Int32.ofInt (-1)) &&& (Int32.ofNat (n + 1) - Int32.ofInt 1))) (Int32.ofInt 1) = zq_n4 (((Int32.ofNat (n + 1) ^^^ Int32.ofInt (-1)) &&& (Int32.ofNat (n + 1) - Int32.ofInt 1))) (Int32.ofInt 1) := if_pos hb3
          refine zw_ld (n := 1) (k := 0) (f := zp_isI) (pc' := 63) rfl rfl (zw_gt zw_g1 rfl rfl) rfl rfl ?_
          refine zw_s (pc' := 64) rfl rfl ?_
          refine zw_ble2 (g := 74) (pc' := 67) rfl rfl rfl rfl (rfl : _ = (4 : Int)) (fun hb4 => ?_) (fun hb4 => ?_)
          · have hz4 : zq_n4 (((Int32.ofNat (n + 1) ^^^ Int32.ofInt (-1)) &&& (Int32.ofNat (n + 1) - Int32.ofInt 1))) (Int32.ofInt 1) = zq_n5 (((Int32.ofNat (n + 1) ^^^ Int32.ofInt (-1)) &&& (Int32.ofNat (n + 1) - Int32.ofInt 1))) (Int32.ofInt 1) := if_pos hb4
            refine zw_ld (n := 1) (k := 1) (f := zp_isI) (pc' := 75) rfl rfl zw_g1 rfl rfl ?_
            refine zw_ld (n := 1) (k := 0) (f := zp_isI) (pc' := 76) rfl rfl (zw_gt zw_g1 rfl rfl) rfl rfl ?_
            refine zw_s (pc' := 77) rfl rfl ?_
            refine zw_s (pc' := 78) rfl rfl ?_
            refine zw_iadd (pc' := 79) rfl rfl ?_
            refine zw_ri rfl rfl ?_
            exact ⟨_, rfl, (hz0.trans (hz1.trans (hz2.trans (hz3.trans (hz4))))).symm⟩
          · have hz4 : zq_n4 (((Int32.ofNat (n + 1) ^^^ Int32.ofInt (-1)) &&& (Int32.ofNat (n + 1) - Int32.ofInt 1))) (Int32.ofInt 1) = zq_n5 (zq_us (((Int32.ofNat (n + 1) ^^^ Int32.ofInt (-1)) &&& (Int32.ofNat (n + 1) - Int32.ofInt 1))) (Int32.ofInt 2)) (Int32.ofInt 1 + Int32.ofInt 2) := if_neg (Int.not_le.mpr hb4)
            refine zw_ii (pc' := 70) rfl zw_g1 rfl rfl ?_
            refine zw_ld (n := 1) (k := 0) (f := zp_isI) (pc' := 71) rfl rfl (zw_gt (zw_gt zw_g1 rfl rfl) rfl rfl) rfl rfl ?_
            refine zw_s (pc' := 72) rfl rfl ?_
            refine zw_s (pc' := 73) rfl rfl ?_
            refine zw_st (n := 1) (k := 0) (f := zp_isI) (pc' := 74) rfl rfl rfl rfl rfl ?_
            refine zw_ld (n := 1) (k := 1) (f := zp_isI) (pc' := 75) rfl rfl (zw_gt zw_g1 rfl rfl) rfl rfl ?_
            refine zw_ld (n := 1) (k := 0) (f := zp_isI) (pc' := 76) rfl rfl zw_g1 rfl rfl ?_
            refine zw_s (pc' := 77) rfl rfl ?_
            refine zw_s (pc' := 78) rfl rfl ?_
            refine zw_iadd (pc' := 79) rfl rfl ?_
            refine zw_ri rfl rfl ?_
            exact ⟨_, rfl, (hz0.trans (hz1.trans (hz2.trans (hz3.trans (hz4))))).symm⟩
        · have hz3 : zq_n3 (((Int32.ofNat (n + 1) ^^^ Int32.ofInt (-1)) &&& (Int32.ofNat (n + 1) - Int32.ofInt 1))) (Int32.ofInt 1) = zq_n4 (zq_us (((Int32.ofNat (n + 1) ^^^ Int32.ofInt (-1)) &&& (Int32.ofNat (n + 1) - Int32.ofInt 1))) (Int32.ofInt 4)) (Int32.ofInt 1 + Int32.ofInt 4) := if_neg (Int.not_le.mpr hb3)
          refine zw_ii (pc' := 58) rfl zw_g1 rfl rfl ?_
          refine zw_ld (n := 1) (k := 0) (f := zp_isI) (pc' := 59) rfl rfl (zw_gt (zw_gt zw_g1 rfl rfl) rfl rfl) rfl rfl ?_
          refine zw_s (pc' := 60) rfl rfl ?_
          refine zw_s (pc' := 61) rfl rfl ?_
          refine zw_st (n := 1) (k := 0) (f := zp_isI) (pc' := 62) rfl rfl rfl rfl rfl ?_
          refine zw_ld (n := 1) (k := 0) (f := zp_isI) (pc' := 63) rfl rfl zw_g1 rfl rfl ?_
          refine zw_s (pc' := 64) rfl rfl ?_
          refine zw_ble2 (g := 74) (pc' := 67) rfl rfl rfl rfl (rfl : _ = (4 : Int)) (fun hb4 => ?_) (fun hb4 => ?_)
          · have hz4 : zq_n4 (zq_us (((Int32.ofNat (n + 1) ^^^ Int32.ofInt (-1)) &&& (Int32.ofNat (n + 1) - Int32.ofInt 1))) (Int32.ofInt 4)) (Int32.ofInt 1 + Int32.ofInt 4) = zq_n5 (zq_us (((Int32.ofNat (n + 1) ^^^ Int32.ofInt (-1)) &&& (Int32.ofNat (n + 1) - Int32.ofInt 1))) (Int32.ofInt 4)) (Int32.ofInt 1 + Int32.ofInt 4) := if_pos hb4
            refine zw_ld (n := 1) (k := 1) (f := zp_isI) (pc' := 75) rfl rfl (zw_gt zw_g1 rfl rfl) rfl rfl ?_
            refine zw_ld (n := 1) (k := 0) (f := zp_isI) (pc' := 76) rfl rfl zw_g1 rfl rfl ?_
            refine zw_s (pc' := 77) rfl rfl ?_
            refine zw_s (pc' := 78) rfl rfl ?_
            refine zw_iadd (pc' := 79) rfl rfl ?_
            refine zw_ri rfl rfl ?_
            exact ⟨_, rfl, (hz0.trans (hz1.trans (hz2.trans (hz3.trans (hz4))))).symm⟩
          · have hz4 : zq_n4 (zq_us (((Int32.ofNat (n + 1) ^^^ Int32.ofInt (-1)) &&& (Int32.ofNat (n + 1) - Int32.ofInt 1))) (Int32.ofInt 4)) (Int32.ofInt 1 + Int32.ofInt 4) = zq_n5 (zq_us (zq_us (((Int32.ofNat (n + 1) ^^^ Int32.ofInt (-1)) &&& (Int32.ofNat (n + 1) - Int32.ofInt 1))) (Int32.ofInt 4)) (Int32.ofInt 2)) (Int32.ofInt 1 + Int32.ofInt 4 + Int32.ofInt 2) := if_neg (Int.not_le.mpr hb4)
            refine zw_ii (pc' := 70) rfl (zw_gt zw_g1 rfl rfl) rfl rfl ?_
            refine zw_ld (n := 1) (k := 0) (f := zp_isI) (pc' := 71) rfl rfl (zw_gt zw_g1 rfl rfl) rfl rfl ?_
            refine zw_s (pc' := 72) rfl rfl ?_
            refine zw_s (pc' := 73) rfl rfl ?_
            refine zw_st (n := 1) (k := 0) (f := zp_isI) (pc' := 74) rfl rfl rfl rfl rfl ?_
            refine zw_ld (n := 1) (k := 1) (f := zp_isI) (pc' := 75) rfl rfl (zw_gt zw_g1 rfl rfl) rfl rfl ?_
            refine zw_ld (n := 1) (k := 0) (f := zp_isI) (pc' := 76) rfl rfl zw_g1 rfl rfl ?_
            refine zw_s (pc' := 77) rfl rfl ?_
            refine zw_s (pc' := 78) rfl rfl ?_
            refine zw_iadd (pc' := 79) rfl rfl ?_
            refine zw_ri rfl rfl ?_
            exact ⟨_, rfl, (hz0.trans (hz1.trans (hz2.trans (hz3.trans (hz4))))).symm⟩
      · have hz2 : zq_n2 (((Int32.ofNat (n + 1) ^^^ Int32.ofInt (-1)) &&& (Int32.ofNat (n + 1) - Int32.ofInt 1))) (Int32.ofInt 1) = zq_n3 (zq_us (((Int32.ofNat (n + 1) ^^^ Int32.ofInt (-1)) &&& (Int32.ofNat (n + 1) - Int32.ofInt 1))) (Int32.ofInt 8)) (Int32.ofInt 1 + Int32.ofInt 8) := if_neg (Int.not_le.mpr hb2)
        refine zw_ii (pc' := 44) rfl zw_g1 rfl rfl ?_
        refine zw_ld (n := 1) (k := 0) (f := zp_isI) (pc' := 45) rfl rfl (zw_gt (zw_gt zw_g1 rfl rfl) rfl rfl) rfl rfl ?_
        refine zw_s (pc' := 47) rfl rfl ?_
        refine zw_s (pc' := 48) rfl rfl ?_
        refine zw_st (n := 1) (k := 0) (f := zp_isI) (pc' := 49) rfl rfl rfl rfl rfl ?_
        refine zw_ld (n := 1) (k := 0) (f := zp_isI) (pc' := 50) rfl rfl zw_g1 rfl rfl ?_
        refine zw_s (pc' := 52) rfl rfl ?_
        refine zw_ble2 (g := 62) (pc' := 55) rfl rfl rfl rfl (rfl : _ = (16 : Int)) (fun hb3 => ?_) (fun hb3 => ?_)
        · have hz3 : zq_n3 (zq_us (((Int32.ofNat (n + 1) ^^^ Int32.ofInt (-1)) &&& (Int32.ofNat (n + 1) - Int32.ofInt 1))) (Int32.ofInt 8)) (Int32.ofInt 1 + Int32.ofInt 8) = zq_n4 (zq_us (((Int32.ofNat (n + 1) ^^^ Int32.ofInt (-1)) &&& (Int32.ofNat (n + 1) - Int32.ofInt 1))) (Int32.ofInt 8)) (Int32.ofInt 1 + Int32.ofInt 8) := if_pos hb3
          refine zw_ld (n := 1) (k := 0) (f := zp_isI) (pc' := 63) rfl rfl zw_g1 rfl rfl ?_
          refine zw_s (pc' := 64) rfl rfl ?_
          refine zw_ble2 (g := 74) (pc' := 67) rfl rfl rfl rfl (rfl : _ = (4 : Int)) (fun hb4 => ?_) (fun hb4 => ?_)
          · have hz4 : zq_n4 (zq_us (((Int32.ofNat (n + 1) ^^^ Int32.ofInt (-1)) &&& (Int32.ofNat (n + 1) - Int32.ofInt 1))) (Int32.ofInt 8)) (Int32.ofInt 1 + Int32.ofInt 8) = zq_n5 (zq_us (((Int32.ofNat (n + 1) ^^^ Int32.ofInt (-1)) &&& (Int32.ofNat (n + 1) - Int32.ofInt 1))) (Int32.ofInt 8)) (Int32.ofInt 1 + Int32.ofInt 8) := if_pos hb4
            refine zw_ld (n := 1) (k := 1) (f := zp_isI) (pc' := 75) rfl rfl (zw_gt zw_g1 rfl rfl) rfl rfl ?_
            refine zw_ld (n := 1) (k := 0) (f := zp_isI) (pc' := 76) rfl rfl zw_g1 rfl rfl ?_
            refine zw_s (pc' := 77) rfl rfl ?_
            refine zw_s (pc' := 78) rfl rfl ?_
            refine zw_iadd (pc' := 79) rfl rfl ?_
            refine zw_ri rfl rfl ?_
            exact ⟨_, rfl, (hz0.trans (hz1.trans (hz2.trans (hz3.trans (hz4))))).symm⟩
          · have hz4 : zq_n4 (zq_us (((Int32.ofNat (n + 1) ^^^ Int32.ofInt (-1)) &&& (Int32.ofNat (n + 1) - Int32.ofInt 1))) (Int32.ofInt 8)) (Int32.ofInt 1 + Int32.ofInt 8) = zq_n5 (zq_us (zq_us (((Int32.ofNat (n + 1) ^^^ Int32.ofInt (-1)) &&& (Int32.ofNat (n + 1) - Int32.ofInt 1))) (Int32.ofInt 8)) (Int32.ofInt 2)) (Int32.ofInt 1 + Int32.ofInt 8 + Int32.ofInt 2) := if_neg (Int.not_le.mpr hb4)
            refine zw_ii (pc' := 70) rfl (zw_gt zw_g1 rfl rfl) rfl rfl ?_
            refine zw_ld (n := 1) (k := 0) (f := zp_isI) (pc' := 71) rfl rfl (zw_gt zw_g1 rfl rfl) rfl rfl ?_
            refine zw_s (pc' := 72) rfl rfl ?_
            refine zw_s (pc' := 73) rfl rfl ?_
            refine zw_st (n := 1) (k := 0) (f := zp_isI) (pc' := 74) rfl rfl rfl rfl rfl ?_
            refine zw_ld (n := 1) (k := 1) (f := zp_isI) (pc' := 75) rfl rfl (zw_gt zw_g1 rfl rfl) rfl rfl ?_
            refine zw_ld (n := 1) (k := 0) (f := zp_isI) (pc' := 76) rfl rfl zw_g1 rfl rfl ?_
            refine zw_s (pc' := 77) rfl rfl ?_
            refine zw_s (pc' := 78) rfl rfl ?_
            refine zw_iadd (pc' := 79) rfl rfl ?_
            refine zw_ri rfl rfl ?_
            exact ⟨_, rfl, (hz0.trans (hz1.trans (hz2.trans (hz3.trans (hz4))))).symm⟩
        · have hz3 : zq_n3 (zq_us (((Int32.ofNat (n + 1) ^^^ Int32.ofInt (-1)) &&& (Int32.ofNat (n + 1) - Int32.ofInt 1))) (Int32.ofInt 8)) (Int32.ofInt 1 + Int32.ofInt 8) = zq_n4 (zq_us (zq_us (((Int32.ofNat (n + 1) ^^^ Int32.ofInt (-1)) &&& (Int32.ofNat (n + 1) - Int32.ofInt 1))) (Int32.ofInt 8)) (Int32.ofInt 4)) (Int32.ofInt 1 + Int32.ofInt 8 + Int32.ofInt 4) := if_neg (Int.not_le.mpr hb3)
          refine zw_ii (pc' := 58) rfl (zw_gt zw_g1 rfl rfl) rfl rfl ?_
          refine zw_ld (n := 1) (k := 0) (f := zp_isI) (pc' := 59) rfl rfl (zw_gt zw_g1 rfl rfl) rfl rfl ?_
          refine zw_s (pc' := 60) rfl rfl ?_
          refine zw_s (pc' := 61) rfl rfl ?_
          refine zw_st (n := 1) (k := 0) (f := zp_isI) (pc' := 62) rfl rfl rfl rfl rfl ?_
          refine zw_ld (n := 1) (k := 0) (f := zp_isI) (pc' := 63) rfl rfl zw_g1 rfl rfl ?_
          refine zw_s (pc' := 64) rfl rfl ?_
          refine zw_ble2 (g := 74) (pc' := 67) rfl rfl rfl rfl (rfl : _ = (4 : Int)) (fun hb4 => ?_) (fun hb4 => ?_)
          · have hz4 : zq_n4 (zq_us (zq_us (((Int32.ofNat (n + 1) ^^^ Int32.ofInt (-1)) &&& (Int32.ofNat (n + 1) - Int32.ofInt 1))) (Int32.ofInt 8)) (Int32.ofInt 4)) (Int32.ofInt 1 + Int32.ofInt 8 + Int32.ofInt 4) = zq_n5 (zq_us (zq_us (((Int32.ofNat (n + 1) ^^^ Int32.ofInt (-1)) &&& (Int32.ofNat (n + 1) - Int32.ofInt 1))) (Int32.ofInt 8)) (Int32.ofInt 4)) (Int32.ofInt 1 + Int32.ofInt 8 + Int32.ofInt 4) := if_pos hb4
            refine zw_ld (n := 1) (k := 1) (f := zp_isI) (pc' := 75) rfl rfl (zw_gt zw_g1 rfl rfl) rfl rfl ?_
            refine zw_ld (n := 1) (k := 0) (f := zp_isI) (pc' := 76) rfl rfl zw_g1 rfl rfl ?_
            refine zw_s (pc' := 77) rfl rfl ?_
            refine zw_s (pc' := 78) rfl rfl ?_
            refine zw_iadd (pc' := 79) rfl rfl ?_
            refine zw_ri rfl rfl ?_
            exact ⟨_, rfl, (hz0.trans (hz1.trans (hz2.trans (hz3.trans (hz4))))).symm⟩
          · have hz4 : zq_n4 (zq_us (zq_us (((Int32.ofNat (n + 1) ^^^ Int32.ofInt (-1)) &&& (Int32.ofNat (n + 1) - Int32.ofInt 1))) (Int32.ofInt 8)) (Int32.ofInt 4)) (Int32.ofInt 1 + Int32.ofInt 8 + Int32.ofInt 4) = zq_n5 (zq_us (zq_us (zq_us (((Int32.ofNat (n + 1) ^^^ Int32.ofInt (-1)) &&& (Int32.ofNat (n + 1) - Int32.ofInt 1))) (Int32.ofInt 8)) (Int32.ofInt 4)) (Int32.ofInt 2)) (Int32.ofInt 1 + Int32.ofInt 8 + Int32.ofInt 4 + Int32.ofInt 2) := if_neg (Int.not_le.mpr hb4)
            refine zw_ii (pc' := 70) rfl (zw_gt zw_g1 rfl rfl) rfl rfl ?_
            refine zw_ld (n := 1) (k := 0) (f := zp_isI) (pc' := 71) rfl rfl (zw_gt zw_g1 rfl rfl) rfl rfl ?_
            refine zw_s (pc' := 72) rfl rfl ?_
            refine zw_s (pc' := 73) rfl rfl ?_
            refine zw_st (n := 1) (k := 0) (f := zp_isI) (pc' := 74) rfl rfl rfl rfl rfl ?_
            refine zw_ld (n := 1) (k := 1) (f := zp_isI) (pc' := 75) rfl rfl (zw_gt zw_g1 rfl rfl) rfl rfl ?_
            refine zw_ld (n := 1) (k := 0) (f := zp_isI) (pc' := 76) rfl rfl zw_g1 rfl rfl ?_
            refine zw_s (pc' := 77) rfl rfl ?_
            refine zw_s (pc' := 78) rfl rfl ?_
            refine zw_iadd (pc' := 79) rfl rfl ?_
            refine zw_ri rfl rfl ?_
            exact ⟨_, rfl, (hz0.trans (hz1.trans (hz2.trans (hz3.trans (hz4))))).symm⟩
    · have hz1 : zq_n1 (((Int32.ofNat (n + 1) ^^^ Int32.ofInt (-1)) &&& (Int32.ofNat (n + 1) - Int32.ofInt 1))) (Int32.ofInt 1) = zq_n2 (zq_us (((Int32.ofNat (n + 1) ^^^ Int32.ofInt (-1)) &&& (Int32.ofNat (n + 1) - Int32.ofInt 1))) (Int32.ofInt 16)) (Int32.ofInt 1 + Int32.ofInt 16) := if_neg (Int.not_le.mpr hb1)
      refine zw_ii (pc' := 29) rfl zw_g1 rfl rfl ?_
      refine zw_ld (n := 1) (k := 0) (f := zp_isI) (pc' := 30) rfl rfl (zw_gt (zw_gt zw_g1 rfl rfl) rfl rfl) rfl rfl ?_
      refine zw_s (pc' := 32) rfl rfl ?_
      refine zw_s (pc' := 33) rfl rfl ?_
      refine zw_st (n := 1) (k := 0) (f := zp_isI) (pc' := 34) rfl rfl rfl rfl rfl ?_
      refine zw_ld (n := 1) (k := 0) (f := zp_isI) (pc' := 35) rfl rfl zw_g1 rfl rfl ?_
      refine zw_s (pc' := 38) rfl rfl ?_
      refine zw_ble2 (g := 49) (pc' := 41) rfl rfl rfl rfl (rfl : _ = (256 : Int)) (fun hb2 => ?_) (fun hb2 => ?_)
      · have hz2 : zq_n2 (zq_us (((Int32.ofNat (n + 1) ^^^ Int32.ofInt (-1)) &&& (Int32.ofNat (n + 1) - Int32.ofInt 1))) (Int32.ofInt 16)) (Int32.ofInt 1 + Int32.ofInt 16) = zq_n3 (zq_us (((Int32.ofNat (n + 1) ^^^ Int32.ofInt (-1)) &&& (Int32.ofNat (n + 1) - Int32.ofInt 1))) (Int32.ofInt 16)) (Int32.ofInt 1 + Int32.ofInt 16) := if_pos hb2
        refine zw_ld (n := 1) (k := 0) (f := zp_isI) (pc' := 50) rfl rfl zw_g1 rfl rfl ?_
        refine zw_s (pc' := 52) rfl rfl ?_
        refine zw_ble2 (g := 62) (pc' := 55) rfl rfl rfl rfl (rfl : _ = (16 : Int)) (fun hb3 => ?_) (fun hb3 => ?_)
        · have hz3 : zq_n3 (zq_us (((Int32.ofNat (n + 1) ^^^ Int32.ofInt (-1)) &&& (Int32.ofNat (n + 1) - Int32.ofInt 1))) (Int32.ofInt 16)) (Int32.ofInt 1 + Int32.ofInt 16) = zq_n4 (zq_us (((Int32.ofNat (n + 1) ^^^ Int32.ofInt (-1)) &&& (Int32.ofNat (n + 1) - Int32.ofInt 1))) (Int32.ofInt 16)) (Int32.ofInt 1 + Int32.ofInt 16) := if_pos hb3
          refine zw_ld (n := 1) (k := 0) (f := zp_isI) (pc' := 63) rfl rfl zw_g1 rfl rfl ?_
          refine zw_s (pc' := 64) rfl rfl ?_
          refine zw_ble2 (g := 74) (pc' := 67) rfl rfl rfl rfl (rfl : _ = (4 : Int)) (fun hb4 => ?_) (fun hb4 => ?_)
          · have hz4 : zq_n4 (zq_us (((Int32.ofNat (n + 1) ^^^ Int32.ofInt (-1)) &&& (Int32.ofNat (n + 1) - Int32.ofInt 1))) (Int32.ofInt 16)) (Int32.ofInt 1 + Int32.ofInt 16) = zq_n5 (zq_us (((Int32.ofNat (n + 1) ^^^ Int32.ofInt (-1)) &&& (Int32.ofNat (n + 1) - Int32.ofInt 1))) (Int32.ofInt 16)) (Int32.ofInt 1 + Int32.ofInt 16) := if_pos hb4
            refine zw_ld (n := 1) (k := 1) (f := zp_isI) (pc' := 75) rfl rfl (zw_gt zw_g1 rfl rfl) rfl rfl ?_
            refine zw_ld (n := 1) (k := 0) (f := zp_isI) (pc' := 76) rfl rfl zw_g1 rfl rfl ?_
            refine zw_s (pc' := 77) rfl rfl ?_
            refine zw_s (pc' := 78) rfl rfl ?_
            refine zw_iadd (pc' := 79) rfl rfl ?_
            refine zw_ri rfl rfl ?_
            exact ⟨_, rfl, (hz0.trans (hz1.trans (hz2.trans (hz3.trans (hz4))))).symm⟩
          · have hz4 : zq_n4 (zq_us (((Int32.ofNat (n + 1) ^^^ Int32.ofInt (-1)) &&& (Int32.ofNat (n + 1) - Int32.ofInt 1))) (Int32.ofInt 16)) (Int32.ofInt 1 + Int32.ofInt 16) = zq_n5 (zq_us (zq_us (((Int32.ofNat (n + 1) ^^^ Int32.ofInt (-1)) &&& (Int32.ofNat (n + 1) - Int32.ofInt 1))) (Int32.ofInt 16)) (Int32.ofInt 2)) (Int32.ofInt 1 + Int32.ofInt 16 + Int32.ofInt 2) := if_neg (Int.not_le.mpr hb4)
            refine zw_ii (pc' := 70) rfl (zw_gt zw_g1 rfl rfl) rfl rfl ?_
            refine zw_ld (n := 1) (k := 0) (f := zp_isI) (pc' := 71) rfl rfl (zw_gt zw_g1 rfl rfl) rfl rfl ?_
            refine zw_s (pc' := 72) rfl rfl ?_
            refine zw_s (pc' := 73) rfl rfl ?_
            refine zw_st (n := 1) (k := 0) (f := zp_isI) (pc' := 74) rfl rfl rfl rfl rfl ?_
            refine zw_ld (n := 1) (k := 1) (f := zp_isI) (pc' := 75) rfl rfl (zw_gt zw_g1 rfl rfl) rfl rfl ?_
            refine zw_ld (n := 1) (k := 0) (f := zp_isI) (pc' := 76) rfl rfl zw_g1 rfl rfl ?_
            refine zw_s (pc' := 77) rfl rfl ?_
            refine zw_s (pc' := 78) rfl rfl ?_
            refine zw_iadd (pc' := 79) rfl rfl ?_
            refine zw_ri rfl rfl ?_
            exact ⟨_, rfl, (hz0.trans (hz1.trans (hz2.trans (hz3.trans (hz4))))).symm⟩
        · have hz3 : zq_n3 (zq_us (((Int32.ofNat (n + 1) ^^^ Int32.ofInt (-1)) &&& (Int32.ofNat (n + 1) - Int32.ofInt 1))) (Int32.ofInt 16)) (Int32.ofInt 1 + Int32.ofInt 16) = zq_n4 (zq_us (zq_us (((Int32.ofNat (n + 1) ^^^ Int32.ofInt (-1)) &&& (Int32.ofNat (n + 1) - Int32.ofInt 1))) (Int32.ofInt 16)) (Int32.ofInt 4)) (Int32.ofInt 1 + Int32.ofInt 16 + Int32.ofInt 4) := if_neg (Int.not_le.mpr hb3)
          refine zw_ii (pc' := 58) rfl (zw_gt zw_g1 rfl rfl) rfl rfl ?_
          refine zw_ld (n := 1) (k := 0) (f := zp_isI) (pc' := 59) rfl rfl (zw_gt zw_g1 rfl rfl) rfl rfl ?_
          refine zw_s (pc' := 60) rfl rfl ?_
          refine zw_s (pc' := 61) rfl rfl ?_
          refine zw_st (n := 1) (k := 0) (f := zp_isI) (pc' := 62) rfl rfl rfl rfl rfl ?_
          refine zw_ld (n := 1) (k := 0) (f := zp_isI) (pc' := 63) rfl rfl zw_g1 rfl rfl ?_
          refine zw_s (pc' := 64) rfl rfl ?_
          refine zw_ble2 (g := 74) (pc' := 67) rfl rfl rfl rfl (rfl : _ = (4 : Int)) (fun hb4 => ?_) (fun hb4 => ?_)
          · have hz4 : zq_n4 (zq_us (zq_us (((Int32.ofNat (n + 1) ^^^ Int32.ofInt (-1)) &&& (Int32.ofNat (n + 1) - Int32.ofInt 1))) (Int32.ofInt 16)) (Int32.ofInt 4)) (Int32.ofInt 1 + Int32.ofInt 16 + Int32.ofInt 4) = zq_n5 (zq_us (zq_us (((Int32.ofNat (n + 1) ^^^ Int32.ofInt (-1)) &&& (Int32.ofNat (n + 1) - Int32.ofInt 1))) (Int32.ofInt 16)) (Int32.ofInt 4)) (Int32.ofInt 1 + Int32.ofInt 16 + Int32.ofInt 4) := if_pos hb4
            refine zw_ld (n := 1) (k := 1) (f := zp_isI) (pc' := 75) rfl rfl (zw_gt zw_g1 rfl rfl) rfl rfl ?_
            refine zw_ld (n := 1) (k := 0) (f := zp_isI) (pc' := 76) rfl rfl zw_g1 rfl rfl ?_
            refine zw_s (pc' := 77) rfl rfl ?_
            refine zw_s (pc' := 78) rfl rfl ?_
            refine zw_iadd (pc' := 79) rfl rfl ?_
            refine zw_ri rfl rfl ?_
            exact ⟨_, rfl, (hz0.trans (hz1.trans (hz2.trans (hz3.trans (hz4))))).symm⟩
          · have hz4 : zq_n4 (zq_us (zq_us (((Int32.ofNat (n + 1) ^^^ Int32.ofInt (-1)) &&& (Int32.ofNat (n + 1) - Int32.ofInt 1))) (Int32.ofInt 16)) (Int32.ofInt 4)) (Int32.ofInt 1 + Int32.ofInt 16 + Int32.ofInt 4) = zq_n5 (zq_us (zq_us (zq_us (((Int32.ofNat (n + 1) ^^^ Int32.ofInt (-1)) &&& (Int32.ofNat (n + 1) - Int32.ofInt 1))) (Int32.ofInt 16)) (Int32.ofInt 4)) (Int32.ofInt 2)) (Int32.ofInt 1 + Int32.ofInt 16 + Int32.ofInt 4 + Int32.ofInt 2) := if_neg (Int.not_le.mpr hb4)
            refine zw_ii (pc' := 70) rfl (zw_gt zw_g1 rfl rfl) rfl rfl ?_
            refine zw_ld (n := 1) (k := 0) (f := zp_isI) (pc' := 71) rfl rfl (zw_gt zw_g1 rfl rfl) rfl rfl ?_
            refine zw_s (pc' := 72) rfl rfl ?_
            refine zw_s (pc' := 73) rfl rfl ?_
            refine zw_st (n := 1) (k := 0) (f := zp_isI) (pc' := 74) rfl rfl rfl rfl rfl ?_
            refine zw_ld (n := 1) (k := 1) (f := zp_isI) (pc' := 75) rfl rfl (zw_gt zw_g1 rfl rfl) rfl rfl ?_
            refine zw_ld (n := 1) (k := 0) (f := zp_isI) (pc' := 76) rfl rfl zw_g1 rfl rfl ?_
            refine zw_s (pc' := 77) rfl rfl ?_
            refine zw_s (pc' := 78) rfl rfl ?_
            refine zw_iadd (pc' := 79) rfl rfl ?_
            refine zw_ri rfl rfl ?_
            exact ⟨_, rfl, (hz0.trans (hz1.trans (hz2.trans (hz3.trans (hz4))))).symm⟩
      · have hz2 : zq_n2 (zq_us (((Int32.ofNat (n + 1) ^^^ Int32.ofInt (-1)) &&& (Int32.ofNat (n + 1) - Int32.ofInt 1))) (Int32.ofInt 16)) (Int32.ofInt 1 + Int32.ofInt 16) = zq_n3 (zq_us (zq_us (((Int32.ofNat (n + 1) ^^^ Int32.ofInt (-1)) &&& (Int32.ofNat (n + 1) - Int32.ofInt 1))) (Int32.ofInt 16)) (Int32.ofInt 8)) (Int32.ofInt 1 + Int32.ofInt 16 + Int32.ofInt 8) := if_neg (Int.not_le.mpr hb2)
        refine zw_ii (pc' := 44) rfl (zw_gt zw_g1 rfl rfl) rfl rfl ?_
        refine zw_ld (n := 1) (k := 0) (f := zp_isI) (pc' := 45) rfl rfl (zw_gt zw_g1 rfl rfl) rfl rfl ?_
        refine zw_s (pc' := 47) rfl rfl ?_
        refine zw_s (pc' := 48) rfl rfl ?_
        refine zw_st (n := 1) (k := 0) (f := zp_isI) (pc' := 49) rfl rfl rfl rfl rfl ?_
        refine zw_ld (n := 1) (k := 0) (f := zp_isI) (pc' := 50) rfl rfl zw_g1 rfl rfl ?_
        refine zw_s (pc' := 52) rfl rfl ?_
        refine zw_ble2 (g := 62) (pc' := 55) rfl rfl rfl rfl (rfl : _ = (16 : Int)) (fun hb3 => ?_) (fun hb3 => ?_)
        · have hz3 : zq_n3 (zq_us (zq_us (((Int32.ofNat (n + 1) ^^^ Int32.ofInt (-1)) &&& (Int32.ofNat (n + 1) - Int32.ofInt 1))) (Int32.ofInt 16)) (Int32.ofInt 8)) (Int32.ofInt 1 + Int32.ofInt 16 + Int32.ofInt 8) = zq_n4 (zq_us (zq_us (((Int32.ofNat (n + 1) ^^^ Int32.ofInt (-1)) &&& (Int32.ofNat (n + 1) - Int32.ofInt 1))) (Int32.ofInt 16)) (Int32.ofInt 8)) (Int32.ofInt 1 + Int32.ofInt 16 + Int32.ofInt 8) := if_pos hb3
          refine zw_ld (n := 1) (k := 0) (f := zp_isI) (pc' := 63) rfl rfl zw_g1 rfl rfl ?_
          refine zw_s (pc' := 64) rfl rfl ?_
          refine zw_ble2 (g := 74) (pc' := 67) rfl rfl rfl rfl (rfl : _ = (4 : Int)) (fun hb4 => ?_) (fun hb4 => ?_)
          · have hz4 : zq_n4 (zq_us (zq_us (((Int32.ofNat (n + 1) ^^^ Int32.ofInt (-1)) &&& (Int32.ofNat (n + 1) - Int32.ofInt 1))) (Int32.ofInt 16)) (Int32.ofInt 8)) (Int32.ofInt 1 + Int32.ofInt 16 + Int32.ofInt 8) = zq_n5 (zq_us (zq_us (((Int32.ofNat (n + 1) ^^^ Int32.ofInt (-1)) &&& (Int32.ofNat (n + 1) - Int32.ofInt 1))) (Int32.ofInt 16)) (Int32.ofInt 8)) (Int32.ofInt 1 + Int32.ofInt 16 + Int32.ofInt 8) := if_pos hb4
            refine zw_ld (n := 1) (k := 1) (f := zp_isI) (pc' := 75) rfl rfl (zw_gt zw_g1 rfl rfl) rfl rfl ?_
            refine zw_ld (n := 1) (k := 0) (f := zp_isI) (pc' := 76) rfl rfl zw_g1 rfl rfl ?_
            refine zw_s (pc' := 77) rfl rfl ?_
            refine zw_s (pc' := 78) rfl rfl ?_
            refine zw_iadd (pc' := 79) rfl rfl ?_
            refine zw_ri rfl rfl ?_
            exact ⟨_, rfl, (hz0.trans (hz1.trans (hz2.trans (hz3.trans (hz4))))).symm⟩
          · have hz4 : zq_n4 (zq_us (zq_us (((Int32.ofNat (n + 1) ^^^ Int32.ofInt (-1)) &&& (Int32.ofNat (n + 1) - Int32.ofInt 1))) (Int32.ofInt 16)) (Int32.ofInt 8)) (Int32.ofInt 1 + Int32.ofInt 16 + Int32.ofInt 8) = zq_n5 (zq_us (zq_us (zq_us (((Int32.ofNat (n + 1) ^^^ Int32.ofInt (-1)) &&& (Int32.ofNat (n + 1) - Int32.ofInt 1))) (Int32.ofInt 16)) (Int32.ofInt 8)) (Int32.ofInt 2)) (Int32.ofInt 1 + Int32.ofInt 16 + Int32.ofInt 8 + Int32.ofInt 2) := if_neg (Int.not_le.mpr hb4)
            refine zw_ii (pc' := 70) rfl (zw_gt zw_g1 rfl rfl) rfl rfl ?_
            refine zw_ld (n := 1) (k := 0) (f := zp_isI) (pc' := 71) rfl rfl (zw_gt zw_g1 rfl rfl) rfl rfl ?_
            refine zw_s (pc' := 72) rfl rfl ?_
            refine zw_s (pc' := 73) rfl rfl ?_
            refine zw_st (n := 1) (k := 0) (f := zp_isI) (pc' := 74) rfl rfl rfl rfl rfl ?_
            refine zw_ld (n := 1) (k := 1) (f := zp_isI) (pc' := 75) rfl rfl (zw_gt zw_g1 rfl rfl) rfl rfl ?_
            refine zw_ld (n := 1) (k := 0) (f := zp_isI) (pc' := 76) rfl rfl zw_g1 rfl rfl ?_
            refine zw_s (pc' := 77) rfl rfl ?_
            refine zw_s (pc' := 78) rfl rfl ?_
            refine zw_iadd (pc' := 79) rfl rfl ?_
            refine zw_ri rfl rfl ?_
            exact ⟨_, rfl, (hz0.trans (hz1.trans (hz2.trans (hz3.trans (hz4))))).symm⟩
        · have hz3 : zq_n3 (zq_us (zq_us (((Int32.ofNat (n + 1) ^^^ Int32.ofInt (-1)) &&& (Int32.ofNat (n + 1) - Int32.ofInt 1))) (Int32.ofInt 16)) (Int32.ofInt 8)) (Int32.ofInt 1 + Int32.ofInt 16 + Int32.ofInt 8) = zq_n4 (zq_us (zq_us (zq_us (((Int32.ofNat (n + 1) ^^^ Int32.ofInt (-1)) &&& (Int32.ofNat (n + 1) - Int32.ofInt 1))) (Int32.ofInt 16)) (Int32.ofInt 8)) (Int32.ofInt 4)) (Int32.ofInt 1 + Int32.ofInt 16 + Int32.ofInt 8 + Int32.ofInt 4) := if_neg (Int.not_le.mpr hb3)
          refine zw_ii (pc' := 58) rfl (zw_gt zw_g1 rfl rfl) rfl rfl ?_
          refine zw_ld (n := 1) (k := 0) (f := zp_isI) (pc' := 59) rfl rfl (zw_gt zw_g1 rfl rfl) rfl rfl ?_
          refine zw_s (pc' := 60) rfl rfl ?_
          refine zw_s (pc' := 61) rfl rfl ?_
          refine zw_st (n := 1) (k := 0) (f := zp_isI) (pc' := 62) rfl rfl rfl rfl rfl ?_
          refine zw_ld (n := 1) (k := 0) (f := zp_isI) (pc' := 63) rfl rfl zw_g1 rfl rfl ?_
          refine zw_s (pc' := 64) rfl rfl ?_
          refine zw_ble2 (g := 74) (pc' := 67) rfl rfl rfl rfl (rfl : _ = (4 : Int)) (fun hb4 => ?_) (fun hb4 => ?_)
          · have hz4 : zq_n4 (zq_us (zq_us (zq_us (((Int32.ofNat (n + 1) ^^^ Int32.ofInt (-1)) &&& (Int32.ofNat (n + 1) - Int32.ofInt 1))) (Int32.ofInt 16)) (Int32.ofInt 8)) (Int32.ofInt 4)) (Int32.ofInt 1 + Int32.ofInt 16 + Int32.ofInt 8 + Int32.ofInt 4) = zq_n5 (zq_us (zq_us (zq_us (((Int32.ofNat (n + 1) ^^^ Int32.ofInt (-1)) &&& (Int32.ofNat (n + 1) - Int32.ofInt 1))) (Int32.ofInt 16)) (Int32.ofInt 8)) (Int32.ofInt 4)) (Int32.ofInt 1 + Int32.ofInt 16 + Int32.ofInt 8 + Int32.ofInt 4) := if_pos hb4
            refine zw_ld (n := 1) (k := 1) (f := zp_isI) (pc' := 75) rfl rfl (zw_gt zw_g1 rfl rfl) rfl rfl ?_
            refine zw_ld (n := 1) (k := 0) (f := zp_isI) (pc' := 76) rfl rfl zw_g1 rfl rfl ?_
            refine zw_s (pc' := 77) rfl rfl ?_
            refine zw_s (pc' := 78) rfl rfl ?_
            refine zw_iadd (pc' := 79) rfl rfl ?_
            refine zw_ri rfl rfl ?_
            exact ⟨_, rfl, (hz0.trans (hz1.trans (hz2.trans (hz3.trans (hz4))))).symm⟩
          · have hz4 : zq_n4 (zq_us (zq_us (zq_us (((Int32.ofNat (n + 1) ^^^ Int32.ofInt (-1)) &&& (Int32.ofNat (n + 1) - Int32.ofInt 1))) (Int32.ofInt 16)) (Int32.ofInt 8)) (Int32.ofInt 4)) (Int32.ofInt 1 + Int32.ofInt 16 + Int32.ofInt 8 + Int32.ofInt 4) = zq_n5 (zq_us (zq_us (zq_us (zq_us (((Int32.ofNat (n + 1) ^^^ Int32.ofInt (-1)) &&& (Int32.ofNat (n + 1) - Int32.ofInt 1))) (Int32.ofInt 16)) (Int32.ofInt 8)) (Int32.ofInt 4)) (Int32.ofInt 2)) (Int32.ofInt 1 + Int32.ofInt 16 + Int32.ofInt 8 + Int32.ofInt 4 + Int32.ofInt 2) := if_neg (Int.not_le.mpr hb4)
            refine zw_ii (pc' := 70) rfl (zw_gt zw_g1 rfl rfl) rfl rfl ?_
            refine zw_ld (n := 1) (k := 0) (f := zp_isI) (pc' := 71) rfl rfl (zw_gt zw_g1 rfl rfl) rfl rfl ?_
            refine zw_s (pc' := 72) rfl rfl ?_
            refine zw_s (pc' := 73) rfl rfl ?_
            refine zw_st (n := 1) (k := 0) (f := zp_isI) (pc' := 74) rfl rfl rfl rfl rfl ?_
            refine zw_ld (n := 1) (k := 1) (f := zp_isI) (pc' := 75) rfl rfl (zw_gt zw_g1 rfl rfl) rfl rfl ?_
            refine zw_ld (n := 1) (k := 0) (f := zp_isI) (pc' := 76) rfl rfl zw_g1 rfl rfl ?_
            refine zw_s (pc' := 77) rfl rfl ?_
            refine zw_s (pc' := 78) rfl rfl ?_
            refine zw_iadd (pc' := 79) rfl rfl ?_
            refine zw_ri rfl rfl ?_
            exact ⟨_, rfl, (hz0.trans (hz1.trans (hz2.trans (hz3.trans (hz4))))).symm⟩
  · have hz0 : zq_n0 (Int32.ofNat (n + 1)) = ((Int32.ofNat (n + 1) ^^^ Int32.ofInt (-1)) &&& (Int32.ofNat (n + 1) - Int32.ofInt 1)) &&& Int32.ofInt 32 := if_neg (Int.not_lt.mpr hb0)
    refine zw_ld (n := 1) (k := 0) (f := zp_isI) (pc' := 13) rfl rfl zw_g1 rfl rfl ?_
    refine zw_s (pc' := 15) rfl rfl ?_
    refine zw_iand (pc' := 16) rfl rfl ?_
    refine zw_ri rfl rfl ?_
    exact ⟨_, rfl, (hz0).symm⟩
end
