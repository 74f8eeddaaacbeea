section
/-! ===== the reference: sea, its loop, exactly ===== -/

def y00d : yLD := (fun k => if k = 0 then 1 else if k = 1 then 6 else if k = 2 then 6 else if k = 21 then 2 else if k = 22 then 5 else if 100 ≤ k ∧ k < 164 then -1 else 0, 0, fun k => decide (k = 1020 ∨ k = 1021 ∨ k = 1022 ∨ (1100 ≤ k ∧ k < 1164)))
theorem y00d_f {c : Nat} (h : c < 64) : y00d.2.2 c = false := decide_eq_false (by omega)
theorem y00d_i {i : Nat} (h : y00d.2.2 (1000 + i) = true) : i = 20 ∨ i = 21 ∨ i = 22 ∨ (100 ≤ i ∧ i < 164) := by
  have h := of_decide_eq_true h
  omega
theorem y00d_c {c : Nat} (h : c < 64) : y00d.1 (100 + c) = -1 := by
  show (if 100 + c = 0 then (1 : Int) else if 100 + c = 1 then 6 else if 100 + c = 2 then 6 else if 100 + c = 21 then 2 else if 100 + c = 22 then 5 else if 100 ≤ 100 + c ∧ 100 + c < 164 then -1 else 0) = -1
  rw [if_neg (by omega), if_neg (by omega), if_neg (by omega), if_neg (by omega), if_neg (by omega), if_pos (by omega)]
/-- where the reference keeps a datum that stands -/
def yRc (i : Nat) : Nat × Nat := if i < 23 then (72, i - 11) else if i < 100 then (1000 + i, 0) else if i < 200 then (73, i - 100) else if i < 210 then (74, 4 * (i - 200)) else if i < 220 then (74, 4 * (i - 210) + 1) else if i < 230 then (74, 4 * (i - 220) + 2) else if i < 300 then (74, 4 * (i - 230) + 3) else if i < 400 then (75, 2 * (i - 300)) else if i < 500 then (75, 2 * (i - 400) + 1) else if i < 600 then (76, i - 500) else if i < 610 then (77, 3 * (i - 600)) else if i < 620 then (77, 3 * (i - 610) + 1) else if i < 700 then (77, 3 * (i - 620) + 2) else (79, i - 700)
/-- a datum that there can be -/
def yInb (i : Nat) : Prop := (20 ≤ i ∧ i < 23) ∨ (100 ≤ i ∧ i < 164) ∨ (200 ≤ i ∧ i < 208) ∨ (210 ≤ i ∧ i < 218) ∨ (220 ≤ i ∧ i < 228) ∨ (230 ≤ i ∧ i < 238) ∨ (300 ≤ i ∧ i < 364) ∨ (400 ≤ i ∧ i < 464) ∨ (500 ≤ i ∧ i < 520) ∨ (600 ≤ i ∧ i < 604) ∨ (610 ≤ i ∧ i < 614) ∨ (620 ≤ i ∧ i < 624) ∨ (700 ≤ i ∧ i < 708)
/-- the reference's sea that stands is what was told -/
def yZr (d : yLD) (H : zp_H) : Prop := (H.2.1 72 1).toInt = d.1 1 ∧ (H.2.1 72 2).toInt = d.1 2 ∧ (H.2.1 72 3).toInt = d.1 3 ∧ (H.2.1 72 5).toInt = d.1 4 ∧ (H.2.1 72 6).toInt = d.1 5 ∧ (H.2.1 72 7).toInt = d.1 6 ∧ (H.2.1 72 8).toInt = d.1 7 ∧ H.2.2.1 72 12 = d.2.1 ∧ ∀ i, yInb i → d.2.2 (1000 + i) = true → (H.2.1 (yRc i).1 (yRc i).2).toInt = d.1 i
theorem yZr_of {d : yLD} {H R : zp_H} (hD : yDr d H) (hX : yXd yRl [] d H) (f : ∀ k, 1 ≤ k → k ≤ 11 → R.2.1 72 k = H.2.1 72 (k + 33)) (fl : R.2.2.1 72 12 = H.2.2.1 72 51) (r73 : ∀ i, i < 64 → R.2.1 73 i = H.2.1 83 i) (r74 : ∀ i, i < 32 → R.2.1 74 i = H.2.1 84 i) (r75 : ∀ i, i < 128 → R.2.1 75 i = H.2.1 85 i) (r76 : ∀ i, i < 20 → R.2.1 76 i = H.2.1 86 i) (r77 : ∀ i, i < 12 → R.2.1 77 i = H.2.1 87 i) (r79 : ∀ i, i < 8 → R.2.1 79 i = H.2.1 89 i) : yZr d R := by
  obtain ⟨a0, a1, a2, a3, a4, a5, a6, a7, a8, a9, a11, a12, a13⟩ := hD
  refine ⟨by rw [f 1 (by decide) (by decide)]; exact a0, by rw [f 2 (by decide) (by decide)]; exact a1, by rw [f 3 (by decide) (by decide)]; exact a2, by rw [f 5 (by decide) (by decide)]; exact a3, by rw [f 6 (by decide) (by decide)]; exact a4, by rw [f 7 (by decide) (by decide)]; exact a5, by rw [f 8 (by decide) (by decide)]; exact a6, fl.trans a9, fun i hi hf => ?_⟩
  have h := hX i (by unfold yInb at hi; omega) hf List.not_mem_nil
  have e : R.2.1 (yRc i).1 (yRc i).2 = H.2.1 (yRl i).1 (yRl i).2 := by
    unfold yRc yRl
    unfold yInb at hi
    by_cases h1 : i < 23
    · rw [if_pos h1, if_pos h1, f (i - 11) (by omega) (by omega), show i - 11 + 33 = 22 + i by omega]
    rw [if_neg h1, if_neg h1]
    by_cases h2 : i < 100
    · omega
    rw [if_neg h2, if_neg h2]
    by_cases h200 : i < 200
    · rw [if_pos h200, if_pos h200]
      exact r73 _ (by omega)
    rw [if_neg h200, if_neg h200]
    by_cases h210 : i < 210
    · rw [if_pos h210, if_pos h210]
      exact r74 _ (by omega)
    rw [if_neg h210, if_neg h210]
    by_cases h220 : i < 220
    · rw [if_pos h220, if_pos h220]
      exact r74 _ (by omega)
    rw [if_neg h220, if_neg h220]
    by_cases h230 : i < 230
    · rw [if_pos h230, if_pos h230]
      exact r74 _ (by omega)
    rw [if_neg h230, if_neg h230]
    by_cases h300 : i < 300
    · rw [if_pos h300, if_pos h300]
      exact r74 _ (by omega)
    rw [if_neg h300, if_neg h300]
    by_cases h400 : i < 400
    · rw [if_pos h400, if_pos h400]
      exact r75 _ (by omega)
    rw [if_neg h400, if_neg h400]
    by_cases h500 : i < 500
    · rw [if_pos h500, if_pos h500]
      exact r75 _ (by omega)
    rw [if_neg h500, if_neg h500]
    by_cases h600 : i < 600
    · rw [if_pos h600, if_pos h600]
      exact r76 _ (by omega)
    rw [if_neg h600, if_neg h600]
    by_cases h610 : i < 610
    · rw [if_pos h610, if_pos h610]
      exact r77 _ (by omega)
    rw [if_neg h610, if_neg h610]
    by_cases h620 : i < 620
    · rw [if_pos h620, if_pos h620]
      exact r77 _ (by omega)
    rw [if_neg h620, if_neg h620]
    by_cases h700 : i < 700
    · rw [if_pos h700, if_pos h700]
      exact r77 _ (by omega)
    rw [if_neg h700, if_neg h700]
    exact r79 _ (by omega)
  rw [e]
  exact h
/-- a text, from its start -/
def y00 : yL := (0, [], 0, 0, 0, y00d, 0)
def ysr_P (Tx : Nat → Int) (nx : Nat) (H0 : zp_H) (X : zp_X) : Prop := ∃ H1 v, X = (.inl (some (.inl v)), H1) ∧ zk_Bs zR zg zJ H1 ∧ zf_72 H0 H1 ∧ (H1.2.1 72 22).toInt = 0 ∧ (∃ r, yA2 Tx nx y00 r ∧ v.toInt = r.1 ∧ (r.1 ≠ 0 → (H1.2.1 72 24).toInt = ys_st Tx nx r.2 ∧ (∀ p k, yQb (p, k) = true → p ≠ 82 → H1.2.1 p k = H0.2.1 p k) ∧ H1.2.2.1 72 12 = H0.2.2.1 72 12 ∧ H1.2.1 82 0 = H0.2.1 82 0 + Int32.ofInt 1 ∧ H1.2.1 82 1 = H0.2.1 82 1) ∧ (r.1 = 0 → (H1.2.1 72 24).toInt = -1 ∧ (H1.2.1 72 80).toInt = 0 ∧ (H1.2.1 72 62).toInt = 0 ∧ (∀ i, H1.2.1 82 i = H0.2.1 82 i) ∧ ∃ d q, yR2 Tx nx y00 (0, [], 0, 0, 0, d, q) ∧ ys_kd Tx nx q = 0 ∧ yZr d H1)) ∧ (H1.2.1 72 0).toInt = 0
def ysr_J (Tx : Nat → Int) (nx : Nat) (H0 H : zp_H) : Prop := (∃ dd, yS Tx nx y00 (fun q => (0, [], 0, 0, 0, dd, q)) H ∧ ((H.2.1 72 23).toInt = 0 → (yDr dd H ∧ yXd yRl [] dd H) ∧ (H.2.1 72 50).toInt = dd.1 0)) ∧ (H.2.1 72 0).toInt = 0 ∧ yQr H0 H
def ysr_G (Tx : Nat → Int) (nx : Nat) (L : Nat) (σ : Nat → Int32) (d : Nat) (H0 : zp_H) : Prop := ∀ (H : zp_H) (lv : zp_LV), zse_I H0 H → (H.2.1 72 23).toInt = 0 → zp_get lv 0 = some (.inr (.inr (some 73))) → (∃ r, yA2 Tx nx y00 r ∧ r.1 = 0 ∧ ∃ d, yR2 Tx nx y00 (0, [], 0, 0, 0, d, r.2) ∧ ys_kd Tx nx r.2 = 0 ∧ yDr d H ∧ yXd yRl [] d H) → (H.2.1 72 0).toInt = 0 → (H.2.1 72 24).toInt = -1 → (∀ i, H.2.1 82 i = H0.2.1 82 i) → zs_Safe L σ (ysr_P Tx nx H0) zm_169 [] d (212, lv, [], H, (0, 0))
theorem yS_t {T : Nat → Int} {n : Nat} {s0 s1 : yL} {s : Nat → yL} {H : zp_H} (h1 : yR2 T n s0 s1) (h : yS T n s1 s H) : yS T n s0 s H := by
  rcases h with ⟨g, q, hP, hR⟩ | ⟨b, r, hD, hA⟩
  · exact Or.inl ⟨g, q, hP, yR2_t h1 hR⟩
  · exact Or.inr ⟨b, r, hD, yR2_a h1 hA⟩

set_option maxHeartbeats 4000000 in
set_option maxRecDepth 8000 in
theorem ysr_E {L : Nat} {σ : Nat → Int32} {d : Nat} {Tx : Nat → Int} {nx : Nat} {H0 H : zp_H} {lv : zp_LV} (hG : ysr_G Tx nx L σ (d + 12) H0) (hI : zse_I H0 H) (hJy : ysr_J Tx nx H0 H) (hx : ((H.2.1 72 23).toInt ≠ 0 ∨ (H.2.1 72 28).toInt = 0)) (l0 : zp_get lv 0 = some (.inr (.inr (some 73)))) : zs_Safe L σ (ysr_P Tx nx H0) zm_169 [] (d + 12) (190, lv, [], H, (0, 0)) := by
  obtain ⟨hB, hF, h45, h22, hg0⟩ := hI
  obtain ⟨⟨dd, hS, hD⟩, ht0, hz0⟩ := hJy
  have W := zR_Wd (zR_dn hB)
  refine zw_ld (n := 1) (k := 0) (f := zp_isR) (pc' := 191) rfl rfl l0 rfl rfl ?_
  by_cases hg : (H.2.1 72 23).toInt = 0
  · refine zw_c (pc' := 194) (zw_cv (q := 72) (Y := zm_175) W.1 rfl rfl zm_175_t rfl rfl) rfl rfl rfl rfl rfl (zq_good1 W hg) ?_
    refine zw_bne1 (g := 212) (pc' := 197) rfl rfl rfl (rfl : _ = (1 : Int)) (fun hb => ?_) (fun h9 => absurd h9 (by decide))
    refine hG H lv ⟨hB, hF, h45, h22, hg0⟩ hg l0 ?_ ht0 ?_ (fun i => hz0.1 82 i rfl)
    · rcases hS with ⟨_, q, hP, hR⟩ | ⟨h9, _⟩
      · have h28 : (H.2.1 72 28).toInt = yr_s (ys_kd Tx nx q) := hP.2.1.2.2.1
        have hk : ys_kd Tx nx q = 0 := yr_s_0.mp (h28.symm.trans (hx.resolve_left (fun h9 => h9 hg)))
        refine ⟨(0, q), yR2_a hR (yA2_done (yN2_0.trans ?_)), rfl, dd, hR, hk, (hD hg).1.1, (hD hg).1.2⟩
        unfold y0
        rw [if_pos hk]
      · exact absurd hg h9
    · rcases hS with ⟨_, q, hP, hR⟩ | ⟨h9, _⟩
      · exact hP.1.2.2.2.resolve_right (fun h9 => h9 hg)
      · exact absurd hg h9
  · refine zw_c (pc' := 194) (zw_cv (q := 72) (Y := zm_175) W.1 rfl rfl zm_175_t rfl rfl) rfl rfl rfl rfl rfl (zq_good0 W hg) ?_
    refine zw_bne1 (g := 212) (pc' := 197) rfl rfl rfl (rfl : _ = (0 : Int)) (fun h9 => absurd h9 (by decide)) (fun hb => ?_)
    refine zw_ld (n := 1) (k := 0) (f := zp_isR) (pc' := 198) rfl rfl l0 rfl rfl ?_
    refine zw_gR (q := 72) (pc' := 201) W rfl rfl rfl rfl (W.2 72 25 _ rfl) rfl ?_
    refine zw_s (pc' := 202) rfl rfl ?_
    refine zw_s (pc' := 203) rfl rfl ?_
    refine zw_ia (q := 82) (pc' := 204) W rfl rfl (by decide) (⟨by decide, by decide⟩) rfl rfl ?_
    refine zw_s (pc' := 205) rfl rfl ?_
    refine zw_iadd (pc' := 206) rfl rfl ?_
    refine zw_is (q := 82) (pc' := 207) W rfl rfl (by decide) (⟨by decide, by decide⟩) rfl ?_
    refine zw_ld (n := 1) (k := 0) (f := zp_isR) (pc' := 208) rfl rfl l0 rfl rfl ?_
    refine zw_gI (q := 72) (pc' := 211) W rfl rfl rfl rfl (zw_ne rfl rfl) rfl ?_
    refine zw_ri rfl rfl ?_
    have e22 : (zw_I H 82 (Int32.ofInt 0).toInt.toNat (zp_nar 0 (H.2.1 82 (Int32.ofInt 0).toInt.toNat + Int32.ofInt 1))).2.1 72 22 = H.2.1 72 22 := zw_ne rfl rfl
    refine ⟨_, _, rfl, ?_, zf_I hF rfl, by rw [e22]; exact h22, ?_, (congrArg Int32.toInt (zw_ne rfl rfl)).trans ht0⟩
    · exact zR_up (zR_puta (p := 82) (j := 0) (x := zp_nar 0 (H.2.1 82 (Int32.ofInt 0).toInt.toNat + Int32.ofInt 1)) (t := 0) (n := 2) (zR_dn hB) rfl (fun r hr => by cases hr; exact ⟨Int32.le_toInt _, Int32.toInt_le _⟩) (zJ_I rfl hB.2.2.2.2.2.2.2)) (fun h9 => zR_cn (H := H) hB h9)
    · rcases hS with ⟨h9, _⟩ | ⟨_, r, hDr, hA⟩
      · exact absurd h9 hg
      · exact ⟨r, hA, hDr.2.1, fun _ => ⟨(congrArg Int32.toInt (zw_ne rfl rfl)).trans hDr.2.2.2, fun p k hp h82 => (y_ne (fun h9 => h82 h9.1)).trans (hz0.1 p k hp), hz0.2, zw_eq.trans (congrArg (fun z : Int32 => z + Int32.ofInt 1) (hz0.1 82 0 rfl)), (y_ne (fun h9 => absurd h9.2 (by decide))).trans (hz0.1 82 1 rfl)⟩, fun h9 => absurd h9 hDr.2.2.1⟩

set_option maxHeartbeats 4000000 in
set_option maxRecDepth 8000 in
theorem ysr_X {L : Nat} {σ : Nat → Int32} {d : Nat} {Tx : Nat → Int} {nx : Nat} {H0 H : zp_H} {lv : zp_LV} (hG : ysr_G Tx nx L σ (d + 12) H0) (hI : zse_I H0 H) (hJy : ysr_J Tx nx H0 H) (hx : ((H.2.1 72 23).toInt ≠ 0 ∨ (H.2.1 72 28).toInt = 0)) (l0 : zp_get lv 0 = some (.inr (.inr (some 73)))) : zs_Safe L σ (ysr_P Tx nx H0) zm_169 [] (d + 12) (164, lv, [], H, (0, 0)) := by
  have W := zR_Wd (zR_dn hI.1)
  refine zw_ld (n := 1) (k := 0) (f := zp_isR) (pc' := 165) rfl rfl l0 rfl rfl ?_
  by_cases hg : (H.2.1 72 23).toInt = 0
  · refine zw_c (pc' := 168) (zw_cv (q := 72) (Y := zm_175) W.1 rfl rfl zm_175_t rfl rfl) rfl rfl rfl rfl rfl (zq_good1 W hg) ?_
    refine zw_beq1 (g := 190) (pc' := 171) rfl rfl rfl (rfl : _ = (1 : Int)) (fun h9 => absurd h9 (by decide)) (fun hb => ?_)
    refine zw_ld (n := 1) (k := 0) (f := zp_isR) (pc' := 172) rfl rfl l0 rfl rfl ?_
    refine zw_gI (q := 72) (pc' := 175) W rfl rfl rfl rfl rfl rfl ?_
    refine zw_beq1 (g := 190) (pc' := 178) rfl rfl rfl rfl (fun hs => ?_) (fun hs => ?_)
    · exact ysr_E hG hI hJy hx l0
    · rcases hx with hx | hx
      · exact absurd hg hx
      · exact absurd hx hs
  · refine zw_c (pc' := 168) (zw_cv (q := 72) (Y := zm_175) W.1 rfl rfl zm_175_t rfl rfl) rfl rfl rfl rfl rfl (zq_good0 W hg) ?_
    refine zw_beq1 (g := 190) (pc' := 171) rfl rfl rfl (rfl : _ = (0 : Int)) (fun hb => ?_) (fun h9 => absurd h9 (by decide))
    exact ysr_E hG hI hJy hx l0

set_option maxHeartbeats 4000000 in
set_option maxRecDepth 8000 in
theorem ysr_L {L : Nat} {σ : Nat → Int32} {d : Nat} {Tx : Nat → Int} {nx : Nat} {H0 : zp_H} (hby : ∀ k, k < nx → -128 ≤ Tx k ∧ Tx k ≤ 127) (hG : ysr_G Tx nx L σ (d + 12) H0) : ∀ (n : Nat) (H : zp_H) (lv : zp_LV), (1401 - zx_phi H).toNat = n → zse_I H0 H → ysr_J Tx nx H0 H → zp_get lv 0 = some (.inr (.inr (some 73))) → zs_Safe L σ (ysr_P Tx nx H0) zm_169 [] (d + 12) (164, lv, [], H, (0, 0)) := by
  intro n
  induction n using Nat.strongRecOn with
  | ind n ih =>
    intro H lv hn hI hJy l0
    have hI9 := hI
    have hJ9 := hJy
    obtain ⟨hB, hF, h45, h22, hg0⟩ := hI
    obtain ⟨⟨dd, hS, hD⟩, ht0, hz0⟩ := hJy
    have W := zR_Wd (zR_dn hB)
    have pH := zx_phi_le hB
    refine zw_ld (n := 1) (k := 0) (f := zp_isR) (pc' := 165) rfl rfl l0 rfl rfl ?_
    by_cases hg : (H.2.1 72 23).toInt = 0
    · refine zw_c (pc' := 168) (zw_cv (q := 72) (Y := zm_175) W.1 rfl rfl zm_175_t rfl rfl) rfl rfl rfl rfl rfl (zq_good1 W hg) ?_
      refine zw_beq1 (g := 190) (pc' := 171) rfl rfl rfl (rfl : _ = (1 : Int)) (fun h9 => absurd h9 (by decide)) (fun hb => ?_)
      refine zw_ld (n := 1) (k := 0) (f := zp_isR) (pc' := 172) rfl rfl l0 rfl rfl ?_
      refine zw_gI (q := 72) (pc' := 175) W rfl rfl rfl rfl rfl rfl ?_
      refine zw_beq1 (g := 190) (pc' := 178) rfl rfl rfl rfl (fun hs => ?_) (fun hs => ?_)
      · exact ysr_E hG hI9 hJ9 (Or.inr hs) l0
      · obtain ⟨j1, j2⟩ := hg0 hg
        obtain ⟨K, c1, c2, cF, c3, c4, c5⟩ := zl_line (L := L) (σ := σ) (d := d) hB hg hs j1 (j2 hs)
        have WK := zR_Wd (zR_dn c2)
        have f : ∀ k, Nat.beq k 50 = false → (zw_I K 72 50 (Int32.ofInt 0)).2.1 72 k = K.2.1 72 k := fun k hk => zw_ne rfl (by rw [hk]; rfl)
        have hphi : zx_phi (zw_I K 72 50 (Int32.ofInt 0)) = zx_phi K := zx_phi_e (f 27 rfl) (f 28 rfl)
        have hIK : zse_I H0 (zw_I K 72 50 (Int32.ofInt 0)) := by
          refine ⟨zR_up (zR_putf (k := 50) (x := Int32.ofInt 0) (zR_dn c2) (fun r hr => by cases hr; exact ⟨by decide, by decide⟩) rfl (zJ_I rfl c2.2.2.2.2.2.2.2)) (fun h9 => zR_cn (H := K) c2 h9), zf_I (zf_t hF cF) rfl, by rw [f 45 rfl]; exact c3, by rw [f 22 rfl]; omega, ?_⟩
          rw [f 23 rfl, f 28 rfl, f 45 rfl, hphi]
          intro h9
          exact ⟨(c5 h9).1, fun h8 => ((c5 h9).2 h8).1⟩
        have hJK : ysr_J Tx nx H0 (zw_I K 72 50 (Int32.ofInt 0)) := by
          refine ⟨?_, by rw [f 0 rfl, ykF_line W c1]; exact ht0, yQr_I (yQr_t hz0 (yQr_line hB hg j1 (j2 hs) c1)) rfl⟩
          rcases hS with ⟨_, q, hP, hR⟩ | ⟨h9, _⟩
          · have h28 : (H.2.1 72 28).toInt = yr_s (ys_kd Tx nx q) := hP.2.1.2.2.1
            have hk : ys_kd Tx nx q ≠ 0 := fun h9 => hs (h28.trans (yr_s_0.mpr h9))
            obtain ⟨_, l1, K9, rfl, l2, d', l3, l4⟩ := yx_line (L := L) (σ := σ) (d := d) zx_KWt hby hB hg hP (hD hg).1.1 (hD hg).1.2 (hD hg).2 hk (j2 hs)
            have e := zp_Call_u c1 l1
            have e : K = K9 := by cases e; rfl
            subst e
            exact ⟨d', yS_f (k := 50) (by decide) (yS_t hR l3), fun h9 => ⟨⟨yDr_42 (k := 50) (by decide) (l4 h9).1.1, yXr_o (by decide) (l4 h9).1.2⟩, (l4 h9).2.symm⟩⟩
          · exact absurd hg h9
        refine zw_ld (n := 1) (k := 0) (f := zp_isR) (pc' := 179) rfl rfl l0 rfl rfl ?_
        refine zw_cn (pc' := 182) (zw_cv (q := 72) (Y := zm_176) W.1 rfl rfl zm_176_t rfl rfl) rfl rfl rfl rfl rfl (c1) ?_
        refine zw_ld (n := 1) (k := 0) (f := zp_isR) (pc' := 183) rfl rfl l0 rfl rfl ?_
        refine zw_s (pc' := 184) rfl rfl ?_
        refine zw_pI (q := 72) (pc' := 187) WK rfl rfl rfl rfl (rfl) rfl ?_
        refine zw_s (pc' := 164) rfl rfl ?_
        by_cases h1 : (K.2.1 72 23).toInt = 0
        · by_cases h2 : (K.2.1 72 28).toInt = 0
          · exact ysr_X hG hIK hJK (Or.inr (by rw [f 28 rfl]; exact h2)) l0
          · have pK := zx_phi_le c2
            have h3 := ((c5 h1).2 h2).2
            exact ih (1401 - zx_phi (zw_I K 72 50 (Int32.ofInt 0))).toNat (by rw [hphi]; omega) _ _ rfl hIK hJK l0
        · exact ysr_X hG hIK hJK (Or.inl (by rw [f 23 rfl]; exact h1)) l0
    · refine zw_c (pc' := 168) (zw_cv (q := 72) (Y := zm_175) W.1 rfl rfl zm_175_t rfl rfl) rfl rfl rfl rfl rfl (zq_good0 W hg) ?_
      refine zw_beq1 (g := 190) (pc' := 171) rfl rfl rfl (rfl : _ = (0 : Int)) (fun hb => ?_) (fun h9 => absurd h9 (by decide))
      exact ysr_E hG hI9 hJ9 (Or.inl hg) l0

set_option maxHeartbeats 1000000 in
set_option maxRecDepth 8000 in
theorem ysr_fin {L : Nat} {σ : Nat → Int32} {d : Nat} {Tx : Nat → Int} {nx : Nat} {H0 : zp_H} : ysr_G Tx nx L σ (d + 1) H0 := by
  intro H lv hI hg l0 hr0 ht0 hp0 h82
  obtain ⟨hB, hF, h45, h22, hg0⟩ := hI
  obtain ⟨hJn, _⟩ := hg0 hg
  have hJ := hB.2.2.2.2.2.2.2
  have hcc := zR_cn hB hg
  have W := zR_Wd (zR_dn hB)
  have b0 := zT_dn hB
  have d0 := zT_putf (k := 1) (x := H.2.1 72 34) b0 (fun r hr => by cases hr; exact hcc.1) rfl trivial
  have d1 := zT_putf (k := 2) (x := H.2.1 72 35) d0 (fun r hr => by cases hr; exact hcc.2) rfl trivial
  have d2 := zT_putf (k := 3) (x := H.2.1 72 36) d1 (fun r hr => by cases hr) rfl trivial
  have d3 := zT_putf (k := 4) (x := H.2.1 72 37) d2 (fun r hr => by cases hr) rfl trivial
  have d4 := zT_putf (k := 5) (x := H.2.1 72 38) d3 (fun r hr => by cases hr; exact zT_fr1 b0 (k := 38) (r := (0, 8)) rfl rfl) rfl trivial
  have d5 := zT_putf (k := 6) (x := H.2.1 72 39) d4 (fun r hr => by cases hr; exact zT_fr1 b0 (k := 39) (r := (0, 5)) rfl rfl) rfl trivial
  have d6 := zT_putf (k := 7) (x := H.2.1 72 40) d5 (fun r hr => by cases hr; exact zT_fr1 b0 (k := 40) (r := (0, 4)) rfl rfl) rfl trivial
  have d7 := zT_putf (k := 8) (x := H.2.1 72 41) d6 (fun r hr => by cases hr; exact zT_fr1 b0 (k := 41) (r := (0, 8)) rfl rfl) rfl trivial
  have d8 := zT_putf (k := 9) (x := H.2.1 72 42) d7 (fun r hr => by cases hr; exact zT_fr1 b0 (k := 42) (r := (0, 63)) rfl rfl) rfl trivial
  have d9 := zT_putf (k := 10) (x := H.2.1 72 43) d8 (fun r hr => by cases hr) rfl trivial
  have d10 := zT_putf (k := 11) (x := H.2.1 72 44) d9 (fun r hr => by cases hr) rfl trivial
  have dJ := zT_J (x := (zw_I (zw_I (zw_I (zw_I (zw_I (zw_I (zw_I (zw_I (zw_I (zw_I (zw_I (H) 72 1 (H.2.1 72 34)) 72 2 (H.2.1 72 35)) 72 3 (H.2.1 72 36)) 72 4 (H.2.1 72 37)) 72 5 (H.2.1 72 38)) 72 6 (H.2.1 72 39)) 72 7 (H.2.1 72 40)) 72 8 (H.2.1 72 41)) 72 9 (H.2.1 72 42)) 72 10 (H.2.1 72 43)) 72 11 (H.2.1 72 44)).2.2.1 72 51) d10
  refine zw_ld (n := 1) (k := 0) (f := zp_isR) (pc' := 213) rfl rfl l0 rfl rfl ?_
  refine zw_ld (n := 1) (k := 0) (f := zp_isR) (pc' := 214) rfl rfl l0 rfl rfl ?_
  refine zw_gI (q := 72) (pc' := 217) W rfl rfl rfl rfl rfl rfl ?_
  refine zw_pI (q := 72) (pc' := 220) W rfl rfl rfl rfl rfl rfl ?_
  refine zw_ld (n := 1) (k := 0) (f := zp_isR) (pc' := 221) rfl rfl l0 rfl rfl ?_
  refine zw_ld (n := 1) (k := 0) (f := zp_isR) (pc' := 222) rfl rfl l0 rfl rfl ?_
  refine zw_gI (q := 72) (pc' := 225) W rfl rfl rfl rfl (zw_ne rfl rfl) rfl ?_
  refine zw_pI (q := 72) (pc' := 228) W rfl rfl rfl rfl rfl rfl ?_
  refine zw_ld (n := 1) (k := 0) (f := zp_isR) (pc' := 229) rfl rfl l0 rfl rfl ?_
  refine zw_ld (n := 1) (k := 0) (f := zp_isR) (pc' := 230) rfl rfl l0 rfl rfl ?_
  refine zw_gI (q := 72) (pc' := 233) W rfl rfl rfl rfl (zw_ne (zw_ne rfl rfl) rfl) rfl ?_
  refine zw_pI (q := 72) (pc' := 236) W rfl rfl rfl rfl rfl rfl ?_
  refine zw_ld (n := 1) (k := 0) (f := zp_isR) (pc' := 237) rfl rfl l0 rfl rfl ?_
  refine zw_ld (n := 1) (k := 0) (f := zp_isR) (pc' := 238) rfl rfl l0 rfl rfl ?_
  refine zw_gI (q := 72) (pc' := 241) W rfl rfl rfl rfl (zw_ne (zw_ne (zw_ne rfl rfl) rfl) rfl) rfl ?_
  refine zw_pI (q := 72) (pc' := 244) W rfl rfl rfl rfl rfl rfl ?_
  refine zw_ld (n := 1) (k := 0) (f := zp_isR) (pc' := 245) rfl rfl l0 rfl rfl ?_
  refine zw_ld (n := 1) (k := 0) (f := zp_isR) (pc' := 246) rfl rfl l0 rfl rfl ?_
  refine zw_gI (q := 72) (pc' := 249) W rfl rfl rfl rfl (zw_ne (zw_ne (zw_ne (zw_ne rfl rfl) rfl) rfl) rfl) rfl ?_
  refine zw_pI (q := 72) (pc' := 252) W rfl rfl rfl rfl rfl rfl ?_
  refine zw_ld (n := 1) (k := 0) (f := zp_isR) (pc' := 253) rfl rfl l0 rfl rfl ?_
  refine zw_ld (n := 1) (k := 0) (f := zp_isR) (pc' := 254) rfl rfl l0 rfl rfl ?_
  refine zw_gI (q := 72) (pc' := 257) W rfl rfl rfl rfl (zw_ne (zw_ne (zw_ne (zw_ne (zw_ne rfl rfl) rfl) rfl) rfl) rfl) rfl ?_
  refine zw_pI (q := 72) (pc' := 260) W rfl rfl rfl rfl rfl rfl ?_
  refine zw_ld (n := 1) (k := 0) (f := zp_isR) (pc' := 261) rfl rfl l0 rfl rfl ?_
  refine zw_ld (n := 1) (k := 0) (f := zp_isR) (pc' := 262) rfl rfl l0 rfl rfl ?_
  refine zw_gI (q := 72) (pc' := 265) W rfl rfl rfl rfl (zw_ne (zw_ne (zw_ne (zw_ne (zw_ne (zw_ne rfl rfl) rfl) rfl) rfl) rfl) rfl) rfl ?_
  refine zw_pI (q := 72) (pc' := 268) W rfl rfl rfl rfl rfl rfl ?_
  refine zw_ld (n := 1) (k := 0) (f := zp_isR) (pc' := 269) rfl rfl l0 rfl rfl ?_
  refine zw_ld (n := 1) (k := 0) (f := zp_isR) (pc' := 270) rfl rfl l0 rfl rfl ?_
  refine zw_gI (q := 72) (pc' := 273) W rfl rfl rfl rfl (zw_ne (zw_ne (zw_ne (zw_ne (zw_ne (zw_ne (zw_ne rfl rfl) rfl) rfl) rfl) rfl) rfl) rfl) rfl ?_
  refine zw_pI (q := 72) (pc' := 276) W rfl rfl rfl rfl rfl rfl ?_
  refine zw_ld (n := 1) (k := 0) (f := zp_isR) (pc' := 277) rfl rfl l0 rfl rfl ?_
  refine zw_ld (n := 1) (k := 0) (f := zp_isR) (pc' := 278) rfl rfl l0 rfl rfl ?_
  refine zw_gI (q := 72) (pc' := 281) W rfl rfl rfl rfl (zw_ne (zw_ne (zw_ne (zw_ne (zw_ne (zw_ne (zw_ne (zw_ne rfl rfl) rfl) rfl) rfl) rfl) rfl) rfl) rfl) rfl ?_
  refine zw_pI (q := 72) (pc' := 284) W rfl rfl rfl rfl rfl rfl ?_
  refine zw_ld (n := 1) (k := 0) (f := zp_isR) (pc' := 285) rfl rfl l0 rfl rfl ?_
  refine zw_ld (n := 1) (k := 0) (f := zp_isR) (pc' := 286) rfl rfl l0 rfl rfl ?_
  refine zw_gI (q := 72) (pc' := 289) W rfl rfl rfl rfl (zw_ne (zw_ne (zw_ne (zw_ne (zw_ne (zw_ne (zw_ne (zw_ne (zw_ne rfl rfl) rfl) rfl) rfl) rfl) rfl) rfl) rfl) rfl) rfl ?_
  refine zw_pI (q := 72) (pc' := 292) W rfl rfl rfl rfl rfl rfl ?_
  refine zw_ld (n := 1) (k := 0) (f := zp_isR) (pc' := 293) rfl rfl l0 rfl rfl ?_
  refine zw_ld (n := 1) (k := 0) (f := zp_isR) (pc' := 294) rfl rfl l0 rfl rfl ?_
  refine zw_gI (q := 72) (pc' := 297) W rfl rfl rfl rfl (zw_ne (zw_ne (zw_ne (zw_ne (zw_ne (zw_ne (zw_ne (zw_ne (zw_ne (zw_ne rfl rfl) rfl) rfl) rfl) rfl) rfl) rfl) rfl) rfl) rfl) rfl ?_
  refine zw_pI (q := 72) (pc' := 300) W rfl rfl rfl rfl rfl rfl ?_
  refine zw_ld (n := 1) (k := 0) (f := zp_isR) (pc' := 301) rfl rfl l0 rfl rfl ?_
  refine zw_ld (n := 1) (k := 0) (f := zp_isR) (pc' := 302) rfl rfl l0 rfl rfl ?_
  refine zw_gL (q := 72) (pc' := 305) W rfl rfl rfl rfl rfl ?_
  refine zw_pL (q := 72) (pc' := 308) W rfl rfl rfl rfl rfl rfl ?_
  have F1 : zf_72 H0 (zw_J (zw_I (zw_I (zw_I (zw_I (zw_I (zw_I (zw_I (zw_I (zw_I (zw_I (zw_I (H) 72 1 (H.2.1 72 34)) 72 2 (H.2.1 72 35)) 72 3 (H.2.1 72 36)) 72 4 (H.2.1 72 37)) 72 5 (H.2.1 72 38)) 72 6 (H.2.1 72 39)) 72 7 (H.2.1 72 40)) 72 8 (H.2.1 72 41)) 72 9 (H.2.1 72 42)) 72 10 (H.2.1 72 43)) 72 11 (H.2.1 72 44)) 72 12 ((zw_I (zw_I (zw_I (zw_I (zw_I (zw_I (zw_I (zw_I (zw_I (zw_I (zw_I (H) 72 1 (H.2.1 72 34)) 72 2 (H.2.1 72 35)) 72 3 (H.2.1 72 36)) 72 4 (H.2.1 72 37)) 72 5 (H.2.1 72 38)) 72 6 (H.2.1 72 39)) 72 7 (H.2.1 72 40)) 72 8 (H.2.1 72 41)) 72 9 (H.2.1 72 42)) 72 10 (H.2.1 72 43)) 72 11 (H.2.1 72 44)).2.2.1 72 51)) := zf_J (zf_I (zf_I (zf_I (zf_I (zf_I (zf_I (zf_I (zf_I (zf_I (zf_I (zf_I (hF) rfl) rfl) rfl) rfl) rfl) rfl) rfl) rfl) rfl) rfl) rfl) rfl
  have g8 : (zw_J (zw_I (zw_I (zw_I (zw_I (zw_I (zw_I (zw_I (zw_I (zw_I (zw_I (zw_I (H) 72 1 (H.2.1 72 34)) 72 2 (H.2.1 72 35)) 72 3 (H.2.1 72 36)) 72 4 (H.2.1 72 37)) 72 5 (H.2.1 72 38)) 72 6 (H.2.1 72 39)) 72 7 (H.2.1 72 40)) 72 8 (H.2.1 72 41)) 72 9 (H.2.1 72 42)) 72 10 (H.2.1 72 43)) 72 11 (H.2.1 72 44)) 72 12 ((zw_I (zw_I (zw_I (zw_I (zw_I (zw_I (zw_I (zw_I (zw_I (zw_I (zw_I (H) 72 1 (H.2.1 72 34)) 72 2 (H.2.1 72 35)) 72 3 (H.2.1 72 36)) 72 4 (H.2.1 72 37)) 72 5 (H.2.1 72 38)) 72 6 (H.2.1 72 39)) 72 7 (H.2.1 72 40)) 72 8 (H.2.1 72 41)) 72 9 (H.2.1 72 42)) 72 10 (H.2.1 72 43)) 72 11 (H.2.1 72 44)).2.2.1 72 51)).2.1 72 8 = H.2.1 72 41 := zw_nj (zw_ne (zw_ne (zw_ne zw_eq rfl) rfl) rfl)
  have gk : ∀ k, 12 ≤ k → (zw_J (zw_I (zw_I (zw_I (zw_I (zw_I (zw_I (zw_I (zw_I (zw_I (zw_I (zw_I (H) 72 1 (H.2.1 72 34)) 72 2 (H.2.1 72 35)) 72 3 (H.2.1 72 36)) 72 4 (H.2.1 72 37)) 72 5 (H.2.1 72 38)) 72 6 (H.2.1 72 39)) 72 7 (H.2.1 72 40)) 72 8 (H.2.1 72 41)) 72 9 (H.2.1 72 42)) 72 10 (H.2.1 72 43)) 72 11 (H.2.1 72 44)) 72 12 ((zw_I (zw_I (zw_I (zw_I (zw_I (zw_I (zw_I (zw_I (zw_I (zw_I (zw_I (H) 72 1 (H.2.1 72 34)) 72 2 (H.2.1 72 35)) 72 3 (H.2.1 72 36)) 72 4 (H.2.1 72 37)) 72 5 (H.2.1 72 38)) 72 6 (H.2.1 72 39)) 72 7 (H.2.1 72 40)) 72 8 (H.2.1 72 41)) 72 9 (H.2.1 72 42)) 72 10 (H.2.1 72 43)) 72 11 (H.2.1 72 44)).2.2.1 72 51)).2.1 72 k = H.2.1 72 k := fun k hk => (by exact zse_k hk)
  have gp : ∀ p, p ≠ 72 → (zw_J (zw_I (zw_I (zw_I (zw_I (zw_I (zw_I (zw_I (zw_I (zw_I (zw_I (zw_I (H) 72 1 (H.2.1 72 34)) 72 2 (H.2.1 72 35)) 72 3 (H.2.1 72 36)) 72 4 (H.2.1 72 37)) 72 5 (H.2.1 72 38)) 72 6 (H.2.1 72 39)) 72 7 (H.2.1 72 40)) 72 8 (H.2.1 72 41)) 72 9 (H.2.1 72 42)) 72 10 (H.2.1 72 43)) 72 11 (H.2.1 72 44)) 72 12 ((zw_I (zw_I (zw_I (zw_I (zw_I (zw_I (zw_I (zw_I (zw_I (zw_I (zw_I (H) 72 1 (H.2.1 72 34)) 72 2 (H.2.1 72 35)) 72 3 (H.2.1 72 36)) 72 4 (H.2.1 72 37)) 72 5 (H.2.1 72 38)) 72 6 (H.2.1 72 39)) 72 7 (H.2.1 72 40)) 72 8 (H.2.1 72 41)) 72 9 (H.2.1 72 42)) 72 10 (H.2.1 72 43)) 72 11 (H.2.1 72 44)).2.2.1 72 51)).2.1 p = H.2.1 p := fun p hp => funext (fun i => zse_p hp)
  have WK : zw_W (zw_J (zw_I (zw_I (zw_I (zw_I (zw_I (zw_I (zw_I (zw_I (zw_I (zw_I (zw_I (H) 72 1 (H.2.1 72 34)) 72 2 (H.2.1 72 35)) 72 3 (H.2.1 72 36)) 72 4 (H.2.1 72 37)) 72 5 (H.2.1 72 38)) 72 6 (H.2.1 72 39)) 72 7 (H.2.1 72 40)) 72 8 (H.2.1 72 41)) 72 9 (H.2.1 72 42)) 72 10 (H.2.1 72 43)) 72 11 (H.2.1 72 44)) 72 12 ((zw_I (zw_I (zw_I (zw_I (zw_I (zw_I (zw_I (zw_I (zw_I (zw_I (zw_I (H) 72 1 (H.2.1 72 34)) 72 2 (H.2.1 72 35)) 72 3 (H.2.1 72 36)) 72 4 (H.2.1 72 37)) 72 5 (H.2.1 72 38)) 72 6 (H.2.1 72 39)) 72 7 (H.2.1 72 40)) 72 8 (H.2.1 72 41)) 72 9 (H.2.1 72 42)) 72 10 (H.2.1 72 43)) 72 11 (H.2.1 72 44)).2.2.1 72 51)) := W
  have gk1 : (zw_J (zw_I (zw_I (zw_I (zw_I (zw_I (zw_I (zw_I (zw_I (zw_I (zw_I (zw_I (H) 72 1 (H.2.1 72 34)) 72 2 (H.2.1 72 35)) 72 3 (H.2.1 72 36)) 72 4 (H.2.1 72 37)) 72 5 (H.2.1 72 38)) 72 6 (H.2.1 72 39)) 72 7 (H.2.1 72 40)) 72 8 (H.2.1 72 41)) 72 9 (H.2.1 72 42)) 72 10 (H.2.1 72 43)) 72 11 (H.2.1 72 44)) 72 12 ((zw_I (zw_I (zw_I (zw_I (zw_I (zw_I (zw_I (zw_I (zw_I (zw_I (zw_I (H) 72 1 (H.2.1 72 34)) 72 2 (H.2.1 72 35)) 72 3 (H.2.1 72 36)) 72 4 (H.2.1 72 37)) 72 5 (H.2.1 72 38)) 72 6 (H.2.1 72 39)) 72 7 (H.2.1 72 40)) 72 8 (H.2.1 72 41)) 72 9 (H.2.1 72 42)) 72 10 (H.2.1 72 43)) 72 11 (H.2.1 72 44)).2.2.1 72 51)).2.1 72 1 = H.2.1 72 34 := zw_nj (zw_ne (zw_ne (zw_ne (zw_ne (zw_ne (zw_ne (zw_ne (zw_ne (zw_ne (zw_ne zw_eq rfl) rfl) rfl) rfl) rfl) rfl) rfl) rfl) rfl) rfl)
  have gk2 : (zw_J (zw_I (zw_I (zw_I (zw_I (zw_I (zw_I (zw_I (zw_I (zw_I (zw_I (zw_I (H) 72 1 (H.2.1 72 34)) 72 2 (H.2.1 72 35)) 72 3 (H.2.1 72 36)) 72 4 (H.2.1 72 37)) 72 5 (H.2.1 72 38)) 72 6 (H.2.1 72 39)) 72 7 (H.2.1 72 40)) 72 8 (H.2.1 72 41)) 72 9 (H.2.1 72 42)) 72 10 (H.2.1 72 43)) 72 11 (H.2.1 72 44)) 72 12 ((zw_I (zw_I (zw_I (zw_I (zw_I (zw_I (zw_I (zw_I (zw_I (zw_I (zw_I (H) 72 1 (H.2.1 72 34)) 72 2 (H.2.1 72 35)) 72 3 (H.2.1 72 36)) 72 4 (H.2.1 72 37)) 72 5 (H.2.1 72 38)) 72 6 (H.2.1 72 39)) 72 7 (H.2.1 72 40)) 72 8 (H.2.1 72 41)) 72 9 (H.2.1 72 42)) 72 10 (H.2.1 72 43)) 72 11 (H.2.1 72 44)).2.2.1 72 51)).2.1 72 2 = H.2.1 72 35 := zw_nj (zw_ne (zw_ne (zw_ne (zw_ne (zw_ne (zw_ne (zw_ne (zw_ne (zw_ne zw_eq rfl) rfl) rfl) rfl) rfl) rfl) rfl) rfl) rfl)
  have gk3 : (zw_J (zw_I (zw_I (zw_I (zw_I (zw_I (zw_I (zw_I (zw_I (zw_I (zw_I (zw_I (H) 72 1 (H.2.1 72 34)) 72 2 (H.2.1 72 35)) 72 3 (H.2.1 72 36)) 72 4 (H.2.1 72 37)) 72 5 (H.2.1 72 38)) 72 6 (H.2.1 72 39)) 72 7 (H.2.1 72 40)) 72 8 (H.2.1 72 41)) 72 9 (H.2.1 72 42)) 72 10 (H.2.1 72 43)) 72 11 (H.2.1 72 44)) 72 12 ((zw_I (zw_I (zw_I (zw_I (zw_I (zw_I (zw_I (zw_I (zw_I (zw_I (zw_I (H) 72 1 (H.2.1 72 34)) 72 2 (H.2.1 72 35)) 72 3 (H.2.1 72 36)) 72 4 (H.2.1 72 37)) 72 5 (H.2.1 72 38)) 72 6 (H.2.1 72 39)) 72 7 (H.2.1 72 40)) 72 8 (H.2.1 72 41)) 72 9 (H.2.1 72 42)) 72 10 (H.2.1 72 43)) 72 11 (H.2.1 72 44)).2.2.1 72 51)).2.1 72 3 = H.2.1 72 36 := zw_nj (zw_ne (zw_ne (zw_ne (zw_ne (zw_ne (zw_ne (zw_ne (zw_ne zw_eq rfl) rfl) rfl) rfl) rfl) rfl) rfl) rfl)
  have gk4 : (zw_J (zw_I (zw_I (zw_I (zw_I (zw_I (zw_I (zw_I (zw_I (zw_I (zw_I (zw_I (H) 72 1 (H.2.1 72 34)) 72 2 (H.2.1 72 35)) 72 3 (H.2.1 72 36)) 72 4 (H.2.1 72 37)) 72 5 (H.2.1 72 38)) 72 6 (H.2.1 72 39)) 72 7 (H.2.1 72 40)) 72 8 (H.2.1 72 41)) 72 9 (H.2.1 72 42)) 72 10 (H.2.1 72 43)) 72 11 (H.2.1 72 44)) 72 12 ((zw_I (zw_I (zw_I (zw_I (zw_I (zw_I (zw_I (zw_I (zw_I (zw_I (zw_I (H) 72 1 (H.2.1 72 34)) 72 2 (H.2.1 72 35)) 72 3 (H.2.1 72 36)) 72 4 (H.2.1 72 37)) 72 5 (H.2.1 72 38)) 72 6 (H.2.1 72 39)) 72 7 (H.2.1 72 40)) 72 8 (H.2.1 72 41)) 72 9 (H.2.1 72 42)) 72 10 (H.2.1 72 43)) 72 11 (H.2.1 72 44)).2.2.1 72 51)).2.1 72 4 = H.2.1 72 37 := zw_nj (zw_ne (zw_ne (zw_ne (zw_ne (zw_ne (zw_ne (zw_ne zw_eq rfl) rfl) rfl) rfl) rfl) rfl) rfl)
  have gk5 : (zw_J (zw_I (zw_I (zw_I (zw_I (zw_I (zw_I (zw_I (zw_I (zw_I (zw_I (zw_I (H) 72 1 (H.2.1 72 34)) 72 2 (H.2.1 72 35)) 72 3 (H.2.1 72 36)) 72 4 (H.2.1 72 37)) 72 5 (H.2.1 72 38)) 72 6 (H.2.1 72 39)) 72 7 (H.2.1 72 40)) 72 8 (H.2.1 72 41)) 72 9 (H.2.1 72 42)) 72 10 (H.2.1 72 43)) 72 11 (H.2.1 72 44)) 72 12 ((zw_I (zw_I (zw_I (zw_I (zw_I (zw_I (zw_I (zw_I (zw_I (zw_I (zw_I (H) 72 1 (H.2.1 72 34)) 72 2 (H.2.1 72 35)) 72 3 (H.2.1 72 36)) 72 4 (H.2.1 72 37)) 72 5 (H.2.1 72 38)) 72 6 (H.2.1 72 39)) 72 7 (H.2.1 72 40)) 72 8 (H.2.1 72 41)) 72 9 (H.2.1 72 42)) 72 10 (H.2.1 72 43)) 72 11 (H.2.1 72 44)).2.2.1 72 51)).2.1 72 5 = H.2.1 72 38 := zw_nj (zw_ne (zw_ne (zw_ne (zw_ne (zw_ne (zw_ne zw_eq rfl) rfl) rfl) rfl) rfl) rfl)
  have gk6 : (zw_J (zw_I (zw_I (zw_I (zw_I (zw_I (zw_I (zw_I (zw_I (zw_I (zw_I (zw_I (H) 72 1 (H.2.1 72 34)) 72 2 (H.2.1 72 35)) 72 3 (H.2.1 72 36)) 72 4 (H.2.1 72 37)) 72 5 (H.2.1 72 38)) 72 6 (H.2.1 72 39)) 72 7 (H.2.1 72 40)) 72 8 (H.2.1 72 41)) 72 9 (H.2.1 72 42)) 72 10 (H.2.1 72 43)) 72 11 (H.2.1 72 44)) 72 12 ((zw_I (zw_I (zw_I (zw_I (zw_I (zw_I (zw_I (zw_I (zw_I (zw_I (zw_I (H) 72 1 (H.2.1 72 34)) 72 2 (H.2.1 72 35)) 72 3 (H.2.1 72 36)) 72 4 (H.2.1 72 37)) 72 5 (H.2.1 72 38)) 72 6 (H.2.1 72 39)) 72 7 (H.2.1 72 40)) 72 8 (H.2.1 72 41)) 72 9 (H.2.1 72 42)) 72 10 (H.2.1 72 43)) 72 11 (H.2.1 72 44)).2.2.1 72 51)).2.1 72 6 = H.2.1 72 39 := zw_nj (zw_ne (zw_ne (zw_ne (zw_ne (zw_ne zw_eq rfl) rfl) rfl) rfl) rfl)
  have gk7 : (zw_J (zw_I (zw_I (zw_I (zw_I (zw_I (zw_I (zw_I (zw_I (zw_I (zw_I (zw_I (H) 72 1 (H.2.1 72 34)) 72 2 (H.2.1 72 35)) 72 3 (H.2.1 72 36)) 72 4 (H.2.1 72 37)) 72 5 (H.2.1 72 38)) 72 6 (H.2.1 72 39)) 72 7 (H.2.1 72 40)) 72 8 (H.2.1 72 41)) 72 9 (H.2.1 72 42)) 72 10 (H.2.1 72 43)) 72 11 (H.2.1 72 44)) 72 12 ((zw_I (zw_I (zw_I (zw_I (zw_I (zw_I (zw_I (zw_I (zw_I (zw_I (zw_I (H) 72 1 (H.2.1 72 34)) 72 2 (H.2.1 72 35)) 72 3 (H.2.1 72 36)) 72 4 (H.2.1 72 37)) 72 5 (H.2.1 72 38)) 72 6 (H.2.1 72 39)) 72 7 (H.2.1 72 40)) 72 8 (H.2.1 72 41)) 72 9 (H.2.1 72 42)) 72 10 (H.2.1 72 43)) 72 11 (H.2.1 72 44)).2.2.1 72 51)).2.1 72 7 = H.2.1 72 40 := zw_nj (zw_ne (zw_ne (zw_ne (zw_ne zw_eq rfl) rfl) rfl) rfl)
  have gk8 : (zw_J (zw_I (zw_I (zw_I (zw_I (zw_I (zw_I (zw_I (zw_I (zw_I (zw_I (zw_I (H) 72 1 (H.2.1 72 34)) 72 2 (H.2.1 72 35)) 72 3 (H.2.1 72 36)) 72 4 (H.2.1 72 37)) 72 5 (H.2.1 72 38)) 72 6 (H.2.1 72 39)) 72 7 (H.2.1 72 40)) 72 8 (H.2.1 72 41)) 72 9 (H.2.1 72 42)) 72 10 (H.2.1 72 43)) 72 11 (H.2.1 72 44)) 72 12 ((zw_I (zw_I (zw_I (zw_I (zw_I (zw_I (zw_I (zw_I (zw_I (zw_I (zw_I (H) 72 1 (H.2.1 72 34)) 72 2 (H.2.1 72 35)) 72 3 (H.2.1 72 36)) 72 4 (H.2.1 72 37)) 72 5 (H.2.1 72 38)) 72 6 (H.2.1 72 39)) 72 7 (H.2.1 72 40)) 72 8 (H.2.1 72 41)) 72 9 (H.2.1 72 42)) 72 10 (H.2.1 72 43)) 72 11 (H.2.1 72 44)).2.2.1 72 51)).2.1 72 8 = H.2.1 72 41 := zw_nj (zw_ne (zw_ne (zw_ne zw_eq rfl) rfl) rfl)
  have gk9 : (zw_J (zw_I (zw_I (zw_I (zw_I (zw_I (zw_I (zw_I (zw_I (zw_I (zw_I (zw_I (H) 72 1 (H.2.1 72 34)) 72 2 (H.2.1 72 35)) 72 3 (H.2.1 72 36)) 72 4 (H.2.1 72 37)) 72 5 (H.2.1 72 38)) 72 6 (H.2.1 72 39)) 72 7 (H.2.1 72 40)) 72 8 (H.2.1 72 41)) 72 9 (H.2.1 72 42)) 72 10 (H.2.1 72 43)) 72 11 (H.2.1 72 44)) 72 12 ((zw_I (zw_I (zw_I (zw_I (zw_I (zw_I (zw_I (zw_I (zw_I (zw_I (zw_I (H) 72 1 (H.2.1 72 34)) 72 2 (H.2.1 72 35)) 72 3 (H.2.1 72 36)) 72 4 (H.2.1 72 37)) 72 5 (H.2.1 72 38)) 72 6 (H.2.1 72 39)) 72 7 (H.2.1 72 40)) 72 8 (H.2.1 72 41)) 72 9 (H.2.1 72 42)) 72 10 (H.2.1 72 43)) 72 11 (H.2.1 72 44)).2.2.1 72 51)).2.1 72 9 = H.2.1 72 42 := zw_nj (zw_ne (zw_ne zw_eq rfl) rfl)
  have gk10 : (zw_J (zw_I (zw_I (zw_I (zw_I (zw_I (zw_I (zw_I (zw_I (zw_I (zw_I (zw_I (H) 72 1 (H.2.1 72 34)) 72 2 (H.2.1 72 35)) 72 3 (H.2.1 72 36)) 72 4 (H.2.1 72 37)) 72 5 (H.2.1 72 38)) 72 6 (H.2.1 72 39)) 72 7 (H.2.1 72 40)) 72 8 (H.2.1 72 41)) 72 9 (H.2.1 72 42)) 72 10 (H.2.1 72 43)) 72 11 (H.2.1 72 44)) 72 12 ((zw_I (zw_I (zw_I (zw_I (zw_I (zw_I (zw_I (zw_I (zw_I (zw_I (zw_I (H) 72 1 (H.2.1 72 34)) 72 2 (H.2.1 72 35)) 72 3 (H.2.1 72 36)) 72 4 (H.2.1 72 37)) 72 5 (H.2.1 72 38)) 72 6 (H.2.1 72 39)) 72 7 (H.2.1 72 40)) 72 8 (H.2.1 72 41)) 72 9 (H.2.1 72 42)) 72 10 (H.2.1 72 43)) 72 11 (H.2.1 72 44)).2.2.1 72 51)).2.1 72 10 = H.2.1 72 43 := zw_nj (zw_ne zw_eq rfl)
  have gk11 : (zw_J (zw_I (zw_I (zw_I (zw_I (zw_I (zw_I (zw_I (zw_I (zw_I (zw_I (zw_I (H) 72 1 (H.2.1 72 34)) 72 2 (H.2.1 72 35)) 72 3 (H.2.1 72 36)) 72 4 (H.2.1 72 37)) 72 5 (H.2.1 72 38)) 72 6 (H.2.1 72 39)) 72 7 (H.2.1 72 40)) 72 8 (H.2.1 72 41)) 72 9 (H.2.1 72 42)) 72 10 (H.2.1 72 43)) 72 11 (H.2.1 72 44)) 72 12 ((zw_I (zw_I (zw_I (zw_I (zw_I (zw_I (zw_I (zw_I (zw_I (zw_I (zw_I (H) 72 1 (H.2.1 72 34)) 72 2 (H.2.1 72 35)) 72 3 (H.2.1 72 36)) 72 4 (H.2.1 72 37)) 72 5 (H.2.1 72 38)) 72 6 (H.2.1 72 39)) 72 7 (H.2.1 72 40)) 72 8 (H.2.1 72 41)) 72 9 (H.2.1 72 42)) 72 10 (H.2.1 72 43)) 72 11 (H.2.1 72 44)).2.2.1 72 51)).2.1 72 11 = H.2.1 72 44 := zw_nj zw_eq
  have gl : (zw_J (zw_I (zw_I (zw_I (zw_I (zw_I (zw_I (zw_I (zw_I (zw_I (zw_I (zw_I (H) 72 1 (H.2.1 72 34)) 72 2 (H.2.1 72 35)) 72 3 (H.2.1 72 36)) 72 4 (H.2.1 72 37)) 72 5 (H.2.1 72 38)) 72 6 (H.2.1 72 39)) 72 7 (H.2.1 72 40)) 72 8 (H.2.1 72 41)) 72 9 (H.2.1 72 42)) 72 10 (H.2.1 72 43)) 72 11 (H.2.1 72 44)) 72 12 ((zw_I (zw_I (zw_I (zw_I (zw_I (zw_I (zw_I (zw_I (zw_I (zw_I (zw_I (H) 72 1 (H.2.1 72 34)) 72 2 (H.2.1 72 35)) 72 3 (H.2.1 72 36)) 72 4 (H.2.1 72 37)) 72 5 (H.2.1 72 38)) 72 6 (H.2.1 72 39)) 72 7 (H.2.1 72 40)) 72 8 (H.2.1 72 41)) 72 9 (H.2.1 72 42)) 72 10 (H.2.1 72 43)) 72 11 (H.2.1 72 44)).2.2.1 72 51)).2.2.1 72 12 = H.2.2.1 72 51 := rfl
  generalize hK : zw_J (zw_I (zw_I (zw_I (zw_I (zw_I (zw_I (zw_I (zw_I (zw_I (zw_I (zw_I (H) 72 1 (H.2.1 72 34)) 72 2 (H.2.1 72 35)) 72 3 (H.2.1 72 36)) 72 4 (H.2.1 72 37)) 72 5 (H.2.1 72 38)) 72 6 (H.2.1 72 39)) 72 7 (H.2.1 72 40)) 72 8 (H.2.1 72 41)) 72 9 (H.2.1 72 42)) 72 10 (H.2.1 72 43)) 72 11 (H.2.1 72 44)) 72 12 ((zw_I (zw_I (zw_I (zw_I (zw_I (zw_I (zw_I (zw_I (zw_I (zw_I (zw_I (H) 72 1 (H.2.1 72 34)) 72 2 (H.2.1 72 35)) 72 3 (H.2.1 72 36)) 72 4 (H.2.1 72 37)) 72 5 (H.2.1 72 38)) 72 6 (H.2.1 72 39)) 72 7 (H.2.1 72 40)) 72 8 (H.2.1 72 41)) 72 9 (H.2.1 72 42)) 72 10 (H.2.1 72 43)) 72 11 (H.2.1 72 44)).2.2.1 72 51) = K at dJ F1 g8 gk gp WK gk1 gk2 gk3 gk4 gk5 gk6 gk7 gk8 gk9 gk10 gk11 gl ⊢
  refine zw_ld (n := 1) (k := 0) (f := zp_isR) (pc' := 309) rfl rfl l0 rfl rfl ?_
  refine zw_ld (n := 1) (k := 0) (f := zp_isR) (pc' := 310) rfl rfl l0 rfl rfl ?_
  refine zw_gR (q := 72) (pc' := 313) WK rfl rfl rfl rfl (WK.2 72 52 _ rfl) rfl ?_
  refine zw_ld (n := 1) (k := 0) (f := zp_isR) (pc' := 314) rfl rfl l0 rfl rfl ?_
  refine zw_gR (q := 72) (pc' := 317) WK rfl rfl rfl rfl (WK.2 72 13 _ rfl) rfl ?_
  refine zw_cn (pc' := 320) (zw_cv (q := 72) (Y := zm_204) WK.1 rfl rfl zm_204_t rfl rfl) rfl rfl rfl rfl rfl (zc_copies (H := K) (q1 := 83) (q2 := 73) (n := 64) WK rfl rfl (by decide) (by decide) rfl) ?_
  refine zw_ld (n := 1) (k := 0) (f := zp_isR) (pc' := 321) rfl rfl l0 rfl rfl ?_
  refine zw_ld (n := 1) (k := 0) (f := zp_isR) (pc' := 322) rfl rfl l0 rfl rfl ?_
  refine zw_gR (q := 72) (pc' := 325) WK rfl rfl rfl rfl (WK.2 72 53 _ rfl) rfl ?_
  refine zw_ld (n := 1) (k := 0) (f := zp_isR) (pc' := 326) rfl rfl l0 rfl rfl ?_
  refine zw_gR (q := 72) (pc' := 329) WK rfl rfl rfl rfl (WK.2 72 14 _ rfl) rfl ?_
  refine zw_cn (pc' := 332) (zw_cv (q := 72) (Y := zm_204) WK.1 rfl rfl zm_204_t rfl rfl) rfl rfl rfl rfl rfl (zc_copies (H := zc_k (K) 83 73 64) (q1 := 84) (q2 := 74) (n := 32) WK rfl rfl (by decide) (by decide) rfl) ?_
  refine zw_ld (n := 1) (k := 0) (f := zp_isR) (pc' := 333) rfl rfl l0 rfl rfl ?_
  refine zw_ld (n := 1) (k := 0) (f := zp_isR) (pc' := 334) rfl rfl l0 rfl rfl ?_
  refine zw_gR (q := 72) (pc' := 337) WK rfl rfl rfl rfl (WK.2 72 54 _ rfl) rfl ?_
  refine zw_ld (n := 1) (k := 0) (f := zp_isR) (pc' := 338) rfl rfl l0 rfl rfl ?_
  refine zw_gR (q := 72) (pc' := 341) WK rfl rfl rfl rfl (WK.2 72 15 _ rfl) rfl ?_
  refine zw_cn (pc' := 344) (zw_cv (q := 72) (Y := zm_204) WK.1 rfl rfl zm_204_t rfl rfl) rfl rfl rfl rfl rfl (zc_copies (H := zc_k (zc_k (K) 83 73 64) 84 74 32) (q1 := 85) (q2 := 75) (n := 128) WK rfl rfl (by decide) (by decide) rfl) ?_
  refine zw_ld (n := 1) (k := 0) (f := zp_isR) (pc' := 345) rfl rfl l0 rfl rfl ?_
  refine zw_ld (n := 1) (k := 0) (f := zp_isR) (pc' := 346) rfl rfl l0 rfl rfl ?_
  refine zw_gR (q := 72) (pc' := 349) WK rfl rfl rfl rfl (WK.2 72 55 _ rfl) rfl ?_
  refine zw_ld (n := 1) (k := 0) (f := zp_isR) (pc' := 350) rfl rfl l0 rfl rfl ?_
  refine zw_gR (q := 72) (pc' := 353) WK rfl rfl rfl rfl (WK.2 72 16 _ rfl) rfl ?_
  refine zw_cn (pc' := 356) (zw_cv (q := 72) (Y := zm_204) WK.1 rfl rfl zm_204_t rfl rfl) rfl rfl rfl rfl rfl (zc_copies (H := zc_k (zc_k (zc_k (K) 83 73 64) 84 74 32) 85 75 128) (q1 := 86) (q2 := 76) (n := 20) WK rfl rfl (by decide) (by decide) rfl) ?_
  refine zw_ld (n := 1) (k := 0) (f := zp_isR) (pc' := 357) rfl rfl l0 rfl rfl ?_
  refine zw_ld (n := 1) (k := 0) (f := zp_isR) (pc' := 358) rfl rfl l0 rfl rfl ?_
  refine zw_gR (q := 72) (pc' := 361) WK rfl rfl rfl rfl (WK.2 72 56 _ rfl) rfl ?_
  refine zw_ld (n := 1) (k := 0) (f := zp_isR) (pc' := 362) rfl rfl l0 rfl rfl ?_
  refine zw_gR (q := 72) (pc' := 365) WK rfl rfl rfl rfl (WK.2 72 17 _ rfl) rfl ?_
  refine zw_cn (pc' := 368) (zw_cv (q := 72) (Y := zm_204) WK.1 rfl rfl zm_204_t rfl rfl) rfl rfl rfl rfl rfl (zc_copies (H := zc_k (zc_k (zc_k (zc_k (K) 83 73 64) 84 74 32) 85 75 128) 86 76 20) (q1 := 87) (q2 := 77) (n := 12) WK rfl rfl (by decide) (by decide) rfl) ?_
  refine zw_ld (n := 1) (k := 0) (f := zp_isR) (pc' := 369) rfl rfl l0 rfl rfl ?_
  refine zw_ld (n := 1) (k := 0) (f := zp_isR) (pc' := 370) rfl rfl l0 rfl rfl ?_
  refine zw_gR (q := 72) (pc' := 373) WK rfl rfl rfl rfl (WK.2 72 57 _ rfl) rfl ?_
  refine zw_ld (n := 1) (k := 0) (f := zp_isR) (pc' := 374) rfl rfl l0 rfl rfl ?_
  refine zw_gR (q := 72) (pc' := 377) WK rfl rfl rfl rfl (WK.2 72 18 _ rfl) rfl ?_
  refine zw_cn (pc' := 380) (zw_cv (q := 72) (Y := zm_204) WK.1 rfl rfl zm_204_t rfl rfl) rfl rfl rfl rfl rfl (zc_copies (H := zc_k (zc_k (zc_k (zc_k (zc_k (K) 83 73 64) 84 74 32) 85 75 128) 86 76 20) 87 77 12) (q1 := 88) (q2 := 78) (n := 8) WK rfl rfl (by decide) (by decide) rfl) ?_
  refine zw_ld (n := 1) (k := 0) (f := zp_isR) (pc' := 381) rfl rfl l0 rfl rfl ?_
  refine zw_ld (n := 1) (k := 0) (f := zp_isR) (pc' := 382) rfl rfl l0 rfl rfl ?_
  refine zw_gR (q := 72) (pc' := 385) WK rfl rfl rfl rfl (WK.2 72 58 _ rfl) rfl ?_
  refine zw_ld (n := 1) (k := 0) (f := zp_isR) (pc' := 386) rfl rfl l0 rfl rfl ?_
  refine zw_gR (q := 72) (pc' := 389) WK rfl rfl rfl rfl (WK.2 72 19 _ rfl) rfl ?_
  refine zw_cn (pc' := 392) (zw_cv (q := 72) (Y := zm_204) WK.1 rfl rfl zm_204_t rfl rfl) rfl rfl rfl rfl rfl (zc_copies (H := zc_k (zc_k (zc_k (zc_k (zc_k (zc_k (K) 83 73 64) 84 74 32) 85 75 128) 86 76 20) 87 77 12) 88 78 8) (q1 := 89) (q2 := 79) (n := 8) WK rfl rfl (by decide) (by decide) rfl) ?_
  refine zw_ld (n := 1) (k := 0) (f := zp_isR) (pc' := 393) rfl rfl l0 rfl rfl ?_
  refine zw_ld (n := 1) (k := 0) (f := zp_isR) (pc' := 394) rfl rfl l0 rfl rfl ?_
  refine zw_gR (q := 72) (pc' := 397) WK rfl rfl rfl rfl (WK.2 72 59 _ rfl) rfl ?_
  refine zw_ld (n := 1) (k := 0) (f := zp_isR) (pc' := 398) rfl rfl l0 rfl rfl ?_
  refine zw_gR (q := 72) (pc' := 401) WK rfl rfl rfl rfl (WK.2 72 20 _ rfl) rfl ?_
  refine zw_cn (pc' := 404) (zw_cv (q := 72) (Y := zm_204) WK.1 rfl rfl zm_204_t rfl rfl) rfl rfl rfl rfl rfl (zc_copies (H := zc_k (zc_k (zc_k (zc_k (zc_k (zc_k (zc_k (K) 83 73 64) 84 74 32) 85 75 128) 86 76 20) 87 77 12) 88 78 8) 89 79 8) (q1 := 90) (q2 := 80) (n := 1600) WK rfl rfl (by decide) (by decide) rfl) ?_
  have e0 := (zc_B (q1 := 90) (q2 := 80) (n := 1600) (zc_B (q1 := 89) (q2 := 79) (n := 8) (zc_B (q1 := 88) (q2 := 78) (n := 8) (zc_B (q1 := 87) (q2 := 77) (n := 12) (zc_B (q1 := 86) (q2 := 76) (n := 20) (zc_B (q1 := 85) (q2 := 75) (n := 128) (zc_B (q1 := 84) (q2 := 74) (n := 32) (zc_B (q1 := 83) (q2 := 73) (n := 64) dJ rfl rfl rfl) rfl rfl rfl) rfl rfl rfl) rfl rfl rfl) rfl rfl rfl) rfl rfl rfl) rfl rfl rfl) rfl rfl rfl)
  have F2 : zf_72 H0 (zc_k (zc_k (zc_k (zc_k (zc_k (zc_k (zc_k (zc_k (K) 83 73 64) 84 74 32) 85 75 128) 86 76 20) 87 77 12) 88 78 8) 89 79 8) 90 80 1600) := zf_c (zf_c (zf_c (zf_c (zf_c (zf_c (zf_c (zf_c (F1) rfl) rfl) rfl) rfl) rfl) rfl) rfl) rfl
  have c72 : ∀ k, (zc_k (zc_k (zc_k (zc_k (zc_k (zc_k (zc_k (zc_k (K) 83 73 64) 84 74 32) 85 75 128) 86 76 20) 87 77 12) 88 78 8) 89 79 8) 90 80 1600).2.1 72 k = K.2.1 72 k := fun k => ((zc_ne (by decide)).trans ((zc_ne (by decide)).trans ((zc_ne (by decide)).trans ((zc_ne (by decide)).trans ((zc_ne (by decide)).trans ((zc_ne (by decide)).trans ((zc_ne (by decide)).trans ((zc_ne (by decide)).trans rfl))))))))
  have c78 : ∀ i, i < 8 → (zc_k (zc_k (zc_k (zc_k (zc_k (zc_k (zc_k (zc_k (K) 83 73 64) 84 74 32) 85 75 128) 86 76 20) 87 77 12) 88 78 8) 89 79 8) 90 80 1600).2.1 78 i = K.2.1 88 i := fun i hi => (zc_ne (by decide)).trans ((zc_ne (by decide)).trans ((zc_eq hi).trans ((zc_ne (by decide)).trans ((zc_ne (by decide)).trans ((zc_ne (by decide)).trans ((zc_ne (by decide)).trans ((zc_ne (by decide)).trans rfl)))))))
  have c80 : ∀ i, i < 1600 → (zc_k (zc_k (zc_k (zc_k (zc_k (zc_k (zc_k (zc_k (K) 83 73 64) 84 74 32) 85 75 128) 86 76 20) 87 77 12) 88 78 8) 89 79 8) 90 80 1600).2.1 80 i = K.2.1 90 i := fun i hi => (zc_eq hi).trans ((zc_ne (by decide)).trans ((zc_ne (by decide)).trans ((zc_ne (by decide)).trans ((zc_ne (by decide)).trans ((zc_ne (by decide)).trans ((zc_ne (by decide)).trans ((zc_ne (by decide)).trans rfl)))))))
  have c101 : ∀ i, (zc_k (zc_k (zc_k (zc_k (zc_k (zc_k (zc_k (zc_k (K) 83 73 64) 84 74 32) 85 75 128) 86 76 20) 87 77 12) 88 78 8) 89 79 8) 90 80 1600).2.1 101 i = K.2.1 101 i := fun i => ((zc_ne (by decide)).trans ((zc_ne (by decide)).trans ((zc_ne (by decide)).trans ((zc_ne (by decide)).trans ((zc_ne (by decide)).trans ((zc_ne (by decide)).trans ((zc_ne (by decide)).trans ((zc_ne (by decide)).trans rfl))))))))
  have c82 : ∀ i, (zc_k (zc_k (zc_k (zc_k (zc_k (zc_k (zc_k (zc_k (K) 83 73 64) 84 74 32) 85 75 128) 86 76 20) 87 77 12) 88 78 8) 89 79 8) 90 80 1600).2.1 82 i = K.2.1 82 i := fun i => ((zc_ne (by decide)).trans ((zc_ne (by decide)).trans ((zc_ne (by decide)).trans ((zc_ne (by decide)).trans ((zc_ne (by decide)).trans ((zc_ne (by decide)).trans ((zc_ne (by decide)).trans ((zc_ne (by decide)).trans rfl))))))))
  have c103 : ∀ i, (zc_k (zc_k (zc_k (zc_k (zc_k (zc_k (zc_k (zc_k (K) 83 73 64) 84 74 32) 85 75 128) 86 76 20) 87 77 12) 88 78 8) 89 79 8) 90 80 1600).2.1 103 i = K.2.1 103 i := fun i => ((zc_ne (by decide)).trans ((zc_ne (by decide)).trans ((zc_ne (by decide)).trans ((zc_ne (by decide)).trans ((zc_ne (by decide)).trans ((zc_ne (by decide)).trans ((zc_ne (by decide)).trans ((zc_ne (by decide)).trans rfl))))))))
  have WQ : zw_W (zc_k (zc_k (zc_k (zc_k (zc_k (zc_k (zc_k (zc_k (K) 83 73 64) 84 74 32) 85 75 128) 86 76 20) 87 77 12) 88 78 8) 89 79 8) 90 80 1600) := WK
  have c73 : ∀ i, i < 64 → (zc_k (zc_k (zc_k (zc_k (zc_k (zc_k (zc_k (zc_k (K) 83 73 64) 84 74 32) 85 75 128) 86 76 20) 87 77 12) 88 78 8) 89 79 8) 90 80 1600).2.1 73 i = K.2.1 83 i := fun i hi => (zc_ne (by decide)).trans ((zc_ne (by decide)).trans ((zc_ne (by decide)).trans ((zc_ne (by decide)).trans ((zc_ne (by decide)).trans ((zc_ne (by decide)).trans ((zc_ne (by decide)).trans ((zc_eq hi).trans (rfl))))))))
  have c74 : ∀ i, i < 32 → (zc_k (zc_k (zc_k (zc_k (zc_k (zc_k (zc_k (zc_k (K) 83 73 64) 84 74 32) 85 75 128) 86 76 20) 87 77 12) 88 78 8) 89 79 8) 90 80 1600).2.1 74 i = K.2.1 84 i := fun i hi => (zc_ne (by decide)).trans ((zc_ne (by decide)).trans ((zc_ne (by decide)).trans ((zc_ne (by decide)).trans ((zc_ne (by decide)).trans ((zc_ne (by decide)).trans ((zc_eq hi).trans ((zc_ne (by decide)).trans (rfl))))))))
  have c75 : ∀ i, i < 128 → (zc_k (zc_k (zc_k (zc_k (zc_k (zc_k (zc_k (zc_k (K) 83 73 64) 84 74 32) 85 75 128) 86 76 20) 87 77 12) 88 78 8) 89 79 8) 90 80 1600).2.1 75 i = K.2.1 85 i := fun i hi => (zc_ne (by decide)).trans ((zc_ne (by decide)).trans ((zc_ne (by decide)).trans ((zc_ne (by decide)).trans ((zc_ne (by decide)).trans ((zc_eq hi).trans ((zc_ne (by decide)).trans ((zc_ne (by decide)).trans (rfl))))))))
  have c76 : ∀ i, i < 20 → (zc_k (zc_k (zc_k (zc_k (zc_k (zc_k (zc_k (zc_k (K) 83 73 64) 84 74 32) 85 75 128) 86 76 20) 87 77 12) 88 78 8) 89 79 8) 90 80 1600).2.1 76 i = K.2.1 86 i := fun i hi => (zc_ne (by decide)).trans ((zc_ne (by decide)).trans ((zc_ne (by decide)).trans ((zc_ne (by decide)).trans ((zc_eq hi).trans ((zc_ne (by decide)).trans ((zc_ne (by decide)).trans ((zc_ne (by decide)).trans (rfl))))))))
  have c77 : ∀ i, i < 12 → (zc_k (zc_k (zc_k (zc_k (zc_k (zc_k (zc_k (zc_k (K) 83 73 64) 84 74 32) 85 75 128) 86 76 20) 87 77 12) 88 78 8) 89 79 8) 90 80 1600).2.1 77 i = K.2.1 87 i := fun i hi => (zc_ne (by decide)).trans ((zc_ne (by decide)).trans ((zc_ne (by decide)).trans ((zc_eq hi).trans ((zc_ne (by decide)).trans ((zc_ne (by decide)).trans ((zc_ne (by decide)).trans ((zc_ne (by decide)).trans (rfl))))))))
  have c79 : ∀ i, i < 8 → (zc_k (zc_k (zc_k (zc_k (zc_k (zc_k (zc_k (zc_k (K) 83 73 64) 84 74 32) 85 75 128) 86 76 20) 87 77 12) 88 78 8) 89 79 8) 90 80 1600).2.1 79 i = K.2.1 89 i := fun i hi => (zc_ne (by decide)).trans ((zc_eq hi).trans ((zc_ne (by decide)).trans ((zc_ne (by decide)).trans ((zc_ne (by decide)).trans ((zc_ne (by decide)).trans ((zc_ne (by decide)).trans ((zc_ne (by decide)).trans (rfl))))))))
  have cl : (zc_k (zc_k (zc_k (zc_k (zc_k (zc_k (zc_k (zc_k (K) 83 73 64) 84 74 32) 85 75 128) 86 76 20) 87 77 12) 88 78 8) 89 79 8) 90 80 1600).2.2.1 72 12 = K.2.2.1 72 12 := rfl
  generalize hQ : zc_k (zc_k (zc_k (zc_k (zc_k (zc_k (zc_k (zc_k (K) 83 73 64) 84 74 32) 85 75 128) 86 76 20) 87 77 12) 88 78 8) 89 79 8) 90 80 1600 = Q at e0 F2 c72 c78 c80 c101 c82 c103 WQ c73 c74 c75 c76 c77 c79 cl ⊢
  refine zw_ld (n := 1) (k := 0) (f := zp_isR) (pc' := 405) rfl rfl l0 rfl rfl ?_
  refine zw_s (pc' := 406) rfl rfl ?_
  refine zw_pI (q := 72) (pc' := 409) WQ rfl rfl rfl rfl rfl rfl ?_
  refine zw_ld (n := 1) (k := 0) (f := zp_isR) (pc' := 410) rfl rfl l0 rfl rfl ?_
  refine zw_s (pc' := 411) rfl rfl ?_
  refine zw_pI (q := 72) (pc' := 414) WQ rfl rfl rfl rfl rfl rfl ?_
  refine zw_ld (n := 1) (k := 0) (f := zp_isR) (pc' := 415) rfl rfl l0 rfl rfl ?_
  refine zw_s (pc' := 416) rfl rfl ?_
  refine zw_pI (q := 72) (pc' := 419) WQ rfl rfl rfl rfl (rfl) rfl ?_
  refine zw_s (pc' := 420) rfl rfl ?_
  refine zw_ri rfl rfl ?_
  have p1 := zT_putf (k := 62) (x := Int32.ofInt 0) e0 (fun r hr => by cases hr; exact ⟨by decide, by decide⟩) rfl trivial
  have p2 := zT_putf (k := 79) (x := Int32.ofInt (-1)) p1 (fun r hr => by cases hr; exact ⟨by decide, by decide⟩) rfl trivial
  have p3 := zT_putf (k := 80) (x := Int32.ofInt 0) p2 (fun r hr => by cases hr; exact ⟨by decide, by decide⟩) rfl trivial
  have F3 : zf_72 H0 (zw_I (zw_I (zw_I Q 72 62 (Int32.ofInt 0)) 72 79 (Int32.ofInt (-1))) 72 80 (Int32.ofInt 0)) := zf_I (zf_I (zf_I F2 rfl) rfl) rfl
  have z62 : (zw_I (zw_I (zw_I Q 72 62 (Int32.ofInt 0)) 72 79 (Int32.ofInt (-1))) 72 80 (Int32.ofInt 0)).2.1 72 62 = Int32.ofInt 0 := zw_ne (zw_ne zw_eq rfl) rfl
  have z80 : (zw_I (zw_I (zw_I Q 72 62 (Int32.ofInt 0)) 72 79 (Int32.ofInt (-1))) 72 80 (Int32.ofInt 0)).2.1 72 80 = Int32.ofInt 0 := zw_eq
  have zl : (zw_I (zw_I (zw_I Q 72 62 (Int32.ofInt 0)) 72 79 (Int32.ofInt (-1))) 72 80 (Int32.ofInt 0)).2.2.1 72 12 = Q.2.2.1 72 12 := rfl
  have zk : ∀ k, Nat.beq k 62 = false → Nat.beq k 79 = false → Nat.beq k 80 = false → (zw_I (zw_I (zw_I Q 72 62 (Int32.ofInt 0)) 72 79 (Int32.ofInt (-1))) 72 80 (Int32.ofInt 0)).2.1 72 k = Q.2.1 72 k := fun k h1 h2 h3 => zw_ne (zw_ne (zw_ne rfl (by rw [h1]; rfl)) (by rw [h2]; rfl)) (by rw [h3]; rfl)
  have zp : ∀ p i, Nat.beq p 72 = false → (zw_I (zw_I (zw_I Q 72 62 (Int32.ofInt 0)) 72 79 (Int32.ofInt (-1))) 72 80 (Int32.ofInt 0)).2.1 p i = Q.2.1 p i := fun p i h => zw_ne (zw_ne (zw_ne rfl (by rw [h]; rfl)) (by rw [h]; rfl)) (by rw [h]; rfl)
  generalize hR : zw_I (zw_I (zw_I Q 72 62 (Int32.ofInt 0)) 72 79 (Int32.ofInt (-1))) 72 80 (Int32.ofInt 0) = R at p3 F3 z62 z80 zl zk zp ⊢
  have r8 : (R.2.1 72 8).toInt = (H.2.1 72 41).toInt := by rw [zk 8 rfl rfl rfl, c72, g8]
  have n8 := zR_fr1 (zR_dn hB) (k := 41) (r := (0, 8)) rfl rfl
  have n8 : 0 ≤ (H.2.1 72 41).toInt ∧ (H.2.1 72 41).toInt ≤ 8 := n8
  have q80 : ∀ i, i < 1600 → R.2.1 80 i = H.2.1 90 i := fun i hi => by rw [zp 80 i rfl, c80 i hi, gp 90 (by decide)]
  have q78 : ∀ i, i < 8 → R.2.1 78 i = H.2.1 88 i := fun i hi => by rw [zp 78 i rfl, c78 i hi, gp 88 (by decide)]
  refine ⟨R, _, rfl, zT_up p3 ⟨?_, ?_, ?_⟩ ?_, F3, ?_, ?_, ?_⟩
  · intro r hr
    rw [r8] at hr
    rw [q78 r (by omega)]
    obtain ⟨a0, n, b, m, a1, a2, a3⟩ := hJn r hr
    have hb : b < 1600 := by omega
    exact ⟨a0, n, b, m, zr_run_c (c := H.2.1 90) (b := b) (fun i hi => q80 i (by omega)) a1 (Nat.le_refl _), hb, by rw [q80 b hb]; exact a3⟩
  · intro s hs
    rw [z62]
    show (0 : Int) ≤ _
    exact (zt_s2 p3 hs).1
  · have h := hJ.2.2
    intro s hs
    rw [zk 81 rfl rfl rfl, c72, gk 81 (by decide), show R.2.1 103 = H.2.1 103 from funext (fun i => by rw [zp 103 i rfl, c103, gp 103 (by decide)]), zp 101 _ rfl, c101, gp 101 (by decide)]
    exact h s hs
  · unfold zR_cc
    rw [zk 23 rfl rfl rfl, zk 34 rfl rfl rfl, zk 35 rfl rfl rfl, c72, c72, c72, gk 23 (by decide), gk 34 (by decide), gk 35 (by decide)]
    exact fun _ => hcc
  · rw [zk 22 rfl rfl rfl, c72, gk 22 (by decide)]
    exact h22
  · obtain ⟨r, r1, r2, dd, s1, s2, s3, s4⟩ := hr0
    refine ⟨r, r1, r2.symm, fun h9 => absurd r2 h9, fun _ => ⟨by rw [zk 24 rfl rfl rfl, c72, gk 24 (by decide)]; exact hp0, by rw [z80]; rfl, by rw [z62]; rfl, fun i => by rw [zp 82 i rfl, c82, gp 82 (by decide)]; exact h82 i, dd, r.2, s1, s2, yZr_of s3 s4 (fun k k1 k2 => ?_) ?_ (fun i hi => ?_) (fun i hi => ?_) (fun i hi => ?_) (fun i hi => ?_) (fun i hi => ?_) (fun i hi => ?_)⟩⟩
    · rw [zk k (zI_nb (show k ≠ 62 by omega)) (zI_nb (show k ≠ 79 by omega)) (zI_nb (show k ≠ 80 by omega)), c72]
      rcases (show k = 1 ∨ k = 2 ∨ k = 3 ∨ k = 4 ∨ k = 5 ∨ k = 6 ∨ k = 7 ∨ k = 8 ∨ k = 9 ∨ k = 10 ∨ k = 11 by omega) with rfl | rfl | rfl | rfl | rfl | rfl | rfl | rfl | rfl | rfl | rfl
      · exact gk1
      · exact gk2
      · exact gk3
      · exact gk4
      · exact gk5
      · exact gk6
      · exact gk7
      · exact gk8
      · exact gk9
      · exact gk10
      · exact gk11
    · rw [zl, cl, gl]
    · rw [zp 73 i rfl, c73 i hi, gp 83 (by decide)]
    · rw [zp 74 i rfl, c74 i hi, gp 84 (by decide)]
    · rw [zp 75 i rfl, c75 i hi, gp 85 (by decide)]
    · rw [zp 76 i rfl, c76 i hi, gp 86 (by decide)]
    · rw [zp 77 i rfl, c77 i hi, gp 87 (by decide)]
    · rw [zp 79 i rfl, c79 i hi, gp 89 (by decide)]
  · rw [zk 0 rfl rfl rfl, c72, ← hK]
    exact (congrArg Int32.toInt (zw_nj (zw_ne (zw_ne (zw_ne (zw_ne (zw_ne (zw_ne (zw_ne (zw_ne (zw_ne (zw_ne (zw_ne rfl rfl) rfl) rfl) rfl) rfl) rfl) rfl) rfl) rfl) rfl) rfl))).trans ht0
end
section
/-! ===== the reference: sea, exactly ===== -/

def ysr_N (H0 H1 : zp_H) (x : Int) (H : zp_H) : Prop := zse_N H0 H1 H ∧ (∀ p, p ≠ 83 → H.2.1 p = H1.2.1 p) ∧ H.2.2.1 = H1.2.2.1 ∧ ∀ c : Nat, (c : Int) < x → (H.2.1 83 c).toInt = -1

set_option maxHeartbeats 4000000 in
set_option maxRecDepth 8000 in
theorem ysr_fill {L : Nat} {σ : Nat → Int32} {d : Nat} {Tx : Nat → Int} {nx : Nat} {H0 H1 : zp_H} (hk : ∀ (H : zp_H) (lv : zp_LV), ysr_N H0 H1 64 H → zp_get lv 0 = some (.inr (.inr (some 73))) → zs_Safe L σ (ysr_P Tx nx H0) zm_169 [] (d + 12) (155, lv, [], H, (0, 0))) : ∀ (n : Nat) (H : zp_H) (lv : zp_LV) (x : Int32), ysr_N H0 H1 x.toInt H → zp_get lv 0 = some (.inr (.inr (some 73))) → zp_get lv 2 = some (.inl x) → 0 ≤ x.toInt → (64 - x.toInt).toNat ≤ n → zs_Safe L σ (ysr_P Tx nx H0) zm_169 [] (d + 12) (136, lv, [], H, (0, 0)) := by
  intro n
  induction n with
  | zero =>
    intro H lv x hN l0 l2 hx hn
    obtain ⟨⟨b, hJ, hF, h72⟩, k81, kL, k83⟩ := hN
    have W := zT_Wd b
    refine zw_ld (n := 1) (k := 2) (f := zp_isI) (pc' := 137) rfl rfl l2 rfl rfl ?_
    refine zw_s (pc' := 139) rfl rfl ?_
    refine zw_bge2 (g := 155) (pc' := 142) rfl rfl rfl rfl (rfl : _ = (64 : Int)) (fun hb => ?_) (fun hb => ?_)
    · exact hk H lv ⟨⟨b, hJ, hF, h72⟩, k81, kL, fun c hc => k83 c (by omega)⟩ l0
    · omega
  | succ n ih =>
    intro H lv x hN l0 l2 hx hn
    obtain ⟨⟨b, hJ, hF, h72⟩, k81, kL, k83⟩ := hN
    have W := zT_Wd b
    refine zw_ld (n := 1) (k := 2) (f := zp_isI) (pc' := 137) rfl rfl l2 rfl rfl ?_
    refine zw_s (pc' := 139) rfl rfl ?_
    refine zw_bge2 (g := 155) (pc' := 142) rfl rfl rfl rfl (rfl : _ = (64 : Int)) (fun hb => ?_) (fun hb => ?_)
    · exact hk H lv ⟨⟨b, hJ, hF, h72⟩, k81, kL, fun c hc => k83 c (by omega)⟩ l0
    · have e1 : (x + Int32.ofInt 1).toInt = x.toInt + 1 := zw_p1 (by omega)
      refine zw_ld (n := 1) (k := 0) (f := zp_isR) (pc' := 143) rfl rfl l0 rfl rfl ?_
      refine zw_gR (q := 72) (pc' := 146) W rfl rfl rfl rfl (W.2 72 52 _ rfl) rfl ?_
      refine zw_ld (n := 1) (k := 2) (f := zp_isI) (pc' := 147) rfl rfl l2 rfl rfl ?_
      refine zw_s (pc' := 148) rfl rfl ?_
      refine zw_is (q := 83) (pc' := 149) W rfl rfl (by decide) (⟨by omega, by show _ < ((64 : Nat) : Int); omega⟩) rfl ?_
      refine zw_ii (pc' := 152) rfl l2 rfl rfl ?_
      refine zw_s (pc' := 136) rfl rfl ?_
      refine ih _ _ _ ⟨⟨zT_puta (p := 83) (j := x.toInt.toNat) (x := zp_nar 0 (Int32.ofInt (-1))) (t := 0) (n := 64) b rfl (fun r hr => by
        have hr : [((-1 : Int), (3 : Int))][x.toInt.toNat % 1]? = some r := hr
        rw [Nat.mod_one] at hr
        cases hr
        exact ⟨by decide, by decide⟩) trivial, zJ_I rfl hJ, zf_I hF rfl, fun j => (zw_ne rfl rfl).trans (h72 j)⟩, fun p hp => (funext (fun j => y_ne (fun h9 => hp h9.1))).trans (k81 p hp), kL, fun c hc => ?_⟩ (zw_gt l0 rfl rfl) zw_g1 (by omega) (by omega)
      by_cases h9 : c = x.toInt.toNat
      · rw [h9, show (zw_I H 83 x.toInt.toNat (zp_nar 0 (Int32.ofInt (-1)))).2.1 83 x.toInt.toNat = zp_nar 0 (Int32.ofInt (-1)) from zw_eq]
        rfl
      · rw [y_ne (fun h8 => h9 h8.2)]
        exact k83 c (by omega)

set_option maxHeartbeats 4000000 in
set_option maxRecDepth 8000 in
theorem ysr_yes {L : Nat} {σ : Nat → Int32} {d : Nat} {Tx : Nat → Int} {nx : Nat} {H : zp_H} {x : Int32} (hby : ∀ k, k < nx → -128 ≤ Tx k ∧ Tx k ≤ 127) (hB : zk_Bs z0R zg zJ H) (hn : x.toInt = nx) (hTx : ∀ k, k < nx → (H.2.1 81 k).toInt = ys_u (Tx k)) (hx : 0 ≤ x.toInt ∧ x.toInt ≤ (H.2.1 72 22).toInt) : ∃ X, zp_Call L σ (d + 13) 169 [.inr (.inr (some 73)), .inl x] H X ∧ ysr_P Tx nx H X := by
  have W := zR_Wd (z0R_dn hB)
  have hJ := hB.2.2.2.2.2.2.2
  have tp := zR_fr1 (z0R_dn hB) (k := 22) (r := (0, 700)) rfl rfl
  have tp : 0 ≤ (H.2.1 72 22).toInt ∧ (H.2.1 72 22).toInt ≤ 700 := tp
  have t1 : (zw_I H 72 0 (Int32.ofInt 0)).2.1 72 0 = Int32.ofInt 0 := zw_eq
  have h0 : ((zw_I H 72 0 (Int32.ofInt 0)).2.1 72 0).toInt = 0 := by rw [t1]; rfl
  have b0 := zT_putf (k := 0) (x := Int32.ofInt 0) (z0T_dn hB) (fun r hr => by cases hr) rfl trivial
  have d0 := zT_putf (k := 22) (x := Int32.ofInt 0) b0 (fun r hr => by cases hr; exact ⟨by decide, by decide⟩) rfl trivial
  have d1 := zT_putf (k := 24) (x := Int32.ofInt (-1)) d0 (fun r hr => by cases hr) rfl trivial
  have d2 := zT_putf (k := 23) (x := Int32.ofInt 0) d1 (fun r hr => by cases hr; exact ⟨by decide, by decide⟩) rfl trivial
  have d3 := zT_putf (k := 26) (x := x) d2 (fun r hr => by cases hr; exact ⟨hx.1, by show x.toInt ≤ (700 : Int); omega⟩) rfl trivial
  have d4 := zT_putf (k := 27) (x := Int32.ofInt 0) d3 (fun r hr => by cases hr; exact ⟨by decide, by decide⟩) rfl trivial
  have d5 := zT_putf (k := 34) (x := Int32.ofInt 6) d4 (fun r hr => by cases hr; exact ⟨by decide, by decide⟩) rfl trivial
  have d6 := zT_putf (k := 35) (x := Int32.ofInt 6) d5 (fun r hr => by cases hr; exact ⟨by decide, by decide⟩) rfl trivial
  have d7 := zT_putf (k := 36) (x := Int32.ofInt 0) d6 (fun r hr => by cases hr) rfl trivial
  have d8 := zT_putf (k := 37) (x := Int32.ofInt 0) d7 (fun r hr => by cases hr) rfl trivial
  have d9 := zT_putf (k := 38) (x := Int32.ofInt 0) d8 (fun r hr => by cases hr; exact ⟨by decide, by decide⟩) rfl trivial
  have d10 := zT_putf (k := 39) (x := Int32.ofInt 0) d9 (fun r hr => by cases hr; exact ⟨by decide, by decide⟩) rfl trivial
  have d11 := zT_putf (k := 40) (x := Int32.ofInt 0) d10 (fun r hr => by cases hr; exact ⟨by decide, by decide⟩) rfl trivial
  have d12 := zT_putf (k := 41) (x := Int32.ofInt 0) d11 (fun r hr => by cases hr; exact ⟨by decide, by decide⟩) rfl trivial
  have d13 := zT_putf (k := 42) (x := Int32.ofInt 0) d12 (fun r hr => by cases hr; exact ⟨by decide, by decide⟩) rfl trivial
  have d14 := zT_putf (k := 43) (x := Int32.ofInt 2) d13 (fun r hr => by cases hr) rfl trivial
  have d15 := zT_putf (k := 44) (x := Int32.ofInt 5) d14 (fun r hr => by cases hr) rfl trivial
  have d16 := zT_putf (k := 48) (x := Int32.ofInt 0) d15 (fun r hr => by cases hr; exact ⟨by decide, by decide⟩) rfl trivial
  have d17 := zT_putf (k := 49) (x := Int32.ofInt 0) d16 (fun r hr => by cases hr; exact ⟨by decide, by decide⟩) rfl trivial
  have dJ := zT_J2 (k := 51) (x := Int64.ofNat 0) d17
  have dT := zT_putf (k := 45) (x := Int32.ofInt 0) dJ (fun r hr => by cases hr; exact ⟨by decide, by decide⟩) rfl trivial
  have jT : zJ (zw_I (zw_J (zw_I (zw_I (zw_I (zw_I (zw_I (zw_I (zw_I (zw_I (zw_I (zw_I (zw_I (zw_I (zw_I (zw_I (zw_I (zw_I (zw_I (zw_I (zw_I H 72 0 (Int32.ofInt 0)) 72 22 (Int32.ofInt 0)) 72 24 (Int32.ofInt (-1))) 72 23 (Int32.ofInt 0)) 72 26 (x)) 72 27 (Int32.ofInt 0)) 72 34 (Int32.ofInt 6)) 72 35 (Int32.ofInt 6)) 72 36 (Int32.ofInt 0)) 72 37 (Int32.ofInt 0)) 72 38 (Int32.ofInt 0)) 72 39 (Int32.ofInt 0)) 72 40 (Int32.ofInt 0)) 72 41 (Int32.ofInt 0)) 72 42 (Int32.ofInt 0)) 72 43 (Int32.ofInt 2)) 72 44 (Int32.ofInt 5)) 72 48 (Int32.ofInt 0)) 72 49 (Int32.ofInt 0)) 72 51 (Int64.ofNat 0)) 72 45 (Int32.ofInt 0)) := zJ_I rfl (show zJ (zw_J _ 72 51 (Int64.ofNat 0)) from (zJ_I rfl (zJ_I rfl (zJ_I rfl (zJ_I rfl (zJ_I rfl (zJ_I rfl (zJ_I rfl (zJ_I rfl (zJ_I rfl (zJ_I rfl (zJ_I rfl (zJ_I rfl (zJ_I rfl (zJ_I rfl (zJ_I rfl (zJ_I rfl (zJ_I rfl (zJ_I rfl (zJ_I rfl hJ))))))))))))))))))))
  have fT : zf_72 H (zw_I (zw_J (zw_I (zw_I (zw_I (zw_I (zw_I (zw_I (zw_I (zw_I (zw_I (zw_I (zw_I (zw_I (zw_I (zw_I (zw_I (zw_I (zw_I (zw_I (zw_I H 72 0 (Int32.ofInt 0)) 72 22 (Int32.ofInt 0)) 72 24 (Int32.ofInt (-1))) 72 23 (Int32.ofInt 0)) 72 26 (x)) 72 27 (Int32.ofInt 0)) 72 34 (Int32.ofInt 6)) 72 35 (Int32.ofInt 6)) 72 36 (Int32.ofInt 0)) 72 37 (Int32.ofInt 0)) 72 38 (Int32.ofInt 0)) 72 39 (Int32.ofInt 0)) 72 40 (Int32.ofInt 0)) 72 41 (Int32.ofInt 0)) 72 42 (Int32.ofInt 0)) 72 43 (Int32.ofInt 2)) 72 44 (Int32.ofInt 5)) 72 48 (Int32.ofInt 0)) 72 49 (Int32.ofInt 0)) 72 51 (Int64.ofNat 0)) 72 45 (Int32.ofInt 0)) := zf_I (zf_J (zf_I (zf_I (zf_I (zf_I (zf_I (zf_I (zf_I (zf_I (zf_I (zf_I (zf_I (zf_I (zf_I (zf_I (zf_I (zf_I (zf_I (zf_I (zf_I (zf_r H) rfl) rfl) rfl) rfl) rfl) rfl) rfl) rfl) rfl) rfl) rfl) rfl) rfl) rfl) rfl) rfl) rfl) rfl) rfl) rfl) rfl
  have fQ : yQr H (zw_I (zw_J (zw_I (zw_I (zw_I (zw_I (zw_I (zw_I (zw_I (zw_I (zw_I (zw_I (zw_I (zw_I (zw_I (zw_I (zw_I (zw_I (zw_I (zw_I (zw_I H 72 0 (Int32.ofInt 0)) 72 22 (Int32.ofInt 0)) 72 24 (Int32.ofInt (-1))) 72 23 (Int32.ofInt 0)) 72 26 (x)) 72 27 (Int32.ofInt 0)) 72 34 (Int32.ofInt 6)) 72 35 (Int32.ofInt 6)) 72 36 (Int32.ofInt 0)) 72 37 (Int32.ofInt 0)) 72 38 (Int32.ofInt 0)) 72 39 (Int32.ofInt 0)) 72 40 (Int32.ofInt 0)) 72 41 (Int32.ofInt 0)) 72 42 (Int32.ofInt 0)) 72 43 (Int32.ofInt 2)) 72 44 (Int32.ofInt 5)) 72 48 (Int32.ofInt 0)) 72 49 (Int32.ofInt 0)) 72 51 (Int64.ofNat 0)) 72 45 (Int32.ofInt 0)) := yQr_I (yQr_J (yQr_I (yQr_I (yQr_I (yQr_I (yQr_I (yQr_I (yQr_I (yQr_I (yQr_I (yQr_I (yQr_I (yQr_I (yQr_I (yQr_I (yQr_I (yQr_I (yQr_I (yQr_I (yQr_I yQr_r rfl) rfl) rfl) rfl) rfl) rfl) rfl) rfl) rfl) rfl) rfl) rfl) rfl) rfl) rfl) rfl) rfl) rfl) rfl) rfl) rfl
  refine zw_met zm_169_t rfl rfl ?_
  refine zw_ld (n := 1) (k := 0) (f := zp_isR) (pc' := 1) rfl rfl rfl rfl rfl ?_
  refine zw_s (pc' := 2) rfl rfl ?_
  refine zw_pI (q := 72) (pc' := 5) W rfl rfl rfl rfl rfl rfl ?_
  refine zw_ld (n := 1) (k := 0) (f := zp_isR) (pc' := 6) rfl rfl rfl rfl rfl ?_
  refine zw_ld (n := 1) (k := 1) (f := zp_isI) (pc' := 7) rfl rfl rfl rfl rfl ?_
  refine zw_blt1 (g := 22) (pc' := 10) rfl rfl rfl rfl (fun h1 => ?_) (fun h1 => ?_)
  · omega
  · refine zw_ld (n := 1) (k := 1) (f := zp_isI) (pc' := 11) rfl rfl rfl rfl rfl ?_
    refine zw_ld (n := 1) (k := 0) (f := zp_isR) (pc' := 12) rfl rfl rfl rfl rfl ?_
    refine zw_gI (q := 72) (pc' := 15) W rfl rfl rfl rfl (zw_ne rfl rfl) rfl ?_
    refine zw_bgt2 (g := 22) (pc' := 18) rfl rfl rfl rfl rfl (fun h2 => ?_) (fun h2 => ?_)
    · omega
    · refine zw_s (pc' := 19) rfl rfl ?_
      refine zw_s (pc' := 23) rfl rfl ?_
      refine zw_s (pc' := 24) rfl rfl ?_
      refine zw_c (pc' := 27) (zw_cv (q := 72) (Y := zm_170) W.1 rfl rfl zm_170_t rfl rfl) rfl rfl rfl rfl rfl (zq_right1 (H := zw_I H 72 0 (Int32.ofInt 0)) W h0) ?_
      refine zw_bne1 (g := 32) (pc' := 30) rfl rfl rfl (rfl : _ = (1 : Int)) (fun hb => ?_) (fun h9 => absurd h9 (by decide))
      refine zw_ld (n := 1) (k := 0) (f := zp_isR) (pc' := 33) rfl rfl rfl rfl rfl ?_
      refine zw_s (pc' := 34) rfl rfl ?_
      refine zw_pI (q := 72) (pc' := 37) (zw_W_I W) rfl rfl rfl rfl rfl rfl ?_
      refine zw_ld (n := 1) (k := 0) (f := zp_isR) (pc' := 38) rfl rfl rfl rfl rfl ?_
      refine zw_s (pc' := 39) rfl rfl ?_
      refine zw_pI (q := 72) (pc' := 42) (zw_W_I (zw_W_I W)) rfl rfl rfl rfl rfl rfl ?_
      refine zw_ld (n := 1) (k := 0) (f := zp_isR) (pc' := 43) rfl rfl rfl rfl rfl ?_
      refine zw_s (pc' := 44) rfl rfl ?_
      refine zw_pI (q := 72) (pc' := 47) (zw_W_I (zw_W_I (zw_W_I W))) rfl rfl rfl rfl rfl rfl ?_
      refine zw_ld (n := 1) (k := 0) (f := zp_isR) (pc' := 48) rfl rfl rfl rfl rfl ?_
      refine zw_ld (n := 1) (k := 1) (f := zp_isI) (pc' := 49) rfl rfl rfl rfl rfl ?_
      refine zw_pI (q := 72) (pc' := 52) (zw_W_I (zw_W_I (zw_W_I (zw_W_I W)))) rfl rfl rfl rfl rfl rfl ?_
      refine zw_ld (n := 1) (k := 0) (f := zp_isR) (pc' := 53) rfl rfl rfl rfl rfl ?_
      refine zw_s (pc' := 54) rfl rfl ?_
      refine zw_pI (q := 72) (pc' := 57) (zw_W_I (zw_W_I (zw_W_I (zw_W_I (zw_W_I W))))) rfl rfl rfl rfl rfl rfl ?_
      refine zw_ld (n := 1) (k := 0) (f := zp_isR) (pc' := 58) rfl rfl rfl rfl rfl ?_
      refine zw_s (pc' := 60) rfl rfl ?_
      refine zw_pI (q := 72) (pc' := 63) (zw_W_I (zw_W_I (zw_W_I (zw_W_I (zw_W_I (zw_W_I W)))))) rfl rfl rfl rfl rfl rfl ?_
      refine zw_ld (n := 1) (k := 0) (f := zp_isR) (pc' := 64) rfl rfl rfl rfl rfl ?_
      refine zw_s (pc' := 66) rfl rfl ?_
      refine zw_pI (q := 72) (pc' := 69) (zw_W_I (zw_W_I (zw_W_I (zw_W_I (zw_W_I (zw_W_I (zw_W_I W))))))) rfl rfl rfl rfl rfl rfl ?_
      refine zw_ld (n := 1) (k := 0) (f := zp_isR) (pc' := 70) rfl rfl rfl rfl rfl ?_
      refine zw_s (pc' := 71) rfl rfl ?_
      refine zw_pI (q := 72) (pc' := 74) (zw_W_I (zw_W_I (zw_W_I (zw_W_I (zw_W_I (zw_W_I (zw_W_I (zw_W_I W)))))))) rfl rfl rfl rfl rfl rfl ?_
      refine zw_ld (n := 1) (k := 0) (f := zp_isR) (pc' := 75) rfl rfl rfl rfl rfl ?_
      refine zw_s (pc' := 76) rfl rfl ?_
      refine zw_pI (q := 72) (pc' := 79) (zw_W_I (zw_W_I (zw_W_I (zw_W_I (zw_W_I (zw_W_I (zw_W_I (zw_W_I (zw_W_I W))))))))) rfl rfl rfl rfl rfl rfl ?_
      refine zw_ld (n := 1) (k := 0) (f := zp_isR) (pc' := 80) rfl rfl rfl rfl rfl ?_
      refine zw_s (pc' := 81) rfl rfl ?_
      refine zw_pI (q := 72) (pc' := 84) (zw_W_I (zw_W_I (zw_W_I (zw_W_I (zw_W_I (zw_W_I (zw_W_I (zw_W_I (zw_W_I (zw_W_I W)))))))))) rfl rfl rfl rfl rfl rfl ?_
      refine zw_ld (n := 1) (k := 0) (f := zp_isR) (pc' := 85) rfl rfl rfl rfl rfl ?_
      refine zw_s (pc' := 86) rfl rfl ?_
      refine zw_pI (q := 72) (pc' := 89) (zw_W_I (zw_W_I (zw_W_I (zw_W_I (zw_W_I (zw_W_I (zw_W_I (zw_W_I (zw_W_I (zw_W_I (zw_W_I W))))))))))) rfl rfl rfl rfl rfl rfl ?_
      refine zw_ld (n := 1) (k := 0) (f := zp_isR) (pc' := 90) rfl rfl rfl rfl rfl ?_
      refine zw_s (pc' := 91) rfl rfl ?_
      refine zw_pI (q := 72) (pc' := 94) (zw_W_I (zw_W_I (zw_W_I (zw_W_I (zw_W_I (zw_W_I (zw_W_I (zw_W_I (zw_W_I (zw_W_I (zw_W_I (zw_W_I W)))))))))))) rfl rfl rfl rfl rfl rfl ?_
      refine zw_ld (n := 1) (k := 0) (f := zp_isR) (pc' := 95) rfl rfl rfl rfl rfl ?_
      refine zw_s (pc' := 96) rfl rfl ?_
      refine zw_pI (q := 72) (pc' := 99) (zw_W_I (zw_W_I (zw_W_I (zw_W_I (zw_W_I (zw_W_I (zw_W_I (zw_W_I (zw_W_I (zw_W_I (zw_W_I (zw_W_I (zw_W_I W))))))))))))) rfl rfl rfl rfl rfl rfl ?_
      refine zw_ld (n := 1) (k := 0) (f := zp_isR) (pc' := 100) rfl rfl rfl rfl rfl ?_
      refine zw_s (pc' := 101) rfl rfl ?_
      refine zw_pI (q := 72) (pc' := 104) (zw_W_I (zw_W_I (zw_W_I (zw_W_I (zw_W_I (zw_W_I (zw_W_I (zw_W_I (zw_W_I (zw_W_I (zw_W_I (zw_W_I (zw_W_I (zw_W_I W)))))))))))))) rfl rfl rfl rfl rfl rfl ?_
      refine zw_ld (n := 1) (k := 0) (f := zp_isR) (pc' := 105) rfl rfl rfl rfl rfl ?_
      refine zw_s (pc' := 106) rfl rfl ?_
      refine zw_pI (q := 72) (pc' := 109) (zw_W_I (zw_W_I (zw_W_I (zw_W_I (zw_W_I (zw_W_I (zw_W_I (zw_W_I (zw_W_I (zw_W_I (zw_W_I (zw_W_I (zw_W_I (zw_W_I (zw_W_I W))))))))))))))) rfl rfl rfl rfl rfl rfl ?_
      refine zw_ld (n := 1) (k := 0) (f := zp_isR) (pc' := 110) rfl rfl rfl rfl rfl ?_
      refine zw_s (pc' := 111) rfl rfl ?_
      refine zw_pI (q := 72) (pc' := 114) (zw_W_I (zw_W_I (zw_W_I (zw_W_I (zw_W_I (zw_W_I (zw_W_I (zw_W_I (zw_W_I (zw_W_I (zw_W_I (zw_W_I (zw_W_I (zw_W_I (zw_W_I (zw_W_I W)))))))))))))))) rfl rfl rfl rfl rfl rfl ?_
      refine zw_ld (n := 1) (k := 0) (f := zp_isR) (pc' := 115) rfl rfl rfl rfl rfl ?_
      refine zw_s (pc' := 116) rfl rfl ?_
      refine zw_pI (q := 72) (pc' := 119) (zw_W_I (zw_W_I (zw_W_I (zw_W_I (zw_W_I (zw_W_I (zw_W_I (zw_W_I (zw_W_I (zw_W_I (zw_W_I (zw_W_I (zw_W_I (zw_W_I (zw_W_I (zw_W_I (zw_W_I W))))))))))))))))) rfl rfl rfl rfl (rfl) rfl ?_
      refine zw_ld (n := 1) (k := 0) (f := zp_isR) (pc' := 120) rfl rfl rfl rfl rfl ?_
      refine zw_s (pc' := 121) rfl rfl ?_
      refine zw_pI (q := 72) (pc' := 124) (zw_W_I (zw_W_I (zw_W_I (zw_W_I (zw_W_I (zw_W_I (zw_W_I (zw_W_I (zw_W_I (zw_W_I (zw_W_I (zw_W_I (zw_W_I (zw_W_I (zw_W_I (zw_W_I (zw_W_I (zw_W_I W)))))))))))))))))) rfl rfl rfl rfl (rfl) rfl ?_
      refine zw_ld (n := 1) (k := 0) (f := zp_isR) (pc' := 125) rfl rfl rfl rfl rfl ?_
      refine zw_s (pc' := 126) rfl rfl ?_
      refine zw_pL (q := 72) (pc' := 129) (zw_W_I (zw_W_I (zw_W_I (zw_W_I (zw_W_I (zw_W_I (zw_W_I (zw_W_I (zw_W_I (zw_W_I (zw_W_I (zw_W_I (zw_W_I (zw_W_I (zw_W_I (zw_W_I (zw_W_I (zw_W_I (zw_W_I W))))))))))))))))))) rfl rfl rfl rfl rfl rfl ?_
      refine zw_ld (n := 1) (k := 0) (f := zp_isR) (pc' := 130) rfl rfl rfl rfl rfl ?_
      refine zw_s (pc' := 131) rfl rfl ?_
      refine zw_pI (q := 72) (pc' := 134) (zw_W_J (zw_W_I (zw_W_I (zw_W_I (zw_W_I (zw_W_I (zw_W_I (zw_W_I (zw_W_I (zw_W_I (zw_W_I (zw_W_I (zw_W_I (zw_W_I (zw_W_I (zw_W_I (zw_W_I (zw_W_I (zw_W_I (zw_W_I W)))))))))))))))))))) rfl rfl rfl rfl rfl rfl ?_
      refine zw_s (pc' := 135) rfl rfl ?_
      refine zw_st (n := 1) (k := 2) (f := zp_isI) (pc' := 136) rfl rfl rfl rfl rfl ?_
      have v22 : (zw_I (zw_J (zw_I (zw_I (zw_I (zw_I (zw_I (zw_I (zw_I (zw_I (zw_I (zw_I (zw_I (zw_I (zw_I (zw_I (zw_I (zw_I (zw_I (zw_I (zw_I H 72 0 (Int32.ofInt 0)) 72 22 (Int32.ofInt 0)) 72 24 (Int32.ofInt (-1))) 72 23 (Int32.ofInt 0)) 72 26 (x)) 72 27 (Int32.ofInt 0)) 72 34 (Int32.ofInt 6)) 72 35 (Int32.ofInt 6)) 72 36 (Int32.ofInt 0)) 72 37 (Int32.ofInt 0)) 72 38 (Int32.ofInt 0)) 72 39 (Int32.ofInt 0)) 72 40 (Int32.ofInt 0)) 72 41 (Int32.ofInt 0)) 72 42 (Int32.ofInt 0)) 72 43 (Int32.ofInt 2)) 72 44 (Int32.ofInt 5)) 72 48 (Int32.ofInt 0)) 72 49 (Int32.ofInt 0)) 72 51 (Int64.ofNat 0)) 72 45 (Int32.ofInt 0)).2.1 72 22 = Int32.ofInt 0 := (zw_ne (zw_nj (zw_ne (zw_ne (zw_ne (zw_ne (zw_ne (zw_ne (zw_ne (zw_ne (zw_ne (zw_ne (zw_ne (zw_ne (zw_ne (zw_ne (zw_ne (zw_ne (zw_ne zw_eq rfl) rfl) rfl) rfl) rfl) rfl) rfl) rfl) rfl) rfl) rfl) rfl) rfl) rfl) rfl) rfl) rfl)) rfl)
      have v23 : (zw_I (zw_J (zw_I (zw_I (zw_I (zw_I (zw_I (zw_I (zw_I (zw_I (zw_I (zw_I (zw_I (zw_I (zw_I (zw_I (zw_I (zw_I (zw_I (zw_I (zw_I H 72 0 (Int32.ofInt 0)) 72 22 (Int32.ofInt 0)) 72 24 (Int32.ofInt (-1))) 72 23 (Int32.ofInt 0)) 72 26 (x)) 72 27 (Int32.ofInt 0)) 72 34 (Int32.ofInt 6)) 72 35 (Int32.ofInt 6)) 72 36 (Int32.ofInt 0)) 72 37 (Int32.ofInt 0)) 72 38 (Int32.ofInt 0)) 72 39 (Int32.ofInt 0)) 72 40 (Int32.ofInt 0)) 72 41 (Int32.ofInt 0)) 72 42 (Int32.ofInt 0)) 72 43 (Int32.ofInt 2)) 72 44 (Int32.ofInt 5)) 72 48 (Int32.ofInt 0)) 72 49 (Int32.ofInt 0)) 72 51 (Int64.ofNat 0)) 72 45 (Int32.ofInt 0)).2.1 72 23 = Int32.ofInt 0 := (zw_ne (zw_nj (zw_ne (zw_ne (zw_ne (zw_ne (zw_ne (zw_ne (zw_ne (zw_ne (zw_ne (zw_ne (zw_ne (zw_ne (zw_ne (zw_ne (zw_ne zw_eq rfl) rfl) rfl) rfl) rfl) rfl) rfl) rfl) rfl) rfl) rfl) rfl) rfl) rfl) rfl)) rfl)
      have v27 : (zw_I (zw_J (zw_I (zw_I (zw_I (zw_I (zw_I (zw_I (zw_I (zw_I (zw_I (zw_I (zw_I (zw_I (zw_I (zw_I (zw_I (zw_I (zw_I (zw_I (zw_I H 72 0 (Int32.ofInt 0)) 72 22 (Int32.ofInt 0)) 72 24 (Int32.ofInt (-1))) 72 23 (Int32.ofInt 0)) 72 26 (x)) 72 27 (Int32.ofInt 0)) 72 34 (Int32.ofInt 6)) 72 35 (Int32.ofInt 6)) 72 36 (Int32.ofInt 0)) 72 37 (Int32.ofInt 0)) 72 38 (Int32.ofInt 0)) 72 39 (Int32.ofInt 0)) 72 40 (Int32.ofInt 0)) 72 41 (Int32.ofInt 0)) 72 42 (Int32.ofInt 0)) 72 43 (Int32.ofInt 2)) 72 44 (Int32.ofInt 5)) 72 48 (Int32.ofInt 0)) 72 49 (Int32.ofInt 0)) 72 51 (Int64.ofNat 0)) 72 45 (Int32.ofInt 0)).2.1 72 27 = Int32.ofInt 0 := (zw_ne (zw_nj (zw_ne (zw_ne (zw_ne (zw_ne (zw_ne (zw_ne (zw_ne (zw_ne (zw_ne (zw_ne (zw_ne (zw_ne (zw_ne zw_eq rfl) rfl) rfl) rfl) rfl) rfl) rfl) rfl) rfl) rfl) rfl) rfl) rfl)) rfl)
      have v34 : (zw_I (zw_J (zw_I (zw_I (zw_I (zw_I (zw_I (zw_I (zw_I (zw_I (zw_I (zw_I (zw_I (zw_I (zw_I (zw_I (zw_I (zw_I (zw_I (zw_I (zw_I H 72 0 (Int32.ofInt 0)) 72 22 (Int32.ofInt 0)) 72 24 (Int32.ofInt (-1))) 72 23 (Int32.ofInt 0)) 72 26 (x)) 72 27 (Int32.ofInt 0)) 72 34 (Int32.ofInt 6)) 72 35 (Int32.ofInt 6)) 72 36 (Int32.ofInt 0)) 72 37 (Int32.ofInt 0)) 72 38 (Int32.ofInt 0)) 72 39 (Int32.ofInt 0)) 72 40 (Int32.ofInt 0)) 72 41 (Int32.ofInt 0)) 72 42 (Int32.ofInt 0)) 72 43 (Int32.ofInt 2)) 72 44 (Int32.ofInt 5)) 72 48 (Int32.ofInt 0)) 72 49 (Int32.ofInt 0)) 72 51 (Int64.ofNat 0)) 72 45 (Int32.ofInt 0)).2.1 72 34 = Int32.ofInt 6 := (zw_ne (zw_nj (zw_ne (zw_ne (zw_ne (zw_ne (zw_ne (zw_ne (zw_ne (zw_ne (zw_ne (zw_ne (zw_ne (zw_ne zw_eq rfl) rfl) rfl) rfl) rfl) rfl) rfl) rfl) rfl) rfl) rfl) rfl)) rfl)
      have v35 : (zw_I (zw_J (zw_I (zw_I (zw_I (zw_I (zw_I (zw_I (zw_I (zw_I (zw_I (zw_I (zw_I (zw_I (zw_I (zw_I (zw_I (zw_I (zw_I (zw_I (zw_I H 72 0 (Int32.ofInt 0)) 72 22 (Int32.ofInt 0)) 72 24 (Int32.ofInt (-1))) 72 23 (Int32.ofInt 0)) 72 26 (x)) 72 27 (Int32.ofInt 0)) 72 34 (Int32.ofInt 6)) 72 35 (Int32.ofInt 6)) 72 36 (Int32.ofInt 0)) 72 37 (Int32.ofInt 0)) 72 38 (Int32.ofInt 0)) 72 39 (Int32.ofInt 0)) 72 40 (Int32.ofInt 0)) 72 41 (Int32.ofInt 0)) 72 42 (Int32.ofInt 0)) 72 43 (Int32.ofInt 2)) 72 44 (Int32.ofInt 5)) 72 48 (Int32.ofInt 0)) 72 49 (Int32.ofInt 0)) 72 51 (Int64.ofNat 0)) 72 45 (Int32.ofInt 0)).2.1 72 35 = Int32.ofInt 6 := (zw_ne (zw_nj (zw_ne (zw_ne (zw_ne (zw_ne (zw_ne (zw_ne (zw_ne (zw_ne (zw_ne (zw_ne (zw_ne zw_eq rfl) rfl) rfl) rfl) rfl) rfl) rfl) rfl) rfl) rfl) rfl)) rfl)
      have v41 : (zw_I (zw_J (zw_I (zw_I (zw_I (zw_I (zw_I (zw_I (zw_I (zw_I (zw_I (zw_I (zw_I (zw_I (zw_I (zw_I (zw_I (zw_I (zw_I (zw_I (zw_I H 72 0 (Int32.ofInt 0)) 72 22 (Int32.ofInt 0)) 72 24 (Int32.ofInt (-1))) 72 23 (Int32.ofInt 0)) 72 26 (x)) 72 27 (Int32.ofInt 0)) 72 34 (Int32.ofInt 6)) 72 35 (Int32.ofInt 6)) 72 36 (Int32.ofInt 0)) 72 37 (Int32.ofInt 0)) 72 38 (Int32.ofInt 0)) 72 39 (Int32.ofInt 0)) 72 40 (Int32.ofInt 0)) 72 41 (Int32.ofInt 0)) 72 42 (Int32.ofInt 0)) 72 43 (Int32.ofInt 2)) 72 44 (Int32.ofInt 5)) 72 48 (Int32.ofInt 0)) 72 49 (Int32.ofInt 0)) 72 51 (Int64.ofNat 0)) 72 45 (Int32.ofInt 0)).2.1 72 41 = Int32.ofInt 0 := (zw_ne (zw_nj (zw_ne (zw_ne (zw_ne (zw_ne (zw_ne zw_eq rfl) rfl) rfl) rfl) rfl)) rfl)
      have v45 : (zw_I (zw_J (zw_I (zw_I (zw_I (zw_I (zw_I (zw_I (zw_I (zw_I (zw_I (zw_I (zw_I (zw_I (zw_I (zw_I (zw_I (zw_I (zw_I (zw_I (zw_I H 72 0 (Int32.ofInt 0)) 72 22 (Int32.ofInt 0)) 72 24 (Int32.ofInt (-1))) 72 23 (Int32.ofInt 0)) 72 26 (x)) 72 27 (Int32.ofInt 0)) 72 34 (Int32.ofInt 6)) 72 35 (Int32.ofInt 6)) 72 36 (Int32.ofInt 0)) 72 37 (Int32.ofInt 0)) 72 38 (Int32.ofInt 0)) 72 39 (Int32.ofInt 0)) 72 40 (Int32.ofInt 0)) 72 41 (Int32.ofInt 0)) 72 42 (Int32.ofInt 0)) 72 43 (Int32.ofInt 2)) 72 44 (Int32.ofInt 5)) 72 48 (Int32.ofInt 0)) 72 49 (Int32.ofInt 0)) 72 51 (Int64.ofNat 0)) 72 45 (Int32.ofInt 0)).2.1 72 45 = Int32.ofInt 0 := zw_eq
      have v26 : (zw_I (zw_J (zw_I (zw_I (zw_I (zw_I (zw_I (zw_I (zw_I (zw_I (zw_I (zw_I (zw_I (zw_I (zw_I (zw_I (zw_I (zw_I (zw_I (zw_I (zw_I H 72 0 (Int32.ofInt 0)) 72 22 (Int32.ofInt 0)) 72 24 (Int32.ofInt (-1))) 72 23 (Int32.ofInt 0)) 72 26 (x)) 72 27 (Int32.ofInt 0)) 72 34 (Int32.ofInt 6)) 72 35 (Int32.ofInt 6)) 72 36 (Int32.ofInt 0)) 72 37 (Int32.ofInt 0)) 72 38 (Int32.ofInt 0)) 72 39 (Int32.ofInt 0)) 72 40 (Int32.ofInt 0)) 72 41 (Int32.ofInt 0)) 72 42 (Int32.ofInt 0)) 72 43 (Int32.ofInt 2)) 72 44 (Int32.ofInt 5)) 72 48 (Int32.ofInt 0)) 72 49 (Int32.ofInt 0)) 72 51 (Int64.ofNat 0)) 72 45 (Int32.ofInt 0)).2.1 72 26 = x := (zw_ne (zw_nj (zw_ne (zw_ne (zw_ne (zw_ne (zw_ne (zw_ne (zw_ne (zw_ne (zw_ne (zw_ne (zw_ne (zw_ne (zw_ne (zw_ne zw_eq rfl) rfl) rfl) rfl) rfl) rfl) rfl) rfl) rfl) rfl) rfl) rfl) rfl) rfl)) rfl)
      have v36 : (zw_I (zw_J (zw_I (zw_I (zw_I (zw_I (zw_I (zw_I (zw_I (zw_I (zw_I (zw_I (zw_I (zw_I (zw_I (zw_I (zw_I (zw_I (zw_I (zw_I (zw_I H 72 0 (Int32.ofInt 0)) 72 22 (Int32.ofInt 0)) 72 24 (Int32.ofInt (-1))) 72 23 (Int32.ofInt 0)) 72 26 (x)) 72 27 (Int32.ofInt 0)) 72 34 (Int32.ofInt 6)) 72 35 (Int32.ofInt 6)) 72 36 (Int32.ofInt 0)) 72 37 (Int32.ofInt 0)) 72 38 (Int32.ofInt 0)) 72 39 (Int32.ofInt 0)) 72 40 (Int32.ofInt 0)) 72 41 (Int32.ofInt 0)) 72 42 (Int32.ofInt 0)) 72 43 (Int32.ofInt 2)) 72 44 (Int32.ofInt 5)) 72 48 (Int32.ofInt 0)) 72 49 (Int32.ofInt 0)) 72 51 (Int64.ofNat 0)) 72 45 (Int32.ofInt 0)).2.1 72 36 = Int32.ofInt 0 := (zw_ne (zw_nj (zw_ne (zw_ne (zw_ne (zw_ne (zw_ne (zw_ne (zw_ne (zw_ne (zw_ne (zw_ne zw_eq rfl) rfl) rfl) rfl) rfl) rfl) rfl) rfl) rfl) rfl)) rfl)
      have v38 : (zw_I (zw_J (zw_I (zw_I (zw_I (zw_I (zw_I (zw_I (zw_I (zw_I (zw_I (zw_I (zw_I (zw_I (zw_I (zw_I (zw_I (zw_I (zw_I (zw_I (zw_I H 72 0 (Int32.ofInt 0)) 72 22 (Int32.ofInt 0)) 72 24 (Int32.ofInt (-1))) 72 23 (Int32.ofInt 0)) 72 26 (x)) 72 27 (Int32.ofInt 0)) 72 34 (Int32.ofInt 6)) 72 35 (Int32.ofInt 6)) 72 36 (Int32.ofInt 0)) 72 37 (Int32.ofInt 0)) 72 38 (Int32.ofInt 0)) 72 39 (Int32.ofInt 0)) 72 40 (Int32.ofInt 0)) 72 41 (Int32.ofInt 0)) 72 42 (Int32.ofInt 0)) 72 43 (Int32.ofInt 2)) 72 44 (Int32.ofInt 5)) 72 48 (Int32.ofInt 0)) 72 49 (Int32.ofInt 0)) 72 51 (Int64.ofNat 0)) 72 45 (Int32.ofInt 0)).2.1 72 38 = Int32.ofInt 0 := (zw_ne (zw_nj (zw_ne (zw_ne (zw_ne (zw_ne (zw_ne (zw_ne (zw_ne (zw_ne zw_eq rfl) rfl) rfl) rfl) rfl) rfl) rfl) rfl)) rfl)
      have v39 : (zw_I (zw_J (zw_I (zw_I (zw_I (zw_I (zw_I (zw_I (zw_I (zw_I (zw_I (zw_I (zw_I (zw_I (zw_I (zw_I (zw_I (zw_I (zw_I (zw_I (zw_I H 72 0 (Int32.ofInt 0)) 72 22 (Int32.ofInt 0)) 72 24 (Int32.ofInt (-1))) 72 23 (Int32.ofInt 0)) 72 26 (x)) 72 27 (Int32.ofInt 0)) 72 34 (Int32.ofInt 6)) 72 35 (Int32.ofInt 6)) 72 36 (Int32.ofInt 0)) 72 37 (Int32.ofInt 0)) 72 38 (Int32.ofInt 0)) 72 39 (Int32.ofInt 0)) 72 40 (Int32.ofInt 0)) 72 41 (Int32.ofInt 0)) 72 42 (Int32.ofInt 0)) 72 43 (Int32.ofInt 2)) 72 44 (Int32.ofInt 5)) 72 48 (Int32.ofInt 0)) 72 49 (Int32.ofInt 0)) 72 51 (Int64.ofNat 0)) 72 45 (Int32.ofInt 0)).2.1 72 39 = Int32.ofInt 0 := (zw_ne (zw_nj (zw_ne (zw_ne (zw_ne (zw_ne (zw_ne (zw_ne (zw_ne zw_eq rfl) rfl) rfl) rfl) rfl) rfl) rfl)) rfl)
      have v40 : (zw_I (zw_J (zw_I (zw_I (zw_I (zw_I (zw_I (zw_I (zw_I (zw_I (zw_I (zw_I (zw_I (zw_I (zw_I (zw_I (zw_I (zw_I (zw_I (zw_I (zw_I H 72 0 (Int32.ofInt 0)) 72 22 (Int32.ofInt 0)) 72 24 (Int32.ofInt (-1))) 72 23 (Int32.ofInt 0)) 72 26 (x)) 72 27 (Int32.ofInt 0)) 72 34 (Int32.ofInt 6)) 72 35 (Int32.ofInt 6)) 72 36 (Int32.ofInt 0)) 72 37 (Int32.ofInt 0)) 72 38 (Int32.ofInt 0)) 72 39 (Int32.ofInt 0)) 72 40 (Int32.ofInt 0)) 72 41 (Int32.ofInt 0)) 72 42 (Int32.ofInt 0)) 72 43 (Int32.ofInt 2)) 72 44 (Int32.ofInt 5)) 72 48 (Int32.ofInt 0)) 72 49 (Int32.ofInt 0)) 72 51 (Int64.ofNat 0)) 72 45 (Int32.ofInt 0)).2.1 72 40 = Int32.ofInt 0 := (zw_ne (zw_nj (zw_ne (zw_ne (zw_ne (zw_ne (zw_ne (zw_ne zw_eq rfl) rfl) rfl) rfl) rfl) rfl)) rfl)
      have v48 : (zw_I (zw_J (zw_I (zw_I (zw_I (zw_I (zw_I (zw_I (zw_I (zw_I (zw_I (zw_I (zw_I (zw_I (zw_I (zw_I (zw_I (zw_I (zw_I (zw_I (zw_I H 72 0 (Int32.ofInt 0)) 72 22 (Int32.ofInt 0)) 72 24 (Int32.ofInt (-1))) 72 23 (Int32.ofInt 0)) 72 26 (x)) 72 27 (Int32.ofInt 0)) 72 34 (Int32.ofInt 6)) 72 35 (Int32.ofInt 6)) 72 36 (Int32.ofInt 0)) 72 37 (Int32.ofInt 0)) 72 38 (Int32.ofInt 0)) 72 39 (Int32.ofInt 0)) 72 40 (Int32.ofInt 0)) 72 41 (Int32.ofInt 0)) 72 42 (Int32.ofInt 0)) 72 43 (Int32.ofInt 2)) 72 44 (Int32.ofInt 5)) 72 48 (Int32.ofInt 0)) 72 49 (Int32.ofInt 0)) 72 51 (Int64.ofNat 0)) 72 45 (Int32.ofInt 0)).2.1 72 48 = Int32.ofInt 0 := (zw_ne (zw_nj (zw_ne zw_eq rfl)) rfl)
      have v49 : (zw_I (zw_J (zw_I (zw_I (zw_I (zw_I (zw_I (zw_I (zw_I (zw_I (zw_I (zw_I (zw_I (zw_I (zw_I (zw_I (zw_I (zw_I (zw_I (zw_I (zw_I H 72 0 (Int32.ofInt 0)) 72 22 (Int32.ofInt 0)) 72 24 (Int32.ofInt (-1))) 72 23 (Int32.ofInt 0)) 72 26 (x)) 72 27 (Int32.ofInt 0)) 72 34 (Int32.ofInt 6)) 72 35 (Int32.ofInt 6)) 72 36 (Int32.ofInt 0)) 72 37 (Int32.ofInt 0)) 72 38 (Int32.ofInt 0)) 72 39 (Int32.ofInt 0)) 72 40 (Int32.ofInt 0)) 72 41 (Int32.ofInt 0)) 72 42 (Int32.ofInt 0)) 72 43 (Int32.ofInt 2)) 72 44 (Int32.ofInt 5)) 72 48 (Int32.ofInt 0)) 72 49 (Int32.ofInt 0)) 72 51 (Int64.ofNat 0)) 72 45 (Int32.ofInt 0)).2.1 72 49 = Int32.ofInt 0 := (zw_ne (zw_nj zw_eq) rfl)
      have v0 : (zw_I (zw_J (zw_I (zw_I (zw_I (zw_I (zw_I (zw_I (zw_I (zw_I (zw_I (zw_I (zw_I (zw_I (zw_I (zw_I (zw_I (zw_I (zw_I (zw_I (zw_I H 72 0 (Int32.ofInt 0)) 72 22 (Int32.ofInt 0)) 72 24 (Int32.ofInt (-1))) 72 23 (Int32.ofInt 0)) 72 26 (x)) 72 27 (Int32.ofInt 0)) 72 34 (Int32.ofInt 6)) 72 35 (Int32.ofInt 6)) 72 36 (Int32.ofInt 0)) 72 37 (Int32.ofInt 0)) 72 38 (Int32.ofInt 0)) 72 39 (Int32.ofInt 0)) 72 40 (Int32.ofInt 0)) 72 41 (Int32.ofInt 0)) 72 42 (Int32.ofInt 0)) 72 43 (Int32.ofInt 2)) 72 44 (Int32.ofInt 5)) 72 48 (Int32.ofInt 0)) 72 49 (Int32.ofInt 0)) 72 51 (Int64.ofNat 0)) 72 45 (Int32.ofInt 0)).2.1 72 0 = Int32.ofInt 0 := (zw_ne (zw_nj (zw_ne (zw_ne (zw_ne (zw_ne (zw_ne (zw_ne (zw_ne (zw_ne (zw_ne (zw_ne (zw_ne (zw_ne (zw_ne (zw_ne (zw_ne (zw_ne (zw_ne (zw_ne zw_eq rfl) rfl) rfl) rfl) rfl) rfl) rfl) rfl) rfl) rfl) rfl) rfl) rfl) rfl) rfl) rfl) rfl) rfl)) rfl)
      have v42 : (zw_I (zw_J (zw_I (zw_I (zw_I (zw_I (zw_I (zw_I (zw_I (zw_I (zw_I (zw_I (zw_I (zw_I (zw_I (zw_I (zw_I (zw_I (zw_I (zw_I (zw_I H 72 0 (Int32.ofInt 0)) 72 22 (Int32.ofInt 0)) 72 24 (Int32.ofInt (-1))) 72 23 (Int32.ofInt 0)) 72 26 (x)) 72 27 (Int32.ofInt 0)) 72 34 (Int32.ofInt 6)) 72 35 (Int32.ofInt 6)) 72 36 (Int32.ofInt 0)) 72 37 (Int32.ofInt 0)) 72 38 (Int32.ofInt 0)) 72 39 (Int32.ofInt 0)) 72 40 (Int32.ofInt 0)) 72 41 (Int32.ofInt 0)) 72 42 (Int32.ofInt 0)) 72 43 (Int32.ofInt 2)) 72 44 (Int32.ofInt 5)) 72 48 (Int32.ofInt 0)) 72 49 (Int32.ofInt 0)) 72 51 (Int64.ofNat 0)) 72 45 (Int32.ofInt 0)).2.1 72 42 = Int32.ofInt 0 := (zw_ne (zw_nj (zw_ne (zw_ne (zw_ne (zw_ne zw_eq rfl) rfl) rfl) rfl)) rfl)
      have v43 : (zw_I (zw_J (zw_I (zw_I (zw_I (zw_I (zw_I (zw_I (zw_I (zw_I (zw_I (zw_I (zw_I (zw_I (zw_I (zw_I (zw_I (zw_I (zw_I (zw_I (zw_I H 72 0 (Int32.ofInt 0)) 72 22 (Int32.ofInt 0)) 72 24 (Int32.ofInt (-1))) 72 23 (Int32.ofInt 0)) 72 26 (x)) 72 27 (Int32.ofInt 0)) 72 34 (Int32.ofInt 6)) 72 35 (Int32.ofInt 6)) 72 36 (Int32.ofInt 0)) 72 37 (Int32.ofInt 0)) 72 38 (Int32.ofInt 0)) 72 39 (Int32.ofInt 0)) 72 40 (Int32.ofInt 0)) 72 41 (Int32.ofInt 0)) 72 42 (Int32.ofInt 0)) 72 43 (Int32.ofInt 2)) 72 44 (Int32.ofInt 5)) 72 48 (Int32.ofInt 0)) 72 49 (Int32.ofInt 0)) 72 51 (Int64.ofNat 0)) 72 45 (Int32.ofInt 0)).2.1 72 43 = Int32.ofInt 2 := (zw_ne (zw_nj (zw_ne (zw_ne (zw_ne zw_eq rfl) rfl) rfl)) rfl)
      have v44 : (zw_I (zw_J (zw_I (zw_I (zw_I (zw_I (zw_I (zw_I (zw_I (zw_I (zw_I (zw_I (zw_I (zw_I (zw_I (zw_I (zw_I (zw_I (zw_I (zw_I (zw_I H 72 0 (Int32.ofInt 0)) 72 22 (Int32.ofInt 0)) 72 24 (Int32.ofInt (-1))) 72 23 (Int32.ofInt 0)) 72 26 (x)) 72 27 (Int32.ofInt 0)) 72 34 (Int32.ofInt 6)) 72 35 (Int32.ofInt 6)) 72 36 (Int32.ofInt 0)) 72 37 (Int32.ofInt 0)) 72 38 (Int32.ofInt 0)) 72 39 (Int32.ofInt 0)) 72 40 (Int32.ofInt 0)) 72 41 (Int32.ofInt 0)) 72 42 (Int32.ofInt 0)) 72 43 (Int32.ofInt 2)) 72 44 (Int32.ofInt 5)) 72 48 (Int32.ofInt 0)) 72 49 (Int32.ofInt 0)) 72 51 (Int64.ofNat 0)) 72 45 (Int32.ofInt 0)).2.1 72 44 = Int32.ofInt 5 := (zw_ne (zw_nj (zw_ne (zw_ne zw_eq rfl) rfl)) rfl)
      have v24 : (zw_I (zw_J (zw_I (zw_I (zw_I (zw_I (zw_I (zw_I (zw_I (zw_I (zw_I (zw_I (zw_I (zw_I (zw_I (zw_I (zw_I (zw_I (zw_I (zw_I (zw_I H 72 0 (Int32.ofInt 0)) 72 22 (Int32.ofInt 0)) 72 24 (Int32.ofInt (-1))) 72 23 (Int32.ofInt 0)) 72 26 (x)) 72 27 (Int32.ofInt 0)) 72 34 (Int32.ofInt 6)) 72 35 (Int32.ofInt 6)) 72 36 (Int32.ofInt 0)) 72 37 (Int32.ofInt 0)) 72 38 (Int32.ofInt 0)) 72 39 (Int32.ofInt 0)) 72 40 (Int32.ofInt 0)) 72 41 (Int32.ofInt 0)) 72 42 (Int32.ofInt 0)) 72 43 (Int32.ofInt 2)) 72 44 (Int32.ofInt 5)) 72 48 (Int32.ofInt 0)) 72 49 (Int32.ofInt 0)) 72 51 (Int64.ofNat 0)) 72 45 (Int32.ofInt 0)).2.1 72 24 = Int32.ofInt (-1) := (zw_ne (zw_nj (zw_ne (zw_ne (zw_ne (zw_ne (zw_ne (zw_ne (zw_ne (zw_ne (zw_ne (zw_ne (zw_ne (zw_ne (zw_ne (zw_ne (zw_ne (zw_ne zw_eq rfl) rfl) rfl) rfl) rfl) rfl) rfl) rfl) rfl) rfl) rfl) rfl) rfl) rfl) rfl) rfl)) rfl)
      have v80 : (zw_I (zw_J (zw_I (zw_I (zw_I (zw_I (zw_I (zw_I (zw_I (zw_I (zw_I (zw_I (zw_I (zw_I (zw_I (zw_I (zw_I (zw_I (zw_I (zw_I (zw_I H 72 0 (Int32.ofInt 0)) 72 22 (Int32.ofInt 0)) 72 24 (Int32.ofInt (-1))) 72 23 (Int32.ofInt 0)) 72 26 (x)) 72 27 (Int32.ofInt 0)) 72 34 (Int32.ofInt 6)) 72 35 (Int32.ofInt 6)) 72 36 (Int32.ofInt 0)) 72 37 (Int32.ofInt 0)) 72 38 (Int32.ofInt 0)) 72 39 (Int32.ofInt 0)) 72 40 (Int32.ofInt 0)) 72 41 (Int32.ofInt 0)) 72 42 (Int32.ofInt 0)) 72 43 (Int32.ofInt 2)) 72 44 (Int32.ofInt 5)) 72 48 (Int32.ofInt 0)) 72 49 (Int32.ofInt 0)) 72 51 (Int64.ofNat 0)) 72 45 (Int32.ofInt 0)).2.1 72 80 = H.2.1 72 80 := (zw_ne (zw_nj (zw_ne (zw_ne (zw_ne (zw_ne (zw_ne (zw_ne (zw_ne (zw_ne (zw_ne (zw_ne (zw_ne (zw_ne (zw_ne (zw_ne (zw_ne (zw_ne (zw_ne (zw_ne (zw_ne rfl rfl) rfl) rfl) rfl) rfl) rfl) rfl) rfl) rfl) rfl) rfl) rfl) rfl) rfl) rfl) rfl) rfl) rfl) rfl)) rfl)
      have v51 : (zw_I (zw_J (zw_I (zw_I (zw_I (zw_I (zw_I (zw_I (zw_I (zw_I (zw_I (zw_I (zw_I (zw_I (zw_I (zw_I (zw_I (zw_I (zw_I (zw_I (zw_I H 72 0 (Int32.ofInt 0)) 72 22 (Int32.ofInt 0)) 72 24 (Int32.ofInt (-1))) 72 23 (Int32.ofInt 0)) 72 26 (x)) 72 27 (Int32.ofInt 0)) 72 34 (Int32.ofInt 6)) 72 35 (Int32.ofInt 6)) 72 36 (Int32.ofInt 0)) 72 37 (Int32.ofInt 0)) 72 38 (Int32.ofInt 0)) 72 39 (Int32.ofInt 0)) 72 40 (Int32.ofInt 0)) 72 41 (Int32.ofInt 0)) 72 42 (Int32.ofInt 0)) 72 43 (Int32.ofInt 2)) 72 44 (Int32.ofInt 5)) 72 48 (Int32.ofInt 0)) 72 49 (Int32.ofInt 0)) 72 51 (Int64.ofNat 0)) 72 45 (Int32.ofInt 0)).2.2.1 72 51 = 0 := rfl
      have v81 : (zw_I (zw_J (zw_I (zw_I (zw_I (zw_I (zw_I (zw_I (zw_I (zw_I (zw_I (zw_I (zw_I (zw_I (zw_I (zw_I (zw_I (zw_I (zw_I (zw_I (zw_I H 72 0 (Int32.ofInt 0)) 72 22 (Int32.ofInt 0)) 72 24 (Int32.ofInt (-1))) 72 23 (Int32.ofInt 0)) 72 26 (x)) 72 27 (Int32.ofInt 0)) 72 34 (Int32.ofInt 6)) 72 35 (Int32.ofInt 6)) 72 36 (Int32.ofInt 0)) 72 37 (Int32.ofInt 0)) 72 38 (Int32.ofInt 0)) 72 39 (Int32.ofInt 0)) 72 40 (Int32.ofInt 0)) 72 41 (Int32.ofInt 0)) 72 42 (Int32.ofInt 0)) 72 43 (Int32.ofInt 2)) 72 44 (Int32.ofInt 5)) 72 48 (Int32.ofInt 0)) 72 49 (Int32.ofInt 0)) 72 51 (Int64.ofNat 0)) 72 45 (Int32.ofInt 0)).2.1 81 = H.2.1 81 := funext (fun j => (zw_ne (zw_nj (zw_ne (zw_ne (zw_ne (zw_ne (zw_ne (zw_ne (zw_ne (zw_ne (zw_ne (zw_ne (zw_ne (zw_ne (zw_ne (zw_ne (zw_ne (zw_ne (zw_ne (zw_ne (zw_ne rfl rfl) rfl) rfl) rfl) rfl) rfl) rfl) rfl) rfl) rfl) rfl) rfl) rfl) rfl) rfl) rfl) rfl) rfl) rfl)) rfl))
      show zs_Safe L σ (ysr_P Tx nx H) zm_169 [] (d + 12) (136, zp_st1 (zp_args 0 [.inr (.inr (some 73)), .inl x]) 2 (.inl (Int32.ofInt 0)), [], zw_I (zw_J (zw_I (zw_I (zw_I (zw_I (zw_I (zw_I (zw_I (zw_I (zw_I (zw_I (zw_I (zw_I (zw_I (zw_I (zw_I (zw_I (zw_I (zw_I (zw_I H 72 0 (Int32.ofInt 0)) 72 22 (Int32.ofInt 0)) 72 24 (Int32.ofInt (-1))) 72 23 (Int32.ofInt 0)) 72 26 (x)) 72 27 (Int32.ofInt 0)) 72 34 (Int32.ofInt 6)) 72 35 (Int32.ofInt 6)) 72 36 (Int32.ofInt 0)) 72 37 (Int32.ofInt 0)) 72 38 (Int32.ofInt 0)) 72 39 (Int32.ofInt 0)) 72 40 (Int32.ofInt 0)) 72 41 (Int32.ofInt 0)) 72 42 (Int32.ofInt 0)) 72 43 (Int32.ofInt 2)) 72 44 (Int32.ofInt 5)) 72 48 (Int32.ofInt 0)) 72 49 (Int32.ofInt 0)) 72 51 (Int64.ofNat 0)) 72 45 (Int32.ofInt 0), (0, 0))
      generalize hT : zw_I (zw_J (zw_I (zw_I (zw_I (zw_I (zw_I (zw_I (zw_I (zw_I (zw_I (zw_I (zw_I (zw_I (zw_I (zw_I (zw_I (zw_I (zw_I (zw_I (zw_I H 72 0 (Int32.ofInt 0)) 72 22 (Int32.ofInt 0)) 72 24 (Int32.ofInt (-1))) 72 23 (Int32.ofInt 0)) 72 26 (x)) 72 27 (Int32.ofInt 0)) 72 34 (Int32.ofInt 6)) 72 35 (Int32.ofInt 6)) 72 36 (Int32.ofInt 0)) 72 37 (Int32.ofInt 0)) 72 38 (Int32.ofInt 0)) 72 39 (Int32.ofInt 0)) 72 40 (Int32.ofInt 0)) 72 41 (Int32.ofInt 0)) 72 42 (Int32.ofInt 0)) 72 43 (Int32.ofInt 2)) 72 44 (Int32.ofInt 5)) 72 48 (Int32.ofInt 0)) 72 49 (Int32.ofInt 0)) 72 51 (Int64.ofNat 0)) 72 45 (Int32.ofInt 0) = H1 at dT jT fT v22 v23 v27 v34 v35 v41 v45 v26 v36 v38 v39 v40 v48 v49 v51 v81 v0 v24 v80 v42 v43 v44 fQ ⊢
      refine ysr_fill (H0 := H) (H1 := H1) ?_ 64 H1 (zp_st1 (zp_args 0 [.inr (.inr (some 73)), .inl x]) 2 (.inl (Int32.ofInt 0))) (Int32.ofInt 0) ⟨⟨dT, jT, fT, fun _ => rfl⟩, fun _ _ => rfl, rfl, fun c hc => absurd hc (by show ¬ ((c : Int) < 0); omega)⟩ (zw_gt rfl rfl rfl) zw_g1 (by decide) (by decide)
      intro K lv hN l0
      obtain ⟨⟨b, kJ, kF, k72⟩, k81, kL, k83⟩ := hN
      have WK := zT_Wd b
      have b2 := zT_putf (k := 50) (x := Int32.ofInt 1) b (fun r hr => by cases hr; exact ⟨by decide, by decide⟩) rfl trivial
      have f : ∀ k, Nat.beq k 50 = false → (zw_I K 72 50 (Int32.ofInt 1)).2.1 72 k = H1.2.1 72 k := fun k hk => (zw_ne rfl (by rw [hk]; rfl)).trans (k72 k)
      have hBK : zk_Bs zR zg zJ (zw_I K 72 50 (Int32.ofInt 1)) := zT_up b2 (zJ_I rfl kJ) (by
        unfold zR_cc
        rw [f 34 rfl, f 35 rfl, v34, v35]
        exact fun _ => by decide)
      obtain ⟨R, c1, c2, c3, c4, c5⟩ := zx_goes (L := L) (σ := σ) (d := d + 10) hBK
      have e45 := zx_fe c3 45 rfl rfl rfl
      have e22 := zx_fe c3 22 rfl rfl rfl
      have e41 := zx_fe c3 41 rfl rfl rfl
      rw [f 45 rfl, v45] at e45
      rw [f 22 rfl, v22] at e22
      rw [f 41 rfl, v41] at e41
      rw [f 27 rfl, v27] at c4
      have z0 : (Int32.ofInt 0).toInt = 0 := rfl
      have WR := zR_Wd (zR_dn c2)
      have g23 : ((zw_I K 72 50 (Int32.ofInt 1)).2.1 72 23).toInt = 0 := by rw [f 23 rfl, v23]; rfl
      have hTT : yr_T Tx nx (zw_I K 72 50 (Int32.ofInt 1)) := by
        refine ⟨by omega, ?_, fun k hk => ?_, Or.inl ?_⟩
        · rw [f 26 rfl, v26]
          exact hn
        · rw [y_ne (fun h9 => absurd h9.1 (by decide)), k81 81 (by decide), v81]
          exact hTx k hk
        · rw [f 24 rfl, v24]
          rfl
      obtain ⟨_, y1, R9, rfl, y2, y3, y4⟩ := yr_goes (L := L) (σ := σ) (d := d) (p := 0) hby ⟨zR_T hBK, hTT⟩ (by rw [f 27 rfl, v27]; rfl) (Nat.zero_le _)
      have e9 := zp_Call_u c1 y1
      have e9 : R = R9 := by cases e9; rfl
      subst e9
      have D0 : yDr y00d (zw_I K 72 50 (Int32.ofInt 1)) := by
        refine ⟨?_, ?_, ?_, ?_, ?_, ?_, ?_, ?_, ?_, ?_, fun c hc => ?_, by decide, by decide⟩
        · rw [f 34 rfl, v34]; rfl
        · rw [f 35 rfl, v35]; rfl
        · rw [f 36 rfl, v36]; rfl
        · rw [f 38 rfl, v38]; rfl
        · rw [f 39 rfl, v39]; rfl
        · rw [f 40 rfl, v40]; rfl
        · rw [f 41 rfl, v41]; rfl
        · rw [f 48 rfl, v48]; rfl
        · rw [f 49 rfl, v49]; rfl
        · show K.2.2.1 72 51 = 0
          rw [kL]
          exact v51
        · rw [y_ne (fun h9 => absurd h9.1 (by decide)), k83 c (by omega)]
          exact ⟨fun _ => y00d_f (by omega), fun _ => rfl⟩
      have X0 : yXd yRl [] y00d (zw_I K 72 50 (Int32.ofInt 1)) := by
        intro i i1 i2 _
        rcases y00d_i i2 with rfl | rfl | rfl | ⟨i3, i4⟩
        · show ((zw_I K 72 50 (Int32.ofInt 1)).2.1 72 42).toInt = 0
          rw [f 42 rfl, v42]
          rfl
        · show ((zw_I K 72 50 (Int32.ofInt 1)).2.1 72 43).toInt = 2
          rw [f 43 rfl, v43]
          rfl
        · show ((zw_I K 72 50 (Int32.ofInt 1)).2.1 72 44).toInt = 5
          rw [f 44 rfl, v44]
          rfl
        · obtain ⟨c, rfl⟩ : ∃ c, i = 100 + c := ⟨i - 100, by omega⟩
          rw [yQ_100 (by omega), y00d_c (by omega), y_ne (fun h9 => absurd (show (83 : Nat) = 72 from h9.1) (by decide))]
          exact k83 c (by omega)
      have hJR : ysr_J Tx nx H R := ⟨⟨y00d, Or.inl ⟨(zx_fe y3 23 rfl rfl rfl).trans g23, 0, ⟨y2.2, y4, Nat.zero_le _⟩, yR2_r⟩, fun _ => ⟨⟨yDr_m y3 D0, yXr_F y3 rfl X0⟩, by
        rw [zx_fe y3 50 rfl rfl rfl, show (zw_I K 72 50 (Int32.ofInt 1)).2.1 72 50 = Int32.ofInt 1 from zw_eq]
        rfl⟩⟩, (zx_fe y3 0 rfl rfl rfl).trans (by rw [f 0 rfl, v0]; rfl), yQr_t (yQr_I (p := 72) (k := 50) (x := Int32.ofInt 1) ⟨fun p k hp => (congrFun (k81 p (yQb_0 hp).2.2.1) k).trans (fQ.1 p k hp), (congrFun (congrFun kL 72) 12).trans fQ.2⟩ rfl) (yQr_F y3 rfl rfl rfl)⟩
      refine zw_ld (n := 1) (k := 0) (f := zp_isR) (pc' := 156) rfl rfl l0 rfl rfl ?_
      refine zw_s (pc' := 157) rfl rfl ?_
      refine zw_pI (q := 72) (pc' := 160) WK rfl rfl rfl rfl (rfl) rfl ?_
      refine zw_ld (n := 1) (k := 0) (f := zp_isR) (pc' := 161) rfl rfl l0 rfl rfl ?_
      refine zw_cn (pc' := 164) (zw_cv (q := 72) (Y := zm_171) WK.1 rfl rfl zm_171_t rfl rfl) rfl rfl rfl rfl rfl (c1) ?_
      refine ysr_L hby (fun H2 lv2 => ysr_fin (d := d + 11) H2 lv2) _ R _ rfl ⟨c2, zf_t (zf_I kF rfl) (zf_of c3 rfl rfl), by omega, by omega, fun _ => ⟨fun r hr => ?_, fun _ => by omega⟩⟩ hJR l0
      omega

set_option maxHeartbeats 4000000 in
set_option maxRecDepth 8000 in
theorem ysr_no {L : Nat} {σ : Nat → Int32} {d : Nat} {H : zp_H} {x : Int32} (W : zw_W H) (hx : ¬ (0 ≤ x.toInt ∧ x.toInt ≤ (H.2.1 72 22).toInt)) : ∃ X, zp_Call L σ (d + 2) 169 [.inr (.inr (some 73)), .inl x] H X ∧ ∃ H1 v, X = (.inl (some (.inl v)), H1) ∧ (H1.2.1 72 0).toInt = 1 ∧ H1.2.2.1 = H.2.2.1 ∧ ∀ p k, ¬ (p = 72 ∧ k = 0) → H1.2.1 p k = H.2.1 p k := by
  have t1 : (zw_I H 72 0 (Int32.ofInt 0)).2.1 72 0 = Int32.ofInt 0 := zw_eq
  have h0 : ((zw_I H 72 0 (Int32.ofInt 0)).2.1 72 0).toInt = 0 := by rw [t1]; rfl
  refine zw_met zm_169_t rfl rfl ?_
  refine zw_ld (n := 1) (k := 0) (f := zp_isR) (pc' := 1) rfl rfl rfl rfl rfl ?_
  refine zw_s (pc' := 2) rfl rfl ?_
  refine zw_pI (q := 72) (pc' := 5) W rfl rfl rfl rfl rfl rfl ?_
  refine zw_ld (n := 1) (k := 0) (f := zp_isR) (pc' := 6) rfl rfl rfl rfl rfl ?_
  refine zw_ld (n := 1) (k := 1) (f := zp_isI) (pc' := 7) rfl rfl rfl rfl rfl ?_
  refine zw_blt1 (g := 22) (pc' := 10) rfl rfl rfl rfl (fun h1 => ?_) (fun h1 => ?_)
  · refine zw_s (pc' := 23) rfl rfl ?_
    refine zw_s (pc' := 24) rfl rfl ?_
    refine zw_c (pc' := 27) (zw_cv (q := 72) (Y := zm_170) W.1 rfl rfl zm_170_t rfl rfl) rfl rfl rfl rfl rfl (zq_right0 (H := zw_I H 72 0 (Int32.ofInt 0)) W h0 (by decide)) ?_
    refine zw_bne1 (g := 32) (pc' := 30) rfl rfl rfl (rfl : _ = (0 : Int)) (fun h9 => absurd h9 (by decide)) (fun hb => ?_)
    refine zw_s (pc' := 31) rfl rfl ?_
    refine zw_ri rfl rfl ?_
    exact ⟨_, _, rfl, congrArg Int32.toInt zw_eq, rfl, fun p k hp => (y_ne (fun h9 => hp h9)).trans (y_ne (fun h9 => hp h9))⟩
  · refine zw_ld (n := 1) (k := 1) (f := zp_isI) (pc' := 11) rfl rfl rfl rfl rfl ?_
    refine zw_ld (n := 1) (k := 0) (f := zp_isR) (pc' := 12) rfl rfl rfl rfl rfl ?_
    refine zw_gI (q := 72) (pc' := 15) W rfl rfl rfl rfl (zw_ne rfl rfl) rfl ?_
    refine zw_bgt2 (g := 22) (pc' := 18) rfl rfl rfl rfl rfl (fun h2 => ?_) (fun h2 => ?_)
    · refine zw_s (pc' := 23) rfl rfl ?_
      refine zw_s (pc' := 24) rfl rfl ?_
      refine zw_c (pc' := 27) (zw_cv (q := 72) (Y := zm_170) W.1 rfl rfl zm_170_t rfl rfl) rfl rfl rfl rfl rfl (zq_right0 (H := zw_I H 72 0 (Int32.ofInt 0)) W h0 (by decide)) ?_
      refine zw_bne1 (g := 32) (pc' := 30) rfl rfl rfl (rfl : _ = (0 : Int)) (fun h9 => absurd h9 (by decide)) (fun hb => ?_)
      refine zw_s (pc' := 31) rfl rfl ?_
      refine zw_ri rfl rfl ?_
      exact ⟨_, _, rfl, congrArg Int32.toInt zw_eq, rfl, fun p k hp => (y_ne (fun h9 => hp h9)).trans (y_ne (fun h9 => hp h9))⟩
    · exact absurd ⟨h1, h2⟩ hx
end
