def zm_169 : za_MI := (yX12_sea, prog_14_method_42_code, 3, (some FieldType.int), 12, 0, 0, [], za_i169)
theorem zm_169_t : za_MT 169 = some zm_169 := rfl
/-! ===== the reference: sea, the loop over lines ===== -/
def zse_P (H0 : zp_H) (X : zp_X) : Prop := ∃ H1 v, X = (.inl (some (.inl v)), H1) ∧ zk_Bs zR zg zJ H1 ∧ zf_72 H0 H1 ∧ (H1.2.1 72 22).toInt = 0
def zse_I (H0 H : zp_H) : Prop := zk_Bs zR zg zJ H ∧ zf_72 H0 H ∧ (H.2.1 72 45).toInt ≤ 1402 ∧ (H.2.1 72 22).toInt = 0 ∧ ((H.2.1 72 23).toInt = 0 → zl_J H ∧ ((H.2.1 72 28).toInt ≠ 0 → (H.2.1 72 45).toInt ≤ zx_phi H))
/-- what stands at 212: all is well (shown further on) -/
def zse_G (L : Nat) (σ : Nat → Int32) (d : Nat) (H0 : zp_H) : Prop := ∀ (H : zp_H) (lv : zp_LV), zse_I H0 H → (H.2.1 72 23).toInt = 0 → zp_get lv 0 = some (.inr (.inr (some 73))) → zs_Safe L σ (zse_P H0) zm_169 [] d (212, lv, [], H, (0, 0))

set_option maxRecDepth 8000 in
theorem zse_E {L : Nat} {σ : Nat → Int32} {d : Nat} {H0 H : zp_H} {lv : zp_LV} (hG : zse_G L σ (d + 12) H0) (hI : zse_I H0 H) (l0 : zp_get lv 0 = some (.inr (.inr (some 73)))) : zs_Safe L σ (zse_P H0) zm_169 [] (d + 12) (190, lv, [], H, (0, 0)) := by
  obtain ⟨hB, hF, h45, h22, hg0⟩ := hI
  have W := zR_Wd (zR_dn hB)
  refine zw_ld (n := 1) (k := 0) (f := zp_isR) (pc' := 191) rfl rfl l0 rfl rfl ?_
  by_cases hg : (H.2.1 72 23).toInt = 0
  · refine zw_c (pc' := 194) (zw_cv (q := 72) (Y := zm_175) W.1 rfl rfl zm_175_t rfl rfl) rfl rfl rfl rfl rfl (zq_good1 W hg) ?_
    refine zw_bne1 (g := 212) (pc' := 197) rfl rfl rfl (rfl : _ = (1 : Int)) (fun hb => ?_) (fun h9 => absurd h9 (by decide))
    exact hG H lv ⟨hB, hF, h45, h22, hg0⟩ hg l0
  · refine zw_c (pc' := 194) (zw_cv (q := 72) (Y := zm_175) W.1 rfl rfl zm_175_t rfl rfl) rfl rfl rfl rfl rfl (zq_good0 W hg) ?_
    refine zw_bne1 (g := 212) (pc' := 197) rfl rfl rfl (rfl : _ = (0 : Int)) (fun h9 => absurd h9 (by decide)) (fun hb => ?_)
    refine zw_ld (n := 1) (k := 0) (f := zp_isR) (pc' := 198) rfl rfl l0 rfl rfl ?_
    refine zw_gR (q := 72) (pc' := 201) W rfl rfl rfl rfl (W.2 72 25 _ rfl) rfl ?_
    refine zw_s (pc' := 202) rfl rfl ?_
    refine zw_s (pc' := 203) rfl rfl ?_
    refine zw_ia (q := 82) (pc' := 204) W rfl rfl (by decide) (⟨by decide, by decide⟩) rfl rfl ?_
    refine zw_s (pc' := 205) rfl rfl ?_
    refine zw_iadd (pc' := 206) rfl rfl ?_
    refine zw_is (q := 82) (pc' := 207) W rfl rfl (by decide) (⟨by decide, by decide⟩) rfl ?_
    refine zw_ld (n := 1) (k := 0) (f := zp_isR) (pc' := 208) rfl rfl l0 rfl rfl ?_
    refine zw_gI (q := 72) (pc' := 211) W rfl rfl rfl rfl (zw_ne rfl rfl) rfl ?_
    refine zw_ri rfl rfl ?_
    have e22 : (zw_I H 82 (Int32.ofInt 0).toInt.toNat (zp_nar 0 (H.2.1 82 (Int32.ofInt 0).toInt.toNat + Int32.ofInt 1))).2.1 72 22 = H.2.1 72 22 := zw_ne rfl rfl
    refine ⟨_, _, rfl, ?_, zf_I hF rfl, by rw [e22]; exact h22⟩
    exact zR_up (zR_puta (p := 82) (j := 0) (x := zp_nar 0 (H.2.1 82 (Int32.ofInt 0).toInt.toNat + Int32.ofInt 1)) (t := 0) (n := 2) (zR_dn hB) rfl (fun r hr => by cases hr; exact ⟨Int32.le_toInt _, Int32.toInt_le _⟩) (zJ_I rfl hB.2.2.2.2.2.2.2)) (fun h9 => zR_cn (H := H) hB h9)

set_option maxRecDepth 8000 in
theorem zse_X {L : Nat} {σ : Nat → Int32} {d : Nat} {H0 H : zp_H} {lv : zp_LV} (hG : zse_G L σ (d + 12) H0) (hI : zse_I H0 H) (hx : (H.2.1 72 23).toInt ≠ 0 ∨ (H.2.1 72 28).toInt = 0) (l0 : zp_get lv 0 = some (.inr (.inr (some 73)))) : zs_Safe L σ (zse_P H0) zm_169 [] (d + 12) (164, lv, [], H, (0, 0)) := by
  have W := zR_Wd (zR_dn hI.1)
  refine zw_ld (n := 1) (k := 0) (f := zp_isR) (pc' := 165) rfl rfl l0 rfl rfl ?_
  by_cases hg : (H.2.1 72 23).toInt = 0
  · refine zw_c (pc' := 168) (zw_cv (q := 72) (Y := zm_175) W.1 rfl rfl zm_175_t rfl rfl) rfl rfl rfl rfl rfl (zq_good1 W hg) ?_
    refine zw_beq1 (g := 190) (pc' := 171) rfl rfl rfl (rfl : _ = (1 : Int)) (fun h9 => absurd h9 (by decide)) (fun hb => ?_)
    refine zw_ld (n := 1) (k := 0) (f := zp_isR) (pc' := 172) rfl rfl l0 rfl rfl ?_
    refine zw_gI (q := 72) (pc' := 175) W rfl rfl rfl rfl rfl rfl ?_
    refine zw_beq1 (g := 190) (pc' := 178) rfl rfl rfl rfl (fun hs => ?_) (fun hs => ?_)
    · exact zse_E hG hI l0
    · rcases hx with hx | hx
      · exact absurd hg hx
      · exact absurd hx hs
  · refine zw_c (pc' := 168) (zw_cv (q := 72) (Y := zm_175) W.1 rfl rfl zm_175_t rfl rfl) rfl rfl rfl rfl rfl (zq_good0 W hg) ?_
    refine zw_beq1 (g := 190) (pc' := 171) rfl rfl rfl (rfl : _ = (0 : Int)) (fun hb => ?_) (fun h9 => absurd h9 (by decide))
    exact zse_E hG hI l0

set_option maxRecDepth 8000 in
theorem zse_L {L : Nat} {σ : Nat → Int32} {d : Nat} {H0 : zp_H} (hG : zse_G L σ (d + 12) H0) : ∀ (n : Nat) (H : zp_H) (lv : zp_LV), (1401 - zx_phi H).toNat = n → zse_I H0 H → zp_get lv 0 = some (.inr (.inr (some 73))) → zs_Safe L σ (zse_P H0) zm_169 [] (d + 12) (164, lv, [], H, (0, 0)) := by
  intro n
  induction n using Nat.strongRecOn with
  | ind n ih =>
    intro H lv hn hI l0
    have hI9 := hI
    obtain ⟨hB, hF, h45, h22, hg0⟩ := hI
    have W := zR_Wd (zR_dn hB)
    have pH := zx_phi_le hB
    refine zw_ld (n := 1) (k := 0) (f := zp_isR) (pc' := 165) rfl rfl l0 rfl rfl ?_
    by_cases hg : (H.2.1 72 23).toInt = 0
    · refine zw_c (pc' := 168) (zw_cv (q := 72) (Y := zm_175) W.1 rfl rfl zm_175_t rfl rfl) rfl rfl rfl rfl rfl (zq_good1 W hg) ?_
      refine zw_beq1 (g := 190) (pc' := 171) rfl rfl rfl (rfl : _ = (1 : Int)) (fun h9 => absurd h9 (by decide)) (fun hb => ?_)
      refine zw_ld (n := 1) (k := 0) (f := zp_isR) (pc' := 172) rfl rfl l0 rfl rfl ?_
      refine zw_gI (q := 72) (pc' := 175) W rfl rfl rfl rfl rfl rfl ?_
      refine zw_beq1 (g := 190) (pc' := 178) rfl rfl rfl rfl (fun hs => ?_) (fun hs => ?_)
      · exact zse_E hG hI9 l0
      · obtain ⟨j1, j2⟩ := hg0 hg
        obtain ⟨K, c1, c2, cF, c3, c4, c5⟩ := zl_line (L := L) (σ := σ) (d := d) hB hg hs j1 (j2 hs)
        have WK := zR_Wd (zR_dn c2)
        have f : ∀ k, Nat.beq k 50 = false → (zw_I K 72 50 (Int32.ofInt 0)).2.1 72 k = K.2.1 72 k := fun k hk => zw_ne rfl (by rw [hk]; rfl)
        have hphi : zx_phi (zw_I K 72 50 (Int32.ofInt 0)) = zx_phi K := zx_phi_e (f 27 rfl) (f 28 rfl)
        have hIK : zse_I H0 (zw_I K 72 50 (Int32.ofInt 0)) := by
          refine ⟨zR_up (zR_putf (k := 50) (x := Int32.ofInt 0) (zR_dn c2) (fun r hr => by cases hr; exact ⟨by decide, by decide⟩) rfl (zJ_I rfl c2.2.2.2.2.2.2.2)) (fun h9 => zR_cn (H := K) c2 h9), zf_I (zf_t hF cF) rfl, by rw [f 45 rfl]; exact c3, by rw [f 22 rfl]; omega, ?_⟩
          rw [f 23 rfl, f 28 rfl, f 45 rfl, hphi]
          intro h9
          exact ⟨(c5 h9).1, fun h8 => ((c5 h9).2 h8).1⟩
        refine zw_ld (n := 1) (k := 0) (f := zp_isR) (pc' := 179) rfl rfl l0 rfl rfl ?_
        refine zw_cn (pc' := 182) (zw_cv (q := 72) (Y := zm_176) W.1 rfl rfl zm_176_t rfl rfl) rfl rfl rfl rfl rfl (c1) ?_
        refine zw_ld (n := 1) (k := 0) (f := zp_isR) (pc' := 183) rfl rfl l0 rfl rfl ?_
        refine zw_s (pc' := 184) rfl rfl ?_
        refine zw_pI (q := 72) (pc' := 187) WK rfl rfl rfl rfl (rfl) rfl ?_
        refine zw_s (pc' := 164) rfl rfl ?_
        by_cases h1 : (K.2.1 72 23).toInt = 0
        · by_cases h2 : (K.2.1 72 28).toInt = 0
          · exact zse_X hG hIK (Or.inr (by rw [f 28 rfl]; exact h2)) l0
          · have pK := zx_phi_le c2
            have h3 := ((c5 h1).2 h2).2
            exact ih (1401 - zx_phi (zw_I K 72 50 (Int32.ofInt 0))).toNat (by rw [hphi]; omega) _ _ rfl hIK l0
        · exact zse_X hG hIK (Or.inl (by rw [f 23 rfl]; exact h1)) l0
    · refine zw_c (pc' := 168) (zw_cv (q := 72) (Y := zm_175) W.1 rfl rfl zm_175_t rfl rfl) rfl rfl rfl rfl rfl (zq_good0 W hg) ?_
      refine zw_beq1 (g := 190) (pc' := 171) rfl rfl rfl (rfl : _ = (0 : Int)) (fun hb => ?_) (fun h9 => absurd h9 (by decide))
      exact zse_E hG hI9 l0
