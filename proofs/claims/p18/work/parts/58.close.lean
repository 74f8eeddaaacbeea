/-! ===== the reference reads an expression: brackets close, the whole ===== -/
theorem zx_phi_i {H H1 : zp_H} (h1 : (H1.2.1 72 27).toInt = (H.2.1 72 27).toInt) (h2 : (H1.2.1 72 28).toInt = (H.2.1 72 28).toInt) : zx_phi H1 = zx_phi H := by
  unfold zx_phi
  rw [h1, h2]
theorem zx_S_a {a e o : Nat} {H : zp_H} (h : zx_S a e o H) (h0 : (H.2.1 72 23).toInt = 0) : (a : Int) ≤ (H.2.1 72 45).toInt := by
  obtain ⟨_, _, _, _, n, g5⟩ := h.2.2.2 h0
  have := zr_run_le g5
  have t0 := (zx_top h).1
  have : a ≤ (H.2.1 72 45).toInt.toNat := this
  omega
theorem zx_T_92 {a e o j : Nat} {x : Int32} {H : zp_H} (h : zx_T a e o H) (hx : x = Int32.ofInt 0 ∨ x = Int32.ofInt 1) : zx_T a e o (zw_I H 92 j (zp_nar 2 x)) ∧ zx_F a H (zw_I H 92 j (zp_nar 2 x)) ∧ zx_phi (zw_I H 92 j (zp_nar 2 x)) = zx_phi H ∧ (zw_I H 92 j (zp_nar 2 x)).2.1 72 45 = H.2.1 72 45 := by
  obtain ⟨h1, h2, h3, h4, h5, h6, h7, h8⟩ := h
  have f : ∀ k, (zw_I H 92 j (zp_nar 2 x)).2.1 72 k = H.2.1 72 k := fun k => zw_ne rfl rfl
  have f90 : (zw_I H 92 j (zp_nar 2 x)).2.1 90 = H.2.1 90 := funext (fun i => zw_ne rfl rfl)
  have f91 : (zw_I H 92 j (zp_nar 2 x)).2.1 91 = H.2.1 91 := funext (fun i => zw_ne rfl rfl)
  have hphi : zx_phi (zw_I H 92 j (zp_nar 2 x)) = zx_phi H := zx_phi_e (f 27) (f 28)
  have b1 := zR_dn h1
  have b2 := zR_puta (p := 92) (j := j) (x := zp_nar 2 x) (t := 2) (n := 9) b1 rfl (fun r hr => by
    have hr : [((0 : Int), (1 : Int))][j % 1]? = some r := hr
    rw [Nat.mod_one] at hr
    cases hr
    rcases hx with rfl | rfl
    · exact ⟨by decide, by decide⟩
    · exact ⟨by decide, by decide⟩) (zJ_I rfl b1.2.2.2.2.2.2.2)
  refine ⟨⟨zR_up b2 ?_, by rw [f]; exact h2, by rw [f]; exact h3, by rw [hphi, f, f]; exact h4, by rw [hphi, f]; exact h5, by rw [f, f, f91]; exact h6, by rw [f, f91]; exact h7, by rw [f, f, f90, f91]; exact h8⟩, ⟨zk_Fr_I (zk_Fr_r H) rfl rfl, fun i _ => by rw [f90]⟩, hphi, f 45⟩
  have c := zR_cn h1
  unfold zR_cc
  rw [f, f, f]
  exact c
def zm_202 : za_MI := (yX12_isOpened, prog_14_method_33_code, 2, (some FieldType.boolean), 12, 0, 0, [], za_i202)
theorem zm_202_t : za_MT 202 = some zm_202 := rfl
def zm_203 : za_MI := (yX12_closes, prog_14_method_34_code, 1, none, 12, 0, 0, [], za_i203)
theorem zm_203_t : za_MT 203 = some zm_203 := rfl
theorem zx_isoL {L : Nat} {σ : Nat → Int32} {d : Nat} {H : zp_H} (W : zw_W H) (hw : 0 ≤ (H.2.1 72 46).toInt ∧ (H.2.1 72 46).toInt ≤ 700) : ∀ (n : Nat) (lv : zp_LV) (x : Int32), (x.toInt + 1).toNat = n → zp_get lv 0 = some (.inr (.inr (some 73))) → zp_get lv 1 = some (.inl x) → -1 ≤ x.toInt ∧ x.toInt < (H.2.1 72 46).toInt → zs_Safe L σ (fun X => ∃ v, X = (.inl (some (.inl v)), H) ∧ ((v = Int32.ofInt 1 ∧ ∃ i, i < (H.2.1 72 46).toInt.toNat ∧ 14 ≤ (H.2.1 91 i).toInt) ∨ v = Int32.ofInt 0)) zm_202 [] (d + 1) (7, lv, [], H, (0, 0)) := by
  intro n
  induction n with
  | zero =>
    intro lv x hn l0 l1 hx
    refine zw_ld (n := 1) (k := 1) (f := zp_isI) (pc' := 8) rfl rfl l1 rfl rfl ?_
    refine zw_blt1 (g := 29) (pc' := 11) rfl rfl rfl rfl (fun hb => ?_) (fun hb => ?_)
    · refine zw_ld (n := 1) (k := 1) (f := zp_isI) (pc' := 30) rfl rfl l1 rfl rfl ?_
      refine zw_blt1 (g := 37) (pc' := 33) rfl rfl rfl rfl (fun hc => ?_) (fun hc => ?_)
      · refine zw_s (pc' := 38) rfl rfl ?_
        refine zw_rz rfl rfl (by decide) ?_
        exact ⟨_, rfl, Or.inr rfl⟩
      · omega
    · omega
  | succ n ih =>
    intro lv x hn l0 l1 hx
    have e1 : (x + Int32.ofInt (-1)).toInt = x.toInt - 1 := by
      have h1 : (Int32.ofInt (-1)).toInt = -1 := rfl
      rw [zn_add (by omega) (by omega), h1]
      omega
    refine zw_ld (n := 1) (k := 1) (f := zp_isI) (pc' := 8) rfl rfl l1 rfl rfl ?_
    refine zw_blt1 (g := 29) (pc' := 11) rfl rfl rfl rfl (fun hb => ?_) (fun hb => ?_)
    · omega
    · refine zw_ld (n := 1) (k := 0) (f := zp_isR) (pc' := 12) rfl rfl l0 rfl rfl ?_
      refine zw_gR (q := 72) (pc' := 15) W rfl rfl rfl rfl (W.2 72 60 _ rfl) rfl ?_
      refine zw_ld (n := 1) (k := 1) (f := zp_isI) (pc' := 16) rfl rfl l1 rfl rfl ?_
      refine zw_ia (q := 91) (pc' := 17) W rfl rfl (by decide) (⟨hb, by show _ < ((800 : Nat) : Int); omega⟩) rfl rfl ?_
      by_cases ho : 14 ≤ (H.2.1 91 x.toInt.toNat).toInt
      · refine zw_c (pc' := 20) (zw_cs (Y := zm_200) rfl rfl zm_200_t) rfl rfl rfl rfl rfl (zq_open1 W ho) ?_
        refine zw_bne1 (g := 29) (pc' := 23) rfl rfl rfl (rfl : _ = (1 : Int)) (fun hb => ?_) (fun h9 => absurd h9 (by decide))
        refine zw_ld (n := 1) (k := 1) (f := zp_isI) (pc' := 30) rfl rfl l1 rfl rfl ?_
        refine zw_blt1 (g := 37) (pc' := 33) rfl rfl rfl rfl (fun hc => ?_) (fun hc => ?_)
        · omega
        · refine zw_s (pc' := 34) rfl rfl ?_
          refine zw_s (pc' := 38) rfl rfl ?_
          refine zw_rz rfl rfl (by decide) ?_
          exact ⟨_, rfl, Or.inl ⟨rfl, x.toInt.toNat, by omega, ho⟩⟩
      · refine zw_c (pc' := 20) (zw_cs (Y := zm_200) rfl rfl zm_200_t) rfl rfl rfl rfl rfl (zq_open0 W (by omega)) ?_
        refine zw_bne1 (g := 29) (pc' := 23) rfl rfl rfl (rfl : _ = (0 : Int)) (fun h9 => absurd h9 (by decide)) (fun hb => ?_)
        refine zw_ii (pc' := 26) rfl l1 rfl rfl ?_
        refine zw_s (pc' := 7) rfl rfl ?_
        exact ih _ _ (by omega) (zw_gt l0 rfl rfl) zw_g1 (by omega)

theorem zx_isOpened {L : Nat} {σ : Nat → Int32} {d : Nat} {H : zp_H} (W : zw_W H) (hw : 0 ≤ (H.2.1 72 46).toInt ∧ (H.2.1 72 46).toInt ≤ 700) : ∃ X, zp_Call L σ (d + 2) 202 [.inr (.inr (some 73))] H X ∧ (fun X => ∃ v, X = (.inl (some (.inl v)), H) ∧ ((v = Int32.ofInt 1 ∧ ∃ i, i < (H.2.1 72 46).toInt.toNat ∧ 14 ≤ (H.2.1 91 i).toInt) ∨ v = Int32.ofInt 0)) X := by
  have e1 : (H.2.1 72 46 - Int32.ofInt 1).toInt = (H.2.1 72 46).toInt - 1 := zw_m1 (by omega)
  refine zw_met zm_202_t rfl rfl ?_
  refine zw_ld (n := 1) (k := 0) (f := zp_isR) (pc' := 1) rfl rfl rfl rfl rfl ?_
  refine zw_gI (q := 72) (pc' := 4) W rfl rfl rfl rfl rfl rfl ?_
  refine zw_s (pc' := 5) rfl rfl ?_
  refine zw_isub (pc' := 6) rfl rfl ?_
  refine zw_st (n := 1) (k := 1) (f := zp_isI) (pc' := 7) rfl rfl rfl rfl rfl ?_
  exact zx_isoL W hw _ _ _ rfl (zw_gt rfl rfl rfl) zw_g1 ⟨by omega, by omega⟩

theorem zx_clT {a : Nat} {H : zp_H} (h : zx_S a 1 0 H) (h0 : (H.2.1 72 23).toInt = 0) (hs : (H.2.1 72 28).toInt ≠ 0) (hw : 0 < (H.2.1 72 46).toInt) (ho : 14 ≤ (H.2.1 91 ((H.2.1 72 46).toInt - 1).toNat).toInt) : zx_T a 1 0 (zw_I (zw_I H 72 46 (H.2.1 72 46 - Int32.ofInt 1)) 72 47 (H.2.1 72 47 - Int32.ofInt 1)) := by
  obtain ⟨t0, w0⟩ := zx_top h
  obtain ⟨hB, h2, h3, hg⟩ := h
  obtain ⟨g1, g2, g3, g4, n, g5⟩ := hg h0
  have hd0 := zR_fr1 (zR_dn hB) (k := 47) (r := (0, 6)) rfl rfl
  have hd0 : 0 ≤ (H.2.1 72 47).toInt ∧ (H.2.1 72 47).toInt ≤ 6 := hd0
  have e1 : (H.2.1 72 46 - Int32.ofInt 1).toInt = (H.2.1 72 46).toInt - 1 := zw_m1 (by omega)
  have e2 : (H.2.1 72 47 - Int32.ofInt 1).toInt = (H.2.1 72 47).toInt - 1 := zw_m1 (by omega)
  have hop := zr_opn_1 (w := H.2.1 91) (n := (H.2.1 72 46).toInt.toNat) (i := ((H.2.1 72 46).toInt - 1).toNat) (by omega) ho
  have en : (H.2.1 72 46).toInt.toNat = ((H.2.1 72 46).toInt - 1).toNat + 1 := by omega
  have hO : zr_opn (H.2.1 91) (H.2.1 72 46).toInt.toNat = zr_opn (H.2.1 91) ((H.2.1 72 46).toInt - 1).toNat + 1 := by
    rw [en]
    show zr_opn _ _ + _ = _
    rw [if_pos ho]
  have hN : zr_bin (H.2.1 91) (H.2.1 72 46).toInt.toNat = zr_bin (H.2.1 91) ((H.2.1 72 46).toInt - 1).toNat := by
    rw [en]
    show zr_bin _ _ + _ = _
    rw [if_neg (by omega)]
    rfl
  generalize hK : zw_I (zw_I H 72 46 (H.2.1 72 46 - Int32.ofInt 1)) 72 47 (H.2.1 72 47 - Int32.ofInt 1) = K
  have b0 := zR_dn hB
  have b1 := zR_putf (k := 46) (x := H.2.1 72 46 - Int32.ofInt 1) b0 (fun r hr => by cases hr; exact ⟨by show (0 : Int) ≤ _; omega, by show _ ≤ (800 : Int); omega⟩) rfl (zJ_I rfl b0.2.2.2.2.2.2.2)
  have b2 := zR_putf (k := 47) (x := H.2.1 72 47 - Int32.ofInt 1) b1 (fun r hr => by cases hr; exact ⟨by show (0 : Int) ≤ _; omega, by show _ ≤ (6 : Int); omega⟩) rfl (zJ_I rfl b1.2.2.2.2.2.2.2)
  rw [hK] at b2
  have f : ∀ k, Nat.beq k 46 = false → Nat.beq k 47 = false → K.2.1 72 k = H.2.1 72 k := fun k hk hk2 => by rw [← hK]; exact zw_ne (zw_ne rfl (by rw [hk]; rfl)) (by rw [hk2]; rfl)
  have f46 : K.2.1 72 46 = H.2.1 72 46 - Int32.ofInt 1 := by rw [← hK]; exact zw_ne zw_eq rfl
  have f47 : K.2.1 72 47 = H.2.1 72 47 - Int32.ofInt 1 := by rw [← hK]; exact zw_eq
  have f90 : K.2.1 90 = H.2.1 90 := by rw [← hK]; exact funext (fun i => zw_ne (zw_ne rfl rfl) rfl)
  have f91 : K.2.1 91 = H.2.1 91 := by rw [← hK]; exact funext (fun i => zw_ne (zw_ne rfl rfl) rfl)
  have hphi : zx_phi K = zx_phi H := zx_phi_e (f 27 rfl rfl) (f 28 rfl rfl)
  refine ⟨zR_up b2 ?_, by rw [f 23 rfl rfl]; exact h0, by rw [f 28 rfl rfl]; exact hs, by rw [hphi, f 45 rfl rfl, f46, e1]; omega, by rw [hphi, f46, e1]; omega, ?_, ?_, n, ?_⟩
  · have c := zR_cn hB
    unfold zR_cc
    rw [f 23 rfl rfl, f 34 rfl rfl, f 35 rfl rfl]
    exact c
  · rw [f47, e2, f91, f46, e1]; omega
  · rw [f46, e1, f91]
    intro i hi
    exact g4 i (by omega)
  · rw [f90, f91, f 45 rfl rfl, f46, e1, ← hN]
    exact g5

theorem zx_closes {L : Nat} {σ : Nat → Int32} {d a : Nat} {H : zp_H} (h : zx_S a 1 0 H) (h0 : (H.2.1 72 23).toInt = 0) (hs : (H.2.1 72 28).toInt ≠ 0) (hop : 1 ≤ zr_opn (H.2.1 91) (H.2.1 72 46).toInt.toNat) : ∃ X, zp_Call L σ (d + 4) 203 [.inr (.inr (some 73))] H X ∧ ∃ H1, X = (.inl none, H1) ∧ zx_S a 1 0 H1 ∧ zx_F a H H1 ∧ (H1.2.1 72 23).toInt = 0 ∧ zx_phi H + 2 ≤ zx_phi H1 := by
  have W := zR_Wd (zR_dn h.1)
  refine zw_met zm_203_t rfl rfl ?_
  obtain ⟨_, c1, K, rfl, c2, c3, c4, c5, c6⟩ := zx_drops (L := L) (σ := σ) (d := d) (y := Int32.ofInt 0) h (zx_S_a h h0)
  have WK := zR_Wd (zR_dn c2.1)
  have k23 := zx_fe c3.1 23 rfl rfl rfl
  have k27 := zx_fe c3.1 27 rfl rfl rfl
  have k28 := zx_fe c3.1 28 rfl rfl rfl
  have hphi := zx_phi_i k27 k28
  obtain ⟨t0, w0⟩ := zx_top c2
  have hw : 0 < (K.2.1 72 46).toInt := by
    by_cases h9 : (K.2.1 72 46).toInt = 0
    · have h8 : zr_opn (K.2.1 91) (K.2.1 72 46).toInt.toNat = 0 := by rw [h9]; rfl
      omega
    · omega
  have ho : 14 ≤ (K.2.1 91 ((K.2.1 72 46).toInt - 1).toNat).toInt := by
    rcases c6 (by decide) with h9 | h9
    · omega
    · exact h9
  have hT := zx_clT c2 (by omega) (by omega) hw ho
  obtain ⟨K1, d1, d2, d3, d4, d5, d6⟩ := zx_T_goes (L := L) (σ := σ) (d := d + 1) hT
  have e45 : (zw_I (zw_I K 72 46 (K.2.1 72 46 - Int32.ofInt 1)) 72 47 (K.2.1 72 47 - Int32.ofInt 1)).2.1 72 45 = K.2.1 72 45 := zw_ne (zw_ne rfl rfl) rfl
  have eph : zx_phi (zw_I (zw_I K 72 46 (K.2.1 72 46 - Int32.ofInt 1)) 72 47 (K.2.1 72 47 - Int32.ofInt 1)) = zx_phi K := zx_phi_e (zw_ne (zw_ne rfl rfl) rfl) (zw_ne (zw_ne rfl rfl) rfl)
  refine zw_ld (n := 1) (k := 0) (f := zp_isR) (pc' := 1) rfl rfl rfl rfl rfl ?_
  refine zw_s (pc' := 2) rfl rfl ?_
  refine zw_cn (pc' := 5) (zw_cv (q := 72) (Y := zm_199) W.1 rfl rfl zm_199_t rfl rfl) rfl rfl rfl rfl rfl (c1) ?_
  refine zw_ld (n := 1) (k := 0) (f := zp_isR) (pc' := 6) rfl rfl rfl rfl rfl ?_
  refine zw_s (pc' := 7) rfl rfl ?_
  refine zw_gI (q := 72) (pc' := 10) WK rfl rfl rfl rfl rfl rfl ?_
  refine zw_s (pc' := 11) rfl rfl ?_
  refine zw_isub (pc' := 12) rfl rfl ?_
  refine zw_pI (q := 72) (pc' := 15) WK rfl rfl rfl rfl rfl rfl ?_
  refine zw_ld (n := 1) (k := 0) (f := zp_isR) (pc' := 16) rfl rfl rfl rfl rfl ?_
  refine zw_s (pc' := 17) rfl rfl ?_
  refine zw_gI (q := 72) (pc' := 20) WK rfl rfl rfl rfl (zw_ne rfl rfl) rfl ?_
  refine zw_s (pc' := 21) rfl rfl ?_
  refine zw_isub (pc' := 22) rfl rfl ?_
  refine zw_pI (q := 72) (pc' := 25) WK rfl rfl rfl rfl rfl rfl ?_
  refine zw_ld (n := 1) (k := 0) (f := zp_isR) (pc' := 26) rfl rfl rfl rfl rfl ?_
  refine zw_cn (pc' := 29) (zw_cv (q := 72) (Y := zm_171) WK.1 rfl rfl zm_171_t rfl rfl) rfl rfl rfl rfl rfl (d1) ?_
  refine zw_rn rfl rfl ?_
  exact ⟨K1, rfl, d2, zx_F_t (zx_Fd_F c3) (zx_F_t ⟨zk_Fr_I (zk_Fr_I (zk_Fr_r K) rfl rfl) rfl rfl, fun i _ => zw_ne (zw_ne rfl rfl) rfl⟩ d3), d4, by omega⟩
