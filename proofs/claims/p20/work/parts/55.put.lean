section
/-! ===== the reference reads an expression: what is put, what waits ===== -/
theorem zx_S_b {a e o e' o' : Nat} {H : zp_H} (h : zx_S a e o H) (hn : (H.2.1 72 23).toInt ≠ 0) : zx_S a e' o' H := ⟨h.1, h.2.1, h.2.2.1, fun h9 => absurd h9 hn⟩
/-- as zx_S, but the word at hand is spent -/
def zx_T (a e o : Nat) (H : zp_H) : Prop := zk_Bs zR zg zJ H ∧ (H.2.1 72 23).toInt = 0 ∧ (H.2.1 72 28).toInt ≠ 0 ∧ (H.2.1 72 45).toInt + (H.2.1 72 46).toInt ≤ zx_phi H ∧ 2 * (H.2.1 72 46).toInt ≤ zx_phi H + 2 ∧ (H.2.1 72 47).toInt + o = 1 + (zr_opn (H.2.1 91) (H.2.1 72 46).toInt.toNat : Nat) ∧ (∀ i, i < (H.2.1 72 46).toInt.toNat → 3 ≤ (H.2.1 91 i).toInt ∧ (H.2.1 91 i).toInt ≤ 14) ∧ ∃ n, zr_run (H.2.1 90) n a 0 = some ((H.2.1 72 45).toInt.toNat, zr_bin (H.2.1 91) (H.2.1 72 46).toInt.toNat + e)
theorem zx_T_goes {L : Nat} {σ : Nat → Int32} {d a e o : Nat} {H : zp_H} (h : zx_T a e o H) : ∃ H1, zp_Call L σ (d + 2) 171 [.inr (.inr (some 73))] H (.inl none, H1) ∧ zx_S a e o H1 ∧ zx_F a H H1 ∧ (H1.2.1 72 23).toInt = 0 ∧ zx_phi H + 2 ≤ zx_phi H1 ∧ (H1.2.1 72 45).toInt = (H.2.1 72 45).toInt := by
  obtain ⟨h1, h2, h3, h4, h5, h6, h7, h8⟩ := h
  obtain ⟨H1, c1, c2, c3, c4, c5⟩ := zx_goes (L := L) (σ := σ) (d := d) h1
  have p0 := zx_phi_s h3
  have p1 := zx_phi_le c2
  have e23 := zx_fe c3 23 rfl rfl rfl
  have e45 := zx_fe c3 45 rfl rfl rfl
  have e46 := zx_fe c3 46 rfl rfl rfl
  have e47 := zx_fe c3 47 rfl rfl rfl
  have f90 := zx_ae c3 90 (fun _ => rfl) rfl rfl
  have f91 := zx_ae c3 91 (fun _ => rfl) rfl rfl
  have w0 := zR_fr1 (zR_dn h1) (k := 46) (r := (0, 800)) rfl rfl
  have w0 : 0 ≤ (H.2.1 72 46).toInt ∧ _ := w0
  refine ⟨H1, c1, ⟨c2, by omega, by omega, fun _ => ⟨by omega, by omega, ?_, ?_, ?_⟩⟩, ⟨zk_Fr_w rfl rfl c3, fun i _ => by rw [f90]⟩, by omega, by omega, e45⟩
  · rw [e47, e46, f91]; exact h6
  · rw [e46, f91]; exact h7
  · rw [e45, e46, f90, f91]; exact h8
def zx_pt (H : zp_H) (y : Int32) : zp_H := zw_I (zw_I H 90 (H.2.1 72 45).toInt.toNat y) 72 45 (H.2.1 72 45 + Int32.ofInt 1)
theorem zx_pt_f {H : zp_H} {y : Int32} (k : Nat) (hk : Nat.beq k 45 = false) : (zx_pt H y).2.1 72 k = H.2.1 72 k := zw_ne (zw_ne rfl rfl) (by rw [hk]; rfl)
theorem zx_pt_t {H : zp_H} {y : Int32} (h : (H.2.1 72 45).toInt < 1600) : ((zx_pt H y).2.1 72 45).toInt = (H.2.1 72 45).toInt + 1 := by
  have e : (zx_pt H y).2.1 72 45 = H.2.1 72 45 + Int32.ofInt 1 := zw_eq
  rw [e]
  exact zw_p1 (by omega)
theorem zx_pt_w {H : zp_H} {y : Int32} : (zx_pt H y).2.1 91 = H.2.1 91 := funext (fun i => zw_ne (zw_ne rfl rfl) rfl)
theorem zx_pt_c {H : zp_H} {y : Int32} {i : Nat} (h : i ≠ (H.2.1 72 45).toInt.toNat) : (zx_pt H y).2.1 90 i = H.2.1 90 i := zw_ne (zp_u_ne (fun h9 => h h9.2)) rfl
theorem zx_pt_y {H : zp_H} {y : Int32} : (zx_pt H y).2.1 90 (H.2.1 72 45).toInt.toNat = y := zw_ne zw_eq rfl
theorem zx_pt_B {H : zp_H} {y : Int32} (hB : zk_Bs zR zg zJ H) (h : (H.2.1 72 45).toInt < 1600) : zk_Bs zR zg zJ (zx_pt H y) := by
  have t0 := zR_fr1 (zR_dn hB) (k := 45) (r := (0, 1600)) rfl rfl
  have t0 : 0 ≤ (H.2.1 72 45).toInt ∧ _ := t0
  have e2 : (H.2.1 72 45 + Int32.ofInt 1).toInt = (H.2.1 72 45).toInt + 1 := zw_p1 (by omega)
  have b1 := zR_dn hB
  have b2 := zR_puta (p := 90) (j := (H.2.1 72 45).toInt.toNat) (x := y) (t := 0) (n := 1600) b1 rfl (fun r hr => by
    have e : r = (-2147483648, 2147483647) := by
      have hr : [((-2147483648 : Int), (2147483647 : Int))][(H.2.1 72 45).toInt.toNat % 1]? = some r := hr
      rw [Nat.mod_one] at hr
      exact (Option.some.inj hr).symm
    rw [e]
    exact ⟨Int32.le_toInt _, Int32.toInt_le _⟩) (zJ_I rfl b1.2.2.2.2.2.2.2)
  have b3 := zR_putf (k := 45) (x := H.2.1 72 45 + Int32.ofInt 1) b2 (fun r hr => by cases hr; exact ⟨by show (0 : Int) ≤ _; omega, by show _ ≤ (1600 : Int); omega⟩) rfl (zJ_I rfl b2.2.2.2.2.2.2.2)
  refine zR_up b3 ?_
  have c := zR_cn hB
  unfold zR_cc
  show ((zx_pt H y).2.1 72 23).toInt = 0 → _
  rw [zx_pt_f 23 rfl, zx_pt_f 34 rfl, zx_pt_f 35 rfl]
  exact c
theorem zx_pt_F {a : Nat} {H : zp_H} {y : Int32} (ha : (a : Int) ≤ (H.2.1 72 45).toInt) : zx_F a H (zx_pt H y) := ⟨zk_Fr_I (zk_Fr_I (zk_Fr_r H) rfl rfl) rfl rfl, fun i hi => zx_pt_c (by omega)⟩
/-- a number or a value is put -/
theorem zx_pp {a e o : Nat} {H : zp_H} {c y : Int32} (h : zx_S a e o H) (h0 : (H.2.1 72 23).toInt = 0) (hs : (H.2.1 72 28).toInt ≠ 0) (hc : c.toInt = 1 ∨ c.toInt = 2) : zx_T a (e + 1) o (zx_pt (zx_pt H c) y) := by
  obtain ⟨t0, w0⟩ := zx_top h
  obtain ⟨hB, h2, h3, hg⟩ := h
  obtain ⟨g1, g2, g3, g4, n, g5⟩ := hg h0
  have p1 := zx_phi_le hB
  have e1 : ((zx_pt H c).2.1 72 45).toInt = (H.2.1 72 45).toInt + 1 := zx_pt_t (by omega)
  have e2 : ((zx_pt (zx_pt H c) y).2.1 72 45).toInt = (H.2.1 72 45).toInt + 1 + 1 := by rw [zx_pt_t (by omega), e1]
  have f : ∀ k, Nat.beq k 45 = false → (zx_pt (zx_pt H c) y).2.1 72 k = H.2.1 72 k := fun k hk => (zx_pt_f k hk).trans (zx_pt_f k hk)
  have f91 : (zx_pt (zx_pt H c) y).2.1 91 = H.2.1 91 := zx_pt_w.trans zx_pt_w
  have hphi : zx_phi (zx_pt (zx_pt H c) y) = zx_phi H := by
    unfold zx_phi
    rw [f 27 rfl, f 28 rfl]
  refine ⟨zx_pt_B (zx_pt_B hB (by omega)) (by omega), by rw [f 23 rfl]; exact h0, by rw [f 28 rfl]; exact hs, by rw [hphi, f 46 rfl, e2]; omega, by rw [hphi, f 46 rfl]; omega, by rw [f 47 rfl, f91, f 46 rfl]; exact g3, by rw [f91, f 46 rfl]; exact g4, n + 1, ?_⟩
  have r1 := zr_run_c (c := H.2.1 90) (c' := (zx_pt (zx_pt H c) y).2.1 90) (b := (H.2.1 72 45).toInt.toNat) (fun i hi => (zx_pt_c (by omega)).trans (zx_pt_c (by omega))) g5 (Nat.le_refl _)
  rw [zr_run_app r1, f91, f 46 rfl, e2]
  have ey : (zx_pt (zx_pt H c) y).2.1 90 (H.2.1 72 45).toInt.toNat = c := (zx_pt_c (by omega)).trans zx_pt_y
  have et : ((H.2.1 72 45).toInt + 1 + 1).toNat = (H.2.1 72 45).toInt.toNat + 2 := by omega
  unfold zr_stp
  dsimp only
  rw [ey, et, if_pos hc]
  rfl
theorem zx_pp_b {a e o : Nat} {H : zp_H} {c y : Int32} (h : zx_S a e o H) (hn : (H.2.1 72 23).toInt ≠ 0) (hb : (H.2.1 72 45).toInt + (H.2.1 72 46).toInt ≤ 1399) {e' o' : Nat} : zx_S a e' o' (zx_pt (zx_pt H c) y) := by
  obtain ⟨t0, w0⟩ := zx_top h
  obtain ⟨hB, h2, h3, hg⟩ := h
  have e1 : ((zx_pt H c).2.1 72 45).toInt = (H.2.1 72 45).toInt + 1 := zx_pt_t (by omega)
  have e2 : ((zx_pt (zx_pt H c) y).2.1 72 45).toInt = (H.2.1 72 45).toInt + 1 + 1 := by rw [zx_pt_t (by omega), e1]
  have f : ∀ k, Nat.beq k 45 = false → (zx_pt (zx_pt H c) y).2.1 72 k = H.2.1 72 k := fun k hk => (zx_pt_f k hk).trans (zx_pt_f k hk)
  exact ⟨zx_pt_B (zx_pt_B hB (by omega)) (by omega), by rw [f 46 rfl, e2]; omega, by rw [f 46 rfl]; exact h3, fun h9 => absurd (by rw [f 23 rfl] at h9; exact h9) hn⟩
/-- one waits -/
def zx_wt (H : zp_H) (y : Int32) : zp_H := zw_I (zw_I H 91 (H.2.1 72 46).toInt.toNat y) 72 46 (H.2.1 72 46 + Int32.ofInt 1)
theorem zx_wt_f {H : zp_H} {y : Int32} (k : Nat) (hk : Nat.beq k 46 = false) : (zx_wt H y).2.1 72 k = H.2.1 72 k := zw_ne (zw_ne rfl rfl) (by rw [hk]; rfl)
theorem zx_wait {a e o : Nat} {H : zp_H} {y : Int32} (h : zx_S a e o H) (h0 : (H.2.1 72 23).toInt = 0) (hs : (H.2.1 72 28).toInt ≠ 0) (hy : 3 ≤ y.toInt ∧ y.toInt ≤ 14) :
    zx_F a H (zx_wt H y) ∧ (zx_wt H y).2.1 72 47 = H.2.1 72 47 ∧ zx_phi (zx_wt H y) = zx_phi H ∧ ∀ e' o', e = e' + (if 4 ≤ y.toInt ∧ y.toInt < 14 then 1 else 0) → o' = o + (if 14 ≤ y.toInt then 1 else 0) → zx_T a e' o' (zx_wt H y) := by
  obtain ⟨t0, w0⟩ := zx_top h
  obtain ⟨hB, h2, h3, hg⟩ := h
  obtain ⟨g1, g2, g3, g4, n, g5⟩ := hg h0
  have p1 := zx_phi_le hB
  have e1 : (H.2.1 72 46 + Int32.ofInt 1).toInt = (H.2.1 72 46).toInt + 1 := zw_p1 (by omega)
  have f46 : (zx_wt H y).2.1 72 46 = H.2.1 72 46 + Int32.ofInt 1 := zw_eq
  have f90 : (zx_wt H y).2.1 90 = H.2.1 90 := funext (fun i => zw_ne (zw_ne rfl rfl) rfl)
  have f91 : ∀ i, i ≠ (H.2.1 72 46).toInt.toNat → (zx_wt H y).2.1 91 i = H.2.1 91 i := fun i hi => zw_ne (zp_u_ne (fun h9 => hi h9.2)) rfl
  have f91t : (zx_wt H y).2.1 91 (H.2.1 72 46).toInt.toNat = y := zw_ne zw_eq rfl
  have hphi : zx_phi (zx_wt H y) = zx_phi H := by
    unfold zx_phi
    rw [zx_wt_f 27 rfl, zx_wt_f 28 rfl]
  have en : (H.2.1 72 46 + Int32.ofInt 1).toInt.toNat = (H.2.1 72 46).toInt.toNat + 1 := by omega
  have hB' : zk_Bs zR zg zJ (zx_wt H y) := by
    have b1 := zR_dn hB
    have b2 := zR_puta (p := 91) (j := (H.2.1 72 46).toInt.toNat) (x := y) (t := 0) (n := 800) b1 rfl (fun r hr => by
      have hr : [((0 : Int), (14 : Int))][(H.2.1 72 46).toInt.toNat % 1]? = some r := hr
      rw [Nat.mod_one] at hr
      cases hr
      exact ⟨by show (0 : Int) ≤ _; omega, hy.2⟩) (zJ_I rfl b1.2.2.2.2.2.2.2)
    have b3 := zR_putf (k := 46) (x := H.2.1 72 46 + Int32.ofInt 1) b2 (fun r hr => by cases hr; exact ⟨by show (0 : Int) ≤ _; omega, by show _ ≤ (800 : Int); omega⟩) rfl (zJ_I rfl b2.2.2.2.2.2.2.2)
    refine zR_up b3 ?_
    have c := zR_cn hB
    unfold zR_cc
    show ((zx_wt H y).2.1 72 23).toInt = 0 → _
    rw [zx_wt_f 23 rfl, zx_wt_f 34 rfl, zx_wt_f 35 rfl]
    exact c
  refine ⟨⟨zk_Fr_I (zk_Fr_I (zk_Fr_r H) rfl rfl) rfl rfl, fun i _ => by rw [f90]⟩, zx_wt_f 47 rfl, hphi, fun e' o' he ho => ⟨hB', by rw [zx_wt_f 23 rfl]; exact h0, by rw [zx_wt_f 28 rfl]; exact hs, by rw [hphi, zx_wt_f 45 rfl, f46, e1]; omega, by rw [hphi, f46, e1]; omega, ?_, ?_, n, ?_⟩⟩
  · rw [zx_wt_f 47 rfl, f46, en]
    show _ = 1 + ((zr_opn ((zx_wt H y).2.1 91) (H.2.1 72 46).toInt.toNat + _ : Nat) : Int)
    rw [zr_opn_c (fun i hi => f91 i (by omega)), f91t, ho]
    split <;> omega
  · rw [f46, en]
    intro i hi
    by_cases h9 : i = (H.2.1 72 46).toInt.toNat
    · rw [h9, f91t]; exact hy
    · rw [f91 i h9]
      exact g4 i (by omega)
  · rw [f90, zx_wt_f 45 rfl, f46, en, g5]
    show _ = some (_, zr_bin ((zx_wt H y).2.1 91) (H.2.1 72 46).toInt.toNat + _ + e')
    rw [zr_bin_c (fun i hi => f91 i (by omega)), f91t]
    refine congrArg (fun z => some ((H.2.1 72 45).toInt.toNat, z)) ?_
    omega
end
section
/-! ===== the reference reads an expression: a part, an operand ===== -/
/-- the word at hand (shown further on) -/
def zx_KW (L : Nat) (σ : Nat → Int32) : Prop := ∀ (d : Nat) (H : zp_H), zk_Bs zR zg zJ H → ∃ v : Int32, zp_Call L σ (d + 4) 177 [.inr (.inr (some 73))] H (.inl (some (.inl v)), H) ∧ v.toInt = zg H
theorem zg_s {H : zp_H} (h : zg H ≠ -1) : (H.2.1 72 28).toInt = 1 := by
  unfold zg at h
  by_cases h9 : (H.2.1 72 28).toInt ≠ 1 ∨ 7 < (H.2.1 72 30).toInt
  · rw [if_pos h9] at h
    exact absurd rfl h
  · omega
def zm_177 : za_MI := (yX12_knownWord, prog_14_method_16_code, 2, (some FieldType.int), 12, 0, 0, [], za_i177)
theorem zm_177_t : za_MT 177 = some zm_177 := rfl
def zm_197 : za_MI := (yX12_part, prog_14_method_30_code, 2, none, 12, 0, 0, [], za_i197)
theorem zm_197_t : za_MT 197 = some zm_197 := rfl
theorem zx_part {L : Nat} {σ : Nat → Int32} {d a : Nat} {H : zp_H} (hK : zx_KW L σ) (h : zx_S a 0 0 H) (ha : (a : Int) ≤ (H.2.1 72 45).toInt) : ∃ X, zp_Call L σ (d + 5) 197 [.inr (.inr (some 73))] H X ∧ ∃ H1, X = (.inl none, H1) ∧ zx_S a 1 0 H1 ∧ zx_F a H H1 ∧ ((H1.2.1 72 23).toInt = 0 → zx_phi H + 2 ≤ zx_phi H1) ∧ (a : Int) ≤ (H1.2.1 72 45).toInt ∧ zx_phi H ≤ zx_phi H1 := by
  have W := zR_Wd (zR_dn h.1)
  obtain ⟨t0, w0⟩ := zx_top h
  have p1 := zx_phi_le h.1
  refine zw_met zm_197_t rfl rfl ?_
  refine zw_ld (n := 1) (k := 0) (f := zp_isR) (pc' := 1) rfl rfl rfl rfl rfl ?_
  by_cases hg : (H.2.1 72 23).toInt = 0
  · refine zw_c (pc' := 4) (zw_cv (q := 72) (Y := zm_175) W.1 rfl rfl zm_175_t rfl rfl) rfl rfl rfl rfl rfl (zq_good1 W hg) ?_
    have g1 := (h.2.2.2 hg).1
    refine zw_bne1 (g := 8) (pc' := 7) rfl rfl rfl (rfl : _ = (1 : Int)) (fun hb => ?_) (fun h9 => absurd h9 (by decide))
    refine zw_ld (n := 1) (k := 0) (f := zp_isR) (pc' := 9) rfl rfl rfl rfl rfl ?_
    refine zw_gI (q := 72) (pc' := 12) W rfl rfl rfl rfl rfl rfl ?_
    refine zw_s (pc' := 13) rfl rfl ?_
    refine zw_bne2 (g := 45) (pc' := 16) rfl rfl rfl rfl (rfl : _ = (2 : Int)) (fun h1 => ?_) (fun h1 => ?_)
    · refine zw_ld (n := 1) (k := 0) (f := zp_isR) (pc' := 46) rfl rfl rfl rfl rfl ?_
      refine zw_gI (q := 72) (pc' := 49) W rfl rfl rfl rfl rfl rfl ?_
      refine zw_s (pc' := 50) rfl rfl ?_
      refine zw_bne2 (g := 86) (pc' := 53) rfl rfl rfl rfl (rfl : _ = (1 : Int)) (fun h2 => ?_) (fun h2 => ?_)
      · obtain ⟨K, c1, c2, c3, c4, c5, c6, c7⟩ := zx_wrong (L := L) (σ := σ) (d := d + 3) (y := Int32.ofInt 1) h (by decide)
        have WK := zR_Wd (zR_dn (c3 0 0).1)
        refine zw_ld (n := 1) (k := 0) (f := zp_isR) (pc' := 87) rfl rfl rfl rfl rfl ?_
        refine zw_s (pc' := 88) rfl rfl ?_
        refine zw_cn (pc' := 91) (zw_cv (q := 72) (Y := zm_180) W.1 rfl rfl zm_180_t rfl rfl) rfl rfl rfl rfl rfl (c1) ?_
        refine zw_ld (n := 1) (k := 0) (f := zp_isR) (pc' := 92) rfl rfl rfl rfl rfl ?_
        refine zw_c (pc' := 95) (zw_cv (q := 72) (Y := zm_175) WK.1 rfl rfl zm_175_t rfl rfl) rfl rfl rfl rfl rfl (zq_good0 (H := K) WK c2) ?_
        refine zw_beq1 (g := 102) (pc' := 98) rfl rfl rfl (rfl : _ = (0 : Int)) (fun hb => ?_) (fun h9 => absurd h9 (by decide))
        refine zw_rn rfl rfl ?_
        exact ⟨K, rfl, c3 1 0, c4, fun h9 => absurd h9 c2, by omega, by omega⟩
      · refine zw_ld (n := 1) (k := 0) (f := zp_isR) (pc' := 54) rfl rfl rfl rfl rfl ?_
        obtain ⟨v, v1, v2⟩ := hK d H h.1
        have v3 := zg_in H
        have v3 : -1 ≤ zg H ∧ zg H ≤ 20 := v3
        refine zw_c (pc' := 57) (zw_cv (q := 72) (Y := zm_177) W.1 rfl rfl zm_177_t rfl rfl) rfl rfl rfl rfl rfl (v1) ?_
        refine zw_st (n := 1) (k := 1) (f := zp_isI) (pc' := 58) rfl rfl rfl rfl rfl ?_
        refine zw_ld (n := 1) (k := 1) (f := zp_isI) (pc' := 59) rfl rfl zw_g1 rfl rfl ?_
        refine zw_blt1 (g := 68) (pc' := 62) rfl rfl rfl rfl (fun h3 => ?_) (fun h3 => ?_)
        · refine zw_ld (n := 1) (k := 0) (f := zp_isR) (pc' := 69) rfl rfl (zw_gt rfl rfl rfl) rfl rfl ?_
          refine zw_s (pc' := 70) rfl rfl ?_
          obtain ⟨K, c1, c2, c3, c4, c5, c6, c7⟩ := zx_wrong (L := L) (σ := σ) (d := d + 3) (y := Int32.ofInt 3) h (by decide)
          have WK := zR_Wd (zR_dn (c3 0 0).1)
          obtain ⟨u0, u1⟩ := zx_top (c3 0 0)
          refine zw_cn (pc' := 73) (zw_cv (q := 72) (Y := zm_180) W.1 rfl rfl zm_180_t rfl rfl) rfl rfl rfl rfl rfl (c1) ?_
          refine zw_ld (n := 1) (k := 0) (f := zp_isR) (pc' := 74) rfl rfl (zw_gt rfl rfl rfl) rfl rfl ?_
          refine zw_s (pc' := 75) rfl rfl ?_
          refine zw_cn (pc' := 78) (zw_cv (q := 72) (Y := zm_198) WK.1 rfl rfl zm_198_t rfl rfl) rfl rfl rfl rfl rfl (zq_puts (H := K) WK ⟨u0, by show _ < ((1600 : Nat) : Int); omega⟩) ?_
          have e1 : ((zx_pt K (Int32.ofInt 2)).2.1 72 45).toInt = (K.2.1 72 45).toInt + 1 := zx_pt_t (by omega)
          refine zw_ld (n := 1) (k := 0) (f := zp_isR) (pc' := 79) rfl rfl (zw_gt rfl rfl rfl) rfl rfl ?_
          refine zw_ld (n := 1) (k := 1) (f := zp_isI) (pc' := 80) rfl rfl zw_g1 rfl rfl ?_
          refine zw_cn (pc' := 83) (zw_cv (q := 72) (Y := zm_198) WK.1 rfl rfl zm_198_t rfl rfl) rfl rfl rfl rfl rfl (zq_puts (H := zx_pt K (Int32.ofInt 2)) WK ⟨by omega, by show _ < ((1600 : Nat) : Int); omega⟩) ?_
          have hS : ∀ e o, zx_S a e o (zx_pt (zx_pt K (Int32.ofInt 2)) (v)) := fun e o => zx_pp_b (c3 0 0) c2 (by omega)
          have hb9 : ((zx_pt (zx_pt K (Int32.ofInt 2)) (v)).2.1 72 23).toInt ≠ 0 := by rw [zx_pt_f 23 rfl, zx_pt_f 23 rfl]; exact c2
          refine zw_s (pc' := 91) rfl rfl ?_
          refine zw_ld (n := 1) (k := 0) (f := zp_isR) (pc' := 92) rfl rfl (zw_gt rfl rfl rfl) rfl rfl ?_
          refine zw_c (pc' := 95) (zw_cv (q := 72) (Y := zm_175) WK.1 rfl rfl zm_175_t rfl rfl) rfl rfl rfl rfl rfl (zq_good0 (H := zx_pt (zx_pt K (Int32.ofInt 2)) (v)) WK hb9) ?_
          refine zw_beq1 (g := 102) (pc' := 98) rfl rfl rfl (rfl : _ = (0 : Int)) (fun hb => ?_) (fun h9 => absurd h9 (by decide))
          refine zw_rn rfl rfl ?_
          have hp : zx_phi (zx_pt (zx_pt K (Int32.ofInt 2)) (v)) = zx_phi K := by
            unfold zx_phi
            rw [zx_pt_f 27 rfl, zx_pt_f 28 rfl, zx_pt_f 27 rfl, zx_pt_f 28 rfl]
          have e2 : ((zx_pt (zx_pt K (Int32.ofInt 2)) (v)).2.1 72 45).toInt = ((zx_pt K (Int32.ofInt 2)).2.1 72 45).toInt + 1 := zx_pt_t (by omega)
          exact ⟨_, rfl, hS 1 0, zx_F_t c4 (zx_F_t (zx_pt_F (by omega)) (zx_pt_F (by omega))), fun h9 => absurd h9 hb9, by omega, by omega⟩
        · refine zw_ld (n := 1) (k := 1) (f := zp_isI) (pc' := 63) rfl rfl zw_g1 rfl rfl ?_
          refine zw_s (pc' := 65) rfl rfl ?_
          refine zw_ble2 (g := 73) (pc' := 68) rfl rfl rfl rfl (rfl : _ = (7 : Int)) (fun h4 => ?_) (fun h4 => ?_)
          · refine zw_ld (n := 1) (k := 0) (f := zp_isR) (pc' := 74) rfl rfl (zw_gt rfl rfl rfl) rfl rfl ?_
            refine zw_s (pc' := 75) rfl rfl ?_
            refine zw_cn (pc' := 78) (zw_cv (q := 72) (Y := zm_198) W.1 rfl rfl zm_198_t rfl rfl) rfl rfl rfl rfl rfl (zq_puts (H := H) W ⟨t0, by show _ < ((1600 : Nat) : Int); omega⟩) ?_
            have e1 : ((zx_pt H (Int32.ofInt 2)).2.1 72 45).toInt = (H.2.1 72 45).toInt + 1 := zx_pt_t (by omega)
            refine zw_ld (n := 1) (k := 0) (f := zp_isR) (pc' := 79) rfl rfl (zw_gt rfl rfl rfl) rfl rfl ?_
            refine zw_ld (n := 1) (k := 1) (f := zp_isI) (pc' := 80) rfl rfl zw_g1 rfl rfl ?_
            refine zw_cn (pc' := 83) (zw_cv (q := 72) (Y := zm_198) W.1 rfl rfl zm_198_t rfl rfl) rfl rfl rfl rfl rfl (zq_puts (H := zx_pt H (Int32.ofInt 2)) W ⟨by omega, by show _ < ((1600 : Nat) : Int); omega⟩) ?_
            have hT := zx_pp (c := Int32.ofInt 2) (y := v) h hg (by omega) (by decide)
            refine zw_s (pc' := 91) rfl rfl ?_
            refine zw_ld (n := 1) (k := 0) (f := zp_isR) (pc' := 92) rfl rfl (zw_gt rfl rfl rfl) rfl rfl ?_
            refine zw_c (pc' := 95) (zw_cv (q := 72) (Y := zm_175) W.1 rfl rfl zm_175_t rfl rfl) rfl rfl rfl rfl rfl (zq_good1 (H := zx_pt (zx_pt H (Int32.ofInt 2)) (v)) W hT.2.1) ?_
            refine zw_beq1 (g := 102) (pc' := 98) rfl rfl rfl (rfl : _ = (1 : Int)) (fun h9 => absurd h9 (by decide)) (fun hb => ?_)
            obtain ⟨H1, c1, c2, c3, c4, c5, c6⟩ := zx_T_goes (L := L) (σ := σ) (d := d + 2) hT
            refine zw_ld (n := 1) (k := 0) (f := zp_isR) (pc' := 99) rfl rfl (zw_gt rfl rfl rfl) rfl rfl ?_
            refine zw_cn (pc' := 102) (zw_cv (q := 72) (Y := zm_171) W.1 rfl rfl zm_171_t rfl rfl) rfl rfl rfl rfl rfl (c1) ?_
            refine zw_rn rfl rfl ?_
            have hp : zx_phi (zx_pt (zx_pt H (Int32.ofInt 2)) (v)) = zx_phi H := by
              unfold zx_phi
              rw [zx_pt_f 27 rfl, zx_pt_f 28 rfl, zx_pt_f 27 rfl, zx_pt_f 28 rfl]
            have e2 : ((zx_pt (zx_pt H (Int32.ofInt 2)) (v)).2.1 72 45).toInt = ((zx_pt H (Int32.ofInt 2)).2.1 72 45).toInt + 1 := zx_pt_t (by omega)
            exact ⟨H1, rfl, c2, zx_F_t (zx_F_t (zx_pt_F ha) (zx_pt_F (by omega))) c3, fun _ => by omega, by omega, by omega⟩
          · refine zw_ld (n := 1) (k := 0) (f := zp_isR) (pc' := 69) rfl rfl (zw_gt rfl rfl rfl) rfl rfl ?_
            refine zw_s (pc' := 70) rfl rfl ?_
            obtain ⟨K, c1, c2, c3, c4, c5, c6, c7⟩ := zx_wrong (L := L) (σ := σ) (d := d + 3) (y := Int32.ofInt 3) h (by decide)
            have WK := zR_Wd (zR_dn (c3 0 0).1)
            obtain ⟨u0, u1⟩ := zx_top (c3 0 0)
            refine zw_cn (pc' := 73) (zw_cv (q := 72) (Y := zm_180) W.1 rfl rfl zm_180_t rfl rfl) rfl rfl rfl rfl rfl (c1) ?_
            refine zw_ld (n := 1) (k := 0) (f := zp_isR) (pc' := 74) rfl rfl (zw_gt rfl rfl rfl) rfl rfl ?_
            refine zw_s (pc' := 75) rfl rfl ?_
            refine zw_cn (pc' := 78) (zw_cv (q := 72) (Y := zm_198) WK.1 rfl rfl zm_198_t rfl rfl) rfl rfl rfl rfl rfl (zq_puts (H := K) WK ⟨u0, by show _ < ((1600 : Nat) : Int); omega⟩) ?_
            have e1 : ((zx_pt K (Int32.ofInt 2)).2.1 72 45).toInt = (K.2.1 72 45).toInt + 1 := zx_pt_t (by omega)
            refine zw_ld (n := 1) (k := 0) (f := zp_isR) (pc' := 79) rfl rfl (zw_gt rfl rfl rfl) rfl rfl ?_
            refine zw_ld (n := 1) (k := 1) (f := zp_isI) (pc' := 80) rfl rfl zw_g1 rfl rfl ?_
            refine zw_cn (pc' := 83) (zw_cv (q := 72) (Y := zm_198) WK.1 rfl rfl zm_198_t rfl rfl) rfl rfl rfl rfl rfl (zq_puts (H := zx_pt K (Int32.ofInt 2)) WK ⟨by omega, by show _ < ((1600 : Nat) : Int); omega⟩) ?_
            have hS : ∀ e o, zx_S a e o (zx_pt (zx_pt K (Int32.ofInt 2)) (v)) := fun e o => zx_pp_b (c3 0 0) c2 (by omega)
            have hb9 : ((zx_pt (zx_pt K (Int32.ofInt 2)) (v)).2.1 72 23).toInt ≠ 0 := by rw [zx_pt_f 23 rfl, zx_pt_f 23 rfl]; exact c2
            refine zw_s (pc' := 91) rfl rfl ?_
            refine zw_ld (n := 1) (k := 0) (f := zp_isR) (pc' := 92) rfl rfl (zw_gt rfl rfl rfl) rfl rfl ?_
            refine zw_c (pc' := 95) (zw_cv (q := 72) (Y := zm_175) WK.1 rfl rfl zm_175_t rfl rfl) rfl rfl rfl rfl rfl (zq_good0 (H := zx_pt (zx_pt K (Int32.ofInt 2)) (v)) WK hb9) ?_
            refine zw_beq1 (g := 102) (pc' := 98) rfl rfl rfl (rfl : _ = (0 : Int)) (fun hb => ?_) (fun h9 => absurd h9 (by decide))
            refine zw_rn rfl rfl ?_
            have hp : zx_phi (zx_pt (zx_pt K (Int32.ofInt 2)) (v)) = zx_phi K := by
              unfold zx_phi
              rw [zx_pt_f 27 rfl, zx_pt_f 28 rfl, zx_pt_f 27 rfl, zx_pt_f 28 rfl]
            have e2 : ((zx_pt (zx_pt K (Int32.ofInt 2)) (v)).2.1 72 45).toInt = ((zx_pt K (Int32.ofInt 2)).2.1 72 45).toInt + 1 := zx_pt_t (by omega)
            exact ⟨_, rfl, hS 1 0, zx_F_t c4 (zx_F_t (zx_pt_F (by omega)) (zx_pt_F (by omega))), fun h9 => absurd h9 hb9, by omega, by omega⟩
    · refine zw_ld (n := 1) (k := 0) (f := zp_isR) (pc' := 17) rfl rfl rfl rfl rfl ?_
      refine zw_gI (q := 72) (pc' := 20) W rfl rfl rfl rfl rfl rfl ?_
      refine zw_s (pc' := 21) rfl rfl ?_
      refine zw_ble2 (g := 29) (pc' := 24) rfl rfl rfl rfl (rfl : _ = (4 : Int)) (fun h2 => ?_) (fun h2 => ?_)
      · refine zw_ld (n := 1) (k := 0) (f := zp_isR) (pc' := 30) rfl rfl rfl rfl rfl ?_
        refine zw_s (pc' := 31) rfl rfl ?_
        refine zw_cn (pc' := 34) (zw_cv (q := 72) (Y := zm_198) W.1 rfl rfl zm_198_t rfl rfl) rfl rfl rfl rfl rfl (zq_puts (H := H) W ⟨t0, by show _ < ((1600 : Nat) : Int); omega⟩) ?_
        have e1 : ((zx_pt H (Int32.ofInt 1)).2.1 72 45).toInt = (H.2.1 72 45).toInt + 1 := zx_pt_t (by omega)
        refine zw_ld (n := 1) (k := 0) (f := zp_isR) (pc' := 35) rfl rfl rfl rfl rfl ?_
        refine zw_ld (n := 1) (k := 0) (f := zp_isR) (pc' := 36) rfl rfl rfl rfl rfl ?_
        refine zw_gI (q := 72) (pc' := 39) W rfl rfl rfl rfl rfl rfl ?_
        refine zw_cn (pc' := 42) (zw_cv (q := 72) (Y := zm_198) W.1 rfl rfl zm_198_t rfl rfl) rfl rfl rfl rfl rfl (zq_puts (H := zx_pt H (Int32.ofInt 1)) W ⟨by omega, by show _ < ((1600 : Nat) : Int); omega⟩) ?_
        have hT := zx_pp (c := Int32.ofInt 1) (y := H.2.1 72 31) h hg (by omega) (by decide)
        refine zw_s (pc' := 91) rfl rfl ?_
        refine zw_ld (n := 1) (k := 0) (f := zp_isR) (pc' := 92) rfl rfl rfl rfl rfl ?_
        refine zw_c (pc' := 95) (zw_cv (q := 72) (Y := zm_175) W.1 rfl rfl zm_175_t rfl rfl) rfl rfl rfl rfl rfl (zq_good1 (H := zx_pt (zx_pt H (Int32.ofInt 1)) (H.2.1 72 31)) W hT.2.1) ?_
        refine zw_beq1 (g := 102) (pc' := 98) rfl rfl rfl (rfl : _ = (1 : Int)) (fun h9 => absurd h9 (by decide)) (fun hb => ?_)
        obtain ⟨H1, c1, c2, c3, c4, c5, c6⟩ := zx_T_goes (L := L) (σ := σ) (d := d + 2) hT
        refine zw_ld (n := 1) (k := 0) (f := zp_isR) (pc' := 99) rfl rfl rfl rfl rfl ?_
        refine zw_cn (pc' := 102) (zw_cv (q := 72) (Y := zm_171) W.1 rfl rfl zm_171_t rfl rfl) rfl rfl rfl rfl rfl (c1) ?_
        refine zw_rn rfl rfl ?_
        have hp : zx_phi (zx_pt (zx_pt H (Int32.ofInt 1)) (H.2.1 72 31)) = zx_phi H := by
          unfold zx_phi
          rw [zx_pt_f 27 rfl, zx_pt_f 28 rfl, zx_pt_f 27 rfl, zx_pt_f 28 rfl]
        have e2 : ((zx_pt (zx_pt H (Int32.ofInt 1)) (H.2.1 72 31)).2.1 72 45).toInt = ((zx_pt H (Int32.ofInt 1)).2.1 72 45).toInt + 1 := zx_pt_t (by omega)
        exact ⟨H1, rfl, c2, zx_F_t (zx_F_t (zx_pt_F ha) (zx_pt_F (by omega))) c3, fun _ => by omega, by omega, by omega⟩
      · refine zw_ld (n := 1) (k := 0) (f := zp_isR) (pc' := 25) rfl rfl rfl rfl rfl ?_
        refine zw_s (pc' := 26) rfl rfl ?_
        obtain ⟨K, c1, c2, c3, c4, c5, c6, c7⟩ := zx_wrong (L := L) (σ := σ) (d := d + 3) (y := Int32.ofInt 2) h (by decide)
        have WK := zR_Wd (zR_dn (c3 0 0).1)
        obtain ⟨u0, u1⟩ := zx_top (c3 0 0)
        refine zw_cn (pc' := 29) (zw_cv (q := 72) (Y := zm_180) W.1 rfl rfl zm_180_t rfl rfl) rfl rfl rfl rfl rfl (c1) ?_
        refine zw_ld (n := 1) (k := 0) (f := zp_isR) (pc' := 30) rfl rfl rfl rfl rfl ?_
        refine zw_s (pc' := 31) rfl rfl ?_
        refine zw_cn (pc' := 34) (zw_cv (q := 72) (Y := zm_198) WK.1 rfl rfl zm_198_t rfl rfl) rfl rfl rfl rfl rfl (zq_puts (H := K) WK ⟨u0, by show _ < ((1600 : Nat) : Int); omega⟩) ?_
        have e1 : ((zx_pt K (Int32.ofInt 1)).2.1 72 45).toInt = (K.2.1 72 45).toInt + 1 := zx_pt_t (by omega)
        refine zw_ld (n := 1) (k := 0) (f := zp_isR) (pc' := 35) rfl rfl rfl rfl rfl ?_
        refine zw_ld (n := 1) (k := 0) (f := zp_isR) (pc' := 36) rfl rfl rfl rfl rfl ?_
        refine zw_gI (q := 72) (pc' := 39) WK rfl rfl rfl rfl rfl rfl ?_
        refine zw_cn (pc' := 42) (zw_cv (q := 72) (Y := zm_198) WK.1 rfl rfl zm_198_t rfl rfl) rfl rfl rfl rfl rfl (zq_puts (H := zx_pt K (Int32.ofInt 1)) WK ⟨by omega, by show _ < ((1600 : Nat) : Int); omega⟩) ?_
        have hS : ∀ e o, zx_S a e o (zx_pt (zx_pt K (Int32.ofInt 1)) (K.2.1 72 31)) := fun e o => zx_pp_b (c3 0 0) c2 (by omega)
        have hb9 : ((zx_pt (zx_pt K (Int32.ofInt 1)) (K.2.1 72 31)).2.1 72 23).toInt ≠ 0 := by rw [zx_pt_f 23 rfl, zx_pt_f 23 rfl]; exact c2
        refine zw_s (pc' := 91) rfl rfl ?_
        refine zw_ld (n := 1) (k := 0) (f := zp_isR) (pc' := 92) rfl rfl rfl rfl rfl ?_
        refine zw_c (pc' := 95) (zw_cv (q := 72) (Y := zm_175) WK.1 rfl rfl zm_175_t rfl rfl) rfl rfl rfl rfl rfl (zq_good0 (H := zx_pt (zx_pt K (Int32.ofInt 1)) (K.2.1 72 31)) WK hb9) ?_
        refine zw_beq1 (g := 102) (pc' := 98) rfl rfl rfl (rfl : _ = (0 : Int)) (fun hb => ?_) (fun h9 => absurd h9 (by decide))
        refine zw_rn rfl rfl ?_
        have hp : zx_phi (zx_pt (zx_pt K (Int32.ofInt 1)) (K.2.1 72 31)) = zx_phi K := by
          unfold zx_phi
          rw [zx_pt_f 27 rfl, zx_pt_f 28 rfl, zx_pt_f 27 rfl, zx_pt_f 28 rfl]
        have e2 : ((zx_pt (zx_pt K (Int32.ofInt 1)) (K.2.1 72 31)).2.1 72 45).toInt = ((zx_pt K (Int32.ofInt 1)).2.1 72 45).toInt + 1 := zx_pt_t (by omega)
        exact ⟨_, rfl, hS 1 0, zx_F_t c4 (zx_F_t (zx_pt_F (by omega)) (zx_pt_F (by omega))), fun h9 => absurd h9 hb9, by omega, by omega⟩
  · refine zw_c (pc' := 4) (zw_cv (q := 72) (Y := zm_175) W.1 rfl rfl zm_175_t rfl rfl) rfl rfl rfl rfl rfl (zq_good0 W hg) ?_
    refine zw_bne1 (g := 8) (pc' := 7) rfl rfl rfl (rfl : _ = (0 : Int)) (fun h9 => absurd h9 (by decide)) (fun hb => ?_)
    refine zw_rn rfl rfl ?_
    exact ⟨H, rfl, zx_S_b h hg, zx_F_r H, fun h9 => absurd h9 hg, ha, Int.le_refl _⟩
end
section
/-! ===== the reference reads an expression: an operand ===== -/
def zm_195 : za_MI := (yX12_operand, prog_14_method_32_code, 5, none, 12, 0, 0, [], za_i195)
theorem zm_195_t : za_MT 195 = some zm_195 := rfl
theorem zx_opE {L : Nat} {σ : Nat → Int32} {d a : Nat} {H0 : zp_H} {H : zp_H} {lv : zp_LV} (hK : zx_KW L σ) (l0 : zp_get lv 0 = some (.inr (.inr (some 73)))) (h : zx_S a 0 0 H) (hF : zx_F a H0 H) (ha : (a : Int) ≤ (H.2.1 72 45).toInt) (hp : zx_phi H0 ≤ zx_phi H) : zs_Safe L σ (fun X => ∃ H1, X = (.inl none, H1) ∧ zx_S a 1 0 H1 ∧ zx_F a H0 H1 ∧ ((H1.2.1 72 23).toInt = 0 → zx_phi H0 + 2 ≤ zx_phi H1) ∧ (a : Int) ≤ (H1.2.1 72 45).toInt ∧ zx_phi H0 ≤ zx_phi H1) zm_195 [] (d + 5) (120, lv, [], H, (0, 0)) := by
  have W := zR_Wd (zR_dn h.1)
  obtain ⟨_, c1, H1, rfl, c2, c3, c4, c5, c6⟩ := zx_part (L := L) (σ := σ) (d := d) hK h ha
  refine zw_ld (n := 1) (k := 0) (f := zp_isR) (pc' := 121) rfl rfl l0 rfl rfl ?_
  refine zw_cn (pc' := 124) (zw_cv (q := 72) (Y := zm_197) W.1 rfl rfl zm_197_t rfl rfl) rfl rfl rfl rfl rfl (c1) ?_
  refine zw_rn rfl rfl ?_
  exact ⟨H1, rfl, c2, zx_F_t hF c3, fun h9 => by have := c4 h9; omega, c5, by omega⟩

theorem zx_opI {L : Nat} {σ : Nat → Int32} {d a : Nat} {H0 : zp_H} {x2 : Int32} (hK : zx_KW L σ) : ∀ (n : Nat) (H : zp_H) (lv : zp_LV) (x4 : Int32), (1401 - zx_phi H).toNat = n → zp_get lv 0 = some (.inr (.inr (some 73))) → zp_get lv 2 = some (.inl x2) → zp_get lv 4 = some (.inl x4) → zx_S a 0 0 H → zx_F a H0 H → (a : Int) ≤ (H.2.1 72 45).toInt → zx_phi H0 ≤ zx_phi H → (∀ (H1 : zp_H) (lv1 : zp_LV), zp_get lv1 0 = some (.inr (.inr (some 73))) → zp_get lv1 2 = some (.inl x2) → zx_S a 0 0 H1 → zx_F a H0 H1 → (a : Int) ≤ (H1.2.1 72 45).toInt → zx_phi H ≤ zx_phi H1 → zs_Safe L σ (fun X => ∃ H1, X = (.inl none, H1) ∧ zx_S a 1 0 H1 ∧ zx_F a H0 H1 ∧ ((H1.2.1 72 23).toInt = 0 → zx_phi H0 + 2 ≤ zx_phi H1) ∧ (a : Int) ≤ (H1.2.1 72 45).toInt ∧ zx_phi H0 ≤ zx_phi H1) zm_195 [] (d + 5) (75, lv1, [], H1, (0, 0))) → zs_Safe L σ (fun X => ∃ H1, X = (.inl none, H1) ∧ zx_S a 1 0 H1 ∧ zx_F a H0 H1 ∧ ((H1.2.1 72 23).toInt = 0 → zx_phi H0 + 2 ≤ zx_phi H1) ∧ (a : Int) ≤ (H1.2.1 72 45).toInt ∧ zx_phi H0 ≤ zx_phi H1) zm_195 [] (d + 5) (18, lv, [], H, (0, 0)) := by
  intro n
  induction n using Nat.strongRecOn with
  | ind n ih =>
    intro H lv x4 hn l0 l2 l4 h hF ha hp hk
    have W := zR_Wd (zR_dn h.1)
    refine zw_ld (n := 1) (k := 0) (f := zp_isR) (pc' := 19) rfl rfl l0 rfl rfl ?_
    by_cases hg : (H.2.1 72 23).toInt = 0
    · refine zw_c (pc' := 22) (zw_cv (q := 72) (Y := zm_175) W.1 rfl rfl zm_175_t rfl rfl) rfl rfl rfl rfl rfl (zq_good1 W hg) ?_
      refine zw_beq1 (g := 75) (pc' := 25) rfl rfl rfl (rfl : _ = (1 : Int)) (fun h9 => absurd h9 (by decide)) (fun hb => ?_)
      refine zw_ld (n := 1) (k := 2) (f := zp_isI) (pc' := 26) rfl rfl l2 rfl rfl ?_
      refine zw_beq1 (g := 75) (pc' := 29) rfl rfl rfl rfl (fun h2 => ?_) (fun h2 => ?_)
      · exact hk H lv l0 l2 h hF ha (Int.le_refl _)
      · refine zw_ld (n := 1) (k := 0) (f := zp_isR) (pc' := 30) rfl rfl l0 rfl rfl ?_
        obtain ⟨v, v1, v2⟩ := hK (d + 1) H h.1
        refine zw_c (pc' := 33) (zw_cv (q := 72) (Y := zm_177) W.1 rfl rfl zm_177_t rfl rfl) rfl rfl rfl rfl rfl (v1) ?_
        refine zw_s (pc' := 35) rfl rfl ?_
        refine zw_bne2 (g := 75) (pc' := 38) rfl rfl rfl rfl (rfl : _ = (20 : Int)) (fun h3 => ?_) (fun h3 => ?_)
        · exact hk H lv l0 l2 h hF ha (Int.le_refl _)
        · have hs := zg_s (H := H) (by omega)
          refine zw_ld (n := 2) (k := 4) (f := zp_isI) (pc' := 40) rfl rfl l4 rfl rfl ?_
          refine zw_s (pc' := 42) rfl rfl ?_
          refine zw_bne2 (g := 50) (pc' := 45) rfl rfl rfl rfl (rfl : _ = (6 : Int)) (fun h4 => ?_) (fun h4 => ?_)
          · refine zw_ii (pc' := 53) rfl l4 rfl rfl ?_
            refine zw_ld (n := 1) (k := 0) (f := zp_isR) (pc' := 54) rfl rfl (zw_gt l0 rfl rfl) rfl rfl ?_
            refine zw_c (pc' := 57) (zw_cv (q := 72) (Y := zm_175) W.1 rfl rfl zm_175_t rfl rfl) rfl rfl rfl rfl rfl (zq_good1 W hg) ?_
            refine zw_bne1 (g := 63) (pc' := 60) rfl rfl rfl (rfl : _ = (1 : Int)) (fun hb => ?_) (fun h9 => absurd h9 (by decide))
            obtain ⟨k1, k2, k3, k4⟩ := zx_wait (y := Int32.ofInt 3) h hg (by omega) (by decide)
            have hT := k4 0 0 rfl rfl
            have f45 : (zx_wt H (Int32.ofInt 3)).2.1 72 45 = H.2.1 72 45 := zx_wt_f 45 rfl
            obtain ⟨t0, w0⟩ := zx_top h
            have wb := h.2.2.1
            refine zw_ld (n := 1) (k := 0) (f := zp_isR) (pc' := 64) rfl rfl (zw_gt l0 rfl rfl) rfl rfl ?_
            refine zw_s (pc' := 65) rfl rfl ?_
            refine zw_cn (pc' := 68) (zw_cv (q := 72) (Y := zm_196) W.1 rfl rfl zm_196_t rfl rfl) rfl rfl rfl rfl rfl (zq_waits W ⟨w0, by show _ < ((800 : Nat) : Int); omega⟩) ?_
            obtain ⟨K, c1, c2, c3, c4, c5, c6⟩ := zx_T_goes (L := L) (σ := σ) (d := d + 3) hT
            have pK := zx_phi_le c2.1
            refine zw_ld (n := 1) (k := 0) (f := zp_isR) (pc' := 69) rfl rfl (zw_gt l0 rfl rfl) rfl rfl ?_
            refine zw_cn (pc' := 72) (zw_cv (q := 72) (Y := zm_171) W.1 rfl rfl zm_171_t rfl rfl) rfl rfl rfl rfl rfl (c1) ?_
            refine zw_s (pc' := 18) rfl rfl ?_
            refine ih (1401 - zx_phi K).toNat (by omega) K _ _ rfl (zw_gt l0 rfl rfl) (zw_gt l2 rfl rfl) zw_g1 c2 (zx_F_t (zx_F_t hF k1) c3) (by rw [c6, f45]; exact ha) (by omega) ?_
            intro H1 lv1 m0 m2 mS mF ma mp
            exact hk H1 lv1 m0 m2 mS mF ma (by omega)
          · refine zw_ld (n := 1) (k := 0) (f := zp_isR) (pc' := 46) rfl rfl l0 rfl rfl ?_
            refine zw_s (pc' := 47) rfl rfl ?_
            obtain ⟨K, c1, c2, c3, c4, c5, c6, c7⟩ := zx_wrong (L := L) (σ := σ) (d := d + 4) (y := Int32.ofInt 2) h (by decide)
            have WK := zR_Wd (zR_dn (c3 0 0).1)
            refine zw_cn (pc' := 50) (zw_cv (q := 72) (Y := zm_180) W.1 rfl rfl zm_180_t rfl rfl) rfl rfl rfl rfl rfl (c1) ?_
            refine zw_ii (pc' := 53) rfl l4 rfl rfl ?_
            refine zw_ld (n := 1) (k := 0) (f := zp_isR) (pc' := 54) rfl rfl (zw_gt l0 rfl rfl) rfl rfl ?_
            refine zw_c (pc' := 57) (zw_cv (q := 72) (Y := zm_175) WK.1 rfl rfl zm_175_t rfl rfl) rfl rfl rfl rfl rfl (zq_good0 (H := K) WK c2) ?_
            refine zw_bne1 (g := 63) (pc' := 60) rfl rfl rfl (rfl : _ = (0 : Int)) (fun h9 => absurd h9 (by decide)) (fun hb => ?_)
            refine zw_s (pc' := 18) rfl rfl ?_
            refine zw_ld (n := 1) (k := 0) (f := zp_isR) (pc' := 19) rfl rfl (zw_gt l0 rfl rfl) rfl rfl ?_
            refine zw_c (pc' := 22) (zw_cv (q := 72) (Y := zm_175) WK.1 rfl rfl zm_175_t rfl rfl) rfl rfl rfl rfl rfl (zq_good0 (H := K) WK c2) ?_
            refine zw_beq1 (g := 75) (pc' := 25) rfl rfl rfl (rfl : _ = (0 : Int)) (fun hb => ?_) (fun h9 => absurd h9 (by decide))
            exact hk K _ (zw_gt l0 rfl rfl) (zw_gt l2 rfl rfl) (c3 0 0) (zx_F_t hF c4) (by omega) (by omega)
    · refine zw_c (pc' := 22) (zw_cv (q := 72) (Y := zm_175) W.1 rfl rfl zm_175_t rfl rfl) rfl rfl rfl rfl rfl (zq_good0 W hg) ?_
      refine zw_beq1 (g := 75) (pc' := 25) rfl rfl rfl (rfl : _ = (0 : Int)) (fun hb => ?_) (fun h9 => absurd h9 (by decide))
      exact hk H lv l0 l2 h hF ha (Int.le_refl _)

theorem zx_opO {L : Nat} {σ : Nat → Int32} {d a : Nat} {H0 : zp_H} (hK : zx_KW L σ) : ∀ (n : Nat) (H : zp_H) (lv : zp_LV) (x2 x3 : Int32), 2 * (1401 - zx_phi H).toNat + (if x3.toInt = 0 then 0 else 1) = n → zp_get lv 0 = some (.inr (.inr (some 73))) → zp_get lv 2 = some (.inl x2) → zp_get lv 3 = some (.inl x3) → zx_S a 0 0 H → zx_F a H0 H → (a : Int) ≤ (H.2.1 72 45).toInt → zx_phi H0 ≤ zx_phi H → zs_Safe L σ (fun X => ∃ H1, X = (.inl none, H1) ∧ zx_S a 1 0 H1 ∧ zx_F a H0 H1 ∧ ((H1.2.1 72 23).toInt = 0 → zx_phi H0 + 2 ≤ zx_phi H1) ∧ (a : Int) ≤ (H1.2.1 72 45).toInt ∧ zx_phi H0 ≤ zx_phi H1) zm_195 [] (d + 5) (4, lv, [], H, (0, 0)) := by
  intro n
  induction n using Nat.strongRecOn with
  | ind n ih =>
    intro H lv x2 x3 hn l0 l2 l3 h hF ha hp
    have W := zR_Wd (zR_dn h.1)
    have pH := zx_phi_le h.1
    refine zw_ld (n := 1) (k := 3) (f := zp_isI) (pc' := 5) rfl rfl l3 rfl rfl ?_
    refine zw_beq1 (g := 120) (pc' := 8) rfl rfl rfl rfl (fun h3 => ?_) (fun h3 => ?_)
    · exact zx_opE hK l0 h hF ha hp
    · rw [if_neg h3] at hn
      refine zw_ld (n := 1) (k := 0) (f := zp_isR) (pc' := 9) rfl rfl l0 rfl rfl ?_
      by_cases hg : (H.2.1 72 23).toInt = 0
      · refine zw_c (pc' := 12) (zw_cv (q := 72) (Y := zm_175) W.1 rfl rfl zm_175_t rfl rfl) rfl rfl rfl rfl rfl (zq_good1 W hg) ?_
        refine zw_beq1 (g := 120) (pc' := 15) rfl rfl rfl (rfl : _ = (1 : Int)) (fun h9 => absurd h9 (by decide)) (fun hb => ?_)
        refine zw_s (pc' := 16) rfl rfl ?_
        refine zw_st (n := 2) (k := 4) (f := zp_isI) (pc' := 18) rfl rfl rfl rfl rfl ?_
        refine zx_opI hK _ H _ _ rfl (zw_gt l0 rfl rfl) (zw_gt l2 rfl rfl) zw_g1 h hF ha hp ?_
        clear l0 l2 l3
        intro K lv l0 l2 k1 k2 k3 k4
        have WK := zR_Wd (zR_dn k1.1)
        have pK := zx_phi_le k1.1
        refine zw_ld (n := 1) (k := 0) (f := zp_isR) (pc' := 76) rfl rfl l0 rfl rfl ?_
        by_cases hK0 : (K.2.1 72 23).toInt = 0
        · refine zw_c (pc' := 79) (zw_cv (q := 72) (Y := zm_175) WK.1 rfl rfl zm_175_t rfl rfl) rfl rfl rfl rfl rfl (zq_good1 WK hK0) ?_
          refine zw_beq1 (g := 95) (pc' := 82) rfl rfl rfl (rfl : _ = (1 : Int)) (fun h9 => absurd h9 (by decide)) (fun hb => ?_)
          refine zw_ld (n := 1) (k := 0) (f := zp_isR) (pc' := 83) rfl rfl l0 rfl rfl ?_
          refine zw_s (pc' := 85) rfl rfl ?_
          by_cases hsg : (K.2.1 72 28).toInt = 3 ∧ (K.2.1 72 32).toInt = (Int32.ofInt 40).toInt
          · refine zw_c (pc' := 88) (zw_cv (q := 72) (Y := zm_194) WK.1 rfl rfl zm_194_t rfl rfl) rfl rfl rfl rfl rfl (zq_sign1 WK hsg) ?_
            refine zw_beq1 (g := 95) (pc' := 91) rfl rfl rfl (rfl : _ = (1 : Int)) (fun h9 => absurd h9 (by decide)) (fun hb => ?_)
            refine zw_s (pc' := 92) rfl rfl ?_
            refine zw_s (pc' := 96) rfl rfl ?_
            refine zw_st (n := 1) (k := 3) (f := zp_isI) (pc' := 97) rfl rfl rfl rfl rfl ?_
            refine zw_ld (n := 1) (k := 3) (f := zp_isI) (pc' := 98) rfl rfl zw_g1 rfl rfl ?_
            refine zw_beq1 (g := 117) (pc' := 101) rfl rfl rfl (rfl : _ = (1 : Int)) (fun h9 => absurd h9 (by decide)) (fun hb => ?_)
            obtain ⟨m1, m2, m3, m4⟩ := zx_wait (y := Int32.ofInt 14) k1 hK0 (by omega) (by decide)
            have hT := m4 0 1 rfl rfl
            have f45 : (zx_wt K (Int32.ofInt 14)).2.1 72 45 = K.2.1 72 45 := zx_wt_f 45 rfl
            obtain ⟨t0, w0⟩ := zx_top k1
            have wb := k1.2.2.1
            refine zw_ld (n := 1) (k := 0) (f := zp_isR) (pc' := 102) rfl rfl (zw_gt l0 rfl rfl) rfl rfl ?_
            refine zw_s (pc' := 104) rfl rfl ?_
            refine zw_cn (pc' := 107) (zw_cv (q := 72) (Y := zm_196) WK.1 rfl rfl zm_196_t rfl rfl) rfl rfl rfl rfl rfl (zq_waits WK ⟨w0, by show _ < ((800 : Nat) : Int); omega⟩) ?_
            obtain ⟨K2, c1, c2, c3, c4, c5, c6⟩ := zx_T_goes (L := L) (σ := σ) (d := d + 3) hT
            have pK2 := zx_phi_le c2.1
            refine zw_ld (n := 1) (k := 0) (f := zp_isR) (pc' := 108) rfl rfl (zw_gt l0 rfl rfl) rfl rfl ?_
            refine zw_cn (pc' := 111) (zw_cv (q := 72) (Y := zm_171) WK.1 rfl rfl zm_171_t rfl rfl) rfl rfl rfl rfl rfl (c1) ?_
            obtain ⟨_, e1, K3, rfl, e2, e3, e4, e5⟩ := zx_deeper (L := L) (σ := σ) (d := d + 2) c2
            have WK2 := zR_Wd (zR_dn c2.1)
            refine zw_ld (n := 1) (k := 0) (f := zp_isR) (pc' := 112) rfl rfl (zw_gt l0 rfl rfl) rfl rfl ?_
            refine zw_cn (pc' := 115) (zw_cv (q := 72) (Y := zm_193) WK2.1 rfl rfl zm_193_t rfl rfl) rfl rfl rfl rfl rfl (e1) ?_
            refine zw_s (pc' := 116) rfl rfl ?_
            refine zw_st (n := 1) (k := 2) (f := zp_isI) (pc' := 117) rfl rfl rfl rfl rfl ?_
            refine zw_s (pc' := 4) rfl rfl ?_
            exact ih _ (by rw [if_neg (by decide)]; omega) K3 _ _ _ rfl (zw_gt (zw_gt l0 rfl rfl) rfl rfl) zw_g1 (zw_gt zw_g1 rfl rfl) e2 (zx_F_t (zx_F_t (zx_F_t k2 m1) c3) e3) (by rw [e5, c6, f45]; exact k3) (by omega)
          · refine zw_c (pc' := 88) (zw_cv (q := 72) (Y := zm_194) WK.1 rfl rfl zm_194_t rfl rfl) rfl rfl rfl rfl rfl (zq_sign0 WK hsg) ?_
            refine zw_beq1 (g := 95) (pc' := 91) rfl rfl rfl (rfl : _ = (0 : Int)) (fun hb => ?_) (fun h9 => absurd h9 (by decide))
            refine zw_s (pc' := 96) rfl rfl ?_
            refine zw_st (n := 1) (k := 3) (f := zp_isI) (pc' := 97) rfl rfl rfl rfl rfl ?_
            refine zw_ld (n := 1) (k := 3) (f := zp_isI) (pc' := 98) rfl rfl zw_g1 rfl rfl ?_
            refine zw_beq1 (g := 117) (pc' := 101) rfl rfl rfl (rfl : _ = (0 : Int)) (fun hb => ?_) (fun h9 => absurd h9 (by decide))
            refine zw_s (pc' := 4) rfl rfl ?_
            exact ih _ (by rw [if_pos (by decide)]; omega) K _ _ _ rfl (zw_gt l0 rfl rfl) (zw_gt l2 rfl rfl) zw_g1 k1 k2 k3 (by omega)
        · refine zw_c (pc' := 79) (zw_cv (q := 72) (Y := zm_175) WK.1 rfl rfl zm_175_t rfl rfl) rfl rfl rfl rfl rfl (zq_good0 WK hK0) ?_
          refine zw_beq1 (g := 95) (pc' := 82) rfl rfl rfl (rfl : _ = (0 : Int)) (fun hb => ?_) (fun h9 => absurd h9 (by decide))
          refine zw_s (pc' := 96) rfl rfl ?_
          refine zw_st (n := 1) (k := 3) (f := zp_isI) (pc' := 97) rfl rfl rfl rfl rfl ?_
          refine zw_ld (n := 1) (k := 3) (f := zp_isI) (pc' := 98) rfl rfl zw_g1 rfl rfl ?_
          refine zw_beq1 (g := 117) (pc' := 101) rfl rfl rfl (rfl : _ = (0 : Int)) (fun hb => ?_) (fun h9 => absurd h9 (by decide))
          refine zw_s (pc' := 4) rfl rfl ?_
          exact ih _ (by rw [if_pos (by decide)]; omega) K _ _ _ rfl (zw_gt l0 rfl rfl) (zw_gt l2 rfl rfl) zw_g1 k1 k2 k3 (by omega)
      · refine zw_c (pc' := 12) (zw_cv (q := 72) (Y := zm_175) W.1 rfl rfl zm_175_t rfl rfl) rfl rfl rfl rfl rfl (zq_good0 W hg) ?_
        refine zw_beq1 (g := 120) (pc' := 15) rfl rfl rfl (rfl : _ = (0 : Int)) (fun hb => ?_) (fun h9 => absurd h9 (by decide))
        exact zx_opE hK l0 h hF ha hp

theorem zx_operand {L : Nat} {σ : Nat → Int32} {d a : Nat} {H : zp_H} {y : Int32} (hK : zx_KW L σ) (h : zx_S a 0 0 H) (ha : (a : Int) ≤ (H.2.1 72 45).toInt) : ∃ X, zp_Call L σ (d + 6) 195 [.inr (.inr (some 73)), .inl y] H X ∧ (fun X => ∃ H1, X = (.inl none, H1) ∧ zx_S a 1 0 H1 ∧ zx_F a H H1 ∧ ((H1.2.1 72 23).toInt = 0 → zx_phi H + 2 ≤ zx_phi H1) ∧ (a : Int) ≤ (H1.2.1 72 45).toInt ∧ zx_phi H ≤ zx_phi H1) X := by
  refine zw_met zm_195_t rfl rfl ?_
  refine zw_ld (n := 1) (k := 1) (f := zp_isI) (pc' := 1) rfl rfl rfl rfl rfl ?_
  refine zw_st (n := 1) (k := 2) (f := zp_isI) (pc' := 2) rfl rfl rfl rfl rfl ?_
  refine zw_s (pc' := 3) rfl rfl ?_
  refine zw_st (n := 1) (k := 3) (f := zp_isI) (pc' := 4) rfl rfl rfl rfl rfl ?_
  exact zx_opO hK _ H _ _ _ rfl (zw_gt (zw_gt rfl rfl rfl) rfl rfl) (zw_gt zw_g1 rfl rfl) zw_g1 h (zx_F_r H) ha (Int.le_refl _)
end
section
/-! ===== the reference reads an expression: brackets close, the whole ===== -/
theorem zx_phi_i {H H1 : zp_H} (h1 : (H1.2.1 72 27).toInt = (H.2.1 72 27).toInt) (h2 : (H1.2.1 72 28).toInt = (H.2.1 72 28).toInt) : zx_phi H1 = zx_phi H := by
  unfold zx_phi
  rw [h1, h2]
theorem zx_S_a {a e o : Nat} {H : zp_H} (h : zx_S a e o H) (h0 : (H.2.1 72 23).toInt = 0) : (a : Int) ≤ (H.2.1 72 45).toInt := by
  obtain ⟨_, _, _, _, n, g5⟩ := h.2.2.2 h0
  have := zr_run_le g5
  have t0 := (zx_top h).1
  have : a ≤ (H.2.1 72 45).toInt.toNat := this
  omega
theorem zx_T_92 {a e o j : Nat} {x : Int32} {H : zp_H} (h : zx_T a e o H) (hx : x = Int32.ofInt 0 ∨ x = Int32.ofInt 1) : zx_T a e o (zw_I H 92 j (zp_nar 2 x)) ∧ zx_F a H (zw_I H 92 j (zp_nar 2 x)) ∧ zx_phi (zw_I H 92 j (zp_nar 2 x)) = zx_phi H ∧ (zw_I H 92 j (zp_nar 2 x)).2.1 72 45 = H.2.1 72 45 := by
  obtain ⟨h1, h2, h3, h4, h5, h6, h7, h8⟩ := h
  have f : ∀ k, (zw_I H 92 j (zp_nar 2 x)).2.1 72 k = H.2.1 72 k := fun k => zw_ne rfl rfl
  have f90 : (zw_I H 92 j (zp_nar 2 x)).2.1 90 = H.2.1 90 := funext (fun i => zw_ne rfl rfl)
  have f91 : (zw_I H 92 j (zp_nar 2 x)).2.1 91 = H.2.1 91 := funext (fun i => zw_ne rfl rfl)
  have hphi : zx_phi (zw_I H 92 j (zp_nar 2 x)) = zx_phi H := zx_phi_e (f 27) (f 28)
  have b1 := zR_dn h1
  have b2 := zR_puta (p := 92) (j := j) (x := zp_nar 2 x) (t := 2) (n := 9) b1 rfl (fun r hr => by
    have hr : [((0 : Int), (1 : Int))][j % 1]? = some r := hr
    rw [Nat.mod_one] at hr
    cases hr
    rcases hx with rfl | rfl
    · exact ⟨by decide, by decide⟩
    · exact ⟨by decide, by decide⟩) (zJ_I rfl b1.2.2.2.2.2.2.2)
  refine ⟨⟨zR_up b2 ?_, by rw [f]; exact h2, by rw [f]; exact h3, by rw [hphi, f, f]; exact h4, by rw [hphi, f]; exact h5, by rw [f, f, f91]; exact h6, by rw [f, f91]; exact h7, by rw [f, f, f90, f91]; exact h8⟩, ⟨zk_Fr_I (zk_Fr_r H) rfl rfl, fun i _ => by rw [f90]⟩, hphi, f 45⟩
  have c := zR_cn h1
  unfold zR_cc
  rw [f, f, f]
  exact c
def zm_202 : za_MI := (yX12_isOpened, prog_14_method_33_code, 2, (some FieldType.boolean), 12, 0, 0, [], za_i202)
theorem zm_202_t : za_MT 202 = some zm_202 := rfl
def zm_203 : za_MI := (yX12_closes, prog_14_method_34_code, 1, none, 12, 0, 0, [], za_i203)
theorem zm_203_t : za_MT 203 = some zm_203 := rfl
theorem zx_isoL {L : Nat} {σ : Nat → Int32} {d : Nat} {H : zp_H} (W : zw_W H) (hw : 0 ≤ (H.2.1 72 46).toInt ∧ (H.2.1 72 46).toInt ≤ 700) : ∀ (n : Nat) (lv : zp_LV) (x : Int32), (x.toInt + 1).toNat = n → zp_get lv 0 = some (.inr (.inr (some 73))) → zp_get lv 1 = some (.inl x) → -1 ≤ x.toInt ∧ x.toInt < (H.2.1 72 46).toInt → zs_Safe L σ (fun X => ∃ v, X = (.inl (some (.inl v)), H) ∧ ((v = Int32.ofInt 1 ∧ ∃ i, i < (H.2.1 72 46).toInt.toNat ∧ 14 ≤ (H.2.1 91 i).toInt) ∨ v = Int32.ofInt 0)) zm_202 [] (d + 1) (7, lv, [], H, (0, 0)) := by
  intro n
  induction n with
  | zero =>
    intro lv x hn l0 l1 hx
    refine zw_ld (n := 1) (k := 1) (f := zp_isI) (pc' := 8) rfl rfl l1 rfl rfl ?_
    refine zw_blt1 (g := 29) (pc' := 11) rfl rfl rfl rfl (fun hb => ?_) (fun hb => ?_)
    · refine zw_ld (n := 1) (k := 1) (f := zp_isI) (pc' := 30) rfl rfl l1 rfl rfl ?_
      refine zw_blt1 (g := 37) (pc' := 33) rfl rfl rfl rfl (fun hc => ?_) (fun hc => ?_)
      · refine zw_s (pc' := 38) rfl rfl ?_
        refine zw_rz rfl rfl (by decide) ?_
        exact ⟨_, rfl, Or.inr rfl⟩
      · omega
    · omega
  | succ n ih =>
    intro lv x hn l0 l1 hx
    have e1 : (x + Int32.ofInt (-1)).toInt = x.toInt - 1 := by
      have h1 : (Int32.ofInt (-1)).toInt = -1 := rfl
      rw [zn_add (by omega) (by omega), h1]
      omega
    refine zw_ld (n := 1) (k := 1) (f := zp_isI) (pc' := 8) rfl rfl l1 rfl rfl ?_
    refine zw_blt1 (g := 29) (pc' := 11) rfl rfl rfl rfl (fun hb => ?_) (fun hb => ?_)
    · omega
    · refine zw_ld (n := 1) (k := 0) (f := zp_isR) (pc' := 12) rfl rfl l0 rfl rfl ?_
      refine zw_gR (q := 72) (pc' := 15) W rfl rfl rfl rfl (W.2 72 60 _ rfl) rfl ?_
      refine zw_ld (n := 1) (k := 1) (f := zp_isI) (pc' := 16) rfl rfl l1 rfl rfl ?_
      refine zw_ia (q := 91) (pc' := 17) W rfl rfl (by decide) (⟨hb, by show _ < ((800 : Nat) : Int); omega⟩) rfl rfl ?_
      by_cases ho : 14 ≤ (H.2.1 91 x.toInt.toNat).toInt
      · refine zw_c (pc' := 20) (zw_cs (Y := zm_200) rfl rfl zm_200_t) rfl rfl rfl rfl rfl (zq_open1 W ho) ?_
        refine zw_bne1 (g := 29) (pc' := 23) rfl rfl rfl (rfl : _ = (1 : Int)) (fun hb => ?_) (fun h9 => absurd h9 (by decide))
        refine zw_ld (n := 1) (k := 1) (f := zp_isI) (pc' := 30) rfl rfl l1 rfl rfl ?_
        refine zw_blt1 (g := 37) (pc' := 33) rfl rfl rfl rfl (fun hc => ?_) (fun hc => ?_)
        · omega
        · refine zw_s (pc' := 34) rfl rfl ?_
          refine zw_s (pc' := 38) rfl rfl ?_
          refine zw_rz rfl rfl (by decide) ?_
          exact ⟨_, rfl, Or.inl ⟨rfl, x.toInt.toNat, by omega, ho⟩⟩
      · refine zw_c (pc' := 20) (zw_cs (Y := zm_200) rfl rfl zm_200_t) rfl rfl rfl rfl rfl (zq_open0 W (by omega)) ?_
        refine zw_bne1 (g := 29) (pc' := 23) rfl rfl rfl (rfl : _ = (0 : Int)) (fun h9 => absurd h9 (by decide)) (fun hb => ?_)
        refine zw_ii (pc' := 26) rfl l1 rfl rfl ?_
        refine zw_s (pc' := 7) rfl rfl ?_
        exact ih _ _ (by omega) (zw_gt l0 rfl rfl) zw_g1 (by omega)

theorem zx_isOpened {L : Nat} {σ : Nat → Int32} {d : Nat} {H : zp_H} (W : zw_W H) (hw : 0 ≤ (H.2.1 72 46).toInt ∧ (H.2.1 72 46).toInt ≤ 700) : ∃ X, zp_Call L σ (d + 2) 202 [.inr (.inr (some 73))] H X ∧ (fun X => ∃ v, X = (.inl (some (.inl v)), H) ∧ ((v = Int32.ofInt 1 ∧ ∃ i, i < (H.2.1 72 46).toInt.toNat ∧ 14 ≤ (H.2.1 91 i).toInt) ∨ v = Int32.ofInt 0)) X := by
  have e1 : (H.2.1 72 46 - Int32.ofInt 1).toInt = (H.2.1 72 46).toInt - 1 := zw_m1 (by omega)
  refine zw_met zm_202_t rfl rfl ?_
  refine zw_ld (n := 1) (k := 0) (f := zp_isR) (pc' := 1) rfl rfl rfl rfl rfl ?_
  refine zw_gI (q := 72) (pc' := 4) W rfl rfl rfl rfl rfl rfl ?_
  refine zw_s (pc' := 5) rfl rfl ?_
  refine zw_isub (pc' := 6) rfl rfl ?_
  refine zw_st (n := 1) (k := 1) (f := zp_isI) (pc' := 7) rfl rfl rfl rfl rfl ?_
  exact zx_isoL W hw _ _ _ rfl (zw_gt rfl rfl rfl) zw_g1 ⟨by omega, by omega⟩

theorem zx_clT {a : Nat} {H : zp_H} (h : zx_S a 1 0 H) (h0 : (H.2.1 72 23).toInt = 0) (hs : (H.2.1 72 28).toInt ≠ 0) (hw : 0 < (H.2.1 72 46).toInt) (ho : 14 ≤ (H.2.1 91 ((H.2.1 72 46).toInt - 1).toNat).toInt) : zx_T a 1 0 (zw_I (zw_I H 72 46 (H.2.1 72 46 - Int32.ofInt 1)) 72 47 (H.2.1 72 47 - Int32.ofInt 1)) := by
  obtain ⟨t0, w0⟩ := zx_top h
  obtain ⟨hB, h2, h3, hg⟩ := h
  obtain ⟨g1, g2, g3, g4, n, g5⟩ := hg h0
  have hd0 := zR_fr1 (zR_dn hB) (k := 47) (r := (0, 6)) rfl rfl
  have hd0 : 0 ≤ (H.2.1 72 47).toInt ∧ (H.2.1 72 47).toInt ≤ 6 := hd0
  have e1 : (H.2.1 72 46 - Int32.ofInt 1).toInt = (H.2.1 72 46).toInt - 1 := zw_m1 (by omega)
  have e2 : (H.2.1 72 47 - Int32.ofInt 1).toInt = (H.2.1 72 47).toInt - 1 := zw_m1 (by omega)
  have hop := zr_opn_1 (w := H.2.1 91) (n := (H.2.1 72 46).toInt.toNat) (i := ((H.2.1 72 46).toInt - 1).toNat) (by omega) ho
  have en : (H.2.1 72 46).toInt.toNat = ((H.2.1 72 46).toInt - 1).toNat + 1 := by omega
  have hO : zr_opn (H.2.1 91) (H.2.1 72 46).toInt.toNat = zr_opn (H.2.1 91) ((H.2.1 72 46).toInt - 1).toNat + 1 := by
    rw [en]
    show zr_opn _ _ + _ = _
    rw [if_pos ho]
  have hN : zr_bin (H.2.1 91) (H.2.1 72 46).toInt.toNat = zr_bin (H.2.1 91) ((H.2.1 72 46).toInt - 1).toNat := by
    rw [en]
    show zr_bin _ _ + _ = _
    rw [if_neg (by omega)]
    rfl
  generalize hK : zw_I (zw_I H 72 46 (H.2.1 72 46 - Int32.ofInt 1)) 72 47 (H.2.1 72 47 - Int32.ofInt 1) = K
  have b0 := zR_dn hB
  have b1 := zR_putf (k := 46) (x := H.2.1 72 46 - Int32.ofInt 1) b0 (fun r hr => by cases hr; exact ⟨by show (0 : Int) ≤ _; omega, by show _ ≤ (800 : Int); omega⟩) rfl (zJ_I rfl b0.2.2.2.2.2.2.2)
  have b2 := zR_putf (k := 47) (x := H.2.1 72 47 - Int32.ofInt 1) b1 (fun r hr => by cases hr; exact ⟨by show (0 : Int) ≤ _; omega, by show _ ≤ (6 : Int); omega⟩) rfl (zJ_I rfl b1.2.2.2.2.2.2.2)
  rw [hK] at b2
  have f : ∀ k, Nat.beq k 46 = false → Nat.beq k 47 = false → K.2.1 72 k = H.2.1 72 k := fun k hk hk2 => by rw [← hK]; exact zw_ne (zw_ne rfl (by rw [hk]; rfl)) (by rw [hk2]; rfl)
  have f46 : K.2.1 72 46 = H.2.1 72 46 - Int32.ofInt 1 := by rw [← hK]; exact zw_ne zw_eq rfl
  have f47 : K.2.1 72 47 = H.2.1 72 47 - Int32.ofInt 1 := by rw [← hK]; exact zw_eq
  have f90 : K.2.1 90 = H.2.1 90 := by rw [← hK]; exact funext (fun i => zw_ne (zw_ne rfl rfl) rfl)
  have f91 : K.2.1 91 = H.2.1 91 := by rw [← hK]; exact funext (fun i => zw_ne (zw_ne rfl rfl) rfl)
  have hphi : zx_phi K = zx_phi H := zx_phi_e (f 27 rfl rfl) (f 28 rfl rfl)
  refine ⟨zR_up b2 ?_, by rw [f 23 rfl rfl]; exact h0, by rw [f 28 rfl rfl]; exact hs, by rw [hphi, f 45 rfl rfl, f46, e1]; omega, by rw [hphi, f46, e1]; omega, ?_, ?_, n, ?_⟩
  · have c := zR_cn hB
    unfold zR_cc
    rw [f 23 rfl rfl, f 34 rfl rfl, f 35 rfl rfl]
    exact c
  · rw [f47, e2, f91, f46, e1]; omega
  · rw [f46, e1, f91]
    intro i hi
    exact g4 i (by omega)
  · rw [f90, f91, f 45 rfl rfl, f46, e1, ← hN]
    exact g5

theorem zx_closes {L : Nat} {σ : Nat → Int32} {d a : Nat} {H : zp_H} (h : zx_S a 1 0 H) (h0 : (H.2.1 72 23).toInt = 0) (hs : (H.2.1 72 28).toInt ≠ 0) (hop : 1 ≤ zr_opn (H.2.1 91) (H.2.1 72 46).toInt.toNat) : ∃ X, zp_Call L σ (d + 4) 203 [.inr (.inr (some 73))] H X ∧ ∃ H1, X = (.inl none, H1) ∧ zx_S a 1 0 H1 ∧ zx_F a H H1 ∧ (H1.2.1 72 23).toInt = 0 ∧ zx_phi H + 2 ≤ zx_phi H1 := by
  have W := zR_Wd (zR_dn h.1)
  refine zw_met zm_203_t rfl rfl ?_
  obtain ⟨_, c1, K, rfl, c2, c3, c4, c5, c6⟩ := zx_drops (L := L) (σ := σ) (d := d) (y := Int32.ofInt 0) h (zx_S_a h h0)
  have WK := zR_Wd (zR_dn c2.1)
  have k23 := zx_fe c3.1 23 rfl rfl rfl
  have k27 := zx_fe c3.1 27 rfl rfl rfl
  have k28 := zx_fe c3.1 28 rfl rfl rfl
  have hphi := zx_phi_i k27 k28
  obtain ⟨t0, w0⟩ := zx_top c2
  have hw : 0 < (K.2.1 72 46).toInt := by
    by_cases h9 : (K.2.1 72 46).toInt = 0
    · have h8 : zr_opn (K.2.1 91) (K.2.1 72 46).toInt.toNat = 0 := by rw [h9]; rfl
      omega
    · omega
  have ho : 14 ≤ (K.2.1 91 ((K.2.1 72 46).toInt - 1).toNat).toInt := by
    rcases c6 (by decide) with h9 | h9
    · omega
    · exact h9
  have hT := zx_clT c2 (by omega) (by omega) hw ho
  obtain ⟨K1, d1, d2, d3, d4, d5, d6⟩ := zx_T_goes (L := L) (σ := σ) (d := d + 1) hT
  have e45 : (zw_I (zw_I K 72 46 (K.2.1 72 46 - Int32.ofInt 1)) 72 47 (K.2.1 72 47 - Int32.ofInt 1)).2.1 72 45 = K.2.1 72 45 := zw_ne (zw_ne rfl rfl) rfl
  have eph : zx_phi (zw_I (zw_I K 72 46 (K.2.1 72 46 - Int32.ofInt 1)) 72 47 (K.2.1 72 47 - Int32.ofInt 1)) = zx_phi K := zx_phi_e (zw_ne (zw_ne rfl rfl) rfl) (zw_ne (zw_ne rfl rfl) rfl)
  refine zw_ld (n := 1) (k := 0) (f := zp_isR) (pc' := 1) rfl rfl rfl rfl rfl ?_
  refine zw_s (pc' := 2) rfl rfl ?_
  refine zw_cn (pc' := 5) (zw_cv (q := 72) (Y := zm_199) W.1 rfl rfl zm_199_t rfl rfl) rfl rfl rfl rfl rfl (c1) ?_
  refine zw_ld (n := 1) (k := 0) (f := zp_isR) (pc' := 6) rfl rfl rfl rfl rfl ?_
  refine zw_s (pc' := 7) rfl rfl ?_
  refine zw_gI (q := 72) (pc' := 10) WK rfl rfl rfl rfl rfl rfl ?_
  refine zw_s (pc' := 11) rfl rfl ?_
  refine zw_isub (pc' := 12) rfl rfl ?_
  refine zw_pI (q := 72) (pc' := 15) WK rfl rfl rfl rfl rfl rfl ?_
  refine zw_ld (n := 1) (k := 0) (f := zp_isR) (pc' := 16) rfl rfl rfl rfl rfl ?_
  refine zw_s (pc' := 17) rfl rfl ?_
  refine zw_gI (q := 72) (pc' := 20) WK rfl rfl rfl rfl (zw_ne rfl rfl) rfl ?_
  refine zw_s (pc' := 21) rfl rfl ?_
  refine zw_isub (pc' := 22) rfl rfl ?_
  refine zw_pI (q := 72) (pc' := 25) WK rfl rfl rfl rfl rfl rfl ?_
  refine zw_ld (n := 1) (k := 0) (f := zp_isR) (pc' := 26) rfl rfl rfl rfl rfl ?_
  refine zw_cn (pc' := 29) (zw_cv (q := 72) (Y := zm_171) WK.1 rfl rfl zm_171_t rfl rfl) rfl rfl rfl rfl rfl (d1) ?_
  refine zw_rn rfl rfl ?_
  exact ⟨K1, rfl, d2, zx_F_t (zx_Fd_F c3) (zx_F_t ⟨zk_Fr_I (zk_Fr_I (zk_Fr_r K) rfl rfl) rfl rfl, fun i _ => zw_ne (zw_ne rfl rfl) rfl⟩ d3), d4, by omega⟩
end
