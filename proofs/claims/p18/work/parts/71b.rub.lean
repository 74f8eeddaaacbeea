/-! ===== the reference rubs marks ===== -/
theorem zw_rem {L : Nat} {σ : Nat → Int32} {P : zp_X → Prop} {M : za_MI} {fs : List zs_F} {d pc pc' : Nat} {lv : zp_LV} {st : List zp_V} {H : zp_H} {c : Nat × Nat} {x y : Int32} (hi : za_fe (za_is M) pc = some .irem) (hy : y ≠ 0) (hp : pc + 1 = pc') (hS : zs_Safe L σ P M fs d (pc', lv, .inl (x - x / y * y) :: st, H, c)) : zs_Safe L σ P M fs d (pc, lv, .inl y :: .inl x :: st, H, c) := by
  refine zs_step (S := (pc, lv, .inl y :: .inl x :: st, H, c)) (S' := (pc', lv, .inl (x - x / y * y) :: st, H, c)) hi ?_ hS
  show (if y = 0 then none else zp_go lv (H, c) (pc + 1) (.inl (x - x / y * y) :: st)) = _
  rw [if_neg hy, ← hp]
  rfl
theorem zt_bits {L : Nat} {σ : Nat → Int32} {d : Nat} {H : zp_H} {x : Int32} (h : zk_Bs zR zg zJ H) : ∃ H1 v, zp_Call L σ (d + 1) 217 [.inl x] H (.inl (some (.inl v)), H1) ∧ zk_Bs zR zg zJ H1 ∧ zk_Fr zg [] [] H H1 := by
  have hct : zk_Ct L σ zR zg zJ zr_b := zk_chk_ok zR_W (fun _ h => absurd h List.not_mem_nil) zrt_b
  obtain ⟨X, x1, x2, x3, o, o1, o2, o3, o4⟩ := hct (d + 1) (Nat.le_add_left 1 d) [.inl x] H ⟨zl_full x, trivial⟩ h (fun f hf => absurd hf List.not_mem_nil)
  rcases List.mem_cons.mp o1 with rfl | o1
  · obtain ⟨X1, X2⟩ := X
    obtain ⟨v, e, _⟩ := zk_rv_i o2
    have e : X1 = .inl (some (.inl v)) := e
    subst e
    exact ⟨X2, v, x1, x2, x3⟩
  · exact absurd o1 List.not_mem_nil
theorem zt_s3 {H : zp_H} (h : zk_Bs zR0 zg zT H) {k : Nat} (hk : k < 8) : 0 ≤ (H.2.1 74 (4 * k + 3)).toInt ∧ (H.2.1 74 (4 * k + 3)).toInt ≤ 255 := zT_ar1 h (p := 74) (t := 0) (n := 32) (i := 4 * k + 3) (r := (0, 255)) rfl (by omega) (by show [((0 : Int), (63 : Int)), (-2147483648, 2147483647), (0, 8), (0, 255)][(4 * k + 3) % 4]? = _; rw [show (4 * k + 3) % 4 = 3 by omega]; rfl)
/-- a mark is rubbed -/
theorem zt_rb {H : zp_H} {s : Nat} {x : Int32} (hB : zk_Bs zR zg zJ H) (hs : s < 8) (hx : 0 ≤ x.toInt ∧ x.toInt ≤ 255) : zk_Bs zR zg zJ (zw_I H 74 (4 * s + 3) (zp_nar 0 x)) := by
  have hJ := hB.2.2.2.2.2.2.2
  have b1 := zT_puta (p := 74) (j := 4 * s + 3) (x := zp_nar 0 x) (t := 0) (n := 32) (zT_dn hB) rfl (fun r hr => by
    have hr : [((0 : Int), (63 : Int)), (-2147483648, 2147483647), (0, 8), (0, 255)][(4 * s + 3) % 4]? = some r := hr
    rw [show (4 * s + 3) % 4 = 3 by omega] at hr
    cases hr
    exact hx) trivial
  refine zT_up b1 (zt_J hJ rfl rfl rfl rfl rfl rfl ?_) (fun h9 => zR_cn (H := H) hB h9)
  intro s' h'
  have e : (zw_I H 74 (4 * s + 3) (zp_nar 0 x)).2.1 74 (4 * s' + 2) = H.2.1 74 (4 * s' + 2) := zp_u_ne (fun h8 => by have := h8.2; omega)
  rw [e]
  exact hJ.2.1 s' h'
def zm_216 : za_MI := (yX12_rub, prog_14_method_55_code, 6, (some FieldType.int), 12, 0, 0, [], za_i216)
theorem zm_216_t : za_MT 216 = some zm_216 := rfl
def zm_217 : za_MI := (yX12_bits, prog_14_method_6_code, 3, (some FieldType.int), 12, 0, 0, [], za_i217)
theorem zm_217_t : za_MT 217 = some zm_217 := rfl
theorem zt_rbL {L : Nat} {σ : Nat → Int32} {d s : Nat} {H0 : zp_H} {xs xc : Int32} (hs : xs.toInt = (s : Int)) (hs8 : s < 8) : ∀ (n : Nat) (H : zp_H) (lv : zp_LV) (xi k : Int32), zk_Bs zR zg zJ H → zk_Fr zg zt_wM zt_wA H0 H → zp_get lv 0 = some (.inr (.inr (some 73))) → zp_get lv 1 = some (.inl xs) → zp_get lv 3 = some (.inl xc) → zp_get lv 4 = some (.inl xi) → zp_get lv 5 = some (.inl k) → 0 ≤ k.toInt → (8 - k.toInt).toNat ≤ n → zs_Safe L σ (zt_P H0) zm_216 [] (d + 2) (51, lv, [], H, (0, 0)) := by
  intro n
  induction n with
  | zero =>
    intro H lv xi k hB hF l0 l1 l3 l4 l5 hk hn
    have W := zR_Wd (zR_dn hB)
    have m0 := zt_s2 (zT_dn hB) (k := s) hs8
    have r0 := zt_s3 (zT_dn hB) (k := s) hs8
    have a5 : (Int32.ofInt 4 * xs).toInt = 4 * xs.toInt := zt_mul (by decide) (by omega)
    have a6 : (Int32.ofInt 4 * xs + Int32.ofInt 3).toInt = 4 * xs.toInt + 3 := by rw [zt_add (by decide) (by omega), a5]
    have c6 : (Int32.ofInt 4 * xs + Int32.ofInt 3).toInt.toNat = 4 * s + 3 := by omega
    have em : (4 * xs.toInt.toNat + 2) = 4 * s + 2 := by omega
    refine zw_ld (n := 2) (k := 5) (f := zp_isI) (pc' := 53) rfl rfl l5 rfl rfl ?_
    refine zw_ld (n := 1) (k := 0) (f := zp_isR) (pc' := 54) rfl rfl l0 rfl rfl ?_
    refine zw_ld (n := 1) (k := 1) (f := zp_isI) (pc' := 55) rfl rfl l1 rfl rfl ?_
    refine zw_c (pc' := 58) (zw_cv (q := 72) (Y := zm_212) W.1 rfl rfl zm_212_t rfl rfl) rfl rfl rfl rfl rfl (zq_marks W (by omega)) ?_
    rw [em]
    refine zw_bge2 (g := 112) (pc' := 61) rfl rfl rfl rfl rfl (fun hb => ?_) (fun hb => ?_)
    · refine zw_ld (n := 1) (k := 0) (f := zp_isR) (pc' := 113) rfl rfl l0 rfl rfl ?_
      refine zw_gR (q := 72) (pc' := 116) W rfl rfl rfl rfl (W.2 72 14 _ rfl) rfl ?_
      refine zw_s (pc' := 117) rfl rfl ?_
      refine zw_ld (n := 1) (k := 1) (f := zp_isI) (pc' := 118) rfl rfl l1 rfl rfl ?_
      refine zw_imul (pc' := 119) rfl rfl ?_
      refine zw_s (pc' := 120) rfl rfl ?_
      refine zw_iadd (pc' := 121) rfl rfl ?_
      refine zw_ia (q := 74) (pc' := 122) W rfl rfl (by decide) (⟨by omega, by show _ < ((32 : Nat) : Int); omega⟩) rfl rfl ?_
      obtain ⟨K, v, c1, c2, c3⟩ := zt_bits (L := L) (σ := σ) (d := d + 1) (x := H.2.1 74 (Int32.ofInt 4 * xs + Int32.ofInt 3).toInt.toNat) hB
      refine zw_c (pc' := 125) (zw_cs (Y := zm_217) rfl rfl zm_217_t) rfl rfl rfl rfl rfl (c1) ?_
      refine zw_ri rfl rfl ?_
      exact ⟨K, v, rfl, c2, zk_Fr_t hF (zk_Fr_w rfl rfl c3)⟩
    · omega
  | succ n ih =>
    intro H lv xi k hB hF l0 l1 l3 l4 l5 hk hn
    have W := zR_Wd (zR_dn hB)
    have m0 := zt_s2 (zT_dn hB) (k := s) hs8
    have r0 := zt_s3 (zT_dn hB) (k := s) hs8
    have a5 : (Int32.ofInt 4 * xs).toInt = 4 * xs.toInt := zt_mul (by decide) (by omega)
    have a6 : (Int32.ofInt 4 * xs + Int32.ofInt 3).toInt = 4 * xs.toInt + 3 := by rw [zt_add (by decide) (by omega), a5]
    have c6 : (Int32.ofInt 4 * xs + Int32.ofInt 3).toInt.toNat = 4 * s + 3 := by omega
    have em : (4 * xs.toInt.toNat + 2) = 4 * s + 2 := by omega
    refine zw_ld (n := 2) (k := 5) (f := zp_isI) (pc' := 53) rfl rfl l5 rfl rfl ?_
    refine zw_ld (n := 1) (k := 0) (f := zp_isR) (pc' := 54) rfl rfl l0 rfl rfl ?_
    refine zw_ld (n := 1) (k := 1) (f := zp_isI) (pc' := 55) rfl rfl l1 rfl rfl ?_
    refine zw_c (pc' := 58) (zw_cv (q := 72) (Y := zm_212) W.1 rfl rfl zm_212_t rfl rfl) rfl rfl rfl rfl rfl (zq_marks W (by omega)) ?_
    rw [em]
    refine zw_bge2 (g := 112) (pc' := 61) rfl rfl rfl rfl rfl (fun hb => ?_) (fun hb => ?_)
    · refine zw_ld (n := 1) (k := 0) (f := zp_isR) (pc' := 113) rfl rfl l0 rfl rfl ?_
      refine zw_gR (q := 72) (pc' := 116) W rfl rfl rfl rfl (W.2 72 14 _ rfl) rfl ?_
      refine zw_s (pc' := 117) rfl rfl ?_
      refine zw_ld (n := 1) (k := 1) (f := zp_isI) (pc' := 118) rfl rfl l1 rfl rfl ?_
      refine zw_imul (pc' := 119) rfl rfl ?_
      refine zw_s (pc' := 120) rfl rfl ?_
      refine zw_iadd (pc' := 121) rfl rfl ?_
      refine zw_ia (q := 74) (pc' := 122) W rfl rfl (by decide) (⟨by omega, by show _ < ((32 : Nat) : Int); omega⟩) rfl rfl ?_
      obtain ⟨K, v, c1, c2, c3⟩ := zt_bits (L := L) (σ := σ) (d := d + 1) (x := H.2.1 74 (Int32.ofInt 4 * xs + Int32.ofInt 3).toInt.toNat) hB
      refine zw_c (pc' := 125) (zw_cs (Y := zm_217) rfl rfl zm_217_t) rfl rfl rfl rfl rfl (c1) ?_
      refine zw_ri rfl rfl ?_
      exact ⟨K, v, rfl, c2, zk_Fr_t hF (zk_Fr_w rfl rfl c3)⟩
    · refine zw_ld (n := 2) (k := 4) (f := zp_isI) (pc' := 63) rfl rfl l4 rfl rfl ?_
      refine zw_s (pc' := 66) rfl rfl ?_
      refine zw_imul (pc' := 67) rfl rfl ?_
      refine zw_s (pc' := 70) rfl rfl ?_
      refine zw_iadd (pc' := 71) rfl rfl ?_
      refine zw_st (n := 2) (k := 4) (f := zp_isI) (pc' := 73) rfl rfl rfl rfl rfl ?_
      refine zw_ld (n := 2) (k := 4) (f := zp_isI) (pc' := 75) rfl rfl zw_g1 rfl rfl ?_
      refine zw_s (pc' := 77) rfl rfl ?_
      refine zw_ishr (pc' := 78) rfl rfl ?_
      refine zw_s (pc' := 81) rfl rfl ?_
      refine zw_iand (pc' := 82) rfl rfl ?_
      refine zw_s (pc' := 84) rfl rfl ?_
      refine zw_rem (pc' := 85) rfl (by decide) rfl ?_
      refine zw_ld (n := 1) (k := 3) (f := zp_isI) (pc' := 86) rfl rfl (zw_gt l3 rfl rfl) rfl rfl ?_
      refine zw_bge2 (g := 106) (pc' := 89) rfl rfl rfl rfl rfl (fun hc => ?_) (fun hc => ?_)
      · have e1 : (k + Int32.ofInt 1).toInt = k.toInt + 1 := zw_p1 (by omega)
        refine zw_ii (pc' := 109) rfl (zw_gt l5 rfl rfl) rfl rfl ?_
        refine zw_s (pc' := 51) rfl rfl ?_
        exact ih H _ _ _ hB hF (zw_gt (zw_gt l0 rfl rfl) rfl rfl) (zw_gt (zw_gt l1 rfl rfl) rfl rfl) (zw_gt (zw_gt l3 rfl rfl) rfl rfl) (zw_gt zw_g1 rfl rfl) zw_g1 (by omega) (by omega)
      · have e1 : (k + Int32.ofInt 1).toInt = k.toInt + 1 := zw_p1 (by omega)
        have sh : (Int32.ofInt 1 <<< (k &&& 31)).toInt = ((2 ^ k.toInt.toNat : Nat) : Int) := zn_shl (by omega) (by omega)
        have p2 : (2 ^ k.toInt.toNat : Nat) ≤ 2 ^ 7 := Nat.pow_le_pow_right (by decide) (by omega)
        have orr := zn_or (x := H.2.1 74 (4 * s + 3)) (y := Int32.ofInt 1 <<< (k &&& 31)) (k := 8) (by decide) r0.1 (by rw [sh]; exact Int.natCast_nonneg _) (by have : ((2 ^ 8 : Nat) : Int) = 256 := rfl; omega) (by rw [sh]; have : ((2 ^ 8 : Nat) : Int) = 256 := rfl; have : (2 ^ 7 : Nat) = 128 := rfl; omega)
        have o8 : ((2 ^ 8 : Nat) : Int) = 256 := rfl
        have hB2 := zt_rb (s := s) (x := H.2.1 74 (4 * s + 3) ||| (Int32.ofInt 1 <<< (k &&& 31))) hB hs8 (by omega)
        refine zw_ld (n := 1) (k := 0) (f := zp_isR) (pc' := 90) rfl rfl (zw_gt l0 rfl rfl) rfl rfl ?_
        refine zw_gR (q := 72) (pc' := 93) W rfl rfl rfl rfl (W.2 72 14 _ rfl) rfl ?_
        refine zw_s (pc' := 94) rfl rfl ?_
        refine zw_ld (n := 1) (k := 1) (f := zp_isI) (pc' := 95) rfl rfl (zw_gt l1 rfl rfl) rfl rfl ?_
        refine zw_imul (pc' := 96) rfl rfl ?_
        refine zw_s (pc' := 97) rfl rfl ?_
        refine zw_iadd (pc' := 98) rfl rfl ?_
        refine zw_s (pc' := 99) rfl rfl ?_
        refine zw_ia (q := 74) (pc' := 100) W rfl rfl (by decide) (⟨by omega, by show _ < ((32 : Nat) : Int); omega⟩) rfl rfl ?_
        refine zw_s (pc' := 101) rfl rfl ?_
        refine zw_ld (n := 2) (k := 5) (f := zp_isI) (pc' := 103) rfl rfl (zw_gt l5 rfl rfl) rfl rfl ?_
        refine zw_ishl (pc' := 104) rfl rfl ?_
        refine zw_ior (pc' := 105) rfl rfl ?_
        refine zw_is (q := 74) (pc' := 106) W rfl rfl (by decide) (⟨by omega, by show _ < ((32 : Nat) : Int); omega⟩) rfl ?_
        rw [c6]
        refine zw_ii (pc' := 109) rfl (zw_gt l5 rfl rfl) rfl rfl ?_
        refine zw_s (pc' := 51) rfl rfl ?_
        exact ih _ _ _ _ hB2 (zk_Fr_I hF rfl rfl) (zw_gt (zw_gt l0 rfl rfl) rfl rfl) (zw_gt (zw_gt l1 rfl rfl) rfl rfl) (zw_gt (zw_gt l3 rfl rfl) rfl rfl) (zw_gt zw_g1 rfl rfl) zw_g1 (by omega) (by omega)

theorem zt_rub {L : Nat} {σ : Nat → Int32} {d : Nat} {H : zp_H} {xs xd xc : Int32} (hB : zk_Bs zR zg zJ H) : ∃ X, zp_Call L σ (d + 3) 216 [.inr (.inr (some 73)), .inl xs, .inl xd, .inl xc] H X ∧ zt_P H X := by
  have W := zR_Wd (zR_dn hB)
  have hJ := hB.2.2.2.2.2.2.2
  have hcc := zR_cn hB
  have sl := zR_fr1 (zR_dn hB) (k := 5) (r := (0, 8)) rfl rfl
  have sl : 0 ≤ (H.2.1 72 5).toInt ∧ (H.2.1 72 5).toInt ≤ 8 := sl
  have B1 := zt_thr (x := Int32.ofInt 0) hB
  have F1 : zk_Fr zg zt_wM zt_wA H (zw_I H 72 0 (Int32.ofInt 0)) := zk_Fr_I (zk_Fr_r H) rfl rfl
  have t1 : (zw_I H 72 0 (Int32.ofInt 0)).2.1 72 0 = Int32.ofInt 0 := zw_eq
  have h0 : ((zw_I H 72 0 (Int32.ofInt 0)).2.1 72 0).toInt = 0 := by rw [t1]; rfl
  refine zw_met zm_216_t rfl rfl ?_
  refine zw_ld (n := 1) (k := 0) (f := zp_isR) (pc' := 1) rfl rfl rfl rfl rfl ?_
  refine zw_s (pc' := 2) rfl rfl ?_
  refine zw_pI (q := 72) (pc' := 5) W rfl rfl rfl rfl rfl rfl ?_
  refine zw_ld (n := 1) (k := 0) (f := zp_isR) (pc' := 6) rfl rfl rfl rfl rfl ?_
  refine zw_ld (n := 1) (k := 1) (f := zp_isI) (pc' := 7) rfl rfl rfl rfl rfl ?_
  by_cases hs : 0 ≤ xs.toInt ∧ xs.toInt < (H.2.1 72 5).toInt
  · refine zw_c (pc' := 10) (zw_cv (q := 72) (Y := zm_210) W.1 rfl rfl zm_210_t rfl rfl) rfl rfl rfl rfl rfl (zq_slate1 (H := zw_I H 72 0 (Int32.ofInt 0)) W h0 hs) ?_
    refine zw_bne1 (g := 15) (pc' := 13) rfl rfl rfl (rfl : _ = (1 : Int)) (fun hb => ?_) (fun h9 => absurd h9 (by decide))
    refine zw_ld (n := 1) (k := 3) (f := zp_isI) (pc' := 16) rfl rfl rfl rfl rfl ?_
    refine zw_s (pc' := 17) rfl rfl ?_
    refine zw_s (pc' := 19) rfl rfl ?_
    by_cases hc : (Int32.ofInt 0).toInt ≤ xc.toInt ∧ xc.toInt ≤ (Int32.ofInt 100).toInt
    · refine zw_c (pc' := 22) (zw_cs (Y := zm_185) rfl rfl zm_185_t) rfl rfl rfl rfl rfl (zq_within1 hc) ?_
      refine zw_bne1 (g := 30) (pc' := 25) rfl rfl rfl (rfl : _ = (1 : Int)) (fun hb => ?_) (fun h9 => absurd h9 (by decide))
      obtain ⟨s, hss⟩ : ∃ s : Nat, xs.toInt = (s : Int) := ⟨xs.toInt.toNat, by omega⟩
      have a5 : (Int32.ofInt 4 * xs).toInt = 4 * xs.toInt := zt_mul (by decide) (by omega)
      have a6 : (Int32.ofInt 4 * xs + Int32.ofInt 3).toInt = 4 * xs.toInt + 3 := by rw [zt_add (by decide) (by omega), a5]
      have c6 : (Int32.ofInt 4 * xs + Int32.ofInt 3).toInt.toNat = 4 * s + 3 := by omega
      have r0 := zt_s3 (zT_dn hB) (k := s) (by omega)
      have hkC : zt_kC (zw_I H 72 0 (Int32.ofInt 0)) xs.toInt (H.2.1 74 (4 * s + 3)).toInt := by
        intro s' h'
        have hc := hJ.2.1 s' h'
        rw [if_neg (fun h9 => by have := h9.2; omega)]
        show ((zr_cnt (H.2.1 93) s' (H.2.1 72 62).toInt.toNat : Nat) : Int) + 0 ≤ (H.2.1 74 (4 * s' + 2)).toInt
        omega
      obtain ⟨_, k1, K, rfl, k2, k3, k4⟩ := zt_keeps (L := L) (σ := σ) (d := d + 1) (xs := xs) (xv := H.2.1 74 (4 * s + 3)) (by omega) (by omega) (zT_dn B1) hkC
      have hBK : zk_Bs zR zg zJ K := by
        refine zT_up k2 (zt_J hJ ?_ ?_ ?_ ?_ ?_ ?_ k3) ?_
        · rw [zx_fe k4 8 rfl rfl rfl]; rfl
        · rw [zx_ae k4 78 (fun _ => rfl) rfl rfl]; rfl
        · rw [zx_ae k4 80 (fun _ => rfl) rfl rfl]; rfl
        · rw [zx_fe k4 81 rfl rfl rfl]; rfl
        · rw [zx_ae k4 101 (fun _ => rfl) rfl rfl]; rfl
        · rw [zx_ae k4 103 (fun _ => rfl) rfl rfl]; rfl
        · unfold zR_cc
          rw [zx_fe k4 23 rfl rfl rfl, zx_fe k4 34 rfl rfl rfl, zx_fe k4 35 rfl rfl rfl]
          exact fun h9 => hcc h9
      refine zw_ld (n := 1) (k := 0) (f := zp_isR) (pc' := 31) rfl rfl rfl rfl rfl ?_
      refine zw_ld (n := 1) (k := 1) (f := zp_isI) (pc' := 32) rfl rfl rfl rfl rfl ?_
      refine zw_ld (n := 1) (k := 0) (f := zp_isR) (pc' := 33) rfl rfl rfl rfl rfl ?_
      refine zw_gR (q := 72) (pc' := 36) W rfl rfl rfl rfl (W.2 72 14 _ rfl) rfl ?_
      refine zw_s (pc' := 37) rfl rfl ?_
      refine zw_ld (n := 1) (k := 1) (f := zp_isI) (pc' := 38) rfl rfl rfl rfl rfl ?_
      refine zw_imul (pc' := 39) rfl rfl ?_
      refine zw_s (pc' := 40) rfl rfl ?_
      refine zw_iadd (pc' := 41) rfl rfl ?_
      refine zw_ia (q := 74) (pc' := 42) W rfl rfl (by decide) (⟨by omega, by show _ < ((32 : Nat) : Int); omega⟩) (zw_ne rfl rfl) rfl ?_
      rw [c6]
      refine zw_cn (pc' := 45) (zw_cv (q := 72) (Y := zm_215) W.1 rfl rfl zm_215_t rfl rfl) rfl rfl rfl rfl rfl (k1) ?_
      refine zw_ld (n := 1) (k := 2) (f := zp_isI) (pc' := 46) rfl rfl rfl rfl rfl ?_
      refine zw_st (n := 2) (k := 4) (f := zp_isI) (pc' := 48) rfl rfl rfl rfl rfl ?_
      refine zw_s (pc' := 49) rfl rfl ?_
      refine zw_st (n := 2) (k := 5) (f := zp_isI) (pc' := 51) rfl rfl rfl rfl rfl ?_
      exact zt_rbL hss (by omega) 8 K _ _ _ hBK (zk_Fr_t F1 (zk_Fr_w rfl rfl k4)) (zw_gt (zw_gt rfl rfl rfl) rfl rfl) (zw_gt (zw_gt rfl rfl rfl) rfl rfl) (zw_gt (zw_gt rfl rfl rfl) rfl rfl) (zw_gt zw_g1 rfl rfl) zw_g1 (by decide) (by decide)
    · refine zw_c (pc' := 22) (zw_cs (Y := zm_185) rfl rfl zm_185_t) rfl rfl rfl rfl rfl (zq_within0 hc) ?_
      refine zw_bne1 (g := 30) (pc' := 25) rfl rfl rfl (rfl : _ = (0 : Int)) (fun h9 => absurd h9 (by decide)) (fun hb => ?_)
      refine zw_ld (n := 1) (k := 0) (f := zp_isR) (pc' := 26) rfl rfl rfl rfl rfl ?_
      refine zw_c (pc' := 29) (zw_cv (q := 72) (Y := zm_214) W.1 rfl rfl zm_214_t rfl rfl) rfl rfl rfl rfl rfl (zq_refuses (H := zw_I H 72 0 (Int32.ofInt 0)) W) ?_
      refine zw_ri rfl rfl ?_
      exact ⟨_, _, rfl, zt_ref B1, zk_Fr_I F1 rfl rfl⟩
  · refine zw_c (pc' := 10) (zw_cv (q := 72) (Y := zm_210) W.1 rfl rfl zm_210_t rfl rfl) rfl rfl rfl rfl rfl (zq_slate0 (H := zw_I H 72 0 (Int32.ofInt 0)) W h0 hs) ?_
    refine zw_bne1 (g := 15) (pc' := 13) rfl rfl rfl (rfl : _ = (0 : Int)) (fun h9 => absurd h9 (by decide)) (fun hb => ?_)
    refine zw_s (pc' := 14) rfl rfl ?_
    refine zw_ri rfl rfl ?_
    exact ⟨_, _, rfl, zt_thr B1, zk_Fr_I F1 rfl rfl⟩
