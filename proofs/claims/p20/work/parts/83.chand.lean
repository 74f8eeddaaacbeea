section
/-! ===== the class: takeWord, alikeFrom ===== -/
def zm_26 : za_MI := (yX0_wayOf, prog_2_method_5_code, 3, (some FieldType.int), 0, 0, 0, [], za_i26)
theorem zm_26_t : za_MT 26 = some zm_26 := rfl
def zm_27 : za_MI := (yX0_stepsOf, prog_2_method_6_code, 3, (some FieldType.int), 0, 0, 0, [], za_i27)
theorem zm_27_t : za_MT 27 = some zm_27 := rfl
def zm_54 : za_MI := (yJ9_min_7cf53, prog_22_method_69_code, 2, (some FieldType.int), 16, 0, 0, [], za_i54)
theorem zm_54_t : za_MT 54 = some zm_54 := rfl
def zm_56 : za_MI := (yX9_isLetter, prog_11_method_4_code, 1, (some FieldType.boolean), 9, 0, 0, [], za_i56)
theorem zm_56_t : za_MT 56 = some zm_56 := rfl
def zm_57 : za_MI := (yX9_takeWord, prog_11_method_6_code, 5, none, 9, 0, 0, [], za_i57)
theorem zm_57_t : za_MT 57 = some zm_57 := rfl
def zm_165 : za_MI := (yX6_alikeFrom, prog_8_method_3_code, 7, (some FieldType.int), 6, 0, 0, [], za_i165)
theorem zm_165_t : za_MT 165 = some zm_165 := rfl
theorem zq_mul {x y : Int32} {z : Int} (hz : y.toInt = z) (h1 : -2147483648 ≤ x.toInt * z) (h2 : x.toInt * z ≤ 2147483647) : (x * y).toInt = x.toInt * z := by
  rw [Int32.toInt_mul, hz, Int.bmod_eq_of_le (by omega) (by omega)]
theorem zn_isl {L : Nat} {σ : Nat → Int32} {d : Nat} {H : zp_H} {x : Int32} : ∃ X, zp_Call L σ (d + 1) 56 [.inl x] H X ∧ (fun X : zp_X => ∃ v : Int32, X = (.inl (some (.inl v)), H)) X := by
  refine zw_met zm_56_t rfl rfl ?_
  refine zw_ld (n := 1) (k := 0) (f := zp_isI) (pc' := 1) rfl rfl rfl rfl rfl ?_
  refine zw_s (pc' := 3) rfl rfl ?_
  refine zw_blt2 (g := 16) (pc' := 6) rfl rfl rfl rfl (rfl : _ = (97 : Int)) (fun hb0 => ?_) (fun hb0 => ?_)
  · refine zw_s (pc' := 17) rfl rfl ?_
    refine zw_rz rfl rfl (by decide) ?_
    exact ⟨_, rfl⟩
  · refine zw_ld (n := 1) (k := 0) (f := zp_isI) (pc' := 7) rfl rfl rfl rfl rfl ?_
    refine zw_s (pc' := 9) rfl rfl ?_
    refine zw_bgt2 (g := 16) (pc' := 12) rfl rfl rfl rfl (rfl : _ = (122 : Int)) (fun hb1 => ?_) (fun hb1 => ?_)
    · refine zw_s (pc' := 17) rfl rfl ?_
      refine zw_rz rfl rfl (by decide) ?_
      exact ⟨_, rfl⟩
    · refine zw_s (pc' := 13) rfl rfl ?_
      refine zw_s (pc' := 17) rfl rfl ?_
      refine zw_rz rfl rfl (by decide) ?_
      exact ⟨_, rfl⟩

/-- how many spaces stand before a place -/
def zq_sp : Nat → Int
  | 0 => 0
  | n + 1 => zq_sp n + (if (Int32.ofNat (zp_spell.getD n 0)).toInt = 32 then 1 else 0)
theorem zq_sp_t : (List.range 102).all (fun n => (za_ile 0 (zq_sp n)).and (za_ile (zq_sp n) 21)) = true := by decide +kernel
theorem zq_sp_b {n : Nat} (h : n < 102) : 0 ≤ zq_sp n ∧ zq_sp n ≤ 21 := by
  have t := List.all_eq_true.mp zq_sp_t n (List.mem_range.mpr h)
  obtain ⟨t1, t2⟩ := Bool.and_eq_true_iff.mp t
  exact ⟨za_ile_t t1, za_ile_t t2⟩
def zn_wm : List (Nat × Nat) := [(52, 2), (52, 4), (52, 5)]

theorem zn_twA {L : Nat} {σ : Nat → Int32} {d : Nat} {P : zp_X → Prop} {H0 : zp_H} (k : ∀ (H : zp_H) (lv : zp_LV), zk_Bs zB0 zg zJc H → zk_Fr zg zn_wm [] H0 H → zp_get lv 0 = some (.inr (.inr (some 53))) → zs_Safe L σ P zm_57 [] (d + 1) (39, lv, [], H, (0, 0))) : ∀ (n : Nat) (H : zp_H) (lv : zp_LV), zk_Bs zB0 zg zJc H → zk_Fr zg zn_wm [] H0 H → zp_get lv 0 = some (.inr (.inr (some 53))) → ((H.2.1 52 1).toInt - (H.2.1 52 2).toInt).toNat ≤ n → zs_Safe L σ P zm_57 [] (d + 1) (0, lv, [], H, (0, 0)) := by
  intro n
  induction n with
  | zero =>
    intro H lv hB hF l0 hn
    have W := zB_Wd hB
    have r1 := zB_fr1 hB (p := 52) (k := 1) (r := (0, 700)) rfl
    have r1 : 0 ≤ (H.2.1 52 1).toInt ∧ (H.2.1 52 1).toInt ≤ 700 := r1
    have r2 := zB_fr1 hB (p := 52) (k := 2) (r := (0, 700)) rfl
    have r2 : 0 ≤ (H.2.1 52 2).toInt ∧ (H.2.1 52 2).toInt ≤ 700 := r2
    refine zw_ld (n := 1) (k := 0) (f := zp_isR) (pc' := 1) rfl rfl l0 rfl rfl ?_
    refine zw_gI (q := 52) (pc' := 4) W rfl rfl rfl rfl rfl rfl ?_
    refine zw_ld (n := 1) (k := 0) (f := zp_isR) (pc' := 5) rfl rfl l0 rfl rfl ?_
    refine zw_gI (q := 52) (pc' := 8) W rfl rfl rfl rfl rfl rfl ?_
    refine zw_bge2 (g := 39) (pc' := 11) rfl rfl rfl rfl rfl (fun hb => ?_) (fun hb => ?_)
    · exact k H lv hB hF l0
    · omega
  | succ n ih =>
    intro H lv hB hF l0 hn
    have W := zB_Wd hB
    have r1 := zB_fr1 hB (p := 52) (k := 1) (r := (0, 700)) rfl
    have r1 : 0 ≤ (H.2.1 52 1).toInt ∧ (H.2.1 52 1).toInt ≤ 700 := r1
    have r2 := zB_fr1 hB (p := 52) (k := 2) (r := (0, 700)) rfl
    have r2 : 0 ≤ (H.2.1 52 2).toInt ∧ (H.2.1 52 2).toInt ≤ 700 := r2
    refine zw_ld (n := 1) (k := 0) (f := zp_isR) (pc' := 1) rfl rfl l0 rfl rfl ?_
    refine zw_gI (q := 52) (pc' := 4) W rfl rfl rfl rfl rfl rfl ?_
    refine zw_ld (n := 1) (k := 0) (f := zp_isR) (pc' := 5) rfl rfl l0 rfl rfl ?_
    refine zw_gI (q := 52) (pc' := 8) W rfl rfl rfl rfl rfl rfl ?_
    refine zw_bge2 (g := 39) (pc' := 11) rfl rfl rfl rfl rfl (fun hb => ?_) (fun hb => ?_)
    · exact k H lv hB hF l0
    · refine zw_ld (n := 1) (k := 0) (f := zp_isR) (pc' := 12) rfl rfl l0 rfl rfl ?_
      refine zw_gR (q := 52) (pc' := 15) W rfl rfl rfl rfl (W.2 52 0 _ rfl) rfl ?_
      refine zw_ld (n := 1) (k := 0) (f := zp_isR) (pc' := 16) rfl rfl l0 rfl rfl ?_
      refine zw_gI (q := 52) (pc' := 19) W rfl rfl rfl rfl rfl rfl ?_
      refine zw_ba (q := 1) (pc' := 20) W rfl rfl (by decide) (⟨by omega, by show _ < ((700 : Nat) : Int); omega⟩) rfl rfl ?_
      obtain ⟨_, c1, v, rfl⟩ := zn_isl (L := L) (σ := σ) (d := d) (H := H) (x := H.2.1 1 (H.2.1 52 2).toInt.toNat)
      refine zw_c (pc' := 23) (zw_cs (Y := zm_56) rfl rfl zm_56_t) rfl rfl rfl rfl rfl (c1) ?_
      refine zw_beq1 (g := 39) (pc' := 26) rfl rfl rfl rfl (fun hb2 => ?_) (fun hb2 => ?_)
      · exact k H _ hB hF l0
      · have e1 : (H.2.1 52 2 + Int32.ofInt 1).toInt = (H.2.1 52 2).toInt + 1 := zw_p1 (by omega)
        refine zw_ld (n := 1) (k := 0) (f := zp_isR) (pc' := 27) rfl rfl l0 rfl rfl ?_
        refine zw_s (pc' := 28) rfl rfl ?_
        refine zw_gI (q := 52) (pc' := 31) W rfl rfl rfl rfl rfl rfl ?_
        refine zw_s (pc' := 32) rfl rfl ?_
        refine zw_iadd (pc' := 33) rfl rfl ?_
        refine zw_pI (q := 52) (pc' := 36) W rfl rfl rfl rfl rfl rfl ?_
        refine zw_s (pc' := 0) rfl rfl ?_
        have g1 : (zw_I H 52 2 (H.2.1 52 2 + Int32.ofInt 1)).2.1 52 1 = H.2.1 52 1 := zw_ne rfl rfl
        have g2 : (zw_I H 52 2 (H.2.1 52 2 + Int32.ofInt 1)).2.1 52 2 = H.2.1 52 2 + Int32.ofInt 1 := zw_eq
        exact ih _ _ (zB_putf hB rfl (fun r hr => by cases hr; exact ⟨by show (0 : Int) ≤ _; omega, by show _ ≤ (700 : Int); omega⟩) (zJc_I rfl hB.2.2.2.2.2.2.2)) (zk_Fr_I hF rfl rfl) l0 (by rw [g1, g2, e1]; omega)

theorem zn_twB {L : Nat} {σ : Nat → Int32} {d : Nat} {H0 : zp_H} : ∀ (n : Nat) (H : zp_H) (lv : zp_LV) (a i : Int32), zk_Bs zB0 zg zJc H → zk_Fr zg zn_wm [] H0 H → zp_get lv 0 = some (.inr (.inr (some 53))) → zp_get lv 1 = some (.inl a) → zp_get lv 2 = some (.inl i) → (H.2.1 52 4).toInt = 3 → (H.2.1 52 5).toInt = zq_sp i.toInt.toNat → -1 ≤ a.toInt ∧ a.toInt ≤ i.toInt → 0 ≤ i.toInt ∧ i.toInt ≤ 101 → (101 - i.toInt).toNat ≤ n → zs_Safe L σ (fun X : zp_X => ∃ H1, X = (.inl none, H1) ∧ zk_Bs zB zg zJc H1 ∧ zk_Fr zg zn_wm [] H0 H1 ∧ (H1.2.1 52 4).toInt = 3 ∧ 0 ≤ (H1.2.1 52 5).toInt ∧ (H1.2.1 52 5).toInt ≤ 21) zm_57 [] (d + 1) (53, lv, [], H, (0, 0)) := by
  intro n
  induction n with
  | zero =>
    intro H lv a i hB hF l0 l1 l2 h4 h5 ha hi hn
    have W := zB_Wd hB
    have r2 := zB_fr1 hB (p := 52) (k := 2) (r := (0, 700)) rfl
    have r2 : 0 ≤ (H.2.1 52 2).toInt ∧ (H.2.1 52 2).toInt ≤ 700 := r2
    have r3 := zB_fr1 hB (p := 52) (k := 3) (r := (0, 700)) rfl
    have r3 : 0 ≤ (H.2.1 52 3).toInt ∧ (H.2.1 52 3).toInt ≤ 700 := r3
    have s0 := zq_sp_b (n := i.toInt.toNat) (by omega)
    refine zw_ld (n := 1) (k := 2) (f := zp_isI) (pc' := 54) rfl rfl l2 rfl rfl ?_
    refine zw_s (pc' := 59) rfl rfl ?_
    refine zw_bge2 (g := 163) (pc' := 62) rfl rfl rfl rfl (rfl : _ = (101 : Int)) (fun hb => ?_) (fun hb => ?_)
    · refine zw_rn rfl rfl ?_
      exact ⟨H, rfl, zB_up hB (fun _ => ⟨by omega, by omega⟩), hF, h4, by omega, by omega⟩
    · omega
  | succ n ih =>
    intro H lv a i hB hF l0 l1 l2 h4 h5 ha hi hn
    have W := zB_Wd hB
    have r2 := zB_fr1 hB (p := 52) (k := 2) (r := (0, 700)) rfl
    have r2 : 0 ≤ (H.2.1 52 2).toInt ∧ (H.2.1 52 2).toInt ≤ 700 := r2
    have r3 := zB_fr1 hB (p := 52) (k := 3) (r := (0, 700)) rfl
    have r3 : 0 ≤ (H.2.1 52 3).toInt ∧ (H.2.1 52 3).toInt ≤ 700 := r3
    have s0 := zq_sp_b (n := i.toInt.toNat) (by omega)
    refine zw_ld (n := 1) (k := 2) (f := zp_isI) (pc' := 54) rfl rfl l2 rfl rfl ?_
    refine zw_s (pc' := 59) rfl rfl ?_
    refine zw_bge2 (g := 163) (pc' := 62) rfl rfl rfl rfl (rfl : _ = (101 : Int)) (fun hb => ?_) (fun hb => ?_)
    · refine zw_rn rfl rfl ?_
      exact ⟨H, rfl, zB_up hB (fun _ => ⟨by omega, by omega⟩), hF, h4, by omega, by omega⟩
    · have e1 : (i + Int32.ofInt 1).toInt = i.toInt + 1 := zw_p1 (by omega)
      have e2 : (i + Int32.ofInt 1).toInt.toNat = i.toInt.toNat + 1 := by omega
      have hsp : zq_sp (i.toInt.toNat + 1) = zq_sp i.toInt.toNat + (if (Int32.ofNat (zp_spell.getD i.toInt.toNat 0)).toInt = 32 then 1 else 0) := rfl
      refine zw_ch (k := 2) (pc' := 68) rfl rfl rfl rfl rfl rfl l2 (⟨by omega, by omega⟩) rfl ?_
      refine zw_st (n := 1) (k := 3) (f := zp_isI) (pc' := 69) rfl rfl rfl rfl rfl ?_
      refine zw_ld (n := 1) (k := 3) (f := zp_isI) (pc' := 70) rfl rfl zw_g1 rfl rfl ?_
      refine zw_s (pc' := 72) rfl rfl ?_
      refine zw_beq2 (g := 131) (pc' := 75) rfl rfl rfl rfl (rfl : _ = (32 : Int)) (fun hc => ?_) (fun hc => ?_)
      · rw [if_pos hc] at hsp
        have s1 := zq_sp_b (n := i.toInt.toNat + 1) (by omega)
        refine zw_ld (n := 1) (k := 1) (f := zp_isI) (pc' := 132) rfl rfl (zw_gt l1 rfl rfl) rfl rfl ?_
        refine zw_ld (n := 1) (k := 0) (f := zp_isR) (pc' := 133) rfl rfl (zw_gt l0 rfl rfl) rfl rfl ?_
        refine zw_gI (q := 52) (pc' := 136) W rfl rfl rfl rfl rfl rfl ?_
        refine zw_ld (n := 1) (k := 0) (f := zp_isR) (pc' := 137) rfl rfl (zw_gt l0 rfl rfl) rfl rfl ?_
        refine zw_gI (q := 52) (pc' := 140) W rfl rfl rfl rfl rfl rfl ?_
        refine zw_isub (pc' := 141) rfl rfl ?_
        refine zw_bne2 (g := 145) (pc' := 144) rfl rfl rfl rfl rfl (fun ha1 => ?_) (fun ha1 => ?_)
        · have e5 : (H.2.1 52 5 + Int32.ofInt 1).toInt = (H.2.1 52 5).toInt + 1 := zw_p1 (by omega)
          refine zw_s (pc' := 146) rfl rfl ?_
          refine zw_st (n := 1) (k := 1) (f := zp_isI) (pc' := 147) rfl rfl rfl rfl rfl ?_
          refine zw_ld (n := 1) (k := 0) (f := zp_isR) (pc' := 148) rfl rfl (zw_gt (zw_gt l0 rfl rfl) rfl rfl) rfl rfl ?_
          refine zw_s (pc' := 149) rfl rfl ?_
          refine zw_gI (q := 52) (pc' := 152) W rfl rfl rfl rfl rfl rfl ?_
          refine zw_s (pc' := 153) rfl rfl ?_
          refine zw_iadd (pc' := 154) rfl rfl ?_
          refine zw_pI (q := 52) (pc' := 157) W rfl rfl rfl rfl rfl rfl ?_
          refine zw_ii (pc' := 160) rfl (zw_gt (zw_gt l2 rfl rfl) rfl rfl) rfl rfl ?_
          refine zw_s (pc' := 53) rfl rfl ?_
          have g4 : (zw_I H 52 5 (H.2.1 52 5 + Int32.ofInt 1)).2.1 52 4 = H.2.1 52 4 := zw_ne rfl rfl
          have g5 : (zw_I H 52 5 (H.2.1 52 5 + Int32.ofInt 1)).2.1 52 5 = H.2.1 52 5 + Int32.ofInt 1 := zw_eq
          have e3 : (Int32.ofInt 0).toInt = 0 := by decide
          exact ih _ _ _ _ (zB_putf hB rfl (fun r hr => by cases hr; exact ⟨by show (-2147483648 : Int) ≤ _; omega, by show _ ≤ (2147483647 : Int); omega⟩) (zJc_I rfl hB.2.2.2.2.2.2.2)) (zk_Fr_I hF rfl rfl) (zw_gt (zw_gt (zw_gt l0 rfl rfl) rfl rfl) rfl rfl) (zw_gt zw_g1 rfl rfl) zw_g1 (by rw [g4]; exact h4) (by rw [g5, e5, e2, hsp, h5]) (by omega) (by omega) (by omega)
        · refine zw_rn rfl rfl ?_
          exact ⟨H, rfl, zB_up hB (fun _ => ⟨by omega, by omega⟩), hF, h4, by omega, by omega⟩
      · rw [if_neg hc] at hsp
        refine zw_ld (n := 1) (k := 1) (f := zp_isI) (pc' := 76) rfl rfl (zw_gt l1 rfl rfl) rfl rfl ?_
        refine zw_s (pc' := 77) rfl rfl ?_
        refine zw_beq2 (g := 112) (pc' := 80) rfl rfl rfl rfl (rfl : _ = (-1 : Int)) (fun ha1 => ?_) (fun ha1 => ?_)
        · refine zw_s (pc' := 113) rfl rfl ?_
          refine zw_st (n := 2) (k := 4) (f := zp_isI) (pc' := 115) rfl rfl rfl rfl rfl ?_
          refine zw_ld (n := 2) (k := 4) (f := zp_isI) (pc' := 117) rfl rfl zw_g1 rfl rfl ?_
          refine zw_beq1 (g := 126) (pc' := 120) rfl rfl rfl (rfl : _ = (0 : Int)) (fun h9 => ?_) (fun h9 => absurd h9 (by decide))
          have e3 : (Int32.ofInt (-1)).toInt = -1 := by decide
          refine zw_s (pc' := 127) rfl rfl ?_
          refine zw_st (n := 1) (k := 1) (f := zp_isI) (pc' := 128) rfl rfl rfl rfl rfl ?_
          refine zw_s (pc' := 157) rfl rfl ?_
          refine zw_ii (pc' := 160) rfl (zw_gt (zw_gt (zw_gt l2 rfl rfl) rfl rfl) rfl rfl) rfl rfl ?_
          refine zw_s (pc' := 53) rfl rfl ?_
          exact ih H _ _ _ hB hF (zw_gt (zw_gt (zw_gt (zw_gt l0 rfl rfl) rfl rfl) rfl rfl) rfl rfl) (zw_gt zw_g1 rfl rfl) zw_g1 h4 (by rw [e2, hsp, h5]; omega) (by omega) (by omega) (by omega)
        · have e4 : (H.2.1 52 3 + a).toInt = (H.2.1 52 3).toInt + a.toInt := zq_add (by omega) (by omega)
          refine zw_ld (n := 1) (k := 0) (f := zp_isR) (pc' := 81) rfl rfl (zw_gt l0 rfl rfl) rfl rfl ?_
          refine zw_gI (q := 52) (pc' := 84) W rfl rfl rfl rfl rfl rfl ?_
          refine zw_ld (n := 1) (k := 1) (f := zp_isI) (pc' := 85) rfl rfl (zw_gt l1 rfl rfl) rfl rfl ?_
          refine zw_iadd (pc' := 86) rfl rfl ?_
          refine zw_ld (n := 1) (k := 0) (f := zp_isR) (pc' := 87) rfl rfl (zw_gt l0 rfl rfl) rfl rfl ?_
          refine zw_gI (q := 52) (pc' := 90) W rfl rfl rfl rfl rfl rfl ?_
          refine zw_bge2 (g := 112) (pc' := 93) rfl rfl rfl rfl rfl (fun ha2 => ?_) (fun ha2 => ?_)
          · refine zw_s (pc' := 113) rfl rfl ?_
            refine zw_st (n := 2) (k := 4) (f := zp_isI) (pc' := 115) rfl rfl rfl rfl rfl ?_
            refine zw_ld (n := 2) (k := 4) (f := zp_isI) (pc' := 117) rfl rfl zw_g1 rfl rfl ?_
            refine zw_beq1 (g := 126) (pc' := 120) rfl rfl rfl (rfl : _ = (0 : Int)) (fun h9 => ?_) (fun h9 => absurd h9 (by decide))
            have e3 : (Int32.ofInt (-1)).toInt = -1 := by decide
            refine zw_s (pc' := 127) rfl rfl ?_
            refine zw_st (n := 1) (k := 1) (f := zp_isI) (pc' := 128) rfl rfl rfl rfl rfl ?_
            refine zw_s (pc' := 157) rfl rfl ?_
            refine zw_ii (pc' := 160) rfl (zw_gt (zw_gt (zw_gt l2 rfl rfl) rfl rfl) rfl rfl) rfl rfl ?_
            refine zw_s (pc' := 53) rfl rfl ?_
            exact ih H _ _ _ hB hF (zw_gt (zw_gt (zw_gt (zw_gt l0 rfl rfl) rfl rfl) rfl rfl) rfl rfl) (zw_gt zw_g1 rfl rfl) zw_g1 h4 (by rw [e2, hsp, h5]; omega) (by omega) (by omega) (by omega)
          · rw [e4] at ha2
            refine zw_ld (n := 1) (k := 0) (f := zp_isR) (pc' := 94) rfl rfl (zw_gt l0 rfl rfl) rfl rfl ?_
            refine zw_gR (q := 52) (pc' := 97) W rfl rfl rfl rfl (W.2 52 0 _ rfl) rfl ?_
            refine zw_ld (n := 1) (k := 0) (f := zp_isR) (pc' := 98) rfl rfl (zw_gt l0 rfl rfl) rfl rfl ?_
            refine zw_gI (q := 52) (pc' := 101) W rfl rfl rfl rfl rfl rfl ?_
            refine zw_ld (n := 1) (k := 1) (f := zp_isI) (pc' := 102) rfl rfl (zw_gt l1 rfl rfl) rfl rfl ?_
            refine zw_iadd (pc' := 103) rfl rfl ?_
            refine zw_ba (q := 1) (pc' := 104) W rfl rfl (by decide) (⟨by rw [e4]; omega, by rw [e4]; show _ < ((700 : Nat) : Int); omega⟩) rfl rfl ?_
            refine zw_ld (n := 1) (k := 3) (f := zp_isI) (pc' := 105) rfl rfl zw_g1 rfl rfl ?_
            refine zw_bne2 (g := 112) (pc' := 108) rfl rfl rfl rfl rfl (fun ha3 => ?_) (fun ha3 => ?_)
            · refine zw_s (pc' := 113) rfl rfl ?_
              refine zw_st (n := 2) (k := 4) (f := zp_isI) (pc' := 115) rfl rfl rfl rfl rfl ?_
              refine zw_ld (n := 2) (k := 4) (f := zp_isI) (pc' := 117) rfl rfl zw_g1 rfl rfl ?_
              refine zw_beq1 (g := 126) (pc' := 120) rfl rfl rfl (rfl : _ = (0 : Int)) (fun h9 => ?_) (fun h9 => absurd h9 (by decide))
              have e3 : (Int32.ofInt (-1)).toInt = -1 := by decide
              refine zw_s (pc' := 127) rfl rfl ?_
              refine zw_st (n := 1) (k := 1) (f := zp_isI) (pc' := 128) rfl rfl rfl rfl rfl ?_
              refine zw_s (pc' := 157) rfl rfl ?_
              refine zw_ii (pc' := 160) rfl (zw_gt (zw_gt (zw_gt l2 rfl rfl) rfl rfl) rfl rfl) rfl rfl ?_
              refine zw_s (pc' := 53) rfl rfl ?_
              exact ih H _ _ _ hB hF (zw_gt (zw_gt (zw_gt (zw_gt l0 rfl rfl) rfl rfl) rfl rfl) rfl rfl) (zw_gt zw_g1 rfl rfl) zw_g1 h4 (by rw [e2, hsp, h5]; omega) (by omega) (by omega) (by omega)
            · refine zw_s (pc' := 109) rfl rfl ?_
              refine zw_s (pc' := 113) rfl rfl ?_
              refine zw_st (n := 2) (k := 4) (f := zp_isI) (pc' := 115) rfl rfl rfl rfl rfl ?_
              refine zw_ld (n := 2) (k := 4) (f := zp_isI) (pc' := 117) rfl rfl zw_g1 rfl rfl ?_
              refine zw_beq1 (g := 126) (pc' := 120) rfl rfl rfl (rfl : _ = (1 : Int)) (fun h9 => absurd h9 (by decide)) (fun h9 => ?_)
              have e3 : (a + Int32.ofInt 1).toInt = a.toInt + 1 := zw_p1 (by omega)
              refine zw_ld (n := 1) (k := 1) (f := zp_isI) (pc' := 121) rfl rfl (zw_gt (zw_gt l1 rfl rfl) rfl rfl) rfl rfl ?_
              refine zw_s (pc' := 122) rfl rfl ?_
              refine zw_iadd (pc' := 123) rfl rfl ?_
              refine zw_s (pc' := 127) rfl rfl ?_
              refine zw_st (n := 1) (k := 1) (f := zp_isI) (pc' := 128) rfl rfl rfl rfl rfl ?_
              refine zw_s (pc' := 157) rfl rfl ?_
              refine zw_ii (pc' := 160) rfl (zw_gt (zw_gt (zw_gt l2 rfl rfl) rfl rfl) rfl rfl) rfl rfl ?_
              refine zw_s (pc' := 53) rfl rfl ?_
              exact ih H _ _ _ hB hF (zw_gt (zw_gt (zw_gt (zw_gt l0 rfl rfl) rfl rfl) rfl rfl) rfl rfl) (zw_gt zw_g1 rfl rfl) zw_g1 h4 (by rw [e2, hsp, h5]; omega) (by omega) (by omega) (by omega)

theorem zn_twC {L : Nat} {σ : Nat → Int32} {d : Nat} {H0 H : zp_H} {lv : zp_LV} (hB : zk_Bs zB0 zg zJc H) (hF : zk_Fr zg zn_wm [] H0 H) (l0 : zp_get lv 0 = some (.inr (.inr (some 53)))) : zs_Safe L σ (fun X : zp_X => ∃ H1, X = (.inl none, H1) ∧ zk_Bs zB zg zJc H1 ∧ zk_Fr zg zn_wm [] H0 H1 ∧ (H1.2.1 52 4).toInt = 3 ∧ 0 ≤ (H1.2.1 52 5).toInt ∧ (H1.2.1 52 5).toInt ≤ 21) zm_57 [] (d + 1) (39, lv, [], H, (0, 0)) := by
  have W := zB_Wd hB
  refine zw_ld (n := 1) (k := 0) (f := zp_isR) (pc' := 40) rfl rfl l0 rfl rfl ?_
  refine zw_s (pc' := 41) rfl rfl ?_
  refine zw_pI (q := 52) (pc' := 44) W rfl rfl rfl rfl rfl rfl ?_
  refine zw_ld (n := 1) (k := 0) (f := zp_isR) (pc' := 45) rfl rfl l0 rfl rfl ?_
  refine zw_s (pc' := 46) rfl rfl ?_
  refine zw_pI (q := 52) (pc' := 49) W rfl rfl rfl rfl rfl rfl ?_
  refine zw_s (pc' := 50) rfl rfl ?_
  refine zw_st (n := 1) (k := 1) (f := zp_isI) (pc' := 51) rfl rfl rfl rfl rfl ?_
  refine zw_s (pc' := 52) rfl rfl ?_
  refine zw_st (n := 1) (k := 2) (f := zp_isI) (pc' := 53) rfl rfl rfl rfl rfl ?_
  have b1 := zB_putf (p := 52) (k := 4) (x := Int32.ofInt 3) hB rfl (fun r hr => by cases hr) (zJc_I rfl hB.2.2.2.2.2.2.2)
  have b2 := zB_putf (p := 52) (k := 5) (x := Int32.ofInt 0) b1 rfl (fun r hr => by cases hr; decide) (zJc_I rfl b1.2.2.2.2.2.2.2)
  refine zn_twB 101 _ _ _ _ b2 (zk_Fr_I (zk_Fr_I hF rfl rfl) rfl rfl) (zw_gt (zw_gt l0 rfl rfl) rfl rfl) (zw_gt zw_g1 rfl rfl) zw_g1 ?_ ?_ (by decide) (by decide) (by decide)
  · rw [show (zw_I (zw_I H 52 4 (Int32.ofInt 3)) 52 5 (Int32.ofInt 0)).2.1 52 4 = Int32.ofInt 3 from zw_ne zw_eq rfl]
    decide
  · rw [show (zw_I (zw_I H 52 4 (Int32.ofInt 3)) 52 5 (Int32.ofInt 0)).2.1 52 5 = Int32.ofInt 0 from zw_eq]
    decide

theorem zn_tw {L : Nat} {σ : Nat → Int32} {d : Nat} {H0 : zp_H} (hB : zk_Bs zB zg zJc H0) : ∃ X, zp_Call L σ (d + 2) 57 [.inr (.inr (some 53))] H0 X ∧ (fun X : zp_X => ∃ H1, X = (.inl none, H1) ∧ zk_Bs zB zg zJc H1 ∧ zk_Fr zg zn_wm [] H0 H1 ∧ (H1.2.1 52 4).toInt = 3 ∧ 0 ≤ (H1.2.1 52 5).toInt ∧ (H1.2.1 52 5).toInt ≤ 21) X := by
  refine zw_met zm_57_t rfl rfl ?_
  exact zn_twA (fun H lv h1 h2 h3 => zn_twC h1 h2 h3) _ H0 _ (zB_dn hB) (zk_Fr_r H0) rfl (Nat.le_refl _)
theorem zhc_5 {L : Nat} {σ : Nat → Int32} : zk_Ct L σ zB zg zJc ze_h5 := by
  intro d hd as H ha hB hp
  have hd : 2 ≤ d := hd
  obtain ⟨d0, rfl⟩ : ∃ d0, d = d0 + 2 := ⟨d - 2, by omega⟩
  match as, ha with
  | [.inr (.inr r)], ha =>
    have h1 : r = some 53 := ha.1
    subst h1
    obtain ⟨_, c1, H1, rfl, c2, c3, c4, c5, c6⟩ := zn_tw (L := L) (σ := σ) (d := d0) (H0 := H) hB
    refine ⟨_, c1, c2, c3, _, List.mem_cons_self, trivial, fun f hf => ?_, fun f hf => absurd hf List.not_mem_nil⟩
    rcases List.mem_cons.mp hf with rfl | hf
    · show zk_in (H1.2.1 52 4).toInt (3, 3)
      exact ⟨by show (3 : Int) ≤ _; omega, by show _ ≤ (3 : Int); omega⟩
    · rcases List.mem_cons.mp hf with rfl | hf
      · show zk_in (H1.2.1 52 5).toInt (0, 21)
        exact ⟨c5, c6⟩
      · exact absurd hf List.not_mem_nil

theorem zn_min {L : Nat} {σ : Nat → Int32} {d : Nat} {H : zp_H} {x y : Int32} : ∃ X, zp_Call L σ (d + 1) 54 [.inl x, .inl y] H X ∧ (fun X : zp_X => ∃ v : Int32, X = (.inl (some (.inl v)), H) ∧ v.toInt ≤ x.toInt ∧ v.toInt ≤ y.toInt) X := by
  refine zw_met zm_54_t rfl rfl ?_
  refine zw_ld (n := 1) (k := 0) (f := zp_isI) (pc' := 1) rfl rfl rfl rfl rfl ?_
  refine zw_ld (n := 1) (k := 1) (f := zp_isI) (pc' := 2) rfl rfl rfl rfl rfl ?_
  refine zw_bgt2 (g := 9) (pc' := 5) rfl rfl rfl rfl rfl (fun hb => ?_) (fun hb => ?_)
  · refine zw_ld (n := 1) (k := 1) (f := zp_isI) (pc' := 10) rfl rfl rfl rfl rfl ?_
    refine zw_ri rfl rfl ?_
    exact ⟨_, rfl, by omega, by omega⟩
  · refine zw_ld (n := 1) (k := 0) (f := zp_isI) (pc' := 6) rfl rfl rfl rfl rfl ?_
    refine zw_s (pc' := 10) rfl rfl ?_
    refine zw_ri rfl rfl ?_
    exact ⟨_, rfl, by omega, by omega⟩

theorem zn_ca13_26 {L : Nat} {σ : Nat → Int32} {d : Nat} {H : zp_H} {x y : Int32} (hB : zk_Bs zB0 zg zJc H) (hx : 0 ≤ x.toInt ∧ x.toInt ≤ 7) (hy : 0 ≤ y.toInt ∧ y.toInt ≤ 7) : ∃ X, zp_Call L σ (d + 1) 26 [.inr (.inr (some 14)), .inl x, .inl y] H X ∧ (fun X : zp_X => ∃ v : Int32, X = (.inl (some (.inl v)), H)) X := by
  have W := zB_Wd hB
  have e1 : (x * Int32.ofInt 8).toInt = x.toInt * 8 := zq_mul (y := Int32.ofInt 8) (z := 8) (by decide) (by omega) (by omega)
  have e2 : (x * Int32.ofInt 8 + y).toInt = x.toInt * 8 + y.toInt := (zq_add (by omega) (by omega)).trans (by rw [e1])
  refine zw_met zm_26_t rfl rfl ?_
  refine zw_ld (n := 1) (k := 0) (f := zp_isR) (pc' := 1) rfl rfl rfl rfl rfl ?_
  refine zw_gR (q := 13) (pc' := 4) W rfl rfl rfl rfl (W.2 13 5 _ rfl) rfl ?_
  refine zw_ld (n := 1) (k := 1) (f := zp_isI) (pc' := 5) rfl rfl rfl rfl rfl ?_
  refine zw_s (pc' := 7) rfl rfl ?_
  refine zw_imul (pc' := 8) rfl rfl ?_
  refine zw_ld (n := 1) (k := 2) (f := zp_isI) (pc' := 9) rfl rfl rfl rfl rfl ?_
  refine zw_iadd (pc' := 10) rfl rfl ?_
  refine zw_ia (q := 18) (pc' := 11) W rfl rfl (by decide) (⟨by rw [e2]; omega, by rw [e2]; show _ < ((64 : Nat) : Int); omega⟩) rfl rfl ?_
  refine zw_ri rfl rfl ?_
  exact ⟨_, rfl⟩

theorem zn_ca13_27 {L : Nat} {σ : Nat → Int32} {d : Nat} {H : zp_H} {x y : Int32} (hB : zk_Bs zB0 zg zJc H) (hx : 0 ≤ x.toInt ∧ x.toInt ≤ 7) (hy : 0 ≤ y.toInt ∧ y.toInt ≤ 7) : ∃ X, zp_Call L σ (d + 1) 27 [.inr (.inr (some 14)), .inl x, .inl y] H X ∧ (fun X : zp_X => ∃ v : Int32, X = (.inl (some (.inl v)), H)) X := by
  have W := zB_Wd hB
  have e1 : (x * Int32.ofInt 8).toInt = x.toInt * 8 := zq_mul (y := Int32.ofInt 8) (z := 8) (by decide) (by omega) (by omega)
  have e2 : (x * Int32.ofInt 8 + y).toInt = x.toInt * 8 + y.toInt := (zq_add (by omega) (by omega)).trans (by rw [e1])
  refine zw_met zm_27_t rfl rfl ?_
  refine zw_ld (n := 1) (k := 0) (f := zp_isR) (pc' := 1) rfl rfl rfl rfl rfl ?_
  refine zw_gR (q := 13) (pc' := 4) W rfl rfl rfl rfl (W.2 13 6 _ rfl) rfl ?_
  refine zw_ld (n := 1) (k := 1) (f := zp_isI) (pc' := 5) rfl rfl rfl rfl rfl ?_
  refine zw_s (pc' := 7) rfl rfl ?_
  refine zw_imul (pc' := 8) rfl rfl ?_
  refine zw_ld (n := 1) (k := 2) (f := zp_isI) (pc' := 9) rfl rfl rfl rfl rfl ?_
  refine zw_iadd (pc' := 10) rfl rfl ?_
  refine zw_ia (q := 19) (pc' := 11) W rfl rfl (by decide) (⟨by rw [e2]; omega, by rw [e2]; show _ < ((64 : Nat) : Int); omega⟩) rfl rfl ?_
  refine zw_ri rfl rfl ?_
  exact ⟨_, rfl⟩

theorem zn_alL13 {L : Nat} {σ : Nat → Int32} {d : Nat} {H : zp_H} {f i s j m : Int32} (hB : zk_Bs zB0 zg zJc H) (hf : 0 ≤ f.toInt ∧ f.toInt ≤ 7) (hi : 0 ≤ i.toInt ∧ i.toInt ≤ 7) (hs : 0 ≤ s.toInt ∧ s.toInt ≤ 7) (hj : 0 ≤ j.toInt ∧ j.toInt ≤ 7) (hm1 : m.toInt ≤ 8 - i.toInt) (hm2 : m.toInt ≤ 8 - j.toInt) : ∀ (n : Nat) (lv : zp_LV) (a : Int32), zp_get lv 0 = some (.inr (.inr (some 14))) → zp_get lv 1 = some (.inl f) → zp_get lv 2 = some (.inl i) → zp_get lv 3 = some (.inl s) → zp_get lv 4 = some (.inl j) → zp_get lv 5 = some (.inl m) → zp_get lv 6 = some (.inl a) → 0 ≤ a.toInt ∧ a.toInt ≤ 8 → (m.toInt - a.toInt).toNat ≤ n → zs_Safe L σ (fun X : zp_X => ∃ v : Int32, X = (.inl (some (.inl v)), H) ∧ 0 ≤ v.toInt ∧ v.toInt ≤ 8) zm_165 [] (d + 1) (25, lv, [], H, (0, 0)) := by
  have W := zB_Wd hB
  intro n
  induction n with
  | zero =>
    intro lv a l0 l1 l2 l3 l4 l5 l6 ha hn
    refine zw_ld (n := 2) (k := 6) (f := zp_isI) (pc' := 27) rfl rfl l6 rfl rfl ?_
    refine zw_ld (n := 2) (k := 5) (f := zp_isI) (pc' := 29) rfl rfl l5 rfl rfl ?_
    refine zw_bge2 (g := 82) (pc' := 32) rfl rfl rfl rfl rfl (fun hb => ?_) (fun hb => ?_)
    · refine zw_ld (n := 2) (k := 6) (f := zp_isI) (pc' := 84) rfl rfl l6 rfl rfl ?_
      refine zw_ri rfl rfl ?_
      exact ⟨_, rfl, by omega, by omega⟩
    · omega
  | succ n ih =>
    intro lv a l0 l1 l2 l3 l4 l5 l6 ha hn
    refine zw_ld (n := 2) (k := 6) (f := zp_isI) (pc' := 27) rfl rfl l6 rfl rfl ?_
    refine zw_ld (n := 2) (k := 5) (f := zp_isI) (pc' := 29) rfl rfl l5 rfl rfl ?_
    refine zw_bge2 (g := 82) (pc' := 32) rfl rfl rfl rfl rfl (fun hb => ?_) (fun hb => ?_)
    · refine zw_ld (n := 2) (k := 6) (f := zp_isI) (pc' := 84) rfl rfl l6 rfl rfl ?_
      refine zw_ri rfl rfl ?_
      exact ⟨_, rfl, by omega, by omega⟩
    · have e1 : (i + a).toInt = i.toInt + a.toInt := zq_add (by omega) (by omega)
      have e2 : (j + a).toInt = j.toInt + a.toInt := zq_add (by omega) (by omega)
      have e3 : (a + Int32.ofInt 1).toInt = a.toInt + 1 := zw_p1 (by omega)
      obtain ⟨_, c1, v1, rfl⟩ := zn_ca13_26 (L := L) (σ := σ) (d := d) (H := H) (x := f) (y := i + a) hB hf (by omega)
      obtain ⟨_, c2, v2, rfl⟩ := zn_ca13_26 (L := L) (σ := σ) (d := d) (H := H) (x := s) (y := j + a) hB hs (by omega)
      obtain ⟨_, c3, v3, rfl⟩ := zn_ca13_27 (L := L) (σ := σ) (d := d) (H := H) (x := f) (y := i + a) hB hf (by omega)
      obtain ⟨_, c4, v4, rfl⟩ := zn_ca13_27 (L := L) (σ := σ) (d := d) (H := H) (x := s) (y := j + a) hB hs (by omega)
      refine zw_ld (n := 1) (k := 0) (f := zp_isR) (pc' := 33) rfl rfl l0 rfl rfl ?_
      refine zw_ld (n := 1) (k := 1) (f := zp_isI) (pc' := 34) rfl rfl l1 rfl rfl ?_
      refine zw_ld (n := 1) (k := 2) (f := zp_isI) (pc' := 35) rfl rfl l2 rfl rfl ?_
      refine zw_ld (n := 2) (k := 6) (f := zp_isI) (pc' := 37) rfl rfl l6 rfl rfl ?_
      refine zw_iadd (pc' := 38) rfl rfl ?_
      refine zw_c (pc' := 41) (zw_cv (q := 13) (Y := zm_26) W.1 rfl rfl zm_26_t rfl rfl) rfl rfl rfl rfl rfl (c1) ?_
      refine zw_ld (n := 1) (k := 0) (f := zp_isR) (pc' := 42) rfl rfl l0 rfl rfl ?_
      refine zw_ld (n := 1) (k := 3) (f := zp_isI) (pc' := 43) rfl rfl l3 rfl rfl ?_
      refine zw_ld (n := 2) (k := 4) (f := zp_isI) (pc' := 45) rfl rfl l4 rfl rfl ?_
      refine zw_ld (n := 2) (k := 6) (f := zp_isI) (pc' := 47) rfl rfl l6 rfl rfl ?_
      refine zw_iadd (pc' := 48) rfl rfl ?_
      refine zw_c (pc' := 51) (zw_cv (q := 13) (Y := zm_26) W.1 rfl rfl zm_26_t rfl rfl) rfl rfl rfl rfl rfl (c2) ?_
      refine zw_bne2 (g := 82) (pc' := 54) rfl rfl rfl rfl rfl (fun hb2 => ?_) (fun hb2 => ?_)
      · refine zw_ld (n := 2) (k := 6) (f := zp_isI) (pc' := 84) rfl rfl l6 rfl rfl ?_
        refine zw_ri rfl rfl ?_
        exact ⟨_, rfl, by omega, by omega⟩
      · refine zw_ld (n := 1) (k := 0) (f := zp_isR) (pc' := 55) rfl rfl l0 rfl rfl ?_
        refine zw_ld (n := 1) (k := 1) (f := zp_isI) (pc' := 56) rfl rfl l1 rfl rfl ?_
        refine zw_ld (n := 1) (k := 2) (f := zp_isI) (pc' := 57) rfl rfl l2 rfl rfl ?_
        refine zw_ld (n := 2) (k := 6) (f := zp_isI) (pc' := 59) rfl rfl l6 rfl rfl ?_
        refine zw_iadd (pc' := 60) rfl rfl ?_
        refine zw_c (pc' := 63) (zw_cv (q := 13) (Y := zm_27) W.1 rfl rfl zm_27_t rfl rfl) rfl rfl rfl rfl rfl (c3) ?_
        refine zw_ld (n := 1) (k := 0) (f := zp_isR) (pc' := 64) rfl rfl l0 rfl rfl ?_
        refine zw_ld (n := 1) (k := 3) (f := zp_isI) (pc' := 65) rfl rfl l3 rfl rfl ?_
        refine zw_ld (n := 2) (k := 4) (f := zp_isI) (pc' := 67) rfl rfl l4 rfl rfl ?_
        refine zw_ld (n := 2) (k := 6) (f := zp_isI) (pc' := 69) rfl rfl l6 rfl rfl ?_
        refine zw_iadd (pc' := 70) rfl rfl ?_
        refine zw_c (pc' := 73) (zw_cv (q := 13) (Y := zm_27) W.1 rfl rfl zm_27_t rfl rfl) rfl rfl rfl rfl rfl (c4) ?_
        refine zw_bne2 (g := 82) (pc' := 76) rfl rfl rfl rfl rfl (fun hb3 => ?_) (fun hb3 => ?_)
        · refine zw_ld (n := 2) (k := 6) (f := zp_isI) (pc' := 84) rfl rfl l6 rfl rfl ?_
          refine zw_ri rfl rfl ?_
          exact ⟨_, rfl, by omega, by omega⟩
        · refine zw_ii (pc' := 79) rfl l6 rfl rfl ?_
          refine zw_s (pc' := 25) rfl rfl ?_
          exact ih _ _ (zw_gt l0 rfl rfl) (zw_gt l1 rfl rfl) (zw_gt l2 rfl rfl) (zw_gt l3 rfl rfl) (zw_gt l4 rfl rfl) (zw_gt l5 rfl rfl) zw_g1 (by omega) (by omega)

theorem zn_al13 {L : Nat} {σ : Nat → Int32} {d : Nat} {H : zp_H} {f i s j : Int32} (hB : zk_Bs zB0 zg zJc H) (hf : 0 ≤ f.toInt ∧ f.toInt ≤ 7) (hi : 0 ≤ i.toInt ∧ i.toInt ≤ 7) (hs : 0 ≤ s.toInt ∧ s.toInt ≤ 7) (hj : 0 ≤ j.toInt ∧ j.toInt ≤ 7) : ∃ X, zp_Call L σ (d + 2) 165 [.inr (.inr (some 14)), .inl f, .inl i, .inl s, .inl j] H X ∧ (fun X : zp_X => ∃ v : Int32, X = (.inl (some (.inl v)), H) ∧ 0 ≤ v.toInt ∧ v.toInt ≤ 8) X := by
  have W := zB_Wd hB
  have m1 := zB_ar1 hB (p := 16) (t := 0) (n := 8) (i := f.toInt.toNat) (r := (0, 8)) rfl (by omega) (by rw [show (zB_al zB_ar 16) = (1, [(0, 8)]) from rfl, show f.toInt.toNat % 1 = 0 from Nat.mod_one _]; rfl)
  have m1 : 0 ≤ (H.2.1 16 f.toInt.toNat).toInt ∧ (H.2.1 16 f.toInt.toNat).toInt ≤ 8 := m1
  have m2 := zB_ar1 hB (p := 16) (t := 0) (n := 8) (i := s.toInt.toNat) (r := (0, 8)) rfl (by omega) (by rw [show (zB_al zB_ar 16) = (1, [(0, 8)]) from rfl, show s.toInt.toNat % 1 = 0 from Nat.mod_one _]; rfl)
  have m2 : 0 ≤ (H.2.1 16 s.toInt.toNat).toInt ∧ (H.2.1 16 s.toInt.toNat).toInt ≤ 8 := m2
  have e1 : (H.2.1 16 f.toInt.toNat - i).toInt = (H.2.1 16 f.toInt.toNat).toInt - i.toInt := zq_sub (by omega) (by omega)
  have e2 : (H.2.1 16 s.toInt.toNat - j).toInt = (H.2.1 16 s.toInt.toNat).toInt - j.toInt := zq_sub (by omega) (by omega)
  obtain ⟨_, c1, v, rfl, v1, v2⟩ := zn_min (L := L) (σ := σ) (d := d) (H := H) (x := H.2.1 16 f.toInt.toNat - i) (y := H.2.1 16 s.toInt.toNat - j)
  refine zw_met zm_165_t rfl rfl ?_
  refine zw_ld (n := 1) (k := 0) (f := zp_isR) (pc' := 1) rfl rfl rfl rfl rfl ?_
  refine zw_gR (q := 13) (pc' := 4) W rfl rfl rfl rfl (W.2 13 3 _ rfl) rfl ?_
  refine zw_ld (n := 1) (k := 1) (f := zp_isI) (pc' := 5) rfl rfl rfl rfl rfl ?_
  refine zw_ia (q := 16) (pc' := 6) W rfl rfl (by decide) (⟨by omega, by show _ < ((8 : Nat) : Int); omega⟩) rfl rfl ?_
  refine zw_ld (n := 1) (k := 2) (f := zp_isI) (pc' := 7) rfl rfl rfl rfl rfl ?_
  refine zw_isub (pc' := 8) rfl rfl ?_
  refine zw_ld (n := 1) (k := 0) (f := zp_isR) (pc' := 9) rfl rfl rfl rfl rfl ?_
  refine zw_gR (q := 13) (pc' := 12) W rfl rfl rfl rfl (W.2 13 3 _ rfl) rfl ?_
  refine zw_ld (n := 1) (k := 3) (f := zp_isI) (pc' := 13) rfl rfl rfl rfl rfl ?_
  refine zw_ia (q := 16) (pc' := 14) W rfl rfl (by decide) (⟨by omega, by show _ < ((8 : Nat) : Int); omega⟩) rfl rfl ?_
  refine zw_ld (n := 2) (k := 4) (f := zp_isI) (pc' := 16) rfl rfl rfl rfl rfl ?_
  refine zw_isub (pc' := 17) rfl rfl ?_
  refine zw_c (pc' := 20) (zw_cs (Y := zm_54) rfl rfl zm_54_t) rfl rfl rfl rfl rfl (c1) ?_
  refine zw_st (n := 2) (k := 5) (f := zp_isI) (pc' := 22) rfl rfl rfl rfl rfl ?_
  refine zw_s (pc' := 23) rfl rfl ?_
  refine zw_st (n := 2) (k := 6) (f := zp_isI) (pc' := 25) rfl rfl rfl rfl rfl ?_
  exact zn_alL13 hB hf hi hs hj (by omega) (by omega) _ _ _ (zw_gt (zw_gt rfl rfl rfl) rfl rfl) (zw_gt (zw_gt rfl rfl rfl) rfl rfl) (zw_gt (zw_gt rfl rfl rfl) rfl rfl) (zw_gt (zw_gt rfl rfl rfl) rfl rfl) (zw_gt (zw_gt rfl rfl rfl) rfl rfl) (zw_gt zw_g1 rfl rfl) zw_g1 (by decide) (Nat.le_refl _)

theorem zhc_6 {L : Nat} {σ : Nat → Int32} : zk_Ct L σ zB zg zJc ze_h6 := by
  intro d hd as H ha hB hp
  have hd : 2 ≤ d := hd
  obtain ⟨d0, rfl⟩ : ∃ d0, d = d0 + 2 := ⟨d - 2, by omega⟩
  match as, ha with
  | [.inr (.inr r), .inl f, .inl i, .inl s, .inl j], ha =>
    obtain ⟨h1, h2, h3, h4, h5, h6⟩ := ha
    have h1 : r = some 14 := h1
    subst h1
    obtain ⟨_, c1, v, rfl, c2⟩ := zn_al13 (L := L) (σ := σ) (d := d0) (zB_dn hB) h2 h3 h4 h5
    exact ⟨_, c1, hB, zk_Fr_r H, _, List.mem_cons_self, c2, fun f hf => absurd hf List.not_mem_nil, fun f hf => absurd hf List.not_mem_nil⟩

theorem zn_ca33_26 {L : Nat} {σ : Nat → Int32} {d : Nat} {H : zp_H} {x y : Int32} (hB : zk_Bs zB0 zg zJc H) (hx : 0 ≤ x.toInt ∧ x.toInt ≤ 7) (hy : 0 ≤ y.toInt ∧ y.toInt ≤ 7) : ∃ X, zp_Call L σ (d + 1) 26 [.inr (.inr (some 34)), .inl x, .inl y] H X ∧ (fun X : zp_X => ∃ v : Int32, X = (.inl (some (.inl v)), H)) X := by
  have W := zB_Wd hB
  have e1 : (x * Int32.ofInt 8).toInt = x.toInt * 8 := zq_mul (y := Int32.ofInt 8) (z := 8) (by decide) (by omega) (by omega)
  have e2 : (x * Int32.ofInt 8 + y).toInt = x.toInt * 8 + y.toInt := (zq_add (by omega) (by omega)).trans (by rw [e1])
  refine zw_met zm_26_t rfl rfl ?_
  refine zw_ld (n := 1) (k := 0) (f := zp_isR) (pc' := 1) rfl rfl rfl rfl rfl ?_
  refine zw_gR (q := 33) (pc' := 4) W rfl rfl rfl rfl (W.2 33 5 _ rfl) rfl ?_
  refine zw_ld (n := 1) (k := 1) (f := zp_isI) (pc' := 5) rfl rfl rfl rfl rfl ?_
  refine zw_s (pc' := 7) rfl rfl ?_
  refine zw_imul (pc' := 8) rfl rfl ?_
  refine zw_ld (n := 1) (k := 2) (f := zp_isI) (pc' := 9) rfl rfl rfl rfl rfl ?_
  refine zw_iadd (pc' := 10) rfl rfl ?_
  refine zw_ia (q := 38) (pc' := 11) W rfl rfl (by decide) (⟨by rw [e2]; omega, by rw [e2]; show _ < ((64 : Nat) : Int); omega⟩) rfl rfl ?_
  refine zw_ri rfl rfl ?_
  exact ⟨_, rfl⟩

theorem zn_ca33_27 {L : Nat} {σ : Nat → Int32} {d : Nat} {H : zp_H} {x y : Int32} (hB : zk_Bs zB0 zg zJc H) (hx : 0 ≤ x.toInt ∧ x.toInt ≤ 7) (hy : 0 ≤ y.toInt ∧ y.toInt ≤ 7) : ∃ X, zp_Call L σ (d + 1) 27 [.inr (.inr (some 34)), .inl x, .inl y] H X ∧ (fun X : zp_X => ∃ v : Int32, X = (.inl (some (.inl v)), H)) X := by
  have W := zB_Wd hB
  have e1 : (x * Int32.ofInt 8).toInt = x.toInt * 8 := zq_mul (y := Int32.ofInt 8) (z := 8) (by decide) (by omega) (by omega)
  have e2 : (x * Int32.ofInt 8 + y).toInt = x.toInt * 8 + y.toInt := (zq_add (by omega) (by omega)).trans (by rw [e1])
  refine zw_met zm_27_t rfl rfl ?_
  refine zw_ld (n := 1) (k := 0) (f := zp_isR) (pc' := 1) rfl rfl rfl rfl rfl ?_
  refine zw_gR (q := 33) (pc' := 4) W rfl rfl rfl rfl (W.2 33 6 _ rfl) rfl ?_
  refine zw_ld (n := 1) (k := 1) (f := zp_isI) (pc' := 5) rfl rfl rfl rfl rfl ?_
  refine zw_s (pc' := 7) rfl rfl ?_
  refine zw_imul (pc' := 8) rfl rfl ?_
  refine zw_ld (n := 1) (k := 2) (f := zp_isI) (pc' := 9) rfl rfl rfl rfl rfl ?_
  refine zw_iadd (pc' := 10) rfl rfl ?_
  refine zw_ia (q := 39) (pc' := 11) W rfl rfl (by decide) (⟨by rw [e2]; omega, by rw [e2]; show _ < ((64 : Nat) : Int); omega⟩) rfl rfl ?_
  refine zw_ri rfl rfl ?_
  exact ⟨_, rfl⟩

theorem zn_alL33 {L : Nat} {σ : Nat → Int32} {d : Nat} {H : zp_H} {f i s j m : Int32} (hB : zk_Bs zB0 zg zJc H) (hf : 0 ≤ f.toInt ∧ f.toInt ≤ 7) (hi : 0 ≤ i.toInt ∧ i.toInt ≤ 7) (hs : 0 ≤ s.toInt ∧ s.toInt ≤ 7) (hj : 0 ≤ j.toInt ∧ j.toInt ≤ 7) (hm1 : m.toInt ≤ 8 - i.toInt) (hm2 : m.toInt ≤ 8 - j.toInt) : ∀ (n : Nat) (lv : zp_LV) (a : Int32), zp_get lv 0 = some (.inr (.inr (some 34))) → zp_get lv 1 = some (.inl f) → zp_get lv 2 = some (.inl i) → zp_get lv 3 = some (.inl s) → zp_get lv 4 = some (.inl j) → zp_get lv 5 = some (.inl m) → zp_get lv 6 = some (.inl a) → 0 ≤ a.toInt ∧ a.toInt ≤ 8 → (m.toInt - a.toInt).toNat ≤ n → zs_Safe L σ (fun X : zp_X => ∃ v : Int32, X = (.inl (some (.inl v)), H) ∧ 0 ≤ v.toInt ∧ v.toInt ≤ 8) zm_165 [] (d + 1) (25, lv, [], H, (0, 0)) := by
  have W := zB_Wd hB
  intro n
  induction n with
  | zero =>
    intro lv a l0 l1 l2 l3 l4 l5 l6 ha hn
    refine zw_ld (n := 2) (k := 6) (f := zp_isI) (pc' := 27) rfl rfl l6 rfl rfl ?_
    refine zw_ld (n := 2) (k := 5) (f := zp_isI) (pc' := 29) rfl rfl l5 rfl rfl ?_
    refine zw_bge2 (g := 82) (pc' := 32) rfl rfl rfl rfl rfl (fun hb => ?_) (fun hb => ?_)
    · refine zw_ld (n := 2) (k := 6) (f := zp_isI) (pc' := 84) rfl rfl l6 rfl rfl ?_
      refine zw_ri rfl rfl ?_
      exact ⟨_, rfl, by omega, by omega⟩
    · omega
  | succ n ih =>
    intro lv a l0 l1 l2 l3 l4 l5 l6 ha hn
    refine zw_ld (n := 2) (k := 6) (f := zp_isI) (pc' := 27) rfl rfl l6 rfl rfl ?_
    refine zw_ld (n := 2) (k := 5) (f := zp_isI) (pc' := 29) rfl rfl l5 rfl rfl ?_
    refine zw_bge2 (g := 82) (pc' := 32) rfl rfl rfl rfl rfl (fun hb => ?_) (fun hb => ?_)
    · refine zw_ld (n := 2) (k := 6) (f := zp_isI) (pc' := 84) rfl rfl l6 rfl rfl ?_
      refine zw_ri rfl rfl ?_
      exact ⟨_, rfl, by omega, by omega⟩
    · have e1 : (i + a).toInt = i.toInt + a.toInt := zq_add (by omega) (by omega)
      have e2 : (j + a).toInt = j.toInt + a.toInt := zq_add (by omega) (by omega)
      have e3 : (a + Int32.ofInt 1).toInt = a.toInt + 1 := zw_p1 (by omega)
      obtain ⟨_, c1, v1, rfl⟩ := zn_ca33_26 (L := L) (σ := σ) (d := d) (H := H) (x := f) (y := i + a) hB hf (by omega)
      obtain ⟨_, c2, v2, rfl⟩ := zn_ca33_26 (L := L) (σ := σ) (d := d) (H := H) (x := s) (y := j + a) hB hs (by omega)
      obtain ⟨_, c3, v3, rfl⟩ := zn_ca33_27 (L := L) (σ := σ) (d := d) (H := H) (x := f) (y := i + a) hB hf (by omega)
      obtain ⟨_, c4, v4, rfl⟩ := zn_ca33_27 (L := L) (σ := σ) (d := d) (H := H) (x := s) (y := j + a) hB hs (by omega)
      refine zw_ld (n := 1) (k := 0) (f := zp_isR) (pc' := 33) rfl rfl l0 rfl rfl ?_
      refine zw_ld (n := 1) (k := 1) (f := zp_isI) (pc' := 34) rfl rfl l1 rfl rfl ?_
      refine zw_ld (n := 1) (k := 2) (f := zp_isI) (pc' := 35) rfl rfl l2 rfl rfl ?_
      refine zw_ld (n := 2) (k := 6) (f := zp_isI) (pc' := 37) rfl rfl l6 rfl rfl ?_
      refine zw_iadd (pc' := 38) rfl rfl ?_
      refine zw_c (pc' := 41) (zw_cv (q := 33) (Y := zm_26) W.1 rfl rfl zm_26_t rfl rfl) rfl rfl rfl rfl rfl (c1) ?_
      refine zw_ld (n := 1) (k := 0) (f := zp_isR) (pc' := 42) rfl rfl l0 rfl rfl ?_
      refine zw_ld (n := 1) (k := 3) (f := zp_isI) (pc' := 43) rfl rfl l3 rfl rfl ?_
      refine zw_ld (n := 2) (k := 4) (f := zp_isI) (pc' := 45) rfl rfl l4 rfl rfl ?_
      refine zw_ld (n := 2) (k := 6) (f := zp_isI) (pc' := 47) rfl rfl l6 rfl rfl ?_
      refine zw_iadd (pc' := 48) rfl rfl ?_
      refine zw_c (pc' := 51) (zw_cv (q := 33) (Y := zm_26) W.1 rfl rfl zm_26_t rfl rfl) rfl rfl rfl rfl rfl (c2) ?_
      refine zw_bne2 (g := 82) (pc' := 54) rfl rfl rfl rfl rfl (fun hb2 => ?_) (fun hb2 => ?_)
      · refine zw_ld (n := 2) (k := 6) (f := zp_isI) (pc' := 84) rfl rfl l6 rfl rfl ?_
        refine zw_ri rfl rfl ?_
        exact ⟨_, rfl, by omega, by omega⟩
      · refine zw_ld (n := 1) (k := 0) (f := zp_isR) (pc' := 55) rfl rfl l0 rfl rfl ?_
        refine zw_ld (n := 1) (k := 1) (f := zp_isI) (pc' := 56) rfl rfl l1 rfl rfl ?_
        refine zw_ld (n := 1) (k := 2) (f := zp_isI) (pc' := 57) rfl rfl l2 rfl rfl ?_
        refine zw_ld (n := 2) (k := 6) (f := zp_isI) (pc' := 59) rfl rfl l6 rfl rfl ?_
        refine zw_iadd (pc' := 60) rfl rfl ?_
        refine zw_c (pc' := 63) (zw_cv (q := 33) (Y := zm_27) W.1 rfl rfl zm_27_t rfl rfl) rfl rfl rfl rfl rfl (c3) ?_
        refine zw_ld (n := 1) (k := 0) (f := zp_isR) (pc' := 64) rfl rfl l0 rfl rfl ?_
        refine zw_ld (n := 1) (k := 3) (f := zp_isI) (pc' := 65) rfl rfl l3 rfl rfl ?_
        refine zw_ld (n := 2) (k := 4) (f := zp_isI) (pc' := 67) rfl rfl l4 rfl rfl ?_
        refine zw_ld (n := 2) (k := 6) (f := zp_isI) (pc' := 69) rfl rfl l6 rfl rfl ?_
        refine zw_iadd (pc' := 70) rfl rfl ?_
        refine zw_c (pc' := 73) (zw_cv (q := 33) (Y := zm_27) W.1 rfl rfl zm_27_t rfl rfl) rfl rfl rfl rfl rfl (c4) ?_
        refine zw_bne2 (g := 82) (pc' := 76) rfl rfl rfl rfl rfl (fun hb3 => ?_) (fun hb3 => ?_)
        · refine zw_ld (n := 2) (k := 6) (f := zp_isI) (pc' := 84) rfl rfl l6 rfl rfl ?_
          refine zw_ri rfl rfl ?_
          exact ⟨_, rfl, by omega, by omega⟩
        · refine zw_ii (pc' := 79) rfl l6 rfl rfl ?_
          refine zw_s (pc' := 25) rfl rfl ?_
          exact ih _ _ (zw_gt l0 rfl rfl) (zw_gt l1 rfl rfl) (zw_gt l2 rfl rfl) (zw_gt l3 rfl rfl) (zw_gt l4 rfl rfl) (zw_gt l5 rfl rfl) zw_g1 (by omega) (by omega)

theorem zn_al33 {L : Nat} {σ : Nat → Int32} {d : Nat} {H : zp_H} {f i s j : Int32} (hB : zk_Bs zB0 zg zJc H) (hf : 0 ≤ f.toInt ∧ f.toInt ≤ 7) (hi : 0 ≤ i.toInt ∧ i.toInt ≤ 7) (hs : 0 ≤ s.toInt ∧ s.toInt ≤ 7) (hj : 0 ≤ j.toInt ∧ j.toInt ≤ 7) : ∃ X, zp_Call L σ (d + 2) 165 [.inr (.inr (some 34)), .inl f, .inl i, .inl s, .inl j] H X ∧ (fun X : zp_X => ∃ v : Int32, X = (.inl (some (.inl v)), H) ∧ 0 ≤ v.toInt ∧ v.toInt ≤ 8) X := by
  have W := zB_Wd hB
  have m1 := zB_ar1 hB (p := 36) (t := 0) (n := 8) (i := f.toInt.toNat) (r := (0, 8)) rfl (by omega) (by rw [show (zB_al zB_ar 36) = (1, [(0, 8)]) from rfl, show f.toInt.toNat % 1 = 0 from Nat.mod_one _]; rfl)
  have m1 : 0 ≤ (H.2.1 36 f.toInt.toNat).toInt ∧ (H.2.1 36 f.toInt.toNat).toInt ≤ 8 := m1
  have m2 := zB_ar1 hB (p := 36) (t := 0) (n := 8) (i := s.toInt.toNat) (r := (0, 8)) rfl (by omega) (by rw [show (zB_al zB_ar 36) = (1, [(0, 8)]) from rfl, show s.toInt.toNat % 1 = 0 from Nat.mod_one _]; rfl)
  have m2 : 0 ≤ (H.2.1 36 s.toInt.toNat).toInt ∧ (H.2.1 36 s.toInt.toNat).toInt ≤ 8 := m2
  have e1 : (H.2.1 36 f.toInt.toNat - i).toInt = (H.2.1 36 f.toInt.toNat).toInt - i.toInt := zq_sub (by omega) (by omega)
  have e2 : (H.2.1 36 s.toInt.toNat - j).toInt = (H.2.1 36 s.toInt.toNat).toInt - j.toInt := zq_sub (by omega) (by omega)
  obtain ⟨_, c1, v, rfl, v1, v2⟩ := zn_min (L := L) (σ := σ) (d := d) (H := H) (x := H.2.1 36 f.toInt.toNat - i) (y := H.2.1 36 s.toInt.toNat - j)
  refine zw_met zm_165_t rfl rfl ?_
  refine zw_ld (n := 1) (k := 0) (f := zp_isR) (pc' := 1) rfl rfl rfl rfl rfl ?_
  refine zw_gR (q := 33) (pc' := 4) W rfl rfl rfl rfl (W.2 33 3 _ rfl) rfl ?_
  refine zw_ld (n := 1) (k := 1) (f := zp_isI) (pc' := 5) rfl rfl rfl rfl rfl ?_
  refine zw_ia (q := 36) (pc' := 6) W rfl rfl (by decide) (⟨by omega, by show _ < ((8 : Nat) : Int); omega⟩) rfl rfl ?_
  refine zw_ld (n := 1) (k := 2) (f := zp_isI) (pc' := 7) rfl rfl rfl rfl rfl ?_
  refine zw_isub (pc' := 8) rfl rfl ?_
  refine zw_ld (n := 1) (k := 0) (f := zp_isR) (pc' := 9) rfl rfl rfl rfl rfl ?_
  refine zw_gR (q := 33) (pc' := 12) W rfl rfl rfl rfl (W.2 33 3 _ rfl) rfl ?_
  refine zw_ld (n := 1) (k := 3) (f := zp_isI) (pc' := 13) rfl rfl rfl rfl rfl ?_
  refine zw_ia (q := 36) (pc' := 14) W rfl rfl (by decide) (⟨by omega, by show _ < ((8 : Nat) : Int); omega⟩) rfl rfl ?_
  refine zw_ld (n := 2) (k := 4) (f := zp_isI) (pc' := 16) rfl rfl rfl rfl rfl ?_
  refine zw_isub (pc' := 17) rfl rfl ?_
  refine zw_c (pc' := 20) (zw_cs (Y := zm_54) rfl rfl zm_54_t) rfl rfl rfl rfl rfl (c1) ?_
  refine zw_st (n := 2) (k := 5) (f := zp_isI) (pc' := 22) rfl rfl rfl rfl rfl ?_
  refine zw_s (pc' := 23) rfl rfl ?_
  refine zw_st (n := 2) (k := 6) (f := zp_isI) (pc' := 25) rfl rfl rfl rfl rfl ?_
  exact zn_alL33 hB hf hi hs hj (by omega) (by omega) _ _ _ (zw_gt (zw_gt rfl rfl rfl) rfl rfl) (zw_gt (zw_gt rfl rfl rfl) rfl rfl) (zw_gt (zw_gt rfl rfl rfl) rfl rfl) (zw_gt (zw_gt rfl rfl rfl) rfl rfl) (zw_gt (zw_gt rfl rfl rfl) rfl rfl) (zw_gt zw_g1 rfl rfl) zw_g1 (by decide) (Nat.le_refl _)

theorem zhc_7 {L : Nat} {σ : Nat → Int32} : zk_Ct L σ zB zg zJc ze_h7 := by
  intro d hd as H ha hB hp
  have hd : 2 ≤ d := hd
  obtain ⟨d0, rfl⟩ : ∃ d0, d = d0 + 2 := ⟨d - 2, by omega⟩
  match as, ha with
  | [.inr (.inr r), .inl f, .inl i, .inl s, .inl j], ha =>
    obtain ⟨h1, h2, h3, h4, h5, h6⟩ := ha
    have h1 : r = some 34 := h1
    subst h1
    obtain ⟨_, c1, v, rfl, c2⟩ := zn_al33 (L := L) (σ := σ) (d := d0) (zB_dn hB) h2 h3 h4 h5
    exact ⟨_, c1, hB, zk_Fr_r H, _, List.mem_cons_self, c2, fun f hf => absurd hf List.not_mem_nil, fun f hf => absurd hf List.not_mem_nil⟩

/-- all that is shown by hand of the class -/
theorem zh_all {L : Nat} {σ : Nat → Int32} : ∀ s ∈ zh_l, zk_Ct L σ zB zg zJc s := by
  intro s hs
  unfold zh_l at hs
  rcases List.mem_cons.mp hs with rfl | hs
  · exact zhc_0
  rcases List.mem_cons.mp hs with rfl | hs
  · exact zhc_1
  rcases List.mem_cons.mp hs with rfl | hs
  · exact zhc_2
  rcases List.mem_cons.mp hs with rfl | hs
  · exact zhc_3
  rcases List.mem_cons.mp hs with rfl | hs
  · exact zhc_4
  rcases List.mem_cons.mp hs with rfl | hs
  · exact zhc_5
  rcases List.mem_cons.mp hs with rfl | hs
  · exact zhc_6
  rcases List.mem_cons.mp hs with rfl | hs
  · exact zhc_7
  · exact absurd hs List.not_mem_nil
end
section
/-! ===== both sides beside each other: what a call of one leaves of the other ===== -/
theorem zB_al_n {p : Nat} : ∀ {l : List (Nat × Nat × List (Int × Int))}, (∀ q ∈ l, Nat.beq q.1 p = false) → zB_al l p = (1, [(-2147483648, 2147483647)])
  | [], _ => rfl
  | q :: l, h => by
    unfold zB_al
    rw [h q List.mem_cons_self]
    exact zB_al_n (fun q' h' => h q' (List.mem_cons_of_mem _ h'))
theorem zI_full {p i : Nat} {l : List (Nat × Nat × List (Int × Int))} {r : Int × Int} {x : Int32} (h : zB_al l p = (1, [(-2147483648, 2147483647)])) (hr : (zB_al l p).2[i % (zB_al l p).1]? = some r) : zk_in x.toInt r := by
  rw [h] at hr
  have e : i % 1 = 0 := Nat.mod_one _
  rw [show ((1, [(-2147483648, 2147483647)]) : Nat × List (Int × Int)).2[i % 1]? = ([(-2147483648, 2147483647)] : List (Int × Int))[i % 1]? from rfl, e] at hr
  cases hr
  exact zl_full x
theorem zI_nb {p q : Nat} (h : p ≠ q) : Nat.beq p q = false := by
  cases hb : Nat.beq p q with
  | false => rfl
  | true => exact absurd (za_beq hb) h
theorem zI_ra : zR_ar.all (fun q => (Nat.ble 72 q.1).and (Nat.beq q.1 104).not) = true := by decide +kernel
theorem zI_ba : zB_ar.all (fun q => Nat.blt q.1 72) = true := by decide +kernel
theorem zI_bf : zB_fr.all (fun q => Nat.blt q.1 72) = true := by decide +kernel
theorem zI_rz {p k : Nat} (h : zR_fz p k = true) : 72 ≤ p ∧ p ≠ 104 ∧ ¬ (p = 72 ∧ k = 100) := by
  unfold zR_fz at h
  rcases Bool.or_eq_true_iff.mp h with h | h
  · obtain ⟨q, q1, q2⟩ := List.any_eq_true.mp h
    obtain ⟨q3, q4⟩ := Bool.and_eq_true_iff.mp q2
    have t : zR_fl.all (fun q => (Nat.beq q.1 72).and (Nat.beq q.2 100).not) = true := by decide +kernel
    have t1 := List.all_eq_true.mp t q q1
    obtain ⟨t2, t3⟩ := Bool.and_eq_true_iff.mp t1
    have t2 := za_beq t2
    have q3 := za_beq q3
    have q4 := za_beq q4
    refine ⟨by omega, by omega, ?_⟩
    rintro ⟨_, rfl⟩
    rw [q4] at t3
    cases t3
  · obtain ⟨q, q1, q2⟩ := List.any_eq_true.mp h
    have t : zR_fs.all (fun q => (Nat.blt 72 q).and (Nat.beq q 104).not) = true := by decide +kernel
    have t1 := List.all_eq_true.mp t q q1
    obtain ⟨t2, t3⟩ := Bool.and_eq_true_iff.mp t1
    have t2 := za_blt t2
    have q2 := za_beq q2
    refine ⟨by omega, ?_, by omega⟩
    rintro rfl
    rw [q2] at t3
    cases t3
/-- nothing of the reference is touched -/
def zf_C (H H' : zp_H) : Prop := ∀ p k, 72 ≤ p → p ≠ 104 → ¬ (p = 72 ∧ k = 100) → H'.2.1 p k = H.2.1 p k ∧ H'.2.2.1 p k = H.2.2.1 p k
theorem zI_R {H H' : zp_H} (hR : zk_Bs z0R zg zJ H) (hs : H'.1 = zB_sh) (hr : ∀ p k r, zB_l2 zB_rf p k = some r → H'.2.2.2 p k = r) (hf : zf_C H H') : zk_Bs z0R zg zJ H' := by
  have hfv : ∀ k, k ≠ 100 → zk_fv zg H' 72 k = zk_fv zg H 72 k := by
    intro k hk
    unfold zk_fv
    rw [if_neg (fun h => hk h.2), if_neg (fun h => hk h.2), (hf 72 k (Nat.le_refl _) (by decide) (fun h => hk h.2)).1]
  refine ⟨hs, hr, fun q hq => absurd hq List.not_mem_nil, fun q hq => absurd hq List.not_mem_nil, fun p k r h => Or.inr ?_, fun p t n i r hp hi h => ?_, fun c hc => Or.inr ?_, ?_⟩
  · have hp72 : p = 72 := by
      cases hb : Nat.beq 72 p with
      | true => exact (za_beq hb).symm
      | false =>
        have h : zB_l2 zR_fr p k = some r := h
        unfold zR_fr zB_l2 at h
        rw [hb] at h
        cases h
    subst hp72
    by_cases hk : k = 100
    · subst hk
      have e : r = (-1, 20) := (Option.some.inj h).symm
      rw [e]
      show zk_in (zk_fv zg H' 72 100) _
      unfold zk_fv
      rw [if_pos ⟨rfl, rfl⟩]
      exact zg_in _
    · rcases hR.2.2.2.2.1 72 k r h with ⟨q, q1, _⟩ | h9
      · exact absurd q1 List.not_mem_nil
      · rw [hfv k hk]
        exact h9
  · by_cases hp7 : 72 ≤ p ∧ p ≠ 104
    · rw [(hf p i hp7.1 hp7.2 (by
        rintro ⟨rfl, _⟩
        have hp : zB_sh[72]? = some (.inr (t, n)) := hp
        cases hp)).1]
      exact hR.2.2.2.2.2.1 p t n i r hp hi h
    · refine zI_full (zB_al_n (fun q hq => ?_)) h
      have t1 := List.all_eq_true.mp zI_ra q hq
      obtain ⟨t2, t3⟩ := Bool.and_eq_true_iff.mp t1
      have t2 := za_ble t2
      refine zI_nb ?_
      rintro rfl
      apply hp7
      refine ⟨t2, ?_⟩
      intro e
      rw [e] at t3
      cases t3
  · exact absurd hc List.not_mem_nil
  · exact zJ_c (fun p k hz => by
      obtain ⟨z1, z2, z3⟩ := zI_rz hz
      exact (hf p k z1 z2 z3).1) hR.2.2.2.2.2.2.2
theorem zI_bz {p k : Nat} (h : zB_fz p k = true) : p < 72 := by
  unfold zB_fz at h
  rcases Bool.or_eq_true_iff.mp h with h | h
  · obtain ⟨q, q1, q2⟩ := List.any_eq_true.mp h
    have q3 := za_beq (Bool.and_eq_true_iff.mp q2).1
    have t : zB_fl.all (fun q => Nat.blt q.1 72) = true := by decide +kernel
    have t1 := za_blt (List.all_eq_true.mp t q q1)
    omega
  · obtain ⟨q, q1, q2⟩ := List.any_eq_true.mp h
    have t : zB_fs.all (fun q => Nat.blt q 72) = true := by decide +kernel
    have t1 := za_blt (List.all_eq_true.mp t q q1)
    have q2 := za_beq q2
    omega
theorem zI_B {c : Nat} {H H' : zp_H} (hB : zk_Bs (zB_c c) zg zJc H) (hs : H'.1 = zB_sh) (hf : zf_72 H H') : zk_Bs (zB_c c) zg zJc H' := by
  have hfv : ∀ p k, p < 72 → zk_fv zg H' p k = zk_fv zg H p k := by
    intro p k hp
    unfold zk_fv
    rw [if_neg (fun h => by have := h.1; omega), if_neg (fun h => by have := h.1; omega), (hf.2 p k hp).1]
  refine ⟨hs, fun p k r h => ?_, fun q hq => absurd hq List.not_mem_nil, fun q hq => absurd hq List.not_mem_nil, fun p k r h => Or.inr ?_, fun p t n i r hp hi h => ?_, fun e he => Or.inr ?_, ?_⟩
  · rw [hf.1]
    exact hB.2.1 p k r h
  · obtain ⟨q, q1, q2⟩ := zB_l2_m (show zB_l2 zB_fr p k = some r from h)
    have t1 := za_blt (List.all_eq_true.mp zI_bf q q1)
    rcases hB.2.2.2.2.1 p k r h with ⟨q, q1, _⟩ | h9
    · exact absurd q1 List.not_mem_nil
    rw [hfv p k (by omega)]
    exact h9
  · by_cases hp7 : p < 72
    · rw [(hf.2 p i hp7).1]
      exact hB.2.2.2.2.2.1 p t n i r hp hi h
    · refine zI_full (zB_al_n (fun q hq => ?_)) h
      have t1 := za_blt (List.all_eq_true.mp zI_ba q hq)
      exact zI_nb (by omega)
  · rcases hB.2.2.2.2.2.2.1 e he with ⟨q, q1, _⟩ | h9
    · exact absurd q1 List.not_mem_nil
    have he : e ∈ zB_cd := he
    unfold zB_cd at he
    rcases List.mem_cons.mp he with rfl | he
    · rw [hfv 52 4 (by decide), hfv 52 5 (by decide)]
      exact h9
    · exact absurd he List.not_mem_nil
  · exact zJc_c (fun p k hz => hf.2 p k (zI_bz hz)) hB.2.2.2.2.2.2.2
/-- both sides as they stand between two calls: how the class's references lie; so many times were 20 bytes fed -/
def zI (c t : Nat) (H : zp_H) : Prop := zk_Bs (zB_c c) zg zJc H ∧ zk_Bs z0R zg zJ H ∧ (H.2.1 0 1).toInt = (20 * t : Nat) ∧ (H.2.1 72 22).toInt = (20 * t : Nat) ∧ t ≤ 35 ∧ c < 4
theorem zI_in {mods : List (Nat × Nat)} {am : List Nat} {H H' : zp_H} {p k : Nat} (h : zk_Fr zg mods am H H') (hm : zk_inm mods p k = false) (ha : zk_ina am p = false) (hk : ¬ (p = 72 ∧ k = 100)) : H'.2.1 p k = H.2.1 p k ∧ H'.2.2.1 p k = H.2.2.1 p k := by
  have e := h.2 p k hm ha
  unfold zk_fv at e
  rw [if_neg hk, if_neg hk] at e
  exact ⟨Int32.toInt_inj.mp e.1, e.2⟩
theorem zI_nm {mods : List (Nat × Nat)} {p k : Nat} {P : Nat × Nat → Bool} (h : mods.all P = true) (hn : P (p, k) = false) : zk_inm mods p k = false := by
  cases hb : zk_inm mods p k with
  | false => rfl
  | true =>
    obtain ⟨q, q1, q2⟩ := List.any_eq_true.mp hb
    obtain ⟨q3, q4⟩ := Bool.and_eq_true_iff.mp q2
    have e : q = (p, k) := Prod.ext (za_beq q3) (za_beq q4)
    have h1 := List.all_eq_true.mp h q q1
    rw [e, hn] at h1
    cases h1
theorem zI_na {am : List Nat} {p : Nat} {P : Nat → Bool} (h : am.all P = true) (hn : P p = false) : zk_ina am p = false := by
  cases hb : zk_ina am p with
  | false => rfl
  | true =>
    obtain ⟨q, q1, q2⟩ := List.any_eq_true.mp hb
    have e : q = p := za_beq q2
    have h1 := List.all_eq_true.mp h q q1
    rw [e, hn] at h1
    cases h1
def zI_pc (q : Nat × Nat) : Bool := (Nat.blt q.1 72).and ((Nat.beq q.1 0).and (Nat.beq q.2 1)).not
def zI_ac (q : Nat) : Bool := ((Nat.blt q 72).and (Nat.beq q 0).not).or (Nat.beq q 104)
def zI_mc (e : zk_T) : Bool := (e.2.2.2.1.all zI_pc).and (e.2.2.2.2.1.all zI_ac)
theorem zI_frc {mods : List (Nat × Nat)} {am : List Nat} {H H' : zp_H} (h : zk_Fr zg mods am H H') (hm : mods.all (fun q => Nat.blt q.1 72) = true) (ha : am.all (fun q => (Nat.blt q 72).or (Nat.beq q 104)) = true) : zf_C H H' := by
  intro p k h1 h2 h3
  have b : Nat.blt p 72 = false := by
    cases hb : Nat.blt p 72 with
    | false => rfl
    | true => exact absurd (za_blt hb) (by omega)
  exact zI_in h (zI_nm hm b) (zI_na ha (by
    show (Nat.blt p 72).or (Nat.beq p 104) = false
    rw [b, zI_nb h2]
    rfl)) h3
theorem zI_sub {mods : List (Nat × Nat)} (h : mods.all zI_pc = true) : mods.all (fun q => Nat.blt q.1 72) = true := List.all_eq_true.mpr (fun q hq => (Bool.and_eq_true_iff.mp (List.all_eq_true.mp h q hq)).1)
theorem zI_sua {am : List Nat} (h : am.all zI_ac = true) : am.all (fun q => (Nat.blt q 72).or (Nat.beq q 104)) = true := List.all_eq_true.mpr (fun q hq => by
  rcases Bool.or_eq_true_iff.mp (List.all_eq_true.mp h q hq) with h1 | h1
  · exact Bool.or_eq_true_iff.mpr (Or.inl (Bool.and_eq_true_iff.mp h1).1)
  · exact Bool.or_eq_true_iff.mpr (Or.inr h1))
/-- the refs of the base are among those of the way they lie -/
theorem zI_rf {c : Nat} {H : zp_H} (h : zk_Bs (zB_c c) zg zJc H) : ∀ p k r, zB_l2 zB_rf p k = some r → H.2.2.2 p k = r := (zB_Bc h).2.1
/-- a call of the class that a summary knows -/
theorem zI_C {L : Nat} {σ : Nat → Int32} {d c t : Nat} {H : zp_H} {e : zk_T} {as : List zp_V} (hI : zI c t H) (hct : zk_Ct L σ (zB_c c) zg zJc e) (hm : zI_mc e = true) (hd : e.2.2.2.2.2.2 ≤ d) (ha : za_F2 zk_pv e.2.1 as) (hp : e.2.2.1 = []) : ∃ X, zp_Call L σ d e.1 as H X ∧ zI c t X.2 ∧ ∃ o ∈ e.2.2.2.2.2.1, zk_rv o.1 X.1 := by
  obtain ⟨h1, h2, h3, h4, h5, h6⟩ := hI
  obtain ⟨X, x1, x2, x3, o, o1, o2⟩ := hct d hd as H ha h1 (by rw [hp]; exact fun f hf => absurd hf List.not_mem_nil)
  obtain ⟨m1, m2⟩ := Bool.and_eq_true_iff.mp hm
  have hF := zI_frc x3 (zI_sub m1) (zI_sua m2)
  refine ⟨X, x1, ⟨x2, zI_R h2 x2.1 (zI_rf x2) hF, ?_, ?_, h5, h6⟩, o, o1, o2.1⟩
  · rw [(zI_in x3 (zI_nm m1 rfl) (zI_na m2 rfl) (by decide)).1]
    exact h3
  · rw [(hF 72 22 (by decide) (by decide) (by decide)).1]
    exact h4
def zI_pr (q : Nat × Nat) : Bool := (Nat.ble 72 q.1).and ((Nat.beq q.1 72).and (Nat.beq q.2 22)).not
def zI_ar (q : Nat) : Bool := Nat.blt 72 q
def zI_mr (e : zk_T) : Bool := (e.2.2.2.1.all zI_pr).and (e.2.2.2.2.1.all zI_ar)
theorem zI_af {c t : Nat} {H H' : zp_H} (hI : zI c t H) (hR : zk_Bs z0R zg zJ H') (hf : zf_72 H H') (h22 : (H'.2.1 72 22).toInt = (H.2.1 72 22).toInt) : zI c t H' := by
  obtain ⟨h1, h2, h3, h4, h5, h6⟩ := hI
  exact ⟨zI_B h1 hR.1 hf, hR, by rw [(hf.2 0 1 (by decide)).1]; exact h3, by rw [h22]; exact h4, h5, h6⟩
theorem zI_afF {c t : Nat} {H H' : zp_H} {mods : List (Nat × Nat)} {am : List Nat} (hI : zI c t H) (hR : zk_Bs z0R zg zJ H') (hF : zk_Fr zg mods am H H') (hm : mods.all zI_pr = true) (ha : am.all zI_ar = true) : zI c t H' := by
  refine zI_af hI hR (zf_of hF (List.all_eq_true.mpr (fun q hq => (Bool.and_eq_true_iff.mp (List.all_eq_true.mp hm q hq)).1)) (List.all_eq_true.mpr (fun q hq => ?_))) ?_
  · have h1 := za_blt (List.all_eq_true.mp ha q hq)
    exact Nat.ble_eq_true_of_le (by omega)
  · rw [(zI_in hF (zI_nm hm rfl) (zI_na ha rfl) (by decide)).1]
/-! what is returned -/
def zI_k (k : Nat) (o : zk_Oc) : Bool := match o.1, k with
  | .inl none, 0 => true
  | .inl (some (.inl _)), 1 => true
  | .inl (some (.inr none)), 2 => true
  | _, _ => false
theorem zI_v0 {outs : List zk_Oc} {x : Option zp_V ⊕ Nat} (h : outs.all (zI_k 0) = true) (hx : ∃ o ∈ outs, zk_rv o.1 x) : x = .inl none := by
  obtain ⟨o, o1, o2⟩ := hx
  have h1 := List.all_eq_true.mp h o o1
  obtain ⟨o, _⟩ := o
  match o, x, o2, h1 with
  | .inl none, .inl none, _, _ => rfl
theorem zI_v1 {outs : List zk_Oc} {x : Option zp_V ⊕ Nat} (h : outs.all (zI_k 1) = true) (hx : ∃ o ∈ outs, zk_rv o.1 x) : ∃ v, x = .inl (some (.inl v)) := by
  obtain ⟨o, o1, o2⟩ := hx
  have h1 := List.all_eq_true.mp h o o1
  obtain ⟨o, _⟩ := o
  match o, x, o2, h1 with
  | .inl (some (.inl r)), .inl (some (.inl v)), _, _ => exact ⟨v, rfl⟩
theorem zI_v2 {outs : List zk_Oc} {x : Option zp_V ⊕ Nat} (h : outs.all (zI_k 2) = true) (hx : ∃ o ∈ outs, zk_rv o.1 x) : ∃ v, x = .inl (some (.inr (.inl v))) := by
  obtain ⟨o, o1, o2⟩ := hx
  have h1 := List.all_eq_true.mp h o o1
  obtain ⟨o, _⟩ := o
  match o, x, o2, h1 with
  | .inl (some (.inr none)), .inl (some (.inr (.inl v))), _, _ => exact ⟨v, rfl⟩
end
