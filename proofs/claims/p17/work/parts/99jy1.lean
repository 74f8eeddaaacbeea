/-! ===== the helm: rules worked out ===== -/
def zm_40 : za_MI := (yX5_wayByRules, prog_7_method_5_code, 5, (some FieldType.int), 5, 0, 0, [], za_i40)
theorem zm_40_t : za_MT 40 = some zm_40 := rfl
def zm_41 : za_MI := (yX5_worth, prog_7_method_6_code, 9, (some FieldType.int), 5, 0, 0, [], za_i41)
theorem zm_41_t : za_MT 41 = some zm_41 := rfl
def zm_42 : za_MI := (yX5_push, prog_7_method_7_code, 2, none, 5, 0, 0, [], za_i42)
theorem zm_42_t : za_MT 42 = some zm_42 := rfl
def zm_43 : za_MI := (yX5_pop, prog_7_method_8_code, 1, (some FieldType.int), 5, 0, 0, [], za_i43)
theorem zm_43_t : za_MT 43 = some zm_43 := rfl
def zm_44 : za_MI := (yX5_joined, prog_7_method_9_code, 3, (some FieldType.int), 5, 0, 0, [], za_i44)
theorem zm_44_t : za_MT 44 = some zm_44 := rfl
/-- but the helm's pile nothing is changed -/
def xFh (H H1 : zp_H) : Prop := H1.1 = H.1 ∧ H1.2.2.2 = H.2.2.2 ∧ (∀ p k, p ≠ 58 → ¬ (p = 56 ∧ k = 2) → H1.2.1 p k = H.2.1 p k) ∧ ∀ p k, H1.2.2.1 p k = H.2.2.1 p k
theorem xFh_r (H : zp_H) : xFh H H := ⟨rfl, rfl, fun _ _ _ _ => rfl, fun _ _ => rfl⟩
theorem xFh_t {H H1 H2 : zp_H} (h1 : xFh H H1) (h2 : xFh H1 H2) : xFh H H2 := ⟨h2.1.trans h1.1, h2.2.1.trans h1.2.1, fun p k a b => (h2.2.2.1 p k a b).trans (h1.2.2.1 p k a b), fun p k => (h2.2.2.2 p k).trans (h1.2.2.2 p k)⟩
theorem xFh_58 {k : Nat} {H : zp_H} {x : Int32} : xFh H (zw_I H 58 k x) := ⟨rfl, rfl, fun p j a _ => y_ne (fun h9 => a h9.1), fun _ _ => rfl⟩
theorem xFh_56 {H : zp_H} {x : Int32} : xFh H (zw_I H 56 2 x) := ⟨rfl, rfl, fun p j _ b => y_ne (fun h9 => b h9), fun _ _ => rfl⟩
theorem xh_ps {H : zp_H} {x : Int32} {S : List Int32} (h2 : (H.2.1 56 2).toInt = (S.length : Int)) (hk : xSk (H.2.1 58) S) (h : S.length < 64) : ((zw_I (zw_I H 58 (H.2.1 56 2).toInt.toNat x) 56 2 (H.2.1 56 2 + Int32.ofInt 1)).2.1 56 2).toInt = ((x :: S).length : Int) ∧ xSk ((zw_I (zw_I H 58 (H.2.1 56 2).toInt.toNat x) 56 2 (H.2.1 56 2 + Int32.ofInt 1)).2.1 58) (x :: S) ∧ xFh H (zw_I (zw_I H 58 (H.2.1 56 2).toInt.toNat x) 56 2 (H.2.1 56 2 + Int32.ofInt 1)) := by
  refine ⟨?_, ⟨?_, xSk_c (fun i hi => ?_) hk⟩, xFh_t xFh_58 xFh_56⟩
  · show ((zw_I (zw_I H 58 (H.2.1 56 2).toInt.toNat x) 56 2 (H.2.1 56 2 + Int32.ofInt 1)).2.1 56 2).toInt = ((S.length + 1 : Nat) : Int)
    rw [show (zw_I (zw_I H 58 (H.2.1 56 2).toInt.toNat x) 56 2 (H.2.1 56 2 + Int32.ofInt 1)).2.1 56 2 = H.2.1 56 2 + Int32.ofInt 1 from zw_eq, zw_p1 (by omega)]
    omega
  · rw [show S.length = (H.2.1 56 2).toInt.toNat by omega]
    exact zw_ne zw_eq rfl
  · exact (y_ne (fun h9 => absurd h9.1 (by decide))).trans (y_ne (fun h9 => by have := h9.2; omega))
theorem xh_pp {H : zp_H} {v : Int32} {S : List Int32} (h2 : (H.2.1 56 2).toInt = ((v :: S).length : Int)) (hk : xSk (H.2.1 58) (v :: S)) (h : (v :: S).length ≤ 64) : H.2.1 58 (H.2.1 56 2 - Int32.ofInt 1).toInt.toNat = v ∧ ((zw_I H 56 2 (H.2.1 56 2 - Int32.ofInt 1)).2.1 56 2).toInt = (S.length : Int) ∧ xSk ((zw_I H 56 2 (H.2.1 56 2 - Int32.ofInt 1)).2.1 58) S ∧ xFh H (zw_I H 56 2 (H.2.1 56 2 - Int32.ofInt 1)) := by
  have h2 : (H.2.1 56 2).toInt = ((S.length + 1 : Nat) : Int) := h2
  have h : S.length + 1 ≤ 64 := h
  have e : (H.2.1 56 2 - Int32.ofInt 1).toInt = (S.length : Int) := by
    rw [zw_m1 (by omega)]
    omega
  refine ⟨?_, (congrArg Int32.toInt zw_eq).trans e, xSk_c (fun i _ => zw_ne rfl rfl) hk.2, xFh_56⟩
  rw [show (H.2.1 56 2 - Int32.ofInt 1).toInt.toNat = S.length by omega]
  exact hk.1

theorem xh_pu {L : Nat} {σ : Nat → Int32} {d : Nat} {H : zp_H} {x : Int32} (W : zw_W H) (h : 0 ≤ (H.2.1 56 2).toInt ∧ (H.2.1 56 2).toInt < 64) : zp_Call L σ (d + 1) 42 [.inr (.inr (some 57)), .inl x] H (.inl none, (zw_I (zw_I H 58 (H.2.1 56 2).toInt.toNat x) 56 2 (H.2.1 56 2 + Int32.ofInt 1))) := by
  refine zw_ex (zw_met zm_42_t rfl rfl ?_)
  refine zw_ld (n := 1) (k := 0) (f := zp_isR) (pc' := 1) rfl rfl rfl rfl rfl ?_
  refine zw_gI (q := 56) (pc' := 4) W rfl rfl rfl rfl rfl rfl ?_
  refine zw_ld (n := 1) (k := 0) (f := zp_isR) (pc' := 5) rfl rfl rfl rfl rfl ?_
  refine zw_gR (q := 56) (pc' := 8) W rfl rfl rfl rfl (W.2 56 1 _ rfl) rfl ?_
  refine zw_al (q := 58) (pc' := 9) W rfl rfl rfl ?_
  refine zw_bge2 (g := 32) (pc' := 12) rfl rfl rfl rfl (rfl : _ = (64 : Int)) (fun h1 => ?_) (fun h1 => ?_)
  · have h1 : ((64 : Nat) : Int) ≤ (H.2.1 56 2).toInt := h1
    omega
  · refine zw_ld (n := 1) (k := 0) (f := zp_isR) (pc' := 13) rfl rfl rfl rfl rfl ?_
    refine zw_gR (q := 56) (pc' := 16) W rfl rfl rfl rfl (W.2 56 1 _ rfl) rfl ?_
    refine zw_ld (n := 1) (k := 0) (f := zp_isR) (pc' := 17) rfl rfl rfl rfl rfl ?_
    refine zw_gI (q := 56) (pc' := 20) W rfl rfl rfl rfl rfl rfl ?_
    refine zw_ld (n := 1) (k := 1) (f := zp_isI) (pc' := 21) rfl rfl rfl rfl rfl ?_
    refine zw_is (q := 58) (pc' := 22) W rfl rfl (by decide) (⟨h.1, by show _ < ((64 : Nat) : Int); omega⟩) rfl ?_
    refine zw_ld (n := 1) (k := 0) (f := zp_isR) (pc' := 23) rfl rfl rfl rfl rfl ?_
    refine zw_s (pc' := 24) rfl rfl ?_
    refine zw_gI (q := 56) (pc' := 27) (zw_W_I W) rfl rfl rfl rfl (zw_ne rfl rfl) rfl ?_
    refine zw_s (pc' := 28) rfl rfl ?_
    refine zw_iadd (pc' := 29) rfl rfl ?_
    refine zw_pI (q := 56) (pc' := 32) (zw_W_I W) rfl rfl rfl rfl rfl rfl ?_
    refine zw_rn rfl rfl ?_
    rfl

theorem xh_po {L : Nat} {σ : Nat → Int32} {d : Nat} {H : zp_H} (W : zw_W H) (h : 0 < (H.2.1 56 2).toInt ∧ (H.2.1 56 2).toInt ≤ 64) : zp_Call L σ (d + 1) 43 [.inr (.inr (some 57))] H (.inl (some (.inl (H.2.1 58 (H.2.1 56 2 - Int32.ofInt 1).toInt.toNat))), zw_I H 56 2 (H.2.1 56 2 - Int32.ofInt 1)) := by
  have e : (H.2.1 56 2 - Int32.ofInt 1).toInt = (H.2.1 56 2).toInt - 1 := zw_m1 (by omega)
  refine zw_ex (zw_met zm_43_t rfl rfl ?_)
  refine zw_ld (n := 1) (k := 0) (f := zp_isR) (pc' := 1) rfl rfl rfl rfl rfl ?_
  refine zw_gI (q := 56) (pc' := 4) W rfl rfl rfl rfl rfl rfl ?_
  refine zw_bgt1 (g := 9) (pc' := 7) rfl rfl rfl rfl (fun h1 => ?_) (fun h1 => ?_)
  · refine zw_ld (n := 1) (k := 0) (f := zp_isR) (pc' := 10) rfl rfl rfl rfl rfl ?_
    refine zw_s (pc' := 11) rfl rfl ?_
    refine zw_gI (q := 56) (pc' := 14) W rfl rfl rfl rfl rfl rfl ?_
    refine zw_s (pc' := 15) rfl rfl ?_
    refine zw_isub (pc' := 16) rfl rfl ?_
    refine zw_pI (q := 56) (pc' := 19) W rfl rfl rfl rfl rfl rfl ?_
    refine zw_ld (n := 1) (k := 0) (f := zp_isR) (pc' := 20) rfl rfl rfl rfl rfl ?_
    refine zw_gR (q := 56) (pc' := 23) (zw_W_I W) rfl rfl rfl rfl ((zw_W_I W).2 56 1 _ rfl) rfl ?_
    refine zw_ld (n := 1) (k := 0) (f := zp_isR) (pc' := 24) rfl rfl rfl rfl rfl ?_
    refine zw_gI (q := 56) (pc' := 27) (zw_W_I W) rfl rfl rfl rfl zw_eq rfl ?_
    refine zw_ia (q := 58) (pc' := 28) (zw_W_I W) rfl rfl (by decide) (⟨by omega, by show _ < ((64 : Nat) : Int); omega⟩) (zw_ne rfl rfl) rfl ?_
    refine zw_ri rfl rfl ?_
    rfl
  · have h1 : (H.2.1 56 2).toInt ≤ 0 := h1
    omega

theorem xh_j4 {L : Nat} {σ : Nat → Int32} {d : Nat} {H : zp_H} {x z : Int32} : zp_Call L σ (d + 1) 44 [.inl x, .inl (Int32.ofInt 9), .inl z] H (.inl (some (.inl (xJn 4 x z))), H) := by
  refine zw_ex (zw_met zm_44_t rfl rfl ?_)
  refine zw_ld (n := 1) (k := 1) (f := zp_isI) (pc' := 1) rfl rfl rfl rfl rfl ?_
  refine zw_s (pc' := 114) rfl rfl ?_
  refine zw_ld (n := 1) (k := 0) (f := zp_isI) (pc' := 115) rfl rfl rfl rfl rfl ?_
  refine zw_beq1 (g := 126) (pc' := 118) rfl rfl rfl rfl (fun h1 => ?_) (fun h1 => ?_)
  · refine zw_s (pc' := 127) rfl rfl ?_
    refine zw_ri rfl rfl ?_
    exact x_rv (if_neg (fun h9 => h9.1 h1)).symm
  · refine zw_ld (n := 1) (k := 2) (f := zp_isI) (pc' := 119) rfl rfl rfl rfl rfl ?_
    refine zw_beq1 (g := 126) (pc' := 122) rfl rfl rfl rfl (fun h2 => ?_) (fun h2 => ?_)
    · refine zw_s (pc' := 127) rfl rfl ?_
      refine zw_ri rfl rfl ?_
      exact x_rv (if_neg (fun h9 => h9.2 h2)).symm
    · refine zw_s (pc' := 123) rfl rfl ?_
      refine zw_s (pc' := 127) rfl rfl ?_
      refine zw_ri rfl rfl ?_
      exact x_rv (if_pos ⟨h1, h2⟩).symm

theorem xh_j5 {L : Nat} {σ : Nat → Int32} {d : Nat} {H : zp_H} {x z : Int32} : zp_Call L σ (d + 1) 44 [.inl x, .inl (Int32.ofInt 8), .inl z] H (.inl (some (.inl (xJn 5 x z))), H) := by
  refine zw_ex (zw_met zm_44_t rfl rfl ?_)
  refine zw_ld (n := 1) (k := 1) (f := zp_isI) (pc' := 1) rfl rfl rfl rfl rfl ?_
  refine zw_s (pc' := 128) rfl rfl ?_
  refine zw_ld (n := 1) (k := 0) (f := zp_isI) (pc' := 129) rfl rfl rfl rfl rfl ?_
  refine zw_bne1 (g := 136) (pc' := 132) rfl rfl rfl rfl (fun h1 => ?_) (fun h1 => ?_)
  · refine zw_s (pc' := 137) rfl rfl ?_
    refine zw_s (pc' := 141) rfl rfl ?_
    refine zw_ri rfl rfl ?_
    exact x_rv (if_pos (Or.inl h1)).symm
  · refine zw_ld (n := 1) (k := 2) (f := zp_isI) (pc' := 133) rfl rfl rfl rfl rfl ?_
    refine zw_beq1 (g := 140) (pc' := 136) rfl rfl rfl rfl (fun h2 => ?_) (fun h2 => ?_)
    · refine zw_s (pc' := 141) rfl rfl ?_
      refine zw_ri rfl rfl ?_
      exact x_rv (if_neg (fun h9 => h9.elim (fun h8 => h8 h1) (fun h8 => h8 h2))).symm
    · refine zw_s (pc' := 137) rfl rfl ?_
      refine zw_s (pc' := 141) rfl rfl ?_
      refine zw_ri rfl rfl ?_
      exact x_rv (if_pos (Or.inr h2)).symm

theorem xh_j6 {L : Nat} {σ : Nat → Int32} {d : Nat} {H : zp_H} {x z : Int32} : zp_Call L σ (d + 1) 44 [.inl x, .inl (Int32.ofInt 60), .inl z] H (.inl (some (.inl (xJn 6 x z))), H) := by
  refine zw_ex (zw_met zm_44_t rfl rfl ?_)
  refine zw_ld (n := 1) (k := 1) (f := zp_isI) (pc' := 1) rfl rfl rfl rfl rfl ?_
  refine zw_s (pc' := 92) rfl rfl ?_
  refine zw_ld (n := 1) (k := 0) (f := zp_isI) (pc' := 93) rfl rfl rfl rfl rfl ?_
  refine zw_ld (n := 1) (k := 2) (f := zp_isI) (pc' := 94) rfl rfl rfl rfl rfl ?_
  refine zw_bge2 (g := 101) (pc' := 97) rfl rfl rfl rfl rfl (fun h1 => ?_) (fun h1 => ?_)
  · refine zw_s (pc' := 102) rfl rfl ?_
    refine zw_ri rfl rfl ?_
    exact x_rv (if_neg (show ¬ (x.toInt < z.toInt) by omega)).symm
  · refine zw_s (pc' := 98) rfl rfl ?_
    refine zw_s (pc' := 102) rfl rfl ?_
    refine zw_ri rfl rfl ?_
    exact x_rv (if_pos (show x.toInt < z.toInt by omega)).symm

theorem xh_j7 {L : Nat} {σ : Nat → Int32} {d : Nat} {H : zp_H} {x z : Int32} : zp_Call L σ (d + 1) 44 [.inl x, .inl (Int32.ofInt 61), .inl z] H (.inl (some (.inl (xJn 7 x z))), H) := by
  refine zw_ex (zw_met zm_44_t rfl rfl ?_)
  refine zw_ld (n := 1) (k := 1) (f := zp_isI) (pc' := 1) rfl rfl rfl rfl rfl ?_
  refine zw_s (pc' := 103) rfl rfl ?_
  refine zw_ld (n := 1) (k := 0) (f := zp_isI) (pc' := 104) rfl rfl rfl rfl rfl ?_
  refine zw_ld (n := 1) (k := 2) (f := zp_isI) (pc' := 105) rfl rfl rfl rfl rfl ?_
  refine zw_bne2 (g := 112) (pc' := 108) rfl rfl rfl rfl rfl (fun h1 => ?_) (fun h1 => ?_)
  · refine zw_s (pc' := 113) rfl rfl ?_
    refine zw_ri rfl rfl ?_
    exact x_rv (if_neg (show ¬ (x.toInt = z.toInt) by omega)).symm
  · refine zw_s (pc' := 109) rfl rfl ?_
    refine zw_s (pc' := 113) rfl rfl ?_
    refine zw_ri rfl rfl ?_
    exact x_rv (if_pos (show x.toInt = z.toInt by omega)).symm

theorem xh_j8 {L : Nat} {σ : Nat → Int32} {d : Nat} {H : zp_H} {x z : Int32} : zp_Call L σ (d + 1) 44 [.inl x, .inl (Int32.ofInt 43), .inl z] H (.inl (some (.inl (xJn 8 x z))), H) := by
  refine zw_ex (zw_met zm_44_t rfl rfl ?_)
  refine zw_ld (n := 1) (k := 1) (f := zp_isI) (pc' := 1) rfl rfl rfl rfl rfl ?_
  refine zw_s (pc' := 68) rfl rfl ?_
  refine zw_ld (n := 1) (k := 0) (f := zp_isI) (pc' := 69) rfl rfl rfl rfl rfl ?_
  refine zw_ld (n := 1) (k := 2) (f := zp_isI) (pc' := 70) rfl rfl rfl rfl rfl ?_
  refine zw_iadd (pc' := 71) rfl rfl ?_
  refine zw_ri rfl rfl ?_
  rfl

theorem xh_j9 {L : Nat} {σ : Nat → Int32} {d : Nat} {H : zp_H} {x z : Int32} : zp_Call L σ (d + 1) 44 [.inl x, .inl (Int32.ofInt 45), .inl z] H (.inl (some (.inl (xJn 9 x z))), H) := by
  refine zw_ex (zw_met zm_44_t rfl rfl ?_)
  refine zw_ld (n := 1) (k := 1) (f := zp_isI) (pc' := 1) rfl rfl rfl rfl rfl ?_
  refine zw_s (pc' := 72) rfl rfl ?_
  refine zw_ld (n := 1) (k := 0) (f := zp_isI) (pc' := 73) rfl rfl rfl rfl rfl ?_
  refine zw_ld (n := 1) (k := 2) (f := zp_isI) (pc' := 74) rfl rfl rfl rfl rfl ?_
  refine zw_isub (pc' := 75) rfl rfl ?_
  refine zw_ri rfl rfl ?_
  rfl

theorem xh_j10 {L : Nat} {σ : Nat → Int32} {d : Nat} {H : zp_H} {x z : Int32} : zp_Call L σ (d + 1) 44 [.inl x, .inl (Int32.ofInt 42), .inl z] H (.inl (some (.inl (xJn 10 x z))), H) := by
  refine zw_ex (zw_met zm_44_t rfl rfl ?_)
  refine zw_ld (n := 1) (k := 1) (f := zp_isI) (pc' := 1) rfl rfl rfl rfl rfl ?_
  refine zw_s (pc' := 76) rfl rfl ?_
  refine zw_ld (n := 1) (k := 0) (f := zp_isI) (pc' := 77) rfl rfl rfl rfl rfl ?_
  refine zw_ld (n := 1) (k := 2) (f := zp_isI) (pc' := 78) rfl rfl rfl rfl rfl ?_
  refine zw_imul (pc' := 79) rfl rfl ?_
  refine zw_ri rfl rfl ?_
  rfl

theorem xh_j11 {L : Nat} {σ : Nat → Int32} {d : Nat} {H : zp_H} {x z : Int32} : zp_Call L σ (d + 1) 44 [.inl x, .inl (Int32.ofInt 47), .inl z] H (.inl (some (.inl (xJn 11 x z))), H) := by
  refine zw_ex (zw_met zm_44_t rfl rfl ?_)
  refine zw_ld (n := 1) (k := 1) (f := zp_isI) (pc' := 1) rfl rfl rfl rfl rfl ?_
  refine zw_s (pc' := 80) rfl rfl ?_
  refine zw_ld (n := 1) (k := 2) (f := zp_isI) (pc' := 81) rfl rfl rfl rfl rfl ?_
  refine zw_bne1 (g := 88) (pc' := 84) rfl rfl rfl rfl (fun h1 => ?_) (fun h1 => ?_)
  · have h1 : ¬ z.toInt = 0 := h1
    have hz : z ≠ 0 := fun h9 => h1 (by rw [h9]; rfl)
    refine zw_ld (n := 1) (k := 0) (f := zp_isI) (pc' := 89) rfl rfl rfl rfl rfl ?_
    refine zw_ld (n := 1) (k := 2) (f := zp_isI) (pc' := 90) rfl rfl rfl rfl rfl ?_
    refine zw_div (pc' := 91) rfl (hz) rfl ?_
    refine zw_ri rfl rfl ?_
    exact x_rv (if_neg h1).symm
  · refine zw_s (pc' := 85) rfl rfl ?_
    refine zw_s (pc' := 91) rfl rfl ?_
    refine zw_ri rfl rfl ?_
    exact x_rv (if_pos (show z.toInt = 0 from h1)).symm

theorem xh_jn {L : Nat} {σ : Nat → Int32} {d : Nat} {H : zp_H} {x y z : Int32} {a : Nat} (ha : 3 < a ∧ a < 12) (hy : y.toInt = -1 - xE2 (xAc a)) : zp_Call L σ (d + 1) 44 [.inl x, .inl y, .inl z] H (.inl (some (.inl (xJn a x z))), H) := by
  rcases (show a = 4 ∨ a = 5 ∨ a = 6 ∨ a = 7 ∨ a = 8 ∨ a = 9 ∨ a = 10 ∨ a = 11 by omega) with rfl | rfl | rfl | rfl | rfl | rfl | rfl | rfl
  · obtain rfl : y = Int32.ofInt 9 := Int32.toInt_inj.mp (hy.trans (by decide))
    exact xh_j4
  · obtain rfl : y = Int32.ofInt 8 := Int32.toInt_inj.mp (hy.trans (by decide))
    exact xh_j5
  · obtain rfl : y = Int32.ofInt 60 := Int32.toInt_inj.mp (hy.trans (by decide))
    exact xh_j6
  · obtain rfl : y = Int32.ofInt 61 := Int32.toInt_inj.mp (hy.trans (by decide))
    exact xh_j7
  · obtain rfl : y = Int32.ofInt 43 := Int32.toInt_inj.mp (hy.trans (by decide))
    exact xh_j8
  · obtain rfl : y = Int32.ofInt 45 := Int32.toInt_inj.mp (hy.trans (by decide))
    exact xh_j9
  · obtain rfl : y = Int32.ofInt 42 := Int32.toInt_inj.mp (hy.trans (by decide))
    exact xh_j10
  · obtain rfl : y = Int32.ofInt 47 := Int32.toInt_inj.mp (hy.trans (by decide))
    exact xh_j11
theorem x_nn {a : Int} : -1 - (-1 - a) = a := by omega
theorem x_t8 {a : Int} (h : 0 ≤ a) (h2 : a < 8) : a.toNat < 8 := by omega

theorem xh_woL2 {L : Nat} {σ : Nat → Int32} {d : Nat} {P : zp_X → Prop} {V : Nat → Int32} {to : Int32} {H0 : zp_H} (h7 : to.toInt ≤ 700) (hV : ∀ k, k < 8 → H0.2.1 59 k = V k) : ∀ (C : List xIt) (S : List Int32) (H : zp_H) (lv : zp_LV) (i : Int32), zw_W H → xFh H0 H → 0 ≤ i.toInt → i.toInt + (C.length : Int) = to.toInt → (∀ j t, C[j]? = some t → (H0.2.1 12 (i.toInt.toNat + j)).toInt = xE2 t) → (H.2.1 56 2).toInt = (S.length : Int) → xSk (H.2.1 58) S → xWf 64 C S.length → (xEv V C S).length ≠ 0 → S.length ≤ 64 → zp_get lv 0 = some (.inr (.inr (some 57))) → zp_get lv 1 = some (.inr (.inr (some 3))) → zp_get lv 3 = some (.inl to) → zp_get lv 4 = some (.inl i) → (∀ H1, zw_W H1 → xFh H0 H1 → P (.inl (some (.inl ((xEv V C S).headD (Int32.ofInt 0)))), H1)) → zs_Safe L σ P zm_41 [] (d + 2) (8, lv, [], H, (0, 0)) := by
  intro C
  induction C with
  | nil =>
    intro S H lv i W hF h5 hn hC h2 hk hw h0 hl l0 l1 l3 l4 hP
    refine zw_ld (n := 2) (k := 4) (f := zp_isI) (pc' := 10) rfl rfl l4 rfl rfl ?_
    refine zw_ld (n := 1) (k := 3) (f := zp_isI) (pc' := 11) rfl rfl l3 rfl rfl ?_
    refine zw_bge2 (g := 131) (pc' := 14) rfl rfl rfl rfl rfl (fun h1 => ?_) (fun h1 => ?_)
    · match S, h2, hk, hl with
      | v :: S, h2, hk, hl =>
        obtain ⟨p1, p2, p3, p4⟩ := xh_pp h2 hk (by omega)
        have h2 : (H.2.1 56 2).toInt = ((S.length + 1 : Nat) : Int) := h2
        have hl : S.length + 1 ≤ 64 := hl
        have q := xh_po (L := L) (σ := σ) (d := d + 1) W ⟨by omega, by omega⟩
        rw [p1] at q
        refine zw_ld (n := 1) (k := 0) (f := zp_isR) (pc' := 132) rfl rfl l0 rfl rfl ?_
        refine zw_c (pc' := 135) (zw_cv (q := 56) (Y := zm_43) W.1 rfl rfl zm_43_t rfl rfl) rfl rfl rfl rfl rfl (q) ?_
        refine zw_ri rfl rfl ?_
        exact hP _ (zw_W_I W) (xFh_t hF p4)
      | [], h2, hk, hl =>
        exact absurd rfl h0
    · have hn : i.toInt + ((0 : Nat) : Int) = to.toInt := hn
      omega
  | cons it C ih =>
    intro S H lv i W hF h5 hn hC h2 hk hw h0 hl l0 l1 l3 l4 hP
    have hw : (if it.1 < 2 then ((S.length : Int) + 1 ≤ 64 ∧ 0 ≤ it.2 ∧ it.2 ≤ 9999 ∧ (it.1 = 1 → it.2 < 8)) ∧ xWf 64 C ((S.length : Int) + 1) else if it.1 = 3 then 1 ≤ (S.length : Int) ∧ xWf 64 C S.length else (2 ≤ (S.length : Int) ∧ 3 < it.1 ∧ it.1 < 12) ∧ xWf 64 C ((S.length : Int) - 1)) := hw
    by_cases k0 : it.1 = 0
    · rw [if_pos (show it.1 < 2 by rw [k0]; decide)] at hw
      obtain ⟨⟨hw1, hw2, hw3, -⟩, hw5⟩ := hw
      refine zw_ld (n := 2) (k := 4) (f := zp_isI) (pc' := 10) rfl rfl l4 rfl rfl ?_
      refine zw_ld (n := 1) (k := 3) (f := zp_isI) (pc' := 11) rfl rfl l3 rfl rfl ?_
      refine zw_bge2 (g := 131) (pc' := 14) rfl rfl rfl rfl rfl (fun h1 => ?_) (fun h1 => ?_)
      · have hn : i.toInt + ((C.length + 1 : Nat) : Int) = to.toInt := hn
        omega
      · have hn : i.toInt + ((C.length + 1 : Nat) : Int) = to.toInt := hn
        have ei : (i + Int32.ofInt 1).toInt = i.toInt + 1 := zw_p1 (by omega)
        have hE : xIf True ((H.2.1 12 i.toInt.toNat).toInt = xE2 it) := fun _ => by
          rw [hF.2.2.1 12 _ (by decide) (fun h9 => absurd h9.1 (by decide))]
          exact hC 0 it rfl
        have yn : xIf True ((Int32.ofInt (-1) - H.2.1 12 i.toInt.toNat).toInt = -1 - (H.2.1 12 i.toInt.toNat).toInt) := fun _ => y_neg
        refine zw_ld (n := 2) (k := 4) (f := zp_isI) (pc' := 16) rfl rfl l4 rfl rfl ?_
        refine zw_ld (n := 1) (k := 1) (f := zp_isR) (pc' := 17) rfl rfl l1 rfl rfl ?_
        refine zw_gR (q := 2) (pc' := 20) W rfl rfl rfl rfl (W.2 2 19 _ rfl) rfl ?_
        refine zw_al (q := 12) (pc' := 21) W rfl rfl rfl ?_
        refine zw_bge2 (g := 131) (pc' := 24) rfl rfl rfl rfl (rfl : _ = (700 : Int)) (fun hb2 => ?_) (fun hb2 => ?_)
        · have hb2 : ((700 : Nat) : Int) ≤ i.toInt := hb2
          omega
        · refine zw_ld (n := 1) (k := 1) (f := zp_isR) (pc' := 25) rfl rfl l1 rfl rfl ?_
          refine zw_gR (q := 2) (pc' := 28) W rfl rfl rfl rfl (W.2 2 19 _ rfl) rfl ?_
          refine zw_ld (n := 2) (k := 4) (f := zp_isI) (pc' := 30) rfl rfl l4 rfl rfl ?_
          refine zw_ia (q := 12) (pc' := 31) W rfl rfl (by decide) (⟨h5, by show _ < ((700 : Nat) : Int); omega⟩) rfl rfl ?_
          refine zw_st (n := 2) (k := 5) (f := zp_isI) (pc' := 33) rfl rfl rfl rfl rfl ?_
          refine zw_s (pc' := 34) rfl rfl ?_
          refine zw_ld (n := 2) (k := 5) (f := zp_isI) (pc' := 36) rfl rfl zw_g1 rfl rfl ?_
          refine zw_isub (pc' := 37) rfl rfl ?_
          refine zw_st (n := 2) (k := 6) (f := zp_isI) (pc' := 39) rfl rfl rfl rfl rfl ?_
          refine zw_ld (n := 2) (k := 5) (f := zp_isI) (pc' := 41) rfl rfl (zw_gt zw_g1 rfl rfl) rfl rfl ?_
          refine zw_blt1 (g := 53) (pc' := 44) rfl rfl rfl rfl (fun h3 => ?_) (fun h3 => ?_)
          · have h3 : (H.2.1 12 i.toInt.toNat).toInt < 0 := h3
            have hE2 : (H.2.1 12 i.toInt.toNat).toInt = it.2 := (hE trivial).trans (if_pos k0)
            omega
          · have hE2 : (H.2.1 12 i.toInt.toNat).toInt = it.2 := (hE trivial).trans (if_pos k0)
            have ev : H.2.1 12 i.toInt.toNat = Int32.ofInt it.2 := Int32.toInt_inj.mp (by rw [hE2, x_of (by omega) (by omega)])
            rw [ev]
            obtain ⟨p1, p2, p3⟩ := xh_ps (x := Int32.ofInt it.2) h2 hk (by omega)
            refine zw_ld (n := 1) (k := 0) (f := zp_isR) (pc' := 45) rfl rfl (zw_gt (zw_gt l0 rfl rfl) rfl rfl) rfl rfl ?_
            refine zw_ld (n := 2) (k := 5) (f := zp_isI) (pc' := 47) rfl rfl (zw_gt zw_g1 rfl rfl) rfl rfl ?_
            refine zw_cn (pc' := 50) (zw_cv (q := 56) (Y := zm_42) W.1 rfl rfl zm_42_t rfl rfl) rfl rfl rfl rfl rfl (xh_pu (d := d + 1) W ⟨by omega, by omega⟩) ?_
            refine zw_s (pc' := 125) rfl rfl ?_
            refine zw_ii (pc' := 128) rfl (zw_gt (zw_gt l4 rfl rfl) rfl rfl) rfl rfl ?_
            refine zw_s (pc' := 8) rfl rfl ?_
            refine ih (Int32.ofInt it.2 :: S) _ _ (i + Int32.ofInt 1) (zw_W_I (zw_W_I W)) (xFh_t hF p3) (by omega) (by omega) (fun j t hj => ?_) p1 p2 ?_ ?_ ?_ (zw_gt (zw_gt (zw_gt l0 rfl rfl) rfl rfl) rfl rfl) (zw_gt (zw_gt (zw_gt l1 rfl rfl) rfl rfl) rfl rfl) (zw_gt (zw_gt (zw_gt l3 rfl rfl) rfl rfl) rfl rfl) zw_g1 (fun H1 w1 w2 => ?_)
            · rw [ei, show (i.toInt + 1).toNat + j = i.toInt.toNat + (j + 1) by omega]
              exact hC (j + 1) t hj
            · have e : ((Int32.ofInt it.2 :: S).length : Int) = (S.length : Int) + 1 := by
                show ((S.length + 1 : Nat) : Int) = _
                omega
              rw [e]
              exact hw5
            · rw [← xEv_0 k0]
              exact h0
            · show S.length + 1 ≤ 64
              omega
            · rw [xEv_0 k0] at hP
              exact hP H1 w1 w2
    by_cases k1 : it.1 = 1
    · rw [if_pos (show it.1 < 2 by rw [k1]; decide)] at hw
      obtain ⟨⟨hw1, hw2, hw3, hw4⟩, hw5⟩ := hw
      replace hw4 := hw4 k1
      refine zw_ld (n := 2) (k := 4) (f := zp_isI) (pc' := 10) rfl rfl l4 rfl rfl ?_
      refine zw_ld (n := 1) (k := 3) (f := zp_isI) (pc' := 11) rfl rfl l3 rfl rfl ?_
      refine zw_bge2 (g := 131) (pc' := 14) rfl rfl rfl rfl rfl (fun h1 => ?_) (fun h1 => ?_)
      · have hn : i.toInt + ((C.length + 1 : Nat) : Int) = to.toInt := hn
        omega
      · have hn : i.toInt + ((C.length + 1 : Nat) : Int) = to.toInt := hn
        have ei : (i + Int32.ofInt 1).toInt = i.toInt + 1 := zw_p1 (by omega)
        have hE : xIf True ((H.2.1 12 i.toInt.toNat).toInt = xE2 it) := fun _ => by
          rw [hF.2.2.1 12 _ (by decide) (fun h9 => absurd h9.1 (by decide))]
          exact hC 0 it rfl
        have yn : xIf True ((Int32.ofInt (-1) - H.2.1 12 i.toInt.toNat).toInt = -1 - (H.2.1 12 i.toInt.toNat).toInt) := fun _ => y_neg
        refine zw_ld (n := 2) (k := 4) (f := zp_isI) (pc' := 16) rfl rfl l4 rfl rfl ?_
        refine zw_ld (n := 1) (k := 1) (f := zp_isR) (pc' := 17) rfl rfl l1 rfl rfl ?_
        refine zw_gR (q := 2) (pc' := 20) W rfl rfl rfl rfl (W.2 2 19 _ rfl) rfl ?_
        refine zw_al (q := 12) (pc' := 21) W rfl rfl rfl ?_
        refine zw_bge2 (g := 131) (pc' := 24) rfl rfl rfl rfl (rfl : _ = (700 : Int)) (fun hb2 => ?_) (fun hb2 => ?_)
        · have hb2 : ((700 : Nat) : Int) ≤ i.toInt := hb2
          omega
        · refine zw_ld (n := 1) (k := 1) (f := zp_isR) (pc' := 25) rfl rfl l1 rfl rfl ?_
          refine zw_gR (q := 2) (pc' := 28) W rfl rfl rfl rfl (W.2 2 19 _ rfl) rfl ?_
          refine zw_ld (n := 2) (k := 4) (f := zp_isI) (pc' := 30) rfl rfl l4 rfl rfl ?_
          refine zw_ia (q := 12) (pc' := 31) W rfl rfl (by decide) (⟨h5, by show _ < ((700 : Nat) : Int); omega⟩) rfl rfl ?_
          refine zw_st (n := 2) (k := 5) (f := zp_isI) (pc' := 33) rfl rfl rfl rfl rfl ?_
          refine zw_s (pc' := 34) rfl rfl ?_
          refine zw_ld (n := 2) (k := 5) (f := zp_isI) (pc' := 36) rfl rfl zw_g1 rfl rfl ?_
          refine zw_isub (pc' := 37) rfl rfl ?_
          refine zw_st (n := 2) (k := 6) (f := zp_isI) (pc' := 39) rfl rfl rfl rfl rfl ?_
          refine zw_ld (n := 2) (k := 5) (f := zp_isI) (pc' := 41) rfl rfl (zw_gt zw_g1 rfl rfl) rfl rfl ?_
          refine zw_blt1 (g := 53) (pc' := 44) rfl rfl rfl rfl (fun h3 => ?_) (fun h3 => ?_)
          · have hE2 : (H.2.1 12 i.toInt.toNat).toInt = -1 - it.2 := (hE trivial).trans ((if_neg k0).trans (if_pos k1))
            refine zw_ld (n := 2) (k := 6) (f := zp_isI) (pc' := 55) rfl rfl zw_g1 rfl rfl ?_
            refine zw_s (pc' := 57) rfl rfl ?_
            refine zw_bge2 (g := 74) (pc' := 60) rfl rfl rfl rfl (rfl : _ = (8 : Int)) (fun h4 => ?_) (fun h4 => ?_)
            · have h4 : (8 : Int) ≤ (Int32.ofInt (-1) - H.2.1 12 i.toInt.toNat).toInt := h4
              rw [yn trivial, hE2, x_nn] at h4
              omega
            · have e9 : (Int32.ofInt (-1) - H.2.1 12 i.toInt.toNat).toInt = it.2 := by rw [yn trivial, hE2, x_nn]
              have ed : (Int32.ofInt (-1) - H.2.1 12 i.toInt.toNat).toInt.toNat = it.2.toNat := by rw [e9]
              have eV : H.2.1 59 (Int32.ofInt (-1) - H.2.1 12 i.toInt.toNat).toInt.toNat = V it.2.toNat := by
                rw [ed, hF.2.2.1 59 _ (by decide) (fun h9 => absurd h9.1 (by decide))]
                exact hV _ (x_t8 hw2 hw4)
              obtain ⟨p1, p2, p3⟩ := xh_ps (x := V it.2.toNat) h2 hk (by omega)
              refine zw_ld (n := 1) (k := 0) (f := zp_isR) (pc' := 61) rfl rfl (zw_gt (zw_gt l0 rfl rfl) rfl rfl) rfl rfl ?_
              refine zw_ld (n := 1) (k := 0) (f := zp_isR) (pc' := 62) rfl rfl (zw_gt (zw_gt l0 rfl rfl) rfl rfl) rfl rfl ?_
              refine zw_gR (q := 56) (pc' := 65) W rfl rfl rfl rfl (W.2 56 3 _ rfl) rfl ?_
              refine zw_ld (n := 2) (k := 6) (f := zp_isI) (pc' := 67) rfl rfl zw_g1 rfl rfl ?_
              refine zw_ia (q := 59) (pc' := 68) W rfl rfl (by decide) (⟨by rw [e9]; omega, by rw [e9]; show _ < ((8 : Nat) : Int); omega⟩) rfl rfl ?_
              rw [eV]
              refine zw_cn (pc' := 71) (zw_cv (q := 56) (Y := zm_42) W.1 rfl rfl zm_42_t rfl rfl) rfl rfl rfl rfl rfl (xh_pu (d := d + 1) W ⟨by omega, by omega⟩) ?_
              refine zw_s (pc' := 125) rfl rfl ?_
              refine zw_ii (pc' := 128) rfl (zw_gt (zw_gt l4 rfl rfl) rfl rfl) rfl rfl ?_
              refine zw_s (pc' := 8) rfl rfl ?_
              refine ih (V it.2.toNat :: S) _ _ (i + Int32.ofInt 1) (zw_W_I (zw_W_I W)) (xFh_t hF p3) (by omega) (by omega) (fun j t hj => ?_) p1 p2 ?_ ?_ ?_ (zw_gt (zw_gt (zw_gt l0 rfl rfl) rfl rfl) rfl rfl) (zw_gt (zw_gt (zw_gt l1 rfl rfl) rfl rfl) rfl rfl) (zw_gt (zw_gt (zw_gt l3 rfl rfl) rfl rfl) rfl rfl) zw_g1 (fun H1 w1 w2 => ?_)
              · rw [ei, show (i.toInt + 1).toNat + j = i.toInt.toNat + (j + 1) by omega]
                exact hC (j + 1) t hj
              · have e : ((V it.2.toNat :: S).length : Int) = (S.length : Int) + 1 := by
                  show ((S.length + 1 : Nat) : Int) = _
                  omega
                rw [e]
                exact hw5
              · rw [← xEv_1 k1]
                exact h0
              · show S.length + 1 ≤ 64
                omega
              · rw [xEv_1 k1] at hP
                exact hP H1 w1 w2
          · have h3 : 0 ≤ (H.2.1 12 i.toInt.toNat).toInt := h3
            have hE2 : (H.2.1 12 i.toInt.toNat).toInt = -1 - it.2 := (hE trivial).trans ((if_neg k0).trans (if_pos k1))
            omega
    have k2 : ¬ it.1 < 2 := by
      clear hw
      omega
    rw [if_neg k2] at hw
    by_cases k3 : it.1 = 3
    · rw [if_pos k3] at hw
      match S, h2, hk, hw, h0, hl, hP with
      | x :: S, h2, hk, hw, h0, hl, hP =>
        refine zw_ld (n := 2) (k := 4) (f := zp_isI) (pc' := 10) rfl rfl l4 rfl rfl ?_
        refine zw_ld (n := 1) (k := 3) (f := zp_isI) (pc' := 11) rfl rfl l3 rfl rfl ?_
        refine zw_bge2 (g := 131) (pc' := 14) rfl rfl rfl rfl rfl (fun h1 => ?_) (fun h1 => ?_)
        · have hn : i.toInt + ((C.length + 1 : Nat) : Int) = to.toInt := hn
          omega
        · have hn : i.toInt + ((C.length + 1 : Nat) : Int) = to.toInt := hn
          have ei : (i + Int32.ofInt 1).toInt = i.toInt + 1 := zw_p1 (by omega)
          have hE : xIf True ((H.2.1 12 i.toInt.toNat).toInt = xE2 it) := fun _ => by
            rw [hF.2.2.1 12 _ (by decide) (fun h9 => absurd h9.1 (by decide))]
            exact hC 0 it rfl
          have yn : xIf True ((Int32.ofInt (-1) - H.2.1 12 i.toInt.toNat).toInt = -1 - (H.2.1 12 i.toInt.toNat).toInt) := fun _ => y_neg
          refine zw_ld (n := 2) (k := 4) (f := zp_isI) (pc' := 16) rfl rfl l4 rfl rfl ?_
          refine zw_ld (n := 1) (k := 1) (f := zp_isR) (pc' := 17) rfl rfl l1 rfl rfl ?_
          refine zw_gR (q := 2) (pc' := 20) W rfl rfl rfl rfl (W.2 2 19 _ rfl) rfl ?_
          refine zw_al (q := 12) (pc' := 21) W rfl rfl rfl ?_
          refine zw_bge2 (g := 131) (pc' := 24) rfl rfl rfl rfl (rfl : _ = (700 : Int)) (fun hb2 => ?_) (fun hb2 => ?_)
          · have hb2 : ((700 : Nat) : Int) ≤ i.toInt := hb2
            omega
          · refine zw_ld (n := 1) (k := 1) (f := zp_isR) (pc' := 25) rfl rfl l1 rfl rfl ?_
            refine zw_gR (q := 2) (pc' := 28) W rfl rfl rfl rfl (W.2 2 19 _ rfl) rfl ?_
            refine zw_ld (n := 2) (k := 4) (f := zp_isI) (pc' := 30) rfl rfl l4 rfl rfl ?_
            refine zw_ia (q := 12) (pc' := 31) W rfl rfl (by decide) (⟨h5, by show _ < ((700 : Nat) : Int); omega⟩) rfl rfl ?_
            refine zw_st (n := 2) (k := 5) (f := zp_isI) (pc' := 33) rfl rfl rfl rfl rfl ?_
            refine zw_s (pc' := 34) rfl rfl ?_
            refine zw_ld (n := 2) (k := 5) (f := zp_isI) (pc' := 36) rfl rfl zw_g1 rfl rfl ?_
            refine zw_isub (pc' := 37) rfl rfl ?_
            refine zw_st (n := 2) (k := 6) (f := zp_isI) (pc' := 39) rfl rfl rfl rfl rfl ?_
            refine zw_ld (n := 2) (k := 5) (f := zp_isI) (pc' := 41) rfl rfl (zw_gt zw_g1 rfl rfl) rfl rfl ?_
            refine zw_blt1 (g := 53) (pc' := 44) rfl rfl rfl rfl (fun h3 => ?_) (fun h3 => ?_)
            · have hE2 : (H.2.1 12 i.toInt.toNat).toInt = -11 := (hE trivial).trans ((if_neg k0).trans ((if_neg k1).trans (if_pos k3)))
              refine zw_ld (n := 2) (k := 6) (f := zp_isI) (pc' := 55) rfl rfl zw_g1 rfl rfl ?_
              refine zw_s (pc' := 57) rfl rfl ?_
              refine zw_bge2 (g := 74) (pc' := 60) rfl rfl rfl rfl (rfl : _ = (8 : Int)) (fun h4 => ?_) (fun h4 => ?_)
              · refine zw_ld (n := 2) (k := 6) (f := zp_isI) (pc' := 76) rfl rfl zw_g1 rfl rfl ?_
                refine zw_s (pc' := 78) rfl rfl ?_
                refine zw_bne2 (g := 100) (pc' := 81) rfl rfl rfl rfl (rfl : _ = (10 : Int)) (fun h5 => ?_) (fun h5 => ?_)
                · have h5 : ¬ (Int32.ofInt (-1) - H.2.1 12 i.toInt.toNat).toInt = (10 : Int) := h5
                  rw [yn trivial, hE2] at h5
                  omega
                · obtain ⟨p1, p2, p3, p4⟩ := xh_pp h2 hk hl
                  have h2 : (H.2.1 56 2).toInt = ((S.length + 1 : Nat) : Int) := h2
                  have hl : S.length + 1 ≤ 64 := hl
                  have q := xh_po (L := L) (σ := σ) (d := d + 1) W ⟨by omega, by omega⟩
                  rw [p1] at q
                  refine zw_ld (n := 1) (k := 0) (f := zp_isR) (pc' := 82) rfl rfl (zw_gt (zw_gt l0 rfl rfl) rfl rfl) rfl rfl ?_
                  refine zw_ld (n := 1) (k := 0) (f := zp_isR) (pc' := 83) rfl rfl (zw_gt (zw_gt l0 rfl rfl) rfl rfl) rfl rfl ?_
                  refine zw_c (pc' := 86) (zw_cv (q := 56) (Y := zm_43) W.1 rfl rfl zm_43_t rfl rfl) rfl rfl rfl rfl rfl (q) ?_
                  refine zw_bne1 (g := 93) (pc' := 89) rfl rfl rfl rfl (fun h6 => ?_) (fun h6 => ?_)
                  · obtain ⟨g1, g2, g3⟩ := xh_ps (H := (zw_I H 56 2 (H.2.1 56 2 - Int32.ofInt 1))) (x := (Int32.ofInt 0)) p2 p3 (by omega)
                    have ex : (if x.toInt = 0 then Int32.ofInt 1 else Int32.ofInt 0) = (Int32.ofInt 0) := if_neg h6
                    refine zw_s (pc' := 94) rfl rfl ?_
                    refine zw_cn (pc' := 97) (zw_cv (q := 56) (Y := zm_42) (zw_W_I W).1 rfl rfl zm_42_t rfl rfl) rfl rfl rfl rfl rfl (xh_pu (d := d + 1) (H := (zw_I H 56 2 (H.2.1 56 2 - Int32.ofInt 1))) (zw_W_I W) ⟨by omega, by omega⟩) ?_
                    refine zw_s (pc' := 125) rfl rfl ?_
                    refine zw_ii (pc' := 128) rfl (zw_gt (zw_gt l4 rfl rfl) rfl rfl) rfl rfl ?_
                    refine zw_s (pc' := 8) rfl rfl ?_
                    refine ih ((Int32.ofInt 0) :: S) _ _ (i + Int32.ofInt 1) (zw_W_I (zw_W_I (zw_W_I W))) (xFh_t hF (xFh_t p4 g3)) (by omega) (by omega) (fun j t hj => ?_) g1 g2 ?_ ?_ ?_ (zw_gt (zw_gt (zw_gt l0 rfl rfl) rfl rfl) rfl rfl) (zw_gt (zw_gt (zw_gt l1 rfl rfl) rfl rfl) rfl rfl) (zw_gt (zw_gt (zw_gt l3 rfl rfl) rfl rfl) rfl rfl) zw_g1 (fun H1 w1 w2 => ?_)
                    · rw [ei, show (i.toInt + 1).toNat + j = i.toInt.toNat + (j + 1) by omega]
                      exact hC (j + 1) t hj
                    · exact hw.2
                    · rw [← ex, ← xEv_3 k3]
                      exact h0
                    · exact hl
                    · rw [xEv_3 k3, ex] at hP
                      exact hP H1 w1 w2
                  · obtain ⟨g1, g2, g3⟩ := xh_ps (H := (zw_I H 56 2 (H.2.1 56 2 - Int32.ofInt 1))) (x := (Int32.ofInt 1)) p2 p3 (by omega)
                    have ex : (if x.toInt = 0 then Int32.ofInt 1 else Int32.ofInt 0) = (Int32.ofInt 1) := if_pos h6
                    refine zw_s (pc' := 90) rfl rfl ?_
                    refine zw_s (pc' := 94) rfl rfl ?_
                    refine zw_cn (pc' := 97) (zw_cv (q := 56) (Y := zm_42) (zw_W_I W).1 rfl rfl zm_42_t rfl rfl) rfl rfl rfl rfl rfl (xh_pu (d := d + 1) (H := (zw_I H 56 2 (H.2.1 56 2 - Int32.ofInt 1))) (zw_W_I W) ⟨by omega, by omega⟩) ?_
                    refine zw_s (pc' := 125) rfl rfl ?_
                    refine zw_ii (pc' := 128) rfl (zw_gt (zw_gt l4 rfl rfl) rfl rfl) rfl rfl ?_
                    refine zw_s (pc' := 8) rfl rfl ?_
                    refine ih ((Int32.ofInt 1) :: S) _ _ (i + Int32.ofInt 1) (zw_W_I (zw_W_I (zw_W_I W))) (xFh_t hF (xFh_t p4 g3)) (by omega) (by omega) (fun j t hj => ?_) g1 g2 ?_ ?_ ?_ (zw_gt (zw_gt (zw_gt l0 rfl rfl) rfl rfl) rfl rfl) (zw_gt (zw_gt (zw_gt l1 rfl rfl) rfl rfl) rfl rfl) (zw_gt (zw_gt (zw_gt l3 rfl rfl) rfl rfl) rfl rfl) zw_g1 (fun H1 w1 w2 => ?_)
                    · rw [ei, show (i.toInt + 1).toNat + j = i.toInt.toNat + (j + 1) by omega]
                      exact hC (j + 1) t hj
                    · exact hw.2
                    · rw [← ex, ← xEv_3 k3]
                      exact h0
                    · exact hl
                    · rw [xEv_3 k3, ex] at hP
                      exact hP H1 w1 w2
              · have h4 : (Int32.ofInt (-1) - H.2.1 12 i.toInt.toNat).toInt < (8 : Int) := h4
                rw [yn trivial, hE2] at h4
                omega
            · have h3 : 0 ≤ (H.2.1 12 i.toInt.toNat).toInt := h3
              have hE2 : (H.2.1 12 i.toInt.toNat).toInt = -11 := (hE trivial).trans ((if_neg k0).trans ((if_neg k1).trans (if_pos k3)))
              omega
      | [], h2, hk, hw, h0, hl, hP => exact absurd hw.1 (by decide)
    · rw [if_neg k3] at hw
      have k4 : 3 < it.1 := hw.1.2.1
      match S, h2, hk, hw, h0, hl, hP with
      | y :: x :: S, h2, hk, hw, h0, hl, hP =>
        refine zw_ld (n := 2) (k := 4) (f := zp_isI) (pc' := 10) rfl rfl l4 rfl rfl ?_
        refine zw_ld (n := 1) (k := 3) (f := zp_isI) (pc' := 11) rfl rfl l3 rfl rfl ?_
        refine zw_bge2 (g := 131) (pc' := 14) rfl rfl rfl rfl rfl (fun h1 => ?_) (fun h1 => ?_)
        · have hn : i.toInt + ((C.length + 1 : Nat) : Int) = to.toInt := hn
          omega
        · have hn : i.toInt + ((C.length + 1 : Nat) : Int) = to.toInt := hn
          have ei : (i + Int32.ofInt 1).toInt = i.toInt + 1 := zw_p1 (by omega)
          have hE : xIf True ((H.2.1 12 i.toInt.toNat).toInt = xE2 it) := fun _ => by
            rw [hF.2.2.1 12 _ (by decide) (fun h9 => absurd h9.1 (by decide))]
            exact hC 0 it rfl
          have yn : xIf True ((Int32.ofInt (-1) - H.2.1 12 i.toInt.toNat).toInt = -1 - (H.2.1 12 i.toInt.toNat).toInt) := fun _ => y_neg
          refine zw_ld (n := 2) (k := 4) (f := zp_isI) (pc' := 16) rfl rfl l4 rfl rfl ?_
          refine zw_ld (n := 1) (k := 1) (f := zp_isR) (pc' := 17) rfl rfl l1 rfl rfl ?_
          refine zw_gR (q := 2) (pc' := 20) W rfl rfl rfl rfl (W.2 2 19 _ rfl) rfl ?_
          refine zw_al (q := 12) (pc' := 21) W rfl rfl rfl ?_
          refine zw_bge2 (g := 131) (pc' := 24) rfl rfl rfl rfl (rfl : _ = (700 : Int)) (fun hb2 => ?_) (fun hb2 => ?_)
          · have hb2 : ((700 : Nat) : Int) ≤ i.toInt := hb2
            omega
          · refine zw_ld (n := 1) (k := 1) (f := zp_isR) (pc' := 25) rfl rfl l1 rfl rfl ?_
            refine zw_gR (q := 2) (pc' := 28) W rfl rfl rfl rfl (W.2 2 19 _ rfl) rfl ?_
            refine zw_ld (n := 2) (k := 4) (f := zp_isI) (pc' := 30) rfl rfl l4 rfl rfl ?_
            refine zw_ia (q := 12) (pc' := 31) W rfl rfl (by decide) (⟨h5, by show _ < ((700 : Nat) : Int); omega⟩) rfl rfl ?_
            refine zw_st (n := 2) (k := 5) (f := zp_isI) (pc' := 33) rfl rfl rfl rfl rfl ?_
            refine zw_s (pc' := 34) rfl rfl ?_
            refine zw_ld (n := 2) (k := 5) (f := zp_isI) (pc' := 36) rfl rfl zw_g1 rfl rfl ?_
            refine zw_isub (pc' := 37) rfl rfl ?_
            refine zw_st (n := 2) (k := 6) (f := zp_isI) (pc' := 39) rfl rfl rfl rfl rfl ?_
            refine zw_ld (n := 2) (k := 5) (f := zp_isI) (pc' := 41) rfl rfl (zw_gt zw_g1 rfl rfl) rfl rfl ?_
            refine zw_blt1 (g := 53) (pc' := 44) rfl rfl rfl rfl (fun h3 => ?_) (fun h3 => ?_)
            · have e0 : xIf True (xE2 it = xE2 (xAc it.1)) := fun _ => xE2_a k4
              have hE2 : ∃ z : Int, (H.2.1 12 i.toInt.toNat).toInt = z ∧ -62 ≤ z ∧ z ≤ -9 ∧ z ≠ -11 := by
                refine ⟨xE2 (xAc it.1), (hE trivial).trans (e0 trivial), ?_⟩
                obtain ⟨hw1, hw2⟩ := hw
                rcases (show it.1 = 4 ∨ it.1 = 5 ∨ it.1 = 6 ∨ it.1 = 7 ∨ it.1 = 8 ∨ it.1 = 9 ∨ it.1 = 10 ∨ it.1 = 11 by omega) with e | e | e | e | e | e | e | e <;> rw [e] <;> decide
              obtain ⟨z9, z1, z2, z3, z4⟩ := hE2
              refine zw_ld (n := 2) (k := 6) (f := zp_isI) (pc' := 55) rfl rfl zw_g1 rfl rfl ?_
              refine zw_s (pc' := 57) rfl rfl ?_
              refine zw_bge2 (g := 74) (pc' := 60) rfl rfl rfl rfl (rfl : _ = (8 : Int)) (fun h4 => ?_) (fun h4 => ?_)
              · refine zw_ld (n := 2) (k := 6) (f := zp_isI) (pc' := 76) rfl rfl zw_g1 rfl rfl ?_
                refine zw_s (pc' := 78) rfl rfl ?_
                refine zw_bne2 (g := 100) (pc' := 81) rfl rfl rfl rfl (rfl : _ = (10 : Int)) (fun h5 => ?_) (fun h5 => ?_)
                · obtain ⟨p1, p2, p3, p4⟩ := xh_pp h2 hk hl
                  obtain ⟨r1, r2, r3, r4⟩ := xh_pp p2 p3 (by have hl : S.length + 1 + 1 ≤ 64 := hl; show S.length + 1 ≤ 64; omega)
                  have h2 : (H.2.1 56 2).toInt = ((S.length + 1 + 1 : Nat) : Int) := h2
                  have hl : S.length + 1 + 1 ≤ 64 := hl
                  have p2 : ((zw_I H 56 2 (H.2.1 56 2 - Int32.ofInt 1)).2.1 56 2).toInt = ((S.length + 1 : Nat) : Int) := p2
                  have q := xh_po (L := L) (σ := σ) (d := d + 1) W ⟨by omega, by omega⟩
                  rw [p1] at q
                  have qq := xh_po (L := L) (σ := σ) (d := d + 1) (H := (zw_I H 56 2 (H.2.1 56 2 - Int32.ofInt 1))) (zw_W_I W) ⟨by omega, by omega⟩
                  rw [r1] at qq
                  obtain ⟨g1, g2, g3⟩ := xh_ps (H := (zw_I (zw_I H 56 2 (H.2.1 56 2 - Int32.ofInt 1)) 56 2 ((zw_I H 56 2 (H.2.1 56 2 - Int32.ofInt 1)).2.1 56 2 - Int32.ofInt 1))) (x := xJn it.1 x y) r2 r3 (by omega)
                  refine zw_ld (n := 1) (k := 0) (f := zp_isR) (pc' := 101) rfl rfl (zw_gt (zw_gt l0 rfl rfl) rfl rfl) rfl rfl ?_
                  refine zw_c (pc' := 104) (zw_cv (q := 56) (Y := zm_43) W.1 rfl rfl zm_43_t rfl rfl) rfl rfl rfl rfl rfl (q) ?_
                  refine zw_st (n := 2) (k := 7) (f := zp_isI) (pc' := 106) rfl rfl rfl rfl rfl ?_
                  refine zw_ld (n := 1) (k := 0) (f := zp_isR) (pc' := 107) rfl rfl (zw_gt (zw_gt (zw_gt l0 rfl rfl) rfl rfl) rfl rfl) rfl rfl ?_
                  refine zw_c (pc' := 110) (zw_cv (q := 56) (Y := zm_43) (zw_W_I W).1 rfl rfl zm_43_t rfl rfl) rfl rfl rfl rfl rfl (qq) ?_
                  refine zw_st (n := 2) (k := 8) (f := zp_isI) (pc' := 112) rfl rfl rfl rfl rfl ?_
                  refine zw_ld (n := 1) (k := 0) (f := zp_isR) (pc' := 113) rfl rfl (zw_gt (zw_gt (zw_gt (zw_gt l0 rfl rfl) rfl rfl) rfl rfl) rfl rfl) rfl rfl ?_
                  refine zw_ld (n := 2) (k := 8) (f := zp_isI) (pc' := 115) rfl rfl zw_g1 rfl rfl ?_
                  refine zw_ld (n := 2) (k := 6) (f := zp_isI) (pc' := 117) rfl rfl (zw_gt (zw_gt zw_g1 rfl rfl) rfl rfl) rfl rfl ?_
                  refine zw_ld (n := 2) (k := 7) (f := zp_isI) (pc' := 119) rfl rfl (zw_gt zw_g1 rfl rfl) rfl rfl ?_
                  refine zw_c (pc' := 122) (zw_cs (Y := zm_44) rfl rfl zm_44_t) rfl rfl rfl rfl rfl (xh_jn (d := d + 1) (H := (zw_I (zw_I H 56 2 (H.2.1 56 2 - Int32.ofInt 1)) 56 2 ((zw_I H 56 2 (H.2.1 56 2 - Int32.ofInt 1)).2.1 56 2 - Int32.ofInt 1))) (a := it.1) hw.1.2 (by rw [yn trivial, hE trivial, e0 trivial])) ?_
                  refine zw_cn (pc' := 125) (zw_cv (q := 56) (Y := zm_42) (zw_W_I (zw_W_I W)).1 rfl rfl zm_42_t rfl rfl) rfl rfl rfl rfl rfl (xh_pu (d := d + 1) (H := (zw_I (zw_I H 56 2 (H.2.1 56 2 - Int32.ofInt 1)) 56 2 ((zw_I H 56 2 (H.2.1 56 2 - Int32.ofInt 1)).2.1 56 2 - Int32.ofInt 1))) (zw_W_I (zw_W_I W)) ⟨by omega, by omega⟩) ?_
                  refine zw_ii (pc' := 128) rfl (zw_gt (zw_gt (zw_gt (zw_gt l4 rfl rfl) rfl rfl) rfl rfl) rfl rfl) rfl rfl ?_
                  refine zw_s (pc' := 8) rfl rfl ?_
                  refine ih (xJn it.1 x y :: S) _ _ (i + Int32.ofInt 1) (zw_W_I (zw_W_I (zw_W_I (zw_W_I W)))) (xFh_t hF (xFh_t p4 (xFh_t r4 g3))) (by omega) (by omega) (fun j t hj => ?_) g1 g2 ?_ ?_ ?_ (zw_gt (zw_gt (zw_gt (zw_gt (zw_gt l0 rfl rfl) rfl rfl) rfl rfl) rfl rfl) rfl rfl) (zw_gt (zw_gt (zw_gt (zw_gt (zw_gt l1 rfl rfl) rfl rfl) rfl rfl) rfl rfl) rfl rfl) (zw_gt (zw_gt (zw_gt (zw_gt (zw_gt l3 rfl rfl) rfl rfl) rfl rfl) rfl rfl) rfl rfl) zw_g1 (fun H1 w1 w2 => ?_)
                  · rw [ei, show (i.toInt + 1).toNat + j = i.toInt.toNat + (j + 1) by omega]
                    exact hC (j + 1) t hj
                  · have e : ((xJn it.1 x y :: S).length : Int) = ((y :: x :: S).length : Int) - 1 := by
                      show ((S.length + 1 : Nat) : Int) = ((S.length + 1 + 1 : Nat) : Int) - 1
                      omega
                    rw [e]
                    exact hw.2
                  · rw [← xEv_4 k4]
                    exact h0
                  · show S.length + 1 ≤ 64
                    omega
                  · rw [xEv_4 k4] at hP
                    exact hP H1 w1 w2
                · have h5 : (Int32.ofInt (-1) - H.2.1 12 i.toInt.toNat).toInt = (10 : Int) := h5
                  rw [yn trivial, z1] at h5
                  omega
              · have h4 : (Int32.ofInt (-1) - H.2.1 12 i.toInt.toNat).toInt < (8 : Int) := h4
                rw [yn trivial, z1] at h4
                omega
            · have h3 : 0 ≤ (H.2.1 12 i.toInt.toNat).toInt := h3
              have e0 : xIf True (xE2 it = xE2 (xAc it.1)) := fun _ => xE2_a k4
              have hE2 : ∃ z : Int, (H.2.1 12 i.toInt.toNat).toInt = z ∧ -62 ≤ z ∧ z ≤ -9 ∧ z ≠ -11 := by
                refine ⟨xE2 (xAc it.1), (hE trivial).trans (e0 trivial), ?_⟩
                obtain ⟨hw1, hw2⟩ := hw
                rcases (show it.1 = 4 ∨ it.1 = 5 ∨ it.1 = 6 ∨ it.1 = 7 ∨ it.1 = 8 ∨ it.1 = 9 ∨ it.1 = 10 ∨ it.1 = 11 by omega) with e | e | e | e | e | e | e | e <;> rw [e] <;> decide
              obtain ⟨z9, z1, z2, z3, z4⟩ := hE2
              omega
      | [x], h2, hk, hw, h0, hl, hP =>
        have h9 : (2 : Int) ≤ ((1 : Nat) : Int) := hw.1.1
        omega
      | [], h2, hk, hw, h0, hl, hP => exact absurd hw.1.1 (by decide)

theorem xh_wo2 {L : Nat} {σ : Nat → Int32} {d : Nat} {V : Nat → Int32} {from9 to : Int32} {C : List xIt} {H : zp_H} (W : zw_W H) (h7 : to.toInt ≤ 700) (hV : ∀ k, k < 8 → H.2.1 59 k = V k) (h5 : 0 ≤ from9.toInt) (hn : from9.toInt + (C.length : Int) = to.toInt) (hC : ∀ j t, C[j]? = some t → (H.2.1 12 (from9.toInt.toNat + j)).toInt = xE2 t) (hO : xOp 37 C) : ∃ X, zp_Call L σ (d + 3) 41 [.inr (.inr (some 57)), .inr (.inr (some 3)), .inl from9, .inl to] H X ∧ ∃ H1, X = (.inl (some (.inl (xWo V C))), H1) ∧ zw_W H1 ∧ xFh H H1 := by
  refine zw_met zm_41_t rfl rfl ?_
  refine zw_ld (n := 1) (k := 0) (f := zp_isR) (pc' := 1) rfl rfl rfl rfl rfl ?_
  refine zw_s (pc' := 2) rfl rfl ?_
  refine zw_pI (q := 56) (pc' := 5) W rfl rfl rfl rfl rfl rfl ?_
  refine zw_ld (n := 1) (k := 2) (f := zp_isI) (pc' := 6) rfl rfl rfl rfl rfl ?_
  refine zw_st (n := 2) (k := 4) (f := zp_isI) (pc' := 8) rfl rfl rfl rfl rfl ?_
  refine xh_woL2 h7 hV C [] _ _ from9 (zw_W_I W) xFh_56 h5 hn hC ((congrArg Int32.toInt zw_eq).trans (by decide)) trivial (xWf_m (by decide) (hO 0 (Int.le_refl _)).2) (by rw [xEv_w hO]; exact Nat.one_ne_zero) (Nat.zero_le _) (zw_gt rfl rfl rfl) (zw_gt rfl rfl rfl) (zw_gt rfl rfl rfl) zw_g1 (fun H1 w1 w2 => ⟨H1, rfl, w1, w2⟩)

theorem xh_woL22 {L : Nat} {σ : Nat → Int32} {d : Nat} {P : zp_X → Prop} {V : Nat → Int32} {to : Int32} {H0 : zp_H} (h7 : to.toInt ≤ 700) (hV : ∀ k, k < 8 → H0.2.1 59 k = V k) : ∀ (C : List xIt) (S : List Int32) (H : zp_H) (lv : zp_LV) (i : Int32), zw_W H → xFh H0 H → 0 ≤ i.toInt → i.toInt + (C.length : Int) = to.toInt → (∀ j t, C[j]? = some t → (H0.2.1 32 (i.toInt.toNat + j)).toInt = xE2 t) → (H.2.1 56 2).toInt = (S.length : Int) → xSk (H.2.1 58) S → xWf 64 C S.length → (xEv V C S).length ≠ 0 → S.length ≤ 64 → zp_get lv 0 = some (.inr (.inr (some 57))) → zp_get lv 1 = some (.inr (.inr (some 23))) → zp_get lv 3 = some (.inl to) → zp_get lv 4 = some (.inl i) → (∀ H1, zw_W H1 → xFh H0 H1 → P (.inl (some (.inl ((xEv V C S).headD (Int32.ofInt 0)))), H1)) → zs_Safe L σ P zm_41 [] (d + 2) (8, lv, [], H, (0, 0)) := by
  intro C
  induction C with
  | nil =>
    intro S H lv i W hF h5 hn hC h2 hk hw h0 hl l0 l1 l3 l4 hP
    refine zw_ld (n := 2) (k := 4) (f := zp_isI) (pc' := 10) rfl rfl l4 rfl rfl ?_
    refine zw_ld (n := 1) (k := 3) (f := zp_isI) (pc' := 11) rfl rfl l3 rfl rfl ?_
    refine zw_bge2 (g := 131) (pc' := 14) rfl rfl rfl rfl rfl (fun h1 => ?_) (fun h1 => ?_)
    · match S, h2, hk, hl with
      | v :: S, h2, hk, hl =>
        obtain ⟨p1, p2, p3, p4⟩ := xh_pp h2 hk (by omega)
        have h2 : (H.2.1 56 2).toInt = ((S.length + 1 : Nat) : Int) := h2
        have hl : S.length + 1 ≤ 64 := hl
        have q := xh_po (L := L) (σ := σ) (d := d + 1) W ⟨by omega, by omega⟩
        rw [p1] at q
        refine zw_ld (n := 1) (k := 0) (f := zp_isR) (pc' := 132) rfl rfl l0 rfl rfl ?_
        refine zw_c (pc' := 135) (zw_cv (q := 56) (Y := zm_43) W.1 rfl rfl zm_43_t rfl rfl) rfl rfl rfl rfl rfl (q) ?_
        refine zw_ri rfl rfl ?_
        exact hP _ (zw_W_I W) (xFh_t hF p4)
      | [], h2, hk, hl =>
        exact absurd rfl h0
    · have hn : i.toInt + ((0 : Nat) : Int) = to.toInt := hn
      omega
  | cons it C ih =>
    intro S H lv i W hF h5 hn hC h2 hk hw h0 hl l0 l1 l3 l4 hP
    have hw : (if it.1 < 2 then ((S.length : Int) + 1 ≤ 64 ∧ 0 ≤ it.2 ∧ it.2 ≤ 9999 ∧ (it.1 = 1 → it.2 < 8)) ∧ xWf 64 C ((S.length : Int) + 1) else if it.1 = 3 then 1 ≤ (S.length : Int) ∧ xWf 64 C S.length else (2 ≤ (S.length : Int) ∧ 3 < it.1 ∧ it.1 < 12) ∧ xWf 64 C ((S.length : Int) - 1)) := hw
    by_cases k0 : it.1 = 0
    · rw [if_pos (show it.1 < 2 by rw [k0]; decide)] at hw
      obtain ⟨⟨hw1, hw2, hw3, -⟩, hw5⟩ := hw
      refine zw_ld (n := 2) (k := 4) (f := zp_isI) (pc' := 10) rfl rfl l4 rfl rfl ?_
      refine zw_ld (n := 1) (k := 3) (f := zp_isI) (pc' := 11) rfl rfl l3 rfl rfl ?_
      refine zw_bge2 (g := 131) (pc' := 14) rfl rfl rfl rfl rfl (fun h1 => ?_) (fun h1 => ?_)
      · have hn : i.toInt + ((C.length + 1 : Nat) : Int) = to.toInt := hn
        omega
      · have hn : i.toInt + ((C.length + 1 : Nat) : Int) = to.toInt := hn
        have ei : (i + Int32.ofInt 1).toInt = i.toInt + 1 := zw_p1 (by omega)
        have hE : xIf True ((H.2.1 32 i.toInt.toNat).toInt = xE2 it) := fun _ => by
          rw [hF.2.2.1 32 _ (by decide) (fun h9 => absurd h9.1 (by decide))]
          exact hC 0 it rfl
        have yn : xIf True ((Int32.ofInt (-1) - H.2.1 32 i.toInt.toNat).toInt = -1 - (H.2.1 32 i.toInt.toNat).toInt) := fun _ => y_neg
        refine zw_ld (n := 2) (k := 4) (f := zp_isI) (pc' := 16) rfl rfl l4 rfl rfl ?_
        refine zw_ld (n := 1) (k := 1) (f := zp_isR) (pc' := 17) rfl rfl l1 rfl rfl ?_
        refine zw_gR (q := 22) (pc' := 20) W rfl rfl rfl rfl (W.2 22 19 _ rfl) rfl ?_
        refine zw_al (q := 32) (pc' := 21) W rfl rfl rfl ?_
        refine zw_bge2 (g := 131) (pc' := 24) rfl rfl rfl rfl (rfl : _ = (700 : Int)) (fun hb2 => ?_) (fun hb2 => ?_)
        · have hb2 : ((700 : Nat) : Int) ≤ i.toInt := hb2
          omega
        · refine zw_ld (n := 1) (k := 1) (f := zp_isR) (pc' := 25) rfl rfl l1 rfl rfl ?_
          refine zw_gR (q := 22) (pc' := 28) W rfl rfl rfl rfl (W.2 22 19 _ rfl) rfl ?_
          refine zw_ld (n := 2) (k := 4) (f := zp_isI) (pc' := 30) rfl rfl l4 rfl rfl ?_
          refine zw_ia (q := 32) (pc' := 31) W rfl rfl (by decide) (⟨h5, by show _ < ((700 : Nat) : Int); omega⟩) rfl rfl ?_
          refine zw_st (n := 2) (k := 5) (f := zp_isI) (pc' := 33) rfl rfl rfl rfl rfl ?_
          refine zw_s (pc' := 34) rfl rfl ?_
          refine zw_ld (n := 2) (k := 5) (f := zp_isI) (pc' := 36) rfl rfl zw_g1 rfl rfl ?_
          refine zw_isub (pc' := 37) rfl rfl ?_
          refine zw_st (n := 2) (k := 6) (f := zp_isI) (pc' := 39) rfl rfl rfl rfl rfl ?_
          refine zw_ld (n := 2) (k := 5) (f := zp_isI) (pc' := 41) rfl rfl (zw_gt zw_g1 rfl rfl) rfl rfl ?_
          refine zw_blt1 (g := 53) (pc' := 44) rfl rfl rfl rfl (fun h3 => ?_) (fun h3 => ?_)
          · have h3 : (H.2.1 32 i.toInt.toNat).toInt < 0 := h3
            have hE2 : (H.2.1 32 i.toInt.toNat).toInt = it.2 := (hE trivial).trans (if_pos k0)
            omega
          · have hE2 : (H.2.1 32 i.toInt.toNat).toInt = it.2 := (hE trivial).trans (if_pos k0)
            have ev : H.2.1 32 i.toInt.toNat = Int32.ofInt it.2 := Int32.toInt_inj.mp (by rw [hE2, x_of (by omega) (by omega)])
            rw [ev]
            obtain ⟨p1, p2, p3⟩ := xh_ps (x := Int32.ofInt it.2) h2 hk (by omega)
            refine zw_ld (n := 1) (k := 0) (f := zp_isR) (pc' := 45) rfl rfl (zw_gt (zw_gt l0 rfl rfl) rfl rfl) rfl rfl ?_
            refine zw_ld (n := 2) (k := 5) (f := zp_isI) (pc' := 47) rfl rfl (zw_gt zw_g1 rfl rfl) rfl rfl ?_
            refine zw_cn (pc' := 50) (zw_cv (q := 56) (Y := zm_42) W.1 rfl rfl zm_42_t rfl rfl) rfl rfl rfl rfl rfl (xh_pu (d := d + 1) W ⟨by omega, by omega⟩) ?_
            refine zw_s (pc' := 125) rfl rfl ?_
            refine zw_ii (pc' := 128) rfl (zw_gt (zw_gt l4 rfl rfl) rfl rfl) rfl rfl ?_
            refine zw_s (pc' := 8) rfl rfl ?_
            refine ih (Int32.ofInt it.2 :: S) _ _ (i + Int32.ofInt 1) (zw_W_I (zw_W_I W)) (xFh_t hF p3) (by omega) (by omega) (fun j t hj => ?_) p1 p2 ?_ ?_ ?_ (zw_gt (zw_gt (zw_gt l0 rfl rfl) rfl rfl) rfl rfl) (zw_gt (zw_gt (zw_gt l1 rfl rfl) rfl rfl) rfl rfl) (zw_gt (zw_gt (zw_gt l3 rfl rfl) rfl rfl) rfl rfl) zw_g1 (fun H1 w1 w2 => ?_)
            · rw [ei, show (i.toInt + 1).toNat + j = i.toInt.toNat + (j + 1) by omega]
              exact hC (j + 1) t hj
            · have e : ((Int32.ofInt it.2 :: S).length : Int) = (S.length : Int) + 1 := by
                show ((S.length + 1 : Nat) : Int) = _
                omega
              rw [e]
              exact hw5
            · rw [← xEv_0 k0]
              exact h0
            · show S.length + 1 ≤ 64
              omega
            · rw [xEv_0 k0] at hP
              exact hP H1 w1 w2
    by_cases k1 : it.1 = 1
    · rw [if_pos (show it.1 < 2 by rw [k1]; decide)] at hw
      obtain ⟨⟨hw1, hw2, hw3, hw4⟩, hw5⟩ := hw
      replace hw4 := hw4 k1
      refine zw_ld (n := 2) (k := 4) (f := zp_isI) (pc' := 10) rfl rfl l4 rfl rfl ?_
      refine zw_ld (n := 1) (k := 3) (f := zp_isI) (pc' := 11) rfl rfl l3 rfl rfl ?_
      refine zw_bge2 (g := 131) (pc' := 14) rfl rfl rfl rfl rfl (fun h1 => ?_) (fun h1 => ?_)
      · have hn : i.toInt + ((C.length + 1 : Nat) : Int) = to.toInt := hn
        omega
      · have hn : i.toInt + ((C.length + 1 : Nat) : Int) = to.toInt := hn
        have ei : (i + Int32.ofInt 1).toInt = i.toInt + 1 := zw_p1 (by omega)
        have hE : xIf True ((H.2.1 32 i.toInt.toNat).toInt = xE2 it) := fun _ => by
          rw [hF.2.2.1 32 _ (by decide) (fun h9 => absurd h9.1 (by decide))]
          exact hC 0 it rfl
        have yn : xIf True ((Int32.ofInt (-1) - H.2.1 32 i.toInt.toNat).toInt = -1 - (H.2.1 32 i.toInt.toNat).toInt) := fun _ => y_neg
        refine zw_ld (n := 2) (k := 4) (f := zp_isI) (pc' := 16) rfl rfl l4 rfl rfl ?_
        refine zw_ld (n := 1) (k := 1) (f := zp_isR) (pc' := 17) rfl rfl l1 rfl rfl ?_
        refine zw_gR (q := 22) (pc' := 20) W rfl rfl rfl rfl (W.2 22 19 _ rfl) rfl ?_
        refine zw_al (q := 32) (pc' := 21) W rfl rfl rfl ?_
        refine zw_bge2 (g := 131) (pc' := 24) rfl rfl rfl rfl (rfl : _ = (700 : Int)) (fun hb2 => ?_) (fun hb2 => ?_)
        · have hb2 : ((700 : Nat) : Int) ≤ i.toInt := hb2
          omega
        · refine zw_ld (n := 1) (k := 1) (f := zp_isR) (pc' := 25) rfl rfl l1 rfl rfl ?_
          refine zw_gR (q := 22) (pc' := 28) W rfl rfl rfl rfl (W.2 22 19 _ rfl) rfl ?_
          refine zw_ld (n := 2) (k := 4) (f := zp_isI) (pc' := 30) rfl rfl l4 rfl rfl ?_
          refine zw_ia (q := 32) (pc' := 31) W rfl rfl (by decide) (⟨h5, by show _ < ((700 : Nat) : Int); omega⟩) rfl rfl ?_
          refine zw_st (n := 2) (k := 5) (f := zp_isI) (pc' := 33) rfl rfl rfl rfl rfl ?_
          refine zw_s (pc' := 34) rfl rfl ?_
          refine zw_ld (n := 2) (k := 5) (f := zp_isI) (pc' := 36) rfl rfl zw_g1 rfl rfl ?_
          refine zw_isub (pc' := 37) rfl rfl ?_
          refine zw_st (n := 2) (k := 6) (f := zp_isI) (pc' := 39) rfl rfl rfl rfl rfl ?_
          refine zw_ld (n := 2) (k := 5) (f := zp_isI) (pc' := 41) rfl rfl (zw_gt zw_g1 rfl rfl) rfl rfl ?_
          refine zw_blt1 (g := 53) (pc' := 44) rfl rfl rfl rfl (fun h3 => ?_) (fun h3 => ?_)
          · have hE2 : (H.2.1 32 i.toInt.toNat).toInt = -1 - it.2 := (hE trivial).trans ((if_neg k0).trans (if_pos k1))
            refine zw_ld (n := 2) (k := 6) (f := zp_isI) (pc' := 55) rfl rfl zw_g1 rfl rfl ?_
            refine zw_s (pc' := 57) rfl rfl ?_
            refine zw_bge2 (g := 74) (pc' := 60) rfl rfl rfl rfl (rfl : _ = (8 : Int)) (fun h4 => ?_) (fun h4 => ?_)
            · have h4 : (8 : Int) ≤ (Int32.ofInt (-1) - H.2.1 32 i.toInt.toNat).toInt := h4
              rw [yn trivial, hE2, x_nn] at h4
              omega
            · have e9 : (Int32.ofInt (-1) - H.2.1 32 i.toInt.toNat).toInt = it.2 := by rw [yn trivial, hE2, x_nn]
              have ed : (Int32.ofInt (-1) - H.2.1 32 i.toInt.toNat).toInt.toNat = it.2.toNat := by rw [e9]
              have eV : H.2.1 59 (Int32.ofInt (-1) - H.2.1 32 i.toInt.toNat).toInt.toNat = V it.2.toNat := by
                rw [ed, hF.2.2.1 59 _ (by decide) (fun h9 => absurd h9.1 (by decide))]
                exact hV _ (x_t8 hw2 hw4)
              obtain ⟨p1, p2, p3⟩ := xh_ps (x := V it.2.toNat) h2 hk (by omega)
              refine zw_ld (n := 1) (k := 0) (f := zp_isR) (pc' := 61) rfl rfl (zw_gt (zw_gt l0 rfl rfl) rfl rfl) rfl rfl ?_
              refine zw_ld (n := 1) (k := 0) (f := zp_isR) (pc' := 62) rfl rfl (zw_gt (zw_gt l0 rfl rfl) rfl rfl) rfl rfl ?_
              refine zw_gR (q := 56) (pc' := 65) W rfl rfl rfl rfl (W.2 56 3 _ rfl) rfl ?_
              refine zw_ld (n := 2) (k := 6) (f := zp_isI) (pc' := 67) rfl rfl zw_g1 rfl rfl ?_
              refine zw_ia (q := 59) (pc' := 68) W rfl rfl (by decide) (⟨by rw [e9]; omega, by rw [e9]; show _ < ((8 : Nat) : Int); omega⟩) rfl rfl ?_
              rw [eV]
              refine zw_cn (pc' := 71) (zw_cv (q := 56) (Y := zm_42) W.1 rfl rfl zm_42_t rfl rfl) rfl rfl rfl rfl rfl (xh_pu (d := d + 1) W ⟨by omega, by omega⟩) ?_
              refine zw_s (pc' := 125) rfl rfl ?_
              refine zw_ii (pc' := 128) rfl (zw_gt (zw_gt l4 rfl rfl) rfl rfl) rfl rfl ?_
              refine zw_s (pc' := 8) rfl rfl ?_
              refine ih (V it.2.toNat :: S) _ _ (i + Int32.ofInt 1) (zw_W_I (zw_W_I W)) (xFh_t hF p3) (by omega) (by omega) (fun j t hj => ?_) p1 p2 ?_ ?_ ?_ (zw_gt (zw_gt (zw_gt l0 rfl rfl) rfl rfl) rfl rfl) (zw_gt (zw_gt (zw_gt l1 rfl rfl) rfl rfl) rfl rfl) (zw_gt (zw_gt (zw_gt l3 rfl rfl) rfl rfl) rfl rfl) zw_g1 (fun H1 w1 w2 => ?_)
              · rw [ei, show (i.toInt + 1).toNat + j = i.toInt.toNat + (j + 1) by omega]
                exact hC (j + 1) t hj
              · have e : ((V it.2.toNat :: S).length : Int) = (S.length : Int) + 1 := by
                  show ((S.length + 1 : Nat) : Int) = _
                  omega
                rw [e]
                exact hw5
              · rw [← xEv_1 k1]
                exact h0
              · show S.length + 1 ≤ 64
                omega
              · rw [xEv_1 k1] at hP
                exact hP H1 w1 w2
          · have h3 : 0 ≤ (H.2.1 32 i.toInt.toNat).toInt := h3
            have hE2 : (H.2.1 32 i.toInt.toNat).toInt = -1 - it.2 := (hE trivial).trans ((if_neg k0).trans (if_pos k1))
            omega
    have k2 : ¬ it.1 < 2 := by
      clear hw
      omega
    rw [if_neg k2] at hw
    by_cases k3 : it.1 = 3
    · rw [if_pos k3] at hw
      match S, h2, hk, hw, h0, hl, hP with
      | x :: S, h2, hk, hw, h0, hl, hP =>
        refine zw_ld (n := 2) (k := 4) (f := zp_isI) (pc' := 10) rfl rfl l4 rfl rfl ?_
        refine zw_ld (n := 1) (k := 3) (f := zp_isI) (pc' := 11) rfl rfl l3 rfl rfl ?_
        refine zw_bge2 (g := 131) (pc' := 14) rfl rfl rfl rfl rfl (fun h1 => ?_) (fun h1 => ?_)
        · have hn : i.toInt + ((C.length + 1 : Nat) : Int) = to.toInt := hn
          omega
        · have hn : i.toInt + ((C.length + 1 : Nat) : Int) = to.toInt := hn
          have ei : (i + Int32.ofInt 1).toInt = i.toInt + 1 := zw_p1 (by omega)
          have hE : xIf True ((H.2.1 32 i.toInt.toNat).toInt = xE2 it) := fun _ => by
            rw [hF.2.2.1 32 _ (by decide) (fun h9 => absurd h9.1 (by decide))]
            exact hC 0 it rfl
          have yn : xIf True ((Int32.ofInt (-1) - H.2.1 32 i.toInt.toNat).toInt = -1 - (H.2.1 32 i.toInt.toNat).toInt) := fun _ => y_neg
          refine zw_ld (n := 2) (k := 4) (f := zp_isI) (pc' := 16) rfl rfl l4 rfl rfl ?_
          refine zw_ld (n := 1) (k := 1) (f := zp_isR) (pc' := 17) rfl rfl l1 rfl rfl ?_
          refine zw_gR (q := 22) (pc' := 20) W rfl rfl rfl rfl (W.2 22 19 _ rfl) rfl ?_
          refine zw_al (q := 32) (pc' := 21) W rfl rfl rfl ?_
          refine zw_bge2 (g := 131) (pc' := 24) rfl rfl rfl rfl (rfl : _ = (700 : Int)) (fun hb2 => ?_) (fun hb2 => ?_)
          · have hb2 : ((700 : Nat) : Int) ≤ i.toInt := hb2
            omega
          · refine zw_ld (n := 1) (k := 1) (f := zp_isR) (pc' := 25) rfl rfl l1 rfl rfl ?_
            refine zw_gR (q := 22) (pc' := 28) W rfl rfl rfl rfl (W.2 22 19 _ rfl) rfl ?_
            refine zw_ld (n := 2) (k := 4) (f := zp_isI) (pc' := 30) rfl rfl l4 rfl rfl ?_
            refine zw_ia (q := 32) (pc' := 31) W rfl rfl (by decide) (⟨h5, by show _ < ((700 : Nat) : Int); omega⟩) rfl rfl ?_
            refine zw_st (n := 2) (k := 5) (f := zp_isI) (pc' := 33) rfl rfl rfl rfl rfl ?_
            refine zw_s (pc' := 34) rfl rfl ?_
            refine zw_ld (n := 2) (k := 5) (f := zp_isI) (pc' := 36) rfl rfl zw_g1 rfl rfl ?_
            refine zw_isub (pc' := 37) rfl rfl ?_
            refine zw_st (n := 2) (k := 6) (f := zp_isI) (pc' := 39) rfl rfl rfl rfl rfl ?_
            refine zw_ld (n := 2) (k := 5) (f := zp_isI) (pc' := 41) rfl rfl (zw_gt zw_g1 rfl rfl) rfl rfl ?_
            refine zw_blt1 (g := 53) (pc' := 44) rfl rfl rfl rfl (fun h3 => ?_) (fun h3 => ?_)
            · have hE2 : (H.2.1 32 i.toInt.toNat).toInt = -11 := (hE trivial).trans ((if_neg k0).trans ((if_neg k1).trans (if_pos k3)))
              refine zw_ld (n := 2) (k := 6) (f := zp_isI) (pc' := 55) rfl rfl zw_g1 rfl rfl ?_
              refine zw_s (pc' := 57) rfl rfl ?_
              refine zw_bge2 (g := 74) (pc' := 60) rfl rfl rfl rfl (rfl : _ = (8 : Int)) (fun h4 => ?_) (fun h4 => ?_)
              · refine zw_ld (n := 2) (k := 6) (f := zp_isI) (pc' := 76) rfl rfl zw_g1 rfl rfl ?_
                refine zw_s (pc' := 78) rfl rfl ?_
                refine zw_bne2 (g := 100) (pc' := 81) rfl rfl rfl rfl (rfl : _ = (10 : Int)) (fun h5 => ?_) (fun h5 => ?_)
                · have h5 : ¬ (Int32.ofInt (-1) - H.2.1 32 i.toInt.toNat).toInt = (10 : Int) := h5
                  rw [yn trivial, hE2] at h5
                  omega
                · obtain ⟨p1, p2, p3, p4⟩ := xh_pp h2 hk hl
                  have h2 : (H.2.1 56 2).toInt = ((S.length + 1 : Nat) : Int) := h2
                  have hl : S.length + 1 ≤ 64 := hl
                  have q := xh_po (L := L) (σ := σ) (d := d + 1) W ⟨by omega, by omega⟩
                  rw [p1] at q
                  refine zw_ld (n := 1) (k := 0) (f := zp_isR) (pc' := 82) rfl rfl (zw_gt (zw_gt l0 rfl rfl) rfl rfl) rfl rfl ?_
                  refine zw_ld (n := 1) (k := 0) (f := zp_isR) (pc' := 83) rfl rfl (zw_gt (zw_gt l0 rfl rfl) rfl rfl) rfl rfl ?_
                  refine zw_c (pc' := 86) (zw_cv (q := 56) (Y := zm_43) W.1 rfl rfl zm_43_t rfl rfl) rfl rfl rfl rfl rfl (q) ?_
                  refine zw_bne1 (g := 93) (pc' := 89) rfl rfl rfl rfl (fun h6 => ?_) (fun h6 => ?_)
                  · obtain ⟨g1, g2, g3⟩ := xh_ps (H := (zw_I H 56 2 (H.2.1 56 2 - Int32.ofInt 1))) (x := (Int32.ofInt 0)) p2 p3 (by omega)
                    have ex : (if x.toInt = 0 then Int32.ofInt 1 else Int32.ofInt 0) = (Int32.ofInt 0) := if_neg h6
                    refine zw_s (pc' := 94) rfl rfl ?_
                    refine zw_cn (pc' := 97) (zw_cv (q := 56) (Y := zm_42) (zw_W_I W).1 rfl rfl zm_42_t rfl rfl) rfl rfl rfl rfl rfl (xh_pu (d := d + 1) (H := (zw_I H 56 2 (H.2.1 56 2 - Int32.ofInt 1))) (zw_W_I W) ⟨by omega, by omega⟩) ?_
                    refine zw_s (pc' := 125) rfl rfl ?_
                    refine zw_ii (pc' := 128) rfl (zw_gt (zw_gt l4 rfl rfl) rfl rfl) rfl rfl ?_
                    refine zw_s (pc' := 8) rfl rfl ?_
                    refine ih ((Int32.ofInt 0) :: S) _ _ (i + Int32.ofInt 1) (zw_W_I (zw_W_I (zw_W_I W))) (xFh_t hF (xFh_t p4 g3)) (by omega) (by omega) (fun j t hj => ?_) g1 g2 ?_ ?_ ?_ (zw_gt (zw_gt (zw_gt l0 rfl rfl) rfl rfl) rfl rfl) (zw_gt (zw_gt (zw_gt l1 rfl rfl) rfl rfl) rfl rfl) (zw_gt (zw_gt (zw_gt l3 rfl rfl) rfl rfl) rfl rfl) zw_g1 (fun H1 w1 w2 => ?_)
                    · rw [ei, show (i.toInt + 1).toNat + j = i.toInt.toNat + (j + 1) by omega]
                      exact hC (j + 1) t hj
                    · exact hw.2
                    · rw [← ex, ← xEv_3 k3]
                      exact h0
                    · exact hl
                    · rw [xEv_3 k3, ex] at hP
                      exact hP H1 w1 w2
                  · obtain ⟨g1, g2, g3⟩ := xh_ps (H := (zw_I H 56 2 (H.2.1 56 2 - Int32.ofInt 1))) (x := (Int32.ofInt 1)) p2 p3 (by omega)
                    have ex : (if x.toInt = 0 then Int32.ofInt 1 else Int32.ofInt 0) = (Int32.ofInt 1) := if_pos h6
                    refine zw_s (pc' := 90) rfl rfl ?_
                    refine zw_s (pc' := 94) rfl rfl ?_
                    refine zw_cn (pc' := 97) (zw_cv (q := 56) (Y := zm_42) (zw_W_I W).1 rfl rfl zm_42_t rfl rfl) rfl rfl rfl rfl rfl (xh_pu (d := d + 1) (H := (zw_I H 56 2 (H.2.1 56 2 - Int32.ofInt 1))) (zw_W_I W) ⟨by omega, by omega⟩) ?_
                    refine zw_s (pc' := 125) rfl rfl ?_
                    refine zw_ii (pc' := 128) rfl (zw_gt (zw_gt l4 rfl rfl) rfl rfl) rfl rfl ?_
                    refine zw_s (pc' := 8) rfl rfl ?_
                    refine ih ((Int32.ofInt 1) :: S) _ _ (i + Int32.ofInt 1) (zw_W_I (zw_W_I (zw_W_I W))) (xFh_t hF (xFh_t p4 g3)) (by omega) (by omega) (fun j t hj => ?_) g1 g2 ?_ ?_ ?_ (zw_gt (zw_gt (zw_gt l0 rfl rfl) rfl rfl) rfl rfl) (zw_gt (zw_gt (zw_gt l1 rfl rfl) rfl rfl) rfl rfl) (zw_gt (zw_gt (zw_gt l3 rfl rfl) rfl rfl) rfl rfl) zw_g1 (fun H1 w1 w2 => ?_)
                    · rw [ei, show (i.toInt + 1).toNat + j = i.toInt.toNat + (j + 1) by omega]
                      exact hC (j + 1) t hj
                    · exact hw.2
                    · rw [← ex, ← xEv_3 k3]
                      exact h0
                    · exact hl
                    · rw [xEv_3 k3, ex] at hP
                      exact hP H1 w1 w2
              · have h4 : (Int32.ofInt (-1) - H.2.1 32 i.toInt.toNat).toInt < (8 : Int) := h4
                rw [yn trivial, hE2] at h4
                omega
            · have h3 : 0 ≤ (H.2.1 32 i.toInt.toNat).toInt := h3
              have hE2 : (H.2.1 32 i.toInt.toNat).toInt = -11 := (hE trivial).trans ((if_neg k0).trans ((if_neg k1).trans (if_pos k3)))
              omega
      | [], h2, hk, hw, h0, hl, hP => exact absurd hw.1 (by decide)
    · rw [if_neg k3] at hw
      have k4 : 3 < it.1 := hw.1.2.1
      match S, h2, hk, hw, h0, hl, hP with
      | y :: x :: S, h2, hk, hw, h0, hl, hP =>
        refine zw_ld (n := 2) (k := 4) (f := zp_isI) (pc' := 10) rfl rfl l4 rfl rfl ?_
        refine zw_ld (n := 1) (k := 3) (f := zp_isI) (pc' := 11) rfl rfl l3 rfl rfl ?_
        refine zw_bge2 (g := 131) (pc' := 14) rfl rfl rfl rfl rfl (fun h1 => ?_) (fun h1 => ?_)
        · have hn : i.toInt + ((C.length + 1 : Nat) : Int) = to.toInt := hn
          omega
        · have hn : i.toInt + ((C.length + 1 : Nat) : Int) = to.toInt := hn
          have ei : (i + Int32.ofInt 1).toInt = i.toInt + 1 := zw_p1 (by omega)
          have hE : xIf True ((H.2.1 32 i.toInt.toNat).toInt = xE2 it) := fun _ => by
            rw [hF.2.2.1 32 _ (by decide) (fun h9 => absurd h9.1 (by decide))]
            exact hC 0 it rfl
          have yn : xIf True ((Int32.ofInt (-1) - H.2.1 32 i.toInt.toNat).toInt = -1 - (H.2.1 32 i.toInt.toNat).toInt) := fun _ => y_neg
          refine zw_ld (n := 2) (k := 4) (f := zp_isI) (pc' := 16) rfl rfl l4 rfl rfl ?_
          refine zw_ld (n := 1) (k := 1) (f := zp_isR) (pc' := 17) rfl rfl l1 rfl rfl ?_
          refine zw_gR (q := 22) (pc' := 20) W rfl rfl rfl rfl (W.2 22 19 _ rfl) rfl ?_
          refine zw_al (q := 32) (pc' := 21) W rfl rfl rfl ?_
          refine zw_bge2 (g := 131) (pc' := 24) rfl rfl rfl rfl (rfl : _ = (700 : Int)) (fun hb2 => ?_) (fun hb2 => ?_)
          · have hb2 : ((700 : Nat) : Int) ≤ i.toInt := hb2
            omega
          · refine zw_ld (n := 1) (k := 1) (f := zp_isR) (pc' := 25) rfl rfl l1 rfl rfl ?_
            refine zw_gR (q := 22) (pc' := 28) W rfl rfl rfl rfl (W.2 22 19 _ rfl) rfl ?_
            refine zw_ld (n := 2) (k := 4) (f := zp_isI) (pc' := 30) rfl rfl l4 rfl rfl ?_
            refine zw_ia (q := 32) (pc' := 31) W rfl rfl (by decide) (⟨h5, by show _ < ((700 : Nat) : Int); omega⟩) rfl rfl ?_
            refine zw_st (n := 2) (k := 5) (f := zp_isI) (pc' := 33) rfl rfl rfl rfl rfl ?_
            refine zw_s (pc' := 34) rfl rfl ?_
            refine zw_ld (n := 2) (k := 5) (f := zp_isI) (pc' := 36) rfl rfl zw_g1 rfl rfl ?_
            refine zw_isub (pc' := 37) rfl rfl ?_
            refine zw_st (n := 2) (k := 6) (f := zp_isI) (pc' := 39) rfl rfl rfl rfl rfl ?_
            refine zw_ld (n := 2) (k := 5) (f := zp_isI) (pc' := 41) rfl rfl (zw_gt zw_g1 rfl rfl) rfl rfl ?_
            refine zw_blt1 (g := 53) (pc' := 44) rfl rfl rfl rfl (fun h3 => ?_) (fun h3 => ?_)
            · have e0 : xIf True (xE2 it = xE2 (xAc it.1)) := fun _ => xE2_a k4
              have hE2 : ∃ z : Int, (H.2.1 32 i.toInt.toNat).toInt = z ∧ -62 ≤ z ∧ z ≤ -9 ∧ z ≠ -11 := by
                refine ⟨xE2 (xAc it.1), (hE trivial).trans (e0 trivial), ?_⟩
                obtain ⟨hw1, hw2⟩ := hw
                rcases (show it.1 = 4 ∨ it.1 = 5 ∨ it.1 = 6 ∨ it.1 = 7 ∨ it.1 = 8 ∨ it.1 = 9 ∨ it.1 = 10 ∨ it.1 = 11 by omega) with e | e | e | e | e | e | e | e <;> rw [e] <;> decide
              obtain ⟨z9, z1, z2, z3, z4⟩ := hE2
              refine zw_ld (n := 2) (k := 6) (f := zp_isI) (pc' := 55) rfl rfl zw_g1 rfl rfl ?_
              refine zw_s (pc' := 57) rfl rfl ?_
              refine zw_bge2 (g := 74) (pc' := 60) rfl rfl rfl rfl (rfl : _ = (8 : Int)) (fun h4 => ?_) (fun h4 => ?_)
              · refine zw_ld (n := 2) (k := 6) (f := zp_isI) (pc' := 76) rfl rfl zw_g1 rfl rfl ?_
                refine zw_s (pc' := 78) rfl rfl ?_
                refine zw_bne2 (g := 100) (pc' := 81) rfl rfl rfl rfl (rfl : _ = (10 : Int)) (fun h5 => ?_) (fun h5 => ?_)
                · obtain ⟨p1, p2, p3, p4⟩ := xh_pp h2 hk hl
                  obtain ⟨r1, r2, r3, r4⟩ := xh_pp p2 p3 (by have hl : S.length + 1 + 1 ≤ 64 := hl; show S.length + 1 ≤ 64; omega)
                  have h2 : (H.2.1 56 2).toInt = ((S.length + 1 + 1 : Nat) : Int) := h2
                  have hl : S.length + 1 + 1 ≤ 64 := hl
                  have p2 : ((zw_I H 56 2 (H.2.1 56 2 - Int32.ofInt 1)).2.1 56 2).toInt = ((S.length + 1 : Nat) : Int) := p2
                  have q := xh_po (L := L) (σ := σ) (d := d + 1) W ⟨by omega, by omega⟩
                  rw [p1] at q
                  have qq := xh_po (L := L) (σ := σ) (d := d + 1) (H := (zw_I H 56 2 (H.2.1 56 2 - Int32.ofInt 1))) (zw_W_I W) ⟨by omega, by omega⟩
                  rw [r1] at qq
                  obtain ⟨g1, g2, g3⟩ := xh_ps (H := (zw_I (zw_I H 56 2 (H.2.1 56 2 - Int32.ofInt 1)) 56 2 ((zw_I H 56 2 (H.2.1 56 2 - Int32.ofInt 1)).2.1 56 2 - Int32.ofInt 1))) (x := xJn it.1 x y) r2 r3 (by omega)
                  refine zw_ld (n := 1) (k := 0) (f := zp_isR) (pc' := 101) rfl rfl (zw_gt (zw_gt l0 rfl rfl) rfl rfl) rfl rfl ?_
                  refine zw_c (pc' := 104) (zw_cv (q := 56) (Y := zm_43) W.1 rfl rfl zm_43_t rfl rfl) rfl rfl rfl rfl rfl (q) ?_
                  refine zw_st (n := 2) (k := 7) (f := zp_isI) (pc' := 106) rfl rfl rfl rfl rfl ?_
                  refine zw_ld (n := 1) (k := 0) (f := zp_isR) (pc' := 107) rfl rfl (zw_gt (zw_gt (zw_gt l0 rfl rfl) rfl rfl) rfl rfl) rfl rfl ?_
                  refine zw_c (pc' := 110) (zw_cv (q := 56) (Y := zm_43) (zw_W_I W).1 rfl rfl zm_43_t rfl rfl) rfl rfl rfl rfl rfl (qq) ?_
                  refine zw_st (n := 2) (k := 8) (f := zp_isI) (pc' := 112) rfl rfl rfl rfl rfl ?_
                  refine zw_ld (n := 1) (k := 0) (f := zp_isR) (pc' := 113) rfl rfl (zw_gt (zw_gt (zw_gt (zw_gt l0 rfl rfl) rfl rfl) rfl rfl) rfl rfl) rfl rfl ?_
                  refine zw_ld (n := 2) (k := 8) (f := zp_isI) (pc' := 115) rfl rfl zw_g1 rfl rfl ?_
                  refine zw_ld (n := 2) (k := 6) (f := zp_isI) (pc' := 117) rfl rfl (zw_gt (zw_gt zw_g1 rfl rfl) rfl rfl) rfl rfl ?_
                  refine zw_ld (n := 2) (k := 7) (f := zp_isI) (pc' := 119) rfl rfl (zw_gt zw_g1 rfl rfl) rfl rfl ?_
                  refine zw_c (pc' := 122) (zw_cs (Y := zm_44) rfl rfl zm_44_t) rfl rfl rfl rfl rfl (xh_jn (d := d + 1) (H := (zw_I (zw_I H 56 2 (H.2.1 56 2 - Int32.ofInt 1)) 56 2 ((zw_I H 56 2 (H.2.1 56 2 - Int32.ofInt 1)).2.1 56 2 - Int32.ofInt 1))) (a := it.1) hw.1.2 (by rw [yn trivial, hE trivial, e0 trivial])) ?_
                  refine zw_cn (pc' := 125) (zw_cv (q := 56) (Y := zm_42) (zw_W_I (zw_W_I W)).1 rfl rfl zm_42_t rfl rfl) rfl rfl rfl rfl rfl (xh_pu (d := d + 1) (H := (zw_I (zw_I H 56 2 (H.2.1 56 2 - Int32.ofInt 1)) 56 2 ((zw_I H 56 2 (H.2.1 56 2 - Int32.ofInt 1)).2.1 56 2 - Int32.ofInt 1))) (zw_W_I (zw_W_I W)) ⟨by omega, by omega⟩) ?_
                  refine zw_ii (pc' := 128) rfl (zw_gt (zw_gt (zw_gt (zw_gt l4 rfl rfl) rfl rfl) rfl rfl) rfl rfl) rfl rfl ?_
                  refine zw_s (pc' := 8) rfl rfl ?_
                  refine ih (xJn it.1 x y :: S) _ _ (i + Int32.ofInt 1) (zw_W_I (zw_W_I (zw_W_I (zw_W_I W)))) (xFh_t hF (xFh_t p4 (xFh_t r4 g3))) (by omega) (by omega) (fun j t hj => ?_) g1 g2 ?_ ?_ ?_ (zw_gt (zw_gt (zw_gt (zw_gt (zw_gt l0 rfl rfl) rfl rfl) rfl rfl) rfl rfl) rfl rfl) (zw_gt (zw_gt (zw_gt (zw_gt (zw_gt l1 rfl rfl) rfl rfl) rfl rfl) rfl rfl) rfl rfl) (zw_gt (zw_gt (zw_gt (zw_gt (zw_gt l3 rfl rfl) rfl rfl) rfl rfl) rfl rfl) rfl rfl) zw_g1 (fun H1 w1 w2 => ?_)
                  · rw [ei, show (i.toInt + 1).toNat + j = i.toInt.toNat + (j + 1) by omega]
                    exact hC (j + 1) t hj
                  · have e : ((xJn it.1 x y :: S).length : Int) = ((y :: x :: S).length : Int) - 1 := by
                      show ((S.length + 1 : Nat) : Int) = ((S.length + 1 + 1 : Nat) : Int) - 1
                      omega
                    rw [e]
                    exact hw.2
                  · rw [← xEv_4 k4]
                    exact h0
                  · show S.length + 1 ≤ 64
                    omega
                  · rw [xEv_4 k4] at hP
                    exact hP H1 w1 w2
                · have h5 : (Int32.ofInt (-1) - H.2.1 32 i.toInt.toNat).toInt = (10 : Int) := h5
                  rw [yn trivial, z1] at h5
                  omega
              · have h4 : (Int32.ofInt (-1) - H.2.1 32 i.toInt.toNat).toInt < (8 : Int) := h4
                rw [yn trivial, z1] at h4
                omega
            · have h3 : 0 ≤ (H.2.1 32 i.toInt.toNat).toInt := h3
              have e0 : xIf True (xE2 it = xE2 (xAc it.1)) := fun _ => xE2_a k4
              have hE2 : ∃ z : Int, (H.2.1 32 i.toInt.toNat).toInt = z ∧ -62 ≤ z ∧ z ≤ -9 ∧ z ≠ -11 := by
                refine ⟨xE2 (xAc it.1), (hE trivial).trans (e0 trivial), ?_⟩
                obtain ⟨hw1, hw2⟩ := hw
                rcases (show it.1 = 4 ∨ it.1 = 5 ∨ it.1 = 6 ∨ it.1 = 7 ∨ it.1 = 8 ∨ it.1 = 9 ∨ it.1 = 10 ∨ it.1 = 11 by omega) with e | e | e | e | e | e | e | e <;> rw [e] <;> decide
              obtain ⟨z9, z1, z2, z3, z4⟩ := hE2
              omega
      | [x], h2, hk, hw, h0, hl, hP =>
        have h9 : (2 : Int) ≤ ((1 : Nat) : Int) := hw.1.1
        omega
      | [], h2, hk, hw, h0, hl, hP => exact absurd hw.1.1 (by decide)

theorem xh_wo22 {L : Nat} {σ : Nat → Int32} {d : Nat} {V : Nat → Int32} {from9 to : Int32} {C : List xIt} {H : zp_H} (W : zw_W H) (h7 : to.toInt ≤ 700) (hV : ∀ k, k < 8 → H.2.1 59 k = V k) (h5 : 0 ≤ from9.toInt) (hn : from9.toInt + (C.length : Int) = to.toInt) (hC : ∀ j t, C[j]? = some t → (H.2.1 32 (from9.toInt.toNat + j)).toInt = xE2 t) (hO : xOp 37 C) : ∃ X, zp_Call L σ (d + 3) 41 [.inr (.inr (some 57)), .inr (.inr (some 23)), .inl from9, .inl to] H X ∧ ∃ H1, X = (.inl (some (.inl (xWo V C))), H1) ∧ zw_W H1 ∧ xFh H H1 := by
  refine zw_met zm_41_t rfl rfl ?_
  refine zw_ld (n := 1) (k := 0) (f := zp_isR) (pc' := 1) rfl rfl rfl rfl rfl ?_
  refine zw_s (pc' := 2) rfl rfl ?_
  refine zw_pI (q := 56) (pc' := 5) W rfl rfl rfl rfl rfl rfl ?_
  refine zw_ld (n := 1) (k := 2) (f := zp_isI) (pc' := 6) rfl rfl rfl rfl rfl ?_
  refine zw_st (n := 2) (k := 4) (f := zp_isI) (pc' := 8) rfl rfl rfl rfl rfl ?_
  refine xh_woL22 h7 hV C [] _ _ from9 (zw_W_I W) xFh_56 h5 hn hC ((congrArg Int32.toInt zw_eq).trans (by decide)) trivial (xWf_m (by decide) (hO 0 (Int.le_refl _)).2) (by rw [xEv_w hO]; exact Nat.one_ne_zero) (Nat.zero_le _) (zw_gt rfl rfl rfl) (zw_gt rfl rfl rfl) (zw_gt rfl rfl rfl) zw_g1 (fun H1 w1 w2 => ⟨H1, rfl, w1, w2⟩)

theorem xh_wbL2 {L : Nat} {σ : Nat → Int32} {d : Nat} {P : zp_X → Prop} {V : Nat → Int32} {CC : Nat → List xIt} {H0 : zp_H} (hR : 0 ≤ (H0.2.1 2 16).toInt ∧ (H0.2.1 2 16).toInt ≤ 8) (hV : ∀ k, k < 8 → H0.2.1 59 k = V k) (hCC : ∀ r : Nat, (r : Int) < (H0.2.1 2 16).toInt → xOp 37 (CC r) ∧ xCl 2 H0 r (CC r) ∧ (H0.2.1 11 r).toInt ≤ 700) : ∀ (n : Nat) (H : zp_H) (lv : zp_LV) (from9 r : Int32), zw_W H → xFh H0 H → 0 ≤ r.toInt → r.toInt + (n : Int) = (H0.2.1 2 16).toInt → from9.toInt = xBg 2 H0 r.toInt.toNat → zp_get lv 0 = some (.inr (.inr (some 57))) → zp_get lv 1 = some (.inr (.inr (some 3))) → zp_get lv 2 = some (.inl from9) → zp_get lv 3 = some (.inl r) → (∀ H1, zw_W H1 → xFh H0 H1 → P (.inl (some (.inl (xWb V (H0.2.1 10) CC n r.toInt.toNat))), H1)) → zs_Safe L σ P zm_40 [] (d + 3) (4, lv, [], H, (0, 0)) := by
  intro n
  induction n with
  | zero =>
    intro H lv from9 r W hF h5 hn hfr l0 l1 l2 l3 hP
    have hn : r.toInt + ((0 : Nat) : Int) = (H0.2.1 2 16).toInt := hn
    have hN : H.2.1 2 16 = H0.2.1 2 16 := hF.2.2.1 2 16 (by decide) (by decide)
    refine zw_ld (n := 1) (k := 3) (f := zp_isI) (pc' := 5) rfl rfl l3 rfl rfl ?_
    refine zw_ld (n := 1) (k := 1) (f := zp_isR) (pc' := 6) rfl rfl l1 rfl rfl ?_
    refine zw_gI (q := 2) (pc' := 9) W rfl rfl rfl rfl rfl rfl ?_
    rw [hN]
    refine zw_bge2 (g := 47) (pc' := 12) rfl rfl rfl rfl rfl (fun h1 => ?_) (fun h1 => ?_)
    · refine zw_s (pc' := 48) rfl rfl ?_
      refine zw_ri rfl rfl ?_
      exact hP H W hF
    · omega
  | succ n ih =>
    intro H lv from9 r W hF h5 hn hfr l0 l1 l2 l3 hP
    have hN : H.2.1 2 16 = H0.2.1 2 16 := hF.2.2.1 2 16 (by decide) (by decide)
    refine zw_ld (n := 1) (k := 3) (f := zp_isI) (pc' := 5) rfl rfl l3 rfl rfl ?_
    refine zw_ld (n := 1) (k := 1) (f := zp_isR) (pc' := 6) rfl rfl l1 rfl rfl ?_
    refine zw_gI (q := 2) (pc' := 9) W rfl rfl rfl rfl rfl rfl ?_
    rw [hN]
    refine zw_bge2 (g := 47) (pc' := 12) rfl rfl rfl rfl rfl (fun h1 => ?_) (fun h1 => ?_)
    · omega
    · have er : (r + Int32.ofInt 1).toInt = r.toInt + 1 := zw_p1 (by omega)
      obtain ⟨o1, ⟨o2, o3, o4⟩, o5⟩ := hCC r.toInt.toNat (by omega)
      have f9 : ∀ k, H.2.1 11 k = H0.2.1 11 k := fun k => hF.2.2.1 11 k (by decide) (fun h9 => absurd h9.1 (by decide))
      have f12 : ∀ k, H.2.1 12 k = H0.2.1 12 k := fun k => hF.2.2.1 12 k (by decide) (fun h9 => absurd h9.1 (by decide))
      have f8 : ∀ k, H.2.1 10 k = H0.2.1 10 k := fun k => hF.2.2.1 10 k (by decide) (fun h9 => absurd h9.1 (by decide))
      obtain ⟨_, c1, H1, rfl, W1, c2⟩ := xh_wo2 (L := L) (σ := σ) (d := d) (V := V) (from9 := from9) (to := H.2.1 11 r.toInt.toNat) (C := CC r.toInt.toNat) W (by rw [f9]; exact o5) (fun k hk => (hF.2.2.1 59 k (by decide) (fun h9 => absurd h9.1 (by decide))).trans (hV k hk)) (by rw [hfr]; exact o2) (by rw [hfr, f9]; exact o3.symm) (fun j t hj => by rw [hfr, f12]; exact o4 j t hj) o1
      have F1 := xFh_t hF c2
      refine zw_ld (n := 1) (k := 1) (f := zp_isR) (pc' := 13) rfl rfl l1 rfl rfl ?_
      refine zw_gR (q := 2) (pc' := 16) W rfl rfl rfl rfl (W.2 2 18 _ rfl) rfl ?_
      refine zw_ld (n := 1) (k := 3) (f := zp_isI) (pc' := 17) rfl rfl l3 rfl rfl ?_
      refine zw_ia (q := 11) (pc' := 18) W rfl rfl (by decide) (⟨h5, by show _ < ((8 : Nat) : Int); omega⟩) rfl rfl ?_
      refine zw_st (n := 2) (k := 4) (f := zp_isI) (pc' := 20) rfl rfl rfl rfl rfl ?_
      refine zw_ld (n := 1) (k := 0) (f := zp_isR) (pc' := 21) rfl rfl (zw_gt l0 rfl rfl) rfl rfl ?_
      refine zw_ld (n := 1) (k := 1) (f := zp_isR) (pc' := 22) rfl rfl (zw_gt l1 rfl rfl) rfl rfl ?_
      refine zw_ld (n := 1) (k := 2) (f := zp_isI) (pc' := 23) rfl rfl (zw_gt l2 rfl rfl) rfl rfl ?_
      refine zw_ld (n := 2) (k := 4) (f := zp_isI) (pc' := 25) rfl rfl zw_g1 rfl rfl ?_
      refine zw_c (pc' := 28) (zw_cv (q := 56) (Y := zm_41) W.1 rfl rfl zm_41_t rfl rfl) rfl rfl rfl rfl rfl (c1) ?_
      refine zw_beq1 (g := 38) (pc' := 31) rfl rfl rfl rfl (fun h2 => ?_) (fun h2 => ?_)
      · have h2 : (xWo V (CC r.toInt.toNat)).toInt = 0 := h2
        rw [xWb_n (n := n) h2, show r.toInt.toNat + 1 = (r + Int32.ofInt 1).toInt.toNat by omega] at hP
        refine zw_ld (n := 2) (k := 4) (f := zp_isI) (pc' := 40) rfl rfl zw_g1 rfl rfl ?_
        refine zw_st (n := 1) (k := 2) (f := zp_isI) (pc' := 41) rfl rfl rfl rfl rfl ?_
        refine zw_ii (pc' := 44) rfl (zw_gt (zw_gt l3 rfl rfl) rfl rfl) rfl rfl ?_
        refine zw_s (pc' := 4) rfl rfl ?_
        exact ih H1 _ _ (r + Int32.ofInt 1) W1 F1 (by omega) (by omega) (by rw [show (r + Int32.ofInt 1).toInt.toNat = r.toInt.toNat + 1 by omega, xBg_s, f9]) (zw_gt (zw_gt (zw_gt l0 rfl rfl) rfl rfl) rfl rfl) (zw_gt (zw_gt (zw_gt l1 rfl rfl) rfl rfl) rfl rfl) (zw_gt zw_g1 rfl rfl) zw_g1 hP
      · have h2 : ¬ (xWo V (CC r.toInt.toNat)).toInt = 0 := h2
        rw [xWb_y (n := n) h2] at hP
        have g8 : H1.2.1 10 r.toInt.toNat = H0.2.1 10 r.toInt.toNat := F1.2.2.1 10 _ (by decide) (fun h9 => absurd h9.1 (by decide))
        refine zw_ld (n := 1) (k := 1) (f := zp_isR) (pc' := 32) rfl rfl (zw_gt l1 rfl rfl) rfl rfl ?_
        refine zw_gR (q := 2) (pc' := 35) W1 rfl rfl rfl rfl (W1.2 2 17 _ rfl) rfl ?_
        refine zw_ld (n := 1) (k := 3) (f := zp_isI) (pc' := 36) rfl rfl (zw_gt l3 rfl rfl) rfl rfl ?_
        refine zw_ia (q := 10) (pc' := 37) W1 rfl rfl (by decide) (⟨h5, by show _ < ((8 : Nat) : Int); omega⟩) rfl rfl ?_
        refine zw_ri rfl rfl ?_
        rw [g8]
        exact hP H1 W1 F1

theorem xh_wb2 {L : Nat} {σ : Nat → Int32} {d : Nat} {V : Nat → Int32} {CC : Nat → List xIt} {H0 : zp_H} (hR : 0 ≤ (H0.2.1 2 16).toInt ∧ (H0.2.1 2 16).toInt ≤ 8) (hV : ∀ k, k < 8 → H0.2.1 59 k = V k) (hCC : ∀ r : Nat, (r : Int) < (H0.2.1 2 16).toInt → xOp 37 (CC r) ∧ xCl 2 H0 r (CC r) ∧ (H0.2.1 11 r).toInt ≤ 700) (W : zw_W H0) : ∃ X, zp_Call L σ (d + 4) 40 [.inr (.inr (some 57)), .inr (.inr (some 3))] H0 X ∧ ∃ H1, X = (.inl (some (.inl (xWb V (H0.2.1 10) CC (H0.2.1 2 16).toInt.toNat 0))), H1) ∧ zw_W H1 ∧ xFh H0 H1 := by
  refine zw_met zm_40_t rfl rfl ?_
  refine zw_s (pc' := 1) rfl rfl ?_
  refine zw_st (n := 1) (k := 2) (f := zp_isI) (pc' := 2) rfl rfl rfl rfl rfl ?_
  refine zw_s (pc' := 3) rfl rfl ?_
  refine zw_st (n := 1) (k := 3) (f := zp_isI) (pc' := 4) rfl rfl rfl rfl rfl ?_
  exact xh_wbL2 hR hV hCC (H0.2.1 2 16).toInt.toNat _ _ (Int32.ofInt 0) (Int32.ofInt 0) W (xFh_r H0) (by decide) (by rw [show (Int32.ofInt 0).toInt = 0 by decide]; omega) rfl (zw_gt (zw_gt rfl rfl rfl) rfl rfl) (zw_gt (zw_gt rfl rfl rfl) rfl rfl) (zw_gt zw_g1 rfl rfl) zw_g1 (fun H1 w1 w2 => ⟨H1, rfl, w1, w2⟩)

theorem xh_wbL22 {L : Nat} {σ : Nat → Int32} {d : Nat} {P : zp_X → Prop} {V : Nat → Int32} {CC : Nat → List xIt} {H0 : zp_H} (hR : 0 ≤ (H0.2.1 22 16).toInt ∧ (H0.2.1 22 16).toInt ≤ 8) (hV : ∀ k, k < 8 → H0.2.1 59 k = V k) (hCC : ∀ r : Nat, (r : Int) < (H0.2.1 22 16).toInt → xOp 37 (CC r) ∧ xCl 22 H0 r (CC r) ∧ (H0.2.1 31 r).toInt ≤ 700) : ∀ (n : Nat) (H : zp_H) (lv : zp_LV) (from9 r : Int32), zw_W H → xFh H0 H → 0 ≤ r.toInt → r.toInt + (n : Int) = (H0.2.1 22 16).toInt → from9.toInt = xBg 22 H0 r.toInt.toNat → zp_get lv 0 = some (.inr (.inr (some 57))) → zp_get lv 1 = some (.inr (.inr (some 23))) → zp_get lv 2 = some (.inl from9) → zp_get lv 3 = some (.inl r) → (∀ H1, zw_W H1 → xFh H0 H1 → P (.inl (some (.inl (xWb V (H0.2.1 30) CC n r.toInt.toNat))), H1)) → zs_Safe L σ P zm_40 [] (d + 3) (4, lv, [], H, (0, 0)) := by
  intro n
  induction n with
  | zero =>
    intro H lv from9 r W hF h5 hn hfr l0 l1 l2 l3 hP
    have hn : r.toInt + ((0 : Nat) : Int) = (H0.2.1 22 16).toInt := hn
    have hN : H.2.1 22 16 = H0.2.1 22 16 := hF.2.2.1 22 16 (by decide) (by decide)
    refine zw_ld (n := 1) (k := 3) (f := zp_isI) (pc' := 5) rfl rfl l3 rfl rfl ?_
    refine zw_ld (n := 1) (k := 1) (f := zp_isR) (pc' := 6) rfl rfl l1 rfl rfl ?_
    refine zw_gI (q := 22) (pc' := 9) W rfl rfl rfl rfl rfl rfl ?_
    rw [hN]
    refine zw_bge2 (g := 47) (pc' := 12) rfl rfl rfl rfl rfl (fun h1 => ?_) (fun h1 => ?_)
    · refine zw_s (pc' := 48) rfl rfl ?_
      refine zw_ri rfl rfl ?_
      exact hP H W hF
    · omega
  | succ n ih =>
    intro H lv from9 r W hF h5 hn hfr l0 l1 l2 l3 hP
    have hN : H.2.1 22 16 = H0.2.1 22 16 := hF.2.2.1 22 16 (by decide) (by decide)
    refine zw_ld (n := 1) (k := 3) (f := zp_isI) (pc' := 5) rfl rfl l3 rfl rfl ?_
    refine zw_ld (n := 1) (k := 1) (f := zp_isR) (pc' := 6) rfl rfl l1 rfl rfl ?_
    refine zw_gI (q := 22) (pc' := 9) W rfl rfl rfl rfl rfl rfl ?_
    rw [hN]
    refine zw_bge2 (g := 47) (pc' := 12) rfl rfl rfl rfl rfl (fun h1 => ?_) (fun h1 => ?_)
    · omega
    · have er : (r + Int32.ofInt 1).toInt = r.toInt + 1 := zw_p1 (by omega)
      obtain ⟨o1, ⟨o2, o3, o4⟩, o5⟩ := hCC r.toInt.toNat (by omega)
      have f9 : ∀ k, H.2.1 31 k = H0.2.1 31 k := fun k => hF.2.2.1 31 k (by decide) (fun h9 => absurd h9.1 (by decide))
      have f12 : ∀ k, H.2.1 32 k = H0.2.1 32 k := fun k => hF.2.2.1 32 k (by decide) (fun h9 => absurd h9.1 (by decide))
      have f8 : ∀ k, H.2.1 30 k = H0.2.1 30 k := fun k => hF.2.2.1 30 k (by decide) (fun h9 => absurd h9.1 (by decide))
      obtain ⟨_, c1, H1, rfl, W1, c2⟩ := xh_wo22 (L := L) (σ := σ) (d := d) (V := V) (from9 := from9) (to := H.2.1 31 r.toInt.toNat) (C := CC r.toInt.toNat) W (by rw [f9]; exact o5) (fun k hk => (hF.2.2.1 59 k (by decide) (fun h9 => absurd h9.1 (by decide))).trans (hV k hk)) (by rw [hfr]; exact o2) (by rw [hfr, f9]; exact o3.symm) (fun j t hj => by rw [hfr, f12]; exact o4 j t hj) o1
      have F1 := xFh_t hF c2
      refine zw_ld (n := 1) (k := 1) (f := zp_isR) (pc' := 13) rfl rfl l1 rfl rfl ?_
      refine zw_gR (q := 22) (pc' := 16) W rfl rfl rfl rfl (W.2 22 18 _ rfl) rfl ?_
      refine zw_ld (n := 1) (k := 3) (f := zp_isI) (pc' := 17) rfl rfl l3 rfl rfl ?_
      refine zw_ia (q := 31) (pc' := 18) W rfl rfl (by decide) (⟨h5, by show _ < ((8 : Nat) : Int); omega⟩) rfl rfl ?_
      refine zw_st (n := 2) (k := 4) (f := zp_isI) (pc' := 20) rfl rfl rfl rfl rfl ?_
      refine zw_ld (n := 1) (k := 0) (f := zp_isR) (pc' := 21) rfl rfl (zw_gt l0 rfl rfl) rfl rfl ?_
      refine zw_ld (n := 1) (k := 1) (f := zp_isR) (pc' := 22) rfl rfl (zw_gt l1 rfl rfl) rfl rfl ?_
      refine zw_ld (n := 1) (k := 2) (f := zp_isI) (pc' := 23) rfl rfl (zw_gt l2 rfl rfl) rfl rfl ?_
      refine zw_ld (n := 2) (k := 4) (f := zp_isI) (pc' := 25) rfl rfl zw_g1 rfl rfl ?_
      refine zw_c (pc' := 28) (zw_cv (q := 56) (Y := zm_41) W.1 rfl rfl zm_41_t rfl rfl) rfl rfl rfl rfl rfl (c1) ?_
      refine zw_beq1 (g := 38) (pc' := 31) rfl rfl rfl rfl (fun h2 => ?_) (fun h2 => ?_)
      · have h2 : (xWo V (CC r.toInt.toNat)).toInt = 0 := h2
        rw [xWb_n (n := n) h2, show r.toInt.toNat + 1 = (r + Int32.ofInt 1).toInt.toNat by omega] at hP
        refine zw_ld (n := 2) (k := 4) (f := zp_isI) (pc' := 40) rfl rfl zw_g1 rfl rfl ?_
        refine zw_st (n := 1) (k := 2) (f := zp_isI) (pc' := 41) rfl rfl rfl rfl rfl ?_
        refine zw_ii (pc' := 44) rfl (zw_gt (zw_gt l3 rfl rfl) rfl rfl) rfl rfl ?_
        refine zw_s (pc' := 4) rfl rfl ?_
        exact ih H1 _ _ (r + Int32.ofInt 1) W1 F1 (by omega) (by omega) (by rw [show (r + Int32.ofInt 1).toInt.toNat = r.toInt.toNat + 1 by omega, xBg_s, f9]) (zw_gt (zw_gt (zw_gt l0 rfl rfl) rfl rfl) rfl rfl) (zw_gt (zw_gt (zw_gt l1 rfl rfl) rfl rfl) rfl rfl) (zw_gt zw_g1 rfl rfl) zw_g1 hP
      · have h2 : ¬ (xWo V (CC r.toInt.toNat)).toInt = 0 := h2
        rw [xWb_y (n := n) h2] at hP
        have g8 : H1.2.1 30 r.toInt.toNat = H0.2.1 30 r.toInt.toNat := F1.2.2.1 30 _ (by decide) (fun h9 => absurd h9.1 (by decide))
        refine zw_ld (n := 1) (k := 1) (f := zp_isR) (pc' := 32) rfl rfl (zw_gt l1 rfl rfl) rfl rfl ?_
        refine zw_gR (q := 22) (pc' := 35) W1 rfl rfl rfl rfl (W1.2 22 17 _ rfl) rfl ?_
        refine zw_ld (n := 1) (k := 3) (f := zp_isI) (pc' := 36) rfl rfl (zw_gt l3 rfl rfl) rfl rfl ?_
        refine zw_ia (q := 30) (pc' := 37) W1 rfl rfl (by decide) (⟨h5, by show _ < ((8 : Nat) : Int); omega⟩) rfl rfl ?_
        refine zw_ri rfl rfl ?_
        rw [g8]
        exact hP H1 W1 F1

theorem xh_wb22 {L : Nat} {σ : Nat → Int32} {d : Nat} {V : Nat → Int32} {CC : Nat → List xIt} {H0 : zp_H} (hR : 0 ≤ (H0.2.1 22 16).toInt ∧ (H0.2.1 22 16).toInt ≤ 8) (hV : ∀ k, k < 8 → H0.2.1 59 k = V k) (hCC : ∀ r : Nat, (r : Int) < (H0.2.1 22 16).toInt → xOp 37 (CC r) ∧ xCl 22 H0 r (CC r) ∧ (H0.2.1 31 r).toInt ≤ 700) (W : zw_W H0) : ∃ X, zp_Call L σ (d + 4) 40 [.inr (.inr (some 57)), .inr (.inr (some 23))] H0 X ∧ ∃ H1, X = (.inl (some (.inl (xWb V (H0.2.1 30) CC (H0.2.1 22 16).toInt.toNat 0))), H1) ∧ zw_W H1 ∧ xFh H0 H1 := by
  refine zw_met zm_40_t rfl rfl ?_
  refine zw_s (pc' := 1) rfl rfl ?_
  refine zw_st (n := 1) (k := 2) (f := zp_isI) (pc' := 2) rfl rfl rfl rfl rfl ?_
  refine zw_s (pc' := 3) rfl rfl ?_
  refine zw_st (n := 1) (k := 3) (f := zp_isI) (pc' := 4) rfl rfl rfl rfl rfl ?_
  exact xh_wbL22 hR hV hCC (H0.2.1 22 16).toInt.toNat _ _ (Int32.ofInt 0) (Int32.ofInt 0) W (xFh_r H0) (by decide) (by rw [show (Int32.ofInt 0).toInt = 0 by decide]; omega) rfl (zw_gt (zw_gt rfl rfl rfl) rfl rfl) (zw_gt (zw_gt rfl rfl rfl) rfl rfl) (zw_gt zw_g1 rfl rfl) zw_g1 (fun H1 w1 w2 => ⟨H1, rfl, w1, w2⟩)
