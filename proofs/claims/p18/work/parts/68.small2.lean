/-! ===== the reference writes a mark ===== -/
def zm_170 : za_MI := (yX12_right, prog_14_method_3_code, 3, (some FieldType.boolean), 12, 0, 0, [], za_i170)
theorem zm_170_t : za_MT 170 = some zm_170 := rfl
def zm_210 : za_MI := (yX12_isSlate, prog_14_method_45_code, 2, (some FieldType.boolean), 12, 0, 0, [], za_i210)
theorem zm_210_t : za_MT 210 = some zm_210 := rfl
def zm_212 : za_MI := (yX12_marks, prog_14_method_49_code, 2, (some FieldType.int), 12, 0, 0, [], za_i212)
theorem zm_212_t : za_MT 212 = some zm_212 := rfl
def zm_214 : za_MI := (yX12_refuses, prog_14_method_53_code, 1, (some FieldType.int), 12, 0, 0, [], za_i214)
theorem zm_214_t : za_MT 214 = some zm_214 := rfl
theorem zq_right1 {L : Nat} {σ : Nat → Int32} {d : Nat} {H : zp_H} (W : zw_W H) {y : Int32} (h : (H.2.1 72 0).toInt = 0) : zp_Call L σ (d + 1) 170 [.inr (.inr (some 73)), .inl (Int32.ofInt 1), .inl y] H (.inl (some (.inl (Int32.ofInt 1))), H) := by
  refine zw_ex (zw_met zm_170_t rfl rfl ?_)
  refine zw_ld (n := 1) (k := 0) (f := zp_isR) (pc' := 1) rfl rfl rfl rfl rfl ?_
  refine zw_gI (q := 72) (pc' := 4) W rfl rfl rfl rfl rfl rfl ?_
  refine zw_bne1 (g := 16) (pc' := 7) rfl rfl rfl rfl (fun h1 => ?_) (fun h1 => ?_)
  · exact absurd h h1
  · refine zw_ld (n := 1) (k := 1) (f := zp_isI) (pc' := 8) rfl rfl rfl rfl rfl ?_
    refine zw_bne1 (g := 16) (pc' := 11) rfl rfl rfl (rfl : _ = (1 : Int)) (fun hb => ?_) (fun h9 => absurd h9 (by decide))
    refine zw_ld (n := 1) (k := 0) (f := zp_isR) (pc' := 17) rfl rfl rfl rfl rfl ?_
    refine zw_gI (q := 72) (pc' := 20) W rfl rfl rfl rfl rfl rfl ?_
    refine zw_bne1 (g := 27) (pc' := 23) rfl rfl rfl rfl (fun h3 => ?_) (fun h3 => ?_)
    · exact absurd h h3
    · refine zw_s (pc' := 24) rfl rfl ?_
      refine zw_s (pc' := 28) rfl rfl ?_
      refine zw_rz rfl rfl (by decide) ?_
      rfl

theorem zq_right0 {L : Nat} {σ : Nat → Int32} {d : Nat} {H : zp_H} (W : zw_W H) {y : Int32} (h : (H.2.1 72 0).toInt = 0) (hy : y.toInt ≠ 0) : zp_Call L σ (d + 1) 170 [.inr (.inr (some 73)), .inl (Int32.ofInt 0), .inl y] H (.inl (some (.inl (Int32.ofInt 0))), zw_I H 72 0 y) := by
  refine zw_ex (zw_met zm_170_t rfl rfl ?_)
  refine zw_ld (n := 1) (k := 0) (f := zp_isR) (pc' := 1) rfl rfl rfl rfl rfl ?_
  refine zw_gI (q := 72) (pc' := 4) W rfl rfl rfl rfl rfl rfl ?_
  refine zw_bne1 (g := 16) (pc' := 7) rfl rfl rfl rfl (fun h1 => ?_) (fun h1 => ?_)
  · exact absurd h h1
  · refine zw_ld (n := 1) (k := 1) (f := zp_isI) (pc' := 8) rfl rfl rfl rfl rfl ?_
    refine zw_bne1 (g := 16) (pc' := 11) rfl rfl rfl (rfl : _ = (0 : Int)) (fun h9 => absurd h9 (by decide)) (fun hb => ?_)
    refine zw_ld (n := 1) (k := 0) (f := zp_isR) (pc' := 12) rfl rfl rfl rfl rfl ?_
    refine zw_ld (n := 1) (k := 2) (f := zp_isI) (pc' := 13) rfl rfl rfl rfl rfl ?_
    refine zw_pI (q := 72) (pc' := 16) W rfl rfl rfl rfl rfl rfl ?_
    refine zw_ld (n := 1) (k := 0) (f := zp_isR) (pc' := 17) rfl rfl rfl rfl rfl ?_
    refine zw_gI (q := 72) (pc' := 20) W rfl rfl rfl rfl zw_eq rfl ?_
    refine zw_bne1 (g := 27) (pc' := 23) rfl rfl rfl rfl (fun h3 => ?_) (fun h3 => ?_)
    · refine zw_s (pc' := 28) rfl rfl ?_
      refine zw_rz rfl rfl (by decide) ?_
      rfl
    · exact absurd h3 hy

theorem zq_slate1 {L : Nat} {σ : Nat → Int32} {d : Nat} {H : zp_H} (W : zw_W H) {x : Int32} (h : (H.2.1 72 0).toInt = 0) (hx : 0 ≤ x.toInt ∧ x.toInt < (H.2.1 72 5).toInt) : zp_Call L σ (d + 2) 210 [.inr (.inr (some 73)), .inl x] H (.inl (some (.inl (Int32.ofInt 1))), H) := by
  refine zw_ex (zw_met zm_210_t rfl rfl ?_)
  refine zw_ld (n := 1) (k := 0) (f := zp_isR) (pc' := 1) rfl rfl rfl rfl rfl ?_
  refine zw_ld (n := 1) (k := 1) (f := zp_isI) (pc' := 2) rfl rfl rfl rfl rfl ?_
  refine zw_blt1 (g := 17) (pc' := 5) rfl rfl rfl rfl (fun h1 => ?_) (fun h1 => ?_)
  · omega
  · refine zw_ld (n := 1) (k := 1) (f := zp_isI) (pc' := 6) rfl rfl rfl rfl rfl ?_
    refine zw_ld (n := 1) (k := 0) (f := zp_isR) (pc' := 7) rfl rfl rfl rfl rfl ?_
    refine zw_gI (q := 72) (pc' := 10) W rfl rfl rfl rfl rfl rfl ?_
    refine zw_bge2 (g := 17) (pc' := 13) rfl rfl rfl rfl rfl (fun h2 => ?_) (fun h2 => ?_)
    · omega
    · refine zw_s (pc' := 14) rfl rfl ?_
      refine zw_s (pc' := 18) rfl rfl ?_
      refine zw_s (pc' := 19) rfl rfl ?_
      refine zw_c (pc' := 22) (zw_cv (q := 72) (Y := zm_170) W.1 rfl rfl zm_170_t rfl rfl) rfl rfl rfl rfl rfl (zq_right1 W h) ?_
      refine zw_rz rfl rfl (by decide) ?_
      rfl

theorem zq_slate0 {L : Nat} {σ : Nat → Int32} {d : Nat} {H : zp_H} (W : zw_W H) {x : Int32} (h : (H.2.1 72 0).toInt = 0) (hx : ¬ (0 ≤ x.toInt ∧ x.toInt < (H.2.1 72 5).toInt)) : zp_Call L σ (d + 2) 210 [.inr (.inr (some 73)), .inl x] H (.inl (some (.inl (Int32.ofInt 0))), zw_I H 72 0 (Int32.ofInt 1)) := by
  refine zw_ex (zw_met zm_210_t rfl rfl ?_)
  refine zw_ld (n := 1) (k := 0) (f := zp_isR) (pc' := 1) rfl rfl rfl rfl rfl ?_
  refine zw_ld (n := 1) (k := 1) (f := zp_isI) (pc' := 2) rfl rfl rfl rfl rfl ?_
  refine zw_blt1 (g := 17) (pc' := 5) rfl rfl rfl rfl (fun h1 => ?_) (fun h1 => ?_)
  · refine zw_s (pc' := 18) rfl rfl ?_
    refine zw_s (pc' := 19) rfl rfl ?_
    refine zw_c (pc' := 22) (zw_cv (q := 72) (Y := zm_170) W.1 rfl rfl zm_170_t rfl rfl) rfl rfl rfl rfl rfl (zq_right0 W h (by decide)) ?_
    refine zw_rz rfl rfl (by decide) ?_
    rfl
  · refine zw_ld (n := 1) (k := 1) (f := zp_isI) (pc' := 6) rfl rfl rfl rfl rfl ?_
    refine zw_ld (n := 1) (k := 0) (f := zp_isR) (pc' := 7) rfl rfl rfl rfl rfl ?_
    refine zw_gI (q := 72) (pc' := 10) W rfl rfl rfl rfl rfl rfl ?_
    refine zw_bge2 (g := 17) (pc' := 13) rfl rfl rfl rfl rfl (fun h2 => ?_) (fun h2 => ?_)
    · refine zw_s (pc' := 18) rfl rfl ?_
      refine zw_s (pc' := 19) rfl rfl ?_
      refine zw_c (pc' := 22) (zw_cv (q := 72) (Y := zm_170) W.1 rfl rfl zm_170_t rfl rfl) rfl rfl rfl rfl rfl (zq_right0 W h (by decide)) ?_
      refine zw_rz rfl rfl (by decide) ?_
      rfl
    · exact absurd ⟨h1, h2⟩ hx

theorem zq_marks {L : Nat} {σ : Nat → Int32} {d : Nat} {H : zp_H} (W : zw_W H) {x : Int32} (hx : 0 ≤ x.toInt ∧ x.toInt ≤ 7) : zp_Call L σ (d + 1) 212 [.inr (.inr (some 73)), .inl x] H (.inl (some (.inl (H.2.1 74 (4 * x.toInt.toNat + 2)))), H) := by
  refine zw_ex (zw_met zm_212_t rfl rfl ?_)
  have e1 : (Int32.ofInt 4 * x).toInt = 4 * x.toInt := zt_mul (by decide) (by omega)
  have e2 : (Int32.ofInt 4 * x + Int32.ofInt 2).toInt = 4 * x.toInt + 2 := by rw [zt_add (by decide) (by omega), e1]
  have e3 : (Int32.ofInt 4 * x + Int32.ofInt 2).toInt.toNat = 4 * x.toInt.toNat + 2 := by omega
  refine zw_ld (n := 1) (k := 0) (f := zp_isR) (pc' := 1) rfl rfl rfl rfl rfl ?_
  refine zw_gR (q := 72) (pc' := 4) W rfl rfl rfl rfl (W.2 72 14 _ rfl) rfl ?_
  refine zw_s (pc' := 5) rfl rfl ?_
  refine zw_ld (n := 1) (k := 1) (f := zp_isI) (pc' := 6) rfl rfl rfl rfl rfl ?_
  refine zw_imul (pc' := 7) rfl rfl ?_
  refine zw_s (pc' := 8) rfl rfl ?_
  refine zw_iadd (pc' := 9) rfl rfl ?_
  refine zw_ia (q := 74) (pc' := 10) W rfl rfl (by decide) (⟨by omega, by show _ < ((32 : Nat) : Int); omega⟩) rfl rfl ?_
  refine zw_ri rfl rfl ?_
  rw [e3]

theorem zq_refuses {L : Nat} {σ : Nat → Int32} {d : Nat} {H : zp_H} (W : zw_W H)  : zp_Call L σ (d + 1) 214 [.inr (.inr (some 73))] H (.inl (some (.inl (Int32.ofInt (-1)))), zw_I H 82 1 (H.2.1 82 1 + Int32.ofInt 1)) := by
  refine zw_ex (zw_met zm_214_t rfl rfl ?_)
  refine zw_ld (n := 1) (k := 0) (f := zp_isR) (pc' := 1) rfl rfl rfl rfl rfl ?_
  refine zw_gR (q := 72) (pc' := 4) W rfl rfl rfl rfl (W.2 72 25 _ rfl) rfl ?_
  refine zw_s (pc' := 5) rfl rfl ?_
  refine zw_s (pc' := 6) rfl rfl ?_
  refine zw_ia (q := 82) (pc' := 7) W rfl rfl (by decide) (⟨by decide, by decide⟩) rfl rfl ?_
  refine zw_s (pc' := 8) rfl rfl ?_
  refine zw_iadd (pc' := 9) rfl rfl ?_
  refine zw_is (q := 82) (pc' := 10) W rfl rfl (by decide) (⟨by decide, by decide⟩) rfl ?_
  refine zw_s (pc' := 11) rfl rfl ?_
  refine zw_ri rfl rfl ?_
  rfl
