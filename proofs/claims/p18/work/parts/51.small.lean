/-! ===== small methods of the reference, exactly (printed) ===== -/
theorem zw_ex {L : Nat} {σ : Nat → Int32} {d j : Nat} {as : List zp_V} {H : zp_H} {Y : zp_X} (h : ∃ X, zp_Call L σ d j as H X ∧ X = Y) : zp_Call L σ d j as H Y := by
  obtain ⟨X, h, rfl⟩ := h
  exact h
def zm_175 : za_MI := (yX12_isGood, prog_14_method_18_code, 1, (some FieldType.boolean), 12, 0, 0, [], za_i175)
theorem zm_175_t : za_MT 175 = some zm_175 := rfl
def zm_180 : za_MI := (yX12_wrong, prog_14_method_17_code, 2, none, 12, 0, 0, [], za_i180)
theorem zm_180_t : za_MT 180 = some zm_180 := rfl
def zm_194 : za_MI := (yX12_isSign, prog_14_method_19_code, 2, (some FieldType.boolean), 12, 0, 0, [], za_i194)
theorem zm_194_t : za_MT 194 = some zm_194 := rfl
def zm_196 : za_MI := (yX12_waitsFor, prog_14_method_29_code, 2, none, 12, 0, 0, [], za_i196)
theorem zm_196_t : za_MT 196 = some zm_196 := rfl
def zm_198 : za_MI := (yX12_puts, prog_14_method_25_code, 2, none, 12, 0, 0, [], za_i198)
theorem zm_198_t : za_MT 198 = some zm_198 := rfl
def zm_200 : za_MI := (yX12_isOpen, prog_14_method_26_code, 1, (some FieldType.boolean), 12, 0, 0, [], za_i200)
theorem zm_200_t : za_MT 200 = some zm_200 := rfl
theorem zq_good1 {L : Nat} {σ : Nat → Int32} {d : Nat} {H : zp_H} (W : zw_W H) (h : (H.2.1 72 23).toInt = 0) : zp_Call L σ (d + 1) 175 [.inr (.inr (some 73))] H (.inl (some (.inl (Int32.ofInt 1))), H) := by
  refine zw_ex (zw_met zm_175_t rfl rfl ?_)
  refine zw_ld (n := 1) (k := 0) (f := zp_isR) (pc' := 1) rfl rfl rfl rfl rfl ?_
  refine zw_gI (q := 72) (pc' := 4) W rfl rfl rfl rfl rfl rfl ?_
  refine zw_bne1 (g := 11) (pc' := 7) rfl rfl rfl rfl (fun hb => ?_) (fun hb => ?_)
  · exact absurd h hb
  · refine zw_s (pc' := 8) rfl rfl ?_
    refine zw_s (pc' := 12) rfl rfl ?_
    refine zw_rz rfl rfl (by decide) ?_
    rfl

theorem zq_good0 {L : Nat} {σ : Nat → Int32} {d : Nat} {H : zp_H} (W : zw_W H) (h : (H.2.1 72 23).toInt ≠ 0) : zp_Call L σ (d + 1) 175 [.inr (.inr (some 73))] H (.inl (some (.inl (Int32.ofInt 0))), H) := by
  refine zw_ex (zw_met zm_175_t rfl rfl ?_)
  refine zw_ld (n := 1) (k := 0) (f := zp_isR) (pc' := 1) rfl rfl rfl rfl rfl ?_
  refine zw_gI (q := 72) (pc' := 4) W rfl rfl rfl rfl rfl rfl ?_
  refine zw_bne1 (g := 11) (pc' := 7) rfl rfl rfl rfl (fun hb => ?_) (fun hb => ?_)
  · refine zw_s (pc' := 12) rfl rfl ?_
    refine zw_rz rfl rfl (by decide) ?_
    rfl
  · exact absurd hb h

theorem zq_sign1 {L : Nat} {σ : Nat → Int32} {d : Nat} {H : zp_H} (W : zw_W H) {y : Int32} (h : (H.2.1 72 28).toInt = 3 ∧ (H.2.1 72 32).toInt = y.toInt) : zp_Call L σ (d + 1) 194 [.inr (.inr (some 73)), .inl y] H (.inl (some (.inl (Int32.ofInt 1))), H) := by
  refine zw_ex (zw_met zm_194_t rfl rfl ?_)
  refine zw_ld (n := 1) (k := 0) (f := zp_isR) (pc' := 1) rfl rfl rfl rfl rfl ?_
  refine zw_gI (q := 72) (pc' := 4) W rfl rfl rfl rfl rfl rfl ?_
  refine zw_s (pc' := 5) rfl rfl ?_
  refine zw_bne2 (g := 20) (pc' := 8) rfl rfl rfl rfl (rfl : _ = (3 : Int)) (fun h1 => ?_) (fun h1 => ?_)
  · exact absurd h.1 h1
  · refine zw_ld (n := 1) (k := 0) (f := zp_isR) (pc' := 9) rfl rfl rfl rfl rfl ?_
    refine zw_gI (q := 72) (pc' := 12) W rfl rfl rfl rfl rfl rfl ?_
    refine zw_ld (n := 1) (k := 1) (f := zp_isI) (pc' := 13) rfl rfl rfl rfl rfl ?_
    refine zw_bne2 (g := 20) (pc' := 16) rfl rfl rfl rfl rfl (fun h2 => ?_) (fun h2 => ?_)
    · exact absurd h.2 h2
    · refine zw_s (pc' := 17) rfl rfl ?_
      refine zw_s (pc' := 21) rfl rfl ?_
      refine zw_rz rfl rfl (by decide) ?_
      rfl

theorem zq_sign0 {L : Nat} {σ : Nat → Int32} {d : Nat} {H : zp_H} (W : zw_W H) {y : Int32} (h : ¬ ((H.2.1 72 28).toInt = 3 ∧ (H.2.1 72 32).toInt = y.toInt)) : zp_Call L σ (d + 1) 194 [.inr (.inr (some 73)), .inl y] H (.inl (some (.inl (Int32.ofInt 0))), H) := by
  refine zw_ex (zw_met zm_194_t rfl rfl ?_)
  refine zw_ld (n := 1) (k := 0) (f := zp_isR) (pc' := 1) rfl rfl rfl rfl rfl ?_
  refine zw_gI (q := 72) (pc' := 4) W rfl rfl rfl rfl rfl rfl ?_
  refine zw_s (pc' := 5) rfl rfl ?_
  refine zw_bne2 (g := 20) (pc' := 8) rfl rfl rfl rfl (rfl : _ = (3 : Int)) (fun h1 => ?_) (fun h1 => ?_)
  · refine zw_s (pc' := 21) rfl rfl ?_
    refine zw_rz rfl rfl (by decide) ?_
    rfl
  · refine zw_ld (n := 1) (k := 0) (f := zp_isR) (pc' := 9) rfl rfl rfl rfl rfl ?_
    refine zw_gI (q := 72) (pc' := 12) W rfl rfl rfl rfl rfl rfl ?_
    refine zw_ld (n := 1) (k := 1) (f := zp_isI) (pc' := 13) rfl rfl rfl rfl rfl ?_
    refine zw_bne2 (g := 20) (pc' := 16) rfl rfl rfl rfl rfl (fun h2 => ?_) (fun h2 => ?_)
    · refine zw_s (pc' := 21) rfl rfl ?_
      refine zw_rz rfl rfl (by decide) ?_
      rfl
    · exact absurd ⟨h1, h2⟩ h

theorem zq_open1 {L : Nat} {σ : Nat → Int32} {d : Nat} {H : zp_H} (W : zw_W H) {y : Int32} (h : 14 ≤ y.toInt) : zp_Call L σ (d + 1) 200 [.inl y] H (.inl (some (.inl (Int32.ofInt 1))), H) := by
  refine zw_ex (zw_met zm_200_t rfl rfl ?_)
  refine zw_ld (n := 1) (k := 0) (f := zp_isI) (pc' := 1) rfl rfl rfl rfl rfl ?_
  refine zw_s (pc' := 3) rfl rfl ?_
  refine zw_blt2 (g := 10) (pc' := 6) rfl rfl rfl rfl (rfl : _ = (14 : Int)) (fun h1 => ?_) (fun h1 => ?_)
  · exact absurd h1 (by omega)
  · refine zw_s (pc' := 7) rfl rfl ?_
    refine zw_s (pc' := 11) rfl rfl ?_
    refine zw_rz rfl rfl (by decide) ?_
    rfl

theorem zq_open0 {L : Nat} {σ : Nat → Int32} {d : Nat} {H : zp_H} (W : zw_W H) {y : Int32} (h : y.toInt < 14) : zp_Call L σ (d + 1) 200 [.inl y] H (.inl (some (.inl (Int32.ofInt 0))), H) := by
  refine zw_ex (zw_met zm_200_t rfl rfl ?_)
  refine zw_ld (n := 1) (k := 0) (f := zp_isI) (pc' := 1) rfl rfl rfl rfl rfl ?_
  refine zw_s (pc' := 3) rfl rfl ?_
  refine zw_blt2 (g := 10) (pc' := 6) rfl rfl rfl rfl (rfl : _ = (14 : Int)) (fun h1 => ?_) (fun h1 => ?_)
  · refine zw_s (pc' := 11) rfl rfl ?_
    refine zw_rz rfl rfl (by decide) ?_
    rfl
  · exact absurd h1 (by omega)

theorem zq_wrong1 {L : Nat} {σ : Nat → Int32} {d : Nat} {H : zp_H} (W : zw_W H) {y : Int32} (h : (H.2.1 72 23).toInt ≠ 0) : zp_Call L σ (d + 1) 180 [.inr (.inr (some 73)), .inl y] H (.inl none, H) := by
  refine zw_ex (zw_met zm_180_t rfl rfl ?_)
  refine zw_ld (n := 1) (k := 0) (f := zp_isR) (pc' := 1) rfl rfl rfl rfl rfl ?_
  refine zw_gI (q := 72) (pc' := 4) W rfl rfl rfl rfl rfl rfl ?_
  refine zw_beq1 (g := 8) (pc' := 7) rfl rfl rfl rfl (fun h1 => ?_) (fun h1 => ?_)
  · exact absurd h1 h
  · refine zw_rn rfl rfl ?_
    rfl

theorem zq_wrong0 {L : Nat} {σ : Nat → Int32} {d : Nat} {H : zp_H} (W : zw_W H) {y : Int32} (h : (H.2.1 72 23).toInt = 0) : zp_Call L σ (d + 1) 180 [.inr (.inr (some 73)), .inl y] H (.inl none, zw_I (zw_I H 72 23 y) 72 24 (H.2.1 72 29)) := by
  refine zw_ex (zw_met zm_180_t rfl rfl ?_)
  refine zw_ld (n := 1) (k := 0) (f := zp_isR) (pc' := 1) rfl rfl rfl rfl rfl ?_
  refine zw_gI (q := 72) (pc' := 4) W rfl rfl rfl rfl rfl rfl ?_
  refine zw_beq1 (g := 8) (pc' := 7) rfl rfl rfl rfl (fun h1 => ?_) (fun h1 => ?_)
  · refine zw_ld (n := 1) (k := 0) (f := zp_isR) (pc' := 9) rfl rfl rfl rfl rfl ?_
    refine zw_ld (n := 1) (k := 1) (f := zp_isI) (pc' := 10) rfl rfl rfl rfl rfl ?_
    refine zw_pI (q := 72) (pc' := 13) W rfl rfl rfl rfl rfl rfl ?_
    refine zw_ld (n := 1) (k := 0) (f := zp_isR) (pc' := 14) rfl rfl rfl rfl rfl ?_
    refine zw_ld (n := 1) (k := 0) (f := zp_isR) (pc' := 15) rfl rfl rfl rfl rfl ?_
    refine zw_gI (q := 72) (pc' := 18) W rfl rfl rfl rfl (zw_ne rfl rfl) rfl ?_
    refine zw_pI (q := 72) (pc' := 21) W rfl rfl rfl rfl rfl rfl ?_
    refine zw_rn rfl rfl ?_
    rfl
  · exact absurd h h1

theorem zq_puts {L : Nat} {σ : Nat → Int32} {d : Nat} {H : zp_H} (W : zw_W H) {y : Int32} (h : 0 ≤ (H.2.1 72 45).toInt ∧ (H.2.1 72 45).toInt < (1600 : Nat)) : zp_Call L σ (d + 1) 198 [.inr (.inr (some 73)), .inl y] H (.inl none, zw_I (zw_I H 90 (H.2.1 72 45).toInt.toNat y) 72 45 (H.2.1 72 45 + Int32.ofInt 1)) := by
  refine zw_ex (zw_met zm_198_t rfl rfl ?_)
  refine zw_ld (n := 1) (k := 0) (f := zp_isR) (pc' := 1) rfl rfl rfl rfl rfl ?_
  refine zw_gR (q := 72) (pc' := 4) W rfl rfl rfl rfl (W.2 72 59 _ rfl) rfl ?_
  refine zw_ld (n := 1) (k := 0) (f := zp_isR) (pc' := 5) rfl rfl rfl rfl rfl ?_
  refine zw_gI (q := 72) (pc' := 8) W rfl rfl rfl rfl rfl rfl ?_
  refine zw_ld (n := 1) (k := 1) (f := zp_isI) (pc' := 9) rfl rfl rfl rfl rfl ?_
  refine zw_is (q := 90) (pc' := 10) W rfl rfl (by decide) (h) rfl ?_
  refine zw_ld (n := 1) (k := 0) (f := zp_isR) (pc' := 11) rfl rfl rfl rfl rfl ?_
  refine zw_s (pc' := 12) rfl rfl ?_
  refine zw_gI (q := 72) (pc' := 15) W rfl rfl rfl rfl (zw_ne rfl rfl) rfl ?_
  refine zw_s (pc' := 16) rfl rfl ?_
  refine zw_iadd (pc' := 17) rfl rfl ?_
  refine zw_pI (q := 72) (pc' := 20) W rfl rfl rfl rfl rfl rfl ?_
  refine zw_rn rfl rfl ?_
  rfl

theorem zq_waits {L : Nat} {σ : Nat → Int32} {d : Nat} {H : zp_H} (W : zw_W H) {y : Int32} (h : 0 ≤ (H.2.1 72 46).toInt ∧ (H.2.1 72 46).toInt < (800 : Nat)) : zp_Call L σ (d + 1) 196 [.inr (.inr (some 73)), .inl y] H (.inl none, zw_I (zw_I H 91 (H.2.1 72 46).toInt.toNat y) 72 46 (H.2.1 72 46 + Int32.ofInt 1)) := by
  refine zw_ex (zw_met zm_196_t rfl rfl ?_)
  refine zw_ld (n := 1) (k := 0) (f := zp_isR) (pc' := 1) rfl rfl rfl rfl rfl ?_
  refine zw_gR (q := 72) (pc' := 4) W rfl rfl rfl rfl (W.2 72 60 _ rfl) rfl ?_
  refine zw_ld (n := 1) (k := 0) (f := zp_isR) (pc' := 5) rfl rfl rfl rfl rfl ?_
  refine zw_gI (q := 72) (pc' := 8) W rfl rfl rfl rfl rfl rfl ?_
  refine zw_ld (n := 1) (k := 1) (f := zp_isI) (pc' := 9) rfl rfl rfl rfl rfl ?_
  refine zw_is (q := 91) (pc' := 10) W rfl rfl (by decide) (h) rfl ?_
  refine zw_ld (n := 1) (k := 0) (f := zp_isR) (pc' := 11) rfl rfl rfl rfl rfl ?_
  refine zw_s (pc' := 12) rfl rfl ?_
  refine zw_gI (q := 72) (pc' := 15) W rfl rfl rfl rfl (zw_ne rfl rfl) rfl ?_
  refine zw_s (pc' := 16) rfl rfl ?_
  refine zw_iadd (pc' := 17) rfl rfl ?_
  refine zw_pI (q := 72) (pc' := 20) W rfl rfl rfl rfl rfl rfl ?_
  refine zw_rn rfl rfl ?_
  rfl
