/-! ===== the words that the reference knows ===== -/
def zm_178 : za_MI := (yX12_letters, prog_14_method_15_code, 1, (some FieldType.long), 12, 0, 0, [], za_i178)
theorem zm_178_t : za_MT 178 = some zm_178 := rfl
def zm_179 : za_MI := (yX12_spelled, prog_14_method_14_code, 9, (some FieldType.long), 12, 0, 0, [], za_i179)
theorem zm_179_t : za_MT 179 = some zm_179 := rfl
theorem zl_sp0 {L : Nat} {σ : Nat → Int32} {d : Nat} {H : zp_H} : zp_Call L σ (d + 1) 179 [.inl (Int32.ofInt 110), .inl (Int32.ofInt 111), .inl (Int32.ofInt 114), .inl (Int32.ofInt 116), .inl (Int32.ofInt 104), .inl (Int32.ofInt 0), .inl (Int32.ofInt 0)] H (.inl (some (.inr (.inl 15190664))), H) := by
  refine zw_ex (zw_met zm_179_t rfl rfl ?_)
  refine zw_ld (n := 1) (k := 0) (f := zp_isI) (pc' := 1) rfl rfl rfl rfl rfl ?_
  refine zw_s (pc' := 2) rfl rfl ?_
  refine zw_s (pc' := 5) rfl rfl ?_
  refine zw_lsub (pc' := 6) rfl rfl ?_
  refine zw_sl (n := 2) (k := 7) (pc' := 8) rfl rfl rfl rfl ?_
  refine zw_ld (n := 1) (k := 1) (f := zp_isI) (pc' := 9) rfl rfl (zw_gt2 rfl rfl rfl) rfl rfl ?_
  refine zw_beq1 (g := 24) (pc' := 12) rfl rfl rfl (rfl : _ = (111 : Int)) (fun h9 => absurd h9 (by decide)) (fun hb => ?_)
  refine zw_ld (n := 2) (k := 7) (f := zp_isL) (pc' := 14) rfl rfl zw_g2 rfl rfl ?_
  refine zw_s (pc' := 15) rfl rfl ?_
  refine zw_lshl (pc' := 16) rfl rfl ?_
  refine zw_ld (n := 1) (k := 1) (f := zp_isI) (pc' := 17) rfl rfl (zw_gt2 rfl rfl rfl) rfl rfl ?_
  refine zw_s (pc' := 19) rfl rfl ?_
  refine zw_isub (pc' := 20) rfl rfl ?_
  refine zw_s (pc' := 21) rfl rfl ?_
  refine zw_lor (pc' := 22) rfl rfl ?_
  refine zw_sl (n := 2) (k := 7) (pc' := 24) rfl rfl rfl rfl ?_
  refine zw_ld (n := 1) (k := 2) (f := zp_isI) (pc' := 25) rfl rfl (zw_gt2 (zw_gt2 rfl rfl rfl) rfl rfl) rfl rfl ?_
  refine zw_beq1 (g := 40) (pc' := 28) rfl rfl rfl (rfl : _ = (114 : Int)) (fun h9 => absurd h9 (by decide)) (fun hb => ?_)
  refine zw_ld (n := 2) (k := 7) (f := zp_isL) (pc' := 30) rfl rfl zw_g2 rfl rfl ?_
  refine zw_s (pc' := 31) rfl rfl ?_
  refine zw_lshl (pc' := 32) rfl rfl ?_
  refine zw_ld (n := 1) (k := 2) (f := zp_isI) (pc' := 33) rfl rfl (zw_gt2 (zw_gt2 rfl rfl rfl) rfl rfl) rfl rfl ?_
  refine zw_s (pc' := 35) rfl rfl ?_
  refine zw_isub (pc' := 36) rfl rfl ?_
  refine zw_s (pc' := 37) rfl rfl ?_
  refine zw_lor (pc' := 38) rfl rfl ?_
  refine zw_sl (n := 2) (k := 7) (pc' := 40) rfl rfl rfl rfl ?_
  refine zw_ld (n := 1) (k := 3) (f := zp_isI) (pc' := 41) rfl rfl (zw_gt2 (zw_gt2 (zw_gt2 rfl rfl rfl) rfl rfl) rfl rfl) rfl rfl ?_
  refine zw_beq1 (g := 56) (pc' := 44) rfl rfl rfl (rfl : _ = (116 : Int)) (fun h9 => absurd h9 (by decide)) (fun hb => ?_)
  refine zw_ld (n := 2) (k := 7) (f := zp_isL) (pc' := 46) rfl rfl zw_g2 rfl rfl ?_
  refine zw_s (pc' := 47) rfl rfl ?_
  refine zw_lshl (pc' := 48) rfl rfl ?_
  refine zw_ld (n := 1) (k := 3) (f := zp_isI) (pc' := 49) rfl rfl (zw_gt2 (zw_gt2 (zw_gt2 rfl rfl rfl) rfl rfl) rfl rfl) rfl rfl ?_
  refine zw_s (pc' := 51) rfl rfl ?_
  refine zw_isub (pc' := 52) rfl rfl ?_
  refine zw_s (pc' := 53) rfl rfl ?_
  refine zw_lor (pc' := 54) rfl rfl ?_
  refine zw_sl (n := 2) (k := 7) (pc' := 56) rfl rfl rfl rfl ?_
  refine zw_ld (n := 2) (k := 4) (f := zp_isI) (pc' := 58) rfl rfl (zw_gt2 (zw_gt2 (zw_gt2 (zw_gt2 rfl rfl rfl) rfl rfl) rfl rfl) rfl rfl) rfl rfl ?_
  refine zw_beq1 (g := 74) (pc' := 61) rfl rfl rfl (rfl : _ = (104 : Int)) (fun h9 => absurd h9 (by decide)) (fun hb => ?_)
  refine zw_ld (n := 2) (k := 7) (f := zp_isL) (pc' := 63) rfl rfl zw_g2 rfl rfl ?_
  refine zw_s (pc' := 64) rfl rfl ?_
  refine zw_lshl (pc' := 65) rfl rfl ?_
  refine zw_ld (n := 2) (k := 4) (f := zp_isI) (pc' := 67) rfl rfl (zw_gt2 (zw_gt2 (zw_gt2 (zw_gt2 rfl rfl rfl) rfl rfl) rfl rfl) rfl rfl) rfl rfl ?_
  refine zw_s (pc' := 69) rfl rfl ?_
  refine zw_isub (pc' := 70) rfl rfl ?_
  refine zw_s (pc' := 71) rfl rfl ?_
  refine zw_lor (pc' := 72) rfl rfl ?_
  refine zw_sl (n := 2) (k := 7) (pc' := 74) rfl rfl rfl rfl ?_
  refine zw_ld (n := 2) (k := 5) (f := zp_isI) (pc' := 76) rfl rfl (zw_gt2 (zw_gt2 (zw_gt2 (zw_gt2 (zw_gt2 rfl rfl rfl) rfl rfl) rfl rfl) rfl rfl) rfl rfl) rfl rfl ?_
  refine zw_beq1 (g := 92) (pc' := 79) rfl rfl rfl (rfl : _ = (0 : Int)) (fun hb => ?_) (fun h9 => absurd h9 (by decide))
  refine zw_ld (n := 2) (k := 6) (f := zp_isI) (pc' := 94) rfl rfl (zw_gt2 (zw_gt2 (zw_gt2 (zw_gt2 (zw_gt2 rfl rfl rfl) rfl rfl) rfl rfl) rfl rfl) rfl rfl) rfl rfl ?_
  refine zw_beq1 (g := 110) (pc' := 97) rfl rfl rfl (rfl : _ = (0 : Int)) (fun hb => ?_) (fun h9 => absurd h9 (by decide))
  refine zw_ld (n := 2) (k := 7) (f := zp_isL) (pc' := 112) rfl rfl zw_g2 rfl rfl ?_
  refine zw_rl rfl rfl ?_
  exact congrArg (fun z => ((Sum.inl (some (Sum.inr (Sum.inl z))), H) : zp_X)) (by decide +kernel)

set_option maxRecDepth 8000 in
theorem zl_le0 {L : Nat} {σ : Nat → Int32} {d : Nat} {H : zp_H} : zp_Call L σ (d + 2) 178 [.inl (Int32.ofInt 0)] H (.inl (some (.inr (.inl 15190664))), H) := by
  refine zw_ex (zw_met zm_178_t rfl rfl ?_)
  refine zw_ld (n := 1) (k := 0) (f := zp_isI) (pc' := 1) rfl rfl rfl rfl rfl ?_
  refine zw_s (pc' := 96) rfl rfl ?_
  refine zw_s (pc' := 98) rfl rfl ?_
  refine zw_s (pc' := 100) rfl rfl ?_
  refine zw_s (pc' := 102) rfl rfl ?_
  refine zw_s (pc' := 104) rfl rfl ?_
  refine zw_s (pc' := 106) rfl rfl ?_
  refine zw_s (pc' := 107) rfl rfl ?_
  refine zw_s (pc' := 108) rfl rfl ?_
  refine zw_c (pc' := 111) (zw_cs (Y := zm_179) rfl rfl zm_179_t) rfl rfl rfl rfl rfl (zl_sp0) ?_
  refine zw_rl rfl rfl ?_
  rfl

theorem zl_sp1 {L : Nat} {σ : Nat → Int32} {d : Nat} {H : zp_H} : zp_Call L σ (d + 1) 179 [.inl (Int32.ofInt 101), .inl (Int32.ofInt 97), .inl (Int32.ofInt 115), .inl (Int32.ofInt 116), .inl (Int32.ofInt 0), .inl (Int32.ofInt 0), .inl (Int32.ofInt 0)] H (.inl (some (.inr (.inl 165492))), H) := by
  refine zw_ex (zw_met zm_179_t rfl rfl ?_)
  refine zw_ld (n := 1) (k := 0) (f := zp_isI) (pc' := 1) rfl rfl rfl rfl rfl ?_
  refine zw_s (pc' := 2) rfl rfl ?_
  refine zw_s (pc' := 5) rfl rfl ?_
  refine zw_lsub (pc' := 6) rfl rfl ?_
  refine zw_sl (n := 2) (k := 7) (pc' := 8) rfl rfl rfl rfl ?_
  refine zw_ld (n := 1) (k := 1) (f := zp_isI) (pc' := 9) rfl rfl (zw_gt2 rfl rfl rfl) rfl rfl ?_
  refine zw_beq1 (g := 24) (pc' := 12) rfl rfl rfl (rfl : _ = (97 : Int)) (fun h9 => absurd h9 (by decide)) (fun hb => ?_)
  refine zw_ld (n := 2) (k := 7) (f := zp_isL) (pc' := 14) rfl rfl zw_g2 rfl rfl ?_
  refine zw_s (pc' := 15) rfl rfl ?_
  refine zw_lshl (pc' := 16) rfl rfl ?_
  refine zw_ld (n := 1) (k := 1) (f := zp_isI) (pc' := 17) rfl rfl (zw_gt2 rfl rfl rfl) rfl rfl ?_
  refine zw_s (pc' := 19) rfl rfl ?_
  refine zw_isub (pc' := 20) rfl rfl ?_
  refine zw_s (pc' := 21) rfl rfl ?_
  refine zw_lor (pc' := 22) rfl rfl ?_
  refine zw_sl (n := 2) (k := 7) (pc' := 24) rfl rfl rfl rfl ?_
  refine zw_ld (n := 1) (k := 2) (f := zp_isI) (pc' := 25) rfl rfl (zw_gt2 (zw_gt2 rfl rfl rfl) rfl rfl) rfl rfl ?_
  refine zw_beq1 (g := 40) (pc' := 28) rfl rfl rfl (rfl : _ = (115 : Int)) (fun h9 => absurd h9 (by decide)) (fun hb => ?_)
  refine zw_ld (n := 2) (k := 7) (f := zp_isL) (pc' := 30) rfl rfl zw_g2 rfl rfl ?_
  refine zw_s (pc' := 31) rfl rfl ?_
  refine zw_lshl (pc' := 32) rfl rfl ?_
  refine zw_ld (n := 1) (k := 2) (f := zp_isI) (pc' := 33) rfl rfl (zw_gt2 (zw_gt2 rfl rfl rfl) rfl rfl) rfl rfl ?_
  refine zw_s (pc' := 35) rfl rfl ?_
  refine zw_isub (pc' := 36) rfl rfl ?_
  refine zw_s (pc' := 37) rfl rfl ?_
  refine zw_lor (pc' := 38) rfl rfl ?_
  refine zw_sl (n := 2) (k := 7) (pc' := 40) rfl rfl rfl rfl ?_
  refine zw_ld (n := 1) (k := 3) (f := zp_isI) (pc' := 41) rfl rfl (zw_gt2 (zw_gt2 (zw_gt2 rfl rfl rfl) rfl rfl) rfl rfl) rfl rfl ?_
  refine zw_beq1 (g := 56) (pc' := 44) rfl rfl rfl (rfl : _ = (116 : Int)) (fun h9 => absurd h9 (by decide)) (fun hb => ?_)
  refine zw_ld (n := 2) (k := 7) (f := zp_isL) (pc' := 46) rfl rfl zw_g2 rfl rfl ?_
  refine zw_s (pc' := 47) rfl rfl ?_
  refine zw_lshl (pc' := 48) rfl rfl ?_
  refine zw_ld (n := 1) (k := 3) (f := zp_isI) (pc' := 49) rfl rfl (zw_gt2 (zw_gt2 (zw_gt2 rfl rfl rfl) rfl rfl) rfl rfl) rfl rfl ?_
  refine zw_s (pc' := 51) rfl rfl ?_
  refine zw_isub (pc' := 52) rfl rfl ?_
  refine zw_s (pc' := 53) rfl rfl ?_
  refine zw_lor (pc' := 54) rfl rfl ?_
  refine zw_sl (n := 2) (k := 7) (pc' := 56) rfl rfl rfl rfl ?_
  refine zw_ld (n := 2) (k := 4) (f := zp_isI) (pc' := 58) rfl rfl (zw_gt2 (zw_gt2 (zw_gt2 (zw_gt2 rfl rfl rfl) rfl rfl) rfl rfl) rfl rfl) rfl rfl ?_
  refine zw_beq1 (g := 74) (pc' := 61) rfl rfl rfl (rfl : _ = (0 : Int)) (fun hb => ?_) (fun h9 => absurd h9 (by decide))
  refine zw_ld (n := 2) (k := 5) (f := zp_isI) (pc' := 76) rfl rfl (zw_gt2 (zw_gt2 (zw_gt2 (zw_gt2 rfl rfl rfl) rfl rfl) rfl rfl) rfl rfl) rfl rfl ?_
  refine zw_beq1 (g := 92) (pc' := 79) rfl rfl rfl (rfl : _ = (0 : Int)) (fun hb => ?_) (fun h9 => absurd h9 (by decide))
  refine zw_ld (n := 2) (k := 6) (f := zp_isI) (pc' := 94) rfl rfl (zw_gt2 (zw_gt2 (zw_gt2 (zw_gt2 rfl rfl rfl) rfl rfl) rfl rfl) rfl rfl) rfl rfl ?_
  refine zw_beq1 (g := 110) (pc' := 97) rfl rfl rfl (rfl : _ = (0 : Int)) (fun hb => ?_) (fun h9 => absurd h9 (by decide))
  refine zw_ld (n := 2) (k := 7) (f := zp_isL) (pc' := 112) rfl rfl zw_g2 rfl rfl ?_
  refine zw_rl rfl rfl ?_
  exact congrArg (fun z => ((Sum.inl (some (Sum.inr (Sum.inl z))), H) : zp_X)) (by decide +kernel)

set_option maxRecDepth 8000 in
theorem zl_le1 {L : Nat} {σ : Nat → Int32} {d : Nat} {H : zp_H} : zp_Call L σ (d + 2) 178 [.inl (Int32.ofInt 1)] H (.inl (some (.inr (.inl 165492))), H) := by
  refine zw_ex (zw_met zm_178_t rfl rfl ?_)
  refine zw_ld (n := 1) (k := 0) (f := zp_isI) (pc' := 1) rfl rfl rfl rfl rfl ?_
  refine zw_s (pc' := 112) rfl rfl ?_
  refine zw_s (pc' := 114) rfl rfl ?_
  refine zw_s (pc' := 116) rfl rfl ?_
  refine zw_s (pc' := 118) rfl rfl ?_
  refine zw_s (pc' := 120) rfl rfl ?_
  refine zw_s (pc' := 121) rfl rfl ?_
  refine zw_s (pc' := 122) rfl rfl ?_
  refine zw_s (pc' := 123) rfl rfl ?_
  refine zw_c (pc' := 126) (zw_cs (Y := zm_179) rfl rfl zm_179_t) rfl rfl rfl rfl rfl (zl_sp1) ?_
  refine zw_rl rfl rfl ?_
  rfl

theorem zl_sp2 {L : Nat} {σ : Nat → Int32} {d : Nat} {H : zp_H} : zp_Call L σ (d + 1) 179 [.inl (Int32.ofInt 115), .inl (Int32.ofInt 111), .inl (Int32.ofInt 117), .inl (Int32.ofInt 116), .inl (Int32.ofInt 104), .inl (Int32.ofInt 0), .inl (Int32.ofInt 0)] H (.inl (some (.inr (.inl 20436616))), H) := by
  refine zw_ex (zw_met zm_179_t rfl rfl ?_)
  refine zw_ld (n := 1) (k := 0) (f := zp_isI) (pc' := 1) rfl rfl rfl rfl rfl ?_
  refine zw_s (pc' := 2) rfl rfl ?_
  refine zw_s (pc' := 5) rfl rfl ?_
  refine zw_lsub (pc' := 6) rfl rfl ?_
  refine zw_sl (n := 2) (k := 7) (pc' := 8) rfl rfl rfl rfl ?_
  refine zw_ld (n := 1) (k := 1) (f := zp_isI) (pc' := 9) rfl rfl (zw_gt2 rfl rfl rfl) rfl rfl ?_
  refine zw_beq1 (g := 24) (pc' := 12) rfl rfl rfl (rfl : _ = (111 : Int)) (fun h9 => absurd h9 (by decide)) (fun hb => ?_)
  refine zw_ld (n := 2) (k := 7) (f := zp_isL) (pc' := 14) rfl rfl zw_g2 rfl rfl ?_
  refine zw_s (pc' := 15) rfl rfl ?_
  refine zw_lshl (pc' := 16) rfl rfl ?_
  refine zw_ld (n := 1) (k := 1) (f := zp_isI) (pc' := 17) rfl rfl (zw_gt2 rfl rfl rfl) rfl rfl ?_
  refine zw_s (pc' := 19) rfl rfl ?_
  refine zw_isub (pc' := 20) rfl rfl ?_
  refine zw_s (pc' := 21) rfl rfl ?_
  refine zw_lor (pc' := 22) rfl rfl ?_
  refine zw_sl (n := 2) (k := 7) (pc' := 24) rfl rfl rfl rfl ?_
  refine zw_ld (n := 1) (k := 2) (f := zp_isI) (pc' := 25) rfl rfl (zw_gt2 (zw_gt2 rfl rfl rfl) rfl rfl) rfl rfl ?_
  refine zw_beq1 (g := 40) (pc' := 28) rfl rfl rfl (rfl : _ = (117 : Int)) (fun h9 => absurd h9 (by decide)) (fun hb => ?_)
  refine zw_ld (n := 2) (k := 7) (f := zp_isL) (pc' := 30) rfl rfl zw_g2 rfl rfl ?_
  refine zw_s (pc' := 31) rfl rfl ?_
  refine zw_lshl (pc' := 32) rfl rfl ?_
  refine zw_ld (n := 1) (k := 2) (f := zp_isI) (pc' := 33) rfl rfl (zw_gt2 (zw_gt2 rfl rfl rfl) rfl rfl) rfl rfl ?_
  refine zw_s (pc' := 35) rfl rfl ?_
  refine zw_isub (pc' := 36) rfl rfl ?_
  refine zw_s (pc' := 37) rfl rfl ?_
  refine zw_lor (pc' := 38) rfl rfl ?_
  refine zw_sl (n := 2) (k := 7) (pc' := 40) rfl rfl rfl rfl ?_
  refine zw_ld (n := 1) (k := 3) (f := zp_isI) (pc' := 41) rfl rfl (zw_gt2 (zw_gt2 (zw_gt2 rfl rfl rfl) rfl rfl) rfl rfl) rfl rfl ?_
  refine zw_beq1 (g := 56) (pc' := 44) rfl rfl rfl (rfl : _ = (116 : Int)) (fun h9 => absurd h9 (by decide)) (fun hb => ?_)
  refine zw_ld (n := 2) (k := 7) (f := zp_isL) (pc' := 46) rfl rfl zw_g2 rfl rfl ?_
  refine zw_s (pc' := 47) rfl rfl ?_
  refine zw_lshl (pc' := 48) rfl rfl ?_
  refine zw_ld (n := 1) (k := 3) (f := zp_isI) (pc' := 49) rfl rfl (zw_gt2 (zw_gt2 (zw_gt2 rfl rfl rfl) rfl rfl) rfl rfl) rfl rfl ?_
  refine zw_s (pc' := 51) rfl rfl ?_
  refine zw_isub (pc' := 52) rfl rfl ?_
  refine zw_s (pc' := 53) rfl rfl ?_
  refine zw_lor (pc' := 54) rfl rfl ?_
  refine zw_sl (n := 2) (k := 7) (pc' := 56) rfl rfl rfl rfl ?_
  refine zw_ld (n := 2) (k := 4) (f := zp_isI) (pc' := 58) rfl rfl (zw_gt2 (zw_gt2 (zw_gt2 (zw_gt2 rfl rfl rfl) rfl rfl) rfl rfl) rfl rfl) rfl rfl ?_
  refine zw_beq1 (g := 74) (pc' := 61) rfl rfl rfl (rfl : _ = (104 : Int)) (fun h9 => absurd h9 (by decide)) (fun hb => ?_)
  refine zw_ld (n := 2) (k := 7) (f := zp_isL) (pc' := 63) rfl rfl zw_g2 rfl rfl ?_
  refine zw_s (pc' := 64) rfl rfl ?_
  refine zw_lshl (pc' := 65) rfl rfl ?_
  refine zw_ld (n := 2) (k := 4) (f := zp_isI) (pc' := 67) rfl rfl (zw_gt2 (zw_gt2 (zw_gt2 (zw_gt2 rfl rfl rfl) rfl rfl) rfl rfl) rfl rfl) rfl rfl ?_
  refine zw_s (pc' := 69) rfl rfl ?_
  refine zw_isub (pc' := 70) rfl rfl ?_
  refine zw_s (pc' := 71) rfl rfl ?_
  refine zw_lor (pc' := 72) rfl rfl ?_
  refine zw_sl (n := 2) (k := 7) (pc' := 74) rfl rfl rfl rfl ?_
  refine zw_ld (n := 2) (k := 5) (f := zp_isI) (pc' := 76) rfl rfl (zw_gt2 (zw_gt2 (zw_gt2 (zw_gt2 (zw_gt2 rfl rfl rfl) rfl rfl) rfl rfl) rfl rfl) rfl rfl) rfl rfl ?_
  refine zw_beq1 (g := 92) (pc' := 79) rfl rfl rfl (rfl : _ = (0 : Int)) (fun hb => ?_) (fun h9 => absurd h9 (by decide))
  refine zw_ld (n := 2) (k := 6) (f := zp_isI) (pc' := 94) rfl rfl (zw_gt2 (zw_gt2 (zw_gt2 (zw_gt2 (zw_gt2 rfl rfl rfl) rfl rfl) rfl rfl) rfl rfl) rfl rfl) rfl rfl ?_
  refine zw_beq1 (g := 110) (pc' := 97) rfl rfl rfl (rfl : _ = (0 : Int)) (fun hb => ?_) (fun h9 => absurd h9 (by decide))
  refine zw_ld (n := 2) (k := 7) (f := zp_isL) (pc' := 112) rfl rfl zw_g2 rfl rfl ?_
  refine zw_rl rfl rfl ?_
  exact congrArg (fun z => ((Sum.inl (some (Sum.inr (Sum.inl z))), H) : zp_X)) (by decide +kernel)

set_option maxRecDepth 8000 in
theorem zl_le2 {L : Nat} {σ : Nat → Int32} {d : Nat} {H : zp_H} : zp_Call L σ (d + 2) 178 [.inl (Int32.ofInt 2)] H (.inl (some (.inr (.inl 20436616))), H) := by
  refine zw_ex (zw_met zm_178_t rfl rfl ?_)
  refine zw_ld (n := 1) (k := 0) (f := zp_isI) (pc' := 1) rfl rfl rfl rfl rfl ?_
  refine zw_s (pc' := 127) rfl rfl ?_
  refine zw_s (pc' := 129) rfl rfl ?_
  refine zw_s (pc' := 131) rfl rfl ?_
  refine zw_s (pc' := 133) rfl rfl ?_
  refine zw_s (pc' := 135) rfl rfl ?_
  refine zw_s (pc' := 137) rfl rfl ?_
  refine zw_s (pc' := 138) rfl rfl ?_
  refine zw_s (pc' := 139) rfl rfl ?_
  refine zw_c (pc' := 142) (zw_cs (Y := zm_179) rfl rfl zm_179_t) rfl rfl rfl rfl rfl (zl_sp2) ?_
  refine zw_rl rfl rfl ?_
  rfl

theorem zl_sp3 {L : Nat} {σ : Nat → Int32} {d : Nat} {H : zp_H} : zp_Call L σ (d + 1) 179 [.inl (Int32.ofInt 119), .inl (Int32.ofInt 101), .inl (Int32.ofInt 115), .inl (Int32.ofInt 116), .inl (Int32.ofInt 0), .inl (Int32.ofInt 0), .inl (Int32.ofInt 0)] H (.inl (some (.inr (.inl 759412))), H) := by
  refine zw_ex (zw_met zm_179_t rfl rfl ?_)
  refine zw_ld (n := 1) (k := 0) (f := zp_isI) (pc' := 1) rfl rfl rfl rfl rfl ?_
  refine zw_s (pc' := 2) rfl rfl ?_
  refine zw_s (pc' := 5) rfl rfl ?_
  refine zw_lsub (pc' := 6) rfl rfl ?_
  refine zw_sl (n := 2) (k := 7) (pc' := 8) rfl rfl rfl rfl ?_
  refine zw_ld (n := 1) (k := 1) (f := zp_isI) (pc' := 9) rfl rfl (zw_gt2 rfl rfl rfl) rfl rfl ?_
  refine zw_beq1 (g := 24) (pc' := 12) rfl rfl rfl (rfl : _ = (101 : Int)) (fun h9 => absurd h9 (by decide)) (fun hb => ?_)
  refine zw_ld (n := 2) (k := 7) (f := zp_isL) (pc' := 14) rfl rfl zw_g2 rfl rfl ?_
  refine zw_s (pc' := 15) rfl rfl ?_
  refine zw_lshl (pc' := 16) rfl rfl ?_
  refine zw_ld (n := 1) (k := 1) (f := zp_isI) (pc' := 17) rfl rfl (zw_gt2 rfl rfl rfl) rfl rfl ?_
  refine zw_s (pc' := 19) rfl rfl ?_
  refine zw_isub (pc' := 20) rfl rfl ?_
  refine zw_s (pc' := 21) rfl rfl ?_
  refine zw_lor (pc' := 22) rfl rfl ?_
  refine zw_sl (n := 2) (k := 7) (pc' := 24) rfl rfl rfl rfl ?_
  refine zw_ld (n := 1) (k := 2) (f := zp_isI) (pc' := 25) rfl rfl (zw_gt2 (zw_gt2 rfl rfl rfl) rfl rfl) rfl rfl ?_
  refine zw_beq1 (g := 40) (pc' := 28) rfl rfl rfl (rfl : _ = (115 : Int)) (fun h9 => absurd h9 (by decide)) (fun hb => ?_)
  refine zw_ld (n := 2) (k := 7) (f := zp_isL) (pc' := 30) rfl rfl zw_g2 rfl rfl ?_
  refine zw_s (pc' := 31) rfl rfl ?_
  refine zw_lshl (pc' := 32) rfl rfl ?_
  refine zw_ld (n := 1) (k := 2) (f := zp_isI) (pc' := 33) rfl rfl (zw_gt2 (zw_gt2 rfl rfl rfl) rfl rfl) rfl rfl ?_
  refine zw_s (pc' := 35) rfl rfl ?_
  refine zw_isub (pc' := 36) rfl rfl ?_
  refine zw_s (pc' := 37) rfl rfl ?_
  refine zw_lor (pc' := 38) rfl rfl ?_
  refine zw_sl (n := 2) (k := 7) (pc' := 40) rfl rfl rfl rfl ?_
  refine zw_ld (n := 1) (k := 3) (f := zp_isI) (pc' := 41) rfl rfl (zw_gt2 (zw_gt2 (zw_gt2 rfl rfl rfl) rfl rfl) rfl rfl) rfl rfl ?_
  refine zw_beq1 (g := 56) (pc' := 44) rfl rfl rfl (rfl : _ = (116 : Int)) (fun h9 => absurd h9 (by decide)) (fun hb => ?_)
  refine zw_ld (n := 2) (k := 7) (f := zp_isL) (pc' := 46) rfl rfl zw_g2 rfl rfl ?_
  refine zw_s (pc' := 47) rfl rfl ?_
  refine zw_lshl (pc' := 48) rfl rfl ?_
  refine zw_ld (n := 1) (k := 3) (f := zp_isI) (pc' := 49) rfl rfl (zw_gt2 (zw_gt2 (zw_gt2 rfl rfl rfl) rfl rfl) rfl rfl) rfl rfl ?_
  refine zw_s (pc' := 51) rfl rfl ?_
  refine zw_isub (pc' := 52) rfl rfl ?_
  refine zw_s (pc' := 53) rfl rfl ?_
  refine zw_lor (pc' := 54) rfl rfl ?_
  refine zw_sl (n := 2) (k := 7) (pc' := 56) rfl rfl rfl rfl ?_
  refine zw_ld (n := 2) (k := 4) (f := zp_isI) (pc' := 58) rfl rfl (zw_gt2 (zw_gt2 (zw_gt2 (zw_gt2 rfl rfl rfl) rfl rfl) rfl rfl) rfl rfl) rfl rfl ?_
  refine zw_beq1 (g := 74) (pc' := 61) rfl rfl rfl (rfl : _ = (0 : Int)) (fun hb => ?_) (fun h9 => absurd h9 (by decide))
  refine zw_ld (n := 2) (k := 5) (f := zp_isI) (pc' := 76) rfl rfl (zw_gt2 (zw_gt2 (zw_gt2 (zw_gt2 rfl rfl rfl) rfl rfl) rfl rfl) rfl rfl) rfl rfl ?_
  refine zw_beq1 (g := 92) (pc' := 79) rfl rfl rfl (rfl : _ = (0 : Int)) (fun hb => ?_) (fun h9 => absurd h9 (by decide))
  refine zw_ld (n := 2) (k := 6) (f := zp_isI) (pc' := 94) rfl rfl (zw_gt2 (zw_gt2 (zw_gt2 (zw_gt2 rfl rfl rfl) rfl rfl) rfl rfl) rfl rfl) rfl rfl ?_
  refine zw_beq1 (g := 110) (pc' := 97) rfl rfl rfl (rfl : _ = (0 : Int)) (fun hb => ?_) (fun h9 => absurd h9 (by decide))
  refine zw_ld (n := 2) (k := 7) (f := zp_isL) (pc' := 112) rfl rfl zw_g2 rfl rfl ?_
  refine zw_rl rfl rfl ?_
  exact congrArg (fun z => ((Sum.inl (some (Sum.inr (Sum.inl z))), H) : zp_X)) (by decide +kernel)

set_option maxRecDepth 8000 in
theorem zl_le3 {L : Nat} {σ : Nat → Int32} {d : Nat} {H : zp_H} : zp_Call L σ (d + 2) 178 [.inl (Int32.ofInt 3)] H (.inl (some (.inr (.inl 759412))), H) := by
  refine zw_ex (zw_met zm_178_t rfl rfl ?_)
  refine zw_ld (n := 1) (k := 0) (f := zp_isI) (pc' := 1) rfl rfl rfl rfl rfl ?_
  refine zw_s (pc' := 143) rfl rfl ?_
  refine zw_s (pc' := 145) rfl rfl ?_
  refine zw_s (pc' := 147) rfl rfl ?_
  refine zw_s (pc' := 149) rfl rfl ?_
  refine zw_s (pc' := 151) rfl rfl ?_
  refine zw_s (pc' := 152) rfl rfl ?_
  refine zw_s (pc' := 153) rfl rfl ?_
  refine zw_s (pc' := 154) rfl rfl ?_
  refine zw_c (pc' := 157) (zw_cs (Y := zm_179) rfl rfl zm_179_t) rfl rfl rfl rfl rfl (zl_sp3) ?_
  refine zw_rl rfl rfl ?_
  rfl

theorem zl_sp4 {L : Nat} {σ : Nat → Int32} {d : Nat} {H : zp_H} : zp_Call L σ (d + 1) 179 [.inl (Int32.ofInt 120), .inl (Int32.ofInt 0), .inl (Int32.ofInt 0), .inl (Int32.ofInt 0), .inl (Int32.ofInt 0), .inl (Int32.ofInt 0), .inl (Int32.ofInt 0)] H (.inl (some (.inr (.inl 24))), H) := by
  refine zw_ex (zw_met zm_179_t rfl rfl ?_)
  refine zw_ld (n := 1) (k := 0) (f := zp_isI) (pc' := 1) rfl rfl rfl rfl rfl ?_
  refine zw_s (pc' := 2) rfl rfl ?_
  refine zw_s (pc' := 5) rfl rfl ?_
  refine zw_lsub (pc' := 6) rfl rfl ?_
  refine zw_sl (n := 2) (k := 7) (pc' := 8) rfl rfl rfl rfl ?_
  refine zw_ld (n := 1) (k := 1) (f := zp_isI) (pc' := 9) rfl rfl (zw_gt2 rfl rfl rfl) rfl rfl ?_
  refine zw_beq1 (g := 24) (pc' := 12) rfl rfl rfl (rfl : _ = (0 : Int)) (fun hb => ?_) (fun h9 => absurd h9 (by decide))
  refine zw_ld (n := 1) (k := 2) (f := zp_isI) (pc' := 25) rfl rfl (zw_gt2 rfl rfl rfl) rfl rfl ?_
  refine zw_beq1 (g := 40) (pc' := 28) rfl rfl rfl (rfl : _ = (0 : Int)) (fun hb => ?_) (fun h9 => absurd h9 (by decide))
  refine zw_ld (n := 1) (k := 3) (f := zp_isI) (pc' := 41) rfl rfl (zw_gt2 rfl rfl rfl) rfl rfl ?_
  refine zw_beq1 (g := 56) (pc' := 44) rfl rfl rfl (rfl : _ = (0 : Int)) (fun hb => ?_) (fun h9 => absurd h9 (by decide))
  refine zw_ld (n := 2) (k := 4) (f := zp_isI) (pc' := 58) rfl rfl (zw_gt2 rfl rfl rfl) rfl rfl ?_
  refine zw_beq1 (g := 74) (pc' := 61) rfl rfl rfl (rfl : _ = (0 : Int)) (fun hb => ?_) (fun h9 => absurd h9 (by decide))
  refine zw_ld (n := 2) (k := 5) (f := zp_isI) (pc' := 76) rfl rfl (zw_gt2 rfl rfl rfl) rfl rfl ?_
  refine zw_beq1 (g := 92) (pc' := 79) rfl rfl rfl (rfl : _ = (0 : Int)) (fun hb => ?_) (fun h9 => absurd h9 (by decide))
  refine zw_ld (n := 2) (k := 6) (f := zp_isI) (pc' := 94) rfl rfl (zw_gt2 rfl rfl rfl) rfl rfl ?_
  refine zw_beq1 (g := 110) (pc' := 97) rfl rfl rfl (rfl : _ = (0 : Int)) (fun hb => ?_) (fun h9 => absurd h9 (by decide))
  refine zw_ld (n := 2) (k := 7) (f := zp_isL) (pc' := 112) rfl rfl zw_g2 rfl rfl ?_
  refine zw_rl rfl rfl ?_
  exact congrArg (fun z => ((Sum.inl (some (Sum.inr (Sum.inl z))), H) : zp_X)) (by decide +kernel)

set_option maxRecDepth 8000 in
theorem zl_le4 {L : Nat} {σ : Nat → Int32} {d : Nat} {H : zp_H} : zp_Call L σ (d + 2) 178 [.inl (Int32.ofInt 4)] H (.inl (some (.inr (.inl 24))), H) := by
  refine zw_ex (zw_met zm_178_t rfl rfl ?_)
  refine zw_ld (n := 1) (k := 0) (f := zp_isI) (pc' := 1) rfl rfl rfl rfl rfl ?_
  refine zw_s (pc' := 158) rfl rfl ?_
  refine zw_s (pc' := 160) rfl rfl ?_
  refine zw_s (pc' := 161) rfl rfl ?_
  refine zw_s (pc' := 162) rfl rfl ?_
  refine zw_s (pc' := 163) rfl rfl ?_
  refine zw_s (pc' := 164) rfl rfl ?_
  refine zw_s (pc' := 165) rfl rfl ?_
  refine zw_s (pc' := 166) rfl rfl ?_
  refine zw_c (pc' := 169) (zw_cs (Y := zm_179) rfl rfl zm_179_t) rfl rfl rfl rfl rfl (zl_sp4) ?_
  refine zw_rl rfl rfl ?_
  rfl

theorem zl_sp5 {L : Nat} {σ : Nat → Int32} {d : Nat} {H : zp_H} : zp_Call L σ (d + 1) 179 [.inl (Int32.ofInt 121), .inl (Int32.ofInt 0), .inl (Int32.ofInt 0), .inl (Int32.ofInt 0), .inl (Int32.ofInt 0), .inl (Int32.ofInt 0), .inl (Int32.ofInt 0)] H (.inl (some (.inr (.inl 25))), H) := by
  refine zw_ex (zw_met zm_179_t rfl rfl ?_)
  refine zw_ld (n := 1) (k := 0) (f := zp_isI) (pc' := 1) rfl rfl rfl rfl rfl ?_
  refine zw_s (pc' := 2) rfl rfl ?_
  refine zw_s (pc' := 5) rfl rfl ?_
  refine zw_lsub (pc' := 6) rfl rfl ?_
  refine zw_sl (n := 2) (k := 7) (pc' := 8) rfl rfl rfl rfl ?_
  refine zw_ld (n := 1) (k := 1) (f := zp_isI) (pc' := 9) rfl rfl (zw_gt2 rfl rfl rfl) rfl rfl ?_
  refine zw_beq1 (g := 24) (pc' := 12) rfl rfl rfl (rfl : _ = (0 : Int)) (fun hb => ?_) (fun h9 => absurd h9 (by decide))
  refine zw_ld (n := 1) (k := 2) (f := zp_isI) (pc' := 25) rfl rfl (zw_gt2 rfl rfl rfl) rfl rfl ?_
  refine zw_beq1 (g := 40) (pc' := 28) rfl rfl rfl (rfl : _ = (0 : Int)) (fun hb => ?_) (fun h9 => absurd h9 (by decide))
  refine zw_ld (n := 1) (k := 3) (f := zp_isI) (pc' := 41) rfl rfl (zw_gt2 rfl rfl rfl) rfl rfl ?_
  refine zw_beq1 (g := 56) (pc' := 44) rfl rfl rfl (rfl : _ = (0 : Int)) (fun hb => ?_) (fun h9 => absurd h9 (by decide))
  refine zw_ld (n := 2) (k := 4) (f := zp_isI) (pc' := 58) rfl rfl (zw_gt2 rfl rfl rfl) rfl rfl ?_
  refine zw_beq1 (g := 74) (pc' := 61) rfl rfl rfl (rfl : _ = (0 : Int)) (fun hb => ?_) (fun h9 => absurd h9 (by decide))
  refine zw_ld (n := 2) (k := 5) (f := zp_isI) (pc' := 76) rfl rfl (zw_gt2 rfl rfl rfl) rfl rfl ?_
  refine zw_beq1 (g := 92) (pc' := 79) rfl rfl rfl (rfl : _ = (0 : Int)) (fun hb => ?_) (fun h9 => absurd h9 (by decide))
  refine zw_ld (n := 2) (k := 6) (f := zp_isI) (pc' := 94) rfl rfl (zw_gt2 rfl rfl rfl) rfl rfl ?_
  refine zw_beq1 (g := 110) (pc' := 97) rfl rfl rfl (rfl : _ = (0 : Int)) (fun hb => ?_) (fun h9 => absurd h9 (by decide))
  refine zw_ld (n := 2) (k := 7) (f := zp_isL) (pc' := 112) rfl rfl zw_g2 rfl rfl ?_
  refine zw_rl rfl rfl ?_
  exact congrArg (fun z => ((Sum.inl (some (Sum.inr (Sum.inl z))), H) : zp_X)) (by decide +kernel)

set_option maxRecDepth 8000 in
theorem zl_le5 {L : Nat} {σ : Nat → Int32} {d : Nat} {H : zp_H} : zp_Call L σ (d + 2) 178 [.inl (Int32.ofInt 5)] H (.inl (some (.inr (.inl 25))), H) := by
  refine zw_ex (zw_met zm_178_t rfl rfl ?_)
  refine zw_ld (n := 1) (k := 0) (f := zp_isI) (pc' := 1) rfl rfl rfl rfl rfl ?_
  refine zw_s (pc' := 170) rfl rfl ?_
  refine zw_s (pc' := 172) rfl rfl ?_
  refine zw_s (pc' := 173) rfl rfl ?_
  refine zw_s (pc' := 174) rfl rfl ?_
  refine zw_s (pc' := 175) rfl rfl ?_
  refine zw_s (pc' := 176) rfl rfl ?_
  refine zw_s (pc' := 177) rfl rfl ?_
  refine zw_s (pc' := 178) rfl rfl ?_
  refine zw_c (pc' := 181) (zw_cs (Y := zm_179) rfl rfl zm_179_t) rfl rfl rfl rfl rfl (zl_sp5) ?_
  refine zw_rl rfl rfl ?_
  rfl

theorem zl_sp6 {L : Nat} {σ : Nat → Int32} {d : Nat} {H : zp_H} : zp_Call L σ (d + 1) 179 [.inl (Int32.ofInt 104), .inl (Int32.ofInt 111), .inl (Int32.ofInt 117), .inl (Int32.ofInt 114), .inl (Int32.ofInt 0), .inl (Int32.ofInt 0), .inl (Int32.ofInt 0)] H (.inl (some (.inr (.inl 278194))), H) := by
  refine zw_ex (zw_met zm_179_t rfl rfl ?_)
  refine zw_ld (n := 1) (k := 0) (f := zp_isI) (pc' := 1) rfl rfl rfl rfl rfl ?_
  refine zw_s (pc' := 2) rfl rfl ?_
  refine zw_s (pc' := 5) rfl rfl ?_
  refine zw_lsub (pc' := 6) rfl rfl ?_
  refine zw_sl (n := 2) (k := 7) (pc' := 8) rfl rfl rfl rfl ?_
  refine zw_ld (n := 1) (k := 1) (f := zp_isI) (pc' := 9) rfl rfl (zw_gt2 rfl rfl rfl) rfl rfl ?_
  refine zw_beq1 (g := 24) (pc' := 12) rfl rfl rfl (rfl : _ = (111 : Int)) (fun h9 => absurd h9 (by decide)) (fun hb => ?_)
  refine zw_ld (n := 2) (k := 7) (f := zp_isL) (pc' := 14) rfl rfl zw_g2 rfl rfl ?_
  refine zw_s (pc' := 15) rfl rfl ?_
  refine zw_lshl (pc' := 16) rfl rfl ?_
  refine zw_ld (n := 1) (k := 1) (f := zp_isI) (pc' := 17) rfl rfl (zw_gt2 rfl rfl rfl) rfl rfl ?_
  refine zw_s (pc' := 19) rfl rfl ?_
  refine zw_isub (pc' := 20) rfl rfl ?_
  refine zw_s (pc' := 21) rfl rfl ?_
  refine zw_lor (pc' := 22) rfl rfl ?_
  refine zw_sl (n := 2) (k := 7) (pc' := 24) rfl rfl rfl rfl ?_
  refine zw_ld (n := 1) (k := 2) (f := zp_isI) (pc' := 25) rfl rfl (zw_gt2 (zw_gt2 rfl rfl rfl) rfl rfl) rfl rfl ?_
  refine zw_beq1 (g := 40) (pc' := 28) rfl rfl rfl (rfl : _ = (117 : Int)) (fun h9 => absurd h9 (by decide)) (fun hb => ?_)
  refine zw_ld (n := 2) (k := 7) (f := zp_isL) (pc' := 30) rfl rfl zw_g2 rfl rfl ?_
  refine zw_s (pc' := 31) rfl rfl ?_
  refine zw_lshl (pc' := 32) rfl rfl ?_
  refine zw_ld (n := 1) (k := 2) (f := zp_isI) (pc' := 33) rfl rfl (zw_gt2 (zw_gt2 rfl rfl rfl) rfl rfl) rfl rfl ?_
  refine zw_s (pc' := 35) rfl rfl ?_
  refine zw_isub (pc' := 36) rfl rfl ?_
  refine zw_s (pc' := 37) rfl rfl ?_
  refine zw_lor (pc' := 38) rfl rfl ?_
  refine zw_sl (n := 2) (k := 7) (pc' := 40) rfl rfl rfl rfl ?_
  refine zw_ld (n := 1) (k := 3) (f := zp_isI) (pc' := 41) rfl rfl (zw_gt2 (zw_gt2 (zw_gt2 rfl rfl rfl) rfl rfl) rfl rfl) rfl rfl ?_
  refine zw_beq1 (g := 56) (pc' := 44) rfl rfl rfl (rfl : _ = (114 : Int)) (fun h9 => absurd h9 (by decide)) (fun hb => ?_)
  refine zw_ld (n := 2) (k := 7) (f := zp_isL) (pc' := 46) rfl rfl zw_g2 rfl rfl ?_
  refine zw_s (pc' := 47) rfl rfl ?_
  refine zw_lshl (pc' := 48) rfl rfl ?_
  refine zw_ld (n := 1) (k := 3) (f := zp_isI) (pc' := 49) rfl rfl (zw_gt2 (zw_gt2 (zw_gt2 rfl rfl rfl) rfl rfl) rfl rfl) rfl rfl ?_
  refine zw_s (pc' := 51) rfl rfl ?_
  refine zw_isub (pc' := 52) rfl rfl ?_
  refine zw_s (pc' := 53) rfl rfl ?_
  refine zw_lor (pc' := 54) rfl rfl ?_
  refine zw_sl (n := 2) (k := 7) (pc' := 56) rfl rfl rfl rfl ?_
  refine zw_ld (n := 2) (k := 4) (f := zp_isI) (pc' := 58) rfl rfl (zw_gt2 (zw_gt2 (zw_gt2 (zw_gt2 rfl rfl rfl) rfl rfl) rfl rfl) rfl rfl) rfl rfl ?_
  refine zw_beq1 (g := 74) (pc' := 61) rfl rfl rfl (rfl : _ = (0 : Int)) (fun hb => ?_) (fun h9 => absurd h9 (by decide))
  refine zw_ld (n := 2) (k := 5) (f := zp_isI) (pc' := 76) rfl rfl (zw_gt2 (zw_gt2 (zw_gt2 (zw_gt2 rfl rfl rfl) rfl rfl) rfl rfl) rfl rfl) rfl rfl ?_
  refine zw_beq1 (g := 92) (pc' := 79) rfl rfl rfl (rfl : _ = (0 : Int)) (fun hb => ?_) (fun h9 => absurd h9 (by decide))
  refine zw_ld (n := 2) (k := 6) (f := zp_isI) (pc' := 94) rfl rfl (zw_gt2 (zw_gt2 (zw_gt2 (zw_gt2 rfl rfl rfl) rfl rfl) rfl rfl) rfl rfl) rfl rfl ?_
  refine zw_beq1 (g := 110) (pc' := 97) rfl rfl rfl (rfl : _ = (0 : Int)) (fun hb => ?_) (fun h9 => absurd h9 (by decide))
  refine zw_ld (n := 2) (k := 7) (f := zp_isL) (pc' := 112) rfl rfl zw_g2 rfl rfl ?_
  refine zw_rl rfl rfl ?_
  exact congrArg (fun z => ((Sum.inl (some (Sum.inr (Sum.inl z))), H) : zp_X)) (by decide +kernel)

set_option maxRecDepth 8000 in
theorem zl_le6 {L : Nat} {σ : Nat → Int32} {d : Nat} {H : zp_H} : zp_Call L σ (d + 2) 178 [.inl (Int32.ofInt 6)] H (.inl (some (.inr (.inl 278194))), H) := by
  refine zw_ex (zw_met zm_178_t rfl rfl ?_)
  refine zw_ld (n := 1) (k := 0) (f := zp_isI) (pc' := 1) rfl rfl rfl rfl rfl ?_
  refine zw_s (pc' := 182) rfl rfl ?_
  refine zw_s (pc' := 184) rfl rfl ?_
  refine zw_s (pc' := 186) rfl rfl ?_
  refine zw_s (pc' := 188) rfl rfl ?_
  refine zw_s (pc' := 190) rfl rfl ?_
  refine zw_s (pc' := 191) rfl rfl ?_
  refine zw_s (pc' := 192) rfl rfl ?_
  refine zw_s (pc' := 193) rfl rfl ?_
  refine zw_c (pc' := 196) (zw_cs (Y := zm_179) rfl rfl zm_179_t) rfl rfl rfl rfl rfl (zl_sp6) ?_
  refine zw_rl rfl rfl ?_
  rfl

theorem zl_sp7 {L : Nat} {σ : Nat → Int32} {d : Nat} {H : zp_H} : zp_Call L σ (d + 1) 179 [.inl (Int32.ofInt 116), .inl (Int32.ofInt 105), .inl (Int32.ofInt 100), .inl (Int32.ofInt 101), .inl (Int32.ofInt 0), .inl (Int32.ofInt 0), .inl (Int32.ofInt 0)] H (.inl (some (.inr (.inl 664709))), H) := by
  refine zw_ex (zw_met zm_179_t rfl rfl ?_)
  refine zw_ld (n := 1) (k := 0) (f := zp_isI) (pc' := 1) rfl rfl rfl rfl rfl ?_
  refine zw_s (pc' := 2) rfl rfl ?_
  refine zw_s (pc' := 5) rfl rfl ?_
  refine zw_lsub (pc' := 6) rfl rfl ?_
  refine zw_sl (n := 2) (k := 7) (pc' := 8) rfl rfl rfl rfl ?_
  refine zw_ld (n := 1) (k := 1) (f := zp_isI) (pc' := 9) rfl rfl (zw_gt2 rfl rfl rfl) rfl rfl ?_
  refine zw_beq1 (g := 24) (pc' := 12) rfl rfl rfl (rfl : _ = (105 : Int)) (fun h9 => absurd h9 (by decide)) (fun hb => ?_)
  refine zw_ld (n := 2) (k := 7) (f := zp_isL) (pc' := 14) rfl rfl zw_g2 rfl rfl ?_
  refine zw_s (pc' := 15) rfl rfl ?_
  refine zw_lshl (pc' := 16) rfl rfl ?_
  refine zw_ld (n := 1) (k := 1) (f := zp_isI) (pc' := 17) rfl rfl (zw_gt2 rfl rfl rfl) rfl rfl ?_
  refine zw_s (pc' := 19) rfl rfl ?_
  refine zw_isub (pc' := 20) rfl rfl ?_
  refine zw_s (pc' := 21) rfl rfl ?_
  refine zw_lor (pc' := 22) rfl rfl ?_
  refine zw_sl (n := 2) (k := 7) (pc' := 24) rfl rfl rfl rfl ?_
  refine zw_ld (n := 1) (k := 2) (f := zp_isI) (pc' := 25) rfl rfl (zw_gt2 (zw_gt2 rfl rfl rfl) rfl rfl) rfl rfl ?_
  refine zw_beq1 (g := 40) (pc' := 28) rfl rfl rfl (rfl : _ = (100 : Int)) (fun h9 => absurd h9 (by decide)) (fun hb => ?_)
  refine zw_ld (n := 2) (k := 7) (f := zp_isL) (pc' := 30) rfl rfl zw_g2 rfl rfl ?_
  refine zw_s (pc' := 31) rfl rfl ?_
  refine zw_lshl (pc' := 32) rfl rfl ?_
  refine zw_ld (n := 1) (k := 2) (f := zp_isI) (pc' := 33) rfl rfl (zw_gt2 (zw_gt2 rfl rfl rfl) rfl rfl) rfl rfl ?_
  refine zw_s (pc' := 35) rfl rfl ?_
  refine zw_isub (pc' := 36) rfl rfl ?_
  refine zw_s (pc' := 37) rfl rfl ?_
  refine zw_lor (pc' := 38) rfl rfl ?_
  refine zw_sl (n := 2) (k := 7) (pc' := 40) rfl rfl rfl rfl ?_
  refine zw_ld (n := 1) (k := 3) (f := zp_isI) (pc' := 41) rfl rfl (zw_gt2 (zw_gt2 (zw_gt2 rfl rfl rfl) rfl rfl) rfl rfl) rfl rfl ?_
  refine zw_beq1 (g := 56) (pc' := 44) rfl rfl rfl (rfl : _ = (101 : Int)) (fun h9 => absurd h9 (by decide)) (fun hb => ?_)
  refine zw_ld (n := 2) (k := 7) (f := zp_isL) (pc' := 46) rfl rfl zw_g2 rfl rfl ?_
  refine zw_s (pc' := 47) rfl rfl ?_
  refine zw_lshl (pc' := 48) rfl rfl ?_
  refine zw_ld (n := 1) (k := 3) (f := zp_isI) (pc' := 49) rfl rfl (zw_gt2 (zw_gt2 (zw_gt2 rfl rfl rfl) rfl rfl) rfl rfl) rfl rfl ?_
  refine zw_s (pc' := 51) rfl rfl ?_
  refine zw_isub (pc' := 52) rfl rfl ?_
  refine zw_s (pc' := 53) rfl rfl ?_
  refine zw_lor (pc' := 54) rfl rfl ?_
  refine zw_sl (n := 2) (k := 7) (pc' := 56) rfl rfl rfl rfl ?_
  refine zw_ld (n := 2) (k := 4) (f := zp_isI) (pc' := 58) rfl rfl (zw_gt2 (zw_gt2 (zw_gt2 (zw_gt2 rfl rfl rfl) rfl rfl) rfl rfl) rfl rfl) rfl rfl ?_
  refine zw_beq1 (g := 74) (pc' := 61) rfl rfl rfl (rfl : _ = (0 : Int)) (fun hb => ?_) (fun h9 => absurd h9 (by decide))
  refine zw_ld (n := 2) (k := 5) (f := zp_isI) (pc' := 76) rfl rfl (zw_gt2 (zw_gt2 (zw_gt2 (zw_gt2 rfl rfl rfl) rfl rfl) rfl rfl) rfl rfl) rfl rfl ?_
  refine zw_beq1 (g := 92) (pc' := 79) rfl rfl rfl (rfl : _ = (0 : Int)) (fun hb => ?_) (fun h9 => absurd h9 (by decide))
  refine zw_ld (n := 2) (k := 6) (f := zp_isI) (pc' := 94) rfl rfl (zw_gt2 (zw_gt2 (zw_gt2 (zw_gt2 rfl rfl rfl) rfl rfl) rfl rfl) rfl rfl) rfl rfl ?_
  refine zw_beq1 (g := 110) (pc' := 97) rfl rfl rfl (rfl : _ = (0 : Int)) (fun hb => ?_) (fun h9 => absurd h9 (by decide))
  refine zw_ld (n := 2) (k := 7) (f := zp_isL) (pc' := 112) rfl rfl zw_g2 rfl rfl ?_
  refine zw_rl rfl rfl ?_
  exact congrArg (fun z => ((Sum.inl (some (Sum.inr (Sum.inl z))), H) : zp_X)) (by decide +kernel)

set_option maxRecDepth 8000 in
theorem zl_le7 {L : Nat} {σ : Nat → Int32} {d : Nat} {H : zp_H} : zp_Call L σ (d + 2) 178 [.inl (Int32.ofInt 7)] H (.inl (some (.inr (.inl 664709))), H) := by
  refine zw_ex (zw_met zm_178_t rfl rfl ?_)
  refine zw_ld (n := 1) (k := 0) (f := zp_isI) (pc' := 1) rfl rfl rfl rfl rfl ?_
  refine zw_s (pc' := 197) rfl rfl ?_
  refine zw_s (pc' := 199) rfl rfl ?_
  refine zw_s (pc' := 201) rfl rfl ?_
  refine zw_s (pc' := 203) rfl rfl ?_
  refine zw_s (pc' := 205) rfl rfl ?_
  refine zw_s (pc' := 206) rfl rfl ?_
  refine zw_s (pc' := 207) rfl rfl ?_
  refine zw_s (pc' := 208) rfl rfl ?_
  refine zw_c (pc' := 211) (zw_cs (Y := zm_179) rfl rfl zm_179_t) rfl rfl rfl rfl rfl (zl_sp7) ?_
  refine zw_rl rfl rfl ?_
  rfl

theorem zl_sp8 {L : Nat} {σ : Nat → Int32} {d : Nat} {H : zp_H} : zp_Call L σ (d + 1) 179 [.inl (Int32.ofInt 115), .inl (Int32.ofInt 101), .inl (Int32.ofInt 97), .inl (Int32.ofInt 0), .inl (Int32.ofInt 0), .inl (Int32.ofInt 0), .inl (Int32.ofInt 0)] H (.inl (some (.inr (.inl 19617))), H) := by
  refine zw_ex (zw_met zm_179_t rfl rfl ?_)
  refine zw_ld (n := 1) (k := 0) (f := zp_isI) (pc' := 1) rfl rfl rfl rfl rfl ?_
  refine zw_s (pc' := 2) rfl rfl ?_
  refine zw_s (pc' := 5) rfl rfl ?_
  refine zw_lsub (pc' := 6) rfl rfl ?_
  refine zw_sl (n := 2) (k := 7) (pc' := 8) rfl rfl rfl rfl ?_
  refine zw_ld (n := 1) (k := 1) (f := zp_isI) (pc' := 9) rfl rfl (zw_gt2 rfl rfl rfl) rfl rfl ?_
  refine zw_beq1 (g := 24) (pc' := 12) rfl rfl rfl (rfl : _ = (101 : Int)) (fun h9 => absurd h9 (by decide)) (fun hb => ?_)
  refine zw_ld (n := 2) (k := 7) (f := zp_isL) (pc' := 14) rfl rfl zw_g2 rfl rfl ?_
  refine zw_s (pc' := 15) rfl rfl ?_
  refine zw_lshl (pc' := 16) rfl rfl ?_
  refine zw_ld (n := 1) (k := 1) (f := zp_isI) (pc' := 17) rfl rfl (zw_gt2 rfl rfl rfl) rfl rfl ?_
  refine zw_s (pc' := 19) rfl rfl ?_
  refine zw_isub (pc' := 20) rfl rfl ?_
  refine zw_s (pc' := 21) rfl rfl ?_
  refine zw_lor (pc' := 22) rfl rfl ?_
  refine zw_sl (n := 2) (k := 7) (pc' := 24) rfl rfl rfl rfl ?_
  refine zw_ld (n := 1) (k := 2) (f := zp_isI) (pc' := 25) rfl rfl (zw_gt2 (zw_gt2 rfl rfl rfl) rfl rfl) rfl rfl ?_
  refine zw_beq1 (g := 40) (pc' := 28) rfl rfl rfl (rfl : _ = (97 : Int)) (fun h9 => absurd h9 (by decide)) (fun hb => ?_)
  refine zw_ld (n := 2) (k := 7) (f := zp_isL) (pc' := 30) rfl rfl zw_g2 rfl rfl ?_
  refine zw_s (pc' := 31) rfl rfl ?_
  refine zw_lshl (pc' := 32) rfl rfl ?_
  refine zw_ld (n := 1) (k := 2) (f := zp_isI) (pc' := 33) rfl rfl (zw_gt2 (zw_gt2 rfl rfl rfl) rfl rfl) rfl rfl ?_
  refine zw_s (pc' := 35) rfl rfl ?_
  refine zw_isub (pc' := 36) rfl rfl ?_
  refine zw_s (pc' := 37) rfl rfl ?_
  refine zw_lor (pc' := 38) rfl rfl ?_
  refine zw_sl (n := 2) (k := 7) (pc' := 40) rfl rfl rfl rfl ?_
  refine zw_ld (n := 1) (k := 3) (f := zp_isI) (pc' := 41) rfl rfl (zw_gt2 (zw_gt2 (zw_gt2 rfl rfl rfl) rfl rfl) rfl rfl) rfl rfl ?_
  refine zw_beq1 (g := 56) (pc' := 44) rfl rfl rfl (rfl : _ = (0 : Int)) (fun hb => ?_) (fun h9 => absurd h9 (by decide))
  refine zw_ld (n := 2) (k := 4) (f := zp_isI) (pc' := 58) rfl rfl (zw_gt2 (zw_gt2 (zw_gt2 rfl rfl rfl) rfl rfl) rfl rfl) rfl rfl ?_
  refine zw_beq1 (g := 74) (pc' := 61) rfl rfl rfl (rfl : _ = (0 : Int)) (fun hb => ?_) (fun h9 => absurd h9 (by decide))
  refine zw_ld (n := 2) (k := 5) (f := zp_isI) (pc' := 76) rfl rfl (zw_gt2 (zw_gt2 (zw_gt2 rfl rfl rfl) rfl rfl) rfl rfl) rfl rfl ?_
  refine zw_beq1 (g := 92) (pc' := 79) rfl rfl rfl (rfl : _ = (0 : Int)) (fun hb => ?_) (fun h9 => absurd h9 (by decide))
  refine zw_ld (n := 2) (k := 6) (f := zp_isI) (pc' := 94) rfl rfl (zw_gt2 (zw_gt2 (zw_gt2 rfl rfl rfl) rfl rfl) rfl rfl) rfl rfl ?_
  refine zw_beq1 (g := 110) (pc' := 97) rfl rfl rfl (rfl : _ = (0 : Int)) (fun hb => ?_) (fun h9 => absurd h9 (by decide))
  refine zw_ld (n := 2) (k := 7) (f := zp_isL) (pc' := 112) rfl rfl zw_g2 rfl rfl ?_
  refine zw_rl rfl rfl ?_
  exact congrArg (fun z => ((Sum.inl (some (Sum.inr (Sum.inl z))), H) : zp_X)) (by decide +kernel)

set_option maxRecDepth 8000 in
theorem zl_le8 {L : Nat} {σ : Nat → Int32} {d : Nat} {H : zp_H} : zp_Call L σ (d + 2) 178 [.inl (Int32.ofInt 8)] H (.inl (some (.inr (.inl 19617))), H) := by
  refine zw_ex (zw_met zm_178_t rfl rfl ?_)
  refine zw_ld (n := 1) (k := 0) (f := zp_isI) (pc' := 1) rfl rfl rfl rfl rfl ?_
  refine zw_s (pc' := 212) rfl rfl ?_
  refine zw_s (pc' := 214) rfl rfl ?_
  refine zw_s (pc' := 216) rfl rfl ?_
  refine zw_s (pc' := 218) rfl rfl ?_
  refine zw_s (pc' := 219) rfl rfl ?_
  refine zw_s (pc' := 220) rfl rfl ?_
  refine zw_s (pc' := 221) rfl rfl ?_
  refine zw_s (pc' := 222) rfl rfl ?_
  refine zw_c (pc' := 225) (zw_cs (Y := zm_179) rfl rfl zm_179_t) rfl rfl rfl rfl rfl (zl_sp8) ?_
  refine zw_rl rfl rfl ?_
  rfl

theorem zl_sp9 {L : Nat} {σ : Nat → Int32} {d : Nat} {H : zp_H} : zp_Call L σ (d + 1) 179 [.inl (Int32.ofInt 114), .inl (Int32.ofInt 111), .inl (Int32.ofInt 99), .inl (Int32.ofInt 107), .inl (Int32.ofInt 0), .inl (Int32.ofInt 0), .inl (Int32.ofInt 0)] H (.inl (some (.inr (.inl 605291))), H) := by
  refine zw_ex (zw_met zm_179_t rfl rfl ?_)
  refine zw_ld (n := 1) (k := 0) (f := zp_isI) (pc' := 1) rfl rfl rfl rfl rfl ?_
  refine zw_s (pc' := 2) rfl rfl ?_
  refine zw_s (pc' := 5) rfl rfl ?_
  refine zw_lsub (pc' := 6) rfl rfl ?_
  refine zw_sl (n := 2) (k := 7) (pc' := 8) rfl rfl rfl rfl ?_
  refine zw_ld (n := 1) (k := 1) (f := zp_isI) (pc' := 9) rfl rfl (zw_gt2 rfl rfl rfl) rfl rfl ?_
  refine zw_beq1 (g := 24) (pc' := 12) rfl rfl rfl (rfl : _ = (111 : Int)) (fun h9 => absurd h9 (by decide)) (fun hb => ?_)
  refine zw_ld (n := 2) (k := 7) (f := zp_isL) (pc' := 14) rfl rfl zw_g2 rfl rfl ?_
  refine zw_s (pc' := 15) rfl rfl ?_
  refine zw_lshl (pc' := 16) rfl rfl ?_
  refine zw_ld (n := 1) (k := 1) (f := zp_isI) (pc' := 17) rfl rfl (zw_gt2 rfl rfl rfl) rfl rfl ?_
  refine zw_s (pc' := 19) rfl rfl ?_
  refine zw_isub (pc' := 20) rfl rfl ?_
  refine zw_s (pc' := 21) rfl rfl ?_
  refine zw_lor (pc' := 22) rfl rfl ?_
  refine zw_sl (n := 2) (k := 7) (pc' := 24) rfl rfl rfl rfl ?_
  refine zw_ld (n := 1) (k := 2) (f := zp_isI) (pc' := 25) rfl rfl (zw_gt2 (zw_gt2 rfl rfl rfl) rfl rfl) rfl rfl ?_
  refine zw_beq1 (g := 40) (pc' := 28) rfl rfl rfl (rfl : _ = (99 : Int)) (fun h9 => absurd h9 (by decide)) (fun hb => ?_)
  refine zw_ld (n := 2) (k := 7) (f := zp_isL) (pc' := 30) rfl rfl zw_g2 rfl rfl ?_
  refine zw_s (pc' := 31) rfl rfl ?_
  refine zw_lshl (pc' := 32) rfl rfl ?_
  refine zw_ld (n := 1) (k := 2) (f := zp_isI) (pc' := 33) rfl rfl (zw_gt2 (zw_gt2 rfl rfl rfl) rfl rfl) rfl rfl ?_
  refine zw_s (pc' := 35) rfl rfl ?_
  refine zw_isub (pc' := 36) rfl rfl ?_
  refine zw_s (pc' := 37) rfl rfl ?_
  refine zw_lor (pc' := 38) rfl rfl ?_
  refine zw_sl (n := 2) (k := 7) (pc' := 40) rfl rfl rfl rfl ?_
  refine zw_ld (n := 1) (k := 3) (f := zp_isI) (pc' := 41) rfl rfl (zw_gt2 (zw_gt2 (zw_gt2 rfl rfl rfl) rfl rfl) rfl rfl) rfl rfl ?_
  refine zw_beq1 (g := 56) (pc' := 44) rfl rfl rfl (rfl : _ = (107 : Int)) (fun h9 => absurd h9 (by decide)) (fun hb => ?_)
  refine zw_ld (n := 2) (k := 7) (f := zp_isL) (pc' := 46) rfl rfl zw_g2 rfl rfl ?_
  refine zw_s (pc' := 47) rfl rfl ?_
  refine zw_lshl (pc' := 48) rfl rfl ?_
  refine zw_ld (n := 1) (k := 3) (f := zp_isI) (pc' := 49) rfl rfl (zw_gt2 (zw_gt2 (zw_gt2 rfl rfl rfl) rfl rfl) rfl rfl) rfl rfl ?_
  refine zw_s (pc' := 51) rfl rfl ?_
  refine zw_isub (pc' := 52) rfl rfl ?_
  refine zw_s (pc' := 53) rfl rfl ?_
  refine zw_lor (pc' := 54) rfl rfl ?_
  refine zw_sl (n := 2) (k := 7) (pc' := 56) rfl rfl rfl rfl ?_
  refine zw_ld (n := 2) (k := 4) (f := zp_isI) (pc' := 58) rfl rfl (zw_gt2 (zw_gt2 (zw_gt2 (zw_gt2 rfl rfl rfl) rfl rfl) rfl rfl) rfl rfl) rfl rfl ?_
  refine zw_beq1 (g := 74) (pc' := 61) rfl rfl rfl (rfl : _ = (0 : Int)) (fun hb => ?_) (fun h9 => absurd h9 (by decide))
  refine zw_ld (n := 2) (k := 5) (f := zp_isI) (pc' := 76) rfl rfl (zw_gt2 (zw_gt2 (zw_gt2 (zw_gt2 rfl rfl rfl) rfl rfl) rfl rfl) rfl rfl) rfl rfl ?_
  refine zw_beq1 (g := 92) (pc' := 79) rfl rfl rfl (rfl : _ = (0 : Int)) (fun hb => ?_) (fun h9 => absurd h9 (by decide))
  refine zw_ld (n := 2) (k := 6) (f := zp_isI) (pc' := 94) rfl rfl (zw_gt2 (zw_gt2 (zw_gt2 (zw_gt2 rfl rfl rfl) rfl rfl) rfl rfl) rfl rfl) rfl rfl ?_
  refine zw_beq1 (g := 110) (pc' := 97) rfl rfl rfl (rfl : _ = (0 : Int)) (fun hb => ?_) (fun h9 => absurd h9 (by decide))
  refine zw_ld (n := 2) (k := 7) (f := zp_isL) (pc' := 112) rfl rfl zw_g2 rfl rfl ?_
  refine zw_rl rfl rfl ?_
  exact congrArg (fun z => ((Sum.inl (some (Sum.inr (Sum.inl z))), H) : zp_X)) (by decide +kernel)

set_option maxRecDepth 8000 in
theorem zl_le9 {L : Nat} {σ : Nat → Int32} {d : Nat} {H : zp_H} : zp_Call L σ (d + 2) 178 [.inl (Int32.ofInt 9)] H (.inl (some (.inr (.inl 605291))), H) := by
  refine zw_ex (zw_met zm_178_t rfl rfl ?_)
  refine zw_ld (n := 1) (k := 0) (f := zp_isI) (pc' := 1) rfl rfl rfl rfl rfl ?_
  refine zw_s (pc' := 226) rfl rfl ?_
  refine zw_s (pc' := 228) rfl rfl ?_
  refine zw_s (pc' := 230) rfl rfl ?_
  refine zw_s (pc' := 232) rfl rfl ?_
  refine zw_s (pc' := 234) rfl rfl ?_
  refine zw_s (pc' := 235) rfl rfl ?_
  refine zw_s (pc' := 236) rfl rfl ?_
  refine zw_s (pc' := 237) rfl rfl ?_
  refine zw_c (pc' := 240) (zw_cs (Y := zm_179) rfl rfl zm_179_t) rfl rfl rfl rfl rfl (zl_sp9) ?_
  refine zw_rl rfl rfl ?_
  rfl

theorem zl_sp10 {L : Nat} {σ : Nat → Int32} {d : Nat} {H : zp_H} : zp_Call L σ (d + 1) 179 [.inl (Int32.ofInt 99), .inl (Int32.ofInt 117), .inl (Int32.ofInt 114), .inl (Int32.ofInt 114), .inl (Int32.ofInt 101), .inl (Int32.ofInt 110), .inl (Int32.ofInt 116)] H (.inl (some (.inr (.inl 3945338324))), H) := by
  refine zw_ex (zw_met zm_179_t rfl rfl ?_)
  refine zw_ld (n := 1) (k := 0) (f := zp_isI) (pc' := 1) rfl rfl rfl rfl rfl ?_
  refine zw_s (pc' := 2) rfl rfl ?_
  refine zw_s (pc' := 5) rfl rfl ?_
  refine zw_lsub (pc' := 6) rfl rfl ?_
  refine zw_sl (n := 2) (k := 7) (pc' := 8) rfl rfl rfl rfl ?_
  refine zw_ld (n := 1) (k := 1) (f := zp_isI) (pc' := 9) rfl rfl (zw_gt2 rfl rfl rfl) rfl rfl ?_
  refine zw_beq1 (g := 24) (pc' := 12) rfl rfl rfl (rfl : _ = (117 : Int)) (fun h9 => absurd h9 (by decide)) (fun hb => ?_)
  refine zw_ld (n := 2) (k := 7) (f := zp_isL) (pc' := 14) rfl rfl zw_g2 rfl rfl ?_
  refine zw_s (pc' := 15) rfl rfl ?_
  refine zw_lshl (pc' := 16) rfl rfl ?_
  refine zw_ld (n := 1) (k := 1) (f := zp_isI) (pc' := 17) rfl rfl (zw_gt2 rfl rfl rfl) rfl rfl ?_
  refine zw_s (pc' := 19) rfl rfl ?_
  refine zw_isub (pc' := 20) rfl rfl ?_
  refine zw_s (pc' := 21) rfl rfl ?_
  refine zw_lor (pc' := 22) rfl rfl ?_
  refine zw_sl (n := 2) (k := 7) (pc' := 24) rfl rfl rfl rfl ?_
  refine zw_ld (n := 1) (k := 2) (f := zp_isI) (pc' := 25) rfl rfl (zw_gt2 (zw_gt2 rfl rfl rfl) rfl rfl) rfl rfl ?_
  refine zw_beq1 (g := 40) (pc' := 28) rfl rfl rfl (rfl : _ = (114 : Int)) (fun h9 => absurd h9 (by decide)) (fun hb => ?_)
  refine zw_ld (n := 2) (k := 7) (f := zp_isL) (pc' := 30) rfl rfl zw_g2 rfl rfl ?_
  refine zw_s (pc' := 31) rfl rfl ?_
  refine zw_lshl (pc' := 32) rfl rfl ?_
  refine zw_ld (n := 1) (k := 2) (f := zp_isI) (pc' := 33) rfl rfl (zw_gt2 (zw_gt2 rfl rfl rfl) rfl rfl) rfl rfl ?_
  refine zw_s (pc' := 35) rfl rfl ?_
  refine zw_isub (pc' := 36) rfl rfl ?_
  refine zw_s (pc' := 37) rfl rfl ?_
  refine zw_lor (pc' := 38) rfl rfl ?_
  refine zw_sl (n := 2) (k := 7) (pc' := 40) rfl rfl rfl rfl ?_
  refine zw_ld (n := 1) (k := 3) (f := zp_isI) (pc' := 41) rfl rfl (zw_gt2 (zw_gt2 (zw_gt2 rfl rfl rfl) rfl rfl) rfl rfl) rfl rfl ?_
  refine zw_beq1 (g := 56) (pc' := 44) rfl rfl rfl (rfl : _ = (114 : Int)) (fun h9 => absurd h9 (by decide)) (fun hb => ?_)
  refine zw_ld (n := 2) (k := 7) (f := zp_isL) (pc' := 46) rfl rfl zw_g2 rfl rfl ?_
  refine zw_s (pc' := 47) rfl rfl ?_
  refine zw_lshl (pc' := 48) rfl rfl ?_
  refine zw_ld (n := 1) (k := 3) (f := zp_isI) (pc' := 49) rfl rfl (zw_gt2 (zw_gt2 (zw_gt2 rfl rfl rfl) rfl rfl) rfl rfl) rfl rfl ?_
  refine zw_s (pc' := 51) rfl rfl ?_
  refine zw_isub (pc' := 52) rfl rfl ?_
  refine zw_s (pc' := 53) rfl rfl ?_
  refine zw_lor (pc' := 54) rfl rfl ?_
  refine zw_sl (n := 2) (k := 7) (pc' := 56) rfl rfl rfl rfl ?_
  refine zw_ld (n := 2) (k := 4) (f := zp_isI) (pc' := 58) rfl rfl (zw_gt2 (zw_gt2 (zw_gt2 (zw_gt2 rfl rfl rfl) rfl rfl) rfl rfl) rfl rfl) rfl rfl ?_
  refine zw_beq1 (g := 74) (pc' := 61) rfl rfl rfl (rfl : _ = (101 : Int)) (fun h9 => absurd h9 (by decide)) (fun hb => ?_)
  refine zw_ld (n := 2) (k := 7) (f := zp_isL) (pc' := 63) rfl rfl zw_g2 rfl rfl ?_
  refine zw_s (pc' := 64) rfl rfl ?_
  refine zw_lshl (pc' := 65) rfl rfl ?_
  refine zw_ld (n := 2) (k := 4) (f := zp_isI) (pc' := 67) rfl rfl (zw_gt2 (zw_gt2 (zw_gt2 (zw_gt2 rfl rfl rfl) rfl rfl) rfl rfl) rfl rfl) rfl rfl ?_
  refine zw_s (pc' := 69) rfl rfl ?_
  refine zw_isub (pc' := 70) rfl rfl ?_
  refine zw_s (pc' := 71) rfl rfl ?_
  refine zw_lor (pc' := 72) rfl rfl ?_
  refine zw_sl (n := 2) (k := 7) (pc' := 74) rfl rfl rfl rfl ?_
  refine zw_ld (n := 2) (k := 5) (f := zp_isI) (pc' := 76) rfl rfl (zw_gt2 (zw_gt2 (zw_gt2 (zw_gt2 (zw_gt2 rfl rfl rfl) rfl rfl) rfl rfl) rfl rfl) rfl rfl) rfl rfl ?_
  refine zw_beq1 (g := 92) (pc' := 79) rfl rfl rfl (rfl : _ = (110 : Int)) (fun h9 => absurd h9 (by decide)) (fun hb => ?_)
  refine zw_ld (n := 2) (k := 7) (f := zp_isL) (pc' := 81) rfl rfl zw_g2 rfl rfl ?_
  refine zw_s (pc' := 82) rfl rfl ?_
  refine zw_lshl (pc' := 83) rfl rfl ?_
  refine zw_ld (n := 2) (k := 5) (f := zp_isI) (pc' := 85) rfl rfl (zw_gt2 (zw_gt2 (zw_gt2 (zw_gt2 (zw_gt2 rfl rfl rfl) rfl rfl) rfl rfl) rfl rfl) rfl rfl) rfl rfl ?_
  refine zw_s (pc' := 87) rfl rfl ?_
  refine zw_isub (pc' := 88) rfl rfl ?_
  refine zw_s (pc' := 89) rfl rfl ?_
  refine zw_lor (pc' := 90) rfl rfl ?_
  refine zw_sl (n := 2) (k := 7) (pc' := 92) rfl rfl rfl rfl ?_
  refine zw_ld (n := 2) (k := 6) (f := zp_isI) (pc' := 94) rfl rfl (zw_gt2 (zw_gt2 (zw_gt2 (zw_gt2 (zw_gt2 (zw_gt2 rfl rfl rfl) rfl rfl) rfl rfl) rfl rfl) rfl rfl) rfl rfl) rfl rfl ?_
  refine zw_beq1 (g := 110) (pc' := 97) rfl rfl rfl (rfl : _ = (116 : Int)) (fun h9 => absurd h9 (by decide)) (fun hb => ?_)
  refine zw_ld (n := 2) (k := 7) (f := zp_isL) (pc' := 99) rfl rfl zw_g2 rfl rfl ?_
  refine zw_s (pc' := 100) rfl rfl ?_
  refine zw_lshl (pc' := 101) rfl rfl ?_
  refine zw_ld (n := 2) (k := 6) (f := zp_isI) (pc' := 103) rfl rfl (zw_gt2 (zw_gt2 (zw_gt2 (zw_gt2 (zw_gt2 (zw_gt2 rfl rfl rfl) rfl rfl) rfl rfl) rfl rfl) rfl rfl) rfl rfl) rfl rfl ?_
  refine zw_s (pc' := 105) rfl rfl ?_
  refine zw_isub (pc' := 106) rfl rfl ?_
  refine zw_s (pc' := 107) rfl rfl ?_
  refine zw_lor (pc' := 108) rfl rfl ?_
  refine zw_sl (n := 2) (k := 7) (pc' := 110) rfl rfl rfl rfl ?_
  refine zw_ld (n := 2) (k := 7) (f := zp_isL) (pc' := 112) rfl rfl zw_g2 rfl rfl ?_
  refine zw_rl rfl rfl ?_
  exact congrArg (fun z => ((Sum.inl (some (Sum.inr (Sum.inl z))), H) : zp_X)) (by decide +kernel)

set_option maxRecDepth 8000 in
theorem zl_le10 {L : Nat} {σ : Nat → Int32} {d : Nat} {H : zp_H} : zp_Call L σ (d + 2) 178 [.inl (Int32.ofInt 10)] H (.inl (some (.inr (.inl 3945338324))), H) := by
  refine zw_ex (zw_met zm_178_t rfl rfl ?_)
  refine zw_ld (n := 1) (k := 0) (f := zp_isI) (pc' := 1) rfl rfl rfl rfl rfl ?_
  refine zw_s (pc' := 241) rfl rfl ?_
  refine zw_s (pc' := 243) rfl rfl ?_
  refine zw_s (pc' := 245) rfl rfl ?_
  refine zw_s (pc' := 247) rfl rfl ?_
  refine zw_s (pc' := 249) rfl rfl ?_
  refine zw_s (pc' := 251) rfl rfl ?_
  refine zw_s (pc' := 253) rfl rfl ?_
  refine zw_s (pc' := 255) rfl rfl ?_
  refine zw_c (pc' := 258) (zw_cs (Y := zm_179) rfl rfl zm_179_t) rfl rfl rfl rfl rfl (zl_sp10) ?_
  refine zw_rl rfl rfl ?_
  rfl

theorem zl_sp11 {L : Nat} {σ : Nat → Int32} {d : Nat} {H : zp_H} : zp_Call L σ (d + 1) 179 [.inl (Int32.ofInt 115), .inl (Int32.ofInt 108), .inl (Int32.ofInt 97), .inl (Int32.ofInt 116), .inl (Int32.ofInt 101), .inl (Int32.ofInt 0), .inl (Int32.ofInt 0)] H (.inl (some (.inr (.inl 20317829))), H) := by
  refine zw_ex (zw_met zm_179_t rfl rfl ?_)
  refine zw_ld (n := 1) (k := 0) (f := zp_isI) (pc' := 1) rfl rfl rfl rfl rfl ?_
  refine zw_s (pc' := 2) rfl rfl ?_
  refine zw_s (pc' := 5) rfl rfl ?_
  refine zw_lsub (pc' := 6) rfl rfl ?_
  refine zw_sl (n := 2) (k := 7) (pc' := 8) rfl rfl rfl rfl ?_
  refine zw_ld (n := 1) (k := 1) (f := zp_isI) (pc' := 9) rfl rfl (zw_gt2 rfl rfl rfl) rfl rfl ?_
  refine zw_beq1 (g := 24) (pc' := 12) rfl rfl rfl (rfl : _ = (108 : Int)) (fun h9 => absurd h9 (by decide)) (fun hb => ?_)
  refine zw_ld (n := 2) (k := 7) (f := zp_isL) (pc' := 14) rfl rfl zw_g2 rfl rfl ?_
  refine zw_s (pc' := 15) rfl rfl ?_
  refine zw_lshl (pc' := 16) rfl rfl ?_
  refine zw_ld (n := 1) (k := 1) (f := zp_isI) (pc' := 17) rfl rfl (zw_gt2 rfl rfl rfl) rfl rfl ?_
  refine zw_s (pc' := 19) rfl rfl ?_
  refine zw_isub (pc' := 20) rfl rfl ?_
  refine zw_s (pc' := 21) rfl rfl ?_
  refine zw_lor (pc' := 22) rfl rfl ?_
  refine zw_sl (n := 2) (k := 7) (pc' := 24) rfl rfl rfl rfl ?_
  refine zw_ld (n := 1) (k := 2) (f := zp_isI) (pc' := 25) rfl rfl (zw_gt2 (zw_gt2 rfl rfl rfl) rfl rfl) rfl rfl ?_
  refine zw_beq1 (g := 40) (pc' := 28) rfl rfl rfl (rfl : _ = (97 : Int)) (fun h9 => absurd h9 (by decide)) (fun hb => ?_)
  refine zw_ld (n := 2) (k := 7) (f := zp_isL) (pc' := 30) rfl rfl zw_g2 rfl rfl ?_
  refine zw_s (pc' := 31) rfl rfl ?_
  refine zw_lshl (pc' := 32) rfl rfl ?_
  refine zw_ld (n := 1) (k := 2) (f := zp_isI) (pc' := 33) rfl rfl (zw_gt2 (zw_gt2 rfl rfl rfl) rfl rfl) rfl rfl ?_
  refine zw_s (pc' := 35) rfl rfl ?_
  refine zw_isub (pc' := 36) rfl rfl ?_
  refine zw_s (pc' := 37) rfl rfl ?_
  refine zw_lor (pc' := 38) rfl rfl ?_
  refine zw_sl (n := 2) (k := 7) (pc' := 40) rfl rfl rfl rfl ?_
  refine zw_ld (n := 1) (k := 3) (f := zp_isI) (pc' := 41) rfl rfl (zw_gt2 (zw_gt2 (zw_gt2 rfl rfl rfl) rfl rfl) rfl rfl) rfl rfl ?_
  refine zw_beq1 (g := 56) (pc' := 44) rfl rfl rfl (rfl : _ = (116 : Int)) (fun h9 => absurd h9 (by decide)) (fun hb => ?_)
  refine zw_ld (n := 2) (k := 7) (f := zp_isL) (pc' := 46) rfl rfl zw_g2 rfl rfl ?_
  refine zw_s (pc' := 47) rfl rfl ?_
  refine zw_lshl (pc' := 48) rfl rfl ?_
  refine zw_ld (n := 1) (k := 3) (f := zp_isI) (pc' := 49) rfl rfl (zw_gt2 (zw_gt2 (zw_gt2 rfl rfl rfl) rfl rfl) rfl rfl) rfl rfl ?_
  refine zw_s (pc' := 51) rfl rfl ?_
  refine zw_isub (pc' := 52) rfl rfl ?_
  refine zw_s (pc' := 53) rfl rfl ?_
  refine zw_lor (pc' := 54) rfl rfl ?_
  refine zw_sl (n := 2) (k := 7) (pc' := 56) rfl rfl rfl rfl ?_
  refine zw_ld (n := 2) (k := 4) (f := zp_isI) (pc' := 58) rfl rfl (zw_gt2 (zw_gt2 (zw_gt2 (zw_gt2 rfl rfl rfl) rfl rfl) rfl rfl) rfl rfl) rfl rfl ?_
  refine zw_beq1 (g := 74) (pc' := 61) rfl rfl rfl (rfl : _ = (101 : Int)) (fun h9 => absurd h9 (by decide)) (fun hb => ?_)
  refine zw_ld (n := 2) (k := 7) (f := zp_isL) (pc' := 63) rfl rfl zw_g2 rfl rfl ?_
  refine zw_s (pc' := 64) rfl rfl ?_
  refine zw_lshl (pc' := 65) rfl rfl ?_
  refine zw_ld (n := 2) (k := 4) (f := zp_isI) (pc' := 67) rfl rfl (zw_gt2 (zw_gt2 (zw_gt2 (zw_gt2 rfl rfl rfl) rfl rfl) rfl rfl) rfl rfl) rfl rfl ?_
  refine zw_s (pc' := 69) rfl rfl ?_
  refine zw_isub (pc' := 70) rfl rfl ?_
  refine zw_s (pc' := 71) rfl rfl ?_
  refine zw_lor (pc' := 72) rfl rfl ?_
  refine zw_sl (n := 2) (k := 7) (pc' := 74) rfl rfl rfl rfl ?_
  refine zw_ld (n := 2) (k := 5) (f := zp_isI) (pc' := 76) rfl rfl (zw_gt2 (zw_gt2 (zw_gt2 (zw_gt2 (zw_gt2 rfl rfl rfl) rfl rfl) rfl rfl) rfl rfl) rfl rfl) rfl rfl ?_
  refine zw_beq1 (g := 92) (pc' := 79) rfl rfl rfl (rfl : _ = (0 : Int)) (fun hb => ?_) (fun h9 => absurd h9 (by decide))
  refine zw_ld (n := 2) (k := 6) (f := zp_isI) (pc' := 94) rfl rfl (zw_gt2 (zw_gt2 (zw_gt2 (zw_gt2 (zw_gt2 rfl rfl rfl) rfl rfl) rfl rfl) rfl rfl) rfl rfl) rfl rfl ?_
  refine zw_beq1 (g := 110) (pc' := 97) rfl rfl rfl (rfl : _ = (0 : Int)) (fun hb => ?_) (fun h9 => absurd h9 (by decide))
  refine zw_ld (n := 2) (k := 7) (f := zp_isL) (pc' := 112) rfl rfl zw_g2 rfl rfl ?_
  refine zw_rl rfl rfl ?_
  exact congrArg (fun z => ((Sum.inl (some (Sum.inr (Sum.inl z))), H) : zp_X)) (by decide +kernel)

set_option maxRecDepth 8000 in
theorem zl_le11 {L : Nat} {σ : Nat → Int32} {d : Nat} {H : zp_H} : zp_Call L σ (d + 2) 178 [.inl (Int32.ofInt 11)] H (.inl (some (.inr (.inl 20317829))), H) := by
  refine zw_ex (zw_met zm_178_t rfl rfl ?_)
  refine zw_ld (n := 1) (k := 0) (f := zp_isI) (pc' := 1) rfl rfl rfl rfl rfl ?_
  refine zw_s (pc' := 259) rfl rfl ?_
  refine zw_s (pc' := 261) rfl rfl ?_
  refine zw_s (pc' := 263) rfl rfl ?_
  refine zw_s (pc' := 265) rfl rfl ?_
  refine zw_s (pc' := 267) rfl rfl ?_
  refine zw_s (pc' := 269) rfl rfl ?_
  refine zw_s (pc' := 270) rfl rfl ?_
  refine zw_s (pc' := 271) rfl rfl ?_
  refine zw_c (pc' := 274) (zw_cs (Y := zm_179) rfl rfl zm_179_t) rfl rfl rfl rfl rfl (zl_sp11) ?_
  refine zw_rl rfl rfl ?_
  rfl

theorem zl_sp12 {L : Nat} {σ : Nat → Int32} {d : Nat} {H : zp_H} : zp_Call L σ (d + 1) 179 [.inl (Int32.ofInt 104), .inl (Int32.ofInt 97), .inl (Int32.ofInt 110), .inl (Int32.ofInt 100), .inl (Int32.ofInt 0), .inl (Int32.ofInt 0), .inl (Int32.ofInt 0)] H (.inl (some (.inr (.inl 263620))), H) := by
  refine zw_ex (zw_met zm_179_t rfl rfl ?_)
  refine zw_ld (n := 1) (k := 0) (f := zp_isI) (pc' := 1) rfl rfl rfl rfl rfl ?_
  refine zw_s (pc' := 2) rfl rfl ?_
  refine zw_s (pc' := 5) rfl rfl ?_
  refine zw_lsub (pc' := 6) rfl rfl ?_
  refine zw_sl (n := 2) (k := 7) (pc' := 8) rfl rfl rfl rfl ?_
  refine zw_ld (n := 1) (k := 1) (f := zp_isI) (pc' := 9) rfl rfl (zw_gt2 rfl rfl rfl) rfl rfl ?_
  refine zw_beq1 (g := 24) (pc' := 12) rfl rfl rfl (rfl : _ = (97 : Int)) (fun h9 => absurd h9 (by decide)) (fun hb => ?_)
  refine zw_ld (n := 2) (k := 7) (f := zp_isL) (pc' := 14) rfl rfl zw_g2 rfl rfl ?_
  refine zw_s (pc' := 15) rfl rfl ?_
  refine zw_lshl (pc' := 16) rfl rfl ?_
  refine zw_ld (n := 1) (k := 1) (f := zp_isI) (pc' := 17) rfl rfl (zw_gt2 rfl rfl rfl) rfl rfl ?_
  refine zw_s (pc' := 19) rfl rfl ?_
  refine zw_isub (pc' := 20) rfl rfl ?_
  refine zw_s (pc' := 21) rfl rfl ?_
  refine zw_lor (pc' := 22) rfl rfl ?_
  refine zw_sl (n := 2) (k := 7) (pc' := 24) rfl rfl rfl rfl ?_
  refine zw_ld (n := 1) (k := 2) (f := zp_isI) (pc' := 25) rfl rfl (zw_gt2 (zw_gt2 rfl rfl rfl) rfl rfl) rfl rfl ?_
  refine zw_beq1 (g := 40) (pc' := 28) rfl rfl rfl (rfl : _ = (110 : Int)) (fun h9 => absurd h9 (by decide)) (fun hb => ?_)
  refine zw_ld (n := 2) (k := 7) (f := zp_isL) (pc' := 30) rfl rfl zw_g2 rfl rfl ?_
  refine zw_s (pc' := 31) rfl rfl ?_
  refine zw_lshl (pc' := 32) rfl rfl ?_
  refine zw_ld (n := 1) (k := 2) (f := zp_isI) (pc' := 33) rfl rfl (zw_gt2 (zw_gt2 rfl rfl rfl) rfl rfl) rfl rfl ?_
  refine zw_s (pc' := 35) rfl rfl ?_
  refine zw_isub (pc' := 36) rfl rfl ?_
  refine zw_s (pc' := 37) rfl rfl ?_
  refine zw_lor (pc' := 38) rfl rfl ?_
  refine zw_sl (n := 2) (k := 7) (pc' := 40) rfl rfl rfl rfl ?_
  refine zw_ld (n := 1) (k := 3) (f := zp_isI) (pc' := 41) rfl rfl (zw_gt2 (zw_gt2 (zw_gt2 rfl rfl rfl) rfl rfl) rfl rfl) rfl rfl ?_
  refine zw_beq1 (g := 56) (pc' := 44) rfl rfl rfl (rfl : _ = (100 : Int)) (fun h9 => absurd h9 (by decide)) (fun hb => ?_)
  refine zw_ld (n := 2) (k := 7) (f := zp_isL) (pc' := 46) rfl rfl zw_g2 rfl rfl ?_
  refine zw_s (pc' := 47) rfl rfl ?_
  refine zw_lshl (pc' := 48) rfl rfl ?_
  refine zw_ld (n := 1) (k := 3) (f := zp_isI) (pc' := 49) rfl rfl (zw_gt2 (zw_gt2 (zw_gt2 rfl rfl rfl) rfl rfl) rfl rfl) rfl rfl ?_
  refine zw_s (pc' := 51) rfl rfl ?_
  refine zw_isub (pc' := 52) rfl rfl ?_
  refine zw_s (pc' := 53) rfl rfl ?_
  refine zw_lor (pc' := 54) rfl rfl ?_
  refine zw_sl (n := 2) (k := 7) (pc' := 56) rfl rfl rfl rfl ?_
  refine zw_ld (n := 2) (k := 4) (f := zp_isI) (pc' := 58) rfl rfl (zw_gt2 (zw_gt2 (zw_gt2 (zw_gt2 rfl rfl rfl) rfl rfl) rfl rfl) rfl rfl) rfl rfl ?_
  refine zw_beq1 (g := 74) (pc' := 61) rfl rfl rfl (rfl : _ = (0 : Int)) (fun hb => ?_) (fun h9 => absurd h9 (by decide))
  refine zw_ld (n := 2) (k := 5) (f := zp_isI) (pc' := 76) rfl rfl (zw_gt2 (zw_gt2 (zw_gt2 (zw_gt2 rfl rfl rfl) rfl rfl) rfl rfl) rfl rfl) rfl rfl ?_
  refine zw_beq1 (g := 92) (pc' := 79) rfl rfl rfl (rfl : _ = (0 : Int)) (fun hb => ?_) (fun h9 => absurd h9 (by decide))
  refine zw_ld (n := 2) (k := 6) (f := zp_isI) (pc' := 94) rfl rfl (zw_gt2 (zw_gt2 (zw_gt2 (zw_gt2 rfl rfl rfl) rfl rfl) rfl rfl) rfl rfl) rfl rfl ?_
  refine zw_beq1 (g := 110) (pc' := 97) rfl rfl rfl (rfl : _ = (0 : Int)) (fun hb => ?_) (fun h9 => absurd h9 (by decide))
  refine zw_ld (n := 2) (k := 7) (f := zp_isL) (pc' := 112) rfl rfl zw_g2 rfl rfl ?_
  refine zw_rl rfl rfl ?_
  exact congrArg (fun z => ((Sum.inl (some (Sum.inr (Sum.inl z))), H) : zp_X)) (by decide +kernel)

set_option maxRecDepth 8000 in
theorem zl_le12 {L : Nat} {σ : Nat → Int32} {d : Nat} {H : zp_H} : zp_Call L σ (d + 2) 178 [.inl (Int32.ofInt 12)] H (.inl (some (.inr (.inl 263620))), H) := by
  refine zw_ex (zw_met zm_178_t rfl rfl ?_)
  refine zw_ld (n := 1) (k := 0) (f := zp_isI) (pc' := 1) rfl rfl rfl rfl rfl ?_
  refine zw_s (pc' := 275) rfl rfl ?_
  refine zw_s (pc' := 277) rfl rfl ?_
  refine zw_s (pc' := 279) rfl rfl ?_
  refine zw_s (pc' := 281) rfl rfl ?_
  refine zw_s (pc' := 283) rfl rfl ?_
  refine zw_s (pc' := 284) rfl rfl ?_
  refine zw_s (pc' := 285) rfl rfl ?_
  refine zw_s (pc' := 286) rfl rfl ?_
  refine zw_c (pc' := 289) (zw_cs (Y := zm_179) rfl rfl zm_179_t) rfl rfl rfl rfl rfl (zl_sp12) ?_
  refine zw_rl rfl rfl ?_
  rfl

theorem zl_sp13 {L : Nat} {σ : Nat → Int32} {d : Nat} {H : zp_H} : zp_Call L σ (d + 1) 179 [.inl (Int32.ofInt 115), .inl (Int32.ofInt 99), .inl (Int32.ofInt 104), .inl (Int32.ofInt 111), .inl (Int32.ofInt 111), .inl (Int32.ofInt 108), .inl (Int32.ofInt 0)] H (.inl (some (.inr (.inl 640957932))), H) := by
  refine zw_ex (zw_met zm_179_t rfl rfl ?_)
  refine zw_ld (n := 1) (k := 0) (f := zp_isI) (pc' := 1) rfl rfl rfl rfl rfl ?_
  refine zw_s (pc' := 2) rfl rfl ?_
  refine zw_s (pc' := 5) rfl rfl ?_
  refine zw_lsub (pc' := 6) rfl rfl ?_
  refine zw_sl (n := 2) (k := 7) (pc' := 8) rfl rfl rfl rfl ?_
  refine zw_ld (n := 1) (k := 1) (f := zp_isI) (pc' := 9) rfl rfl (zw_gt2 rfl rfl rfl) rfl rfl ?_
  refine zw_beq1 (g := 24) (pc' := 12) rfl rfl rfl (rfl : _ = (99 : Int)) (fun h9 => absurd h9 (by decide)) (fun hb => ?_)
  refine zw_ld (n := 2) (k := 7) (f := zp_isL) (pc' := 14) rfl rfl zw_g2 rfl rfl ?_
  refine zw_s (pc' := 15) rfl rfl ?_
  refine zw_lshl (pc' := 16) rfl rfl ?_
  refine zw_ld (n := 1) (k := 1) (f := zp_isI) (pc' := 17) rfl rfl (zw_gt2 rfl rfl rfl) rfl rfl ?_
  refine zw_s (pc' := 19) rfl rfl ?_
  refine zw_isub (pc' := 20) rfl rfl ?_
  refine zw_s (pc' := 21) rfl rfl ?_
  refine zw_lor (pc' := 22) rfl rfl ?_
  refine zw_sl (n := 2) (k := 7) (pc' := 24) rfl rfl rfl rfl ?_
  refine zw_ld (n := 1) (k := 2) (f := zp_isI) (pc' := 25) rfl rfl (zw_gt2 (zw_gt2 rfl rfl rfl) rfl rfl) rfl rfl ?_
  refine zw_beq1 (g := 40) (pc' := 28) rfl rfl rfl (rfl : _ = (104 : Int)) (fun h9 => absurd h9 (by decide)) (fun hb => ?_)
  refine zw_ld (n := 2) (k := 7) (f := zp_isL) (pc' := 30) rfl rfl zw_g2 rfl rfl ?_
  refine zw_s (pc' := 31) rfl rfl ?_
  refine zw_lshl (pc' := 32) rfl rfl ?_
  refine zw_ld (n := 1) (k := 2) (f := zp_isI) (pc' := 33) rfl rfl (zw_gt2 (zw_gt2 rfl rfl rfl) rfl rfl) rfl rfl ?_
  refine zw_s (pc' := 35) rfl rfl ?_
  refine zw_isub (pc' := 36) rfl rfl ?_
  refine zw_s (pc' := 37) rfl rfl ?_
  refine zw_lor (pc' := 38) rfl rfl ?_
  refine zw_sl (n := 2) (k := 7) (pc' := 40) rfl rfl rfl rfl ?_
  refine zw_ld (n := 1) (k := 3) (f := zp_isI) (pc' := 41) rfl rfl (zw_gt2 (zw_gt2 (zw_gt2 rfl rfl rfl) rfl rfl) rfl rfl) rfl rfl ?_
  refine zw_beq1 (g := 56) (pc' := 44) rfl rfl rfl (rfl : _ = (111 : Int)) (fun h9 => absurd h9 (by decide)) (fun hb => ?_)
  refine zw_ld (n := 2) (k := 7) (f := zp_isL) (pc' := 46) rfl rfl zw_g2 rfl rfl ?_
  refine zw_s (pc' := 47) rfl rfl ?_
  refine zw_lshl (pc' := 48) rfl rfl ?_
  refine zw_ld (n := 1) (k := 3) (f := zp_isI) (pc' := 49) rfl rfl (zw_gt2 (zw_gt2 (zw_gt2 rfl rfl rfl) rfl rfl) rfl rfl) rfl rfl ?_
  refine zw_s (pc' := 51) rfl rfl ?_
  refine zw_isub (pc' := 52) rfl rfl ?_
  refine zw_s (pc' := 53) rfl rfl ?_
  refine zw_lor (pc' := 54) rfl rfl ?_
  refine zw_sl (n := 2) (k := 7) (pc' := 56) rfl rfl rfl rfl ?_
  refine zw_ld (n := 2) (k := 4) (f := zp_isI) (pc' := 58) rfl rfl (zw_gt2 (zw_gt2 (zw_gt2 (zw_gt2 rfl rfl rfl) rfl rfl) rfl rfl) rfl rfl) rfl rfl ?_
  refine zw_beq1 (g := 74) (pc' := 61) rfl rfl rfl (rfl : _ = (111 : Int)) (fun h9 => absurd h9 (by decide)) (fun hb => ?_)
  refine zw_ld (n := 2) (k := 7) (f := zp_isL) (pc' := 63) rfl rfl zw_g2 rfl rfl ?_
  refine zw_s (pc' := 64) rfl rfl ?_
  refine zw_lshl (pc' := 65) rfl rfl ?_
  refine zw_ld (n := 2) (k := 4) (f := zp_isI) (pc' := 67) rfl rfl (zw_gt2 (zw_gt2 (zw_gt2 (zw_gt2 rfl rfl rfl) rfl rfl) rfl rfl) rfl rfl) rfl rfl ?_
  refine zw_s (pc' := 69) rfl rfl ?_
  refine zw_isub (pc' := 70) rfl rfl ?_
  refine zw_s (pc' := 71) rfl rfl ?_
  refine zw_lor (pc' := 72) rfl rfl ?_
  refine zw_sl (n := 2) (k := 7) (pc' := 74) rfl rfl rfl rfl ?_
  refine zw_ld (n := 2) (k := 5) (f := zp_isI) (pc' := 76) rfl rfl (zw_gt2 (zw_gt2 (zw_gt2 (zw_gt2 (zw_gt2 rfl rfl rfl) rfl rfl) rfl rfl) rfl rfl) rfl rfl) rfl rfl ?_
  refine zw_beq1 (g := 92) (pc' := 79) rfl rfl rfl (rfl : _ = (108 : Int)) (fun h9 => absurd h9 (by decide)) (fun hb => ?_)
  refine zw_ld (n := 2) (k := 7) (f := zp_isL) (pc' := 81) rfl rfl zw_g2 rfl rfl ?_
  refine zw_s (pc' := 82) rfl rfl ?_
  refine zw_lshl (pc' := 83) rfl rfl ?_
  refine zw_ld (n := 2) (k := 5) (f := zp_isI) (pc' := 85) rfl rfl (zw_gt2 (zw_gt2 (zw_gt2 (zw_gt2 (zw_gt2 rfl rfl rfl) rfl rfl) rfl rfl) rfl rfl) rfl rfl) rfl rfl ?_
  refine zw_s (pc' := 87) rfl rfl ?_
  refine zw_isub (pc' := 88) rfl rfl ?_
  refine zw_s (pc' := 89) rfl rfl ?_
  refine zw_lor (pc' := 90) rfl rfl ?_
  refine zw_sl (n := 2) (k := 7) (pc' := 92) rfl rfl rfl rfl ?_
  refine zw_ld (n := 2) (k := 6) (f := zp_isI) (pc' := 94) rfl rfl (zw_gt2 (zw_gt2 (zw_gt2 (zw_gt2 (zw_gt2 (zw_gt2 rfl rfl rfl) rfl rfl) rfl rfl) rfl rfl) rfl rfl) rfl rfl) rfl rfl ?_
  refine zw_beq1 (g := 110) (pc' := 97) rfl rfl rfl (rfl : _ = (0 : Int)) (fun hb => ?_) (fun h9 => absurd h9 (by decide))
  refine zw_ld (n := 2) (k := 7) (f := zp_isL) (pc' := 112) rfl rfl zw_g2 rfl rfl ?_
  refine zw_rl rfl rfl ?_
  exact congrArg (fun z => ((Sum.inl (some (Sum.inr (Sum.inl z))), H) : zp_X)) (by decide +kernel)

set_option maxRecDepth 8000 in
theorem zl_le13 {L : Nat} {σ : Nat → Int32} {d : Nat} {H : zp_H} : zp_Call L σ (d + 2) 178 [.inl (Int32.ofInt 13)] H (.inl (some (.inr (.inl 640957932))), H) := by
  refine zw_ex (zw_met zm_178_t rfl rfl ?_)
  refine zw_ld (n := 1) (k := 0) (f := zp_isI) (pc' := 1) rfl rfl rfl rfl rfl ?_
  refine zw_s (pc' := 290) rfl rfl ?_
  refine zw_s (pc' := 292) rfl rfl ?_
  refine zw_s (pc' := 294) rfl rfl ?_
  refine zw_s (pc' := 296) rfl rfl ?_
  refine zw_s (pc' := 298) rfl rfl ?_
  refine zw_s (pc' := 300) rfl rfl ?_
  refine zw_s (pc' := 302) rfl rfl ?_
  refine zw_s (pc' := 303) rfl rfl ?_
  refine zw_c (pc' := 306) (zw_cs (Y := zm_179) rfl rfl zm_179_t) rfl rfl rfl rfl rfl (zl_sp13) ?_
  refine zw_rl rfl rfl ?_
  rfl

theorem zl_sp14 {L : Nat} {σ : Nat → Int32} {d : Nat} {H : zp_H} : zp_Call L σ (d + 1) 179 [.inl (Int32.ofInt 103), .inl (Int32.ofInt 111), .inl (Int32.ofInt 97), .inl (Int32.ofInt 108), .inl (Int32.ofInt 0), .inl (Int32.ofInt 0), .inl (Int32.ofInt 0)] H (.inl (some (.inr (.inl 244780))), H) := by
  refine zw_ex (zw_met zm_179_t rfl rfl ?_)
  refine zw_ld (n := 1) (k := 0) (f := zp_isI) (pc' := 1) rfl rfl rfl rfl rfl ?_
  refine zw_s (pc' := 2) rfl rfl ?_
  refine zw_s (pc' := 5) rfl rfl ?_
  refine zw_lsub (pc' := 6) rfl rfl ?_
  refine zw_sl (n := 2) (k := 7) (pc' := 8) rfl rfl rfl rfl ?_
  refine zw_ld (n := 1) (k := 1) (f := zp_isI) (pc' := 9) rfl rfl (zw_gt2 rfl rfl rfl) rfl rfl ?_
  refine zw_beq1 (g := 24) (pc' := 12) rfl rfl rfl (rfl : _ = (111 : Int)) (fun h9 => absurd h9 (by decide)) (fun hb => ?_)
  refine zw_ld (n := 2) (k := 7) (f := zp_isL) (pc' := 14) rfl rfl zw_g2 rfl rfl ?_
  refine zw_s (pc' := 15) rfl rfl ?_
  refine zw_lshl (pc' := 16) rfl rfl ?_
  refine zw_ld (n := 1) (k := 1) (f := zp_isI) (pc' := 17) rfl rfl (zw_gt2 rfl rfl rfl) rfl rfl ?_
  refine zw_s (pc' := 19) rfl rfl ?_
  refine zw_isub (pc' := 20) rfl rfl ?_
  refine zw_s (pc' := 21) rfl rfl ?_
  refine zw_lor (pc' := 22) rfl rfl ?_
  refine zw_sl (n := 2) (k := 7) (pc' := 24) rfl rfl rfl rfl ?_
  refine zw_ld (n := 1) (k := 2) (f := zp_isI) (pc' := 25) rfl rfl (zw_gt2 (zw_gt2 rfl rfl rfl) rfl rfl) rfl rfl ?_
  refine zw_beq1 (g := 40) (pc' := 28) rfl rfl rfl (rfl : _ = (97 : Int)) (fun h9 => absurd h9 (by decide)) (fun hb => ?_)
  refine zw_ld (n := 2) (k := 7) (f := zp_isL) (pc' := 30) rfl rfl zw_g2 rfl rfl ?_
  refine zw_s (pc' := 31) rfl rfl ?_
  refine zw_lshl (pc' := 32) rfl rfl ?_
  refine zw_ld (n := 1) (k := 2) (f := zp_isI) (pc' := 33) rfl rfl (zw_gt2 (zw_gt2 rfl rfl rfl) rfl rfl) rfl rfl ?_
  refine zw_s (pc' := 35) rfl rfl ?_
  refine zw_isub (pc' := 36) rfl rfl ?_
  refine zw_s (pc' := 37) rfl rfl ?_
  refine zw_lor (pc' := 38) rfl rfl ?_
  refine zw_sl (n := 2) (k := 7) (pc' := 40) rfl rfl rfl rfl ?_
  refine zw_ld (n := 1) (k := 3) (f := zp_isI) (pc' := 41) rfl rfl (zw_gt2 (zw_gt2 (zw_gt2 rfl rfl rfl) rfl rfl) rfl rfl) rfl rfl ?_
  refine zw_beq1 (g := 56) (pc' := 44) rfl rfl rfl (rfl : _ = (108 : Int)) (fun h9 => absurd h9 (by decide)) (fun hb => ?_)
  refine zw_ld (n := 2) (k := 7) (f := zp_isL) (pc' := 46) rfl rfl zw_g2 rfl rfl ?_
  refine zw_s (pc' := 47) rfl rfl ?_
  refine zw_lshl (pc' := 48) rfl rfl ?_
  refine zw_ld (n := 1) (k := 3) (f := zp_isI) (pc' := 49) rfl rfl (zw_gt2 (zw_gt2 (zw_gt2 rfl rfl rfl) rfl rfl) rfl rfl) rfl rfl ?_
  refine zw_s (pc' := 51) rfl rfl ?_
  refine zw_isub (pc' := 52) rfl rfl ?_
  refine zw_s (pc' := 53) rfl rfl ?_
  refine zw_lor (pc' := 54) rfl rfl ?_
  refine zw_sl (n := 2) (k := 7) (pc' := 56) rfl rfl rfl rfl ?_
  refine zw_ld (n := 2) (k := 4) (f := zp_isI) (pc' := 58) rfl rfl (zw_gt2 (zw_gt2 (zw_gt2 (zw_gt2 rfl rfl rfl) rfl rfl) rfl rfl) rfl rfl) rfl rfl ?_
  refine zw_beq1 (g := 74) (pc' := 61) rfl rfl rfl (rfl : _ = (0 : Int)) (fun hb => ?_) (fun h9 => absurd h9 (by decide))
  refine zw_ld (n := 2) (k := 5) (f := zp_isI) (pc' := 76) rfl rfl (zw_gt2 (zw_gt2 (zw_gt2 (zw_gt2 rfl rfl rfl) rfl rfl) rfl rfl) rfl rfl) rfl rfl ?_
  refine zw_beq1 (g := 92) (pc' := 79) rfl rfl rfl (rfl : _ = (0 : Int)) (fun hb => ?_) (fun h9 => absurd h9 (by decide))
  refine zw_ld (n := 2) (k := 6) (f := zp_isI) (pc' := 94) rfl rfl (zw_gt2 (zw_gt2 (zw_gt2 (zw_gt2 rfl rfl rfl) rfl rfl) rfl rfl) rfl rfl) rfl rfl ?_
  refine zw_beq1 (g := 110) (pc' := 97) rfl rfl rfl (rfl : _ = (0 : Int)) (fun hb => ?_) (fun h9 => absurd h9 (by decide))
  refine zw_ld (n := 2) (k := 7) (f := zp_isL) (pc' := 112) rfl rfl zw_g2 rfl rfl ?_
  refine zw_rl rfl rfl ?_
  exact congrArg (fun z => ((Sum.inl (some (Sum.inr (Sum.inl z))), H) : zp_X)) (by decide +kernel)

set_option maxRecDepth 8000 in
theorem zl_le14 {L : Nat} {σ : Nat → Int32} {d : Nat} {H : zp_H} : zp_Call L σ (d + 2) 178 [.inl (Int32.ofInt 14)] H (.inl (some (.inr (.inl 244780))), H) := by
  refine zw_ex (zw_met zm_178_t rfl rfl ?_)
  refine zw_ld (n := 1) (k := 0) (f := zp_isI) (pc' := 1) rfl rfl rfl rfl rfl ?_
  refine zw_s (pc' := 307) rfl rfl ?_
  refine zw_s (pc' := 309) rfl rfl ?_
  refine zw_s (pc' := 311) rfl rfl ?_
  refine zw_s (pc' := 313) rfl rfl ?_
  refine zw_s (pc' := 315) rfl rfl ?_
  refine zw_s (pc' := 316) rfl rfl ?_
  refine zw_s (pc' := 317) rfl rfl ?_
  refine zw_s (pc' := 318) rfl rfl ?_
  refine zw_c (pc' := 321) (zw_cs (Y := zm_179) rfl rfl zm_179_t) rfl rfl rfl rfl rfl (zl_sp14) ?_
  refine zw_rl rfl rfl ?_
  rfl

theorem zl_sp15 {L : Nat} {σ : Nat → Int32} {d : Nat} {H : zp_H} : zp_Call L σ (d + 1) 179 [.inl (Int32.ofInt 112), .inl (Int32.ofInt 105), .inl (Int32.ofInt 108), .inl (Int32.ofInt 111), .inl (Int32.ofInt 116), .inl (Int32.ofInt 0), .inl (Int32.ofInt 0)] H (.inl (some (.inr (.inl 17084916))), H) := by
  refine zw_ex (zw_met zm_179_t rfl rfl ?_)
  refine zw_ld (n := 1) (k := 0) (f := zp_isI) (pc' := 1) rfl rfl rfl rfl rfl ?_
  refine zw_s (pc' := 2) rfl rfl ?_
  refine zw_s (pc' := 5) rfl rfl ?_
  refine zw_lsub (pc' := 6) rfl rfl ?_
  refine zw_sl (n := 2) (k := 7) (pc' := 8) rfl rfl rfl rfl ?_
  refine zw_ld (n := 1) (k := 1) (f := zp_isI) (pc' := 9) rfl rfl (zw_gt2 rfl rfl rfl) rfl rfl ?_
  refine zw_beq1 (g := 24) (pc' := 12) rfl rfl rfl (rfl : _ = (105 : Int)) (fun h9 => absurd h9 (by decide)) (fun hb => ?_)
  refine zw_ld (n := 2) (k := 7) (f := zp_isL) (pc' := 14) rfl rfl zw_g2 rfl rfl ?_
  refine zw_s (pc' := 15) rfl rfl ?_
  refine zw_lshl (pc' := 16) rfl rfl ?_
  refine zw_ld (n := 1) (k := 1) (f := zp_isI) (pc' := 17) rfl rfl (zw_gt2 rfl rfl rfl) rfl rfl ?_
  refine zw_s (pc' := 19) rfl rfl ?_
  refine zw_isub (pc' := 20) rfl rfl ?_
  refine zw_s (pc' := 21) rfl rfl ?_
  refine zw_lor (pc' := 22) rfl rfl ?_
  refine zw_sl (n := 2) (k := 7) (pc' := 24) rfl rfl rfl rfl ?_
  refine zw_ld (n := 1) (k := 2) (f := zp_isI) (pc' := 25) rfl rfl (zw_gt2 (zw_gt2 rfl rfl rfl) rfl rfl) rfl rfl ?_
  refine zw_beq1 (g := 40) (pc' := 28) rfl rfl rfl (rfl : _ = (108 : Int)) (fun h9 => absurd h9 (by decide)) (fun hb => ?_)
  refine zw_ld (n := 2) (k := 7) (f := zp_isL) (pc' := 30) rfl rfl zw_g2 rfl rfl ?_
  refine zw_s (pc' := 31) rfl rfl ?_
  refine zw_lshl (pc' := 32) rfl rfl ?_
  refine zw_ld (n := 1) (k := 2) (f := zp_isI) (pc' := 33) rfl rfl (zw_gt2 (zw_gt2 rfl rfl rfl) rfl rfl) rfl rfl ?_
  refine zw_s (pc' := 35) rfl rfl ?_
  refine zw_isub (pc' := 36) rfl rfl ?_
  refine zw_s (pc' := 37) rfl rfl ?_
  refine zw_lor (pc' := 38) rfl rfl ?_
  refine zw_sl (n := 2) (k := 7) (pc' := 40) rfl rfl rfl rfl ?_
  refine zw_ld (n := 1) (k := 3) (f := zp_isI) (pc' := 41) rfl rfl (zw_gt2 (zw_gt2 (zw_gt2 rfl rfl rfl) rfl rfl) rfl rfl) rfl rfl ?_
  refine zw_beq1 (g := 56) (pc' := 44) rfl rfl rfl (rfl : _ = (111 : Int)) (fun h9 => absurd h9 (by decide)) (fun hb => ?_)
  refine zw_ld (n := 2) (k := 7) (f := zp_isL) (pc' := 46) rfl rfl zw_g2 rfl rfl ?_
  refine zw_s (pc' := 47) rfl rfl ?_
  refine zw_lshl (pc' := 48) rfl rfl ?_
  refine zw_ld (n := 1) (k := 3) (f := zp_isI) (pc' := 49) rfl rfl (zw_gt2 (zw_gt2 (zw_gt2 rfl rfl rfl) rfl rfl) rfl rfl) rfl rfl ?_
  refine zw_s (pc' := 51) rfl rfl ?_
  refine zw_isub (pc' := 52) rfl rfl ?_
  refine zw_s (pc' := 53) rfl rfl ?_
  refine zw_lor (pc' := 54) rfl rfl ?_
  refine zw_sl (n := 2) (k := 7) (pc' := 56) rfl rfl rfl rfl ?_
  refine zw_ld (n := 2) (k := 4) (f := zp_isI) (pc' := 58) rfl rfl (zw_gt2 (zw_gt2 (zw_gt2 (zw_gt2 rfl rfl rfl) rfl rfl) rfl rfl) rfl rfl) rfl rfl ?_
  refine zw_beq1 (g := 74) (pc' := 61) rfl rfl rfl (rfl : _ = (116 : Int)) (fun h9 => absurd h9 (by decide)) (fun hb => ?_)
  refine zw_ld (n := 2) (k := 7) (f := zp_isL) (pc' := 63) rfl rfl zw_g2 rfl rfl ?_
  refine zw_s (pc' := 64) rfl rfl ?_
  refine zw_lshl (pc' := 65) rfl rfl ?_
  refine zw_ld (n := 2) (k := 4) (f := zp_isI) (pc' := 67) rfl rfl (zw_gt2 (zw_gt2 (zw_gt2 (zw_gt2 rfl rfl rfl) rfl rfl) rfl rfl) rfl rfl) rfl rfl ?_
  refine zw_s (pc' := 69) rfl rfl ?_
  refine zw_isub (pc' := 70) rfl rfl ?_
  refine zw_s (pc' := 71) rfl rfl ?_
  refine zw_lor (pc' := 72) rfl rfl ?_
  refine zw_sl (n := 2) (k := 7) (pc' := 74) rfl rfl rfl rfl ?_
  refine zw_ld (n := 2) (k := 5) (f := zp_isI) (pc' := 76) rfl rfl (zw_gt2 (zw_gt2 (zw_gt2 (zw_gt2 (zw_gt2 rfl rfl rfl) rfl rfl) rfl rfl) rfl rfl) rfl rfl) rfl rfl ?_
  refine zw_beq1 (g := 92) (pc' := 79) rfl rfl rfl (rfl : _ = (0 : Int)) (fun hb => ?_) (fun h9 => absurd h9 (by decide))
  refine zw_ld (n := 2) (k := 6) (f := zp_isI) (pc' := 94) rfl rfl (zw_gt2 (zw_gt2 (zw_gt2 (zw_gt2 (zw_gt2 rfl rfl rfl) rfl rfl) rfl rfl) rfl rfl) rfl rfl) rfl rfl ?_
  refine zw_beq1 (g := 110) (pc' := 97) rfl rfl rfl (rfl : _ = (0 : Int)) (fun hb => ?_) (fun h9 => absurd h9 (by decide))
  refine zw_ld (n := 2) (k := 7) (f := zp_isL) (pc' := 112) rfl rfl zw_g2 rfl rfl ?_
  refine zw_rl rfl rfl ?_
  exact congrArg (fun z => ((Sum.inl (some (Sum.inr (Sum.inl z))), H) : zp_X)) (by decide +kernel)

set_option maxRecDepth 8000 in
theorem zl_le15 {L : Nat} {σ : Nat → Int32} {d : Nat} {H : zp_H} : zp_Call L σ (d + 2) 178 [.inl (Int32.ofInt 15)] H (.inl (some (.inr (.inl 17084916))), H) := by
  refine zw_ex (zw_met zm_178_t rfl rfl ?_)
  refine zw_ld (n := 1) (k := 0) (f := zp_isI) (pc' := 1) rfl rfl rfl rfl rfl ?_
  refine zw_s (pc' := 322) rfl rfl ?_
  refine zw_s (pc' := 324) rfl rfl ?_
  refine zw_s (pc' := 326) rfl rfl ?_
  refine zw_s (pc' := 328) rfl rfl ?_
  refine zw_s (pc' := 330) rfl rfl ?_
  refine zw_s (pc' := 332) rfl rfl ?_
  refine zw_s (pc' := 333) rfl rfl ?_
  refine zw_s (pc' := 334) rfl rfl ?_
  refine zw_c (pc' := 337) (zw_cs (Y := zm_179) rfl rfl zm_179_t) rfl rfl rfl rfl rfl (zl_sp15) ?_
  refine zw_rl rfl rfl ?_
  rfl

theorem zl_sp16 {L : Nat} {σ : Nat → Int32} {d : Nat} {H : zp_H} : zp_Call L σ (d + 1) 179 [.inl (Int32.ofInt 114), .inl (Int32.ofInt 117), .inl (Int32.ofInt 108), .inl (Int32.ofInt 101), .inl (Int32.ofInt 0), .inl (Int32.ofInt 0), .inl (Int32.ofInt 0)] H (.inl (some (.inr (.inl 611717))), H) := by
  refine zw_ex (zw_met zm_179_t rfl rfl ?_)
  refine zw_ld (n := 1) (k := 0) (f := zp_isI) (pc' := 1) rfl rfl rfl rfl rfl ?_
  refine zw_s (pc' := 2) rfl rfl ?_
  refine zw_s (pc' := 5) rfl rfl ?_
  refine zw_lsub (pc' := 6) rfl rfl ?_
  refine zw_sl (n := 2) (k := 7) (pc' := 8) rfl rfl rfl rfl ?_
  refine zw_ld (n := 1) (k := 1) (f := zp_isI) (pc' := 9) rfl rfl (zw_gt2 rfl rfl rfl) rfl rfl ?_
  refine zw_beq1 (g := 24) (pc' := 12) rfl rfl rfl (rfl : _ = (117 : Int)) (fun h9 => absurd h9 (by decide)) (fun hb => ?_)
  refine zw_ld (n := 2) (k := 7) (f := zp_isL) (pc' := 14) rfl rfl zw_g2 rfl rfl ?_
  refine zw_s (pc' := 15) rfl rfl ?_
  refine zw_lshl (pc' := 16) rfl rfl ?_
  refine zw_ld (n := 1) (k := 1) (f := zp_isI) (pc' := 17) rfl rfl (zw_gt2 rfl rfl rfl) rfl rfl ?_
  refine zw_s (pc' := 19) rfl rfl ?_
  refine zw_isub (pc' := 20) rfl rfl ?_
  refine zw_s (pc' := 21) rfl rfl ?_
  refine zw_lor (pc' := 22) rfl rfl ?_
  refine zw_sl (n := 2) (k := 7) (pc' := 24) rfl rfl rfl rfl ?_
  refine zw_ld (n := 1) (k := 2) (f := zp_isI) (pc' := 25) rfl rfl (zw_gt2 (zw_gt2 rfl rfl rfl) rfl rfl) rfl rfl ?_
  refine zw_beq1 (g := 40) (pc' := 28) rfl rfl rfl (rfl : _ = (108 : Int)) (fun h9 => absurd h9 (by decide)) (fun hb => ?_)
  refine zw_ld (n := 2) (k := 7) (f := zp_isL) (pc' := 30) rfl rfl zw_g2 rfl rfl ?_
  refine zw_s (pc' := 31) rfl rfl ?_
  refine zw_lshl (pc' := 32) rfl rfl ?_
  refine zw_ld (n := 1) (k := 2) (f := zp_isI) (pc' := 33) rfl rfl (zw_gt2 (zw_gt2 rfl rfl rfl) rfl rfl) rfl rfl ?_
  refine zw_s (pc' := 35) rfl rfl ?_
  refine zw_isub (pc' := 36) rfl rfl ?_
  refine zw_s (pc' := 37) rfl rfl ?_
  refine zw_lor (pc' := 38) rfl rfl ?_
  refine zw_sl (n := 2) (k := 7) (pc' := 40) rfl rfl rfl rfl ?_
  refine zw_ld (n := 1) (k := 3) (f := zp_isI) (pc' := 41) rfl rfl (zw_gt2 (zw_gt2 (zw_gt2 rfl rfl rfl) rfl rfl) rfl rfl) rfl rfl ?_
  refine zw_beq1 (g := 56) (pc' := 44) rfl rfl rfl (rfl : _ = (101 : Int)) (fun h9 => absurd h9 (by decide)) (fun hb => ?_)
  refine zw_ld (n := 2) (k := 7) (f := zp_isL) (pc' := 46) rfl rfl zw_g2 rfl rfl ?_
  refine zw_s (pc' := 47) rfl rfl ?_
  refine zw_lshl (pc' := 48) rfl rfl ?_
  refine zw_ld (n := 1) (k := 3) (f := zp_isI) (pc' := 49) rfl rfl (zw_gt2 (zw_gt2 (zw_gt2 rfl rfl rfl) rfl rfl) rfl rfl) rfl rfl ?_
  refine zw_s (pc' := 51) rfl rfl ?_
  refine zw_isub (pc' := 52) rfl rfl ?_
  refine zw_s (pc' := 53) rfl rfl ?_
  refine zw_lor (pc' := 54) rfl rfl ?_
  refine zw_sl (n := 2) (k := 7) (pc' := 56) rfl rfl rfl rfl ?_
  refine zw_ld (n := 2) (k := 4) (f := zp_isI) (pc' := 58) rfl rfl (zw_gt2 (zw_gt2 (zw_gt2 (zw_gt2 rfl rfl rfl) rfl rfl) rfl rfl) rfl rfl) rfl rfl ?_
  refine zw_beq1 (g := 74) (pc' := 61) rfl rfl rfl (rfl : _ = (0 : Int)) (fun hb => ?_) (fun h9 => absurd h9 (by decide))
  refine zw_ld (n := 2) (k := 5) (f := zp_isI) (pc' := 76) rfl rfl (zw_gt2 (zw_gt2 (zw_gt2 (zw_gt2 rfl rfl rfl) rfl rfl) rfl rfl) rfl rfl) rfl rfl ?_
  refine zw_beq1 (g := 92) (pc' := 79) rfl rfl rfl (rfl : _ = (0 : Int)) (fun hb => ?_) (fun h9 => absurd h9 (by decide))
  refine zw_ld (n := 2) (k := 6) (f := zp_isI) (pc' := 94) rfl rfl (zw_gt2 (zw_gt2 (zw_gt2 (zw_gt2 rfl rfl rfl) rfl rfl) rfl rfl) rfl rfl) rfl rfl ?_
  refine zw_beq1 (g := 110) (pc' := 97) rfl rfl rfl (rfl : _ = (0 : Int)) (fun hb => ?_) (fun h9 => absurd h9 (by decide))
  refine zw_ld (n := 2) (k := 7) (f := zp_isL) (pc' := 112) rfl rfl zw_g2 rfl rfl ?_
  refine zw_rl rfl rfl ?_
  exact congrArg (fun z => ((Sum.inl (some (Sum.inr (Sum.inl z))), H) : zp_X)) (by decide +kernel)

set_option maxRecDepth 8000 in
theorem zl_le16 {L : Nat} {σ : Nat → Int32} {d : Nat} {H : zp_H} : zp_Call L σ (d + 2) 178 [.inl (Int32.ofInt 16)] H (.inl (some (.inr (.inl 611717))), H) := by
  refine zw_ex (zw_met zm_178_t rfl rfl ?_)
  refine zw_ld (n := 1) (k := 0) (f := zp_isI) (pc' := 1) rfl rfl rfl rfl rfl ?_
  refine zw_s (pc' := 338) rfl rfl ?_
  refine zw_s (pc' := 340) rfl rfl ?_
  refine zw_s (pc' := 342) rfl rfl ?_
  refine zw_s (pc' := 344) rfl rfl ?_
  refine zw_s (pc' := 346) rfl rfl ?_
  refine zw_s (pc' := 347) rfl rfl ?_
  refine zw_s (pc' := 348) rfl rfl ?_
  refine zw_s (pc' := 349) rfl rfl ?_
  refine zw_c (pc' := 352) (zw_cs (Y := zm_179) rfl rfl zm_179_t) rfl rfl rfl rfl rfl (zl_sp16) ?_
  refine zw_rl rfl rfl ?_
  rfl

theorem zl_sp17 {L : Nat} {σ : Nat → Int32} {d : Nat} {H : zp_H} : zp_Call L σ (d + 1) 179 [.inl (Int32.ofInt 103), .inl (Int32.ofInt 111), .inl (Int32.ofInt 0), .inl (Int32.ofInt 0), .inl (Int32.ofInt 0), .inl (Int32.ofInt 0), .inl (Int32.ofInt 0)] H (.inl (some (.inr (.inl 239))), H) := by
  refine zw_ex (zw_met zm_179_t rfl rfl ?_)
  refine zw_ld (n := 1) (k := 0) (f := zp_isI) (pc' := 1) rfl rfl rfl rfl rfl ?_
  refine zw_s (pc' := 2) rfl rfl ?_
  refine zw_s (pc' := 5) rfl rfl ?_
  refine zw_lsub (pc' := 6) rfl rfl ?_
  refine zw_sl (n := 2) (k := 7) (pc' := 8) rfl rfl rfl rfl ?_
  refine zw_ld (n := 1) (k := 1) (f := zp_isI) (pc' := 9) rfl rfl (zw_gt2 rfl rfl rfl) rfl rfl ?_
  refine zw_beq1 (g := 24) (pc' := 12) rfl rfl rfl (rfl : _ = (111 : Int)) (fun h9 => absurd h9 (by decide)) (fun hb => ?_)
  refine zw_ld (n := 2) (k := 7) (f := zp_isL) (pc' := 14) rfl rfl zw_g2 rfl rfl ?_
  refine zw_s (pc' := 15) rfl rfl ?_
  refine zw_lshl (pc' := 16) rfl rfl ?_
  refine zw_ld (n := 1) (k := 1) (f := zp_isI) (pc' := 17) rfl rfl (zw_gt2 rfl rfl rfl) rfl rfl ?_
  refine zw_s (pc' := 19) rfl rfl ?_
  refine zw_isub (pc' := 20) rfl rfl ?_
  refine zw_s (pc' := 21) rfl rfl ?_
  refine zw_lor (pc' := 22) rfl rfl ?_
  refine zw_sl (n := 2) (k := 7) (pc' := 24) rfl rfl rfl rfl ?_
  refine zw_ld (n := 1) (k := 2) (f := zp_isI) (pc' := 25) rfl rfl (zw_gt2 (zw_gt2 rfl rfl rfl) rfl rfl) rfl rfl ?_
  refine zw_beq1 (g := 40) (pc' := 28) rfl rfl rfl (rfl : _ = (0 : Int)) (fun hb => ?_) (fun h9 => absurd h9 (by decide))
  refine zw_ld (n := 1) (k := 3) (f := zp_isI) (pc' := 41) rfl rfl (zw_gt2 (zw_gt2 rfl rfl rfl) rfl rfl) rfl rfl ?_
  refine zw_beq1 (g := 56) (pc' := 44) rfl rfl rfl (rfl : _ = (0 : Int)) (fun hb => ?_) (fun h9 => absurd h9 (by decide))
  refine zw_ld (n := 2) (k := 4) (f := zp_isI) (pc' := 58) rfl rfl (zw_gt2 (zw_gt2 rfl rfl rfl) rfl rfl) rfl rfl ?_
  refine zw_beq1 (g := 74) (pc' := 61) rfl rfl rfl (rfl : _ = (0 : Int)) (fun hb => ?_) (fun h9 => absurd h9 (by decide))
  refine zw_ld (n := 2) (k := 5) (f := zp_isI) (pc' := 76) rfl rfl (zw_gt2 (zw_gt2 rfl rfl rfl) rfl rfl) rfl rfl ?_
  refine zw_beq1 (g := 92) (pc' := 79) rfl rfl rfl (rfl : _ = (0 : Int)) (fun hb => ?_) (fun h9 => absurd h9 (by decide))
  refine zw_ld (n := 2) (k := 6) (f := zp_isI) (pc' := 94) rfl rfl (zw_gt2 (zw_gt2 rfl rfl rfl) rfl rfl) rfl rfl ?_
  refine zw_beq1 (g := 110) (pc' := 97) rfl rfl rfl (rfl : _ = (0 : Int)) (fun hb => ?_) (fun h9 => absurd h9 (by decide))
  refine zw_ld (n := 2) (k := 7) (f := zp_isL) (pc' := 112) rfl rfl zw_g2 rfl rfl ?_
  refine zw_rl rfl rfl ?_
  exact congrArg (fun z => ((Sum.inl (some (Sum.inr (Sum.inl z))), H) : zp_X)) (by decide +kernel)

set_option maxRecDepth 8000 in
theorem zl_le17 {L : Nat} {σ : Nat → Int32} {d : Nat} {H : zp_H} : zp_Call L σ (d + 2) 178 [.inl (Int32.ofInt 17)] H (.inl (some (.inr (.inl 239))), H) := by
  refine zw_ex (zw_met zm_178_t rfl rfl ?_)
  refine zw_ld (n := 1) (k := 0) (f := zp_isI) (pc' := 1) rfl rfl rfl rfl rfl ?_
  refine zw_s (pc' := 353) rfl rfl ?_
  refine zw_s (pc' := 355) rfl rfl ?_
  refine zw_s (pc' := 357) rfl rfl ?_
  refine zw_s (pc' := 358) rfl rfl ?_
  refine zw_s (pc' := 359) rfl rfl ?_
  refine zw_s (pc' := 360) rfl rfl ?_
  refine zw_s (pc' := 361) rfl rfl ?_
  refine zw_s (pc' := 362) rfl rfl ?_
  refine zw_c (pc' := 365) (zw_cs (Y := zm_179) rfl rfl zm_179_t) rfl rfl rfl rfl rfl (zl_sp17) ?_
  refine zw_rl rfl rfl ?_
  rfl

theorem zl_sp18 {L : Nat} {σ : Nat → Int32} {d : Nat} {H : zp_H} : zp_Call L σ (d + 1) 179 [.inl (Int32.ofInt 97), .inl (Int32.ofInt 110), .inl (Int32.ofInt 100), .inl (Int32.ofInt 0), .inl (Int32.ofInt 0), .inl (Int32.ofInt 0), .inl (Int32.ofInt 0)] H (.inl (some (.inr (.inl 1476))), H) := by
  refine zw_ex (zw_met zm_179_t rfl rfl ?_)
  refine zw_ld (n := 1) (k := 0) (f := zp_isI) (pc' := 1) rfl rfl rfl rfl rfl ?_
  refine zw_s (pc' := 2) rfl rfl ?_
  refine zw_s (pc' := 5) rfl rfl ?_
  refine zw_lsub (pc' := 6) rfl rfl ?_
  refine zw_sl (n := 2) (k := 7) (pc' := 8) rfl rfl rfl rfl ?_
  refine zw_ld (n := 1) (k := 1) (f := zp_isI) (pc' := 9) rfl rfl (zw_gt2 rfl rfl rfl) rfl rfl ?_
  refine zw_beq1 (g := 24) (pc' := 12) rfl rfl rfl (rfl : _ = (110 : Int)) (fun h9 => absurd h9 (by decide)) (fun hb => ?_)
  refine zw_ld (n := 2) (k := 7) (f := zp_isL) (pc' := 14) rfl rfl zw_g2 rfl rfl ?_
  refine zw_s (pc' := 15) rfl rfl ?_
  refine zw_lshl (pc' := 16) rfl rfl ?_
  refine zw_ld (n := 1) (k := 1) (f := zp_isI) (pc' := 17) rfl rfl (zw_gt2 rfl rfl rfl) rfl rfl ?_
  refine zw_s (pc' := 19) rfl rfl ?_
  refine zw_isub (pc' := 20) rfl rfl ?_
  refine zw_s (pc' := 21) rfl rfl ?_
  refine zw_lor (pc' := 22) rfl rfl ?_
  refine zw_sl (n := 2) (k := 7) (pc' := 24) rfl rfl rfl rfl ?_
  refine zw_ld (n := 1) (k := 2) (f := zp_isI) (pc' := 25) rfl rfl (zw_gt2 (zw_gt2 rfl rfl rfl) rfl rfl) rfl rfl ?_
  refine zw_beq1 (g := 40) (pc' := 28) rfl rfl rfl (rfl : _ = (100 : Int)) (fun h9 => absurd h9 (by decide)) (fun hb => ?_)
  refine zw_ld (n := 2) (k := 7) (f := zp_isL) (pc' := 30) rfl rfl zw_g2 rfl rfl ?_
  refine zw_s (pc' := 31) rfl rfl ?_
  refine zw_lshl (pc' := 32) rfl rfl ?_
  refine zw_ld (n := 1) (k := 2) (f := zp_isI) (pc' := 33) rfl rfl (zw_gt2 (zw_gt2 rfl rfl rfl) rfl rfl) rfl rfl ?_
  refine zw_s (pc' := 35) rfl rfl ?_
  refine zw_isub (pc' := 36) rfl rfl ?_
  refine zw_s (pc' := 37) rfl rfl ?_
  refine zw_lor (pc' := 38) rfl rfl ?_
  refine zw_sl (n := 2) (k := 7) (pc' := 40) rfl rfl rfl rfl ?_
  refine zw_ld (n := 1) (k := 3) (f := zp_isI) (pc' := 41) rfl rfl (zw_gt2 (zw_gt2 (zw_gt2 rfl rfl rfl) rfl rfl) rfl rfl) rfl rfl ?_
  refine zw_beq1 (g := 56) (pc' := 44) rfl rfl rfl (rfl : _ = (0 : Int)) (fun hb => ?_) (fun h9 => absurd h9 (by decide))
  refine zw_ld (n := 2) (k := 4) (f := zp_isI) (pc' := 58) rfl rfl (zw_gt2 (zw_gt2 (zw_gt2 rfl rfl rfl) rfl rfl) rfl rfl) rfl rfl ?_
  refine zw_beq1 (g := 74) (pc' := 61) rfl rfl rfl (rfl : _ = (0 : Int)) (fun hb => ?_) (fun h9 => absurd h9 (by decide))
  refine zw_ld (n := 2) (k := 5) (f := zp_isI) (pc' := 76) rfl rfl (zw_gt2 (zw_gt2 (zw_gt2 rfl rfl rfl) rfl rfl) rfl rfl) rfl rfl ?_
  refine zw_beq1 (g := 92) (pc' := 79) rfl rfl rfl (rfl : _ = (0 : Int)) (fun hb => ?_) (fun h9 => absurd h9 (by decide))
  refine zw_ld (n := 2) (k := 6) (f := zp_isI) (pc' := 94) rfl rfl (zw_gt2 (zw_gt2 (zw_gt2 rfl rfl rfl) rfl rfl) rfl rfl) rfl rfl ?_
  refine zw_beq1 (g := 110) (pc' := 97) rfl rfl rfl (rfl : _ = (0 : Int)) (fun hb => ?_) (fun h9 => absurd h9 (by decide))
  refine zw_ld (n := 2) (k := 7) (f := zp_isL) (pc' := 112) rfl rfl zw_g2 rfl rfl ?_
  refine zw_rl rfl rfl ?_
  exact congrArg (fun z => ((Sum.inl (some (Sum.inr (Sum.inl z))), H) : zp_X)) (by decide +kernel)

set_option maxRecDepth 8000 in
theorem zl_le18 {L : Nat} {σ : Nat → Int32} {d : Nat} {H : zp_H} : zp_Call L σ (d + 2) 178 [.inl (Int32.ofInt 18)] H (.inl (some (.inr (.inl 1476))), H) := by
  refine zw_ex (zw_met zm_178_t rfl rfl ?_)
  refine zw_ld (n := 1) (k := 0) (f := zp_isI) (pc' := 1) rfl rfl rfl rfl rfl ?_
  refine zw_s (pc' := 366) rfl rfl ?_
  refine zw_s (pc' := 368) rfl rfl ?_
  refine zw_s (pc' := 370) rfl rfl ?_
  refine zw_s (pc' := 372) rfl rfl ?_
  refine zw_s (pc' := 373) rfl rfl ?_
  refine zw_s (pc' := 374) rfl rfl ?_
  refine zw_s (pc' := 375) rfl rfl ?_
  refine zw_s (pc' := 376) rfl rfl ?_
  refine zw_c (pc' := 379) (zw_cs (Y := zm_179) rfl rfl zm_179_t) rfl rfl rfl rfl rfl (zl_sp18) ?_
  refine zw_rl rfl rfl ?_
  rfl

theorem zl_sp19 {L : Nat} {σ : Nat → Int32} {d : Nat} {H : zp_H} : zp_Call L σ (d + 1) 179 [.inl (Int32.ofInt 111), .inl (Int32.ofInt 114), .inl (Int32.ofInt 0), .inl (Int32.ofInt 0), .inl (Int32.ofInt 0), .inl (Int32.ofInt 0), .inl (Int32.ofInt 0)] H (.inl (some (.inr (.inl 498))), H) := by
  refine zw_ex (zw_met zm_179_t rfl rfl ?_)
  refine zw_ld (n := 1) (k := 0) (f := zp_isI) (pc' := 1) rfl rfl rfl rfl rfl ?_
  refine zw_s (pc' := 2) rfl rfl ?_
  refine zw_s (pc' := 5) rfl rfl ?_
  refine zw_lsub (pc' := 6) rfl rfl ?_
  refine zw_sl (n := 2) (k := 7) (pc' := 8) rfl rfl rfl rfl ?_
  refine zw_ld (n := 1) (k := 1) (f := zp_isI) (pc' := 9) rfl rfl (zw_gt2 rfl rfl rfl) rfl rfl ?_
  refine zw_beq1 (g := 24) (pc' := 12) rfl rfl rfl (rfl : _ = (114 : Int)) (fun h9 => absurd h9 (by decide)) (fun hb => ?_)
  refine zw_ld (n := 2) (k := 7) (f := zp_isL) (pc' := 14) rfl rfl zw_g2 rfl rfl ?_
  refine zw_s (pc' := 15) rfl rfl ?_
  refine zw_lshl (pc' := 16) rfl rfl ?_
  refine zw_ld (n := 1) (k := 1) (f := zp_isI) (pc' := 17) rfl rfl (zw_gt2 rfl rfl rfl) rfl rfl ?_
  refine zw_s (pc' := 19) rfl rfl ?_
  refine zw_isub (pc' := 20) rfl rfl ?_
  refine zw_s (pc' := 21) rfl rfl ?_
  refine zw_lor (pc' := 22) rfl rfl ?_
  refine zw_sl (n := 2) (k := 7) (pc' := 24) rfl rfl rfl rfl ?_
  refine zw_ld (n := 1) (k := 2) (f := zp_isI) (pc' := 25) rfl rfl (zw_gt2 (zw_gt2 rfl rfl rfl) rfl rfl) rfl rfl ?_
  refine zw_beq1 (g := 40) (pc' := 28) rfl rfl rfl (rfl : _ = (0 : Int)) (fun hb => ?_) (fun h9 => absurd h9 (by decide))
  refine zw_ld (n := 1) (k := 3) (f := zp_isI) (pc' := 41) rfl rfl (zw_gt2 (zw_gt2 rfl rfl rfl) rfl rfl) rfl rfl ?_
  refine zw_beq1 (g := 56) (pc' := 44) rfl rfl rfl (rfl : _ = (0 : Int)) (fun hb => ?_) (fun h9 => absurd h9 (by decide))
  refine zw_ld (n := 2) (k := 4) (f := zp_isI) (pc' := 58) rfl rfl (zw_gt2 (zw_gt2 rfl rfl rfl) rfl rfl) rfl rfl ?_
  refine zw_beq1 (g := 74) (pc' := 61) rfl rfl rfl (rfl : _ = (0 : Int)) (fun hb => ?_) (fun h9 => absurd h9 (by decide))
  refine zw_ld (n := 2) (k := 5) (f := zp_isI) (pc' := 76) rfl rfl (zw_gt2 (zw_gt2 rfl rfl rfl) rfl rfl) rfl rfl ?_
  refine zw_beq1 (g := 92) (pc' := 79) rfl rfl rfl (rfl : _ = (0 : Int)) (fun hb => ?_) (fun h9 => absurd h9 (by decide))
  refine zw_ld (n := 2) (k := 6) (f := zp_isI) (pc' := 94) rfl rfl (zw_gt2 (zw_gt2 rfl rfl rfl) rfl rfl) rfl rfl ?_
  refine zw_beq1 (g := 110) (pc' := 97) rfl rfl rfl (rfl : _ = (0 : Int)) (fun hb => ?_) (fun h9 => absurd h9 (by decide))
  refine zw_ld (n := 2) (k := 7) (f := zp_isL) (pc' := 112) rfl rfl zw_g2 rfl rfl ?_
  refine zw_rl rfl rfl ?_
  exact congrArg (fun z => ((Sum.inl (some (Sum.inr (Sum.inl z))), H) : zp_X)) (by decide +kernel)

set_option maxRecDepth 8000 in
theorem zl_le19 {L : Nat} {σ : Nat → Int32} {d : Nat} {H : zp_H} : zp_Call L σ (d + 2) 178 [.inl (Int32.ofInt 19)] H (.inl (some (.inr (.inl 498))), H) := by
  refine zw_ex (zw_met zm_178_t rfl rfl ?_)
  refine zw_ld (n := 1) (k := 0) (f := zp_isI) (pc' := 1) rfl rfl rfl rfl rfl ?_
  refine zw_s (pc' := 380) rfl rfl ?_
  refine zw_s (pc' := 382) rfl rfl ?_
  refine zw_s (pc' := 384) rfl rfl ?_
  refine zw_s (pc' := 385) rfl rfl ?_
  refine zw_s (pc' := 386) rfl rfl ?_
  refine zw_s (pc' := 387) rfl rfl ?_
  refine zw_s (pc' := 388) rfl rfl ?_
  refine zw_s (pc' := 389) rfl rfl ?_
  refine zw_c (pc' := 392) (zw_cs (Y := zm_179) rfl rfl zm_179_t) rfl rfl rfl rfl rfl (zl_sp19) ?_
  refine zw_rl rfl rfl ?_
  rfl

theorem zl_sp20 {L : Nat} {σ : Nat → Int32} {d : Nat} {H : zp_H} : zp_Call L σ (d + 1) 179 [.inl (Int32.ofInt 110), .inl (Int32.ofInt 111), .inl (Int32.ofInt 116), .inl (Int32.ofInt 0), .inl (Int32.ofInt 0), .inl (Int32.ofInt 0), .inl (Int32.ofInt 0)] H (.inl (some (.inr (.inl 14836))), H) := by
  refine zw_ex (zw_met zm_179_t rfl rfl ?_)
  refine zw_ld (n := 1) (k := 0) (f := zp_isI) (pc' := 1) rfl rfl rfl rfl rfl ?_
  refine zw_s (pc' := 2) rfl rfl ?_
  refine zw_s (pc' := 5) rfl rfl ?_
  refine zw_lsub (pc' := 6) rfl rfl ?_
  refine zw_sl (n := 2) (k := 7) (pc' := 8) rfl rfl rfl rfl ?_
  refine zw_ld (n := 1) (k := 1) (f := zp_isI) (pc' := 9) rfl rfl (zw_gt2 rfl rfl rfl) rfl rfl ?_
  refine zw_beq1 (g := 24) (pc' := 12) rfl rfl rfl (rfl : _ = (111 : Int)) (fun h9 => absurd h9 (by decide)) (fun hb => ?_)
  refine zw_ld (n := 2) (k := 7) (f := zp_isL) (pc' := 14) rfl rfl zw_g2 rfl rfl ?_
  refine zw_s (pc' := 15) rfl rfl ?_
  refine zw_lshl (pc' := 16) rfl rfl ?_
  refine zw_ld (n := 1) (k := 1) (f := zp_isI) (pc' := 17) rfl rfl (zw_gt2 rfl rfl rfl) rfl rfl ?_
  refine zw_s (pc' := 19) rfl rfl ?_
  refine zw_isub (pc' := 20) rfl rfl ?_
  refine zw_s (pc' := 21) rfl rfl ?_
  refine zw_lor (pc' := 22) rfl rfl ?_
  refine zw_sl (n := 2) (k := 7) (pc' := 24) rfl rfl rfl rfl ?_
  refine zw_ld (n := 1) (k := 2) (f := zp_isI) (pc' := 25) rfl rfl (zw_gt2 (zw_gt2 rfl rfl rfl) rfl rfl) rfl rfl ?_
  refine zw_beq1 (g := 40) (pc' := 28) rfl rfl rfl (rfl : _ = (116 : Int)) (fun h9 => absurd h9 (by decide)) (fun hb => ?_)
  refine zw_ld (n := 2) (k := 7) (f := zp_isL) (pc' := 30) rfl rfl zw_g2 rfl rfl ?_
  refine zw_s (pc' := 31) rfl rfl ?_
  refine zw_lshl (pc' := 32) rfl rfl ?_
  refine zw_ld (n := 1) (k := 2) (f := zp_isI) (pc' := 33) rfl rfl (zw_gt2 (zw_gt2 rfl rfl rfl) rfl rfl) rfl rfl ?_
  refine zw_s (pc' := 35) rfl rfl ?_
  refine zw_isub (pc' := 36) rfl rfl ?_
  refine zw_s (pc' := 37) rfl rfl ?_
  refine zw_lor (pc' := 38) rfl rfl ?_
  refine zw_sl (n := 2) (k := 7) (pc' := 40) rfl rfl rfl rfl ?_
  refine zw_ld (n := 1) (k := 3) (f := zp_isI) (pc' := 41) rfl rfl (zw_gt2 (zw_gt2 (zw_gt2 rfl rfl rfl) rfl rfl) rfl rfl) rfl rfl ?_
  refine zw_beq1 (g := 56) (pc' := 44) rfl rfl rfl (rfl : _ = (0 : Int)) (fun hb => ?_) (fun h9 => absurd h9 (by decide))
  refine zw_ld (n := 2) (k := 4) (f := zp_isI) (pc' := 58) rfl rfl (zw_gt2 (zw_gt2 (zw_gt2 rfl rfl rfl) rfl rfl) rfl rfl) rfl rfl ?_
  refine zw_beq1 (g := 74) (pc' := 61) rfl rfl rfl (rfl : _ = (0 : Int)) (fun hb => ?_) (fun h9 => absurd h9 (by decide))
  refine zw_ld (n := 2) (k := 5) (f := zp_isI) (pc' := 76) rfl rfl (zw_gt2 (zw_gt2 (zw_gt2 rfl rfl rfl) rfl rfl) rfl rfl) rfl rfl ?_
  refine zw_beq1 (g := 92) (pc' := 79) rfl rfl rfl (rfl : _ = (0 : Int)) (fun hb => ?_) (fun h9 => absurd h9 (by decide))
  refine zw_ld (n := 2) (k := 6) (f := zp_isI) (pc' := 94) rfl rfl (zw_gt2 (zw_gt2 (zw_gt2 rfl rfl rfl) rfl rfl) rfl rfl) rfl rfl ?_
  refine zw_beq1 (g := 110) (pc' := 97) rfl rfl rfl (rfl : _ = (0 : Int)) (fun hb => ?_) (fun h9 => absurd h9 (by decide))
  refine zw_ld (n := 2) (k := 7) (f := zp_isL) (pc' := 112) rfl rfl zw_g2 rfl rfl ?_
  refine zw_rl rfl rfl ?_
  exact congrArg (fun z => ((Sum.inl (some (Sum.inr (Sum.inl z))), H) : zp_X)) (by decide +kernel)

set_option maxRecDepth 8000 in
theorem zl_le20 {L : Nat} {σ : Nat → Int32} {d : Nat} {H : zp_H} : zp_Call L σ (d + 2) 178 [.inl (Int32.ofInt 20)] H (.inl (some (.inr (.inl 14836))), H) := by
  refine zw_ex (zw_met zm_178_t rfl rfl ?_)
  refine zw_ld (n := 1) (k := 0) (f := zp_isI) (pc' := 1) rfl rfl rfl rfl rfl ?_
  refine zw_s (pc' := 393) rfl rfl ?_
  refine zw_s (pc' := 395) rfl rfl ?_
  refine zw_s (pc' := 397) rfl rfl ?_
  refine zw_s (pc' := 399) rfl rfl ?_
  refine zw_s (pc' := 400) rfl rfl ?_
  refine zw_s (pc' := 401) rfl rfl ?_
  refine zw_s (pc' := 402) rfl rfl ?_
  refine zw_s (pc' := 403) rfl rfl ?_
  refine zw_c (pc' := 406) (zw_cs (Y := zm_179) rfl rfl zm_179_t) rfl rfl rfl rfl rfl (zl_sp20) ?_
  refine zw_rl rfl rfl ?_
  rfl
theorem zl_letters {L : Nat} {σ : Nat → Int32} {d : Nat} {H : zp_H} : ∀ (k : Nat) (w : Int64), zg_l[k]? = some w → zp_Call L σ (d + 2) 178 [.inl (Int32.ofInt (k : Int))] H (.inl (some (.inr (.inl w))), H)
  | 0, _, h => by cases h; exact zl_le0
  | 1, _, h => by cases h; exact zl_le1
  | 2, _, h => by cases h; exact zl_le2
  | 3, _, h => by cases h; exact zl_le3
  | 4, _, h => by cases h; exact zl_le4
  | 5, _, h => by cases h; exact zl_le5
  | 6, _, h => by cases h; exact zl_le6
  | 7, _, h => by cases h; exact zl_le7
  | 8, _, h => by cases h; exact zl_le8
  | 9, _, h => by cases h; exact zl_le9
  | 10, _, h => by cases h; exact zl_le10
  | 11, _, h => by cases h; exact zl_le11
  | 12, _, h => by cases h; exact zl_le12
  | 13, _, h => by cases h; exact zl_le13
  | 14, _, h => by cases h; exact zl_le14
  | 15, _, h => by cases h; exact zl_le15
  | 16, _, h => by cases h; exact zl_le16
  | 17, _, h => by cases h; exact zl_le17
  | 18, _, h => by cases h; exact zl_le18
  | 19, _, h => by cases h; exact zl_le19
  | 20, _, h => by cases h; exact zl_le20
  | k + 21, w, h => by cases h
