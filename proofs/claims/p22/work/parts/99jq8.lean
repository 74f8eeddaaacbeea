section
/-! ===== mark ===== -/
def zm_109 : za_MI := (yL_mark, method_7_code, 6, (some FieldType.int), 13, 3, 18, [(0, 12, 15, 18)], za_i109)
theorem zm_109_t : za_MT 109 = some zm_109 := rfl
def zm_211 : za_MI := (yX12_mark, prog_14_method_51_code, 4, (some FieldType.int), 12, 0, 0, [], za_i211)
theorem zm_211_t : za_MT 211 = some zm_211 := rfl
theorem yc_wayOf13 {L : Nat} {σ : Nat → Int32} {d : Nat} {H : zp_H} (W : zw_W H) {x1 x2 : Int32} (h1 : 0 ≤ x1.toInt ∧ x1.toInt < 8) (h2 : 0 ≤ x2.toInt ∧ x2.toInt < 8) : zp_Call L σ (d + 1) 26 [.inr (.inr (some 14)), .inl x1, .inl x2] H (.inl (some (.inl (H.2.1 18 (8 * x1.toInt.toNat + x2.toInt.toNat)))), H) := by
  have m1 : (x1 * Int32.ofInt 8).toInt = x1.toInt * 8 := zq_mul rfl (by omega) (by omega)
  have m2 : (x1 * Int32.ofInt 8 + x2).toInt = x1.toInt * 8 + x2.toInt := by rw [zq_add (by rw [m1]; omega) (by rw [m1]; omega), m1]
  have m3 : (x1 * Int32.ofInt 8 + x2).toInt.toNat = 8 * x1.toInt.toNat + x2.toInt.toNat := by omega
  refine zw_ex (zw_met zm_26_t rfl rfl ?_)
  refine zw_ld (n := 1) (k := 0) (f := zp_isR) (pc' := 1) rfl rfl rfl rfl rfl ?_
  refine zw_gR (q := 13) (pc' := 4) W rfl rfl rfl rfl (W.2 13 5 _ rfl) rfl ?_
  refine zw_ld (n := 1) (k := 1) (f := zp_isI) (pc' := 5) rfl rfl rfl rfl rfl ?_
  refine zw_s (pc' := 7) rfl rfl ?_
  refine zw_imul (pc' := 8) rfl rfl ?_
  refine zw_ld (n := 1) (k := 2) (f := zp_isI) (pc' := 9) rfl rfl rfl rfl rfl ?_
  refine zw_iadd (pc' := 10) rfl rfl ?_
  refine zw_ia (q := 18) (pc' := 11) W rfl rfl (by decide) (⟨by omega, by show _ < ((64 : Nat) : Int); omega⟩) rfl rfl ?_
  refine zw_ri rfl rfl ?_
  rw [m3]

theorem yc_wayOf33 {L : Nat} {σ : Nat → Int32} {d : Nat} {H : zp_H} (W : zw_W H) {x1 x2 : Int32} (h1 : 0 ≤ x1.toInt ∧ x1.toInt < 8) (h2 : 0 ≤ x2.toInt ∧ x2.toInt < 8) : zp_Call L σ (d + 1) 26 [.inr (.inr (some 34)), .inl x1, .inl x2] H (.inl (some (.inl (H.2.1 38 (8 * x1.toInt.toNat + x2.toInt.toNat)))), H) := by
  have m1 : (x1 * Int32.ofInt 8).toInt = x1.toInt * 8 := zq_mul rfl (by omega) (by omega)
  have m2 : (x1 * Int32.ofInt 8 + x2).toInt = x1.toInt * 8 + x2.toInt := by rw [zq_add (by rw [m1]; omega) (by rw [m1]; omega), m1]
  have m3 : (x1 * Int32.ofInt 8 + x2).toInt.toNat = 8 * x1.toInt.toNat + x2.toInt.toNat := by omega
  refine zw_ex (zw_met zm_26_t rfl rfl ?_)
  refine zw_ld (n := 1) (k := 0) (f := zp_isR) (pc' := 1) rfl rfl rfl rfl rfl ?_
  refine zw_gR (q := 33) (pc' := 4) W rfl rfl rfl rfl (W.2 33 5 _ rfl) rfl ?_
  refine zw_ld (n := 1) (k := 1) (f := zp_isI) (pc' := 5) rfl rfl rfl rfl rfl ?_
  refine zw_s (pc' := 7) rfl rfl ?_
  refine zw_imul (pc' := 8) rfl rfl ?_
  refine zw_ld (n := 1) (k := 2) (f := zp_isI) (pc' := 9) rfl rfl rfl rfl rfl ?_
  refine zw_iadd (pc' := 10) rfl rfl ?_
  refine zw_ia (q := 38) (pc' := 11) W rfl rfl (by decide) (⟨by omega, by show _ < ((64 : Nat) : Int); omega⟩) rfl rfl ?_
  refine zw_ri rfl rfl ?_
  rw [m3]
end
section
/-! ===== marks followed, a voyage: the class ===== -/
/-- but a ship nothing is changed -/
def xFv (q : Nat) (H H1 : zp_H) : Prop := H1.1 = H.1 ∧ H1.2.2.2 = H.2.2.2 ∧ (∀ p k, p ≠ q → H1.2.1 p k = H.2.1 p k) ∧ ∀ p k, p ≠ q → H1.2.2.1 p k = H.2.2.1 p k
theorem xFv_r {q : Nat} (H : zp_H) : xFv q H H := ⟨rfl, rfl, fun _ _ _ => rfl, fun _ _ _ => rfl⟩
theorem xFv_t {q : Nat} {H H1 H2 : zp_H} (h1 : xFv q H H1) (h2 : xFv q H1 H2) : xFv q H H2 := ⟨h2.1.trans h1.1, h2.2.1.trans h1.2.1, fun p k h => (h2.2.2.1 p k h).trans (h1.2.2.1 p k h), fun p k h => (h2.2.2.2 p k h).trans (h1.2.2.2 p k h)⟩
theorem xFv_I {q k : Nat} {H H1 : zp_H} {x : Int32} (h : xFv q H H1) : xFv q H (zw_I H1 q k x) := ⟨h.1, h.2.1, fun p j hn => (y_ne (fun h9 => hn h9.1)).trans (h.2.2.1 p j hn), h.2.2.2⟩
theorem xFv_J {q k : Nat} {H H1 : zp_H} {u : Int64} (h : xFv q H H1) : xFv q H (zw_J H1 q k u) := ⟨h.1, h.2.1, h.2.2.1, fun p j hn => (zp_u_ne (fun h9 => hn h9.1)).trans (h.2.2.2 p j hn)⟩
end
section
/-! ===== voyage ===== -/
def zm_118 : za_MI := (yL_voyage, method_10_code, 5, (some FieldType.int), 13, 2, 12, [(0, 10, 13, 18)], za_i118)
theorem zm_118_t : za_MT 118 = some zm_118 := rfl
def zm_219 : za_MI := (yX12_voyage, prog_14_method_61_code, 3, (some FieldType.int), 12, 0, 0, [], za_i219)
theorem zm_219_t : za_MT 219 = some zm_219 := rfl
theorem xFv_W {q : Nat} {H H1 : zp_H} (h : xFv q H H1) (W : zw_W H) : zw_W H1 := ⟨h.1.trans W.1, fun p k r hr => (congrFun (congrFun h.2.1 p) k).trans (W.2 p k r hr)⟩
end
