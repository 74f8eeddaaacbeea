/-! ===== throws, bits; cell ===== -/
def zm_102 : za_MI := (yL_cell, method_5_code, 5, (some FieldType.int), 13, 2, 12, [(0, 10, 13, 18)], za_i102)
theorem zm_102_t : za_MT 102 = some zm_102 := rfl
def zm_207 : za_MI := (yX12_cell, prog_14_method_48_code, 3, (some FieldType.int), 12, 0, 0, [], za_i207)
theorem zm_207_t : za_MT 207 = some zm_207 := rfl
section WX
variable {L : Nat} {σ : Nat → Int32} {P : zp_X → Prop} {M Y : za_MI} {fs : List zs_F} {d : Nat} {pc pc' : Nat} {lv lv' : zp_LV} {st st' : List zp_V} {H H1 : zp_H} {c c' : Nat × Nat} {i : Instr}
/-- it throws, and nothing here catches it -/
theorem zw_cthr {k j ex : Nat} {as : List zp_V} (h : za_fe (za_is M) pc = some i ∧ zp_cl (za_CP (za_cl M)) i st (H, c) = some (false, j, k, Y)) (hp : zp_pre M Y k st (H, c)) (ha : (st.take k).reverse = as) (hh : za_hnd (za_CP (za_cl M)) pc ex (za_hh M) = some none) (hC : zp_Call L σ d j as H (.inr ex, H1)) (hP : P (.inr ex, H1)) : zs_Safe L σ P M [] d (pc, lv, st, H, c) := by
  subst ha
  refine zs_sum (S := (pc, lv, st, H, c)) h.1 h.2 hp hC (fun z => Bool.noConfusion z) (Or.inr ⟨(.inr ex, H1), ?_, hP⟩)
  show (match za_hnd (za_CP (za_cl M)) pc ex (za_hh M) with
    | none => none
    | some none => some (.inr (.inr ex, H1))
    | some (some hp) => match za_fe (za_is M) hp with
      | some (.astore_n k) => bif Nat.blt k.val (za_nL M) then some (.inl (hp + 1, zp_fl lv k.val, [], H1, c.1 + za_mc Y, c.2 + za_ms Y)) else none
      | some (.astore k) => bif Nat.blt k (za_nL M) then some (.inl (hp + 2, zp_fl lv k, [], H1, c.1 + za_mc Y, c.2 + za_ms Y)) else none
      | _ => none : Option (zp_S ⊕ zp_X)) = _
  rw [hh]
/-- it throws, and that is caught here, in a local far up -/
theorem zw_cexw {k j ex hp9 k9 : Nat} {as : List zp_V} (h : za_fe (za_is M) pc = some i ∧ zp_cl (za_CP (za_cl M)) i st (H, c) = some (false, j, k, Y)) (hp : zp_pre M Y k st (H, c)) (ha : (st.take k).reverse = as) (hc : (c.1 + za_mc Y, c.2 + za_ms Y) = c') (hh : za_hnd (za_CP (za_cl M)) pc ex (za_hh M) = some (some hp9)) (hi9 : za_fe (za_is M) hp9 = some (.astore k9)) (hk9 : Nat.blt k9 (za_nL M) = true) (hpc : hp9 + 2 = pc') (hlv : zp_fl lv k9 = lv') (hC : zp_Call L σ d j as H (.inr ex, H1)) (hS : zs_Safe L σ P M fs d (pc', lv', [], H1, c')) : zs_Safe L σ P M fs d (pc, lv, st, H, c) := by
  subst ha hpc hc hlv
  refine zs_sum (S := (pc, lv, st, H, c)) h.1 h.2 hp hC (fun z => Bool.noConfusion z) (Or.inl ⟨(hp9 + 2, zp_fl lv k9, [], H1, (c.1 + za_mc Y, c.2 + za_ms Y)), ?_, hS⟩)
  show (match za_hnd (za_CP (za_cl M)) pc ex (za_hh M) with
    | none => none
    | some none => some (.inr (.inr ex, H1))
    | some (some hp) => match za_fe (za_is M) hp with
      | some (.astore_n k) => bif Nat.blt k.val (za_nL M) then some (.inl (hp + 1, zp_fl lv k.val, [], H1, c.1 + za_mc Y, c.2 + za_ms Y)) else none
      | some (.astore k) => bif Nat.blt k (za_nL M) then some (.inl (hp + 2, zp_fl lv k, [], H1, c.1 + za_mc Y, c.2 + za_ms Y)) else none
      | _ => none : Option (zp_S ⊕ zp_X)) = _
  rw [hh]
  show (match za_fe (za_is M) hp9 with
      | some (.astore_n k) => bif Nat.blt k.val (za_nL M) then some (.inl (hp9 + 1, zp_fl lv k.val, [], H1, c.1 + za_mc Y, c.2 + za_ms Y)) else none
      | some (.astore k) => bif Nat.blt k (za_nL M) then some (.inl (hp9 + 2, zp_fl lv k, [], H1, c.1 + za_mc Y, c.2 + za_ms Y)) else none
      | _ => none : Option (zp_S ⊕ zp_X)) = _
  rw [hi9]
  show (bif Nat.blt k9 (za_nL M) then some (.inl (hp9 + 2, zp_fl lv k9, [], H1, c.1 + za_mc Y, c.2 + za_ms Y)) else none : Option (zp_S ⊕ zp_X)) = _
  rw [hk9]
  rfl
end WX


theorem y_scu : ∀ k, k < 64 → ((Int32.ofInt ((k : Nat) : Int)).toInt64.toUInt64 &&& Int64.toUInt64 63).toNat % 64 = k := by decide +kernel
/-- bit k of a long -/
def yTb (r : Int64) (k : Nat) : Bool := r.toBitVec.toNat.testBit k
theorem yv01 {v : Int64} {b : Bool} (h : v.toBitVec.toNat = if b = true then 1 else 0) : v = if b = true then Int64.ofNat 1 else Int64.ofNat 0 := by
  rw [← Int64.toBitVec_inj, ← BitVec.toNat_inj, h]
  cases b <;> rfl
theorem yan1 {v : Int64} : (v &&& Int64.ofNat 1).toBitVec.toNat = v.toBitVec.toNat % 2 := by
  rw [yN_and]
  exact Nat.and_two_pow_sub_one_eq_mod _ 1
theorem y_shv {r : Int64} {c : Int32} (hc : 0 ≤ c.toInt ∧ c.toInt ≤ 63) : za_shr0 r c &&& Int64.ofNat 1 = if yTb r c.toInt.toNat = true then Int64.ofNat 1 else Int64.ofNat 0 := by
  have e : c = Int32.ofInt ((c.toInt.toNat : Nat) : Int) := by rw [show ((c.toInt.toNat : Nat) : Int) = c.toInt by omega, Int32.ofInt_toInt]
  have h1 := y_shr0 (r := r) (k := c.toInt.toNat) (by omega)
  rw [← e] at h1
  have h3 : ∀ b, yTb r c.toInt.toNat = b → za_shr0 r c &&& Int64.ofNat 1 = if b = true then Int64.ofNat 1 else Int64.ofNat 0 := by
    intro b hb
    cases b with
    | true => exact h1.mpr hb
    | false =>
      refine yv01 ?_
      rw [yan1]
      have h4 : ¬ (za_shr0 r c).toBitVec.toNat % 2 = 1 := fun h9 => by
        have h5 : za_shr0 r c &&& Int64.ofNat 1 = Int64.ofNat 1 := yv01 (b := true) (by rw [yan1, h9]; rfl)
        have h6 := h1.mp h5
        have h7 : yTb r c.toInt.toNat = true := h6
        rw [hb] at h7
        cases h7
      show _ = 0
      omega
  exact h3 _ rfl
