/-! ===== sails ===== -/
def zm_134 : za_MI := (yX11_needPilot, prog_1_method_29_code, 2, none, 11, 1, 6, [], za_i134)
theorem zm_134_t : za_MT 134 = some zm_134 := rfl
def zm_135 : za_MI := (yL_sails, method_14_code, 6, (some FieldType.int), 13, 3, 18, [(0, 12, 15, 18), (0, 12, 19, 13)], za_i135)
theorem zm_135_t : za_MT 135 = some zm_135 := rfl
def zm_136 : za_MI := (yX11_sails, prog_1_method_18_code, 4, (some FieldType.int), 11, 3, 18, [], za_i136)
theorem zm_136_t : za_MT 136 = some zm_136 := rfl
def zm_228 : za_MI := (yX12_isPilot, prog_14_method_46_code, 2, (some FieldType.boolean), 12, 0, 0, [], za_i228)
theorem zm_228_t : za_MT 228 = some zm_228 := rfl
def zm_229 : za_MI := (yX12_sails, prog_14_method_72_code, 4, (some FieldType.int), 12, 0, 0, [], za_i229)
theorem zm_229_t : za_MT 229 = some zm_229 := rfl
theorem x_us0 {u : UInt32} : (u.toInt32).toInt = 0 ↔ u.toNat = 0 := by
  have h : (u.toInt32).toInt = if 2 * u.toBitVec.toNat < 2 ^ 32 then (u.toBitVec.toNat : Int) else (u.toBitVec.toNat : Int) - ((2 ^ 32 : Nat) : Int) := by
    show u.toBitVec.toInt = _
    rw [BitVec.toInt_eq_toNat_cond]
  have hl : u.toBitVec.toNat < 4294967296 := u.toBitVec.isLt
  show _ ↔ u.toBitVec.toNat = 0
  rw [h]
  split <;> omega
theorem x_us1 {x : Int32} {k : Nat} (hk : k ≤ 8) : x.toUInt32.toNat / 2 ^ k = 0 ↔ 0 ≤ x.toInt ∧ x.toInt < ((2 ^ k : Nat) : Int) := by
  have h : x.toInt = if 2 * x.toBitVec.toNat < 2 ^ 32 then (x.toBitVec.toNat : Int) else (x.toBitVec.toNat : Int) - ((2 ^ 32 : Nat) : Int) := by
    rw [← Int32.toInt_toBitVec, BitVec.toInt_eq_toNat_cond]
  have hl : x.toBitVec.toNat < 4294967296 := x.toBitVec.isLt
  have hp : 0 < 2 ^ k := Nat.two_pow_pos k
  have hp2 : 2 ^ k ≤ 2 ^ 8 := Nat.pow_le_pow_right (by decide) hk
  have hd : x.toUInt32.toNat / 2 ^ k = 0 ↔ x.toBitVec.toNat < 2 ^ k := by
    show x.toBitVec.toNat / 2 ^ k = 0 ↔ _
    rw [Nat.div_eq_zero_iff]
    omega
  rw [hd]
  split at h <;> omega
/-- no slate that there is not: as both ask it -/
theorem x_us {x y : Int32} (hy : 0 ≤ y.toInt ∧ y.toInt ≤ 8) : ((x.toUInt32 >>> (y.toUInt32 &&& Int32.toUInt32 31)).toInt32).toInt = 0 ↔ 0 ≤ x.toInt ∧ x.toInt < (Int32.ofInt 1 <<< (y &&& 31)).toInt := by
  rw [x_us0, UInt32.toNat_shiftRight, Nat.shiftRight_eq_div_pow]
  rcases (show y = Int32.ofInt 0 ∨ y = Int32.ofInt 1 ∨ y = Int32.ofInt 2 ∨ y = Int32.ofInt 3 ∨ y = Int32.ofInt 4 ∨ y = Int32.ofInt 5 ∨ y = Int32.ofInt 6 ∨ y = Int32.ofInt 7 ∨ y = Int32.ofInt 8 from by
    rcases (show y.toInt = 0 ∨ y.toInt = 1 ∨ y.toInt = 2 ∨ y.toInt = 3 ∨ y.toInt = 4 ∨ y.toInt = 5 ∨ y.toInt = 6 ∨ y.toInt = 7 ∨ y.toInt = 8 by omega) with e | e | e | e | e | e | e | e | e
    · exact Or.inl (Int32.toInt_inj.mp (e.trans (by decide)))
    · exact Or.inr (Or.inl (Int32.toInt_inj.mp (e.trans (by decide))))
    · exact Or.inr (Or.inr (Or.inl (Int32.toInt_inj.mp (e.trans (by decide)))))
    · exact Or.inr (Or.inr (Or.inr (Or.inl (Int32.toInt_inj.mp (e.trans (by decide))))))
    · exact Or.inr (Or.inr (Or.inr (Or.inr (Or.inl (Int32.toInt_inj.mp (e.trans (by decide)))))))
    · exact Or.inr (Or.inr (Or.inr (Or.inr (Or.inr (Or.inl (Int32.toInt_inj.mp (e.trans (by decide))))))))
    · exact Or.inr (Or.inr (Or.inr (Or.inr (Or.inr (Or.inr (Or.inl (Int32.toInt_inj.mp (e.trans (by decide)))))))))
    · exact Or.inr (Or.inr (Or.inr (Or.inr (Or.inr (Or.inr (Or.inr (Or.inl (Int32.toInt_inj.mp (e.trans (by decide))))))))))
    · exact Or.inr (Or.inr (Or.inr (Or.inr (Or.inr (Or.inr (Or.inr (Or.inr ((Int32.toInt_inj.mp (e.trans (by decide)))))))))))) with rfl | rfl | rfl | rfl | rfl | rfl | rfl | rfl | rfl
  · rw [show ((Int32.ofInt 0).toUInt32 &&& Int32.toUInt32 31).toNat % 32 = 0 by decide, show (Int32.ofInt 1 <<< (Int32.ofInt 0 &&& 31)).toInt = ((2 ^ 0 : Nat) : Int) by decide]
    exact x_us1 (by decide)
  · rw [show ((Int32.ofInt 1).toUInt32 &&& Int32.toUInt32 31).toNat % 32 = 1 by decide, show (Int32.ofInt 1 <<< (Int32.ofInt 1 &&& 31)).toInt = ((2 ^ 1 : Nat) : Int) by decide]
    exact x_us1 (by decide)
  · rw [show ((Int32.ofInt 2).toUInt32 &&& Int32.toUInt32 31).toNat % 32 = 2 by decide, show (Int32.ofInt 1 <<< (Int32.ofInt 2 &&& 31)).toInt = ((2 ^ 2 : Nat) : Int) by decide]
    exact x_us1 (by decide)
  · rw [show ((Int32.ofInt 3).toUInt32 &&& Int32.toUInt32 31).toNat % 32 = 3 by decide, show (Int32.ofInt 1 <<< (Int32.ofInt 3 &&& 31)).toInt = ((2 ^ 3 : Nat) : Int) by decide]
    exact x_us1 (by decide)
  · rw [show ((Int32.ofInt 4).toUInt32 &&& Int32.toUInt32 31).toNat % 32 = 4 by decide, show (Int32.ofInt 1 <<< (Int32.ofInt 4 &&& 31)).toInt = ((2 ^ 4 : Nat) : Int) by decide]
    exact x_us1 (by decide)
  · rw [show ((Int32.ofInt 5).toUInt32 &&& Int32.toUInt32 31).toNat % 32 = 5 by decide, show (Int32.ofInt 1 <<< (Int32.ofInt 5 &&& 31)).toInt = ((2 ^ 5 : Nat) : Int) by decide]
    exact x_us1 (by decide)
  · rw [show ((Int32.ofInt 6).toUInt32 &&& Int32.toUInt32 31).toNat % 32 = 6 by decide, show (Int32.ofInt 1 <<< (Int32.ofInt 6 &&& 31)).toInt = ((2 ^ 6 : Nat) : Int) by decide]
    exact x_us1 (by decide)
  · rw [show ((Int32.ofInt 7).toUInt32 &&& Int32.toUInt32 31).toNat % 32 = 7 by decide, show (Int32.ofInt 1 <<< (Int32.ofInt 7 &&& 31)).toInt = ((2 ^ 7 : Nat) : Int) by decide]
    exact x_us1 (by decide)
  · rw [show ((Int32.ofInt 8).toUInt32 &&& Int32.toUInt32 31).toNat % 32 = 8 by decide, show (Int32.ofInt 1 <<< (Int32.ofInt 8 &&& 31)).toInt = ((2 ^ 8 : Nat) : Int) by decide]
    exact x_us1 (by decide)
theorem y012s {x : Int32} (h : 0 ≤ x.toInt ∧ x.toInt ≤ (Int32.ofInt 2).toInt) : x = Int32.ofInt 0 ∨ x = Int32.ofInt 1 ∨ x = Int32.ofInt 2 := by
  have h2 : x.toInt ≤ 2 := h.2
  rcases (show x.toInt = 0 ∨ x.toInt = 1 ∨ x.toInt = 2 by omega) with h9 | h9 | h9
  · exact Or.inl (Int32.toInt_inj.mp h9)
  · exact Or.inr (Or.inl (Int32.toInt_inj.mp h9))
  · exact Or.inr (Or.inr (Int32.toInt_inj.mp h9))
theorem xFv_W6 {q : Nat} {H H1 : zp_H} (h : xFv q H H1) (W : zw_W H) : zw_W H1 := ⟨h.1.trans W.1, fun p k r hr => (congrFun (congrFun h.2.1 p) k).trans (W.2 p k r hr)⟩
/-- but both ships and the helm nothing is changed -/
def xFk (H H1 : zp_H) : Prop := H1.1 = H.1 ∧ H1.2.2.2 = H.2.2.2 ∧ (∀ p k, p ≠ 54 → p ≠ 57 → p ≠ 58 → p ≠ 59 → ¬ (p = 56 ∧ k = 2) → H1.2.1 p k = H.2.1 p k) ∧ ∀ p k, p ≠ 54 → p ≠ 57 → H1.2.2.1 p k = H.2.2.1 p k
theorem xFk_t {H H1 H2 : zp_H} (h1 : xFv 54 H H1) (h2 : xFg H1 H2) : xFk H H2 := ⟨h2.1.trans h1.1, h2.2.1.trans h1.2.1, fun p k a b c e f => (h2.2.2.1 p k b c e f).trans (h1.2.2.1 p k a), fun p k a b => (h2.2.2.2 p k b).trans (h1.2.2.2 p k a)⟩
theorem xFk_W {H H1 : zp_H} (h : xFk H H1) (W : zw_W H) : zw_W H1 := ⟨h.1.trans W.1, fun p k r hr => (congrFun (congrFun h.2.1 p) k).trans (W.2 p k r hr)⟩
theorem xSR_k {H H1 : zp_H} {S : xSea} (h : xFk H H1) (hR : xSR H S) : xSR H1 S := ⟨(congrArg Int32.toInt (h.2.2.1 72 1 (by decide) (by decide) (by decide) (by decide) (by decide))).trans hR.1, (congrArg Int32.toInt (h.2.2.1 72 2 (by decide) (by decide) (by decide) (by decide) (by decide))).trans hR.2.1, (h.2.2.2 72 12 (by decide) (by decide)).trans hR.2.2.1, fun k hk => (congrArg Int32.toInt (h.2.2.1 73 k (by decide) (by decide) (by decide) (by decide) (by omega))).trans (hR.2.2.2 k hk)⟩

theorem xCC_v {wp : Nat} {CC : Nat → List xIt} {H H1 : zp_H} (hp : wp = 2 ∨ wp = 22) (e : ∀ p k, p < 54 → H1.2.1 p k = H.2.1 p k) (h : xCC wp CC H) : xCC wp CC H1 := by
  obtain ⟨h1, h2, h3⟩ := h
  have e16 := e wp 16 (by omega)
  unfold xCC
  rw [e16]
  refine ⟨h1, fun r hr => ?_, fun r hr => by rw [e _ _ (by omega)]; exact h3 r hr⟩
  obtain ⟨a, b, c⟩ := h2 r hr
  exact ⟨a, xCl_e (fun k _ => e _ k (by omega)) (fun k _ => e _ k (by omega)) b, by rw [e _ _ (by omega)]; exact c⟩

theorem yc_np1_0 {L : Nat} {σ : Nat → Int32} {d : Nat} {H : zp_H} {x : Int32} (hB : zk_Bs (zB_c 0) zg zJc H) (h : (0 ≤ x.toInt ∧ x.toInt < (H.2.1 2 12).toInt)) : zp_Call L σ (d + 1) 134 [.inr (.inr (some 1)), .inl x] H (.inl none, H) := by
  have W := zB_Wd (zB_dn (zB_Bc hB))
  have g5 : H.2.2.2 0 5 = some 3 := hB.2.1 0 5 _ rfl
  have g6 : H.2.2.2 0 6 = some 14 := hB.2.1 0 6 _ rfl
  have g7 : H.2.2.2 0 7 = some 23 := hB.2.1 0 7 _ rfl
  have g8 : H.2.2.2 0 8 = some 34 := hB.2.1 0 8 _ rfl
  refine zw_ex (zw_met zm_134_t rfl rfl ?_)
  refine zw_ld (n := 1) (k := 1) (f := zp_isI) (pc' := 1) rfl rfl rfl rfl rfl ?_
  refine zw_blt1 (g := 15) (pc' := 4) rfl rfl rfl rfl (fun h1 => ?_) (fun h1 => ?_)
  · omega
  · refine zw_ld (n := 1) (k := 1) (f := zp_isI) (pc' := 5) rfl rfl rfl rfl rfl ?_
    refine zw_ld (n := 1) (k := 0) (f := zp_isR) (pc' := 6) rfl rfl rfl rfl rfl ?_
    refine zw_gR (q := 0) (pc' := 9) W rfl rfl rfl rfl g5 rfl ?_
    refine zw_gI (q := 2) (pc' := 12) W rfl rfl rfl rfl rfl rfl ?_
    refine zw_blt2 (g := 26) (pc' := 15) rfl rfl rfl rfl rfl (fun h2 => ?_) (fun h2 => ?_)
    · refine zw_rn rfl rfl ?_
      rfl
    · omega

theorem yc_np0_0 {L : Nat} {σ : Nat → Int32} {d : Nat} {H : zp_H} {x : Int32} (hB : zk_Bs (zB_c 0) zg zJc H) (h : ¬ (0 ≤ x.toInt ∧ x.toInt < (H.2.1 2 12).toInt)) : zp_Call L σ (d + 1) 134 [.inr (.inr (some 1)), .inl x] H (.inr 0, H) := by
  have W := zB_Wd (zB_dn (zB_Bc hB))
  have g5 : H.2.2.2 0 5 = some 3 := hB.2.1 0 5 _ rfl
  have g6 : H.2.2.2 0 6 = some 14 := hB.2.1 0 6 _ rfl
  have g7 : H.2.2.2 0 7 = some 23 := hB.2.1 0 7 _ rfl
  have g8 : H.2.2.2 0 8 = some 34 := hB.2.1 0 8 _ rfl
  refine zw_ex (zw_met zm_134_t rfl rfl ?_)
  refine zw_ld (n := 1) (k := 1) (f := zp_isI) (pc' := 1) rfl rfl rfl rfl rfl ?_
  refine zw_blt1 (g := 15) (pc' := 4) rfl rfl rfl rfl (fun h1 => ?_) (fun h1 => ?_)
  · exact zs_end (S := (15, _, [], H, (0, 0))) (X := (.inr 0, H)) rfl rfl rfl
  · refine zw_ld (n := 1) (k := 1) (f := zp_isI) (pc' := 5) rfl rfl rfl rfl rfl ?_
    refine zw_ld (n := 1) (k := 0) (f := zp_isR) (pc' := 6) rfl rfl rfl rfl rfl ?_
    refine zw_gR (q := 0) (pc' := 9) W rfl rfl rfl rfl g5 rfl ?_
    refine zw_gI (q := 2) (pc' := 12) W rfl rfl rfl rfl rfl rfl ?_
    refine zw_blt2 (g := 26) (pc' := 15) rfl rfl rfl rfl rfl (fun h2 => ?_) (fun h2 => ?_)
    · omega
    · exact zs_end (S := (15, _, [], H, (0, 0))) (X := (.inr 0, H)) rfl rfl rfl

theorem yc_sai0_0 {L : Nat} {σ : Nat → Int32} {d : Nat} {H : zp_H} {x1 x2 : Int32} (hB : zk_Bs (zB_c 0) zg zJc H) {S : xSea} {CC : Nat → List xIt} (hS : xOk S) (hC : xSC 2 H S) (hCC : xCC 2 CC H) (hp : 0 ≤ x1.toInt ∧ x1.toInt < (H.2.1 2 12).toInt) (hpc : xIn S (H.2.1 7 x1.toInt.toNat).toInt) (hm : ∀ s : Nat, (s : Int) < (H.2.1 13 0).toInt → 0 ≤ (H.2.1 16 s).toInt ∧ (H.2.1 16 s).toInt ≤ 8) (hw : ∀ s : Nat, (s : Int) < (H.2.1 13 0).toInt → ∀ j, j < (H.2.1 16 s).toInt.toNat → -1 ≤ (H.2.1 18 (8 * s + j)).toInt ∧ (H.2.1 18 (8 * s + j)).toInt ≤ 3) (hc : ∀ s : Nat, (s : Int) < (H.2.1 13 0).toInt → xIn S (H.2.1 14 s).toInt) (hu : ((x2.toUInt32 >>> ((H.2.1 13 0).toUInt32 &&& Int32.toUInt32 31)).toInt32).toInt = 0) : ∃ X, zp_Call L σ (d + 7) 136 [.inr (.inr (some 1)), .inl x1, .inl x2, .inl (Int32.ofInt 0)] H X ∧ ∃ K, X = (.inl (some (.inl (xPl S (H.2.1 2 11).toInt (fun c h => xWb (xVl S c h (xKn (fun s => xWk (xVyc S 13 H s)) x2 (H.2.1 13 0).toInt.toNat (Int32.ofInt 0) (Int64.ofNat 0))) (H.2.1 10) CC (H.2.1 2 16).toInt.toNat 0) 60 (H.2.1 7 x1.toInt.toNat) (H.2.1 8 x1.toInt.toNat) (xP0 S (H.2.1 2 11).toInt (H.2.1 7 x1.toInt.toNat))).2.2)), K) ∧ xFk H K := by
  have W := zB_Wd (zB_dn (zB_Bc hB))
  have g5 : H.2.2.2 0 5 = some 3 := hB.2.1 0 5 _ rfl
  have g6 : H.2.2.2 0 6 = some 14 := hB.2.1 0 6 _ rfl
  have g7 : H.2.2.2 0 7 = some 23 := hB.2.1 0 7 _ rfl
  have g8 : H.2.2.2 0 8 = some 34 := hB.2.1 0 8 _ rfl
  have r13_0 := zB_fr1 (zB_dn (zB_Bc hB)) (p := 13) (k := 0) (r := (0, 8)) rfl
  have r13_0 : 0 ≤ (H.2.1 13 0).toInt ∧ (H.2.1 13 0).toInt ≤ 8 := r13_0
  have r2_12 := zB_fr1 (zB_dn (zB_Bc hB)) (p := 2) (k := 12) (r := (0, 4)) rfl
  have r2_12 : 0 ≤ (H.2.1 2 12).toInt ∧ (H.2.1 2 12).toInt ≤ 4 := r2_12
  obtain ⟨_, q1, H1, rfl, W1, q2⟩ := xh_kn2 (L := L) (σ := σ) (d := d) (set := x2) hS hC r13_0 hm hw hc W
  have f1 : ∀ p k, p < 54 → H1.2.1 p k = H.2.1 p k := fun p k hp9 => q2.2.2.1 p k (by omega)
  obtain ⟨_, b1, K, rfl, W2, b2, b3⟩ := xh_sb2 (L := L) (σ := σ) (d := d + 1) (p := x1) (u := (xKn (fun s => xWk (xVyc S 13 H s)) x2 (H.2.1 13 0).toInt.toNat (Int32.ofInt 0) (Int64.ofNat 0))) hS (xSC_v q2 ⟨by decide, by decide, by decide⟩ hC) (xCC_v (by decide) f1 hCC) W1 ⟨hp.1, by omega⟩ (by rw [f1 7 _ (by decide)]; exact hpc)
  rw [f1 7 _ (by decide), f1 8 _ (by decide), f1 2 11 (by decide), f1 2 16 (by decide), show H1.2.1 10 = H.2.1 10 from funext (fun k => f1 10 k (by decide))] at b3
  have b30 : K.2.1 57 0 = (xPl S (H.2.1 2 11).toInt (fun c h => xWb (xVl S c h (xKn (fun s => xWk (xVyc S 13 H s)) x2 (H.2.1 13 0).toInt.toNat (Int32.ofInt 0) (Int64.ofNat 0))) (H.2.1 10) CC (H.2.1 2 16).toInt.toNat 0) 60 (H.2.1 7 x1.toInt.toNat) (H.2.1 8 x1.toInt.toNat) (xP0 S (H.2.1 2 11).toInt (H.2.1 7 x1.toInt.toNat))).1 := congrArg Prod.fst b3
  have b31 : K.2.1 57 1 = (xPl S (H.2.1 2 11).toInt (fun c h => xWb (xVl S c h (xKn (fun s => xWk (xVyc S 13 H s)) x2 (H.2.1 13 0).toInt.toNat (Int32.ofInt 0) (Int64.ofNat 0))) (H.2.1 10) CC (H.2.1 2 16).toInt.toNat 0) 60 (H.2.1 7 x1.toInt.toNat) (H.2.1 8 x1.toInt.toNat) (xP0 S (H.2.1 2 11).toInt (H.2.1 7 x1.toInt.toNat))).2.1 := congrArg (fun z => z.2.1) b3
  have b32 : K.2.1 57 2 = (xPl S (H.2.1 2 11).toInt (fun c h => xWb (xVl S c h (xKn (fun s => xWk (xVyc S 13 H s)) x2 (H.2.1 13 0).toInt.toNat (Int32.ofInt 0) (Int64.ofNat 0))) (H.2.1 10) CC (H.2.1 2 16).toInt.toNat 0) 60 (H.2.1 7 x1.toInt.toNat) (H.2.1 8 x1.toInt.toNat) (xP0 S (H.2.1 2 11).toInt (H.2.1 7 x1.toInt.toNat))).2.2 := congrArg (fun z => z.2.2) b3
  refine zw_met zm_136_t rfl rfl ?_
  refine zw_ld (n := 1) (k := 0) (f := zp_isR) (pc' := 1) rfl rfl rfl rfl rfl ?_
  refine zw_ld (n := 1) (k := 1) (f := zp_isI) (pc' := 2) rfl rfl rfl rfl rfl ?_
  refine zw_ctn (pc' := 5) (c' := (1, 6)) (zw_cv (q := 0) (Y := zm_134) W.1 rfl rfl zm_134_t rfl rfl) (zw_pb_ok rfl) rfl rfl rfl rfl (yc_np1_0 hB hp) ?_
  refine zw_ld (n := 1) (k := 3) (f := zp_isI) (pc' := 6) rfl rfl rfl rfl rfl ?_
  refine zw_s (pc' := 7) rfl rfl ?_
  refine zw_ctn (pc' := 10) (c' := (2, 12)) (zw_cs (Y := zm_104) rfl rfl zm_104_t) (zw_pb_ok rfl) rfl rfl rfl rfl (yc_nw1 ⟨by decide, by decide⟩) ?_
  refine zw_ld (n := 1) (k := 2) (f := zp_isI) (pc' := 11) rfl rfl rfl rfl rfl ?_
  refine zw_ld (n := 1) (k := 0) (f := zp_isR) (pc' := 12) rfl rfl rfl rfl rfl ?_
  refine zw_gR (q := 0) (pc' := 15) W rfl rfl rfl rfl g6 rfl ?_
  refine zw_gI (q := 13) (pc' := 18) W rfl rfl rfl rfl rfl rfl ?_
  refine zw_s (pc' := 19) rfl rfl ?_
  refine zw_beq1 (g := 33) (pc' := 22) rfl rfl rfl rfl (fun h3 => ?_) (fun h3 => ?_)
  · refine zw_ld (n := 1) (k := 0) (f := zp_isR) (pc' := 34) rfl rfl rfl rfl rfl ?_
    refine zw_gR (q := 0) (pc' := 37) W rfl rfl rfl rfl (W.2 0 14 _ rfl) rfl ?_
    refine zw_ld (n := 1) (k := 0) (f := zp_isR) (pc' := 38) rfl rfl rfl rfl rfl ?_
    refine zw_gR (q := 0) (pc' := 41) W rfl rfl rfl rfl g5 rfl ?_
    refine zw_ld (n := 1) (k := 1) (f := zp_isI) (pc' := 42) rfl rfl rfl rfl rfl ?_
    refine zw_ld (n := 1) (k := 0) (f := zp_isR) (pc' := 43) rfl rfl rfl rfl rfl ?_
    refine zw_gR (q := 0) (pc' := 46) W rfl rfl rfl rfl (W.2 0 12 _ rfl) rfl ?_
    refine zw_ld (n := 1) (k := 0) (f := zp_isR) (pc' := 47) rfl rfl rfl rfl rfl ?_
    refine zw_gR (q := 0) (pc' := 50) W rfl rfl rfl rfl g5 rfl ?_
    refine zw_ld (n := 1) (k := 0) (f := zp_isR) (pc' := 51) rfl rfl rfl rfl rfl ?_
    refine zw_gR (q := 0) (pc' := 54) W rfl rfl rfl rfl g6 rfl ?_
    refine zw_ld (n := 1) (k := 2) (f := zp_isI) (pc' := 55) rfl rfl rfl rfl rfl ?_
    refine zw_c (pc' := 58) (zw_cv (q := 54) (Y := zm_23) W.1 rfl rfl zm_23_t rfl rfl) rfl rfl rfl rfl rfl (q1) ?_
    refine zw_cn (pc' := 61) (zw_cv (q := 56) (Y := zm_35) W1.1 rfl rfl zm_35_t rfl rfl) rfl rfl rfl rfl rfl (b1) ?_
    refine zw_ld (n := 1) (k := 3) (f := zp_isI) (pc' := 62) rfl rfl rfl rfl rfl ?_
    refine zw_s (pc' := 88) rfl rfl ?_
    refine zw_ld (n := 1) (k := 0) (f := zp_isR) (pc' := 89) rfl rfl rfl rfl rfl ?_
    refine zw_gR (q := 0) (pc' := 92) W2 rfl rfl rfl rfl (W2.2 0 14 _ rfl) rfl ?_
    refine zw_gR (q := 56) (pc' := 95) W2 rfl rfl rfl rfl (W2.2 56 0 _ rfl) rfl ?_
    refine zw_gI (q := 57) (pc' := 98) W2 rfl rfl rfl rfl rfl rfl ?_
    refine zw_rig rfl rfl ⟨by decide, by decide⟩ ?_
    exact ⟨K, x_rv b32, xFk_t q2 b2⟩
  · exact absurd hu h3

theorem yl_sai0_0 {L : Nat} {σ : Nat → Int32} {d : Nat} {H : zp_H} {x1 x2 : Int32} (hB : zk_Bs (zB_c 0) zg zJc H) {S : xSea} {CC : Nat → List xIt} (hS : xOk S) (hC : xSC 2 H S) (hCC : xCC 2 CC H) (hp : 0 ≤ x1.toInt ∧ x1.toInt < (H.2.1 2 12).toInt) (hpc : xIn S (H.2.1 7 x1.toInt.toNat).toInt) (hm : ∀ s : Nat, (s : Int) < (H.2.1 13 0).toInt → 0 ≤ (H.2.1 16 s).toInt ∧ (H.2.1 16 s).toInt ≤ 8) (hw : ∀ s : Nat, (s : Int) < (H.2.1 13 0).toInt → ∀ j, j < (H.2.1 16 s).toInt.toNat → -1 ≤ (H.2.1 18 (8 * s + j)).toInt ∧ (H.2.1 18 (8 * s + j)).toInt ≤ 3) (hc : ∀ s : Nat, (s : Int) < (H.2.1 13 0).toInt → xIn S (H.2.1 14 s).toInt) (hu : ((x2.toUInt32 >>> ((H.2.1 13 0).toUInt32 &&& Int32.toUInt32 31)).toInt32).toInt = 0) : ∃ K, zp_Call L σ (d + 8) 135 [.inr (.inr (some 1)), .inl x1, .inl x2, .inl (Int32.ofInt 0), .inr (.inr (some 105))] H (.inl (some (.inl (Int32.ofInt 0))), zw_J K 104 0 ((xPl S (H.2.1 2 11).toInt (fun c h => xWb (xVl S c h (xKn (fun s => xWk (xVyc S 13 H s)) x2 (H.2.1 13 0).toInt.toNat (Int32.ofInt 0) (Int64.ofNat 0))) (H.2.1 10) CC (H.2.1 2 16).toInt.toNat 0) 60 (H.2.1 7 x1.toInt.toNat) (H.2.1 8 x1.toInt.toNat) (xP0 S (H.2.1 2 11).toInt (H.2.1 7 x1.toInt.toNat))).2.2).toInt64) ∧ xFk H K := by
  obtain ⟨_, q1, K, rfl, q2⟩ := yc_sai0_0 (L := L) (σ := σ) (d := d) hB hS hC hCC hp hpc hm hw hc hu
  have W := zB_Wd (zB_dn (zB_Bc hB))
  have W1 := xFk_W q2 W
  refine ⟨K, zw_ex (zw_met zm_135_t rfl rfl ?_), q2⟩
  refine zw_ld (n := 2) (k := 4) (f := zp_isR) (pc' := 2) rfl rfl rfl rfl rfl ?_
  refine zw_s (pc' := 3) rfl rfl ?_
  refine zw_ld (n := 1) (k := 0) (f := zp_isR) (pc' := 4) rfl rfl rfl rfl rfl ?_
  refine zw_ld (n := 1) (k := 1) (f := zp_isI) (pc' := 5) rfl rfl rfl rfl rfl ?_
  refine zw_ld (n := 1) (k := 2) (f := zp_isI) (pc' := 6) rfl rfl rfl rfl rfl ?_
  refine zw_ld (n := 1) (k := 3) (f := zp_isI) (pc' := 7) rfl rfl rfl rfl rfl ?_
  refine zw_ct (pc' := 10) (c' := (3, 18)) (zw_cv (q := 0) (Y := zm_136) W.1 rfl rfl zm_136_t rfl rfl) (zw_pb_ok rfl) rfl rfl rfl rfl (q1) ?_
  refine zw_s (pc' := 11) rfl rfl ?_
  refine zw_ls (q := 104) (pc' := 12) W1 rfl rfl (⟨by decide, by decide⟩) rfl ?_
  refine zw_s (pc' := 23) rfl rfl ?_
  refine zw_s (pc' := 24) rfl rfl ?_
  refine zw_rig rfl rfl ⟨by decide, by decide⟩ ?_
  rfl

theorem yc_sai0_1 {L : Nat} {σ : Nat → Int32} {d : Nat} {H : zp_H} {x1 x2 : Int32} (hB : zk_Bs (zB_c 0) zg zJc H) {S : xSea} {CC : Nat → List xIt} (hS : xOk S) (hC : xSC 2 H S) (hCC : xCC 2 CC H) (hp : 0 ≤ x1.toInt ∧ x1.toInt < (H.2.1 2 12).toInt) (hpc : xIn S (H.2.1 7 x1.toInt.toNat).toInt) (hm : ∀ s : Nat, (s : Int) < (H.2.1 13 0).toInt → 0 ≤ (H.2.1 16 s).toInt ∧ (H.2.1 16 s).toInt ≤ 8) (hw : ∀ s : Nat, (s : Int) < (H.2.1 13 0).toInt → ∀ j, j < (H.2.1 16 s).toInt.toNat → -1 ≤ (H.2.1 18 (8 * s + j)).toInt ∧ (H.2.1 18 (8 * s + j)).toInt ≤ 3) (hc : ∀ s : Nat, (s : Int) < (H.2.1 13 0).toInt → xIn S (H.2.1 14 s).toInt) (hu : ((x2.toUInt32 >>> ((H.2.1 13 0).toUInt32 &&& Int32.toUInt32 31)).toInt32).toInt = 0) : ∃ X, zp_Call L σ (d + 7) 136 [.inr (.inr (some 1)), .inl x1, .inl x2, .inl (Int32.ofInt 1)] H X ∧ ∃ K, X = (.inl (some (.inl (xPl S (H.2.1 2 11).toInt (fun c h => xWb (xVl S c h (xKn (fun s => xWk (xVyc S 13 H s)) x2 (H.2.1 13 0).toInt.toNat (Int32.ofInt 0) (Int64.ofNat 0))) (H.2.1 10) CC (H.2.1 2 16).toInt.toNat 0) 60 (H.2.1 7 x1.toInt.toNat) (H.2.1 8 x1.toInt.toNat) (xP0 S (H.2.1 2 11).toInt (H.2.1 7 x1.toInt.toNat))).1)), K) ∧ xFk H K := by
  have W := zB_Wd (zB_dn (zB_Bc hB))
  have g5 : H.2.2.2 0 5 = some 3 := hB.2.1 0 5 _ rfl
  have g6 : H.2.2.2 0 6 = some 14 := hB.2.1 0 6 _ rfl
  have g7 : H.2.2.2 0 7 = some 23 := hB.2.1 0 7 _ rfl
  have g8 : H.2.2.2 0 8 = some 34 := hB.2.1 0 8 _ rfl
  have r13_0 := zB_fr1 (zB_dn (zB_Bc hB)) (p := 13) (k := 0) (r := (0, 8)) rfl
  have r13_0 : 0 ≤ (H.2.1 13 0).toInt ∧ (H.2.1 13 0).toInt ≤ 8 := r13_0
  have r2_12 := zB_fr1 (zB_dn (zB_Bc hB)) (p := 2) (k := 12) (r := (0, 4)) rfl
  have r2_12 : 0 ≤ (H.2.1 2 12).toInt ∧ (H.2.1 2 12).toInt ≤ 4 := r2_12
  obtain ⟨_, q1, H1, rfl, W1, q2⟩ := xh_kn2 (L := L) (σ := σ) (d := d) (set := x2) hS hC r13_0 hm hw hc W
  have f1 : ∀ p k, p < 54 → H1.2.1 p k = H.2.1 p k := fun p k hp9 => q2.2.2.1 p k (by omega)
  obtain ⟨_, b1, K, rfl, W2, b2, b3⟩ := xh_sb2 (L := L) (σ := σ) (d := d + 1) (p := x1) (u := (xKn (fun s => xWk (xVyc S 13 H s)) x2 (H.2.1 13 0).toInt.toNat (Int32.ofInt 0) (Int64.ofNat 0))) hS (xSC_v q2 ⟨by decide, by decide, by decide⟩ hC) (xCC_v (by decide) f1 hCC) W1 ⟨hp.1, by omega⟩ (by rw [f1 7 _ (by decide)]; exact hpc)
  rw [f1 7 _ (by decide), f1 8 _ (by decide), f1 2 11 (by decide), f1 2 16 (by decide), show H1.2.1 10 = H.2.1 10 from funext (fun k => f1 10 k (by decide))] at b3
  have b30 : K.2.1 57 0 = (xPl S (H.2.1 2 11).toInt (fun c h => xWb (xVl S c h (xKn (fun s => xWk (xVyc S 13 H s)) x2 (H.2.1 13 0).toInt.toNat (Int32.ofInt 0) (Int64.ofNat 0))) (H.2.1 10) CC (H.2.1 2 16).toInt.toNat 0) 60 (H.2.1 7 x1.toInt.toNat) (H.2.1 8 x1.toInt.toNat) (xP0 S (H.2.1 2 11).toInt (H.2.1 7 x1.toInt.toNat))).1 := congrArg Prod.fst b3
  have b31 : K.2.1 57 1 = (xPl S (H.2.1 2 11).toInt (fun c h => xWb (xVl S c h (xKn (fun s => xWk (xVyc S 13 H s)) x2 (H.2.1 13 0).toInt.toNat (Int32.ofInt 0) (Int64.ofNat 0))) (H.2.1 10) CC (H.2.1 2 16).toInt.toNat 0) 60 (H.2.1 7 x1.toInt.toNat) (H.2.1 8 x1.toInt.toNat) (xP0 S (H.2.1 2 11).toInt (H.2.1 7 x1.toInt.toNat))).2.1 := congrArg (fun z => z.2.1) b3
  have b32 : K.2.1 57 2 = (xPl S (H.2.1 2 11).toInt (fun c h => xWb (xVl S c h (xKn (fun s => xWk (xVyc S 13 H s)) x2 (H.2.1 13 0).toInt.toNat (Int32.ofInt 0) (Int64.ofNat 0))) (H.2.1 10) CC (H.2.1 2 16).toInt.toNat 0) 60 (H.2.1 7 x1.toInt.toNat) (H.2.1 8 x1.toInt.toNat) (xP0 S (H.2.1 2 11).toInt (H.2.1 7 x1.toInt.toNat))).2.2 := congrArg (fun z => z.2.2) b3
  refine zw_met zm_136_t rfl rfl ?_
  refine zw_ld (n := 1) (k := 0) (f := zp_isR) (pc' := 1) rfl rfl rfl rfl rfl ?_
  refine zw_ld (n := 1) (k := 1) (f := zp_isI) (pc' := 2) rfl rfl rfl rfl rfl ?_
  refine zw_ctn (pc' := 5) (c' := (1, 6)) (zw_cv (q := 0) (Y := zm_134) W.1 rfl rfl zm_134_t rfl rfl) (zw_pb_ok rfl) rfl rfl rfl rfl (yc_np1_0 hB hp) ?_
  refine zw_ld (n := 1) (k := 3) (f := zp_isI) (pc' := 6) rfl rfl rfl rfl rfl ?_
  refine zw_s (pc' := 7) rfl rfl ?_
  refine zw_ctn (pc' := 10) (c' := (2, 12)) (zw_cs (Y := zm_104) rfl rfl zm_104_t) (zw_pb_ok rfl) rfl rfl rfl rfl (yc_nw1 ⟨by decide, by decide⟩) ?_
  refine zw_ld (n := 1) (k := 2) (f := zp_isI) (pc' := 11) rfl rfl rfl rfl rfl ?_
  refine zw_ld (n := 1) (k := 0) (f := zp_isR) (pc' := 12) rfl rfl rfl rfl rfl ?_
  refine zw_gR (q := 0) (pc' := 15) W rfl rfl rfl rfl g6 rfl ?_
  refine zw_gI (q := 13) (pc' := 18) W rfl rfl rfl rfl rfl rfl ?_
  refine zw_s (pc' := 19) rfl rfl ?_
  refine zw_beq1 (g := 33) (pc' := 22) rfl rfl rfl rfl (fun h3 => ?_) (fun h3 => ?_)
  · refine zw_ld (n := 1) (k := 0) (f := zp_isR) (pc' := 34) rfl rfl rfl rfl rfl ?_
    refine zw_gR (q := 0) (pc' := 37) W rfl rfl rfl rfl (W.2 0 14 _ rfl) rfl ?_
    refine zw_ld (n := 1) (k := 0) (f := zp_isR) (pc' := 38) rfl rfl rfl rfl rfl ?_
    refine zw_gR (q := 0) (pc' := 41) W rfl rfl rfl rfl g5 rfl ?_
    refine zw_ld (n := 1) (k := 1) (f := zp_isI) (pc' := 42) rfl rfl rfl rfl rfl ?_
    refine zw_ld (n := 1) (k := 0) (f := zp_isR) (pc' := 43) rfl rfl rfl rfl rfl ?_
    refine zw_gR (q := 0) (pc' := 46) W rfl rfl rfl rfl (W.2 0 12 _ rfl) rfl ?_
    refine zw_ld (n := 1) (k := 0) (f := zp_isR) (pc' := 47) rfl rfl rfl rfl rfl ?_
    refine zw_gR (q := 0) (pc' := 50) W rfl rfl rfl rfl g5 rfl ?_
    refine zw_ld (n := 1) (k := 0) (f := zp_isR) (pc' := 51) rfl rfl rfl rfl rfl ?_
    refine zw_gR (q := 0) (pc' := 54) W rfl rfl rfl rfl g6 rfl ?_
    refine zw_ld (n := 1) (k := 2) (f := zp_isI) (pc' := 55) rfl rfl rfl rfl rfl ?_
    refine zw_c (pc' := 58) (zw_cv (q := 54) (Y := zm_23) W.1 rfl rfl zm_23_t rfl rfl) rfl rfl rfl rfl rfl (q1) ?_
    refine zw_cn (pc' := 61) (zw_cv (q := 56) (Y := zm_35) W1.1 rfl rfl zm_35_t rfl rfl) rfl rfl rfl rfl rfl (b1) ?_
    refine zw_ld (n := 1) (k := 3) (f := zp_isI) (pc' := 62) rfl rfl rfl rfl rfl ?_
    refine zw_s (pc' := 99) rfl rfl ?_
    refine zw_ld (n := 1) (k := 0) (f := zp_isR) (pc' := 100) rfl rfl rfl rfl rfl ?_
    refine zw_gR (q := 0) (pc' := 103) W2 rfl rfl rfl rfl (W2.2 0 14 _ rfl) rfl ?_
    refine zw_gR (q := 56) (pc' := 106) W2 rfl rfl rfl rfl (W2.2 56 0 _ rfl) rfl ?_
    refine zw_gI (q := 57) (pc' := 109) W2 rfl rfl rfl rfl rfl rfl ?_
    refine zw_rig rfl rfl ⟨by decide, by decide⟩ ?_
    exact ⟨K, x_rv b30, xFk_t q2 b2⟩
  · exact absurd hu h3

theorem yl_sai0_1 {L : Nat} {σ : Nat → Int32} {d : Nat} {H : zp_H} {x1 x2 : Int32} (hB : zk_Bs (zB_c 0) zg zJc H) {S : xSea} {CC : Nat → List xIt} (hS : xOk S) (hC : xSC 2 H S) (hCC : xCC 2 CC H) (hp : 0 ≤ x1.toInt ∧ x1.toInt < (H.2.1 2 12).toInt) (hpc : xIn S (H.2.1 7 x1.toInt.toNat).toInt) (hm : ∀ s : Nat, (s : Int) < (H.2.1 13 0).toInt → 0 ≤ (H.2.1 16 s).toInt ∧ (H.2.1 16 s).toInt ≤ 8) (hw : ∀ s : Nat, (s : Int) < (H.2.1 13 0).toInt → ∀ j, j < (H.2.1 16 s).toInt.toNat → -1 ≤ (H.2.1 18 (8 * s + j)).toInt ∧ (H.2.1 18 (8 * s + j)).toInt ≤ 3) (hc : ∀ s : Nat, (s : Int) < (H.2.1 13 0).toInt → xIn S (H.2.1 14 s).toInt) (hu : ((x2.toUInt32 >>> ((H.2.1 13 0).toUInt32 &&& Int32.toUInt32 31)).toInt32).toInt = 0) : ∃ K, zp_Call L σ (d + 8) 135 [.inr (.inr (some 1)), .inl x1, .inl x2, .inl (Int32.ofInt 1), .inr (.inr (some 105))] H (.inl (some (.inl (Int32.ofInt 0))), zw_J K 104 0 ((xPl S (H.2.1 2 11).toInt (fun c h => xWb (xVl S c h (xKn (fun s => xWk (xVyc S 13 H s)) x2 (H.2.1 13 0).toInt.toNat (Int32.ofInt 0) (Int64.ofNat 0))) (H.2.1 10) CC (H.2.1 2 16).toInt.toNat 0) 60 (H.2.1 7 x1.toInt.toNat) (H.2.1 8 x1.toInt.toNat) (xP0 S (H.2.1 2 11).toInt (H.2.1 7 x1.toInt.toNat))).1).toInt64) ∧ xFk H K := by
  obtain ⟨_, q1, K, rfl, q2⟩ := yc_sai0_1 (L := L) (σ := σ) (d := d) hB hS hC hCC hp hpc hm hw hc hu
  have W := zB_Wd (zB_dn (zB_Bc hB))
  have W1 := xFk_W q2 W
  refine ⟨K, zw_ex (zw_met zm_135_t rfl rfl ?_), q2⟩
  refine zw_ld (n := 2) (k := 4) (f := zp_isR) (pc' := 2) rfl rfl rfl rfl rfl ?_
  refine zw_s (pc' := 3) rfl rfl ?_
  refine zw_ld (n := 1) (k := 0) (f := zp_isR) (pc' := 4) rfl rfl rfl rfl rfl ?_
  refine zw_ld (n := 1) (k := 1) (f := zp_isI) (pc' := 5) rfl rfl rfl rfl rfl ?_
  refine zw_ld (n := 1) (k := 2) (f := zp_isI) (pc' := 6) rfl rfl rfl rfl rfl ?_
  refine zw_ld (n := 1) (k := 3) (f := zp_isI) (pc' := 7) rfl rfl rfl rfl rfl ?_
  refine zw_ct (pc' := 10) (c' := (3, 18)) (zw_cv (q := 0) (Y := zm_136) W.1 rfl rfl zm_136_t rfl rfl) (zw_pb_ok rfl) rfl rfl rfl rfl (q1) ?_
  refine zw_s (pc' := 11) rfl rfl ?_
  refine zw_ls (q := 104) (pc' := 12) W1 rfl rfl (⟨by decide, by decide⟩) rfl ?_
  refine zw_s (pc' := 23) rfl rfl ?_
  refine zw_s (pc' := 24) rfl rfl ?_
  refine zw_rig rfl rfl ⟨by decide, by decide⟩ ?_
  rfl

theorem yc_sai0_2 {L : Nat} {σ : Nat → Int32} {d : Nat} {H : zp_H} {x1 x2 : Int32} (hB : zk_Bs (zB_c 0) zg zJc H) {S : xSea} {CC : Nat → List xIt} (hS : xOk S) (hC : xSC 2 H S) (hCC : xCC 2 CC H) (hp : 0 ≤ x1.toInt ∧ x1.toInt < (H.2.1 2 12).toInt) (hpc : xIn S (H.2.1 7 x1.toInt.toNat).toInt) (hm : ∀ s : Nat, (s : Int) < (H.2.1 13 0).toInt → 0 ≤ (H.2.1 16 s).toInt ∧ (H.2.1 16 s).toInt ≤ 8) (hw : ∀ s : Nat, (s : Int) < (H.2.1 13 0).toInt → ∀ j, j < (H.2.1 16 s).toInt.toNat → -1 ≤ (H.2.1 18 (8 * s + j)).toInt ∧ (H.2.1 18 (8 * s + j)).toInt ≤ 3) (hc : ∀ s : Nat, (s : Int) < (H.2.1 13 0).toInt → xIn S (H.2.1 14 s).toInt) (hu : ((x2.toUInt32 >>> ((H.2.1 13 0).toUInt32 &&& Int32.toUInt32 31)).toInt32).toInt = 0) : ∃ X, zp_Call L σ (d + 7) 136 [.inr (.inr (some 1)), .inl x1, .inl x2, .inl (Int32.ofInt 2)] H X ∧ ∃ K, X = (.inl (some (.inl (xPl S (H.2.1 2 11).toInt (fun c h => xWb (xVl S c h (xKn (fun s => xWk (xVyc S 13 H s)) x2 (H.2.1 13 0).toInt.toNat (Int32.ofInt 0) (Int64.ofNat 0))) (H.2.1 10) CC (H.2.1 2 16).toInt.toNat 0) 60 (H.2.1 7 x1.toInt.toNat) (H.2.1 8 x1.toInt.toNat) (xP0 S (H.2.1 2 11).toInt (H.2.1 7 x1.toInt.toNat))).2.1)), K) ∧ xFk H K := by
  have W := zB_Wd (zB_dn (zB_Bc hB))
  have g5 : H.2.2.2 0 5 = some 3 := hB.2.1 0 5 _ rfl
  have g6 : H.2.2.2 0 6 = some 14 := hB.2.1 0 6 _ rfl
  have g7 : H.2.2.2 0 7 = some 23 := hB.2.1 0 7 _ rfl
  have g8 : H.2.2.2 0 8 = some 34 := hB.2.1 0 8 _ rfl
  have r13_0 := zB_fr1 (zB_dn (zB_Bc hB)) (p := 13) (k := 0) (r := (0, 8)) rfl
  have r13_0 : 0 ≤ (H.2.1 13 0).toInt ∧ (H.2.1 13 0).toInt ≤ 8 := r13_0
  have r2_12 := zB_fr1 (zB_dn (zB_Bc hB)) (p := 2) (k := 12) (r := (0, 4)) rfl
  have r2_12 : 0 ≤ (H.2.1 2 12).toInt ∧ (H.2.1 2 12).toInt ≤ 4 := r2_12
  obtain ⟨_, q1, H1, rfl, W1, q2⟩ := xh_kn2 (L := L) (σ := σ) (d := d) (set := x2) hS hC r13_0 hm hw hc W
  have f1 : ∀ p k, p < 54 → H1.2.1 p k = H.2.1 p k := fun p k hp9 => q2.2.2.1 p k (by omega)
  obtain ⟨_, b1, K, rfl, W2, b2, b3⟩ := xh_sb2 (L := L) (σ := σ) (d := d + 1) (p := x1) (u := (xKn (fun s => xWk (xVyc S 13 H s)) x2 (H.2.1 13 0).toInt.toNat (Int32.ofInt 0) (Int64.ofNat 0))) hS (xSC_v q2 ⟨by decide, by decide, by decide⟩ hC) (xCC_v (by decide) f1 hCC) W1 ⟨hp.1, by omega⟩ (by rw [f1 7 _ (by decide)]; exact hpc)
  rw [f1 7 _ (by decide), f1 8 _ (by decide), f1 2 11 (by decide), f1 2 16 (by decide), show H1.2.1 10 = H.2.1 10 from funext (fun k => f1 10 k (by decide))] at b3
  have b30 : K.2.1 57 0 = (xPl S (H.2.1 2 11).toInt (fun c h => xWb (xVl S c h (xKn (fun s => xWk (xVyc S 13 H s)) x2 (H.2.1 13 0).toInt.toNat (Int32.ofInt 0) (Int64.ofNat 0))) (H.2.1 10) CC (H.2.1 2 16).toInt.toNat 0) 60 (H.2.1 7 x1.toInt.toNat) (H.2.1 8 x1.toInt.toNat) (xP0 S (H.2.1 2 11).toInt (H.2.1 7 x1.toInt.toNat))).1 := congrArg Prod.fst b3
  have b31 : K.2.1 57 1 = (xPl S (H.2.1 2 11).toInt (fun c h => xWb (xVl S c h (xKn (fun s => xWk (xVyc S 13 H s)) x2 (H.2.1 13 0).toInt.toNat (Int32.ofInt 0) (Int64.ofNat 0))) (H.2.1 10) CC (H.2.1 2 16).toInt.toNat 0) 60 (H.2.1 7 x1.toInt.toNat) (H.2.1 8 x1.toInt.toNat) (xP0 S (H.2.1 2 11).toInt (H.2.1 7 x1.toInt.toNat))).2.1 := congrArg (fun z => z.2.1) b3
  have b32 : K.2.1 57 2 = (xPl S (H.2.1 2 11).toInt (fun c h => xWb (xVl S c h (xKn (fun s => xWk (xVyc S 13 H s)) x2 (H.2.1 13 0).toInt.toNat (Int32.ofInt 0) (Int64.ofNat 0))) (H.2.1 10) CC (H.2.1 2 16).toInt.toNat 0) 60 (H.2.1 7 x1.toInt.toNat) (H.2.1 8 x1.toInt.toNat) (xP0 S (H.2.1 2 11).toInt (H.2.1 7 x1.toInt.toNat))).2.2 := congrArg (fun z => z.2.2) b3
  refine zw_met zm_136_t rfl rfl ?_
  refine zw_ld (n := 1) (k := 0) (f := zp_isR) (pc' := 1) rfl rfl rfl rfl rfl ?_
  refine zw_ld (n := 1) (k := 1) (f := zp_isI) (pc' := 2) rfl rfl rfl rfl rfl ?_
  refine zw_ctn (pc' := 5) (c' := (1, 6)) (zw_cv (q := 0) (Y := zm_134) W.1 rfl rfl zm_134_t rfl rfl) (zw_pb_ok rfl) rfl rfl rfl rfl (yc_np1_0 hB hp) ?_
  refine zw_ld (n := 1) (k := 3) (f := zp_isI) (pc' := 6) rfl rfl rfl rfl rfl ?_
  refine zw_s (pc' := 7) rfl rfl ?_
  refine zw_ctn (pc' := 10) (c' := (2, 12)) (zw_cs (Y := zm_104) rfl rfl zm_104_t) (zw_pb_ok rfl) rfl rfl rfl rfl (yc_nw1 ⟨by decide, by decide⟩) ?_
  refine zw_ld (n := 1) (k := 2) (f := zp_isI) (pc' := 11) rfl rfl rfl rfl rfl ?_
  refine zw_ld (n := 1) (k := 0) (f := zp_isR) (pc' := 12) rfl rfl rfl rfl rfl ?_
  refine zw_gR (q := 0) (pc' := 15) W rfl rfl rfl rfl g6 rfl ?_
  refine zw_gI (q := 13) (pc' := 18) W rfl rfl rfl rfl rfl rfl ?_
  refine zw_s (pc' := 19) rfl rfl ?_
  refine zw_beq1 (g := 33) (pc' := 22) rfl rfl rfl rfl (fun h3 => ?_) (fun h3 => ?_)
  · refine zw_ld (n := 1) (k := 0) (f := zp_isR) (pc' := 34) rfl rfl rfl rfl rfl ?_
    refine zw_gR (q := 0) (pc' := 37) W rfl rfl rfl rfl (W.2 0 14 _ rfl) rfl ?_
    refine zw_ld (n := 1) (k := 0) (f := zp_isR) (pc' := 38) rfl rfl rfl rfl rfl ?_
    refine zw_gR (q := 0) (pc' := 41) W rfl rfl rfl rfl g5 rfl ?_
    refine zw_ld (n := 1) (k := 1) (f := zp_isI) (pc' := 42) rfl rfl rfl rfl rfl ?_
    refine zw_ld (n := 1) (k := 0) (f := zp_isR) (pc' := 43) rfl rfl rfl rfl rfl ?_
    refine zw_gR (q := 0) (pc' := 46) W rfl rfl rfl rfl (W.2 0 12 _ rfl) rfl ?_
    refine zw_ld (n := 1) (k := 0) (f := zp_isR) (pc' := 47) rfl rfl rfl rfl rfl ?_
    refine zw_gR (q := 0) (pc' := 50) W rfl rfl rfl rfl g5 rfl ?_
    refine zw_ld (n := 1) (k := 0) (f := zp_isR) (pc' := 51) rfl rfl rfl rfl rfl ?_
    refine zw_gR (q := 0) (pc' := 54) W rfl rfl rfl rfl g6 rfl ?_
    refine zw_ld (n := 1) (k := 2) (f := zp_isI) (pc' := 55) rfl rfl rfl rfl rfl ?_
    refine zw_c (pc' := 58) (zw_cv (q := 54) (Y := zm_23) W.1 rfl rfl zm_23_t rfl rfl) rfl rfl rfl rfl rfl (q1) ?_
    refine zw_cn (pc' := 61) (zw_cv (q := 56) (Y := zm_35) W1.1 rfl rfl zm_35_t rfl rfl) rfl rfl rfl rfl rfl (b1) ?_
    refine zw_ld (n := 1) (k := 3) (f := zp_isI) (pc' := 62) rfl rfl rfl rfl rfl ?_
    refine zw_s (pc' := 110) rfl rfl ?_
    refine zw_ld (n := 1) (k := 0) (f := zp_isR) (pc' := 111) rfl rfl rfl rfl rfl ?_
    refine zw_gR (q := 0) (pc' := 114) W2 rfl rfl rfl rfl (W2.2 0 14 _ rfl) rfl ?_
    refine zw_gR (q := 56) (pc' := 117) W2 rfl rfl rfl rfl (W2.2 56 0 _ rfl) rfl ?_
    refine zw_gI (q := 57) (pc' := 120) W2 rfl rfl rfl rfl rfl rfl ?_
    refine zw_rig rfl rfl ⟨by decide, by decide⟩ ?_
    exact ⟨K, x_rv b31, xFk_t q2 b2⟩
  · exact absurd hu h3

theorem yl_sai0_2 {L : Nat} {σ : Nat → Int32} {d : Nat} {H : zp_H} {x1 x2 : Int32} (hB : zk_Bs (zB_c 0) zg zJc H) {S : xSea} {CC : Nat → List xIt} (hS : xOk S) (hC : xSC 2 H S) (hCC : xCC 2 CC H) (hp : 0 ≤ x1.toInt ∧ x1.toInt < (H.2.1 2 12).toInt) (hpc : xIn S (H.2.1 7 x1.toInt.toNat).toInt) (hm : ∀ s : Nat, (s : Int) < (H.2.1 13 0).toInt → 0 ≤ (H.2.1 16 s).toInt ∧ (H.2.1 16 s).toInt ≤ 8) (hw : ∀ s : Nat, (s : Int) < (H.2.1 13 0).toInt → ∀ j, j < (H.2.1 16 s).toInt.toNat → -1 ≤ (H.2.1 18 (8 * s + j)).toInt ∧ (H.2.1 18 (8 * s + j)).toInt ≤ 3) (hc : ∀ s : Nat, (s : Int) < (H.2.1 13 0).toInt → xIn S (H.2.1 14 s).toInt) (hu : ((x2.toUInt32 >>> ((H.2.1 13 0).toUInt32 &&& Int32.toUInt32 31)).toInt32).toInt = 0) : ∃ K, zp_Call L σ (d + 8) 135 [.inr (.inr (some 1)), .inl x1, .inl x2, .inl (Int32.ofInt 2), .inr (.inr (some 105))] H (.inl (some (.inl (Int32.ofInt 0))), zw_J K 104 0 ((xPl S (H.2.1 2 11).toInt (fun c h => xWb (xVl S c h (xKn (fun s => xWk (xVyc S 13 H s)) x2 (H.2.1 13 0).toInt.toNat (Int32.ofInt 0) (Int64.ofNat 0))) (H.2.1 10) CC (H.2.1 2 16).toInt.toNat 0) 60 (H.2.1 7 x1.toInt.toNat) (H.2.1 8 x1.toInt.toNat) (xP0 S (H.2.1 2 11).toInt (H.2.1 7 x1.toInt.toNat))).2.1).toInt64) ∧ xFk H K := by
  obtain ⟨_, q1, K, rfl, q2⟩ := yc_sai0_2 (L := L) (σ := σ) (d := d) hB hS hC hCC hp hpc hm hw hc hu
  have W := zB_Wd (zB_dn (zB_Bc hB))
  have W1 := xFk_W q2 W
  refine ⟨K, zw_ex (zw_met zm_135_t rfl rfl ?_), q2⟩
  refine zw_ld (n := 2) (k := 4) (f := zp_isR) (pc' := 2) rfl rfl rfl rfl rfl ?_
  refine zw_s (pc' := 3) rfl rfl ?_
  refine zw_ld (n := 1) (k := 0) (f := zp_isR) (pc' := 4) rfl rfl rfl rfl rfl ?_
  refine zw_ld (n := 1) (k := 1) (f := zp_isI) (pc' := 5) rfl rfl rfl rfl rfl ?_
  refine zw_ld (n := 1) (k := 2) (f := zp_isI) (pc' := 6) rfl rfl rfl rfl rfl ?_
  refine zw_ld (n := 1) (k := 3) (f := zp_isI) (pc' := 7) rfl rfl rfl rfl rfl ?_
  refine zw_ct (pc' := 10) (c' := (3, 18)) (zw_cv (q := 0) (Y := zm_136) W.1 rfl rfl zm_136_t rfl rfl) (zw_pb_ok rfl) rfl rfl rfl rfl (q1) ?_
  refine zw_s (pc' := 11) rfl rfl ?_
  refine zw_ls (q := 104) (pc' := 12) W1 rfl rfl (⟨by decide, by decide⟩) rfl ?_
  refine zw_s (pc' := 23) rfl rfl ?_
  refine zw_s (pc' := 24) rfl rfl ?_
  refine zw_rig rfl rfl ⟨by decide, by decide⟩ ?_
  rfl

theorem yc_sain0 {L : Nat} {σ : Nat → Int32} {d : Nat} {H : zp_H} {x1 x2 x3 : Int32} (hB : zk_Bs (zB_c 0) zg zJc H) (h : ¬ ((0 ≤ x1.toInt ∧ x1.toInt < (H.2.1 2 12).toInt) ∧ 0 ≤ x3.toInt ∧ x3.toInt ≤ (Int32.ofInt 2).toInt)) : zp_Call L σ (d + 2) 136 [.inr (.inr (some 1)), .inl x1, .inl x2, .inl x3] H (.inr 0, H) := by
  have W := zB_Wd (zB_dn (zB_Bc hB))
  have g5 : H.2.2.2 0 5 = some 3 := hB.2.1 0 5 _ rfl
  have g6 : H.2.2.2 0 6 = some 14 := hB.2.1 0 6 _ rfl
  have g7 : H.2.2.2 0 7 = some 23 := hB.2.1 0 7 _ rfl
  have g8 : H.2.2.2 0 8 = some 34 := hB.2.1 0 8 _ rfl
  refine zw_ex (zw_met zm_136_t rfl rfl ?_)
  refine zw_ld (n := 1) (k := 0) (f := zp_isR) (pc' := 1) rfl rfl rfl rfl rfl ?_
  refine zw_ld (n := 1) (k := 1) (f := zp_isI) (pc' := 2) rfl rfl rfl rfl rfl ?_
  by_cases h1 : 0 ≤ x1.toInt ∧ x1.toInt < (H.2.1 2 12).toInt
  · refine zw_ctn (pc' := 5) (c' := (1, 6)) (zw_cv (q := 0) (Y := zm_134) W.1 rfl rfl zm_134_t rfl rfl) (zw_pb_ok rfl) rfl rfl rfl rfl (yc_np1_0 hB h1) ?_
    refine zw_ld (n := 1) (k := 3) (f := zp_isI) (pc' := 6) rfl rfl rfl rfl rfl ?_
    refine zw_s (pc' := 7) rfl rfl ?_
    refine zw_cthr (ex := 0) (zw_cs (Y := zm_104) rfl rfl zm_104_t) (zw_pb_ok rfl) rfl rfl (yc_nw0 (fun h9 => h ⟨h1, h9⟩)) ?_
    rfl
  · refine zw_cthr (ex := 0) (zw_cv (q := 0) (Y := zm_134) W.1 rfl rfl zm_134_t rfl rfl) (zw_pb_ok rfl) rfl rfl (yc_np0_0 hB h1) ?_
    rfl

theorem yl_sain0 {L : Nat} {σ : Nat → Int32} {d : Nat} {H : zp_H} {x1 x2 x3 : Int32} (hB : zk_Bs (zB_c 0) zg zJc H) (h : ¬ ((0 ≤ x1.toInt ∧ x1.toInt < (H.2.1 2 12).toInt) ∧ 0 ≤ x3.toInt ∧ x3.toInt ≤ (Int32.ofInt 2).toInt)) : zp_Call L σ (d + 3) 135 [.inr (.inr (some 1)), .inl x1, .inl x2, .inl x3, .inr (.inr (some 105))] H (.inl (some (.inl (Int32.ofInt 1))), H) := by
  have W := zB_Wd (zB_dn (zB_Bc hB))
  refine zw_ex (zw_met zm_135_t rfl rfl ?_)
  refine zw_ld (n := 2) (k := 4) (f := zp_isR) (pc' := 2) rfl rfl rfl rfl rfl ?_
  refine zw_s (pc' := 3) rfl rfl ?_
  refine zw_ld (n := 1) (k := 0) (f := zp_isR) (pc' := 4) rfl rfl rfl rfl rfl ?_
  refine zw_ld (n := 1) (k := 1) (f := zp_isI) (pc' := 5) rfl rfl rfl rfl rfl ?_
  refine zw_ld (n := 1) (k := 2) (f := zp_isI) (pc' := 6) rfl rfl rfl rfl rfl ?_
  refine zw_ld (n := 1) (k := 3) (f := zp_isI) (pc' := 7) rfl rfl rfl rfl rfl ?_
  refine zw_cexw (ex := 0) (hp9 := 15) (k9 := 5) (pc' := 17) (c' := (3, 18)) (zw_cv (q := 0) (Y := zm_136) W.1 rfl rfl zm_136_t rfl rfl) (zw_pb_ok rfl) rfl rfl rfl rfl rfl rfl rfl (yc_sain0 hB h) ?_
  refine zw_s (pc' := 18) rfl rfl ?_
  refine zw_rig rfl rfl ⟨by decide, by decide⟩ ?_
  rfl

theorem yc_saii0 {L : Nat} {σ : Nat → Int32} {d : Nat} {H : zp_H} {x1 x2 x3 : Int32} (hB : zk_Bs (zB_c 0) zg zJc H) (h1 : 0 ≤ x1.toInt ∧ x1.toInt < (H.2.1 2 12).toInt) (h3 : 0 ≤ x3.toInt ∧ x3.toInt ≤ (Int32.ofInt 2).toInt) (hu : ¬ ((x2.toUInt32 >>> ((H.2.1 13 0).toUInt32 &&& Int32.toUInt32 31)).toInt32).toInt = 0) : zp_Call L σ (d + 2) 136 [.inr (.inr (some 1)), .inl x1, .inl x2, .inl x3] H (.inr 1, H) := by
  have W := zB_Wd (zB_dn (zB_Bc hB))
  have g5 : H.2.2.2 0 5 = some 3 := hB.2.1 0 5 _ rfl
  have g6 : H.2.2.2 0 6 = some 14 := hB.2.1 0 6 _ rfl
  have g7 : H.2.2.2 0 7 = some 23 := hB.2.1 0 7 _ rfl
  have g8 : H.2.2.2 0 8 = some 34 := hB.2.1 0 8 _ rfl
  refine zw_ex (zw_met zm_136_t rfl rfl ?_)
  refine zw_ld (n := 1) (k := 0) (f := zp_isR) (pc' := 1) rfl rfl rfl rfl rfl ?_
  refine zw_ld (n := 1) (k := 1) (f := zp_isI) (pc' := 2) rfl rfl rfl rfl rfl ?_
  refine zw_ctn (pc' := 5) (c' := (1, 6)) (zw_cv (q := 0) (Y := zm_134) W.1 rfl rfl zm_134_t rfl rfl) (zw_pb_ok rfl) rfl rfl rfl rfl (yc_np1_0 hB h1) ?_
  refine zw_ld (n := 1) (k := 3) (f := zp_isI) (pc' := 6) rfl rfl rfl rfl rfl ?_
  refine zw_s (pc' := 7) rfl rfl ?_
  refine zw_ctn (pc' := 10) (c' := (2, 12)) (zw_cs (Y := zm_104) rfl rfl zm_104_t) (zw_pb_ok rfl) rfl rfl rfl rfl (yc_nw1 h3) ?_
  refine zw_ld (n := 1) (k := 2) (f := zp_isI) (pc' := 11) rfl rfl rfl rfl rfl ?_
  refine zw_ld (n := 1) (k := 0) (f := zp_isR) (pc' := 12) rfl rfl rfl rfl rfl ?_
  refine zw_gR (q := 0) (pc' := 15) W rfl rfl rfl rfl g6 rfl ?_
  refine zw_gI (q := 13) (pc' := 18) W rfl rfl rfl rfl rfl rfl ?_
  refine zw_s (pc' := 19) rfl rfl ?_
  refine zw_beq1 (g := 33) (pc' := 22) rfl rfl rfl rfl (fun h4 => ?_) (fun h4 => ?_)
  · exact absurd h4 hu
  · exact zs_end (S := (22, _, [], H, (2, 12))) (X := (.inr 1, H)) rfl rfl rfl

theorem yl_saii0 {L : Nat} {σ : Nat → Int32} {d : Nat} {H : zp_H} {x1 x2 x3 : Int32} (hB : zk_Bs (zB_c 0) zg zJc H) (h1 : 0 ≤ x1.toInt ∧ x1.toInt < (H.2.1 2 12).toInt) (h3 : 0 ≤ x3.toInt ∧ x3.toInt ≤ (Int32.ofInt 2).toInt) (hu : ¬ ((x2.toUInt32 >>> ((H.2.1 13 0).toUInt32 &&& Int32.toUInt32 31)).toInt32).toInt = 0) : zp_Call L σ (d + 3) 135 [.inr (.inr (some 1)), .inl x1, .inl x2, .inl x3, .inr (.inr (some 105))] H (.inl (some (.inl (Int32.ofInt 2))), H) := by
  have W := zB_Wd (zB_dn (zB_Bc hB))
  refine zw_ex (zw_met zm_135_t rfl rfl ?_)
  refine zw_ld (n := 2) (k := 4) (f := zp_isR) (pc' := 2) rfl rfl rfl rfl rfl ?_
  refine zw_s (pc' := 3) rfl rfl ?_
  refine zw_ld (n := 1) (k := 0) (f := zp_isR) (pc' := 4) rfl rfl rfl rfl rfl ?_
  refine zw_ld (n := 1) (k := 1) (f := zp_isI) (pc' := 5) rfl rfl rfl rfl rfl ?_
  refine zw_ld (n := 1) (k := 2) (f := zp_isI) (pc' := 6) rfl rfl rfl rfl rfl ?_
  refine zw_ld (n := 1) (k := 3) (f := zp_isI) (pc' := 7) rfl rfl rfl rfl rfl ?_
  refine zw_cexw (ex := 1) (hp9 := 19) (k9 := 5) (pc' := 21) (c' := (3, 18)) (zw_cv (q := 0) (Y := zm_136) W.1 rfl rfl zm_136_t rfl rfl) (zw_pb_ok rfl) rfl rfl rfl rfl rfl rfl rfl (yc_saii0 hB h1 h3 hu) ?_
  refine zw_s (pc' := 22) rfl rfl ?_
  refine zw_rig rfl rfl ⟨by decide, by decide⟩ ?_
  rfl

theorem yc_np1_3 {L : Nat} {σ : Nat → Int32} {d : Nat} {H : zp_H} {x : Int32} (hB : zk_Bs (zB_c 3) zg zJc H) (h : (0 ≤ x.toInt ∧ x.toInt < (H.2.1 22 12).toInt)) : zp_Call L σ (d + 1) 134 [.inr (.inr (some 1)), .inl x] H (.inl none, H) := by
  have W := zB_Wd (zB_dn (zB_Bc hB))
  have g5 : H.2.2.2 0 5 = some 23 := hB.2.1 0 5 _ rfl
  have g6 : H.2.2.2 0 6 = some 34 := hB.2.1 0 6 _ rfl
  have g7 : H.2.2.2 0 7 = some 3 := hB.2.1 0 7 _ rfl
  have g8 : H.2.2.2 0 8 = some 14 := hB.2.1 0 8 _ rfl
  refine zw_ex (zw_met zm_134_t rfl rfl ?_)
  refine zw_ld (n := 1) (k := 1) (f := zp_isI) (pc' := 1) rfl rfl rfl rfl rfl ?_
  refine zw_blt1 (g := 15) (pc' := 4) rfl rfl rfl rfl (fun h1 => ?_) (fun h1 => ?_)
  · omega
  · refine zw_ld (n := 1) (k := 1) (f := zp_isI) (pc' := 5) rfl rfl rfl rfl rfl ?_
    refine zw_ld (n := 1) (k := 0) (f := zp_isR) (pc' := 6) rfl rfl rfl rfl rfl ?_
    refine zw_gR (q := 0) (pc' := 9) W rfl rfl rfl rfl g5 rfl ?_
    refine zw_gI (q := 22) (pc' := 12) W rfl rfl rfl rfl rfl rfl ?_
    refine zw_blt2 (g := 26) (pc' := 15) rfl rfl rfl rfl rfl (fun h2 => ?_) (fun h2 => ?_)
    · refine zw_rn rfl rfl ?_
      rfl
    · omega

theorem yc_np0_3 {L : Nat} {σ : Nat → Int32} {d : Nat} {H : zp_H} {x : Int32} (hB : zk_Bs (zB_c 3) zg zJc H) (h : ¬ (0 ≤ x.toInt ∧ x.toInt < (H.2.1 22 12).toInt)) : zp_Call L σ (d + 1) 134 [.inr (.inr (some 1)), .inl x] H (.inr 0, H) := by
  have W := zB_Wd (zB_dn (zB_Bc hB))
  have g5 : H.2.2.2 0 5 = some 23 := hB.2.1 0 5 _ rfl
  have g6 : H.2.2.2 0 6 = some 34 := hB.2.1 0 6 _ rfl
  have g7 : H.2.2.2 0 7 = some 3 := hB.2.1 0 7 _ rfl
  have g8 : H.2.2.2 0 8 = some 14 := hB.2.1 0 8 _ rfl
  refine zw_ex (zw_met zm_134_t rfl rfl ?_)
  refine zw_ld (n := 1) (k := 1) (f := zp_isI) (pc' := 1) rfl rfl rfl rfl rfl ?_
  refine zw_blt1 (g := 15) (pc' := 4) rfl rfl rfl rfl (fun h1 => ?_) (fun h1 => ?_)
  · exact zs_end (S := (15, _, [], H, (0, 0))) (X := (.inr 0, H)) rfl rfl rfl
  · refine zw_ld (n := 1) (k := 1) (f := zp_isI) (pc' := 5) rfl rfl rfl rfl rfl ?_
    refine zw_ld (n := 1) (k := 0) (f := zp_isR) (pc' := 6) rfl rfl rfl rfl rfl ?_
    refine zw_gR (q := 0) (pc' := 9) W rfl rfl rfl rfl g5 rfl ?_
    refine zw_gI (q := 22) (pc' := 12) W rfl rfl rfl rfl rfl rfl ?_
    refine zw_blt2 (g := 26) (pc' := 15) rfl rfl rfl rfl rfl (fun h2 => ?_) (fun h2 => ?_)
    · omega
    · exact zs_end (S := (15, _, [], H, (0, 0))) (X := (.inr 0, H)) rfl rfl rfl

theorem yc_sai3_0 {L : Nat} {σ : Nat → Int32} {d : Nat} {H : zp_H} {x1 x2 : Int32} (hB : zk_Bs (zB_c 3) zg zJc H) {S : xSea} {CC : Nat → List xIt} (hS : xOk S) (hC : xSC 22 H S) (hCC : xCC 22 CC H) (hp : 0 ≤ x1.toInt ∧ x1.toInt < (H.2.1 22 12).toInt) (hpc : xIn S (H.2.1 27 x1.toInt.toNat).toInt) (hm : ∀ s : Nat, (s : Int) < (H.2.1 33 0).toInt → 0 ≤ (H.2.1 36 s).toInt ∧ (H.2.1 36 s).toInt ≤ 8) (hw : ∀ s : Nat, (s : Int) < (H.2.1 33 0).toInt → ∀ j, j < (H.2.1 36 s).toInt.toNat → -1 ≤ (H.2.1 38 (8 * s + j)).toInt ∧ (H.2.1 38 (8 * s + j)).toInt ≤ 3) (hc : ∀ s : Nat, (s : Int) < (H.2.1 33 0).toInt → xIn S (H.2.1 34 s).toInt) (hu : ((x2.toUInt32 >>> ((H.2.1 33 0).toUInt32 &&& Int32.toUInt32 31)).toInt32).toInt = 0) : ∃ X, zp_Call L σ (d + 7) 136 [.inr (.inr (some 1)), .inl x1, .inl x2, .inl (Int32.ofInt 0)] H X ∧ ∃ K, X = (.inl (some (.inl (xPl S (H.2.1 22 11).toInt (fun c h => xWb (xVl S c h (xKn (fun s => xWk (xVyc S 33 H s)) x2 (H.2.1 33 0).toInt.toNat (Int32.ofInt 0) (Int64.ofNat 0))) (H.2.1 30) CC (H.2.1 22 16).toInt.toNat 0) 60 (H.2.1 27 x1.toInt.toNat) (H.2.1 28 x1.toInt.toNat) (xP0 S (H.2.1 22 11).toInt (H.2.1 27 x1.toInt.toNat))).2.2)), K) ∧ xFk H K := by
  have W := zB_Wd (zB_dn (zB_Bc hB))
  have g5 : H.2.2.2 0 5 = some 23 := hB.2.1 0 5 _ rfl
  have g6 : H.2.2.2 0 6 = some 34 := hB.2.1 0 6 _ rfl
  have g7 : H.2.2.2 0 7 = some 3 := hB.2.1 0 7 _ rfl
  have g8 : H.2.2.2 0 8 = some 14 := hB.2.1 0 8 _ rfl
  have r33_0 := zB_fr1 (zB_dn (zB_Bc hB)) (p := 33) (k := 0) (r := (0, 8)) rfl
  have r33_0 : 0 ≤ (H.2.1 33 0).toInt ∧ (H.2.1 33 0).toInt ≤ 8 := r33_0
  have r22_12 := zB_fr1 (zB_dn (zB_Bc hB)) (p := 22) (k := 12) (r := (0, 4)) rfl
  have r22_12 : 0 ≤ (H.2.1 22 12).toInt ∧ (H.2.1 22 12).toInt ≤ 4 := r22_12
  obtain ⟨_, q1, H1, rfl, W1, q2⟩ := xh_kn22 (L := L) (σ := σ) (d := d) (set := x2) hS hC r33_0 hm hw hc W
  have f1 : ∀ p k, p < 54 → H1.2.1 p k = H.2.1 p k := fun p k hp9 => q2.2.2.1 p k (by omega)
  obtain ⟨_, b1, K, rfl, W2, b2, b3⟩ := xh_sb22 (L := L) (σ := σ) (d := d + 1) (p := x1) (u := (xKn (fun s => xWk (xVyc S 33 H s)) x2 (H.2.1 33 0).toInt.toNat (Int32.ofInt 0) (Int64.ofNat 0))) hS (xSC_v q2 ⟨by decide, by decide, by decide⟩ hC) (xCC_v (by decide) f1 hCC) W1 ⟨hp.1, by omega⟩ (by rw [f1 27 _ (by decide)]; exact hpc)
  rw [f1 27 _ (by decide), f1 28 _ (by decide), f1 22 11 (by decide), f1 22 16 (by decide), show H1.2.1 30 = H.2.1 30 from funext (fun k => f1 30 k (by decide))] at b3
  have b30 : K.2.1 57 0 = (xPl S (H.2.1 22 11).toInt (fun c h => xWb (xVl S c h (xKn (fun s => xWk (xVyc S 33 H s)) x2 (H.2.1 33 0).toInt.toNat (Int32.ofInt 0) (Int64.ofNat 0))) (H.2.1 30) CC (H.2.1 22 16).toInt.toNat 0) 60 (H.2.1 27 x1.toInt.toNat) (H.2.1 28 x1.toInt.toNat) (xP0 S (H.2.1 22 11).toInt (H.2.1 27 x1.toInt.toNat))).1 := congrArg Prod.fst b3
  have b31 : K.2.1 57 1 = (xPl S (H.2.1 22 11).toInt (fun c h => xWb (xVl S c h (xKn (fun s => xWk (xVyc S 33 H s)) x2 (H.2.1 33 0).toInt.toNat (Int32.ofInt 0) (Int64.ofNat 0))) (H.2.1 30) CC (H.2.1 22 16).toInt.toNat 0) 60 (H.2.1 27 x1.toInt.toNat) (H.2.1 28 x1.toInt.toNat) (xP0 S (H.2.1 22 11).toInt (H.2.1 27 x1.toInt.toNat))).2.1 := congrArg (fun z => z.2.1) b3
  have b32 : K.2.1 57 2 = (xPl S (H.2.1 22 11).toInt (fun c h => xWb (xVl S c h (xKn (fun s => xWk (xVyc S 33 H s)) x2 (H.2.1 33 0).toInt.toNat (Int32.ofInt 0) (Int64.ofNat 0))) (H.2.1 30) CC (H.2.1 22 16).toInt.toNat 0) 60 (H.2.1 27 x1.toInt.toNat) (H.2.1 28 x1.toInt.toNat) (xP0 S (H.2.1 22 11).toInt (H.2.1 27 x1.toInt.toNat))).2.2 := congrArg (fun z => z.2.2) b3
  refine zw_met zm_136_t rfl rfl ?_
  refine zw_ld (n := 1) (k := 0) (f := zp_isR) (pc' := 1) rfl rfl rfl rfl rfl ?_
  refine zw_ld (n := 1) (k := 1) (f := zp_isI) (pc' := 2) rfl rfl rfl rfl rfl ?_
  refine zw_ctn (pc' := 5) (c' := (1, 6)) (zw_cv (q := 0) (Y := zm_134) W.1 rfl rfl zm_134_t rfl rfl) (zw_pb_ok rfl) rfl rfl rfl rfl (yc_np1_3 hB hp) ?_
  refine zw_ld (n := 1) (k := 3) (f := zp_isI) (pc' := 6) rfl rfl rfl rfl rfl ?_
  refine zw_s (pc' := 7) rfl rfl ?_
  refine zw_ctn (pc' := 10) (c' := (2, 12)) (zw_cs (Y := zm_104) rfl rfl zm_104_t) (zw_pb_ok rfl) rfl rfl rfl rfl (yc_nw1 ⟨by decide, by decide⟩) ?_
  refine zw_ld (n := 1) (k := 2) (f := zp_isI) (pc' := 11) rfl rfl rfl rfl rfl ?_
  refine zw_ld (n := 1) (k := 0) (f := zp_isR) (pc' := 12) rfl rfl rfl rfl rfl ?_
  refine zw_gR (q := 0) (pc' := 15) W rfl rfl rfl rfl g6 rfl ?_
  refine zw_gI (q := 33) (pc' := 18) W rfl rfl rfl rfl rfl rfl ?_
  refine zw_s (pc' := 19) rfl rfl ?_
  refine zw_beq1 (g := 33) (pc' := 22) rfl rfl rfl rfl (fun h3 => ?_) (fun h3 => ?_)
  · refine zw_ld (n := 1) (k := 0) (f := zp_isR) (pc' := 34) rfl rfl rfl rfl rfl ?_
    refine zw_gR (q := 0) (pc' := 37) W rfl rfl rfl rfl (W.2 0 14 _ rfl) rfl ?_
    refine zw_ld (n := 1) (k := 0) (f := zp_isR) (pc' := 38) rfl rfl rfl rfl rfl ?_
    refine zw_gR (q := 0) (pc' := 41) W rfl rfl rfl rfl g5 rfl ?_
    refine zw_ld (n := 1) (k := 1) (f := zp_isI) (pc' := 42) rfl rfl rfl rfl rfl ?_
    refine zw_ld (n := 1) (k := 0) (f := zp_isR) (pc' := 43) rfl rfl rfl rfl rfl ?_
    refine zw_gR (q := 0) (pc' := 46) W rfl rfl rfl rfl (W.2 0 12 _ rfl) rfl ?_
    refine zw_ld (n := 1) (k := 0) (f := zp_isR) (pc' := 47) rfl rfl rfl rfl rfl ?_
    refine zw_gR (q := 0) (pc' := 50) W rfl rfl rfl rfl g5 rfl ?_
    refine zw_ld (n := 1) (k := 0) (f := zp_isR) (pc' := 51) rfl rfl rfl rfl rfl ?_
    refine zw_gR (q := 0) (pc' := 54) W rfl rfl rfl rfl g6 rfl ?_
    refine zw_ld (n := 1) (k := 2) (f := zp_isI) (pc' := 55) rfl rfl rfl rfl rfl ?_
    refine zw_c (pc' := 58) (zw_cv (q := 54) (Y := zm_23) W.1 rfl rfl zm_23_t rfl rfl) rfl rfl rfl rfl rfl (q1) ?_
    refine zw_cn (pc' := 61) (zw_cv (q := 56) (Y := zm_35) W1.1 rfl rfl zm_35_t rfl rfl) rfl rfl rfl rfl rfl (b1) ?_
    refine zw_ld (n := 1) (k := 3) (f := zp_isI) (pc' := 62) rfl rfl rfl rfl rfl ?_
    refine zw_s (pc' := 88) rfl rfl ?_
    refine zw_ld (n := 1) (k := 0) (f := zp_isR) (pc' := 89) rfl rfl rfl rfl rfl ?_
    refine zw_gR (q := 0) (pc' := 92) W2 rfl rfl rfl rfl (W2.2 0 14 _ rfl) rfl ?_
    refine zw_gR (q := 56) (pc' := 95) W2 rfl rfl rfl rfl (W2.2 56 0 _ rfl) rfl ?_
    refine zw_gI (q := 57) (pc' := 98) W2 rfl rfl rfl rfl rfl rfl ?_
    refine zw_rig rfl rfl ⟨by decide, by decide⟩ ?_
    exact ⟨K, x_rv b32, xFk_t q2 b2⟩
  · exact absurd hu h3

theorem yl_sai3_0 {L : Nat} {σ : Nat → Int32} {d : Nat} {H : zp_H} {x1 x2 : Int32} (hB : zk_Bs (zB_c 3) zg zJc H) {S : xSea} {CC : Nat → List xIt} (hS : xOk S) (hC : xSC 22 H S) (hCC : xCC 22 CC H) (hp : 0 ≤ x1.toInt ∧ x1.toInt < (H.2.1 22 12).toInt) (hpc : xIn S (H.2.1 27 x1.toInt.toNat).toInt) (hm : ∀ s : Nat, (s : Int) < (H.2.1 33 0).toInt → 0 ≤ (H.2.1 36 s).toInt ∧ (H.2.1 36 s).toInt ≤ 8) (hw : ∀ s : Nat, (s : Int) < (H.2.1 33 0).toInt → ∀ j, j < (H.2.1 36 s).toInt.toNat → -1 ≤ (H.2.1 38 (8 * s + j)).toInt ∧ (H.2.1 38 (8 * s + j)).toInt ≤ 3) (hc : ∀ s : Nat, (s : Int) < (H.2.1 33 0).toInt → xIn S (H.2.1 34 s).toInt) (hu : ((x2.toUInt32 >>> ((H.2.1 33 0).toUInt32 &&& Int32.toUInt32 31)).toInt32).toInt = 0) : ∃ K, zp_Call L σ (d + 8) 135 [.inr (.inr (some 1)), .inl x1, .inl x2, .inl (Int32.ofInt 0), .inr (.inr (some 105))] H (.inl (some (.inl (Int32.ofInt 0))), zw_J K 104 0 ((xPl S (H.2.1 22 11).toInt (fun c h => xWb (xVl S c h (xKn (fun s => xWk (xVyc S 33 H s)) x2 (H.2.1 33 0).toInt.toNat (Int32.ofInt 0) (Int64.ofNat 0))) (H.2.1 30) CC (H.2.1 22 16).toInt.toNat 0) 60 (H.2.1 27 x1.toInt.toNat) (H.2.1 28 x1.toInt.toNat) (xP0 S (H.2.1 22 11).toInt (H.2.1 27 x1.toInt.toNat))).2.2).toInt64) ∧ xFk H K := by
  obtain ⟨_, q1, K, rfl, q2⟩ := yc_sai3_0 (L := L) (σ := σ) (d := d) hB hS hC hCC hp hpc hm hw hc hu
  have W := zB_Wd (zB_dn (zB_Bc hB))
  have W1 := xFk_W q2 W
  refine ⟨K, zw_ex (zw_met zm_135_t rfl rfl ?_), q2⟩
  refine zw_ld (n := 2) (k := 4) (f := zp_isR) (pc' := 2) rfl rfl rfl rfl rfl ?_
  refine zw_s (pc' := 3) rfl rfl ?_
  refine zw_ld (n := 1) (k := 0) (f := zp_isR) (pc' := 4) rfl rfl rfl rfl rfl ?_
  refine zw_ld (n := 1) (k := 1) (f := zp_isI) (pc' := 5) rfl rfl rfl rfl rfl ?_
  refine zw_ld (n := 1) (k := 2) (f := zp_isI) (pc' := 6) rfl rfl rfl rfl rfl ?_
  refine zw_ld (n := 1) (k := 3) (f := zp_isI) (pc' := 7) rfl rfl rfl rfl rfl ?_
  refine zw_ct (pc' := 10) (c' := (3, 18)) (zw_cv (q := 0) (Y := zm_136) W.1 rfl rfl zm_136_t rfl rfl) (zw_pb_ok rfl) rfl rfl rfl rfl (q1) ?_
  refine zw_s (pc' := 11) rfl rfl ?_
  refine zw_ls (q := 104) (pc' := 12) W1 rfl rfl (⟨by decide, by decide⟩) rfl ?_
  refine zw_s (pc' := 23) rfl rfl ?_
  refine zw_s (pc' := 24) rfl rfl ?_
  refine zw_rig rfl rfl ⟨by decide, by decide⟩ ?_
  rfl

theorem yc_sai3_1 {L : Nat} {σ : Nat → Int32} {d : Nat} {H : zp_H} {x1 x2 : Int32} (hB : zk_Bs (zB_c 3) zg zJc H) {S : xSea} {CC : Nat → List xIt} (hS : xOk S) (hC : xSC 22 H S) (hCC : xCC 22 CC H) (hp : 0 ≤ x1.toInt ∧ x1.toInt < (H.2.1 22 12).toInt) (hpc : xIn S (H.2.1 27 x1.toInt.toNat).toInt) (hm : ∀ s : Nat, (s : Int) < (H.2.1 33 0).toInt → 0 ≤ (H.2.1 36 s).toInt ∧ (H.2.1 36 s).toInt ≤ 8) (hw : ∀ s : Nat, (s : Int) < (H.2.1 33 0).toInt → ∀ j, j < (H.2.1 36 s).toInt.toNat → -1 ≤ (H.2.1 38 (8 * s + j)).toInt ∧ (H.2.1 38 (8 * s + j)).toInt ≤ 3) (hc : ∀ s : Nat, (s : Int) < (H.2.1 33 0).toInt → xIn S (H.2.1 34 s).toInt) (hu : ((x2.toUInt32 >>> ((H.2.1 33 0).toUInt32 &&& Int32.toUInt32 31)).toInt32).toInt = 0) : ∃ X, zp_Call L σ (d + 7) 136 [.inr (.inr (some 1)), .inl x1, .inl x2, .inl (Int32.ofInt 1)] H X ∧ ∃ K, X = (.inl (some (.inl (xPl S (H.2.1 22 11).toInt (fun c h => xWb (xVl S c h (xKn (fun s => xWk (xVyc S 33 H s)) x2 (H.2.1 33 0).toInt.toNat (Int32.ofInt 0) (Int64.ofNat 0))) (H.2.1 30) CC (H.2.1 22 16).toInt.toNat 0) 60 (H.2.1 27 x1.toInt.toNat) (H.2.1 28 x1.toInt.toNat) (xP0 S (H.2.1 22 11).toInt (H.2.1 27 x1.toInt.toNat))).1)), K) ∧ xFk H K := by
  have W := zB_Wd (zB_dn (zB_Bc hB))
  have g5 : H.2.2.2 0 5 = some 23 := hB.2.1 0 5 _ rfl
  have g6 : H.2.2.2 0 6 = some 34 := hB.2.1 0 6 _ rfl
  have g7 : H.2.2.2 0 7 = some 3 := hB.2.1 0 7 _ rfl
  have g8 : H.2.2.2 0 8 = some 14 := hB.2.1 0 8 _ rfl
  have r33_0 := zB_fr1 (zB_dn (zB_Bc hB)) (p := 33) (k := 0) (r := (0, 8)) rfl
  have r33_0 : 0 ≤ (H.2.1 33 0).toInt ∧ (H.2.1 33 0).toInt ≤ 8 := r33_0
  have r22_12 := zB_fr1 (zB_dn (zB_Bc hB)) (p := 22) (k := 12) (r := (0, 4)) rfl
  have r22_12 : 0 ≤ (H.2.1 22 12).toInt ∧ (H.2.1 22 12).toInt ≤ 4 := r22_12
  obtain ⟨_, q1, H1, rfl, W1, q2⟩ := xh_kn22 (L := L) (σ := σ) (d := d) (set := x2) hS hC r33_0 hm hw hc W
  have f1 : ∀ p k, p < 54 → H1.2.1 p k = H.2.1 p k := fun p k hp9 => q2.2.2.1 p k (by omega)
  obtain ⟨_, b1, K, rfl, W2, b2, b3⟩ := xh_sb22 (L := L) (σ := σ) (d := d + 1) (p := x1) (u := (xKn (fun s => xWk (xVyc S 33 H s)) x2 (H.2.1 33 0).toInt.toNat (Int32.ofInt 0) (Int64.ofNat 0))) hS (xSC_v q2 ⟨by decide, by decide, by decide⟩ hC) (xCC_v (by decide) f1 hCC) W1 ⟨hp.1, by omega⟩ (by rw [f1 27 _ (by decide)]; exact hpc)
  rw [f1 27 _ (by decide), f1 28 _ (by decide), f1 22 11 (by decide), f1 22 16 (by decide), show H1.2.1 30 = H.2.1 30 from funext (fun k => f1 30 k (by decide))] at b3
  have b30 : K.2.1 57 0 = (xPl S (H.2.1 22 11).toInt (fun c h => xWb (xVl S c h (xKn (fun s => xWk (xVyc S 33 H s)) x2 (H.2.1 33 0).toInt.toNat (Int32.ofInt 0) (Int64.ofNat 0))) (H.2.1 30) CC (H.2.1 22 16).toInt.toNat 0) 60 (H.2.1 27 x1.toInt.toNat) (H.2.1 28 x1.toInt.toNat) (xP0 S (H.2.1 22 11).toInt (H.2.1 27 x1.toInt.toNat))).1 := congrArg Prod.fst b3
  have b31 : K.2.1 57 1 = (xPl S (H.2.1 22 11).toInt (fun c h => xWb (xVl S c h (xKn (fun s => xWk (xVyc S 33 H s)) x2 (H.2.1 33 0).toInt.toNat (Int32.ofInt 0) (Int64.ofNat 0))) (H.2.1 30) CC (H.2.1 22 16).toInt.toNat 0) 60 (H.2.1 27 x1.toInt.toNat) (H.2.1 28 x1.toInt.toNat) (xP0 S (H.2.1 22 11).toInt (H.2.1 27 x1.toInt.toNat))).2.1 := congrArg (fun z => z.2.1) b3
  have b32 : K.2.1 57 2 = (xPl S (H.2.1 22 11).toInt (fun c h => xWb (xVl S c h (xKn (fun s => xWk (xVyc S 33 H s)) x2 (H.2.1 33 0).toInt.toNat (Int32.ofInt 0) (Int64.ofNat 0))) (H.2.1 30) CC (H.2.1 22 16).toInt.toNat 0) 60 (H.2.1 27 x1.toInt.toNat) (H.2.1 28 x1.toInt.toNat) (xP0 S (H.2.1 22 11).toInt (H.2.1 27 x1.toInt.toNat))).2.2 := congrArg (fun z => z.2.2) b3
  refine zw_met zm_136_t rfl rfl ?_
  refine zw_ld (n := 1) (k := 0) (f := zp_isR) (pc' := 1) rfl rfl rfl rfl rfl ?_
  refine zw_ld (n := 1) (k := 1) (f := zp_isI) (pc' := 2) rfl rfl rfl rfl rfl ?_
  refine zw_ctn (pc' := 5) (c' := (1, 6)) (zw_cv (q := 0) (Y := zm_134) W.1 rfl rfl zm_134_t rfl rfl) (zw_pb_ok rfl) rfl rfl rfl rfl (yc_np1_3 hB hp) ?_
  refine zw_ld (n := 1) (k := 3) (f := zp_isI) (pc' := 6) rfl rfl rfl rfl rfl ?_
  refine zw_s (pc' := 7) rfl rfl ?_
  refine zw_ctn (pc' := 10) (c' := (2, 12)) (zw_cs (Y := zm_104) rfl rfl zm_104_t) (zw_pb_ok rfl) rfl rfl rfl rfl (yc_nw1 ⟨by decide, by decide⟩) ?_
  refine zw_ld (n := 1) (k := 2) (f := zp_isI) (pc' := 11) rfl rfl rfl rfl rfl ?_
  refine zw_ld (n := 1) (k := 0) (f := zp_isR) (pc' := 12) rfl rfl rfl rfl rfl ?_
  refine zw_gR (q := 0) (pc' := 15) W rfl rfl rfl rfl g6 rfl ?_
  refine zw_gI (q := 33) (pc' := 18) W rfl rfl rfl rfl rfl rfl ?_
  refine zw_s (pc' := 19) rfl rfl ?_
  refine zw_beq1 (g := 33) (pc' := 22) rfl rfl rfl rfl (fun h3 => ?_) (fun h3 => ?_)
  · refine zw_ld (n := 1) (k := 0) (f := zp_isR) (pc' := 34) rfl rfl rfl rfl rfl ?_
    refine zw_gR (q := 0) (pc' := 37) W rfl rfl rfl rfl (W.2 0 14 _ rfl) rfl ?_
    refine zw_ld (n := 1) (k := 0) (f := zp_isR) (pc' := 38) rfl rfl rfl rfl rfl ?_
    refine zw_gR (q := 0) (pc' := 41) W rfl rfl rfl rfl g5 rfl ?_
    refine zw_ld (n := 1) (k := 1) (f := zp_isI) (pc' := 42) rfl rfl rfl rfl rfl ?_
    refine zw_ld (n := 1) (k := 0) (f := zp_isR) (pc' := 43) rfl rfl rfl rfl rfl ?_
    refine zw_gR (q := 0) (pc' := 46) W rfl rfl rfl rfl (W.2 0 12 _ rfl) rfl ?_
    refine zw_ld (n := 1) (k := 0) (f := zp_isR) (pc' := 47) rfl rfl rfl rfl rfl ?_
    refine zw_gR (q := 0) (pc' := 50) W rfl rfl rfl rfl g5 rfl ?_
    refine zw_ld (n := 1) (k := 0) (f := zp_isR) (pc' := 51) rfl rfl rfl rfl rfl ?_
    refine zw_gR (q := 0) (pc' := 54) W rfl rfl rfl rfl g6 rfl ?_
    refine zw_ld (n := 1) (k := 2) (f := zp_isI) (pc' := 55) rfl rfl rfl rfl rfl ?_
    refine zw_c (pc' := 58) (zw_cv (q := 54) (Y := zm_23) W.1 rfl rfl zm_23_t rfl rfl) rfl rfl rfl rfl rfl (q1) ?_
    refine zw_cn (pc' := 61) (zw_cv (q := 56) (Y := zm_35) W1.1 rfl rfl zm_35_t rfl rfl) rfl rfl rfl rfl rfl (b1) ?_
    refine zw_ld (n := 1) (k := 3) (f := zp_isI) (pc' := 62) rfl rfl rfl rfl rfl ?_
    refine zw_s (pc' := 99) rfl rfl ?_
    refine zw_ld (n := 1) (k := 0) (f := zp_isR) (pc' := 100) rfl rfl rfl rfl rfl ?_
    refine zw_gR (q := 0) (pc' := 103) W2 rfl rfl rfl rfl (W2.2 0 14 _ rfl) rfl ?_
    refine zw_gR (q := 56) (pc' := 106) W2 rfl rfl rfl rfl (W2.2 56 0 _ rfl) rfl ?_
    refine zw_gI (q := 57) (pc' := 109) W2 rfl rfl rfl rfl rfl rfl ?_
    refine zw_rig rfl rfl ⟨by decide, by decide⟩ ?_
    exact ⟨K, x_rv b30, xFk_t q2 b2⟩
  · exact absurd hu h3

theorem yl_sai3_1 {L : Nat} {σ : Nat → Int32} {d : Nat} {H : zp_H} {x1 x2 : Int32} (hB : zk_Bs (zB_c 3) zg zJc H) {S : xSea} {CC : Nat → List xIt} (hS : xOk S) (hC : xSC 22 H S) (hCC : xCC 22 CC H) (hp : 0 ≤ x1.toInt ∧ x1.toInt < (H.2.1 22 12).toInt) (hpc : xIn S (H.2.1 27 x1.toInt.toNat).toInt) (hm : ∀ s : Nat, (s : Int) < (H.2.1 33 0).toInt → 0 ≤ (H.2.1 36 s).toInt ∧ (H.2.1 36 s).toInt ≤ 8) (hw : ∀ s : Nat, (s : Int) < (H.2.1 33 0).toInt → ∀ j, j < (H.2.1 36 s).toInt.toNat → -1 ≤ (H.2.1 38 (8 * s + j)).toInt ∧ (H.2.1 38 (8 * s + j)).toInt ≤ 3) (hc : ∀ s : Nat, (s : Int) < (H.2.1 33 0).toInt → xIn S (H.2.1 34 s).toInt) (hu : ((x2.toUInt32 >>> ((H.2.1 33 0).toUInt32 &&& Int32.toUInt32 31)).toInt32).toInt = 0) : ∃ K, zp_Call L σ (d + 8) 135 [.inr (.inr (some 1)), .inl x1, .inl x2, .inl (Int32.ofInt 1), .inr (.inr (some 105))] H (.inl (some (.inl (Int32.ofInt 0))), zw_J K 104 0 ((xPl S (H.2.1 22 11).toInt (fun c h => xWb (xVl S c h (xKn (fun s => xWk (xVyc S 33 H s)) x2 (H.2.1 33 0).toInt.toNat (Int32.ofInt 0) (Int64.ofNat 0))) (H.2.1 30) CC (H.2.1 22 16).toInt.toNat 0) 60 (H.2.1 27 x1.toInt.toNat) (H.2.1 28 x1.toInt.toNat) (xP0 S (H.2.1 22 11).toInt (H.2.1 27 x1.toInt.toNat))).1).toInt64) ∧ xFk H K := by
  obtain ⟨_, q1, K, rfl, q2⟩ := yc_sai3_1 (L := L) (σ := σ) (d := d) hB hS hC hCC hp hpc hm hw hc hu
  have W := zB_Wd (zB_dn (zB_Bc hB))
  have W1 := xFk_W q2 W
  refine ⟨K, zw_ex (zw_met zm_135_t rfl rfl ?_), q2⟩
  refine zw_ld (n := 2) (k := 4) (f := zp_isR) (pc' := 2) rfl rfl rfl rfl rfl ?_
  refine zw_s (pc' := 3) rfl rfl ?_
  refine zw_ld (n := 1) (k := 0) (f := zp_isR) (pc' := 4) rfl rfl rfl rfl rfl ?_
  refine zw_ld (n := 1) (k := 1) (f := zp_isI) (pc' := 5) rfl rfl rfl rfl rfl ?_
  refine zw_ld (n := 1) (k := 2) (f := zp_isI) (pc' := 6) rfl rfl rfl rfl rfl ?_
  refine zw_ld (n := 1) (k := 3) (f := zp_isI) (pc' := 7) rfl rfl rfl rfl rfl ?_
  refine zw_ct (pc' := 10) (c' := (3, 18)) (zw_cv (q := 0) (Y := zm_136) W.1 rfl rfl zm_136_t rfl rfl) (zw_pb_ok rfl) rfl rfl rfl rfl (q1) ?_
  refine zw_s (pc' := 11) rfl rfl ?_
  refine zw_ls (q := 104) (pc' := 12) W1 rfl rfl (⟨by decide, by decide⟩) rfl ?_
  refine zw_s (pc' := 23) rfl rfl ?_
  refine zw_s (pc' := 24) rfl rfl ?_
  refine zw_rig rfl rfl ⟨by decide, by decide⟩ ?_
  rfl

theorem yc_sai3_2 {L : Nat} {σ : Nat → Int32} {d : Nat} {H : zp_H} {x1 x2 : Int32} (hB : zk_Bs (zB_c 3) zg zJc H) {S : xSea} {CC : Nat → List xIt} (hS : xOk S) (hC : xSC 22 H S) (hCC : xCC 22 CC H) (hp : 0 ≤ x1.toInt ∧ x1.toInt < (H.2.1 22 12).toInt) (hpc : xIn S (H.2.1 27 x1.toInt.toNat).toInt) (hm : ∀ s : Nat, (s : Int) < (H.2.1 33 0).toInt → 0 ≤ (H.2.1 36 s).toInt ∧ (H.2.1 36 s).toInt ≤ 8) (hw : ∀ s : Nat, (s : Int) < (H.2.1 33 0).toInt → ∀ j, j < (H.2.1 36 s).toInt.toNat → -1 ≤ (H.2.1 38 (8 * s + j)).toInt ∧ (H.2.1 38 (8 * s + j)).toInt ≤ 3) (hc : ∀ s : Nat, (s : Int) < (H.2.1 33 0).toInt → xIn S (H.2.1 34 s).toInt) (hu : ((x2.toUInt32 >>> ((H.2.1 33 0).toUInt32 &&& Int32.toUInt32 31)).toInt32).toInt = 0) : ∃ X, zp_Call L σ (d + 7) 136 [.inr (.inr (some 1)), .inl x1, .inl x2, .inl (Int32.ofInt 2)] H X ∧ ∃ K, X = (.inl (some (.inl (xPl S (H.2.1 22 11).toInt (fun c h => xWb (xVl S c h (xKn (fun s => xWk (xVyc S 33 H s)) x2 (H.2.1 33 0).toInt.toNat (Int32.ofInt 0) (Int64.ofNat 0))) (H.2.1 30) CC (H.2.1 22 16).toInt.toNat 0) 60 (H.2.1 27 x1.toInt.toNat) (H.2.1 28 x1.toInt.toNat) (xP0 S (H.2.1 22 11).toInt (H.2.1 27 x1.toInt.toNat))).2.1)), K) ∧ xFk H K := by
  have W := zB_Wd (zB_dn (zB_Bc hB))
  have g5 : H.2.2.2 0 5 = some 23 := hB.2.1 0 5 _ rfl
  have g6 : H.2.2.2 0 6 = some 34 := hB.2.1 0 6 _ rfl
  have g7 : H.2.2.2 0 7 = some 3 := hB.2.1 0 7 _ rfl
  have g8 : H.2.2.2 0 8 = some 14 := hB.2.1 0 8 _ rfl
  have r33_0 := zB_fr1 (zB_dn (zB_Bc hB)) (p := 33) (k := 0) (r := (0, 8)) rfl
  have r33_0 : 0 ≤ (H.2.1 33 0).toInt ∧ (H.2.1 33 0).toInt ≤ 8 := r33_0
  have r22_12 := zB_fr1 (zB_dn (zB_Bc hB)) (p := 22) (k := 12) (r := (0, 4)) rfl
  have r22_12 : 0 ≤ (H.2.1 22 12).toInt ∧ (H.2.1 22 12).toInt ≤ 4 := r22_12
  obtain ⟨_, q1, H1, rfl, W1, q2⟩ := xh_kn22 (L := L) (σ := σ) (d := d) (set := x2) hS hC r33_0 hm hw hc W
  have f1 : ∀ p k, p < 54 → H1.2.1 p k = H.2.1 p k := fun p k hp9 => q2.2.2.1 p k (by omega)
  obtain ⟨_, b1, K, rfl, W2, b2, b3⟩ := xh_sb22 (L := L) (σ := σ) (d := d + 1) (p := x1) (u := (xKn (fun s => xWk (xVyc S 33 H s)) x2 (H.2.1 33 0).toInt.toNat (Int32.ofInt 0) (Int64.ofNat 0))) hS (xSC_v q2 ⟨by decide, by decide, by decide⟩ hC) (xCC_v (by decide) f1 hCC) W1 ⟨hp.1, by omega⟩ (by rw [f1 27 _ (by decide)]; exact hpc)
  rw [f1 27 _ (by decide), f1 28 _ (by decide), f1 22 11 (by decide), f1 22 16 (by decide), show H1.2.1 30 = H.2.1 30 from funext (fun k => f1 30 k (by decide))] at b3
  have b30 : K.2.1 57 0 = (xPl S (H.2.1 22 11).toInt (fun c h => xWb (xVl S c h (xKn (fun s => xWk (xVyc S 33 H s)) x2 (H.2.1 33 0).toInt.toNat (Int32.ofInt 0) (Int64.ofNat 0))) (H.2.1 30) CC (H.2.1 22 16).toInt.toNat 0) 60 (H.2.1 27 x1.toInt.toNat) (H.2.1 28 x1.toInt.toNat) (xP0 S (H.2.1 22 11).toInt (H.2.1 27 x1.toInt.toNat))).1 := congrArg Prod.fst b3
  have b31 : K.2.1 57 1 = (xPl S (H.2.1 22 11).toInt (fun c h => xWb (xVl S c h (xKn (fun s => xWk (xVyc S 33 H s)) x2 (H.2.1 33 0).toInt.toNat (Int32.ofInt 0) (Int64.ofNat 0))) (H.2.1 30) CC (H.2.1 22 16).toInt.toNat 0) 60 (H.2.1 27 x1.toInt.toNat) (H.2.1 28 x1.toInt.toNat) (xP0 S (H.2.1 22 11).toInt (H.2.1 27 x1.toInt.toNat))).2.1 := congrArg (fun z => z.2.1) b3
  have b32 : K.2.1 57 2 = (xPl S (H.2.1 22 11).toInt (fun c h => xWb (xVl S c h (xKn (fun s => xWk (xVyc S 33 H s)) x2 (H.2.1 33 0).toInt.toNat (Int32.ofInt 0) (Int64.ofNat 0))) (H.2.1 30) CC (H.2.1 22 16).toInt.toNat 0) 60 (H.2.1 27 x1.toInt.toNat) (H.2.1 28 x1.toInt.toNat) (xP0 S (H.2.1 22 11).toInt (H.2.1 27 x1.toInt.toNat))).2.2 := congrArg (fun z => z.2.2) b3
  refine zw_met zm_136_t rfl rfl ?_
  refine zw_ld (n := 1) (k := 0) (f := zp_isR) (pc' := 1) rfl rfl rfl rfl rfl ?_
  refine zw_ld (n := 1) (k := 1) (f := zp_isI) (pc' := 2) rfl rfl rfl rfl rfl ?_
  refine zw_ctn (pc' := 5) (c' := (1, 6)) (zw_cv (q := 0) (Y := zm_134) W.1 rfl rfl zm_134_t rfl rfl) (zw_pb_ok rfl) rfl rfl rfl rfl (yc_np1_3 hB hp) ?_
  refine zw_ld (n := 1) (k := 3) (f := zp_isI) (pc' := 6) rfl rfl rfl rfl rfl ?_
  refine zw_s (pc' := 7) rfl rfl ?_
  refine zw_ctn (pc' := 10) (c' := (2, 12)) (zw_cs (Y := zm_104) rfl rfl zm_104_t) (zw_pb_ok rfl) rfl rfl rfl rfl (yc_nw1 ⟨by decide, by decide⟩) ?_
  refine zw_ld (n := 1) (k := 2) (f := zp_isI) (pc' := 11) rfl rfl rfl rfl rfl ?_
  refine zw_ld (n := 1) (k := 0) (f := zp_isR) (pc' := 12) rfl rfl rfl rfl rfl ?_
  refine zw_gR (q := 0) (pc' := 15) W rfl rfl rfl rfl g6 rfl ?_
  refine zw_gI (q := 33) (pc' := 18) W rfl rfl rfl rfl rfl rfl ?_
  refine zw_s (pc' := 19) rfl rfl ?_
  refine zw_beq1 (g := 33) (pc' := 22) rfl rfl rfl rfl (fun h3 => ?_) (fun h3 => ?_)
  · refine zw_ld (n := 1) (k := 0) (f := zp_isR) (pc' := 34) rfl rfl rfl rfl rfl ?_
    refine zw_gR (q := 0) (pc' := 37) W rfl rfl rfl rfl (W.2 0 14 _ rfl) rfl ?_
    refine zw_ld (n := 1) (k := 0) (f := zp_isR) (pc' := 38) rfl rfl rfl rfl rfl ?_
    refine zw_gR (q := 0) (pc' := 41) W rfl rfl rfl rfl g5 rfl ?_
    refine zw_ld (n := 1) (k := 1) (f := zp_isI) (pc' := 42) rfl rfl rfl rfl rfl ?_
    refine zw_ld (n := 1) (k := 0) (f := zp_isR) (pc' := 43) rfl rfl rfl rfl rfl ?_
    refine zw_gR (q := 0) (pc' := 46) W rfl rfl rfl rfl (W.2 0 12 _ rfl) rfl ?_
    refine zw_ld (n := 1) (k := 0) (f := zp_isR) (pc' := 47) rfl rfl rfl rfl rfl ?_
    refine zw_gR (q := 0) (pc' := 50) W rfl rfl rfl rfl g5 rfl ?_
    refine zw_ld (n := 1) (k := 0) (f := zp_isR) (pc' := 51) rfl rfl rfl rfl rfl ?_
    refine zw_gR (q := 0) (pc' := 54) W rfl rfl rfl rfl g6 rfl ?_
    refine zw_ld (n := 1) (k := 2) (f := zp_isI) (pc' := 55) rfl rfl rfl rfl rfl ?_
    refine zw_c (pc' := 58) (zw_cv (q := 54) (Y := zm_23) W.1 rfl rfl zm_23_t rfl rfl) rfl rfl rfl rfl rfl (q1) ?_
    refine zw_cn (pc' := 61) (zw_cv (q := 56) (Y := zm_35) W1.1 rfl rfl zm_35_t rfl rfl) rfl rfl rfl rfl rfl (b1) ?_
    refine zw_ld (n := 1) (k := 3) (f := zp_isI) (pc' := 62) rfl rfl rfl rfl rfl ?_
    refine zw_s (pc' := 110) rfl rfl ?_
    refine zw_ld (n := 1) (k := 0) (f := zp_isR) (pc' := 111) rfl rfl rfl rfl rfl ?_
    refine zw_gR (q := 0) (pc' := 114) W2 rfl rfl rfl rfl (W2.2 0 14 _ rfl) rfl ?_
    refine zw_gR (q := 56) (pc' := 117) W2 rfl rfl rfl rfl (W2.2 56 0 _ rfl) rfl ?_
    refine zw_gI (q := 57) (pc' := 120) W2 rfl rfl rfl rfl rfl rfl ?_
    refine zw_rig rfl rfl ⟨by decide, by decide⟩ ?_
    exact ⟨K, x_rv b31, xFk_t q2 b2⟩
  · exact absurd hu h3

theorem yl_sai3_2 {L : Nat} {σ : Nat → Int32} {d : Nat} {H : zp_H} {x1 x2 : Int32} (hB : zk_Bs (zB_c 3) zg zJc H) {S : xSea} {CC : Nat → List xIt} (hS : xOk S) (hC : xSC 22 H S) (hCC : xCC 22 CC H) (hp : 0 ≤ x1.toInt ∧ x1.toInt < (H.2.1 22 12).toInt) (hpc : xIn S (H.2.1 27 x1.toInt.toNat).toInt) (hm : ∀ s : Nat, (s : Int) < (H.2.1 33 0).toInt → 0 ≤ (H.2.1 36 s).toInt ∧ (H.2.1 36 s).toInt ≤ 8) (hw : ∀ s : Nat, (s : Int) < (H.2.1 33 0).toInt → ∀ j, j < (H.2.1 36 s).toInt.toNat → -1 ≤ (H.2.1 38 (8 * s + j)).toInt ∧ (H.2.1 38 (8 * s + j)).toInt ≤ 3) (hc : ∀ s : Nat, (s : Int) < (H.2.1 33 0).toInt → xIn S (H.2.1 34 s).toInt) (hu : ((x2.toUInt32 >>> ((H.2.1 33 0).toUInt32 &&& Int32.toUInt32 31)).toInt32).toInt = 0) : ∃ K, zp_Call L σ (d + 8) 135 [.inr (.inr (some 1)), .inl x1, .inl x2, .inl (Int32.ofInt 2), .inr (.inr (some 105))] H (.inl (some (.inl (Int32.ofInt 0))), zw_J K 104 0 ((xPl S (H.2.1 22 11).toInt (fun c h => xWb (xVl S c h (xKn (fun s => xWk (xVyc S 33 H s)) x2 (H.2.1 33 0).toInt.toNat (Int32.ofInt 0) (Int64.ofNat 0))) (H.2.1 30) CC (H.2.1 22 16).toInt.toNat 0) 60 (H.2.1 27 x1.toInt.toNat) (H.2.1 28 x1.toInt.toNat) (xP0 S (H.2.1 22 11).toInt (H.2.1 27 x1.toInt.toNat))).2.1).toInt64) ∧ xFk H K := by
  obtain ⟨_, q1, K, rfl, q2⟩ := yc_sai3_2 (L := L) (σ := σ) (d := d) hB hS hC hCC hp hpc hm hw hc hu
  have W := zB_Wd (zB_dn (zB_Bc hB))
  have W1 := xFk_W q2 W
  refine ⟨K, zw_ex (zw_met zm_135_t rfl rfl ?_), q2⟩
  refine zw_ld (n := 2) (k := 4) (f := zp_isR) (pc' := 2) rfl rfl rfl rfl rfl ?_
  refine zw_s (pc' := 3) rfl rfl ?_
  refine zw_ld (n := 1) (k := 0) (f := zp_isR) (pc' := 4) rfl rfl rfl rfl rfl ?_
  refine zw_ld (n := 1) (k := 1) (f := zp_isI) (pc' := 5) rfl rfl rfl rfl rfl ?_
  refine zw_ld (n := 1) (k := 2) (f := zp_isI) (pc' := 6) rfl rfl rfl rfl rfl ?_
  refine zw_ld (n := 1) (k := 3) (f := zp_isI) (pc' := 7) rfl rfl rfl rfl rfl ?_
  refine zw_ct (pc' := 10) (c' := (3, 18)) (zw_cv (q := 0) (Y := zm_136) W.1 rfl rfl zm_136_t rfl rfl) (zw_pb_ok rfl) rfl rfl rfl rfl (q1) ?_
  refine zw_s (pc' := 11) rfl rfl ?_
  refine zw_ls (q := 104) (pc' := 12) W1 rfl rfl (⟨by decide, by decide⟩) rfl ?_
  refine zw_s (pc' := 23) rfl rfl ?_
  refine zw_s (pc' := 24) rfl rfl ?_
  refine zw_rig rfl rfl ⟨by decide, by decide⟩ ?_
  rfl

theorem yc_sain3 {L : Nat} {σ : Nat → Int32} {d : Nat} {H : zp_H} {x1 x2 x3 : Int32} (hB : zk_Bs (zB_c 3) zg zJc H) (h : ¬ ((0 ≤ x1.toInt ∧ x1.toInt < (H.2.1 22 12).toInt) ∧ 0 ≤ x3.toInt ∧ x3.toInt ≤ (Int32.ofInt 2).toInt)) : zp_Call L σ (d + 2) 136 [.inr (.inr (some 1)), .inl x1, .inl x2, .inl x3] H (.inr 0, H) := by
  have W := zB_Wd (zB_dn (zB_Bc hB))
  have g5 : H.2.2.2 0 5 = some 23 := hB.2.1 0 5 _ rfl
  have g6 : H.2.2.2 0 6 = some 34 := hB.2.1 0 6 _ rfl
  have g7 : H.2.2.2 0 7 = some 3 := hB.2.1 0 7 _ rfl
  have g8 : H.2.2.2 0 8 = some 14 := hB.2.1 0 8 _ rfl
  refine zw_ex (zw_met zm_136_t rfl rfl ?_)
  refine zw_ld (n := 1) (k := 0) (f := zp_isR) (pc' := 1) rfl rfl rfl rfl rfl ?_
  refine zw_ld (n := 1) (k := 1) (f := zp_isI) (pc' := 2) rfl rfl rfl rfl rfl ?_
  by_cases h1 : 0 ≤ x1.toInt ∧ x1.toInt < (H.2.1 22 12).toInt
  · refine zw_ctn (pc' := 5) (c' := (1, 6)) (zw_cv (q := 0) (Y := zm_134) W.1 rfl rfl zm_134_t rfl rfl) (zw_pb_ok rfl) rfl rfl rfl rfl (yc_np1_3 hB h1) ?_
    refine zw_ld (n := 1) (k := 3) (f := zp_isI) (pc' := 6) rfl rfl rfl rfl rfl ?_
    refine zw_s (pc' := 7) rfl rfl ?_
    refine zw_cthr (ex := 0) (zw_cs (Y := zm_104) rfl rfl zm_104_t) (zw_pb_ok rfl) rfl rfl (yc_nw0 (fun h9 => h ⟨h1, h9⟩)) ?_
    rfl
  · refine zw_cthr (ex := 0) (zw_cv (q := 0) (Y := zm_134) W.1 rfl rfl zm_134_t rfl rfl) (zw_pb_ok rfl) rfl rfl (yc_np0_3 hB h1) ?_
    rfl

theorem yl_sain3 {L : Nat} {σ : Nat → Int32} {d : Nat} {H : zp_H} {x1 x2 x3 : Int32} (hB : zk_Bs (zB_c 3) zg zJc H) (h : ¬ ((0 ≤ x1.toInt ∧ x1.toInt < (H.2.1 22 12).toInt) ∧ 0 ≤ x3.toInt ∧ x3.toInt ≤ (Int32.ofInt 2).toInt)) : zp_Call L σ (d + 3) 135 [.inr (.inr (some 1)), .inl x1, .inl x2, .inl x3, .inr (.inr (some 105))] H (.inl (some (.inl (Int32.ofInt 1))), H) := by
  have W := zB_Wd (zB_dn (zB_Bc hB))
  refine zw_ex (zw_met zm_135_t rfl rfl ?_)
  refine zw_ld (n := 2) (k := 4) (f := zp_isR) (pc' := 2) rfl rfl rfl rfl rfl ?_
  refine zw_s (pc' := 3) rfl rfl ?_
  refine zw_ld (n := 1) (k := 0) (f := zp_isR) (pc' := 4) rfl rfl rfl rfl rfl ?_
  refine zw_ld (n := 1) (k := 1) (f := zp_isI) (pc' := 5) rfl rfl rfl rfl rfl ?_
  refine zw_ld (n := 1) (k := 2) (f := zp_isI) (pc' := 6) rfl rfl rfl rfl rfl ?_
  refine zw_ld (n := 1) (k := 3) (f := zp_isI) (pc' := 7) rfl rfl rfl rfl rfl ?_
  refine zw_cexw (ex := 0) (hp9 := 15) (k9 := 5) (pc' := 17) (c' := (3, 18)) (zw_cv (q := 0) (Y := zm_136) W.1 rfl rfl zm_136_t rfl rfl) (zw_pb_ok rfl) rfl rfl rfl rfl rfl rfl rfl (yc_sain3 hB h) ?_
  refine zw_s (pc' := 18) rfl rfl ?_
  refine zw_rig rfl rfl ⟨by decide, by decide⟩ ?_
  rfl

theorem yc_saii3 {L : Nat} {σ : Nat → Int32} {d : Nat} {H : zp_H} {x1 x2 x3 : Int32} (hB : zk_Bs (zB_c 3) zg zJc H) (h1 : 0 ≤ x1.toInt ∧ x1.toInt < (H.2.1 22 12).toInt) (h3 : 0 ≤ x3.toInt ∧ x3.toInt ≤ (Int32.ofInt 2).toInt) (hu : ¬ ((x2.toUInt32 >>> ((H.2.1 33 0).toUInt32 &&& Int32.toUInt32 31)).toInt32).toInt = 0) : zp_Call L σ (d + 2) 136 [.inr (.inr (some 1)), .inl x1, .inl x2, .inl x3] H (.inr 1, H) := by
  have W := zB_Wd (zB_dn (zB_Bc hB))
  have g5 : H.2.2.2 0 5 = some 23 := hB.2.1 0 5 _ rfl
  have g6 : H.2.2.2 0 6 = some 34 := hB.2.1 0 6 _ rfl
  have g7 : H.2.2.2 0 7 = some 3 := hB.2.1 0 7 _ rfl
  have g8 : H.2.2.2 0 8 = some 14 := hB.2.1 0 8 _ rfl
  refine zw_ex (zw_met zm_136_t rfl rfl ?_)
  refine zw_ld (n := 1) (k := 0) (f := zp_isR) (pc' := 1) rfl rfl rfl rfl rfl ?_
  refine zw_ld (n := 1) (k := 1) (f := zp_isI) (pc' := 2) rfl rfl rfl rfl rfl ?_
  refine zw_ctn (pc' := 5) (c' := (1, 6)) (zw_cv (q := 0) (Y := zm_134) W.1 rfl rfl zm_134_t rfl rfl) (zw_pb_ok rfl) rfl rfl rfl rfl (yc_np1_3 hB h1) ?_
  refine zw_ld (n := 1) (k := 3) (f := zp_isI) (pc' := 6) rfl rfl rfl rfl rfl ?_
  refine zw_s (pc' := 7) rfl rfl ?_
  refine zw_ctn (pc' := 10) (c' := (2, 12)) (zw_cs (Y := zm_104) rfl rfl zm_104_t) (zw_pb_ok rfl) rfl rfl rfl rfl (yc_nw1 h3) ?_
  refine zw_ld (n := 1) (k := 2) (f := zp_isI) (pc' := 11) rfl rfl rfl rfl rfl ?_
  refine zw_ld (n := 1) (k := 0) (f := zp_isR) (pc' := 12) rfl rfl rfl rfl rfl ?_
  refine zw_gR (q := 0) (pc' := 15) W rfl rfl rfl rfl g6 rfl ?_
  refine zw_gI (q := 33) (pc' := 18) W rfl rfl rfl rfl rfl rfl ?_
  refine zw_s (pc' := 19) rfl rfl ?_
  refine zw_beq1 (g := 33) (pc' := 22) rfl rfl rfl rfl (fun h4 => ?_) (fun h4 => ?_)
  · exact absurd h4 hu
  · exact zs_end (S := (22, _, [], H, (2, 12))) (X := (.inr 1, H)) rfl rfl rfl

theorem yl_saii3 {L : Nat} {σ : Nat → Int32} {d : Nat} {H : zp_H} {x1 x2 x3 : Int32} (hB : zk_Bs (zB_c 3) zg zJc H) (h1 : 0 ≤ x1.toInt ∧ x1.toInt < (H.2.1 22 12).toInt) (h3 : 0 ≤ x3.toInt ∧ x3.toInt ≤ (Int32.ofInt 2).toInt) (hu : ¬ ((x2.toUInt32 >>> ((H.2.1 33 0).toUInt32 &&& Int32.toUInt32 31)).toInt32).toInt = 0) : zp_Call L σ (d + 3) 135 [.inr (.inr (some 1)), .inl x1, .inl x2, .inl x3, .inr (.inr (some 105))] H (.inl (some (.inl (Int32.ofInt 2))), H) := by
  have W := zB_Wd (zB_dn (zB_Bc hB))
  refine zw_ex (zw_met zm_135_t rfl rfl ?_)
  refine zw_ld (n := 2) (k := 4) (f := zp_isR) (pc' := 2) rfl rfl rfl rfl rfl ?_
  refine zw_s (pc' := 3) rfl rfl ?_
  refine zw_ld (n := 1) (k := 0) (f := zp_isR) (pc' := 4) rfl rfl rfl rfl rfl ?_
  refine zw_ld (n := 1) (k := 1) (f := zp_isI) (pc' := 5) rfl rfl rfl rfl rfl ?_
  refine zw_ld (n := 1) (k := 2) (f := zp_isI) (pc' := 6) rfl rfl rfl rfl rfl ?_
  refine zw_ld (n := 1) (k := 3) (f := zp_isI) (pc' := 7) rfl rfl rfl rfl rfl ?_
  refine zw_cexw (ex := 1) (hp9 := 19) (k9 := 5) (pc' := 21) (c' := (3, 18)) (zw_cv (q := 0) (Y := zm_136) W.1 rfl rfl zm_136_t rfl rfl) (zw_pb_ok rfl) rfl rfl rfl rfl rfl rfl rfl (yc_saii3 hB h1 h3 hu) ?_
  refine zw_s (pc' := 22) rfl rfl ?_
  refine zw_rig rfl rfl ⟨by decide, by decide⟩ ?_
  rfl

theorem xSR_06 {H : zp_H} {S : xSea} {x : Int32} (h : xSR H S) : xSR (zw_I H 72 0 x) S := ⟨(congrArg Int32.toInt (zw_ne rfl rfl)).trans h.1, (congrArg Int32.toInt (zw_ne rfl rfl)).trans h.2.1, h.2.2.1, fun k hk => (congrArg Int32.toInt (zw_ne rfl rfl)).trans (h.2.2.2 k hk)⟩

theorem yr_ip1 {L : Nat} {σ : Nat → Int32} {d : Nat} {H : zp_H} (W : zw_W H) {x : Int32} (h0 : (H.2.1 72 0).toInt = 0) (h : (0 ≤ x.toInt ∧ x.toInt < (H.2.1 72 7).toInt)) : zp_Call L σ (d + 2) 228 [.inr (.inr (some 73)), .inl x] H (.inl (some (.inl (Int32.ofInt 1))), H) := by
  refine zw_ex (zw_met zm_228_t rfl rfl ?_)
  refine zw_ld (n := 1) (k := 0) (f := zp_isR) (pc' := 1) rfl rfl rfl rfl rfl ?_
  refine zw_ld (n := 1) (k := 1) (f := zp_isI) (pc' := 2) rfl rfl rfl rfl rfl ?_
  refine zw_blt1 (g := 17) (pc' := 5) rfl rfl rfl rfl (fun h1 => ?_) (fun h1 => ?_)
  · omega
  · refine zw_ld (n := 1) (k := 1) (f := zp_isI) (pc' := 6) rfl rfl rfl rfl rfl ?_
    refine zw_ld (n := 1) (k := 0) (f := zp_isR) (pc' := 7) rfl rfl rfl rfl rfl ?_
    refine zw_gI (q := 72) (pc' := 10) W rfl rfl rfl rfl rfl rfl ?_
    refine zw_bge2 (g := 17) (pc' := 13) rfl rfl rfl rfl rfl (fun h2 => ?_) (fun h2 => ?_)
    · omega
    · refine zw_s (pc' := 14) rfl rfl ?_
      refine zw_s (pc' := 18) rfl rfl ?_
      refine zw_s (pc' := 19) rfl rfl ?_
      refine zw_c (pc' := 22) (zw_cv (q := 72) (Y := zm_170) W.1 rfl rfl zm_170_t rfl rfl) rfl rfl rfl rfl rfl (zq_right1 W h0) ?_
      refine zw_rz rfl rfl (by decide) ?_
      rfl

theorem yr_ip0 {L : Nat} {σ : Nat → Int32} {d : Nat} {H : zp_H} (W : zw_W H) {x : Int32} (h0 : (H.2.1 72 0).toInt = 0) (h : ¬ (0 ≤ x.toInt ∧ x.toInt < (H.2.1 72 7).toInt)) : zp_Call L σ (d + 2) 228 [.inr (.inr (some 73)), .inl x] H (.inl (some (.inl (Int32.ofInt 0))), zw_I H 72 0 (Int32.ofInt 1)) := by
  refine zw_ex (zw_met zm_228_t rfl rfl ?_)
  refine zw_ld (n := 1) (k := 0) (f := zp_isR) (pc' := 1) rfl rfl rfl rfl rfl ?_
  refine zw_ld (n := 1) (k := 1) (f := zp_isI) (pc' := 2) rfl rfl rfl rfl rfl ?_
  refine zw_blt1 (g := 17) (pc' := 5) rfl rfl rfl rfl (fun h1 => ?_) (fun h1 => ?_)
  · refine zw_s (pc' := 18) rfl rfl ?_
    refine zw_s (pc' := 19) rfl rfl ?_
    refine zw_c (pc' := 22) (zw_cv (q := 72) (Y := zm_170) W.1 rfl rfl zm_170_t rfl rfl) rfl rfl rfl rfl rfl (zq_right0 W h0 (by decide)) ?_
    refine zw_rz rfl rfl (by decide) ?_
    rfl
  · refine zw_ld (n := 1) (k := 1) (f := zp_isI) (pc' := 6) rfl rfl rfl rfl rfl ?_
    refine zw_ld (n := 1) (k := 0) (f := zp_isR) (pc' := 7) rfl rfl rfl rfl rfl ?_
    refine zw_gI (q := 72) (pc' := 10) W rfl rfl rfl rfl rfl rfl ?_
    refine zw_bge2 (g := 17) (pc' := 13) rfl rfl rfl rfl rfl (fun h2 => ?_) (fun h2 => ?_)
    · refine zw_s (pc' := 18) rfl rfl ?_
      refine zw_s (pc' := 19) rfl rfl ?_
      refine zw_c (pc' := 22) (zw_cv (q := 72) (Y := zm_170) W.1 rfl rfl zm_170_t rfl rfl) rfl rfl rfl rfl rfl (zq_right0 W h0 (by decide)) ?_
      refine zw_rz rfl rfl (by decide) ?_
      rfl
    · omega

theorem yr_sai0 {L : Nat} {σ : Nat → Int32} {d : Nat} {H : zp_H} {x1 x2 : Int32} (W : zw_W H) {S : xSea} {CC : Nat → List xIt} (hS : xOk S) (hR : xSR H S) (hCR : xCR CC (zw_I H 72 0 (Int32.ofInt 0))) (hp : 0 ≤ x1.toInt ∧ x1.toInt < (H.2.1 72 7).toInt) (hp4 : x1.toInt < 4) (hpc : xIn S ((zw_I H 72 0 (Int32.ofInt 0)).2.1 77 (3 * x1.toInt.toNat)).toInt) (hn0 : 0 ≤ ((zw_I H 72 0 (Int32.ofInt 0)).2.1 72 5).toInt ∧ ((zw_I H 72 0 (Int32.ofInt 0)).2.1 72 5).toInt ≤ 8) (hm : ∀ s : Nat, (s : Int) < ((zw_I H 72 0 (Int32.ofInt 0)).2.1 72 5).toInt → 0 ≤ ((zw_I H 72 0 (Int32.ofInt 0)).2.1 74 (4 * s + 2)).toInt ∧ ((zw_I H 72 0 (Int32.ofInt 0)).2.1 74 (4 * s + 2)).toInt ≤ 8) (hc : ∀ s : Nat, (s : Int) < ((zw_I H 72 0 (Int32.ofInt 0)).2.1 72 5).toInt → xIn S ((zw_I H 72 0 (Int32.ofInt 0)).2.1 74 (4 * s)).toInt) (hu : 0 ≤ x2.toInt ∧ x2.toInt < (Int32.ofInt 1 <<< (H.2.1 72 5 &&& 31)).toInt) : ∃ X, zp_Call L σ (d + 6) 229 [.inr (.inr (some 73)), .inl x1, .inl x2, .inl (Int32.ofInt 0)] H X ∧ ∃ K, X = (.inl (some (.inl (xPl S ((zw_I H 72 0 (Int32.ofInt 0)).2.1 72 11).toInt (fun c h => xWb (xVl S c h (xKn (fun s => xWk (xVyr S (zw_I H 72 0 (Int32.ofInt 0)) s)) x2 ((zw_I H 72 0 (Int32.ofInt 0)).2.1 72 5).toInt.toNat (Int32.ofInt 0) (Int64.ofNat 0))) ((zw_I H 72 0 (Int32.ofInt 0)).2.1 79) CC ((zw_I H 72 0 (Int32.ofInt 0)).2.1 72 8).toInt.toNat 0) 60 ((zw_I H 72 0 (Int32.ofInt 0)).2.1 77 (3 * x1.toInt.toNat)) ((zw_I H 72 0 (Int32.ofInt 0)).2.1 77 (3 * x1.toInt.toNat + 1)) (xP0 S ((zw_I H 72 0 (Int32.ofInt 0)).2.1 72 11).toInt ((zw_I H 72 0 (Int32.ofInt 0)).2.1 77 (3 * x1.toInt.toNat)))).2.2)), K) ∧ xFp (zw_I H 72 0 (Int32.ofInt 0)) K := by
  have h0 : ((zw_I H 72 0 (Int32.ofInt 0)).2.1 72 0).toInt = 0 := congrArg Int32.toInt zw_eq
  have e7 : (zw_I H 72 0 (Int32.ofInt 0)).2.1 72 7 = H.2.1 72 7 := zw_ne rfl rfl
  have e5 : (zw_I H 72 0 (Int32.ofInt 0)).2.1 72 5 = H.2.1 72 5 := zw_ne rfl rfl
  obtain ⟨_, q1, K, rfl, W1, q2, q3⟩ := xr_pl (L := L) (σ := σ) (d := d) (p := x1) (set := x2) (H0 := (zw_I H 72 0 (Int32.ofInt 0))) hS (xSR_06 hR) hCR hn0 hm hc (zw_W_I W) ⟨hp.1, hp4⟩ hpc
  have b30 : K.2.1 72 64 = (xPl S ((zw_I H 72 0 (Int32.ofInt 0)).2.1 72 11).toInt (fun c h => xWb (xVl S c h (xKn (fun s => xWk (xVyr S (zw_I H 72 0 (Int32.ofInt 0)) s)) x2 ((zw_I H 72 0 (Int32.ofInt 0)).2.1 72 5).toInt.toNat (Int32.ofInt 0) (Int64.ofNat 0))) ((zw_I H 72 0 (Int32.ofInt 0)).2.1 79) CC ((zw_I H 72 0 (Int32.ofInt 0)).2.1 72 8).toInt.toNat 0) 60 ((zw_I H 72 0 (Int32.ofInt 0)).2.1 77 (3 * x1.toInt.toNat)) ((zw_I H 72 0 (Int32.ofInt 0)).2.1 77 (3 * x1.toInt.toNat + 1)) (xP0 S ((zw_I H 72 0 (Int32.ofInt 0)).2.1 72 11).toInt ((zw_I H 72 0 (Int32.ofInt 0)).2.1 77 (3 * x1.toInt.toNat)))).1 := congrArg Prod.fst q3
  have b31 : K.2.1 72 69 = (xPl S ((zw_I H 72 0 (Int32.ofInt 0)).2.1 72 11).toInt (fun c h => xWb (xVl S c h (xKn (fun s => xWk (xVyr S (zw_I H 72 0 (Int32.ofInt 0)) s)) x2 ((zw_I H 72 0 (Int32.ofInt 0)).2.1 72 5).toInt.toNat (Int32.ofInt 0) (Int64.ofNat 0))) ((zw_I H 72 0 (Int32.ofInt 0)).2.1 79) CC ((zw_I H 72 0 (Int32.ofInt 0)).2.1 72 8).toInt.toNat 0) 60 ((zw_I H 72 0 (Int32.ofInt 0)).2.1 77 (3 * x1.toInt.toNat)) ((zw_I H 72 0 (Int32.ofInt 0)).2.1 77 (3 * x1.toInt.toNat + 1)) (xP0 S ((zw_I H 72 0 (Int32.ofInt 0)).2.1 72 11).toInt ((zw_I H 72 0 (Int32.ofInt 0)).2.1 77 (3 * x1.toInt.toNat)))).2.1 := congrArg (fun z => z.2.1) q3
  have b32 : K.2.1 72 66 = (xPl S ((zw_I H 72 0 (Int32.ofInt 0)).2.1 72 11).toInt (fun c h => xWb (xVl S c h (xKn (fun s => xWk (xVyr S (zw_I H 72 0 (Int32.ofInt 0)) s)) x2 ((zw_I H 72 0 (Int32.ofInt 0)).2.1 72 5).toInt.toNat (Int32.ofInt 0) (Int64.ofNat 0))) ((zw_I H 72 0 (Int32.ofInt 0)).2.1 79) CC ((zw_I H 72 0 (Int32.ofInt 0)).2.1 72 8).toInt.toNat 0) 60 ((zw_I H 72 0 (Int32.ofInt 0)).2.1 77 (3 * x1.toInt.toNat)) ((zw_I H 72 0 (Int32.ofInt 0)).2.1 77 (3 * x1.toInt.toNat + 1)) (xP0 S ((zw_I H 72 0 (Int32.ofInt 0)).2.1 72 11).toInt ((zw_I H 72 0 (Int32.ofInt 0)).2.1 77 (3 * x1.toInt.toNat)))).2.2 := congrArg (fun z => z.2.2) q3
  refine zw_met zm_229_t rfl rfl ?_
  refine zw_ld (n := 1) (k := 0) (f := zp_isR) (pc' := 1) rfl rfl rfl rfl rfl ?_
  refine zw_s (pc' := 2) rfl rfl ?_
  refine zw_pI (q := 72) (pc' := 5) W rfl rfl rfl rfl rfl rfl ?_
  refine zw_ld (n := 1) (k := 0) (f := zp_isR) (pc' := 6) rfl rfl rfl rfl rfl ?_
  refine zw_ld (n := 1) (k := 1) (f := zp_isI) (pc' := 7) rfl rfl rfl rfl rfl ?_
  refine zw_c (pc' := 10) (zw_cv (q := 72) (Y := zm_228) (zw_W_I W).1 rfl rfl zm_228_t rfl rfl) rfl rfl rfl rfl rfl (yr_ip1 (zw_W_I W) h0 (by rw [e7]; exact hp)) ?_
  refine zw_beq1 (g := 49) (pc' := 13) rfl rfl rfl (rfl : _ = (1 : Int)) (fun h9 => absurd h9 (by decide)) (fun h1 => ?_)
  refine zw_ld (n := 1) (k := 0) (f := zp_isR) (pc' := 14) rfl rfl rfl rfl rfl ?_
  refine zw_ld (n := 1) (k := 3) (f := zp_isI) (pc' := 15) rfl rfl rfl rfl rfl ?_
  refine zw_s (pc' := 16) rfl rfl ?_
  refine zw_c (pc' := 19) (zw_cv (q := 72) (Y := zm_208) (zw_W_I W).1 rfl rfl zm_208_t rfl rfl) rfl rfl rfl rfl rfl (yr_wh1 (zw_W_I W) h0 ⟨by decide, by decide⟩) ?_
  refine zw_beq1 (g := 49) (pc' := 22) rfl rfl rfl (rfl : _ = (1 : Int)) (fun h9 => absurd h9 (by decide)) (fun h2 => ?_)
  refine zw_ld (n := 1) (k := 0) (f := zp_isR) (pc' := 23) rfl rfl rfl rfl rfl ?_
  refine zw_ld (n := 1) (k := 2) (f := zp_isI) (pc' := 24) rfl rfl rfl rfl rfl ?_
  refine zw_blt1 (g := 41) (pc' := 27) rfl rfl rfl rfl (fun h3 => ?_) (fun h3 => ?_)
  · omega
  · refine zw_ld (n := 1) (k := 2) (f := zp_isI) (pc' := 28) rfl rfl rfl rfl rfl ?_
    refine zw_s (pc' := 29) rfl rfl ?_
    refine zw_ld (n := 1) (k := 0) (f := zp_isR) (pc' := 30) rfl rfl rfl rfl rfl ?_
    refine zw_gI (q := 72) (pc' := 33) (zw_W_I W) rfl rfl rfl rfl (zw_ne rfl rfl) rfl ?_
    refine zw_ishl (pc' := 34) rfl rfl ?_
    rw [e5]
    refine zw_bge2 (g := 41) (pc' := 37) rfl rfl rfl rfl rfl (fun h4 => ?_) (fun h4 => ?_)
    · have h4 : (Int32.ofInt 1 <<< (H.2.1 72 5 &&& 31)).toInt ≤ x2.toInt := h4
      omega
    · refine zw_s (pc' := 38) rfl rfl ?_
      refine zw_s (pc' := 42) rfl rfl ?_
      refine zw_s (pc' := 43) rfl rfl ?_
      refine zw_c (pc' := 46) (zw_cv (q := 72) (Y := zm_170) (zw_W_I W).1 rfl rfl zm_170_t rfl rfl) rfl rfl rfl rfl rfl (zq_right1 (zw_W_I W) h0) ?_
      refine zw_bne1 (g := 51) (pc' := 49) rfl rfl rfl (rfl : _ = (1 : Int)) (fun h5 => ?_) (fun h9 => absurd h9 (by decide))
      refine zw_ld (n := 1) (k := 0) (f := zp_isR) (pc' := 52) rfl rfl rfl rfl rfl ?_
      refine zw_ld (n := 1) (k := 1) (f := zp_isI) (pc' := 53) rfl rfl rfl rfl rfl ?_
      refine zw_ld (n := 1) (k := 2) (f := zp_isI) (pc' := 54) rfl rfl rfl rfl rfl ?_
      refine zw_cn (pc' := 57) (zw_cv (q := 72) (Y := zm_230) (zw_W_I W).1 rfl rfl zm_230_t rfl rfl) rfl rfl rfl rfl rfl (q1) ?_
      refine zw_ld (n := 1) (k := 3) (f := zp_isI) (pc' := 58) rfl rfl rfl rfl rfl ?_
      refine zw_bne1 (g := 68) (pc' := 61) rfl rfl rfl (rfl : _ = (0 : Int)) (fun h9 => absurd h9 (by decide)) (fun h6 => ?_)
      refine zw_ld (n := 1) (k := 0) (f := zp_isR) (pc' := 62) rfl rfl rfl rfl rfl ?_
      refine zw_gI (q := 72) (pc' := 65) W1 rfl rfl rfl rfl rfl rfl ?_
      refine zw_s (pc' := 84) rfl rfl ?_
      refine zw_ri rfl rfl ?_
      exact ⟨K, x_rv b32, q2⟩

theorem yr_sai1 {L : Nat} {σ : Nat → Int32} {d : Nat} {H : zp_H} {x1 x2 : Int32} (W : zw_W H) {S : xSea} {CC : Nat → List xIt} (hS : xOk S) (hR : xSR H S) (hCR : xCR CC (zw_I H 72 0 (Int32.ofInt 0))) (hp : 0 ≤ x1.toInt ∧ x1.toInt < (H.2.1 72 7).toInt) (hp4 : x1.toInt < 4) (hpc : xIn S ((zw_I H 72 0 (Int32.ofInt 0)).2.1 77 (3 * x1.toInt.toNat)).toInt) (hn0 : 0 ≤ ((zw_I H 72 0 (Int32.ofInt 0)).2.1 72 5).toInt ∧ ((zw_I H 72 0 (Int32.ofInt 0)).2.1 72 5).toInt ≤ 8) (hm : ∀ s : Nat, (s : Int) < ((zw_I H 72 0 (Int32.ofInt 0)).2.1 72 5).toInt → 0 ≤ ((zw_I H 72 0 (Int32.ofInt 0)).2.1 74 (4 * s + 2)).toInt ∧ ((zw_I H 72 0 (Int32.ofInt 0)).2.1 74 (4 * s + 2)).toInt ≤ 8) (hc : ∀ s : Nat, (s : Int) < ((zw_I H 72 0 (Int32.ofInt 0)).2.1 72 5).toInt → xIn S ((zw_I H 72 0 (Int32.ofInt 0)).2.1 74 (4 * s)).toInt) (hu : 0 ≤ x2.toInt ∧ x2.toInt < (Int32.ofInt 1 <<< (H.2.1 72 5 &&& 31)).toInt) : ∃ X, zp_Call L σ (d + 6) 229 [.inr (.inr (some 73)), .inl x1, .inl x2, .inl (Int32.ofInt 1)] H X ∧ ∃ K, X = (.inl (some (.inl (xPl S ((zw_I H 72 0 (Int32.ofInt 0)).2.1 72 11).toInt (fun c h => xWb (xVl S c h (xKn (fun s => xWk (xVyr S (zw_I H 72 0 (Int32.ofInt 0)) s)) x2 ((zw_I H 72 0 (Int32.ofInt 0)).2.1 72 5).toInt.toNat (Int32.ofInt 0) (Int64.ofNat 0))) ((zw_I H 72 0 (Int32.ofInt 0)).2.1 79) CC ((zw_I H 72 0 (Int32.ofInt 0)).2.1 72 8).toInt.toNat 0) 60 ((zw_I H 72 0 (Int32.ofInt 0)).2.1 77 (3 * x1.toInt.toNat)) ((zw_I H 72 0 (Int32.ofInt 0)).2.1 77 (3 * x1.toInt.toNat + 1)) (xP0 S ((zw_I H 72 0 (Int32.ofInt 0)).2.1 72 11).toInt ((zw_I H 72 0 (Int32.ofInt 0)).2.1 77 (3 * x1.toInt.toNat)))).1)), K) ∧ xFp (zw_I H 72 0 (Int32.ofInt 0)) K := by
  have h0 : ((zw_I H 72 0 (Int32.ofInt 0)).2.1 72 0).toInt = 0 := congrArg Int32.toInt zw_eq
  have e7 : (zw_I H 72 0 (Int32.ofInt 0)).2.1 72 7 = H.2.1 72 7 := zw_ne rfl rfl
  have e5 : (zw_I H 72 0 (Int32.ofInt 0)).2.1 72 5 = H.2.1 72 5 := zw_ne rfl rfl
  obtain ⟨_, q1, K, rfl, W1, q2, q3⟩ := xr_pl (L := L) (σ := σ) (d := d) (p := x1) (set := x2) (H0 := (zw_I H 72 0 (Int32.ofInt 0))) hS (xSR_06 hR) hCR hn0 hm hc (zw_W_I W) ⟨hp.1, hp4⟩ hpc
  have b30 : K.2.1 72 64 = (xPl S ((zw_I H 72 0 (Int32.ofInt 0)).2.1 72 11).toInt (fun c h => xWb (xVl S c h (xKn (fun s => xWk (xVyr S (zw_I H 72 0 (Int32.ofInt 0)) s)) x2 ((zw_I H 72 0 (Int32.ofInt 0)).2.1 72 5).toInt.toNat (Int32.ofInt 0) (Int64.ofNat 0))) ((zw_I H 72 0 (Int32.ofInt 0)).2.1 79) CC ((zw_I H 72 0 (Int32.ofInt 0)).2.1 72 8).toInt.toNat 0) 60 ((zw_I H 72 0 (Int32.ofInt 0)).2.1 77 (3 * x1.toInt.toNat)) ((zw_I H 72 0 (Int32.ofInt 0)).2.1 77 (3 * x1.toInt.toNat + 1)) (xP0 S ((zw_I H 72 0 (Int32.ofInt 0)).2.1 72 11).toInt ((zw_I H 72 0 (Int32.ofInt 0)).2.1 77 (3 * x1.toInt.toNat)))).1 := congrArg Prod.fst q3
  have b31 : K.2.1 72 69 = (xPl S ((zw_I H 72 0 (Int32.ofInt 0)).2.1 72 11).toInt (fun c h => xWb (xVl S c h (xKn (fun s => xWk (xVyr S (zw_I H 72 0 (Int32.ofInt 0)) s)) x2 ((zw_I H 72 0 (Int32.ofInt 0)).2.1 72 5).toInt.toNat (Int32.ofInt 0) (Int64.ofNat 0))) ((zw_I H 72 0 (Int32.ofInt 0)).2.1 79) CC ((zw_I H 72 0 (Int32.ofInt 0)).2.1 72 8).toInt.toNat 0) 60 ((zw_I H 72 0 (Int32.ofInt 0)).2.1 77 (3 * x1.toInt.toNat)) ((zw_I H 72 0 (Int32.ofInt 0)).2.1 77 (3 * x1.toInt.toNat + 1)) (xP0 S ((zw_I H 72 0 (Int32.ofInt 0)).2.1 72 11).toInt ((zw_I H 72 0 (Int32.ofInt 0)).2.1 77 (3 * x1.toInt.toNat)))).2.1 := congrArg (fun z => z.2.1) q3
  have b32 : K.2.1 72 66 = (xPl S ((zw_I H 72 0 (Int32.ofInt 0)).2.1 72 11).toInt (fun c h => xWb (xVl S c h (xKn (fun s => xWk (xVyr S (zw_I H 72 0 (Int32.ofInt 0)) s)) x2 ((zw_I H 72 0 (Int32.ofInt 0)).2.1 72 5).toInt.toNat (Int32.ofInt 0) (Int64.ofNat 0))) ((zw_I H 72 0 (Int32.ofInt 0)).2.1 79) CC ((zw_I H 72 0 (Int32.ofInt 0)).2.1 72 8).toInt.toNat 0) 60 ((zw_I H 72 0 (Int32.ofInt 0)).2.1 77 (3 * x1.toInt.toNat)) ((zw_I H 72 0 (Int32.ofInt 0)).2.1 77 (3 * x1.toInt.toNat + 1)) (xP0 S ((zw_I H 72 0 (Int32.ofInt 0)).2.1 72 11).toInt ((zw_I H 72 0 (Int32.ofInt 0)).2.1 77 (3 * x1.toInt.toNat)))).2.2 := congrArg (fun z => z.2.2) q3
  refine zw_met zm_229_t rfl rfl ?_
  refine zw_ld (n := 1) (k := 0) (f := zp_isR) (pc' := 1) rfl rfl rfl rfl rfl ?_
  refine zw_s (pc' := 2) rfl rfl ?_
  refine zw_pI (q := 72) (pc' := 5) W rfl rfl rfl rfl rfl rfl ?_
  refine zw_ld (n := 1) (k := 0) (f := zp_isR) (pc' := 6) rfl rfl rfl rfl rfl ?_
  refine zw_ld (n := 1) (k := 1) (f := zp_isI) (pc' := 7) rfl rfl rfl rfl rfl ?_
  refine zw_c (pc' := 10) (zw_cv (q := 72) (Y := zm_228) (zw_W_I W).1 rfl rfl zm_228_t rfl rfl) rfl rfl rfl rfl rfl (yr_ip1 (zw_W_I W) h0 (by rw [e7]; exact hp)) ?_
  refine zw_beq1 (g := 49) (pc' := 13) rfl rfl rfl (rfl : _ = (1 : Int)) (fun h9 => absurd h9 (by decide)) (fun h1 => ?_)
  refine zw_ld (n := 1) (k := 0) (f := zp_isR) (pc' := 14) rfl rfl rfl rfl rfl ?_
  refine zw_ld (n := 1) (k := 3) (f := zp_isI) (pc' := 15) rfl rfl rfl rfl rfl ?_
  refine zw_s (pc' := 16) rfl rfl ?_
  refine zw_c (pc' := 19) (zw_cv (q := 72) (Y := zm_208) (zw_W_I W).1 rfl rfl zm_208_t rfl rfl) rfl rfl rfl rfl rfl (yr_wh1 (zw_W_I W) h0 ⟨by decide, by decide⟩) ?_
  refine zw_beq1 (g := 49) (pc' := 22) rfl rfl rfl (rfl : _ = (1 : Int)) (fun h9 => absurd h9 (by decide)) (fun h2 => ?_)
  refine zw_ld (n := 1) (k := 0) (f := zp_isR) (pc' := 23) rfl rfl rfl rfl rfl ?_
  refine zw_ld (n := 1) (k := 2) (f := zp_isI) (pc' := 24) rfl rfl rfl rfl rfl ?_
  refine zw_blt1 (g := 41) (pc' := 27) rfl rfl rfl rfl (fun h3 => ?_) (fun h3 => ?_)
  · omega
  · refine zw_ld (n := 1) (k := 2) (f := zp_isI) (pc' := 28) rfl rfl rfl rfl rfl ?_
    refine zw_s (pc' := 29) rfl rfl ?_
    refine zw_ld (n := 1) (k := 0) (f := zp_isR) (pc' := 30) rfl rfl rfl rfl rfl ?_
    refine zw_gI (q := 72) (pc' := 33) (zw_W_I W) rfl rfl rfl rfl (zw_ne rfl rfl) rfl ?_
    refine zw_ishl (pc' := 34) rfl rfl ?_
    rw [e5]
    refine zw_bge2 (g := 41) (pc' := 37) rfl rfl rfl rfl rfl (fun h4 => ?_) (fun h4 => ?_)
    · have h4 : (Int32.ofInt 1 <<< (H.2.1 72 5 &&& 31)).toInt ≤ x2.toInt := h4
      omega
    · refine zw_s (pc' := 38) rfl rfl ?_
      refine zw_s (pc' := 42) rfl rfl ?_
      refine zw_s (pc' := 43) rfl rfl ?_
      refine zw_c (pc' := 46) (zw_cv (q := 72) (Y := zm_170) (zw_W_I W).1 rfl rfl zm_170_t rfl rfl) rfl rfl rfl rfl rfl (zq_right1 (zw_W_I W) h0) ?_
      refine zw_bne1 (g := 51) (pc' := 49) rfl rfl rfl (rfl : _ = (1 : Int)) (fun h5 => ?_) (fun h9 => absurd h9 (by decide))
      refine zw_ld (n := 1) (k := 0) (f := zp_isR) (pc' := 52) rfl rfl rfl rfl rfl ?_
      refine zw_ld (n := 1) (k := 1) (f := zp_isI) (pc' := 53) rfl rfl rfl rfl rfl ?_
      refine zw_ld (n := 1) (k := 2) (f := zp_isI) (pc' := 54) rfl rfl rfl rfl rfl ?_
      refine zw_cn (pc' := 57) (zw_cv (q := 72) (Y := zm_230) (zw_W_I W).1 rfl rfl zm_230_t rfl rfl) rfl rfl rfl rfl rfl (q1) ?_
      refine zw_ld (n := 1) (k := 3) (f := zp_isI) (pc' := 58) rfl rfl rfl rfl rfl ?_
      refine zw_bne1 (g := 68) (pc' := 61) rfl rfl rfl (rfl : _ = (1 : Int)) (fun h6 => ?_) (fun h9 => absurd h9 (by decide))
      refine zw_ld (n := 1) (k := 3) (f := zp_isI) (pc' := 69) rfl rfl rfl rfl rfl ?_
      refine zw_s (pc' := 70) rfl rfl ?_
      refine zw_bne2 (g := 80) (pc' := 73) rfl rfl rfl (rfl : _ = (1 : Int)) (rfl : _ = (1 : Int)) (fun h9 => absurd h9 (by decide)) (fun h6 => ?_)
      refine zw_ld (n := 1) (k := 0) (f := zp_isR) (pc' := 74) rfl rfl rfl rfl rfl ?_
      refine zw_gI (q := 72) (pc' := 77) W1 rfl rfl rfl rfl rfl rfl ?_
      refine zw_s (pc' := 84) rfl rfl ?_
      refine zw_ri rfl rfl ?_
      exact ⟨K, x_rv b30, q2⟩

theorem yr_sai2 {L : Nat} {σ : Nat → Int32} {d : Nat} {H : zp_H} {x1 x2 : Int32} (W : zw_W H) {S : xSea} {CC : Nat → List xIt} (hS : xOk S) (hR : xSR H S) (hCR : xCR CC (zw_I H 72 0 (Int32.ofInt 0))) (hp : 0 ≤ x1.toInt ∧ x1.toInt < (H.2.1 72 7).toInt) (hp4 : x1.toInt < 4) (hpc : xIn S ((zw_I H 72 0 (Int32.ofInt 0)).2.1 77 (3 * x1.toInt.toNat)).toInt) (hn0 : 0 ≤ ((zw_I H 72 0 (Int32.ofInt 0)).2.1 72 5).toInt ∧ ((zw_I H 72 0 (Int32.ofInt 0)).2.1 72 5).toInt ≤ 8) (hm : ∀ s : Nat, (s : Int) < ((zw_I H 72 0 (Int32.ofInt 0)).2.1 72 5).toInt → 0 ≤ ((zw_I H 72 0 (Int32.ofInt 0)).2.1 74 (4 * s + 2)).toInt ∧ ((zw_I H 72 0 (Int32.ofInt 0)).2.1 74 (4 * s + 2)).toInt ≤ 8) (hc : ∀ s : Nat, (s : Int) < ((zw_I H 72 0 (Int32.ofInt 0)).2.1 72 5).toInt → xIn S ((zw_I H 72 0 (Int32.ofInt 0)).2.1 74 (4 * s)).toInt) (hu : 0 ≤ x2.toInt ∧ x2.toInt < (Int32.ofInt 1 <<< (H.2.1 72 5 &&& 31)).toInt) : ∃ X, zp_Call L σ (d + 6) 229 [.inr (.inr (some 73)), .inl x1, .inl x2, .inl (Int32.ofInt 2)] H X ∧ ∃ K, X = (.inl (some (.inl (xPl S ((zw_I H 72 0 (Int32.ofInt 0)).2.1 72 11).toInt (fun c h => xWb (xVl S c h (xKn (fun s => xWk (xVyr S (zw_I H 72 0 (Int32.ofInt 0)) s)) x2 ((zw_I H 72 0 (Int32.ofInt 0)).2.1 72 5).toInt.toNat (Int32.ofInt 0) (Int64.ofNat 0))) ((zw_I H 72 0 (Int32.ofInt 0)).2.1 79) CC ((zw_I H 72 0 (Int32.ofInt 0)).2.1 72 8).toInt.toNat 0) 60 ((zw_I H 72 0 (Int32.ofInt 0)).2.1 77 (3 * x1.toInt.toNat)) ((zw_I H 72 0 (Int32.ofInt 0)).2.1 77 (3 * x1.toInt.toNat + 1)) (xP0 S ((zw_I H 72 0 (Int32.ofInt 0)).2.1 72 11).toInt ((zw_I H 72 0 (Int32.ofInt 0)).2.1 77 (3 * x1.toInt.toNat)))).2.1)), K) ∧ xFp (zw_I H 72 0 (Int32.ofInt 0)) K := by
  have h0 : ((zw_I H 72 0 (Int32.ofInt 0)).2.1 72 0).toInt = 0 := congrArg Int32.toInt zw_eq
  have e7 : (zw_I H 72 0 (Int32.ofInt 0)).2.1 72 7 = H.2.1 72 7 := zw_ne rfl rfl
  have e5 : (zw_I H 72 0 (Int32.ofInt 0)).2.1 72 5 = H.2.1 72 5 := zw_ne rfl rfl
  obtain ⟨_, q1, K, rfl, W1, q2, q3⟩ := xr_pl (L := L) (σ := σ) (d := d) (p := x1) (set := x2) (H0 := (zw_I H 72 0 (Int32.ofInt 0))) hS (xSR_06 hR) hCR hn0 hm hc (zw_W_I W) ⟨hp.1, hp4⟩ hpc
  have b30 : K.2.1 72 64 = (xPl S ((zw_I H 72 0 (Int32.ofInt 0)).2.1 72 11).toInt (fun c h => xWb (xVl S c h (xKn (fun s => xWk (xVyr S (zw_I H 72 0 (Int32.ofInt 0)) s)) x2 ((zw_I H 72 0 (Int32.ofInt 0)).2.1 72 5).toInt.toNat (Int32.ofInt 0) (Int64.ofNat 0))) ((zw_I H 72 0 (Int32.ofInt 0)).2.1 79) CC ((zw_I H 72 0 (Int32.ofInt 0)).2.1 72 8).toInt.toNat 0) 60 ((zw_I H 72 0 (Int32.ofInt 0)).2.1 77 (3 * x1.toInt.toNat)) ((zw_I H 72 0 (Int32.ofInt 0)).2.1 77 (3 * x1.toInt.toNat + 1)) (xP0 S ((zw_I H 72 0 (Int32.ofInt 0)).2.1 72 11).toInt ((zw_I H 72 0 (Int32.ofInt 0)).2.1 77 (3 * x1.toInt.toNat)))).1 := congrArg Prod.fst q3
  have b31 : K.2.1 72 69 = (xPl S ((zw_I H 72 0 (Int32.ofInt 0)).2.1 72 11).toInt (fun c h => xWb (xVl S c h (xKn (fun s => xWk (xVyr S (zw_I H 72 0 (Int32.ofInt 0)) s)) x2 ((zw_I H 72 0 (Int32.ofInt 0)).2.1 72 5).toInt.toNat (Int32.ofInt 0) (Int64.ofNat 0))) ((zw_I H 72 0 (Int32.ofInt 0)).2.1 79) CC ((zw_I H 72 0 (Int32.ofInt 0)).2.1 72 8).toInt.toNat 0) 60 ((zw_I H 72 0 (Int32.ofInt 0)).2.1 77 (3 * x1.toInt.toNat)) ((zw_I H 72 0 (Int32.ofInt 0)).2.1 77 (3 * x1.toInt.toNat + 1)) (xP0 S ((zw_I H 72 0 (Int32.ofInt 0)).2.1 72 11).toInt ((zw_I H 72 0 (Int32.ofInt 0)).2.1 77 (3 * x1.toInt.toNat)))).2.1 := congrArg (fun z => z.2.1) q3
  have b32 : K.2.1 72 66 = (xPl S ((zw_I H 72 0 (Int32.ofInt 0)).2.1 72 11).toInt (fun c h => xWb (xVl S c h (xKn (fun s => xWk (xVyr S (zw_I H 72 0 (Int32.ofInt 0)) s)) x2 ((zw_I H 72 0 (Int32.ofInt 0)).2.1 72 5).toInt.toNat (Int32.ofInt 0) (Int64.ofNat 0))) ((zw_I H 72 0 (Int32.ofInt 0)).2.1 79) CC ((zw_I H 72 0 (Int32.ofInt 0)).2.1 72 8).toInt.toNat 0) 60 ((zw_I H 72 0 (Int32.ofInt 0)).2.1 77 (3 * x1.toInt.toNat)) ((zw_I H 72 0 (Int32.ofInt 0)).2.1 77 (3 * x1.toInt.toNat + 1)) (xP0 S ((zw_I H 72 0 (Int32.ofInt 0)).2.1 72 11).toInt ((zw_I H 72 0 (Int32.ofInt 0)).2.1 77 (3 * x1.toInt.toNat)))).2.2 := congrArg (fun z => z.2.2) q3
  refine zw_met zm_229_t rfl rfl ?_
  refine zw_ld (n := 1) (k := 0) (f := zp_isR) (pc' := 1) rfl rfl rfl rfl rfl ?_
  refine zw_s (pc' := 2) rfl rfl ?_
  refine zw_pI (q := 72) (pc' := 5) W rfl rfl rfl rfl rfl rfl ?_
  refine zw_ld (n := 1) (k := 0) (f := zp_isR) (pc' := 6) rfl rfl rfl rfl rfl ?_
  refine zw_ld (n := 1) (k := 1) (f := zp_isI) (pc' := 7) rfl rfl rfl rfl rfl ?_
  refine zw_c (pc' := 10) (zw_cv (q := 72) (Y := zm_228) (zw_W_I W).1 rfl rfl zm_228_t rfl rfl) rfl rfl rfl rfl rfl (yr_ip1 (zw_W_I W) h0 (by rw [e7]; exact hp)) ?_
  refine zw_beq1 (g := 49) (pc' := 13) rfl rfl rfl (rfl : _ = (1 : Int)) (fun h9 => absurd h9 (by decide)) (fun h1 => ?_)
  refine zw_ld (n := 1) (k := 0) (f := zp_isR) (pc' := 14) rfl rfl rfl rfl rfl ?_
  refine zw_ld (n := 1) (k := 3) (f := zp_isI) (pc' := 15) rfl rfl rfl rfl rfl ?_
  refine zw_s (pc' := 16) rfl rfl ?_
  refine zw_c (pc' := 19) (zw_cv (q := 72) (Y := zm_208) (zw_W_I W).1 rfl rfl zm_208_t rfl rfl) rfl rfl rfl rfl rfl (yr_wh1 (zw_W_I W) h0 ⟨by decide, by decide⟩) ?_
  refine zw_beq1 (g := 49) (pc' := 22) rfl rfl rfl (rfl : _ = (1 : Int)) (fun h9 => absurd h9 (by decide)) (fun h2 => ?_)
  refine zw_ld (n := 1) (k := 0) (f := zp_isR) (pc' := 23) rfl rfl rfl rfl rfl ?_
  refine zw_ld (n := 1) (k := 2) (f := zp_isI) (pc' := 24) rfl rfl rfl rfl rfl ?_
  refine zw_blt1 (g := 41) (pc' := 27) rfl rfl rfl rfl (fun h3 => ?_) (fun h3 => ?_)
  · omega
  · refine zw_ld (n := 1) (k := 2) (f := zp_isI) (pc' := 28) rfl rfl rfl rfl rfl ?_
    refine zw_s (pc' := 29) rfl rfl ?_
    refine zw_ld (n := 1) (k := 0) (f := zp_isR) (pc' := 30) rfl rfl rfl rfl rfl ?_
    refine zw_gI (q := 72) (pc' := 33) (zw_W_I W) rfl rfl rfl rfl (zw_ne rfl rfl) rfl ?_
    refine zw_ishl (pc' := 34) rfl rfl ?_
    rw [e5]
    refine zw_bge2 (g := 41) (pc' := 37) rfl rfl rfl rfl rfl (fun h4 => ?_) (fun h4 => ?_)
    · have h4 : (Int32.ofInt 1 <<< (H.2.1 72 5 &&& 31)).toInt ≤ x2.toInt := h4
      omega
    · refine zw_s (pc' := 38) rfl rfl ?_
      refine zw_s (pc' := 42) rfl rfl ?_
      refine zw_s (pc' := 43) rfl rfl ?_
      refine zw_c (pc' := 46) (zw_cv (q := 72) (Y := zm_170) (zw_W_I W).1 rfl rfl zm_170_t rfl rfl) rfl rfl rfl rfl rfl (zq_right1 (zw_W_I W) h0) ?_
      refine zw_bne1 (g := 51) (pc' := 49) rfl rfl rfl (rfl : _ = (1 : Int)) (fun h5 => ?_) (fun h9 => absurd h9 (by decide))
      refine zw_ld (n := 1) (k := 0) (f := zp_isR) (pc' := 52) rfl rfl rfl rfl rfl ?_
      refine zw_ld (n := 1) (k := 1) (f := zp_isI) (pc' := 53) rfl rfl rfl rfl rfl ?_
      refine zw_ld (n := 1) (k := 2) (f := zp_isI) (pc' := 54) rfl rfl rfl rfl rfl ?_
      refine zw_cn (pc' := 57) (zw_cv (q := 72) (Y := zm_230) (zw_W_I W).1 rfl rfl zm_230_t rfl rfl) rfl rfl rfl rfl rfl (q1) ?_
      refine zw_ld (n := 1) (k := 3) (f := zp_isI) (pc' := 58) rfl rfl rfl rfl rfl ?_
      refine zw_bne1 (g := 68) (pc' := 61) rfl rfl rfl (rfl : _ = (2 : Int)) (fun h6 => ?_) (fun h9 => absurd h9 (by decide))
      refine zw_ld (n := 1) (k := 3) (f := zp_isI) (pc' := 69) rfl rfl rfl rfl rfl ?_
      refine zw_s (pc' := 70) rfl rfl ?_
      refine zw_bne2 (g := 80) (pc' := 73) rfl rfl rfl (rfl : _ = (2 : Int)) (rfl : _ = (1 : Int)) (fun h6 => ?_) (fun h9 => absurd h9 (by decide))
      refine zw_ld (n := 1) (k := 0) (f := zp_isR) (pc' := 81) rfl rfl rfl rfl rfl ?_
      refine zw_gI (q := 72) (pc' := 84) W1 rfl rfl rfl rfl rfl rfl ?_
      refine zw_ri rfl rfl ?_
      exact ⟨K, x_rv b31, q2⟩

theorem yr_sain {L : Nat} {σ : Nat → Int32} {d : Nat} {H : zp_H} (W : zw_W H) {x1 x2 x3 : Int32} (h : ¬ ((0 ≤ x1.toInt ∧ x1.toInt < (H.2.1 72 7).toInt) ∧ 0 ≤ x3.toInt ∧ x3.toInt ≤ (Int32.ofInt 2).toInt)) : zp_Call L σ (d + 3) 229 [.inr (.inr (some 73)), .inl x1, .inl x2, .inl x3] H (.inl (some (.inl (Int32.ofInt 0))), zw_I (zw_I H 72 0 (Int32.ofInt 0)) 72 0 (Int32.ofInt 1)) := by
  have h0 : ((zw_I H 72 0 (Int32.ofInt 0)).2.1 72 0).toInt = 0 := congrArg Int32.toInt zw_eq
  have e7 : (zw_I H 72 0 (Int32.ofInt 0)).2.1 72 7 = H.2.1 72 7 := zw_ne rfl rfl
  have e5 : (zw_I H 72 0 (Int32.ofInt 0)).2.1 72 5 = H.2.1 72 5 := zw_ne rfl rfl
  refine zw_ex (zw_met zm_229_t rfl rfl ?_)
  refine zw_ld (n := 1) (k := 0) (f := zp_isR) (pc' := 1) rfl rfl rfl rfl rfl ?_
  refine zw_s (pc' := 2) rfl rfl ?_
  refine zw_pI (q := 72) (pc' := 5) W rfl rfl rfl rfl rfl rfl ?_
  refine zw_ld (n := 1) (k := 0) (f := zp_isR) (pc' := 6) rfl rfl rfl rfl rfl ?_
  refine zw_ld (n := 1) (k := 1) (f := zp_isI) (pc' := 7) rfl rfl rfl rfl rfl ?_
  by_cases h1 : 0 ≤ x1.toInt ∧ x1.toInt < (H.2.1 72 7).toInt
  · refine zw_c (pc' := 10) (zw_cv (q := 72) (Y := zm_228) (zw_W_I W).1 rfl rfl zm_228_t rfl rfl) rfl rfl rfl rfl rfl (yr_ip1 (zw_W_I W) h0 (by rw [e7]; exact h1)) ?_
    refine zw_beq1 (g := 49) (pc' := 13) rfl rfl rfl (rfl : _ = (1 : Int)) (fun h9 => absurd h9 (by decide)) (fun h7 => ?_)
    refine zw_ld (n := 1) (k := 0) (f := zp_isR) (pc' := 14) rfl rfl rfl rfl rfl ?_
    refine zw_ld (n := 1) (k := 3) (f := zp_isI) (pc' := 15) rfl rfl rfl rfl rfl ?_
    refine zw_s (pc' := 16) rfl rfl ?_
    refine zw_c (pc' := 19) (zw_cv (q := 72) (Y := zm_208) (zw_W_I W).1 rfl rfl zm_208_t rfl rfl) rfl rfl rfl rfl rfl (yr_wh0 (zw_W_I W) h0 (fun h9 => h ⟨h1, h9⟩)) ?_
    refine zw_beq1 (g := 49) (pc' := 22) rfl rfl rfl (rfl : _ = (0 : Int)) (fun h7 => ?_) (fun h9 => absurd h9 (by decide))
    refine zw_s (pc' := 50) rfl rfl ?_
    refine zw_ri rfl rfl ?_
    rfl
  · refine zw_c (pc' := 10) (zw_cv (q := 72) (Y := zm_228) (zw_W_I W).1 rfl rfl zm_228_t rfl rfl) rfl rfl rfl rfl rfl (yr_ip0 (zw_W_I W) h0 (by rw [e7]; exact h1)) ?_
    refine zw_beq1 (g := 49) (pc' := 13) rfl rfl rfl (rfl : _ = (0 : Int)) (fun h7 => ?_) (fun h9 => absurd h9 (by decide))
    refine zw_s (pc' := 50) rfl rfl ?_
    refine zw_ri rfl rfl ?_
    rfl

theorem yr_saii {L : Nat} {σ : Nat → Int32} {d : Nat} {H : zp_H} (W : zw_W H) {x1 x2 x3 : Int32} (hp : 0 ≤ x1.toInt ∧ x1.toInt < (H.2.1 72 7).toInt) (h3 : 0 ≤ x3.toInt ∧ x3.toInt ≤ (Int32.ofInt 2).toInt) (hu : ¬ (0 ≤ x2.toInt ∧ x2.toInt < (Int32.ofInt 1 <<< (H.2.1 72 5 &&& 31)).toInt)) : zp_Call L σ (d + 3) 229 [.inr (.inr (some 73)), .inl x1, .inl x2, .inl x3] H (.inl (some (.inl (Int32.ofInt 0))), zw_I (zw_I H 72 0 (Int32.ofInt 0)) 72 0 (Int32.ofInt 2)) := by
  have h0 : ((zw_I H 72 0 (Int32.ofInt 0)).2.1 72 0).toInt = 0 := congrArg Int32.toInt zw_eq
  have e7 : (zw_I H 72 0 (Int32.ofInt 0)).2.1 72 7 = H.2.1 72 7 := zw_ne rfl rfl
  have e5 : (zw_I H 72 0 (Int32.ofInt 0)).2.1 72 5 = H.2.1 72 5 := zw_ne rfl rfl
  refine zw_ex (zw_met zm_229_t rfl rfl ?_)
  refine zw_ld (n := 1) (k := 0) (f := zp_isR) (pc' := 1) rfl rfl rfl rfl rfl ?_
  refine zw_s (pc' := 2) rfl rfl ?_
  refine zw_pI (q := 72) (pc' := 5) W rfl rfl rfl rfl rfl rfl ?_
  refine zw_ld (n := 1) (k := 0) (f := zp_isR) (pc' := 6) rfl rfl rfl rfl rfl ?_
  refine zw_ld (n := 1) (k := 1) (f := zp_isI) (pc' := 7) rfl rfl rfl rfl rfl ?_
  refine zw_c (pc' := 10) (zw_cv (q := 72) (Y := zm_228) (zw_W_I W).1 rfl rfl zm_228_t rfl rfl) rfl rfl rfl rfl rfl (yr_ip1 (zw_W_I W) h0 (by rw [e7]; exact hp)) ?_
  refine zw_beq1 (g := 49) (pc' := 13) rfl rfl rfl (rfl : _ = (1 : Int)) (fun h9 => absurd h9 (by decide)) (fun h1 => ?_)
  refine zw_ld (n := 1) (k := 0) (f := zp_isR) (pc' := 14) rfl rfl rfl rfl rfl ?_
  refine zw_ld (n := 1) (k := 3) (f := zp_isI) (pc' := 15) rfl rfl rfl rfl rfl ?_
  refine zw_s (pc' := 16) rfl rfl ?_
  refine zw_c (pc' := 19) (zw_cv (q := 72) (Y := zm_208) (zw_W_I W).1 rfl rfl zm_208_t rfl rfl) rfl rfl rfl rfl rfl (yr_wh1 (zw_W_I W) h0 h3) ?_
  refine zw_beq1 (g := 49) (pc' := 22) rfl rfl rfl (rfl : _ = (1 : Int)) (fun h9 => absurd h9 (by decide)) (fun h2 => ?_)
  refine zw_ld (n := 1) (k := 0) (f := zp_isR) (pc' := 23) rfl rfl rfl rfl rfl ?_
  refine zw_ld (n := 1) (k := 2) (f := zp_isI) (pc' := 24) rfl rfl rfl rfl rfl ?_
  refine zw_blt1 (g := 41) (pc' := 27) rfl rfl rfl rfl (fun h4 => ?_) (fun h4 => ?_)
  · refine zw_s (pc' := 42) rfl rfl ?_
    refine zw_s (pc' := 43) rfl rfl ?_
    refine zw_c (pc' := 46) (zw_cv (q := 72) (Y := zm_170) (zw_W_I W).1 rfl rfl zm_170_t rfl rfl) rfl rfl rfl rfl rfl (zq_right0 (zw_W_I W) h0 (by decide)) ?_
    refine zw_bne1 (g := 51) (pc' := 49) rfl rfl rfl (rfl : _ = (0 : Int)) (fun h9 => absurd h9 (by decide)) (fun h7 => ?_)
    refine zw_s (pc' := 50) rfl rfl ?_
    refine zw_ri rfl rfl ?_
    rfl
  · refine zw_ld (n := 1) (k := 2) (f := zp_isI) (pc' := 28) rfl rfl rfl rfl rfl ?_
    refine zw_s (pc' := 29) rfl rfl ?_
    refine zw_ld (n := 1) (k := 0) (f := zp_isR) (pc' := 30) rfl rfl rfl rfl rfl ?_
    refine zw_gI (q := 72) (pc' := 33) (zw_W_I W) rfl rfl rfl rfl (zw_ne rfl rfl) rfl ?_
    refine zw_ishl (pc' := 34) rfl rfl ?_
    refine zw_bge2 (g := 41) (pc' := 37) rfl rfl rfl rfl rfl (fun h5 => ?_) (fun h5 => ?_)
    · refine zw_s (pc' := 42) rfl rfl ?_
      refine zw_s (pc' := 43) rfl rfl ?_
      refine zw_c (pc' := 46) (zw_cv (q := 72) (Y := zm_170) (zw_W_I W).1 rfl rfl zm_170_t rfl rfl) rfl rfl rfl rfl rfl (zq_right0 (zw_W_I W) h0 (by decide)) ?_
      refine zw_bne1 (g := 51) (pc' := 49) rfl rfl rfl (rfl : _ = (0 : Int)) (fun h9 => absurd h9 (by decide)) (fun h7 => ?_)
      refine zw_s (pc' := 50) rfl rfl ?_
      refine zw_ri rfl rfl ?_
      rfl
    · have h5 : x2.toInt < (Int32.ofInt 1 <<< (H.2.1 72 5 &&& 31)).toInt := h5
      exact absurd ⟨(by omega : 0 ≤ x2.toInt), h5⟩ hu

theorem xJ_C0 {t : Nat} {H : zp_H} (hJ : yJ 0 t H) : ∃ CC, xCC 2 CC H ∧ xCR CC H ∧ H.2.1 2 16 = H.2.1 72 8 ∧ (∀ r : Nat, (r : Int) < (H.2.1 72 8).toInt → H.2.1 10 r = H.2.1 79 r) ∧ H.2.1 2 12 = H.2.1 72 7 ∧ (∀ p : Nat, (p : Int) < (H.2.1 72 7).toInt → H.2.1 7 p = H.2.1 77 (3 * p) ∧ H.2.1 8 p = H.2.1 77 (3 * p + 1)) ∧ H.2.1 2 11 = H.2.1 72 11 ∧ (0 ≤ (H.2.1 72 7).toInt ∧ (H.2.1 72 7).toInt ≤ 4) := by
  have hB := hJ.1.1.1
  obtain ⟨-, q2, -, -, -, -, q7, q8⟩ := hJ.1.2.2
  have e16 : H.2.1 2 16 = H.2.1 72 8 := q2 (16, 8) (by decide)
  have e12 : H.2.1 2 12 = H.2.1 72 7 := q2 (12, 7) (by decide)
  have e11 : H.2.1 2 11 = H.2.1 72 11 := q2 (11, 11) (by decide)
  have b16 := zB_fr1 (zB_dn (zB_Bc hB)) (p := 2) (k := 16) (r := (0, 8)) rfl
  have b16 : 0 ≤ (H.2.1 2 16).toInt ∧ (H.2.1 2 16).toInt ≤ 8 := b16
  have b12 := zB_fr1 (zB_dn (zB_Bc hB)) (p := 2) (k := 12) (r := (0, 4)) rfl
  have b12 : 0 ≤ (H.2.1 2 12).toInt ∧ (H.2.1 2 12).toInt ≤ 4 := b12
  have hex : ∀ r : Nat, (r : Int) < (H.2.1 72 8).toInt → ∃ C, xOp 37 C ∧ xCl (ywp 0) H r C ∧ xRl 78 80 H r C ∧ (H.2.1 78 r).toInt + ((xR2 C).length : Int) + 1 ≤ 1600 := fun r hr => (q8 r hr).2.2
  have hk : ∀ r : Nat, ∃ C, (r : Int) < (H.2.1 72 8).toInt → xOp 37 C ∧ xCl (ywp 0) H r C ∧ xRl 78 80 H r C ∧ (H.2.1 78 r).toInt + ((xR2 C).length : Int) + 1 ≤ 1600 := fun r => by
    by_cases hr : (r : Int) < (H.2.1 72 8).toInt
    · obtain ⟨C, h⟩ := hex r hr
      exact ⟨C, fun _ => h⟩
    · exact ⟨[], fun h => absurd h hr⟩
  refine ⟨fun r => Classical.choose (hk r), ⟨b16, fun r hr => ?_, fun r hr => ?_⟩, ⟨by rw [← e16]; exact b16, fun r hr => ?_⟩, e16, fun r hr => (q8 r hr).1, e12, fun p hp => ⟨(q7 p hp).1, (q7 p hp).2.1⟩, e11, by rw [← e12]; exact b12⟩
  · rw [e16] at hr
    obtain ⟨a, b, -, -⟩ := Classical.choose_spec (hk r) hr
    exact ⟨a, b, (q8 r hr).2.1⟩
  · have b := zB_ar1 (zB_dn (zB_Bc hB)) (p := 10) (t := 0) (n := 8) (i := r) (r := (0, 3)) rfl (by omega) (by rw [show (zB_al zB_ar 10).1 = 1 from rfl, Nat.mod_one]; rfl)
    have b : 0 ≤ (H.2.1 10 r).toInt ∧ (H.2.1 10 r).toInt ≤ 3 := b
    show -1 ≤ (H.2.1 10 r).toInt ∧ (H.2.1 10 r).toInt ≤ 3
    omega
  · obtain ⟨a, -, b, e⟩ := Classical.choose_spec (hk r) hr
    exact ⟨a, b, e⟩

theorem xJ_C3 {t : Nat} {H : zp_H} (hJ : yJ 3 t H) : ∃ CC, xCC 22 CC H ∧ xCR CC H ∧ H.2.1 22 16 = H.2.1 72 8 ∧ (∀ r : Nat, (r : Int) < (H.2.1 72 8).toInt → H.2.1 30 r = H.2.1 79 r) ∧ H.2.1 22 12 = H.2.1 72 7 ∧ (∀ p : Nat, (p : Int) < (H.2.1 72 7).toInt → H.2.1 27 p = H.2.1 77 (3 * p) ∧ H.2.1 28 p = H.2.1 77 (3 * p + 1)) ∧ H.2.1 22 11 = H.2.1 72 11 ∧ (0 ≤ (H.2.1 72 7).toInt ∧ (H.2.1 72 7).toInt ≤ 4) := by
  have hB := hJ.1.1.1
  obtain ⟨-, q2, -, -, -, -, q7, q8⟩ := hJ.1.2.2
  have e16 : H.2.1 22 16 = H.2.1 72 8 := q2 (16, 8) (by decide)
  have e12 : H.2.1 22 12 = H.2.1 72 7 := q2 (12, 7) (by decide)
  have e11 : H.2.1 22 11 = H.2.1 72 11 := q2 (11, 11) (by decide)
  have b16 := zB_fr1 (zB_dn (zB_Bc hB)) (p := 22) (k := 16) (r := (0, 8)) rfl
  have b16 : 0 ≤ (H.2.1 22 16).toInt ∧ (H.2.1 22 16).toInt ≤ 8 := b16
  have b12 := zB_fr1 (zB_dn (zB_Bc hB)) (p := 22) (k := 12) (r := (0, 4)) rfl
  have b12 : 0 ≤ (H.2.1 22 12).toInt ∧ (H.2.1 22 12).toInt ≤ 4 := b12
  have hex : ∀ r : Nat, (r : Int) < (H.2.1 72 8).toInt → ∃ C, xOp 37 C ∧ xCl (ywp 3) H r C ∧ xRl 78 80 H r C ∧ (H.2.1 78 r).toInt + ((xR2 C).length : Int) + 1 ≤ 1600 := fun r hr => (q8 r hr).2.2
  have hk : ∀ r : Nat, ∃ C, (r : Int) < (H.2.1 72 8).toInt → xOp 37 C ∧ xCl (ywp 3) H r C ∧ xRl 78 80 H r C ∧ (H.2.1 78 r).toInt + ((xR2 C).length : Int) + 1 ≤ 1600 := fun r => by
    by_cases hr : (r : Int) < (H.2.1 72 8).toInt
    · obtain ⟨C, h⟩ := hex r hr
      exact ⟨C, fun _ => h⟩
    · exact ⟨[], fun h => absurd h hr⟩
  refine ⟨fun r => Classical.choose (hk r), ⟨b16, fun r hr => ?_, fun r hr => ?_⟩, ⟨by rw [← e16]; exact b16, fun r hr => ?_⟩, e16, fun r hr => (q8 r hr).1, e12, fun p hp => ⟨(q7 p hp).1, (q7 p hp).2.1⟩, e11, by rw [← e12]; exact b12⟩
  · rw [e16] at hr
    obtain ⟨a, b, -, -⟩ := Classical.choose_spec (hk r) hr
    exact ⟨a, b, (q8 r hr).2.1⟩
  · have b := zB_ar1 (zB_dn (zB_Bc hB)) (p := 30) (t := 0) (n := 8) (i := r) (r := (0, 3)) rfl (by omega) (by rw [show (zB_al zB_ar 30).1 = 1 from rfl, Nat.mod_one]; rfl)
    have b : 0 ≤ (H.2.1 30 r).toInt ∧ (H.2.1 30 r).toInt ≤ 3 := b
    show -1 ≤ (H.2.1 30 r).toInt ∧ (H.2.1 30 r).toInt ≤ 3
    omega
  · obtain ⟨a, -, b, e⟩ := Classical.choose_spec (hk r) hr
    exact ⟨a, b, e⟩

theorem yb_sails {L : Nat} {σ : Nat → Int32} {d c t : Nat} {H : zp_H} {x1 x2 x3 : Int32} (hI : yJ c t H) : ∃ H1 H2 v w, zp_Call L σ (d + 60) 135 [.inr (.inr (some 1)), .inl x1, .inl x2, .inl x3, .inr (.inr (some 105))] H (.inl (some (.inl v)), H1) ∧ zp_Call L σ (d + 60) 229 [.inr (.inr (some 73)), .inl x1, .inl x2, .inl x3] H1 (.inl (some (.inl w)), H2) ∧ H1.1 = zB_sh ∧ yJ c t H2 ∧ (H2.2.1 72 0).toInt = v.toInt ∧ (v.toInt = 0 → H2.2.2.1 104 0 = w.toInt64) := by
  obtain ⟨H1, v, c1, hI1⟩ := yp_sails (L := L) (σ := σ) (d := d) (x1 := x1) (x2 := x2) (x3 := x3) hI
  obtain ⟨H2, w, c2, hI2⟩ := yq_sails (L := L) (σ := σ) (d := d) (x1 := x1) (x2 := x2) (x3 := x3) hI1
  have W1 := zB_Wd (zB_dn (zB_Bc hI1.1.1.1))
  obtain ⟨⟨A, a1, a2, a3⟩, -⟩ := id hI.2
  have hr : yGr H := hI.2.2.2.2.2.2
  have n5 := a3.1
  have n0 := a2.1
  have n8 := a1.1
  have h0 := hI.1.2.2.1
  rcases h0 with rfl | rfl
  · have n0 : (H.2.1 13 0).toInt = A.1 := n0
    obtain ⟨hS, hC⟩ := xJ_S0 hI
    obtain ⟨CC, hCC, hCR, e16, e79, e12, e77, e11, b7⟩ := xJ_C0 hI
    have hcp : 0 ≤ (H.2.1 13 0).toInt ∧ (H.2.1 13 0).toInt ≤ 8 := by omega
    have e05 : H.2.1 13 0 = H.2.1 72 5 := Int32.toInt_inj.mp (by rw [n0, ← n5])
    by_cases h : (0 ≤ x1.toInt ∧ x1.toInt < (H.2.1 72 7).toInt) ∧ 0 ≤ x3.toInt ∧ x3.toInt ≤ (Int32.ofInt 2).toInt
    · have hp' : 0 ≤ x1.toInt ∧ x1.toInt < (H.2.1 2 12).toInt := by rw [e12]; exact h.1
      have us := x_us (x := x2) (y := H.2.1 13 0) hcp
      by_cases hu : ((x2.toUInt32 >>> ((H.2.1 13 0).toUInt32 &&& Int32.toUInt32 31)).toInt32).toInt = 0
      rotate_left
      · have e1 := zp_Call_u c1 (yl_saii0 (L := L) (σ := σ) (d := d + 57) hI.1.1.1 hp' h.2 hu)
        cases e1
        have e2 := zp_Call_u c2 (yr_saii (L := L) (σ := σ) (d := d + 57) W1 h.1 h.2 (fun h9 => hu (us.mpr (by rw [e05]; exact h9))))
        cases e2
        exact ⟨_, _, _, _, c1, c2, hI1.1.1.1.1, hI2, congrArg Int32.toInt zw_eq, fun h9 => absurd h9 (by decide)⟩
      have hu2 : 0 ≤ x2.toInt ∧ x2.toInt < (Int32.ofInt 1 <<< (H.2.1 72 5 &&& 31)).toInt := by rw [← e05]; exact us.mp hu
      have hpn : (x1.toInt.toNat : Int) < (H.2.1 72 7).toInt := by omega
      obtain ⟨p5, p6⟩ := e77 _ hpn
      have hpc : xIn (xSo H) (H.2.1 77 (3 * x1.toInt.toNat)).toInt := hr.2.2 _ hpn
      have m0 : ∀ s k, s < A.1 → k < 4 → H.2.1 74 (4 * s + k) = A.2.2.1 s k := fun s k hs hk => a3.2.2.1 s k hs hk
      have hm : ∀ s : Nat, (s : Int) < (H.2.1 13 0).toInt → 0 ≤ (H.2.1 16 s).toInt ∧ (H.2.1 16 s).toInt ≤ 8 := fun s hs => by
        have e : H.2.1 16 s = A.2.2.1 s 2 := a2.2.2.1 s 2 (by omega) (by decide)
        rw [e]
        exact a1.2.2.1 s (by omega)
      have hc : ∀ s : Nat, (s : Int) < (H.2.1 13 0).toInt → xIn (xSo H) (H.2.1 14 s).toInt := fun s hs => by
        have e : H.2.1 14 s = A.2.2.1 s 0 := a2.2.2.1 s 0 (by omega) (by decide)
        have e2 : H.2.1 74 (4 * s) = A.2.2.1 s 0 := a3.2.2.1 s 0 (by omega) (by decide)
        rw [e, ← e2]
        exact hr.1 s (by omega)
      have hw : ∀ s : Nat, (s : Int) < (H.2.1 13 0).toInt → ∀ j, j < (H.2.1 16 s).toInt.toNat → -1 ≤ (H.2.1 18 (8 * s + j)).toInt ∧ (H.2.1 18 (8 * s + j)).toInt ≤ 3 := fun s hs j hj => by
        have hm9 := hm s hs
        have b := zB_ar1 (zB_dn (zB_Bc hI.1.1.1)) (p := 18) (t := 0) (n := 64) (i := 8 * s + j) (r := (0, 3)) rfl (by omega) (by rw [show (zB_al zB_ar 18).1 = 1 from rfl, Nat.mod_one]; rfl)
        have b : 0 ≤ (H.2.1 18 (8 * s + j)).toInt ∧ (H.2.1 18 (8 * s + j)).toInt ≤ 3 := b
        exact ⟨by omega, b.2⟩
      have key : ∀ K, xFk H K → ∀ u, (xPl (xSo H) ((zw_I (zw_J K 104 0 u) 72 0 (Int32.ofInt 0)).2.1 72 11).toInt (fun c h => xWb (xVl (xSo H) c h (xKn (fun s => xWk (xVyr (xSo H) (zw_I (zw_J K 104 0 u) 72 0 (Int32.ofInt 0)) s)) x2 ((zw_I (zw_J K 104 0 u) 72 0 (Int32.ofInt 0)).2.1 72 5).toInt.toNat (Int32.ofInt 0) (Int64.ofNat 0))) ((zw_I (zw_J K 104 0 u) 72 0 (Int32.ofInt 0)).2.1 79) CC ((zw_I (zw_J K 104 0 u) 72 0 (Int32.ofInt 0)).2.1 72 8).toInt.toNat 0) 60 ((zw_I (zw_J K 104 0 u) 72 0 (Int32.ofInt 0)).2.1 77 (3 * x1.toInt.toNat)) ((zw_I (zw_J K 104 0 u) 72 0 (Int32.ofInt 0)).2.1 77 (3 * x1.toInt.toNat + 1)) (xP0 (xSo H) ((zw_I (zw_J K 104 0 u) 72 0 (Int32.ofInt 0)).2.1 72 11).toInt ((zw_I (zw_J K 104 0 u) 72 0 (Int32.ofInt 0)).2.1 77 (3 * x1.toInt.toNat)))) = (xPl (xSo H) (H.2.1 2 11).toInt (fun c h => xWb (xVl (xSo H) c h (xKn (fun s => xWk (xVyc (xSo H) 13 H s)) x2 (H.2.1 13 0).toInt.toNat (Int32.ofInt 0) (Int64.ofNat 0))) (H.2.1 10) CC (H.2.1 2 16).toInt.toNat 0) 60 (H.2.1 7 x1.toInt.toNat) (H.2.1 8 x1.toInt.toNat) (xP0 (xSo H) (H.2.1 2 11).toInt (H.2.1 7 x1.toInt.toNat))) := fun K hK u => by
        have g : ∀ p k, 60 ≤ p → ¬ (p = 72 ∧ k = 0) → (zw_I (zw_J K 104 0 u) 72 0 (Int32.ofInt 0)).2.1 p k = H.2.1 p k := fun p k hp hk => (y_ne hk).trans (hK.2.2.1 p k (by omega) (by omega) (by omega) (by omega) (by omega))
        have g1 : ∀ k, (zw_I (zw_J K 104 0 u) 72 0 (Int32.ofInt 0)).2.1 77 k = H.2.1 77 k := fun k => g 77 k (by decide) (fun h9 => absurd h9.1 (by decide))
        have g5 : (zw_I (zw_J K 104 0 u) 72 0 (Int32.ofInt 0)).2.1 72 5 = H.2.1 72 5 := g 72 5 (by decide) (fun h9 => absurd h9.2 (by decide))
        have g8 : (zw_I (zw_J K 104 0 u) 72 0 (Int32.ofInt 0)).2.1 72 8 = H.2.1 72 8 := g 72 8 (by decide) (fun h9 => absurd h9.2 (by decide))
        have g11 : (zw_I (zw_J K 104 0 u) 72 0 (Int32.ofInt 0)).2.1 72 11 = H.2.1 72 11 := g 72 11 (by decide) (fun h9 => absurd h9.2 (by decide))
        have gk : xKn (fun s => xWk (xVyr (xSo H) (zw_I (zw_J K 104 0 u) 72 0 (Int32.ofInt 0)) s)) x2 (H.2.1 13 0).toInt.toNat (Int32.ofInt 0) (Int64.ofNat 0) = xKn (fun s => xWk (xVyc (xSo H) 13 H s)) x2 (H.2.1 13 0).toInt.toNat (Int32.ofInt 0) (Int64.ofNat 0) := by
          refine xKn_c _ _ _ (by decide) (by rw [show (Int32.ofInt 0).toInt = 0 by decide]; omega) (fun s hs => ?_)
          rw [show (Int32.ofInt 0).toInt = 0 by decide] at hs
          have hsA : s < A.1 := by omega
          have er : xVyr (xSo H) (zw_I (zw_J K 104 0 u) 72 0 (Int32.ofInt 0)) s = xVyc (xSo H) 13 H s := by
            have f4 : ∀ k, (zw_I (zw_J K 104 0 u) 72 0 (Int32.ofInt 0)).2.1 74 k = H.2.1 74 k := fun k => g 74 k (by decide) (fun h9 => absurd h9.1 (by decide))
            have f5 : ∀ k, (zw_I (zw_J K 104 0 u) 72 0 (Int32.ofInt 0)).2.1 75 k = H.2.1 75 k := fun k => g 75 k (by decide) (fun h9 => absurd h9.1 (by decide))
            have l0 : H.2.1 74 (4 * s + 2) = A.2.2.1 s 2 := a3.2.2.1 _ 2 hsA (by decide)
            have l1 : H.2.1 74 (4 * s) = A.2.2.1 s 0 := a3.2.2.1 _ 0 hsA (by decide)
            have l2 : H.2.1 74 (4 * s + 1) = A.2.2.1 s 1 := a3.2.2.1 _ 1 hsA (by decide)
            have k0 : H.2.1 16 s = A.2.2.1 s 2 := a2.2.2.1 _ 2 hsA (by decide)
            have k1 : H.2.1 14 s = A.2.2.1 s 0 := a2.2.2.1 _ 0 hsA (by decide)
            have k2 : H.2.1 15 s = A.2.2.1 s 1 := a2.2.2.1 _ 1 hsA (by decide)
            have hm9 := a1.2.2.1 s hsA
            unfold xVyr xVyc
            show xVy (xSo H) _ _ ((zw_I (zw_J K 104 0 u) 72 0 (Int32.ofInt 0)).2.1 74 (4 * s + 2)).toInt.toNat (Int32.ofInt 0) ((zw_I (zw_J K 104 0 u) 72 0 (Int32.ofInt 0)).2.1 74 (4 * s)) ((zw_I (zw_J K 104 0 u) 72 0 (Int32.ofInt 0)).2.1 74 (4 * s + 1)) = xVy (xSo H) _ _ (H.2.1 16 s).toInt.toNat (Int32.ofInt 0) (H.2.1 14 s) (H.2.1 15 s)
            rw [f4, f4, f4, l0, l1, l2, k0, k1, k2]
            refine xVy_c (m := (A.2.2.1 s 2).toInt.toNat) (fun j hj => ⟨?_, ?_⟩) _ _ _ _ (by decide) (by rw [show (Int32.ofInt 0).toInt = 0 by decide]; omega) (by omega)
            · show (zw_I (zw_J K 104 0 u) 72 0 (Int32.ofInt 0)).2.1 75 (16 * s + 2 * j) = H.2.1 18 (8 * s + j)
              rw [f5]
              exact (a3.2.2.2.1 s j 0 hsA hj (by decide)).trans (a2.2.2.2.1 s j 0 hsA hj (by decide)).symm
            · show (zw_I (zw_J K 104 0 u) 72 0 (Int32.ofInt 0)).2.1 75 (16 * s + 2 * j + 1) = H.2.1 19 (8 * s + j)
              rw [f5]
              exact (a3.2.2.2.1 s j 1 hsA hj (by decide)).trans (a2.2.2.2.1 s j 1 hsA hj (by decide)).symm
          show xWk _ = xWk _
          rw [er]
        rw [g1, g1, g5, g8, g11, ← e05, gk, ← e11, ← e16, ← p5, ← p6]
        refine congrFun (congrFun (congrFun (congrFun (xPl_c (fun c h => xWb_c _ _ (fun r hr9 => ?_)) ) _) _) _) _
        have hr9 : r < 0 + (H.2.1 2 16).toInt.toNat := hr9
        rw [g 79 r (by decide) (fun h9 => absurd h9.1 (by decide))]
        exact (e79 r (by rw [← e16]; omega)).symm
      rcases y012s h.2 with rfl | rfl | rfl
      · obtain ⟨K, k1, k2⟩ := yl_sai0_0 (L := L) (σ := σ) (d := d + 52) (x1 := x1) (x2 := x2) hI.1.1.1 hS hC hCC hp' (by rw [p5]; exact hpc) hm hw hc hu
        have e1 := zp_Call_u c1 k1
        cases e1
        have g : ∀ p k, 60 ≤ p → ¬ (p = 72 ∧ k = 0) → (zw_I (zw_J K 104 0 ((xPl (xSo H) (H.2.1 2 11).toInt (fun c h => xWb (xVl (xSo H) c h (xKn (fun s => xWk (xVyc (xSo H) 13 H s)) x2 (H.2.1 13 0).toInt.toNat (Int32.ofInt 0) (Int64.ofNat 0))) (H.2.1 10) CC (H.2.1 2 16).toInt.toNat 0) 60 (H.2.1 7 x1.toInt.toNat) (H.2.1 8 x1.toInt.toNat) (xP0 (xSo H) (H.2.1 2 11).toInt (H.2.1 7 x1.toInt.toNat))).2.2).toInt64) 72 0 (Int32.ofInt 0)).2.1 p k = H.2.1 p k := fun p k hp hk => (y_ne hk).trans (k2.2.2.1 p k (by omega) (by omega) (by omega) (by omega) (by omega))
        have g0 : ∀ k, (zw_J K 104 0 ((xPl (xSo H) (H.2.1 2 11).toInt (fun c h => xWb (xVl (xSo H) c h (xKn (fun s => xWk (xVyc (xSo H) 13 H s)) x2 (H.2.1 13 0).toInt.toNat (Int32.ofInt 0) (Int64.ofNat 0))) (H.2.1 10) CC (H.2.1 2 16).toInt.toNat 0) 60 (H.2.1 7 x1.toInt.toNat) (H.2.1 8 x1.toInt.toNat) (xP0 (xSo H) (H.2.1 2 11).toInt (H.2.1 7 x1.toInt.toNat))).2.2).toInt64).2.1 72 k = H.2.1 72 k := fun k => k2.2.2.1 72 k (by decide) (by decide) (by decide) (by decide) (by omega)
        have g5 : (zw_I (zw_J K 104 0 ((xPl (xSo H) (H.2.1 2 11).toInt (fun c h => xWb (xVl (xSo H) c h (xKn (fun s => xWk (xVyc (xSo H) 13 H s)) x2 (H.2.1 13 0).toInt.toNat (Int32.ofInt 0) (Int64.ofNat 0))) (H.2.1 10) CC (H.2.1 2 16).toInt.toNat 0) 60 (H.2.1 7 x1.toInt.toNat) (H.2.1 8 x1.toInt.toNat) (xP0 (xSo H) (H.2.1 2 11).toInt (H.2.1 7 x1.toInt.toNat))).2.2).toInt64) 72 0 (Int32.ofInt 0)).2.1 72 5 = H.2.1 72 5 := g 72 5 (by decide) (fun h9 => absurd h9.2 (by decide))
        obtain ⟨_, j1, J, rfl, j2⟩ := yr_sai0 (L := L) (σ := σ) (d := d + 54) (S := xSo H) (CC := CC) (x1 := x1) (x2 := x2) W1 hS (xSR_J (xSR_k k2 (xSR_o H))) (xCR_f (g 72 8 (by decide) (fun h9 => absurd h9.2 (by decide))) (fun k => g 78 k (by decide) (fun h9 => absurd h9.1 (by decide))) (fun k => g 80 k (by decide) (fun h9 => absurd h9.1 (by decide))) hCR) (by rw [g0]; exact h.1) (by omega) (by rw [g 77 _ (by decide) (fun h9 => absurd h9.1 (by decide))]; exact hpc) (by rw [g5, ← e05]; exact hcp) (fun s hs => by
          rw [g5, ← e05] at hs
          rw [g 74 _ (by decide) (fun h9 => absurd h9.1 (by decide)), m0 s 2 (by omega) (by decide)]
          exact a1.2.2.1 s (by omega)) (fun s hs => by
          rw [g5] at hs
          rw [g 74 _ (by decide) (fun h9 => absurd h9.1 (by decide))]
          exact hr.1 s hs) (by rw [g0]; exact hu2)
        have e2 := zp_Call_u c2 j1
        cases e2
        refine ⟨_, _, _, _, c1, c2, hI1.1.1.1.1, hI2, (congrArg Int32.toInt (j2.2.2.1 72 0 (fun h9 => by have := h9.2; omega) (by decide))).trans (congrArg Int32.toInt zw_eq), fun _ => ?_⟩
        rw [key K k2, j2.2.2.2 104 0 (fun h9 => absurd h9.1 (by decide)) (by decide)]
        exact zp_u_self K.2.2.1 104 0 _
      · obtain ⟨K, k1, k2⟩ := yl_sai0_1 (L := L) (σ := σ) (d := d + 52) (x1 := x1) (x2 := x2) hI.1.1.1 hS hC hCC hp' (by rw [p5]; exact hpc) hm hw hc hu
        have e1 := zp_Call_u c1 k1
        cases e1
        have g : ∀ p k, 60 ≤ p → ¬ (p = 72 ∧ k = 0) → (zw_I (zw_J K 104 0 ((xPl (xSo H) (H.2.1 2 11).toInt (fun c h => xWb (xVl (xSo H) c h (xKn (fun s => xWk (xVyc (xSo H) 13 H s)) x2 (H.2.1 13 0).toInt.toNat (Int32.ofInt 0) (Int64.ofNat 0))) (H.2.1 10) CC (H.2.1 2 16).toInt.toNat 0) 60 (H.2.1 7 x1.toInt.toNat) (H.2.1 8 x1.toInt.toNat) (xP0 (xSo H) (H.2.1 2 11).toInt (H.2.1 7 x1.toInt.toNat))).1).toInt64) 72 0 (Int32.ofInt 0)).2.1 p k = H.2.1 p k := fun p k hp hk => (y_ne hk).trans (k2.2.2.1 p k (by omega) (by omega) (by omega) (by omega) (by omega))
        have g0 : ∀ k, (zw_J K 104 0 ((xPl (xSo H) (H.2.1 2 11).toInt (fun c h => xWb (xVl (xSo H) c h (xKn (fun s => xWk (xVyc (xSo H) 13 H s)) x2 (H.2.1 13 0).toInt.toNat (Int32.ofInt 0) (Int64.ofNat 0))) (H.2.1 10) CC (H.2.1 2 16).toInt.toNat 0) 60 (H.2.1 7 x1.toInt.toNat) (H.2.1 8 x1.toInt.toNat) (xP0 (xSo H) (H.2.1 2 11).toInt (H.2.1 7 x1.toInt.toNat))).1).toInt64).2.1 72 k = H.2.1 72 k := fun k => k2.2.2.1 72 k (by decide) (by decide) (by decide) (by decide) (by omega)
        have g5 : (zw_I (zw_J K 104 0 ((xPl (xSo H) (H.2.1 2 11).toInt (fun c h => xWb (xVl (xSo H) c h (xKn (fun s => xWk (xVyc (xSo H) 13 H s)) x2 (H.2.1 13 0).toInt.toNat (Int32.ofInt 0) (Int64.ofNat 0))) (H.2.1 10) CC (H.2.1 2 16).toInt.toNat 0) 60 (H.2.1 7 x1.toInt.toNat) (H.2.1 8 x1.toInt.toNat) (xP0 (xSo H) (H.2.1 2 11).toInt (H.2.1 7 x1.toInt.toNat))).1).toInt64) 72 0 (Int32.ofInt 0)).2.1 72 5 = H.2.1 72 5 := g 72 5 (by decide) (fun h9 => absurd h9.2 (by decide))
        obtain ⟨_, j1, J, rfl, j2⟩ := yr_sai1 (L := L) (σ := σ) (d := d + 54) (S := xSo H) (CC := CC) (x1 := x1) (x2 := x2) W1 hS (xSR_J (xSR_k k2 (xSR_o H))) (xCR_f (g 72 8 (by decide) (fun h9 => absurd h9.2 (by decide))) (fun k => g 78 k (by decide) (fun h9 => absurd h9.1 (by decide))) (fun k => g 80 k (by decide) (fun h9 => absurd h9.1 (by decide))) hCR) (by rw [g0]; exact h.1) (by omega) (by rw [g 77 _ (by decide) (fun h9 => absurd h9.1 (by decide))]; exact hpc) (by rw [g5, ← e05]; exact hcp) (fun s hs => by
          rw [g5, ← e05] at hs
          rw [g 74 _ (by decide) (fun h9 => absurd h9.1 (by decide)), m0 s 2 (by omega) (by decide)]
          exact a1.2.2.1 s (by omega)) (fun s hs => by
          rw [g5] at hs
          rw [g 74 _ (by decide) (fun h9 => absurd h9.1 (by decide))]
          exact hr.1 s hs) (by rw [g0]; exact hu2)
        have e2 := zp_Call_u c2 j1
        cases e2
        refine ⟨_, _, _, _, c1, c2, hI1.1.1.1.1, hI2, (congrArg Int32.toInt (j2.2.2.1 72 0 (fun h9 => by have := h9.2; omega) (by decide))).trans (congrArg Int32.toInt zw_eq), fun _ => ?_⟩
        rw [key K k2, j2.2.2.2 104 0 (fun h9 => absurd h9.1 (by decide)) (by decide)]
        exact zp_u_self K.2.2.1 104 0 _
      · obtain ⟨K, k1, k2⟩ := yl_sai0_2 (L := L) (σ := σ) (d := d + 52) (x1 := x1) (x2 := x2) hI.1.1.1 hS hC hCC hp' (by rw [p5]; exact hpc) hm hw hc hu
        have e1 := zp_Call_u c1 k1
        cases e1
        have g : ∀ p k, 60 ≤ p → ¬ (p = 72 ∧ k = 0) → (zw_I (zw_J K 104 0 ((xPl (xSo H) (H.2.1 2 11).toInt (fun c h => xWb (xVl (xSo H) c h (xKn (fun s => xWk (xVyc (xSo H) 13 H s)) x2 (H.2.1 13 0).toInt.toNat (Int32.ofInt 0) (Int64.ofNat 0))) (H.2.1 10) CC (H.2.1 2 16).toInt.toNat 0) 60 (H.2.1 7 x1.toInt.toNat) (H.2.1 8 x1.toInt.toNat) (xP0 (xSo H) (H.2.1 2 11).toInt (H.2.1 7 x1.toInt.toNat))).2.1).toInt64) 72 0 (Int32.ofInt 0)).2.1 p k = H.2.1 p k := fun p k hp hk => (y_ne hk).trans (k2.2.2.1 p k (by omega) (by omega) (by omega) (by omega) (by omega))
        have g0 : ∀ k, (zw_J K 104 0 ((xPl (xSo H) (H.2.1 2 11).toInt (fun c h => xWb (xVl (xSo H) c h (xKn (fun s => xWk (xVyc (xSo H) 13 H s)) x2 (H.2.1 13 0).toInt.toNat (Int32.ofInt 0) (Int64.ofNat 0))) (H.2.1 10) CC (H.2.1 2 16).toInt.toNat 0) 60 (H.2.1 7 x1.toInt.toNat) (H.2.1 8 x1.toInt.toNat) (xP0 (xSo H) (H.2.1 2 11).toInt (H.2.1 7 x1.toInt.toNat))).2.1).toInt64).2.1 72 k = H.2.1 72 k := fun k => k2.2.2.1 72 k (by decide) (by decide) (by decide) (by decide) (by omega)
        have g5 : (zw_I (zw_J K 104 0 ((xPl (xSo H) (H.2.1 2 11).toInt (fun c h => xWb (xVl (xSo H) c h (xKn (fun s => xWk (xVyc (xSo H) 13 H s)) x2 (H.2.1 13 0).toInt.toNat (Int32.ofInt 0) (Int64.ofNat 0))) (H.2.1 10) CC (H.2.1 2 16).toInt.toNat 0) 60 (H.2.1 7 x1.toInt.toNat) (H.2.1 8 x1.toInt.toNat) (xP0 (xSo H) (H.2.1 2 11).toInt (H.2.1 7 x1.toInt.toNat))).2.1).toInt64) 72 0 (Int32.ofInt 0)).2.1 72 5 = H.2.1 72 5 := g 72 5 (by decide) (fun h9 => absurd h9.2 (by decide))
        obtain ⟨_, j1, J, rfl, j2⟩ := yr_sai2 (L := L) (σ := σ) (d := d + 54) (S := xSo H) (CC := CC) (x1 := x1) (x2 := x2) W1 hS (xSR_J (xSR_k k2 (xSR_o H))) (xCR_f (g 72 8 (by decide) (fun h9 => absurd h9.2 (by decide))) (fun k => g 78 k (by decide) (fun h9 => absurd h9.1 (by decide))) (fun k => g 80 k (by decide) (fun h9 => absurd h9.1 (by decide))) hCR) (by rw [g0]; exact h.1) (by omega) (by rw [g 77 _ (by decide) (fun h9 => absurd h9.1 (by decide))]; exact hpc) (by rw [g5, ← e05]; exact hcp) (fun s hs => by
          rw [g5, ← e05] at hs
          rw [g 74 _ (by decide) (fun h9 => absurd h9.1 (by decide)), m0 s 2 (by omega) (by decide)]
          exact a1.2.2.1 s (by omega)) (fun s hs => by
          rw [g5] at hs
          rw [g 74 _ (by decide) (fun h9 => absurd h9.1 (by decide))]
          exact hr.1 s hs) (by rw [g0]; exact hu2)
        have e2 := zp_Call_u c2 j1
        cases e2
        refine ⟨_, _, _, _, c1, c2, hI1.1.1.1.1, hI2, (congrArg Int32.toInt (j2.2.2.1 72 0 (fun h9 => by have := h9.2; omega) (by decide))).trans (congrArg Int32.toInt zw_eq), fun _ => ?_⟩
        rw [key K k2, j2.2.2.2 104 0 (fun h9 => absurd h9.1 (by decide)) (by decide)]
        exact zp_u_self K.2.2.1 104 0 _
    · have e1 := zp_Call_u c1 (yl_sain0 (L := L) (σ := σ) (d := d + 57) hI.1.1.1 (by rw [e12]; exact h))
      cases e1
      have e2 := zp_Call_u c2 (yr_sain (L := L) (σ := σ) (d := d + 57) W1 h)
      cases e2
      exact ⟨_, _, _, _, c1, c2, hI1.1.1.1.1, hI2, congrArg Int32.toInt zw_eq, fun h9 => absurd h9 (by decide)⟩
  · have n0 : (H.2.1 33 0).toInt = A.1 := n0
    obtain ⟨hS, hC⟩ := xJ_S3 hI
    obtain ⟨CC, hCC, hCR, e16, e79, e12, e77, e11, b7⟩ := xJ_C3 hI
    have hcp : 0 ≤ (H.2.1 33 0).toInt ∧ (H.2.1 33 0).toInt ≤ 8 := by omega
    have e05 : H.2.1 33 0 = H.2.1 72 5 := Int32.toInt_inj.mp (by rw [n0, ← n5])
    by_cases h : (0 ≤ x1.toInt ∧ x1.toInt < (H.2.1 72 7).toInt) ∧ 0 ≤ x3.toInt ∧ x3.toInt ≤ (Int32.ofInt 2).toInt
    · have hp' : 0 ≤ x1.toInt ∧ x1.toInt < (H.2.1 22 12).toInt := by rw [e12]; exact h.1
      have us := x_us (x := x2) (y := H.2.1 33 0) hcp
      by_cases hu : ((x2.toUInt32 >>> ((H.2.1 33 0).toUInt32 &&& Int32.toUInt32 31)).toInt32).toInt = 0
      rotate_left
      · have e1 := zp_Call_u c1 (yl_saii3 (L := L) (σ := σ) (d := d + 57) hI.1.1.1 hp' h.2 hu)
        cases e1
        have e2 := zp_Call_u c2 (yr_saii (L := L) (σ := σ) (d := d + 57) W1 h.1 h.2 (fun h9 => hu (us.mpr (by rw [e05]; exact h9))))
        cases e2
        exact ⟨_, _, _, _, c1, c2, hI1.1.1.1.1, hI2, congrArg Int32.toInt zw_eq, fun h9 => absurd h9 (by decide)⟩
      have hu2 : 0 ≤ x2.toInt ∧ x2.toInt < (Int32.ofInt 1 <<< (H.2.1 72 5 &&& 31)).toInt := by rw [← e05]; exact us.mp hu
      have hpn : (x1.toInt.toNat : Int) < (H.2.1 72 7).toInt := by omega
      obtain ⟨p5, p6⟩ := e77 _ hpn
      have hpc : xIn (xSo H) (H.2.1 77 (3 * x1.toInt.toNat)).toInt := hr.2.2 _ hpn
      have m0 : ∀ s k, s < A.1 → k < 4 → H.2.1 74 (4 * s + k) = A.2.2.1 s k := fun s k hs hk => a3.2.2.1 s k hs hk
      have hm : ∀ s : Nat, (s : Int) < (H.2.1 33 0).toInt → 0 ≤ (H.2.1 36 s).toInt ∧ (H.2.1 36 s).toInt ≤ 8 := fun s hs => by
        have e : H.2.1 36 s = A.2.2.1 s 2 := a2.2.2.1 s 2 (by omega) (by decide)
        rw [e]
        exact a1.2.2.1 s (by omega)
      have hc : ∀ s : Nat, (s : Int) < (H.2.1 33 0).toInt → xIn (xSo H) (H.2.1 34 s).toInt := fun s hs => by
        have e : H.2.1 34 s = A.2.2.1 s 0 := a2.2.2.1 s 0 (by omega) (by decide)
        have e2 : H.2.1 74 (4 * s) = A.2.2.1 s 0 := a3.2.2.1 s 0 (by omega) (by decide)
        rw [e, ← e2]
        exact hr.1 s (by omega)
      have hw : ∀ s : Nat, (s : Int) < (H.2.1 33 0).toInt → ∀ j, j < (H.2.1 36 s).toInt.toNat → -1 ≤ (H.2.1 38 (8 * s + j)).toInt ∧ (H.2.1 38 (8 * s + j)).toInt ≤ 3 := fun s hs j hj => by
        have hm9 := hm s hs
        have b := zB_ar1 (zB_dn (zB_Bc hI.1.1.1)) (p := 38) (t := 0) (n := 64) (i := 8 * s + j) (r := (0, 3)) rfl (by omega) (by rw [show (zB_al zB_ar 38).1 = 1 from rfl, Nat.mod_one]; rfl)
        have b : 0 ≤ (H.2.1 38 (8 * s + j)).toInt ∧ (H.2.1 38 (8 * s + j)).toInt ≤ 3 := b
        exact ⟨by omega, b.2⟩
      have key : ∀ K, xFk H K → ∀ u, (xPl (xSo H) ((zw_I (zw_J K 104 0 u) 72 0 (Int32.ofInt 0)).2.1 72 11).toInt (fun c h => xWb (xVl (xSo H) c h (xKn (fun s => xWk (xVyr (xSo H) (zw_I (zw_J K 104 0 u) 72 0 (Int32.ofInt 0)) s)) x2 ((zw_I (zw_J K 104 0 u) 72 0 (Int32.ofInt 0)).2.1 72 5).toInt.toNat (Int32.ofInt 0) (Int64.ofNat 0))) ((zw_I (zw_J K 104 0 u) 72 0 (Int32.ofInt 0)).2.1 79) CC ((zw_I (zw_J K 104 0 u) 72 0 (Int32.ofInt 0)).2.1 72 8).toInt.toNat 0) 60 ((zw_I (zw_J K 104 0 u) 72 0 (Int32.ofInt 0)).2.1 77 (3 * x1.toInt.toNat)) ((zw_I (zw_J K 104 0 u) 72 0 (Int32.ofInt 0)).2.1 77 (3 * x1.toInt.toNat + 1)) (xP0 (xSo H) ((zw_I (zw_J K 104 0 u) 72 0 (Int32.ofInt 0)).2.1 72 11).toInt ((zw_I (zw_J K 104 0 u) 72 0 (Int32.ofInt 0)).2.1 77 (3 * x1.toInt.toNat)))) = (xPl (xSo H) (H.2.1 22 11).toInt (fun c h => xWb (xVl (xSo H) c h (xKn (fun s => xWk (xVyc (xSo H) 33 H s)) x2 (H.2.1 33 0).toInt.toNat (Int32.ofInt 0) (Int64.ofNat 0))) (H.2.1 30) CC (H.2.1 22 16).toInt.toNat 0) 60 (H.2.1 27 x1.toInt.toNat) (H.2.1 28 x1.toInt.toNat) (xP0 (xSo H) (H.2.1 22 11).toInt (H.2.1 27 x1.toInt.toNat))) := fun K hK u => by
        have g : ∀ p k, 60 ≤ p → ¬ (p = 72 ∧ k = 0) → (zw_I (zw_J K 104 0 u) 72 0 (Int32.ofInt 0)).2.1 p k = H.2.1 p k := fun p k hp hk => (y_ne hk).trans (hK.2.2.1 p k (by omega) (by omega) (by omega) (by omega) (by omega))
        have g1 : ∀ k, (zw_I (zw_J K 104 0 u) 72 0 (Int32.ofInt 0)).2.1 77 k = H.2.1 77 k := fun k => g 77 k (by decide) (fun h9 => absurd h9.1 (by decide))
        have g5 : (zw_I (zw_J K 104 0 u) 72 0 (Int32.ofInt 0)).2.1 72 5 = H.2.1 72 5 := g 72 5 (by decide) (fun h9 => absurd h9.2 (by decide))
        have g8 : (zw_I (zw_J K 104 0 u) 72 0 (Int32.ofInt 0)).2.1 72 8 = H.2.1 72 8 := g 72 8 (by decide) (fun h9 => absurd h9.2 (by decide))
        have g11 : (zw_I (zw_J K 104 0 u) 72 0 (Int32.ofInt 0)).2.1 72 11 = H.2.1 72 11 := g 72 11 (by decide) (fun h9 => absurd h9.2 (by decide))
        have gk : xKn (fun s => xWk (xVyr (xSo H) (zw_I (zw_J K 104 0 u) 72 0 (Int32.ofInt 0)) s)) x2 (H.2.1 33 0).toInt.toNat (Int32.ofInt 0) (Int64.ofNat 0) = xKn (fun s => xWk (xVyc (xSo H) 33 H s)) x2 (H.2.1 33 0).toInt.toNat (Int32.ofInt 0) (Int64.ofNat 0) := by
          refine xKn_c _ _ _ (by decide) (by rw [show (Int32.ofInt 0).toInt = 0 by decide]; omega) (fun s hs => ?_)
          rw [show (Int32.ofInt 0).toInt = 0 by decide] at hs
          have hsA : s < A.1 := by omega
          have er : xVyr (xSo H) (zw_I (zw_J K 104 0 u) 72 0 (Int32.ofInt 0)) s = xVyc (xSo H) 33 H s := by
            have f4 : ∀ k, (zw_I (zw_J K 104 0 u) 72 0 (Int32.ofInt 0)).2.1 74 k = H.2.1 74 k := fun k => g 74 k (by decide) (fun h9 => absurd h9.1 (by decide))
            have f5 : ∀ k, (zw_I (zw_J K 104 0 u) 72 0 (Int32.ofInt 0)).2.1 75 k = H.2.1 75 k := fun k => g 75 k (by decide) (fun h9 => absurd h9.1 (by decide))
            have l0 : H.2.1 74 (4 * s + 2) = A.2.2.1 s 2 := a3.2.2.1 _ 2 hsA (by decide)
            have l1 : H.2.1 74 (4 * s) = A.2.2.1 s 0 := a3.2.2.1 _ 0 hsA (by decide)
            have l2 : H.2.1 74 (4 * s + 1) = A.2.2.1 s 1 := a3.2.2.1 _ 1 hsA (by decide)
            have k0 : H.2.1 36 s = A.2.2.1 s 2 := a2.2.2.1 _ 2 hsA (by decide)
            have k1 : H.2.1 34 s = A.2.2.1 s 0 := a2.2.2.1 _ 0 hsA (by decide)
            have k2 : H.2.1 35 s = A.2.2.1 s 1 := a2.2.2.1 _ 1 hsA (by decide)
            have hm9 := a1.2.2.1 s hsA
            unfold xVyr xVyc
            show xVy (xSo H) _ _ ((zw_I (zw_J K 104 0 u) 72 0 (Int32.ofInt 0)).2.1 74 (4 * s + 2)).toInt.toNat (Int32.ofInt 0) ((zw_I (zw_J K 104 0 u) 72 0 (Int32.ofInt 0)).2.1 74 (4 * s)) ((zw_I (zw_J K 104 0 u) 72 0 (Int32.ofInt 0)).2.1 74 (4 * s + 1)) = xVy (xSo H) _ _ (H.2.1 36 s).toInt.toNat (Int32.ofInt 0) (H.2.1 34 s) (H.2.1 35 s)
            rw [f4, f4, f4, l0, l1, l2, k0, k1, k2]
            refine xVy_c (m := (A.2.2.1 s 2).toInt.toNat) (fun j hj => ⟨?_, ?_⟩) _ _ _ _ (by decide) (by rw [show (Int32.ofInt 0).toInt = 0 by decide]; omega) (by omega)
            · show (zw_I (zw_J K 104 0 u) 72 0 (Int32.ofInt 0)).2.1 75 (16 * s + 2 * j) = H.2.1 38 (8 * s + j)
              rw [f5]
              exact (a3.2.2.2.1 s j 0 hsA hj (by decide)).trans (a2.2.2.2.1 s j 0 hsA hj (by decide)).symm
            · show (zw_I (zw_J K 104 0 u) 72 0 (Int32.ofInt 0)).2.1 75 (16 * s + 2 * j + 1) = H.2.1 39 (8 * s + j)
              rw [f5]
              exact (a3.2.2.2.1 s j 1 hsA hj (by decide)).trans (a2.2.2.2.1 s j 1 hsA hj (by decide)).symm
          show xWk _ = xWk _
          rw [er]
        rw [g1, g1, g5, g8, g11, ← e05, gk, ← e11, ← e16, ← p5, ← p6]
        refine congrFun (congrFun (congrFun (congrFun (xPl_c (fun c h => xWb_c _ _ (fun r hr9 => ?_)) ) _) _) _) _
        have hr9 : r < 0 + (H.2.1 22 16).toInt.toNat := hr9
        rw [g 79 r (by decide) (fun h9 => absurd h9.1 (by decide))]
        exact (e79 r (by rw [← e16]; omega)).symm
      rcases y012s h.2 with rfl | rfl | rfl
      · obtain ⟨K, k1, k2⟩ := yl_sai3_0 (L := L) (σ := σ) (d := d + 52) (x1 := x1) (x2 := x2) hI.1.1.1 hS hC hCC hp' (by rw [p5]; exact hpc) hm hw hc hu
        have e1 := zp_Call_u c1 k1
        cases e1
        have g : ∀ p k, 60 ≤ p → ¬ (p = 72 ∧ k = 0) → (zw_I (zw_J K 104 0 ((xPl (xSo H) (H.2.1 22 11).toInt (fun c h => xWb (xVl (xSo H) c h (xKn (fun s => xWk (xVyc (xSo H) 33 H s)) x2 (H.2.1 33 0).toInt.toNat (Int32.ofInt 0) (Int64.ofNat 0))) (H.2.1 30) CC (H.2.1 22 16).toInt.toNat 0) 60 (H.2.1 27 x1.toInt.toNat) (H.2.1 28 x1.toInt.toNat) (xP0 (xSo H) (H.2.1 22 11).toInt (H.2.1 27 x1.toInt.toNat))).2.2).toInt64) 72 0 (Int32.ofInt 0)).2.1 p k = H.2.1 p k := fun p k hp hk => (y_ne hk).trans (k2.2.2.1 p k (by omega) (by omega) (by omega) (by omega) (by omega))
        have g0 : ∀ k, (zw_J K 104 0 ((xPl (xSo H) (H.2.1 22 11).toInt (fun c h => xWb (xVl (xSo H) c h (xKn (fun s => xWk (xVyc (xSo H) 33 H s)) x2 (H.2.1 33 0).toInt.toNat (Int32.ofInt 0) (Int64.ofNat 0))) (H.2.1 30) CC (H.2.1 22 16).toInt.toNat 0) 60 (H.2.1 27 x1.toInt.toNat) (H.2.1 28 x1.toInt.toNat) (xP0 (xSo H) (H.2.1 22 11).toInt (H.2.1 27 x1.toInt.toNat))).2.2).toInt64).2.1 72 k = H.2.1 72 k := fun k => k2.2.2.1 72 k (by decide) (by decide) (by decide) (by decide) (by omega)
        have g5 : (zw_I (zw_J K 104 0 ((xPl (xSo H) (H.2.1 22 11).toInt (fun c h => xWb (xVl (xSo H) c h (xKn (fun s => xWk (xVyc (xSo H) 33 H s)) x2 (H.2.1 33 0).toInt.toNat (Int32.ofInt 0) (Int64.ofNat 0))) (H.2.1 30) CC (H.2.1 22 16).toInt.toNat 0) 60 (H.2.1 27 x1.toInt.toNat) (H.2.1 28 x1.toInt.toNat) (xP0 (xSo H) (H.2.1 22 11).toInt (H.2.1 27 x1.toInt.toNat))).2.2).toInt64) 72 0 (Int32.ofInt 0)).2.1 72 5 = H.2.1 72 5 := g 72 5 (by decide) (fun h9 => absurd h9.2 (by decide))
        obtain ⟨_, j1, J, rfl, j2⟩ := yr_sai0 (L := L) (σ := σ) (d := d + 54) (S := xSo H) (CC := CC) (x1 := x1) (x2 := x2) W1 hS (xSR_J (xSR_k k2 (xSR_o H))) (xCR_f (g 72 8 (by decide) (fun h9 => absurd h9.2 (by decide))) (fun k => g 78 k (by decide) (fun h9 => absurd h9.1 (by decide))) (fun k => g 80 k (by decide) (fun h9 => absurd h9.1 (by decide))) hCR) (by rw [g0]; exact h.1) (by omega) (by rw [g 77 _ (by decide) (fun h9 => absurd h9.1 (by decide))]; exact hpc) (by rw [g5, ← e05]; exact hcp) (fun s hs => by
          rw [g5, ← e05] at hs
          rw [g 74 _ (by decide) (fun h9 => absurd h9.1 (by decide)), m0 s 2 (by omega) (by decide)]
          exact a1.2.2.1 s (by omega)) (fun s hs => by
          rw [g5] at hs
          rw [g 74 _ (by decide) (fun h9 => absurd h9.1 (by decide))]
          exact hr.1 s hs) (by rw [g0]; exact hu2)
        have e2 := zp_Call_u c2 j1
        cases e2
        refine ⟨_, _, _, _, c1, c2, hI1.1.1.1.1, hI2, (congrArg Int32.toInt (j2.2.2.1 72 0 (fun h9 => by have := h9.2; omega) (by decide))).trans (congrArg Int32.toInt zw_eq), fun _ => ?_⟩
        rw [key K k2, j2.2.2.2 104 0 (fun h9 => absurd h9.1 (by decide)) (by decide)]
        exact zp_u_self K.2.2.1 104 0 _
      · obtain ⟨K, k1, k2⟩ := yl_sai3_1 (L := L) (σ := σ) (d := d + 52) (x1 := x1) (x2 := x2) hI.1.1.1 hS hC hCC hp' (by rw [p5]; exact hpc) hm hw hc hu
        have e1 := zp_Call_u c1 k1
        cases e1
        have g : ∀ p k, 60 ≤ p → ¬ (p = 72 ∧ k = 0) → (zw_I (zw_J K 104 0 ((xPl (xSo H) (H.2.1 22 11).toInt (fun c h => xWb (xVl (xSo H) c h (xKn (fun s => xWk (xVyc (xSo H) 33 H s)) x2 (H.2.1 33 0).toInt.toNat (Int32.ofInt 0) (Int64.ofNat 0))) (H.2.1 30) CC (H.2.1 22 16).toInt.toNat 0) 60 (H.2.1 27 x1.toInt.toNat) (H.2.1 28 x1.toInt.toNat) (xP0 (xSo H) (H.2.1 22 11).toInt (H.2.1 27 x1.toInt.toNat))).1).toInt64) 72 0 (Int32.ofInt 0)).2.1 p k = H.2.1 p k := fun p k hp hk => (y_ne hk).trans (k2.2.2.1 p k (by omega) (by omega) (by omega) (by omega) (by omega))
        have g0 : ∀ k, (zw_J K 104 0 ((xPl (xSo H) (H.2.1 22 11).toInt (fun c h => xWb (xVl (xSo H) c h (xKn (fun s => xWk (xVyc (xSo H) 33 H s)) x2 (H.2.1 33 0).toInt.toNat (Int32.ofInt 0) (Int64.ofNat 0))) (H.2.1 30) CC (H.2.1 22 16).toInt.toNat 0) 60 (H.2.1 27 x1.toInt.toNat) (H.2.1 28 x1.toInt.toNat) (xP0 (xSo H) (H.2.1 22 11).toInt (H.2.1 27 x1.toInt.toNat))).1).toInt64).2.1 72 k = H.2.1 72 k := fun k => k2.2.2.1 72 k (by decide) (by decide) (by decide) (by decide) (by omega)
        have g5 : (zw_I (zw_J K 104 0 ((xPl (xSo H) (H.2.1 22 11).toInt (fun c h => xWb (xVl (xSo H) c h (xKn (fun s => xWk (xVyc (xSo H) 33 H s)) x2 (H.2.1 33 0).toInt.toNat (Int32.ofInt 0) (Int64.ofNat 0))) (H.2.1 30) CC (H.2.1 22 16).toInt.toNat 0) 60 (H.2.1 27 x1.toInt.toNat) (H.2.1 28 x1.toInt.toNat) (xP0 (xSo H) (H.2.1 22 11).toInt (H.2.1 27 x1.toInt.toNat))).1).toInt64) 72 0 (Int32.ofInt 0)).2.1 72 5 = H.2.1 72 5 := g 72 5 (by decide) (fun h9 => absurd h9.2 (by decide))
        obtain ⟨_, j1, J, rfl, j2⟩ := yr_sai1 (L := L) (σ := σ) (d := d + 54) (S := xSo H) (CC := CC) (x1 := x1) (x2 := x2) W1 hS (xSR_J (xSR_k k2 (xSR_o H))) (xCR_f (g 72 8 (by decide) (fun h9 => absurd h9.2 (by decide))) (fun k => g 78 k (by decide) (fun h9 => absurd h9.1 (by decide))) (fun k => g 80 k (by decide) (fun h9 => absurd h9.1 (by decide))) hCR) (by rw [g0]; exact h.1) (by omega) (by rw [g 77 _ (by decide) (fun h9 => absurd h9.1 (by decide))]; exact hpc) (by rw [g5, ← e05]; exact hcp) (fun s hs => by
          rw [g5, ← e05] at hs
          rw [g 74 _ (by decide) (fun h9 => absurd h9.1 (by decide)), m0 s 2 (by omega) (by decide)]
          exact a1.2.2.1 s (by omega)) (fun s hs => by
          rw [g5] at hs
          rw [g 74 _ (by decide) (fun h9 => absurd h9.1 (by decide))]
          exact hr.1 s hs) (by rw [g0]; exact hu2)
        have e2 := zp_Call_u c2 j1
        cases e2
        refine ⟨_, _, _, _, c1, c2, hI1.1.1.1.1, hI2, (congrArg Int32.toInt (j2.2.2.1 72 0 (fun h9 => by have := h9.2; omega) (by decide))).trans (congrArg Int32.toInt zw_eq), fun _ => ?_⟩
        rw [key K k2, j2.2.2.2 104 0 (fun h9 => absurd h9.1 (by decide)) (by decide)]
        exact zp_u_self K.2.2.1 104 0 _
      · obtain ⟨K, k1, k2⟩ := yl_sai3_2 (L := L) (σ := σ) (d := d + 52) (x1 := x1) (x2 := x2) hI.1.1.1 hS hC hCC hp' (by rw [p5]; exact hpc) hm hw hc hu
        have e1 := zp_Call_u c1 k1
        cases e1
        have g : ∀ p k, 60 ≤ p → ¬ (p = 72 ∧ k = 0) → (zw_I (zw_J K 104 0 ((xPl (xSo H) (H.2.1 22 11).toInt (fun c h => xWb (xVl (xSo H) c h (xKn (fun s => xWk (xVyc (xSo H) 33 H s)) x2 (H.2.1 33 0).toInt.toNat (Int32.ofInt 0) (Int64.ofNat 0))) (H.2.1 30) CC (H.2.1 22 16).toInt.toNat 0) 60 (H.2.1 27 x1.toInt.toNat) (H.2.1 28 x1.toInt.toNat) (xP0 (xSo H) (H.2.1 22 11).toInt (H.2.1 27 x1.toInt.toNat))).2.1).toInt64) 72 0 (Int32.ofInt 0)).2.1 p k = H.2.1 p k := fun p k hp hk => (y_ne hk).trans (k2.2.2.1 p k (by omega) (by omega) (by omega) (by omega) (by omega))
        have g0 : ∀ k, (zw_J K 104 0 ((xPl (xSo H) (H.2.1 22 11).toInt (fun c h => xWb (xVl (xSo H) c h (xKn (fun s => xWk (xVyc (xSo H) 33 H s)) x2 (H.2.1 33 0).toInt.toNat (Int32.ofInt 0) (Int64.ofNat 0))) (H.2.1 30) CC (H.2.1 22 16).toInt.toNat 0) 60 (H.2.1 27 x1.toInt.toNat) (H.2.1 28 x1.toInt.toNat) (xP0 (xSo H) (H.2.1 22 11).toInt (H.2.1 27 x1.toInt.toNat))).2.1).toInt64).2.1 72 k = H.2.1 72 k := fun k => k2.2.2.1 72 k (by decide) (by decide) (by decide) (by decide) (by omega)
        have g5 : (zw_I (zw_J K 104 0 ((xPl (xSo H) (H.2.1 22 11).toInt (fun c h => xWb (xVl (xSo H) c h (xKn (fun s => xWk (xVyc (xSo H) 33 H s)) x2 (H.2.1 33 0).toInt.toNat (Int32.ofInt 0) (Int64.ofNat 0))) (H.2.1 30) CC (H.2.1 22 16).toInt.toNat 0) 60 (H.2.1 27 x1.toInt.toNat) (H.2.1 28 x1.toInt.toNat) (xP0 (xSo H) (H.2.1 22 11).toInt (H.2.1 27 x1.toInt.toNat))).2.1).toInt64) 72 0 (Int32.ofInt 0)).2.1 72 5 = H.2.1 72 5 := g 72 5 (by decide) (fun h9 => absurd h9.2 (by decide))
        obtain ⟨_, j1, J, rfl, j2⟩ := yr_sai2 (L := L) (σ := σ) (d := d + 54) (S := xSo H) (CC := CC) (x1 := x1) (x2 := x2) W1 hS (xSR_J (xSR_k k2 (xSR_o H))) (xCR_f (g 72 8 (by decide) (fun h9 => absurd h9.2 (by decide))) (fun k => g 78 k (by decide) (fun h9 => absurd h9.1 (by decide))) (fun k => g 80 k (by decide) (fun h9 => absurd h9.1 (by decide))) hCR) (by rw [g0]; exact h.1) (by omega) (by rw [g 77 _ (by decide) (fun h9 => absurd h9.1 (by decide))]; exact hpc) (by rw [g5, ← e05]; exact hcp) (fun s hs => by
          rw [g5, ← e05] at hs
          rw [g 74 _ (by decide) (fun h9 => absurd h9.1 (by decide)), m0 s 2 (by omega) (by decide)]
          exact a1.2.2.1 s (by omega)) (fun s hs => by
          rw [g5] at hs
          rw [g 74 _ (by decide) (fun h9 => absurd h9.1 (by decide))]
          exact hr.1 s hs) (by rw [g0]; exact hu2)
        have e2 := zp_Call_u c2 j1
        cases e2
        refine ⟨_, _, _, _, c1, c2, hI1.1.1.1.1, hI2, (congrArg Int32.toInt (j2.2.2.1 72 0 (fun h9 => by have := h9.2; omega) (by decide))).trans (congrArg Int32.toInt zw_eq), fun _ => ?_⟩
        rw [key K k2, j2.2.2.2 104 0 (fun h9 => absurd h9.1 (by decide)) (by decide)]
        exact zp_u_self K.2.2.1 104 0 _
    · have e1 := zp_Call_u c1 (yl_sain3 (L := L) (σ := σ) (d := d + 57) hI.1.1.1 (by rw [e12]; exact h))
      cases e1
      have e2 := zp_Call_u c2 (yr_sain (L := L) (σ := σ) (d := d + 57) W1 h)
      cases e2
      exact ⟨_, _, _, _, c1, c2, hI1.1.1.1.1, hI2, congrArg Int32.toInt zw_eq, fun h9 => absurd h9 (by decide)⟩
