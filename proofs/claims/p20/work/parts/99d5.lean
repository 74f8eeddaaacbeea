section
/-! ===== the class reads currents, exactly, with data ===== -/
def zm_71 : za_MI := (yX7_readCurrent, prog_9_method_14_code, 4, (some FieldType.boolean), 7, 0, 0, [], za_i71)
theorem zm_71_t : za_MT 71 = some zm_71 := rfl
def zm_72 : za_MI := (yX10_allCurrents, prog_12_method_9_code, 1, (some FieldType.long), 10, 0, 0, [], za_i72)
theorem zm_72_t : za_MT 72 = some zm_72 := rfl
def zm_75 : za_MI := (yX10_addCurrent, prog_12_method_8_code, 3, none, 10, 0, 0, [], za_i75)
theorem zm_75_t : za_MT 75 = some zm_75 := rfl
set_option maxRecDepth 8000 in
theorem yBit_and {u b w : Int64} : (u ||| b) &&& w = (u &&& w) ||| (b &&& w) := by
  apply Int64.toBitVec_inj.mp
  rw [Int64.toBitVec_and, Int64.toBitVec_or, Int64.toBitVec_or, Int64.toBitVec_and, Int64.toBitVec_and]
  ext i hi
  simp only [BitVec.getElem_and, BitVec.getElem_or, Bool.and_or_distrib_right]
theorem yBit_or0 {u b : Int64} : u ||| b = 0 ↔ u = 0 ∧ b = 0 := by
  constructor
  · intro h
    have h1 : (u ||| b).toBitVec = 0#64 := by rw [h]; rfl
    rw [Int64.toBitVec_or] at h1
    have h2 := BitVec.or_eq_zero_iff.mp h1
    exact ⟨Int64.toBitVec_inj.mp h2.1, Int64.toBitVec_inj.mp h2.2⟩
  · rintro ⟨rfl, rfl⟩
    rfl
theorem yBit_or {u b w : Int64} : (u ||| b) &&& w = 0 ↔ (u &&& w = 0 ∧ b &&& w = 0) := by
  rw [yBit_and, yBit_or0]
theorem yBit_t : (List.range 64).all (fun a => (List.range 64).all (fun c => decide ((yBit (a : Nat) &&& yBit (c : Nat) = 0) ↔ c ≠ a))) = true := by decide +kernel
theorem yBit_ac {a c : Nat} (ha : a < 64) (hc : c < 64) : yBit (a : Int) &&& yBit (c : Int) = 0 ↔ c ≠ a := of_decide_eq_true (List.all_eq_true.mp (List.all_eq_true.mp yBit_t a (List.mem_range.mpr ha)) c (List.mem_range.mpr hc))
theorem yUb_w {u u' : Int64} {f : Nat → Bool} {a : Nat} (ha : a < 64) (hu : u' = u ||| yBit (a : Int)) (h : ∀ c : Nat, c < 64 → (u &&& yBit c = 0 ↔ f c = false)) : ∀ c : Nat, c < 64 → (u' &&& yBit c = 0 ↔ yUb f (a : Int) c = false) := by
  intro c hc
  rw [hu, yBit_or, h c hc, yBit_ac ha hc]
  unfold yUb
  by_cases h9 : (c : Int) = (a : Int)
  · rw [if_pos h9]
    constructor
    · rintro ⟨_, h8⟩
      exact absurd (by omega) h8
    · intro h8
      cases h8
  · rw [if_neg h9]
    exact ⟨fun h8 => h8.1, fun h8 => ⟨h8, by omega⟩⟩
theorem yOr4 {a b c e x : Int64} : ((a ||| x) ||| b ||| c ||| e = (a ||| b ||| c ||| e) ||| x) ∧ (a ||| (b ||| x) ||| c ||| e = (a ||| b ||| c ||| e) ||| x) ∧ (a ||| b ||| (c ||| x) ||| e = (a ||| b ||| c ||| e) ||| x) ∧ (a ||| b ||| c ||| (e ||| x) = (a ||| b ||| c ||| e) ||| x) := by
  refine ⟨?_, ?_, ?_, ?_⟩ <;>
  · apply Int64.toBitVec_inj.mp
    simp only [Int64.toBitVec_or]
    ext i hi
    simp only [BitVec.getElem_or]
    cases (a.toBitVec)[i] <;> cases (b.toBitVec)[i] <;> cases (c.toBitVec)[i] <;> cases (e.toBitVec)[i] <;> cases (x.toBitVec)[i] <;> rfl

set_option maxRecDepth 8000 in
theorem yNu_b {T : Nat → Int} {n p : Nat} {lo hi : Int} (h : ∀ ok, yNu T n p lo hi ok = .inl (ok (ys_vl T n p))) : lo ≤ ys_vl T n p ∧ ys_vl T n p ≤ hi := by
  have h := h (fun _ => (0, [], 0, 0, 0, (fun _ => 0, 0, fun _ => false), 0))
  unfold yNu at h
  by_cases h1 : ys_kd T n p = 2
  · rw [if_pos h1] at h
    by_cases h2 : lo ≤ ys_vl T n p ∧ ys_vl T n p ≤ hi
    · exact h2
    · rw [if_neg h2] at h
      cases h
  · rw [if_neg h1] at h
    cases h
theorem yNu_c {T : Nat → Int} {n p : Nat} {w hh : Int} (hw : 2 ≤ w ∧ w ≤ 8) (hh8 : 2 ≤ hh ∧ hh ≤ 8) (m1 : ∀ ok, yNu T n p 0 (w - 1) ok = .inl (ok (ys_vl T n p))) (m2 : ∀ ok, yNu T n (ys_nx T n p) 0 (hh - 1) ok = .inl (ok (ys_vl T n (ys_nx T n p)))) : ∃ c : Nat, c < 64 ∧ w * ys_vl T n (ys_nx T n p) + ys_vl T n p = (c : Int) := by
  have a := yNu_b m1
  have b := yNu_b m2
  have q : 0 ≤ w * ys_vl T n (ys_nx T n p) := Int.mul_nonneg (by omega) b.1
  have q2 : w * ys_vl T n (ys_nx T n p) ≤ w * 7 := Int.mul_le_mul_of_nonneg_left (by omega) (by omega)
  exact ⟨(w * ys_vl T n (ys_nx T n p) + ys_vl T n p).toNat, by omega, by omega⟩

set_option maxRecDepth 8000 in
theorem yc_all2 {L : Nat} {σ : Nat → Int32} {d : Nat} {H : zp_H} (W : zw_W H) : zp_Call L σ (d + 1) 72 [.inr (.inr (some 3))] H (.inl (some (.inr (.inl (yCur 2 H)))), H) := by
  refine zw_ex (zw_met zm_72_t rfl rfl ?_)
  refine zw_ld (n := 1) (k := 0) (f := zp_isR) (pc' := 1) rfl rfl rfl rfl rfl ?_
  refine zw_gR (q := 2) (pc' := 4) W rfl rfl rfl rfl (W.2 2 6 _ rfl) rfl ?_
  refine zw_s (pc' := 5) rfl rfl ?_
  refine zw_la (q := 5) (pc' := 6) W rfl rfl (⟨by decide, by decide⟩) rfl ?_
  refine zw_ld (n := 1) (k := 0) (f := zp_isR) (pc' := 7) rfl rfl rfl rfl rfl ?_
  refine zw_gR (q := 2) (pc' := 10) W rfl rfl rfl rfl (W.2 2 6 _ rfl) rfl ?_
  refine zw_s (pc' := 11) rfl rfl ?_
  refine zw_la (q := 5) (pc' := 12) W rfl rfl (⟨by decide, by decide⟩) rfl ?_
  refine zw_lor (pc' := 13) rfl rfl ?_
  refine zw_ld (n := 1) (k := 0) (f := zp_isR) (pc' := 14) rfl rfl rfl rfl rfl ?_
  refine zw_gR (q := 2) (pc' := 17) W rfl rfl rfl rfl (W.2 2 6 _ rfl) rfl ?_
  refine zw_s (pc' := 18) rfl rfl ?_
  refine zw_la (q := 5) (pc' := 19) W rfl rfl (⟨by decide, by decide⟩) rfl ?_
  refine zw_lor (pc' := 20) rfl rfl ?_
  refine zw_ld (n := 1) (k := 0) (f := zp_isR) (pc' := 21) rfl rfl rfl rfl rfl ?_
  refine zw_gR (q := 2) (pc' := 24) W rfl rfl rfl rfl (W.2 2 6 _ rfl) rfl ?_
  refine zw_s (pc' := 25) rfl rfl ?_
  refine zw_la (q := 5) (pc' := 26) W rfl rfl (⟨by decide, by decide⟩) rfl ?_
  refine zw_lor (pc' := 27) rfl rfl ?_
  refine zw_rl rfl rfl ?_
  rfl

set_option maxRecDepth 8000 in
theorem yc_addc2 {L : Nat} {σ : Nat → Int32} {d : Nat} {H : zp_H} {x y : Int32} (W : zw_W H) (hc : 0 ≤ x.toInt ∧ x.toInt ≤ 63) (hv : 0 ≤ y.toInt ∧ y.toInt ≤ 3) : zp_Call L σ (d + 2) 75 [.inr (.inr (some 3)), .inl x, .inl y] H (.inl none, zw_J (zw_I H 4 x.toInt.toNat y) 5 y.toInt.toNat (H.2.2.1 5 y.toInt.toNat ||| za_shl0 (Int64.ofNat 1) x)) := by
  refine zw_ex (zw_met zm_75_t rfl rfl ?_)
  refine zw_ld (n := 1) (k := 0) (f := zp_isR) (pc' := 1) rfl rfl rfl rfl rfl ?_
  refine zw_gR (q := 2) (pc' := 4) W rfl rfl rfl rfl (W.2 2 5 _ rfl) rfl ?_
  refine zw_ld (n := 1) (k := 1) (f := zp_isI) (pc' := 5) rfl rfl rfl rfl rfl ?_
  refine zw_ld (n := 1) (k := 2) (f := zp_isI) (pc' := 6) rfl rfl rfl rfl rfl ?_
  refine zw_is (q := 4) (pc' := 7) W rfl rfl (by decide) (⟨hc.1, by show _ < ((64 : Nat) : Int); omega⟩) rfl ?_
  refine zw_ld (n := 1) (k := 0) (f := zp_isR) (pc' := 8) rfl rfl rfl rfl rfl ?_
  refine zw_gR (q := 2) (pc' := 11) W rfl rfl rfl rfl (W.2 2 6 _ rfl) rfl ?_
  refine zw_ld (n := 1) (k := 2) (f := zp_isI) (pc' := 12) rfl rfl rfl rfl rfl ?_
  refine zw_s (pc' := 13) rfl rfl ?_
  refine zw_la (q := 5) (pc' := 14) W rfl rfl (⟨hv.1, by show _ < ((4 : Nat) : Int); omega⟩) rfl ?_
  refine zw_ld (n := 1) (k := 1) (f := zp_isI) (pc' := 15) rfl rfl rfl rfl rfl ?_
  refine zw_cx (pc' := 18) (zw_csx (Y := zm_4) rfl rfl zm_4_t) rfl rfl rfl rfl rfl (zn_bit) ?_
  refine zw_lor (pc' := 19) rfl rfl ?_
  refine zw_ls (q := 5) (pc' := 20) W rfl rfl (⟨hv.1, by show _ < ((4 : Nat) : Int); omega⟩) rfl ?_
  refine zw_rn rfl rfl ?_
  rfl

set_option maxRecDepth 8000 in
theorem yc_curr2 {L : Nat} {σ : Nat → Int32} {dd : Nat} {T : Nat → Int} {n p : Nat} {d : yLD} {cp : Nat} {H : zp_H} (hcp : cp = 13 ∨ cp = 33) (h : yE T n p H) (hDd : yDd 2 cp d H) : ∃ X, zp_Call L σ (dd + 5) 71 [.inr (.inr (some 52)), .inr (.inr (some 3))] H X ∧ yRL T n 2 cp (5, [], 0, 0, 0, d, p) X := by
  obtain ⟨hD, hX⟩ := hDd
  have hcell : (∀ ok, yNu T n p 0 (d.1 1 - 1) ok = .inl (ok (ys_vl T n p))) → (∀ ok, yNu T n (ys_nx T n p) 0 (d.1 2 - 1) ok = .inl (ok (ys_vl T n (ys_nx T n p)))) → ∃ c : Nat, c < 64 ∧ d.1 1 * ys_vl T n (ys_nx T n p) + ys_vl T n p = (c : Int) := by
    intro m1 m2
    have r0 := zB_fr1 h.1.1 (p := 2) (k := 0) (r := (2, 8)) rfl
    have r0 : 2 ≤ (H.2.1 2 0).toInt ∧ (H.2.1 2 0).toInt ≤ 8 := r0
    have r1 := zB_fr1 h.1.1 (p := 2) (k := 1) (r := (2, 8)) rfl
    have r1 : 2 ≤ (H.2.1 2 1).toInt ∧ (H.2.1 2 1).toInt ≤ 8 := r1
    rw [hD.1] at r0
    rw [hD.2.1] at r1
    exact yNu_c r0 r1 m1 m2
  have hwc : yWC 2 cp := ⟨by decide, hcp⟩
  have W := zB_Wd h.1.1
  obtain ⟨_, c1, v, H1, rfl, c2, c3⟩ := yc_cell2 (L := L) (σ := σ) (d := dd) (taken := yCur 2 H) hD.1 hD.2.1 h
  refine zw_met zm_71_t rfl rfl ?_
  refine zw_ld (n := 1) (k := 0) (f := zp_isR) (pc' := 1) rfl rfl rfl rfl rfl ?_
  refine zw_ld (n := 1) (k := 1) (f := zp_isR) (pc' := 2) rfl rfl rfl rfl rfl ?_
  refine zw_ld (n := 1) (k := 1) (f := zp_isR) (pc' := 3) rfl rfl rfl rfl rfl ?_
  refine zw_c (pc' := 6) (zw_cv (q := 2) (Y := zm_72) W.1 rfl rfl zm_72_t rfl rfl) rfl rfl rfl rfl rfl (yc_all2 W) ?_
  refine zw_c (pc' := 9) (zw_cv (q := 51) (Y := zm_70) W.1 rfl rfl zm_70_t rfl rfl) rfl rfl rfl rfl rfl (c1) ?_
  refine zw_st (n := 1) (k := 2) (f := zp_isI) (pc' := 10) rfl rfl rfl rfl rfl ?_
  refine zw_ld (n := 1) (k := 2) (f := zp_isI) (pc' := 11) rfl rfl zw_g1 rfl rfl ?_
  refine zw_s (pc' := 12) rfl rfl ?_
  refine zw_bne2 (g := 19) (pc' := 15) rfl rfl rfl rfl (rfl : _ = (-1 : Int)) (fun h1 => ?_) (fun h1 => ?_)
  · rcases c3 with ⟨k1, k2, k3, k4, k5, k6⟩ | ⟨k1, _⟩
    rotate_left
    · omega
    have W1 := zB_Wd k6.1.1
    have hD1 : yDc 2 cp d H1 := yDc_F c2 (by rcases hcp with rfl | rfl <;> rfl) hD
    have hX1 := yXd_F hwc c2 (by rcases hcp with rfl | rfl <;> rfl) hX
    obtain ⟨c, hc, ec⟩ := hcell k2 k3
    rw [ec] at k5 k1
    have hcu := (hD.2.2.2.2.2.2.2.2.2.1 c hc).mp k5
    have hR1 : yR2 T n (5, [], 0, 0, 0, d, p) (7, [], (c : Int), 0, 0, d, ys_nx T n (ys_nx T n p)) := by
      refine yR2_t (yR2_s (yN2_5.trans (k2 _))) (yR2_s ?_)
      rw [yN2_6, k3]
      show (if d.2.2 (d.1 1 * ys_vl T n (ys_nx T n p) + ys_vl T n p).toNat then _ else _) = _
      rw [ec, show ((c : Int)).toNat = c from Int.toNat_natCast c, if_neg (by rw [hcu]; decide)]
    obtain ⟨_, d1, v2, H2, rfl, d2, d3⟩ := yc_way (L := L) (σ := σ) (d := dd) k6
    refine zw_ld (n := 1) (k := 0) (f := zp_isR) (pc' := 20) rfl rfl (zw_gt rfl rfl rfl) rfl rfl ?_
    refine zw_c (pc' := 23) (zw_cv (q := 51) (Y := zm_73) W1.1 rfl rfl zm_73_t rfl rfl) rfl rfl rfl rfl rfl (d1) ?_
    refine zw_st (n := 1) (k := 3) (f := zp_isI) (pc' := 24) rfl rfl rfl rfl rfl ?_
    refine zw_ld (n := 1) (k := 3) (f := zp_isI) (pc' := 25) rfl rfl zw_g1 rfl rfl ?_
    refine zw_s (pc' := 26) rfl rfl ?_
    refine zw_bne2 (g := 31) (pc' := 29) rfl rfl rfl rfl (rfl : _ = (-1 : Int)) (fun h2 => ?_) (fun h2 => ?_)
    · rcases d3 with ⟨m1, m2, m3⟩ | ⟨m1, _⟩
      rotate_left
      · omega
      have W2 := zB_Wd m3.1.1
      have hD2 : yDc 2 cp d H2 := yDc_F d2 (by rcases hcp with rfl | rfl <;> rfl) hD1
      have hX2 := yXd_F hwc d2 (by rcases hcp with rfl | rfl <;> rfl) hX1
      have hvb := ys_vl_b m2.1
      have b1 := zB_puta (p := 4) (j := v.toInt.toNat) (x := v2) (t := 0) (n := 64) m3.1.1 rfl (fun r hr => by
        have hr : [((-1 : Int), (3 : Int))][v.toInt.toNat % 1]? = some r := hr
        rw [Nat.mod_one] at hr
        cases hr
        exact ⟨by show (-1 : Int) ≤ _; omega, by show _ ≤ (3 : Int); omega⟩) (zJc_I rfl m3.1.1.2.2.2.2.2.2.2) (fun k r hr => by cases hr)
      have b2 := zB_putl (p := 5) (k := v2.toInt.toNat) (u := H2.2.2.1 5 v2.toInt.toNat ||| za_shl0 (Int64.ofNat 1) v) b1 (zJc_J rfl b1.2.2.2.2.2.2.2)
      refine zw_ld (n := 1) (k := 1) (f := zp_isR) (pc' := 32) rfl rfl (zw_gt (zw_gt rfl rfl rfl) rfl rfl) rfl rfl ?_
      refine zw_ld (n := 1) (k := 2) (f := zp_isI) (pc' := 33) rfl rfl (zw_gt zw_g1 rfl rfl) rfl rfl ?_
      refine zw_ld (n := 1) (k := 3) (f := zp_isI) (pc' := 34) rfl rfl zw_g1 rfl rfl ?_
      refine zw_cn (pc' := 37) (zw_cv (q := 2) (Y := zm_75) W2.1 rfl rfl zm_75_t rfl rfl) rfl rfl rfl rfl rfl (yc_addc2 (d := dd + 2) W2 k4 ⟨by omega, by omega⟩) ?_
      refine zw_s (pc' := 38) rfl rfl ?_
      refine zw_rz rfl rfl (by decide) ?_
      refine yRL_1 (yE_c (yE_I m3 b1 rfl) b2 rfl rfl) (d' := yWcu d (c : Int) (ys_vl T n (ys_nx T n (ys_nx T n p)))) ⟨yDc_cu ?_, by rw [yWcu_e (by omega)]; exact yXd_b (d := (yU (yW d (100 + c) (ys_vl T n (ys_nx T n (ys_nx T n p)))).1 13 (d.1 13 + 1), (yW d (100 + c) (ys_vl T n (ys_nx T n (ys_nx T n p)))).2)) (by omega) (yXd_k (by decide) (yXd_Jo (yXd_wD (yLc_inj hwc) (by omega) (by rw [yL_100 (by omega), show v.toInt.toNat = c by omega]) m1 hX2)))⟩ (yR2_t hR1 (yR2_s (yN2_7.trans (if_pos m2)))) (ys_le3 h.2.2)
      obtain ⟨g1, g2, g3, g4, g5, g6, g7, g8, g9, g10⟩ := hD2
      have e : ∀ q k, Nat.beq q 4 = false → ((zw_I H2 4 v.toInt.toNat v2).2.1 q k).toInt = (H2.2.1 q k).toInt := fun q k h1 => congrArg Int32.toInt (zw_ne rfl (by rw [h1]; rfl))
      refine ⟨(e 2 0 rfl).trans g1, (e 2 1 rfl).trans g2, (e cp 0 (by rcases hcp with rfl | rfl <;> rfl)).trans g3, (e 2 7 rfl).trans g4, (e 2 12 rfl).trans g5, (e 2 16 rfl).trans g6, (e 51 2 rfl).trans g7, (e 51 3 rfl).trans g8, g9, yUb_w hc ?_ g10.1, g10.2⟩
      have ev : za_shl0 (Int64.ofNat 1) v = yBit (c : Int) := by
        unfold yBit
        rw [← k1, Int32.ofInt_toInt]
      have o4 := yOr4 (a := H2.2.2.1 5 0) (b := H2.2.2.1 5 1) (c := H2.2.2.1 5 2) (e := H2.2.2.1 5 3) (x := yBit (c : Int))
      rw [ev]
      rcases (show v2.toInt.toNat = 0 ∨ v2.toInt.toNat = 1 ∨ v2.toInt.toNat = 2 ∨ v2.toInt.toNat = 3 by omega) with h9 | h9 | h9 | h9 <;> rw [h9]
      · exact o4.1
      · exact o4.2.1
      · exact o4.2.2.1
      · exact o4.2.2.2
    · refine zw_s (pc' := 30) rfl rfl ?_
      refine zw_rz rfl rfl (by decide) ?_
      rcases d3 with ⟨m1, m2, _⟩ | ⟨_, m2, m3, m4⟩
      · have := ys_vl_b m2.1
        omega
      · exact yRL_0 m4 m3 (yR2_a hR1 (yA2_done (yN2_7.trans (if_neg m2)))) (show 1 ≤ (1 : Int) ∧ (1 : Int) ≤ 5 from by decide)
  · refine zw_s (pc' := 16) rfl rfl ?_
    refine zw_s (pc' := 23) rfl rfl ?_
    refine zw_st (n := 1) (k := 3) (f := zp_isI) (pc' := 24) rfl rfl rfl rfl rfl ?_
    refine zw_ld (n := 1) (k := 3) (f := zp_isI) (pc' := 25) rfl rfl zw_g1 rfl rfl ?_
    refine zw_s (pc' := 26) rfl rfl ?_
    refine zw_bne2 (g := 31) (pc' := 29) rfl rfl rfl (rfl : _ = (-1 : Int)) (rfl : _ = (-1 : Int)) (fun h9 => absurd h9 (by decide)) (fun h2 => ?_)
    refine zw_s (pc' := 30) rfl rfl ?_
    refine zw_rz rfl rfl (by decide) ?_
    rcases c3 with ⟨_, _, _, k4, _⟩ | ⟨_, k, q, k1, k2, k3, k5, k6⟩
    · omega
    · refine yRL_0 k5 k3 ?_ ⟨k1, k2⟩
      rcases k6 with ⟨rfl, m1⟩ | ⟨rfl, m1, m2⟩ | ⟨rfl, rfl, m1, m2, m3⟩
      · exact yA2_done (yN2_5.trans (m1 _))
      · refine yA2_step (yN2_5.trans (m1 _)) (yA2_done ?_)
        rw [yN2_6, m2]
      · refine yA2_step (yN2_5.trans (m1 _)) (yA2_done ?_)
        rw [yN2_6, m2]
        obtain ⟨c, hc, ec⟩ := hcell m1 m2
        have h10 := (hD.2.2.2.2.2.2.2.2.2.1 c hc)
        show (if d.2.2 (d.1 1 * ys_vl T n (ys_nx T n p) + ys_vl T n p).toNat then _ else _) = _
        rw [ec] at m3 ⊢
        have hcu : d.2.2 c = true := by
          cases h9 : d.2.2 c with
          | true => rfl
          | false => exact absurd (h10.mpr h9) m3
        rw [show ((c : Int)).toNat = c from Int.toNat_natCast c, if_pos hcu]

set_option maxRecDepth 8000 in
theorem yc_all22 {L : Nat} {σ : Nat → Int32} {d : Nat} {H : zp_H} (W : zw_W H) : zp_Call L σ (d + 1) 72 [.inr (.inr (some 23))] H (.inl (some (.inr (.inl (yCur 22 H)))), H) := by
  refine zw_ex (zw_met zm_72_t rfl rfl ?_)
  refine zw_ld (n := 1) (k := 0) (f := zp_isR) (pc' := 1) rfl rfl rfl rfl rfl ?_
  refine zw_gR (q := 22) (pc' := 4) W rfl rfl rfl rfl (W.2 22 6 _ rfl) rfl ?_
  refine zw_s (pc' := 5) rfl rfl ?_
  refine zw_la (q := 25) (pc' := 6) W rfl rfl (⟨by decide, by decide⟩) rfl ?_
  refine zw_ld (n := 1) (k := 0) (f := zp_isR) (pc' := 7) rfl rfl rfl rfl rfl ?_
  refine zw_gR (q := 22) (pc' := 10) W rfl rfl rfl rfl (W.2 22 6 _ rfl) rfl ?_
  refine zw_s (pc' := 11) rfl rfl ?_
  refine zw_la (q := 25) (pc' := 12) W rfl rfl (⟨by decide, by decide⟩) rfl ?_
  refine zw_lor (pc' := 13) rfl rfl ?_
  refine zw_ld (n := 1) (k := 0) (f := zp_isR) (pc' := 14) rfl rfl rfl rfl rfl ?_
  refine zw_gR (q := 22) (pc' := 17) W rfl rfl rfl rfl (W.2 22 6 _ rfl) rfl ?_
  refine zw_s (pc' := 18) rfl rfl ?_
  refine zw_la (q := 25) (pc' := 19) W rfl rfl (⟨by decide, by decide⟩) rfl ?_
  refine zw_lor (pc' := 20) rfl rfl ?_
  refine zw_ld (n := 1) (k := 0) (f := zp_isR) (pc' := 21) rfl rfl rfl rfl rfl ?_
  refine zw_gR (q := 22) (pc' := 24) W rfl rfl rfl rfl (W.2 22 6 _ rfl) rfl ?_
  refine zw_s (pc' := 25) rfl rfl ?_
  refine zw_la (q := 25) (pc' := 26) W rfl rfl (⟨by decide, by decide⟩) rfl ?_
  refine zw_lor (pc' := 27) rfl rfl ?_
  refine zw_rl rfl rfl ?_
  rfl

set_option maxRecDepth 8000 in
theorem yc_addc22 {L : Nat} {σ : Nat → Int32} {d : Nat} {H : zp_H} {x y : Int32} (W : zw_W H) (hc : 0 ≤ x.toInt ∧ x.toInt ≤ 63) (hv : 0 ≤ y.toInt ∧ y.toInt ≤ 3) : zp_Call L σ (d + 2) 75 [.inr (.inr (some 23)), .inl x, .inl y] H (.inl none, zw_J (zw_I H 24 x.toInt.toNat y) 25 y.toInt.toNat (H.2.2.1 25 y.toInt.toNat ||| za_shl0 (Int64.ofNat 1) x)) := by
  refine zw_ex (zw_met zm_75_t rfl rfl ?_)
  refine zw_ld (n := 1) (k := 0) (f := zp_isR) (pc' := 1) rfl rfl rfl rfl rfl ?_
  refine zw_gR (q := 22) (pc' := 4) W rfl rfl rfl rfl (W.2 22 5 _ rfl) rfl ?_
  refine zw_ld (n := 1) (k := 1) (f := zp_isI) (pc' := 5) rfl rfl rfl rfl rfl ?_
  refine zw_ld (n := 1) (k := 2) (f := zp_isI) (pc' := 6) rfl rfl rfl rfl rfl ?_
  refine zw_is (q := 24) (pc' := 7) W rfl rfl (by decide) (⟨hc.1, by show _ < ((64 : Nat) : Int); omega⟩) rfl ?_
  refine zw_ld (n := 1) (k := 0) (f := zp_isR) (pc' := 8) rfl rfl rfl rfl rfl ?_
  refine zw_gR (q := 22) (pc' := 11) W rfl rfl rfl rfl (W.2 22 6 _ rfl) rfl ?_
  refine zw_ld (n := 1) (k := 2) (f := zp_isI) (pc' := 12) rfl rfl rfl rfl rfl ?_
  refine zw_s (pc' := 13) rfl rfl ?_
  refine zw_la (q := 25) (pc' := 14) W rfl rfl (⟨hv.1, by show _ < ((4 : Nat) : Int); omega⟩) rfl ?_
  refine zw_ld (n := 1) (k := 1) (f := zp_isI) (pc' := 15) rfl rfl rfl rfl rfl ?_
  refine zw_cx (pc' := 18) (zw_csx (Y := zm_4) rfl rfl zm_4_t) rfl rfl rfl rfl rfl (zn_bit) ?_
  refine zw_lor (pc' := 19) rfl rfl ?_
  refine zw_ls (q := 25) (pc' := 20) W rfl rfl (⟨hv.1, by show _ < ((4 : Nat) : Int); omega⟩) rfl ?_
  refine zw_rn rfl rfl ?_
  rfl

set_option maxRecDepth 8000 in
theorem yc_curr22 {L : Nat} {σ : Nat → Int32} {dd : Nat} {T : Nat → Int} {n p : Nat} {d : yLD} {cp : Nat} {H : zp_H} (hcp : cp = 13 ∨ cp = 33) (h : yE T n p H) (hDd : yDd 22 cp d H) : ∃ X, zp_Call L σ (dd + 5) 71 [.inr (.inr (some 52)), .inr (.inr (some 23))] H X ∧ yRL T n 22 cp (5, [], 0, 0, 0, d, p) X := by
  obtain ⟨hD, hX⟩ := hDd
  have hcell : (∀ ok, yNu T n p 0 (d.1 1 - 1) ok = .inl (ok (ys_vl T n p))) → (∀ ok, yNu T n (ys_nx T n p) 0 (d.1 2 - 1) ok = .inl (ok (ys_vl T n (ys_nx T n p)))) → ∃ c : Nat, c < 64 ∧ d.1 1 * ys_vl T n (ys_nx T n p) + ys_vl T n p = (c : Int) := by
    intro m1 m2
    have r0 := zB_fr1 h.1.1 (p := 22) (k := 0) (r := (2, 8)) rfl
    have r0 : 2 ≤ (H.2.1 22 0).toInt ∧ (H.2.1 22 0).toInt ≤ 8 := r0
    have r1 := zB_fr1 h.1.1 (p := 22) (k := 1) (r := (2, 8)) rfl
    have r1 : 2 ≤ (H.2.1 22 1).toInt ∧ (H.2.1 22 1).toInt ≤ 8 := r1
    rw [hD.1] at r0
    rw [hD.2.1] at r1
    exact yNu_c r0 r1 m1 m2
  have hwc : yWC 22 cp := ⟨by decide, hcp⟩
  have W := zB_Wd h.1.1
  obtain ⟨_, c1, v, H1, rfl, c2, c3⟩ := yc_cell22 (L := L) (σ := σ) (d := dd) (taken := yCur 22 H) hD.1 hD.2.1 h
  refine zw_met zm_71_t rfl rfl ?_
  refine zw_ld (n := 1) (k := 0) (f := zp_isR) (pc' := 1) rfl rfl rfl rfl rfl ?_
  refine zw_ld (n := 1) (k := 1) (f := zp_isR) (pc' := 2) rfl rfl rfl rfl rfl ?_
  refine zw_ld (n := 1) (k := 1) (f := zp_isR) (pc' := 3) rfl rfl rfl rfl rfl ?_
  refine zw_c (pc' := 6) (zw_cv (q := 22) (Y := zm_72) W.1 rfl rfl zm_72_t rfl rfl) rfl rfl rfl rfl rfl (yc_all22 W) ?_
  refine zw_c (pc' := 9) (zw_cv (q := 51) (Y := zm_70) W.1 rfl rfl zm_70_t rfl rfl) rfl rfl rfl rfl rfl (c1) ?_
  refine zw_st (n := 1) (k := 2) (f := zp_isI) (pc' := 10) rfl rfl rfl rfl rfl ?_
  refine zw_ld (n := 1) (k := 2) (f := zp_isI) (pc' := 11) rfl rfl zw_g1 rfl rfl ?_
  refine zw_s (pc' := 12) rfl rfl ?_
  refine zw_bne2 (g := 19) (pc' := 15) rfl rfl rfl rfl (rfl : _ = (-1 : Int)) (fun h1 => ?_) (fun h1 => ?_)
  · rcases c3 with ⟨k1, k2, k3, k4, k5, k6⟩ | ⟨k1, _⟩
    rotate_left
    · omega
    have W1 := zB_Wd k6.1.1
    have hD1 : yDc 22 cp d H1 := yDc_F c2 (by rcases hcp with rfl | rfl <;> rfl) hD
    have hX1 := yXd_F hwc c2 (by rcases hcp with rfl | rfl <;> rfl) hX
    obtain ⟨c, hc, ec⟩ := hcell k2 k3
    rw [ec] at k5 k1
    have hcu := (hD.2.2.2.2.2.2.2.2.2.1 c hc).mp k5
    have hR1 : yR2 T n (5, [], 0, 0, 0, d, p) (7, [], (c : Int), 0, 0, d, ys_nx T n (ys_nx T n p)) := by
      refine yR2_t (yR2_s (yN2_5.trans (k2 _))) (yR2_s ?_)
      rw [yN2_6, k3]
      show (if d.2.2 (d.1 1 * ys_vl T n (ys_nx T n p) + ys_vl T n p).toNat then _ else _) = _
      rw [ec, show ((c : Int)).toNat = c from Int.toNat_natCast c, if_neg (by rw [hcu]; decide)]
    obtain ⟨_, d1, v2, H2, rfl, d2, d3⟩ := yc_way (L := L) (σ := σ) (d := dd) k6
    refine zw_ld (n := 1) (k := 0) (f := zp_isR) (pc' := 20) rfl rfl (zw_gt rfl rfl rfl) rfl rfl ?_
    refine zw_c (pc' := 23) (zw_cv (q := 51) (Y := zm_73) W1.1 rfl rfl zm_73_t rfl rfl) rfl rfl rfl rfl rfl (d1) ?_
    refine zw_st (n := 1) (k := 3) (f := zp_isI) (pc' := 24) rfl rfl rfl rfl rfl ?_
    refine zw_ld (n := 1) (k := 3) (f := zp_isI) (pc' := 25) rfl rfl zw_g1 rfl rfl ?_
    refine zw_s (pc' := 26) rfl rfl ?_
    refine zw_bne2 (g := 31) (pc' := 29) rfl rfl rfl rfl (rfl : _ = (-1 : Int)) (fun h2 => ?_) (fun h2 => ?_)
    · rcases d3 with ⟨m1, m2, m3⟩ | ⟨m1, _⟩
      rotate_left
      · omega
      have W2 := zB_Wd m3.1.1
      have hD2 : yDc 22 cp d H2 := yDc_F d2 (by rcases hcp with rfl | rfl <;> rfl) hD1
      have hX2 := yXd_F hwc d2 (by rcases hcp with rfl | rfl <;> rfl) hX1
      have hvb := ys_vl_b m2.1
      have b1 := zB_puta (p := 24) (j := v.toInt.toNat) (x := v2) (t := 0) (n := 64) m3.1.1 rfl (fun r hr => by
        have hr : [((-1 : Int), (3 : Int))][v.toInt.toNat % 1]? = some r := hr
        rw [Nat.mod_one] at hr
        cases hr
        exact ⟨by show (-1 : Int) ≤ _; omega, by show _ ≤ (3 : Int); omega⟩) (zJc_I rfl m3.1.1.2.2.2.2.2.2.2) (fun k r hr => by cases hr)
      have b2 := zB_putl (p := 25) (k := v2.toInt.toNat) (u := H2.2.2.1 25 v2.toInt.toNat ||| za_shl0 (Int64.ofNat 1) v) b1 (zJc_J rfl b1.2.2.2.2.2.2.2)
      refine zw_ld (n := 1) (k := 1) (f := zp_isR) (pc' := 32) rfl rfl (zw_gt (zw_gt rfl rfl rfl) rfl rfl) rfl rfl ?_
      refine zw_ld (n := 1) (k := 2) (f := zp_isI) (pc' := 33) rfl rfl (zw_gt zw_g1 rfl rfl) rfl rfl ?_
      refine zw_ld (n := 1) (k := 3) (f := zp_isI) (pc' := 34) rfl rfl zw_g1 rfl rfl ?_
      refine zw_cn (pc' := 37) (zw_cv (q := 22) (Y := zm_75) W2.1 rfl rfl zm_75_t rfl rfl) rfl rfl rfl rfl rfl (yc_addc22 (d := dd + 2) W2 k4 ⟨by omega, by omega⟩) ?_
      refine zw_s (pc' := 38) rfl rfl ?_
      refine zw_rz rfl rfl (by decide) ?_
      refine yRL_1 (yE_c (yE_I m3 b1 rfl) b2 rfl rfl) (d' := yWcu d (c : Int) (ys_vl T n (ys_nx T n (ys_nx T n p)))) ⟨yDc_cu ?_, by rw [yWcu_e (by omega)]; exact yXd_b (d := (yU (yW d (100 + c) (ys_vl T n (ys_nx T n (ys_nx T n p)))).1 13 (d.1 13 + 1), (yW d (100 + c) (ys_vl T n (ys_nx T n (ys_nx T n p)))).2)) (by omega) (yXd_k (by decide) (yXd_Jo (yXd_wD (yLc_inj hwc) (by omega) (by rw [yL_100 (by omega), show v.toInt.toNat = c by omega]) m1 hX2)))⟩ (yR2_t hR1 (yR2_s (yN2_7.trans (if_pos m2)))) (ys_le3 h.2.2)
      obtain ⟨g1, g2, g3, g4, g5, g6, g7, g8, g9, g10⟩ := hD2
      have e : ∀ q k, Nat.beq q 24 = false → ((zw_I H2 24 v.toInt.toNat v2).2.1 q k).toInt = (H2.2.1 q k).toInt := fun q k h1 => congrArg Int32.toInt (zw_ne rfl (by rw [h1]; rfl))
      refine ⟨(e 22 0 rfl).trans g1, (e 22 1 rfl).trans g2, (e cp 0 (by rcases hcp with rfl | rfl <;> rfl)).trans g3, (e 22 7 rfl).trans g4, (e 22 12 rfl).trans g5, (e 22 16 rfl).trans g6, (e 51 2 rfl).trans g7, (e 51 3 rfl).trans g8, g9, yUb_w hc ?_ g10.1, g10.2⟩
      have ev : za_shl0 (Int64.ofNat 1) v = yBit (c : Int) := by
        unfold yBit
        rw [← k1, Int32.ofInt_toInt]
      have o4 := yOr4 (a := H2.2.2.1 25 0) (b := H2.2.2.1 25 1) (c := H2.2.2.1 25 2) (e := H2.2.2.1 25 3) (x := yBit (c : Int))
      rw [ev]
      rcases (show v2.toInt.toNat = 0 ∨ v2.toInt.toNat = 1 ∨ v2.toInt.toNat = 2 ∨ v2.toInt.toNat = 3 by omega) with h9 | h9 | h9 | h9 <;> rw [h9]
      · exact o4.1
      · exact o4.2.1
      · exact o4.2.2.1
      · exact o4.2.2.2
    · refine zw_s (pc' := 30) rfl rfl ?_
      refine zw_rz rfl rfl (by decide) ?_
      rcases d3 with ⟨m1, m2, _⟩ | ⟨_, m2, m3, m4⟩
      · have := ys_vl_b m2.1
        omega
      · exact yRL_0 m4 m3 (yR2_a hR1 (yA2_done (yN2_7.trans (if_neg m2)))) (show 1 ≤ (1 : Int) ∧ (1 : Int) ≤ 5 from by decide)
  · refine zw_s (pc' := 16) rfl rfl ?_
    refine zw_s (pc' := 23) rfl rfl ?_
    refine zw_st (n := 1) (k := 3) (f := zp_isI) (pc' := 24) rfl rfl rfl rfl rfl ?_
    refine zw_ld (n := 1) (k := 3) (f := zp_isI) (pc' := 25) rfl rfl zw_g1 rfl rfl ?_
    refine zw_s (pc' := 26) rfl rfl ?_
    refine zw_bne2 (g := 31) (pc' := 29) rfl rfl rfl (rfl : _ = (-1 : Int)) (rfl : _ = (-1 : Int)) (fun h9 => absurd h9 (by decide)) (fun h2 => ?_)
    refine zw_s (pc' := 30) rfl rfl ?_
    refine zw_rz rfl rfl (by decide) ?_
    rcases c3 with ⟨_, _, _, k4, _⟩ | ⟨_, k, q, k1, k2, k3, k5, k6⟩
    · omega
    · refine yRL_0 k5 k3 ?_ ⟨k1, k2⟩
      rcases k6 with ⟨rfl, m1⟩ | ⟨rfl, m1, m2⟩ | ⟨rfl, rfl, m1, m2, m3⟩
      · exact yA2_done (yN2_5.trans (m1 _))
      · refine yA2_step (yN2_5.trans (m1 _)) (yA2_done ?_)
        rw [yN2_6, m2]
      · refine yA2_step (yN2_5.trans (m1 _)) (yA2_done ?_)
        rw [yN2_6, m2]
        obtain ⟨c, hc, ec⟩ := hcell m1 m2
        have h10 := (hD.2.2.2.2.2.2.2.2.2.1 c hc)
        show (if d.2.2 (d.1 1 * ys_vl T n (ys_nx T n p) + ys_vl T n p).toNat then _ else _) = _
        rw [ec] at m3 ⊢
        have hcu : d.2.2 c = true := by
          cases h9 : d.2.2 c with
          | true => rfl
          | false => exact absurd (h10.mpr h9) m3
        rw [show ((c : Int)).toNat = c from Int.toNat_natCast c, if_pos hcu]
end
section
/-! ===== the class reads a hand, exactly, with data ===== -/
def zm_79 : za_MI := (yX7_readHand, prog_9_method_16_code, 6, (some FieldType.boolean), 7, 0, 0, [], za_i79)
theorem zm_79_t : za_MT 79 = some zm_79 := rfl
set_option maxRecDepth 8000 in
theorem yc_handL2 {L : Nat} {σ : Nat → Int32} {dd : Nat} {T : Nat → Int} {n : Nat} {s0 : yL} {cp : Nat} (hcp : cp = 13 ∨ cp = 33) : ∀ (m : Nat) (H : zp_H) (lv9 : zp_LV) (i r : Int32) (q k : Nat) (a : Int) (d : yLD), d.1 5 < 5 → 4 - k ≤ m → zp_get lv9 0 = some (.inr (.inr (some 52))) → zp_get lv9 1 = some (.inr (.inr (some 3))) → zp_get lv9 2 = some (.inl r) → zp_get lv9 3 = some (.inl i) → i.toInt = k → k ≤ 4 → r.toInt = a → (k < 4 → 12 - 12 * (k : Int) ≤ a) ∧ a ≤ 12 ∧ -100 ≤ a → yE T n q H → yDd 2 cp d H → yR2 T n s0 (if k < 4 then (13, [], (k : Int), a, 0, d, q) else (50, [], 0, 0, 0, (yU d.1 5 (d.1 5 + 1), d.2), q)) → s0.2.2.2.2.2.2 ≤ q → zs_Safe L σ (yRL T n 2 cp s0) zm_79 [] (dd + 4) (5, lv9, [], H, (0, 0)) := by
  intro m
  induction m with
  | zero =>
    intro H lv9 i r q k a d h5 hm l0 l1 l2 l3 hi hk hr ha h hDd hR hsq
    obtain ⟨hD, hX⟩ := hDd
    have hwc : yWC 2 cp := ⟨by decide, hcp⟩
    have W := zB_Wd h.1.1
    have hha : (H.2.1 2 7).toInt = d.1 5 := hD.2.2.2.1
    have r7 := zB_fr1 h.1.1 (p := 2) (k := 7) (r := (0, 5)) rfl
    have r7 : 0 ≤ (H.2.1 2 7).toInt ∧ (H.2.1 2 7).toInt ≤ 5 := r7
    refine zw_ld (n := 1) (k := 3) (f := zp_isI) (pc' := 6) rfl rfl l3 rfl rfl ?_
    refine zw_s (pc' := 7) rfl rfl ?_
    refine zw_bge2 (g := 83) (pc' := 10) rfl rfl rfl rfl (rfl : _ = (4 : Int)) (fun h7 => ?_) (fun h7 => ?_)
    · obtain rfl : k = 4 := by omega
      rw [if_neg (by omega)] at hR
      have e7 : (H.2.1 2 7 + Int32.ofInt 1).toInt = (H.2.1 2 7).toInt + 1 := zw_p1 (by omega)
      have b1 := zB_putf (p := 2) (k := 7) (x := H.2.1 2 7 + Int32.ofInt 1) h.1.1 rfl (fun r hr => by cases hr; exact ⟨by show (0 : Int) ≤ _; omega, by show _ ≤ (5 : Int); omega⟩) (zJc_I rfl h.1.1.2.2.2.2.2.2.2)
      refine zw_ld (n := 1) (k := 1) (f := zp_isR) (pc' := 84) rfl rfl l1 rfl rfl ?_
      refine zw_s (pc' := 85) rfl rfl ?_
      refine zw_gI (q := 2) (pc' := 88) W rfl rfl rfl rfl rfl rfl ?_
      refine zw_s (pc' := 89) rfl rfl ?_
      refine zw_iadd (pc' := 90) rfl rfl ?_
      refine zw_pI (q := 2) (pc' := 93) W rfl rfl rfl rfl rfl rfl ?_
      refine zw_s (pc' := 94) rfl rfl ?_
      refine zw_rz rfl rfl (by decide) ?_
      refine yRL_1 (yE_I h b1 rfl) ⟨?_, yXd_k (by decide) (yXd_o (by rcases hcp with rfl | rfl <;> decide) hX)⟩ hR hsq
      obtain ⟨g1, g2, g3, g4, g5, g6, g7, g8, g9, g10⟩ := hD
      have e : ∀ q k, ((Nat.beq q 2).and (Nat.beq k 7)) = false → ((zw_I H 2 7 (H.2.1 2 7 + Int32.ofInt 1)).2.1 q k).toInt = (H.2.1 q k).toInt := fun q k h1 => congrArg Int32.toInt (zw_ne rfl h1)
      exact ⟨(e 2 0 rfl).trans g1, (e 2 1 rfl).trans g2, (e cp 0 (by rcases hcp with rfl | rfl <;> rfl)).trans g3, (congrArg Int32.toInt zw_eq).trans (by rw [e7, hha]; rfl), (e 2 12 rfl).trans g5, (e 2 16 rfl).trans g6, (e 51 2 rfl).trans g7, (e 51 3 rfl).trans g8, g9, g10⟩
    · omega
  | succ m ih =>
    intro H lv9 i r q k a d h5 hm l0 l1 l2 l3 hi hk hr ha h hDd hR hsq
    obtain ⟨hD, hX⟩ := hDd
    have hwc : yWC 2 cp := ⟨by decide, hcp⟩
    have W := zB_Wd h.1.1
    have hha : (H.2.1 2 7).toInt = d.1 5 := hD.2.2.2.1
    have r7 := zB_fr1 h.1.1 (p := 2) (k := 7) (r := (0, 5)) rfl
    have r7 : 0 ≤ (H.2.1 2 7).toInt ∧ (H.2.1 2 7).toInt ≤ 5 := r7
    refine zw_ld (n := 1) (k := 3) (f := zp_isI) (pc' := 6) rfl rfl l3 rfl rfl ?_
    refine zw_s (pc' := 7) rfl rfl ?_
    refine zw_bge2 (g := 83) (pc' := 10) rfl rfl rfl rfl (rfl : _ = (4 : Int)) (fun h7 => ?_) (fun h7 => ?_)
    · obtain rfl : k = 4 := by omega
      rw [if_neg (by omega)] at hR
      have e7 : (H.2.1 2 7 + Int32.ofInt 1).toInt = (H.2.1 2 7).toInt + 1 := zw_p1 (by omega)
      have b1 := zB_putf (p := 2) (k := 7) (x := H.2.1 2 7 + Int32.ofInt 1) h.1.1 rfl (fun r hr => by cases hr; exact ⟨by show (0 : Int) ≤ _; omega, by show _ ≤ (5 : Int); omega⟩) (zJc_I rfl h.1.1.2.2.2.2.2.2.2)
      refine zw_ld (n := 1) (k := 1) (f := zp_isR) (pc' := 84) rfl rfl l1 rfl rfl ?_
      refine zw_s (pc' := 85) rfl rfl ?_
      refine zw_gI (q := 2) (pc' := 88) W rfl rfl rfl rfl rfl rfl ?_
      refine zw_s (pc' := 89) rfl rfl ?_
      refine zw_iadd (pc' := 90) rfl rfl ?_
      refine zw_pI (q := 2) (pc' := 93) W rfl rfl rfl rfl rfl rfl ?_
      refine zw_s (pc' := 94) rfl rfl ?_
      refine zw_rz rfl rfl (by decide) ?_
      refine yRL_1 (yE_I h b1 rfl) ⟨?_, yXd_k (by decide) (yXd_o (by rcases hcp with rfl | rfl <;> decide) hX)⟩ hR hsq
      obtain ⟨g1, g2, g3, g4, g5, g6, g7, g8, g9, g10⟩ := hD
      have e : ∀ q k, ((Nat.beq q 2).and (Nat.beq k 7)) = false → ((zw_I H 2 7 (H.2.1 2 7 + Int32.ofInt 1)).2.1 q k).toInt = (H.2.1 q k).toInt := fun q k h1 => congrArg Int32.toInt (zw_ne rfl h1)
      exact ⟨(e 2 0 rfl).trans g1, (e 2 1 rfl).trans g2, (e cp 0 (by rcases hcp with rfl | rfl <;> rfl)).trans g3, (congrArg Int32.toInt zw_eq).trans (by rw [e7, hha]; rfl), (e 2 12 rfl).trans g5, (e 2 16 rfl).trans g6, (e 51 2 rfl).trans g7, (e 51 3 rfl).trans g8, g9, g10⟩
    · rw [if_pos (by omega)] at hR
      refine zw_ld (n := 1) (k := 3) (f := zp_isI) (pc' := 11) rfl rfl l3 rfl rfl ?_
      refine zw_s (pc' := 12) rfl rfl ?_
      refine zw_bne2 (g := 19) (pc' := 15) rfl rfl rfl rfl (rfl : _ = (3 : Int)) (fun h3 => ?_) (fun h3 => ?_)
      · refine zw_s (pc' := 20) rfl rfl ?_
        refine zw_st (n := 2) (k := 4) (f := zp_isI) (pc' := 22) rfl rfl rfl rfl rfl ?_
        refine zw_ld (n := 1) (k := 0) (f := zp_isR) (pc' := 23) rfl rfl (zw_gt l0 rfl rfl) rfl rfl ?_
        refine zw_ld (n := 2) (k := 4) (f := zp_isI) (pc' := 25) rfl rfl zw_g1 rfl rfl ?_
        refine zw_beq1 (g := 32) (pc' := 28) rfl rfl rfl (rfl : _ = (0 : Int)) (fun h9 => ?_) (fun h9 => absurd h9 (by decide))
        refine zw_s (pc' := 33) rfl rfl ?_
        refine zw_ld (n := 2) (k := 4) (f := zp_isI) (pc' := 35) rfl rfl zw_g1 rfl rfl ?_
        refine zw_beq1 (g := 42) (pc' := 38) rfl rfl rfl (rfl : _ = (0 : Int)) (fun h9 => ?_) (fun h9 => absurd h9 (by decide))
        refine zw_s (pc' := 44) rfl rfl ?_
        obtain ⟨_, c1, v, H1, rfl, c2, c3⟩ := yc_num (L := L) (σ := σ) (d := dd) (x := Int32.ofInt 0) (y := Int32.ofInt 12) (lo := 0) (hi := 12) rfl rfl h
        refine zw_c (pc' := 47) (zw_cv (q := 51) (Y := zm_65) W.1 rfl rfl zm_65_t rfl rfl) rfl rfl rfl rfl rfl (c1) ?_
        refine zw_st (n := 2) (k := 5) (f := zp_isI) (pc' := 49) rfl rfl rfl rfl rfl ?_
        refine zw_ld (n := 2) (k := 5) (f := zp_isI) (pc' := 51) rfl rfl zw_g1 rfl rfl ?_
        refine zw_s (pc' := 52) rfl rfl ?_
        refine zw_bne2 (g := 57) (pc' := 55) rfl rfl rfl rfl (rfl : _ = (-1 : Int)) (fun h4 => ?_) (fun h4 => ?_)
        · rcases c3 with ⟨k1, k2, k3, k4, k5, k6, k7⟩ | ⟨k1, _⟩
          rotate_left
          · omega
          have W1 := zB_Wd k7.1.1
          have hD1 : yDc 2 cp d H1 := yDc_F c2 (by rcases hcp with rfl | rfl <;> rfl) hD
          have hX1 := yXd_F hwc c2 (by rcases hcp with rfl | rfl <;> rfl) hX
          have hha1 : (H1.2.1 2 7).toInt = d.1 5 := hD1.2.2.2.1
          have em : (H1.2.1 2 7 * Int32.ofInt 4).toInt = (H1.2.1 2 7).toInt * 4 := zq_mul rfl (by omega) (by omega)
          have ej : (H1.2.1 2 7 * Int32.ofInt 4 + i).toInt = (H1.2.1 2 7).toInt * 4 + i.toInt := by
            rw [zq_add (by rw [em]; omega) (by rw [em]; omega), em]
          have er : (r - v).toInt = r.toInt - v.toInt := zq_sub (by omega) (by omega)
          have ei : (i + Int32.ofInt 1).toInt = i.toInt + 1 := zw_p1 (by omega)
          have b1 := zB_puta (p := 6) (j := (H1.2.1 2 7 * Int32.ofInt 4 + i).toInt.toNat) (x := v) (t := 0) (n := 20) k7.1.1 rfl (fun r hr => by
            have hr : [((-2147483648 : Int), (2147483647 : Int))][(H1.2.1 2 7 * Int32.ofInt 4 + i).toInt.toNat % 1]? = some r := hr
            rw [Nat.mod_one] at hr
            cases hr
            exact ⟨Int32.le_toInt _, Int32.toInt_le _⟩) (zJc_I rfl k7.1.1.2.2.2.2.2.2.2) (fun k r hr => by cases hr)
          have hD9 : yDc 2 cp d (zw_I H1 6 (H1.2.1 2 7 * Int32.ofInt 4 + i).toInt.toNat v) := by
            obtain ⟨g1, g2, g3, g4, g5, g6, g7, g8, g9, g10⟩ := hD1
            have e : ∀ q k, Nat.beq q 6 = false → ((zw_I H1 6 (H1.2.1 2 7 * Int32.ofInt 4 + i).toInt.toNat v).2.1 q k).toInt = (H1.2.1 q k).toInt := fun q k h1 => congrArg Int32.toInt (zw_ne rfl (by rw [h1]; rfl))
            exact ⟨(e 2 0 rfl).trans g1, (e 2 1 rfl).trans g2, (e cp 0 (by rcases hcp with rfl | rfl <;> rfl)).trans g3, (e 2 7 rfl).trans g4, (e 2 12 rfl).trans g5, (e 2 16 rfl).trans g6, (e 51 2 rfl).trans g7, (e 51 3 rfl).trans g8, g9, g10⟩
          have hloc : yLc 2 cp (500 + (4 * (d.1 5).toNat + ((k : Nat) : Int).toNat)) = (6, (H1.2.1 2 7 * Int32.ofInt 4 + i).toInt.toNat) := by
            rw [yL_500 (by omega), ej]
            exact congrArg (Prod.mk _) (by omega)
          have hX9 := yXd_wD (v := ys_vl T n q) (yLc_inj hwc) (by omega) hloc k1 hX1
          have hD8 := yDc_W (i := 500 + (4 * (d.1 5).toNat + ((k : Nat) : Int).toNat)) (v := ys_vl T n q) (by omega) hD9
          have e5 : (yW d (500 + (4 * (d.1 5).toNat + ((k : Nat) : Int).toNat)) (ys_vl T n q)).1 5 = d.1 5 := yW_n (by omega)
          refine zw_ld (n := 1) (k := 1) (f := zp_isR) (pc' := 58) rfl rfl (zw_gt (zw_gt l1 rfl rfl) rfl rfl) rfl rfl ?_
          refine zw_gR (q := 2) (pc' := 61) W1 rfl rfl rfl rfl (W1.2 2 8 _ rfl) rfl ?_
          refine zw_ld (n := 1) (k := 1) (f := zp_isR) (pc' := 62) rfl rfl (zw_gt (zw_gt l1 rfl rfl) rfl rfl) rfl rfl ?_
          refine zw_gI (q := 2) (pc' := 65) W1 rfl rfl rfl rfl rfl rfl ?_
          refine zw_s (pc' := 66) rfl rfl ?_
          refine zw_imul (pc' := 67) rfl rfl ?_
          refine zw_ld (n := 1) (k := 3) (f := zp_isI) (pc' := 68) rfl rfl (zw_gt (zw_gt l3 rfl rfl) rfl rfl) rfl rfl ?_
          refine zw_iadd (pc' := 69) rfl rfl ?_
          refine zw_ld (n := 2) (k := 5) (f := zp_isI) (pc' := 71) rfl rfl zw_g1 rfl rfl ?_
          refine zw_is (q := 6) (pc' := 72) W1 rfl rfl (by decide) (⟨by rw [ej]; omega, by rw [ej]; show _ < ((20 : Nat) : Int); omega⟩) rfl ?_
          refine zw_ld (n := 1) (k := 2) (f := zp_isI) (pc' := 73) rfl rfl (zw_gt (zw_gt l2 rfl rfl) rfl rfl) rfl rfl ?_
          refine zw_ld (n := 2) (k := 5) (f := zp_isI) (pc' := 75) rfl rfl zw_g1 rfl rfl ?_
          refine zw_isub (pc' := 76) rfl rfl ?_
          refine zw_st (n := 1) (k := 2) (f := zp_isI) (pc' := 77) rfl rfl rfl rfl rfl ?_
          refine zw_ii (pc' := 80) rfl (zw_gt (zw_gt (zw_gt l3 rfl rfl) rfl rfl) rfl rfl) rfl rfl ?_
          refine zw_s (pc' := 5) rfl rfl ?_
          refine ih _ _ _ _ _ (k + 1) (a - ys_vl T n q) (yW d (500 + (4 * (d.1 5).toNat + ((k : Nat) : Int).toNat)) (ys_vl T n q)) (by rw [e5]; exact h5) (by omega) (zw_gt (zw_gt (zw_gt (zw_gt l0 rfl rfl) rfl rfl) rfl rfl) rfl rfl) (zw_gt (zw_gt (zw_gt (zw_gt l1 rfl rfl) rfl rfl) rfl rfl) rfl rfl) (zw_gt zw_g1 rfl rfl) zw_g1 (by omega) (by omega) (by omega) (by omega) (yE_I k7 b1 rfl) ⟨hD8, hX9⟩ ?_ (Nat.le_trans hsq (ys_le1 h.2.2))
          rw [if_pos (by omega)]
          exact yR2_t hR (yR2_s ((yN2_13.trans (if_pos (show (k : Int) < 3 by omega))).trans (k6 _)))
        · refine zw_s (pc' := 56) rfl rfl ?_
          refine zw_rz rfl rfl (by decide) ?_
          rcases c3 with ⟨k1, k2, k3, k4, _⟩ | ⟨_, k9, k1, k2, k3, k4, k5⟩
          · omega
          · exact yRL_0 k5 k3 (yR2_a hR (yA2_done ((yN2_13.trans (if_pos (show (k : Int) < 3 by omega))).trans (k4 _)))) ⟨k1, k2⟩
      · refine zw_s (pc' := 16) rfl rfl ?_
        refine zw_s (pc' := 20) rfl rfl ?_
        refine zw_st (n := 2) (k := 4) (f := zp_isI) (pc' := 22) rfl rfl rfl rfl rfl ?_
        refine zw_ld (n := 1) (k := 0) (f := zp_isR) (pc' := 23) rfl rfl (zw_gt l0 rfl rfl) rfl rfl ?_
        refine zw_ld (n := 2) (k := 4) (f := zp_isI) (pc' := 25) rfl rfl zw_g1 rfl rfl ?_
        refine zw_beq1 (g := 32) (pc' := 28) rfl rfl rfl (rfl : _ = (1 : Int)) (fun h9 => absurd h9 (by decide)) (fun h9 => ?_)
        refine zw_ld (n := 1) (k := 2) (f := zp_isI) (pc' := 29) rfl rfl (zw_gt l2 rfl rfl) rfl rfl ?_
        refine zw_s (pc' := 33) rfl rfl ?_
        refine zw_ld (n := 2) (k := 4) (f := zp_isI) (pc' := 35) rfl rfl zw_g1 rfl rfl ?_
        refine zw_beq1 (g := 42) (pc' := 38) rfl rfl rfl (rfl : _ = (1 : Int)) (fun h9 => absurd h9 (by decide)) (fun h9 => ?_)
        refine zw_ld (n := 1) (k := 2) (f := zp_isI) (pc' := 39) rfl rfl (zw_gt l2 rfl rfl) rfl rfl ?_
        refine zw_s (pc' := 44) rfl rfl ?_
        obtain rfl : k = 3 := by omega
        obtain ⟨_, c1, v, H1, rfl, c2, c3⟩ := yc_num (L := L) (σ := σ) (d := dd) (x := r) (y := r) (lo := a) (hi := a) hr hr h
        refine zw_c (pc' := 47) (zw_cv (q := 51) (Y := zm_65) W.1 rfl rfl zm_65_t rfl rfl) rfl rfl rfl rfl rfl (c1) ?_
        refine zw_st (n := 2) (k := 5) (f := zp_isI) (pc' := 49) rfl rfl rfl rfl rfl ?_
        refine zw_ld (n := 2) (k := 5) (f := zp_isI) (pc' := 51) rfl rfl zw_g1 rfl rfl ?_
        refine zw_s (pc' := 52) rfl rfl ?_
        refine zw_bne2 (g := 57) (pc' := 55) rfl rfl rfl rfl (rfl : _ = (-1 : Int)) (fun h4 => ?_) (fun h4 => ?_)
        · rcases c3 with ⟨k1, k2, k3, k4, k5, k6, k7⟩ | ⟨k1, _⟩
          rotate_left
          · omega
          have W1 := zB_Wd k7.1.1
          have hD1 : yDc 2 cp d H1 := yDc_F c2 (by rcases hcp with rfl | rfl <;> rfl) hD
          have hX1 := yXd_F hwc c2 (by rcases hcp with rfl | rfl <;> rfl) hX
          have hha1 : (H1.2.1 2 7).toInt = d.1 5 := hD1.2.2.2.1
          have em : (H1.2.1 2 7 * Int32.ofInt 4).toInt = (H1.2.1 2 7).toInt * 4 := zq_mul rfl (by omega) (by omega)
          have ej : (H1.2.1 2 7 * Int32.ofInt 4 + i).toInt = (H1.2.1 2 7).toInt * 4 + i.toInt := by
            rw [zq_add (by rw [em]; omega) (by rw [em]; omega), em]
          have er : (r - v).toInt = r.toInt - v.toInt := zq_sub (by omega) (by omega)
          have ei : (i + Int32.ofInt 1).toInt = i.toInt + 1 := zw_p1 (by omega)
          have b1 := zB_puta (p := 6) (j := (H1.2.1 2 7 * Int32.ofInt 4 + i).toInt.toNat) (x := v) (t := 0) (n := 20) k7.1.1 rfl (fun r hr => by
            have hr : [((-2147483648 : Int), (2147483647 : Int))][(H1.2.1 2 7 * Int32.ofInt 4 + i).toInt.toNat % 1]? = some r := hr
            rw [Nat.mod_one] at hr
            cases hr
            exact ⟨Int32.le_toInt _, Int32.toInt_le _⟩) (zJc_I rfl k7.1.1.2.2.2.2.2.2.2) (fun k r hr => by cases hr)
          have hD9 : yDc 2 cp d (zw_I H1 6 (H1.2.1 2 7 * Int32.ofInt 4 + i).toInt.toNat v) := by
            obtain ⟨g1, g2, g3, g4, g5, g6, g7, g8, g9, g10⟩ := hD1
            have e : ∀ q k, Nat.beq q 6 = false → ((zw_I H1 6 (H1.2.1 2 7 * Int32.ofInt 4 + i).toInt.toNat v).2.1 q k).toInt = (H1.2.1 q k).toInt := fun q k h1 => congrArg Int32.toInt (zw_ne rfl (by rw [h1]; rfl))
            exact ⟨(e 2 0 rfl).trans g1, (e 2 1 rfl).trans g2, (e cp 0 (by rcases hcp with rfl | rfl <;> rfl)).trans g3, (e 2 7 rfl).trans g4, (e 2 12 rfl).trans g5, (e 2 16 rfl).trans g6, (e 51 2 rfl).trans g7, (e 51 3 rfl).trans g8, g9, g10⟩
          have hloc : yLc 2 cp (500 + (4 * (d.1 5).toNat + ((3 : Nat) : Int).toNat)) = (6, (H1.2.1 2 7 * Int32.ofInt 4 + i).toInt.toNat) := by
            rw [yL_500 (by omega), ej]
            exact congrArg (Prod.mk _) (by omega)
          have hX9 := yXd_wD (v := ys_vl T n q) (yLc_inj hwc) (by omega) hloc k1 hX1
          have hD8 := yDc_W (i := 500 + (4 * (d.1 5).toNat + ((3 : Nat) : Int).toNat)) (v := ys_vl T n q) (by omega) hD9
          have e5 : (yW d (500 + (4 * (d.1 5).toNat + ((3 : Nat) : Int).toNat)) (ys_vl T n q)).1 5 = d.1 5 := yW_n (by omega)
          refine zw_ld (n := 1) (k := 1) (f := zp_isR) (pc' := 58) rfl rfl (zw_gt (zw_gt l1 rfl rfl) rfl rfl) rfl rfl ?_
          refine zw_gR (q := 2) (pc' := 61) W1 rfl rfl rfl rfl (W1.2 2 8 _ rfl) rfl ?_
          refine zw_ld (n := 1) (k := 1) (f := zp_isR) (pc' := 62) rfl rfl (zw_gt (zw_gt l1 rfl rfl) rfl rfl) rfl rfl ?_
          refine zw_gI (q := 2) (pc' := 65) W1 rfl rfl rfl rfl rfl rfl ?_
          refine zw_s (pc' := 66) rfl rfl ?_
          refine zw_imul (pc' := 67) rfl rfl ?_
          refine zw_ld (n := 1) (k := 3) (f := zp_isI) (pc' := 68) rfl rfl (zw_gt (zw_gt l3 rfl rfl) rfl rfl) rfl rfl ?_
          refine zw_iadd (pc' := 69) rfl rfl ?_
          refine zw_ld (n := 2) (k := 5) (f := zp_isI) (pc' := 71) rfl rfl zw_g1 rfl rfl ?_
          refine zw_is (q := 6) (pc' := 72) W1 rfl rfl (by decide) (⟨by rw [ej]; omega, by rw [ej]; show _ < ((20 : Nat) : Int); omega⟩) rfl ?_
          refine zw_ld (n := 1) (k := 2) (f := zp_isI) (pc' := 73) rfl rfl (zw_gt (zw_gt l2 rfl rfl) rfl rfl) rfl rfl ?_
          refine zw_ld (n := 2) (k := 5) (f := zp_isI) (pc' := 75) rfl rfl zw_g1 rfl rfl ?_
          refine zw_isub (pc' := 76) rfl rfl ?_
          refine zw_st (n := 1) (k := 2) (f := zp_isI) (pc' := 77) rfl rfl rfl rfl rfl ?_
          refine zw_ii (pc' := 80) rfl (zw_gt (zw_gt (zw_gt l3 rfl rfl) rfl rfl) rfl rfl) rfl rfl ?_
          refine zw_s (pc' := 5) rfl rfl ?_
          refine ih _ _ _ _ _ 4 (a - ys_vl T n q) (yW d (500 + (4 * (d.1 5).toNat + 3)) (ys_vl T n q)) (by rw [show (yW d (500 + (4 * (d.1 5).toNat + 3)) (ys_vl T n q)).1 5 = d.1 5 from e5]; exact h5) (by omega) (zw_gt (zw_gt (zw_gt (zw_gt l0 rfl rfl) rfl rfl) rfl rfl) rfl rfl) (zw_gt (zw_gt (zw_gt (zw_gt l1 rfl rfl) rfl rfl) rfl rfl) rfl rfl) (zw_gt zw_g1 rfl rfl) zw_g1 (by omega) (by omega) (by omega) (by omega) (yE_I k7 b1 rfl) ⟨hD8, hX9⟩ ?_ (Nat.le_trans hsq (ys_le1 h.2.2))
          rw [if_neg (by omega)]
          exact yR2_t hR (yR2_s ((yN2_13.trans (if_neg (show ¬ ((3 : Nat) : Int) < 3 by decide))).trans (k6 _)))
        · refine zw_s (pc' := 56) rfl rfl ?_
          refine zw_rz rfl rfl (by decide) ?_
          rcases c3 with ⟨k1, k2, k3, k4, _⟩ | ⟨_, k9, k1, k2, k3, k4, k5⟩
          · omega
          · exact yRL_0 k5 k3 (yR2_a hR (yA2_done ((yN2_13.trans (if_neg (show ¬ ((3 : Nat) : Int) < 3 by decide))).trans (k4 _)))) ⟨k1, k2⟩

set_option maxRecDepth 8000 in
theorem yc_hand2 {L : Nat} {σ : Nat → Int32} {dd : Nat} {T : Nat → Int} {n p : Nat} {d : yLD} {cp : Nat} {H : zp_H} (hcp : cp = 13 ∨ cp = 33) (h5 : d.1 5 < 5) (h : yE T n p H) (hD : yDd 2 cp d H) : ∃ X, zp_Call L σ (dd + 5) 79 [.inr (.inr (some 52)), .inr (.inr (some 3))] H X ∧ yRL T n 2 cp (13, [], 0, 12, 0, d, p) X := by
  refine zw_met zm_79_t rfl rfl ?_
  refine zw_s (pc' := 2) rfl rfl ?_
  refine zw_st (n := 1) (k := 2) (f := zp_isI) (pc' := 3) rfl rfl rfl rfl rfl ?_
  refine zw_s (pc' := 4) rfl rfl ?_
  refine zw_st (n := 1) (k := 3) (f := zp_isI) (pc' := 5) rfl rfl rfl rfl rfl ?_
  exact yc_handL2 hcp _ H _ _ _ p 0 12 d h5 (Nat.le_refl _) (zw_gt (zw_gt rfl rfl rfl) rfl rfl) (zw_gt (zw_gt rfl rfl rfl) rfl rfl) (zw_gt zw_g1 rfl rfl) zw_g1 rfl (by decide) rfl ⟨fun _ => by decide, by decide, by decide⟩ h hD (by rw [if_pos (by decide)]; exact yR2_r) (Nat.le_refl _)

set_option maxRecDepth 8000 in
theorem yc_handL22 {L : Nat} {σ : Nat → Int32} {dd : Nat} {T : Nat → Int} {n : Nat} {s0 : yL} {cp : Nat} (hcp : cp = 13 ∨ cp = 33) : ∀ (m : Nat) (H : zp_H) (lv9 : zp_LV) (i r : Int32) (q k : Nat) (a : Int) (d : yLD), d.1 5 < 5 → 4 - k ≤ m → zp_get lv9 0 = some (.inr (.inr (some 52))) → zp_get lv9 1 = some (.inr (.inr (some 23))) → zp_get lv9 2 = some (.inl r) → zp_get lv9 3 = some (.inl i) → i.toInt = k → k ≤ 4 → r.toInt = a → (k < 4 → 12 - 12 * (k : Int) ≤ a) ∧ a ≤ 12 ∧ -100 ≤ a → yE T n q H → yDd 22 cp d H → yR2 T n s0 (if k < 4 then (13, [], (k : Int), a, 0, d, q) else (50, [], 0, 0, 0, (yU d.1 5 (d.1 5 + 1), d.2), q)) → s0.2.2.2.2.2.2 ≤ q → zs_Safe L σ (yRL T n 22 cp s0) zm_79 [] (dd + 4) (5, lv9, [], H, (0, 0)) := by
  intro m
  induction m with
  | zero =>
    intro H lv9 i r q k a d h5 hm l0 l1 l2 l3 hi hk hr ha h hDd hR hsq
    obtain ⟨hD, hX⟩ := hDd
    have hwc : yWC 22 cp := ⟨by decide, hcp⟩
    have W := zB_Wd h.1.1
    have hha : (H.2.1 22 7).toInt = d.1 5 := hD.2.2.2.1
    have r7 := zB_fr1 h.1.1 (p := 22) (k := 7) (r := (0, 5)) rfl
    have r7 : 0 ≤ (H.2.1 22 7).toInt ∧ (H.2.1 22 7).toInt ≤ 5 := r7
    refine zw_ld (n := 1) (k := 3) (f := zp_isI) (pc' := 6) rfl rfl l3 rfl rfl ?_
    refine zw_s (pc' := 7) rfl rfl ?_
    refine zw_bge2 (g := 83) (pc' := 10) rfl rfl rfl rfl (rfl : _ = (4 : Int)) (fun h7 => ?_) (fun h7 => ?_)
    · obtain rfl : k = 4 := by omega
      rw [if_neg (by omega)] at hR
      have e7 : (H.2.1 22 7 + Int32.ofInt 1).toInt = (H.2.1 22 7).toInt + 1 := zw_p1 (by omega)
      have b1 := zB_putf (p := 22) (k := 7) (x := H.2.1 22 7 + Int32.ofInt 1) h.1.1 rfl (fun r hr => by cases hr; exact ⟨by show (0 : Int) ≤ _; omega, by show _ ≤ (5 : Int); omega⟩) (zJc_I rfl h.1.1.2.2.2.2.2.2.2)
      refine zw_ld (n := 1) (k := 1) (f := zp_isR) (pc' := 84) rfl rfl l1 rfl rfl ?_
      refine zw_s (pc' := 85) rfl rfl ?_
      refine zw_gI (q := 22) (pc' := 88) W rfl rfl rfl rfl rfl rfl ?_
      refine zw_s (pc' := 89) rfl rfl ?_
      refine zw_iadd (pc' := 90) rfl rfl ?_
      refine zw_pI (q := 22) (pc' := 93) W rfl rfl rfl rfl rfl rfl ?_
      refine zw_s (pc' := 94) rfl rfl ?_
      refine zw_rz rfl rfl (by decide) ?_
      refine yRL_1 (yE_I h b1 rfl) ⟨?_, yXd_k (by decide) (yXd_o (by rcases hcp with rfl | rfl <;> decide) hX)⟩ hR hsq
      obtain ⟨g1, g2, g3, g4, g5, g6, g7, g8, g9, g10⟩ := hD
      have e : ∀ q k, ((Nat.beq q 22).and (Nat.beq k 7)) = false → ((zw_I H 22 7 (H.2.1 22 7 + Int32.ofInt 1)).2.1 q k).toInt = (H.2.1 q k).toInt := fun q k h1 => congrArg Int32.toInt (zw_ne rfl h1)
      exact ⟨(e 22 0 rfl).trans g1, (e 22 1 rfl).trans g2, (e cp 0 (by rcases hcp with rfl | rfl <;> rfl)).trans g3, (congrArg Int32.toInt zw_eq).trans (by rw [e7, hha]; rfl), (e 22 12 rfl).trans g5, (e 22 16 rfl).trans g6, (e 51 2 rfl).trans g7, (e 51 3 rfl).trans g8, g9, g10⟩
    · omega
  | succ m ih =>
    intro H lv9 i r q k a d h5 hm l0 l1 l2 l3 hi hk hr ha h hDd hR hsq
    obtain ⟨hD, hX⟩ := hDd
    have hwc : yWC 22 cp := ⟨by decide, hcp⟩
    have W := zB_Wd h.1.1
    have hha : (H.2.1 22 7).toInt = d.1 5 := hD.2.2.2.1
    have r7 := zB_fr1 h.1.1 (p := 22) (k := 7) (r := (0, 5)) rfl
    have r7 : 0 ≤ (H.2.1 22 7).toInt ∧ (H.2.1 22 7).toInt ≤ 5 := r7
    refine zw_ld (n := 1) (k := 3) (f := zp_isI) (pc' := 6) rfl rfl l3 rfl rfl ?_
    refine zw_s (pc' := 7) rfl rfl ?_
    refine zw_bge2 (g := 83) (pc' := 10) rfl rfl rfl rfl (rfl : _ = (4 : Int)) (fun h7 => ?_) (fun h7 => ?_)
    · obtain rfl : k = 4 := by omega
      rw [if_neg (by omega)] at hR
      have e7 : (H.2.1 22 7 + Int32.ofInt 1).toInt = (H.2.1 22 7).toInt + 1 := zw_p1 (by omega)
      have b1 := zB_putf (p := 22) (k := 7) (x := H.2.1 22 7 + Int32.ofInt 1) h.1.1 rfl (fun r hr => by cases hr; exact ⟨by show (0 : Int) ≤ _; omega, by show _ ≤ (5 : Int); omega⟩) (zJc_I rfl h.1.1.2.2.2.2.2.2.2)
      refine zw_ld (n := 1) (k := 1) (f := zp_isR) (pc' := 84) rfl rfl l1 rfl rfl ?_
      refine zw_s (pc' := 85) rfl rfl ?_
      refine zw_gI (q := 22) (pc' := 88) W rfl rfl rfl rfl rfl rfl ?_
      refine zw_s (pc' := 89) rfl rfl ?_
      refine zw_iadd (pc' := 90) rfl rfl ?_
      refine zw_pI (q := 22) (pc' := 93) W rfl rfl rfl rfl rfl rfl ?_
      refine zw_s (pc' := 94) rfl rfl ?_
      refine zw_rz rfl rfl (by decide) ?_
      refine yRL_1 (yE_I h b1 rfl) ⟨?_, yXd_k (by decide) (yXd_o (by rcases hcp with rfl | rfl <;> decide) hX)⟩ hR hsq
      obtain ⟨g1, g2, g3, g4, g5, g6, g7, g8, g9, g10⟩ := hD
      have e : ∀ q k, ((Nat.beq q 22).and (Nat.beq k 7)) = false → ((zw_I H 22 7 (H.2.1 22 7 + Int32.ofInt 1)).2.1 q k).toInt = (H.2.1 q k).toInt := fun q k h1 => congrArg Int32.toInt (zw_ne rfl h1)
      exact ⟨(e 22 0 rfl).trans g1, (e 22 1 rfl).trans g2, (e cp 0 (by rcases hcp with rfl | rfl <;> rfl)).trans g3, (congrArg Int32.toInt zw_eq).trans (by rw [e7, hha]; rfl), (e 22 12 rfl).trans g5, (e 22 16 rfl).trans g6, (e 51 2 rfl).trans g7, (e 51 3 rfl).trans g8, g9, g10⟩
    · rw [if_pos (by omega)] at hR
      refine zw_ld (n := 1) (k := 3) (f := zp_isI) (pc' := 11) rfl rfl l3 rfl rfl ?_
      refine zw_s (pc' := 12) rfl rfl ?_
      refine zw_bne2 (g := 19) (pc' := 15) rfl rfl rfl rfl (rfl : _ = (3 : Int)) (fun h3 => ?_) (fun h3 => ?_)
      · refine zw_s (pc' := 20) rfl rfl ?_
        refine zw_st (n := 2) (k := 4) (f := zp_isI) (pc' := 22) rfl rfl rfl rfl rfl ?_
        refine zw_ld (n := 1) (k := 0) (f := zp_isR) (pc' := 23) rfl rfl (zw_gt l0 rfl rfl) rfl rfl ?_
        refine zw_ld (n := 2) (k := 4) (f := zp_isI) (pc' := 25) rfl rfl zw_g1 rfl rfl ?_
        refine zw_beq1 (g := 32) (pc' := 28) rfl rfl rfl (rfl : _ = (0 : Int)) (fun h9 => ?_) (fun h9 => absurd h9 (by decide))
        refine zw_s (pc' := 33) rfl rfl ?_
        refine zw_ld (n := 2) (k := 4) (f := zp_isI) (pc' := 35) rfl rfl zw_g1 rfl rfl ?_
        refine zw_beq1 (g := 42) (pc' := 38) rfl rfl rfl (rfl : _ = (0 : Int)) (fun h9 => ?_) (fun h9 => absurd h9 (by decide))
        refine zw_s (pc' := 44) rfl rfl ?_
        obtain ⟨_, c1, v, H1, rfl, c2, c3⟩ := yc_num (L := L) (σ := σ) (d := dd) (x := Int32.ofInt 0) (y := Int32.ofInt 12) (lo := 0) (hi := 12) rfl rfl h
        refine zw_c (pc' := 47) (zw_cv (q := 51) (Y := zm_65) W.1 rfl rfl zm_65_t rfl rfl) rfl rfl rfl rfl rfl (c1) ?_
        refine zw_st (n := 2) (k := 5) (f := zp_isI) (pc' := 49) rfl rfl rfl rfl rfl ?_
        refine zw_ld (n := 2) (k := 5) (f := zp_isI) (pc' := 51) rfl rfl zw_g1 rfl rfl ?_
        refine zw_s (pc' := 52) rfl rfl ?_
        refine zw_bne2 (g := 57) (pc' := 55) rfl rfl rfl rfl (rfl : _ = (-1 : Int)) (fun h4 => ?_) (fun h4 => ?_)
        · rcases c3 with ⟨k1, k2, k3, k4, k5, k6, k7⟩ | ⟨k1, _⟩
          rotate_left
          · omega
          have W1 := zB_Wd k7.1.1
          have hD1 : yDc 22 cp d H1 := yDc_F c2 (by rcases hcp with rfl | rfl <;> rfl) hD
          have hX1 := yXd_F hwc c2 (by rcases hcp with rfl | rfl <;> rfl) hX
          have hha1 : (H1.2.1 22 7).toInt = d.1 5 := hD1.2.2.2.1
          have em : (H1.2.1 22 7 * Int32.ofInt 4).toInt = (H1.2.1 22 7).toInt * 4 := zq_mul rfl (by omega) (by omega)
          have ej : (H1.2.1 22 7 * Int32.ofInt 4 + i).toInt = (H1.2.1 22 7).toInt * 4 + i.toInt := by
            rw [zq_add (by rw [em]; omega) (by rw [em]; omega), em]
          have er : (r - v).toInt = r.toInt - v.toInt := zq_sub (by omega) (by omega)
          have ei : (i + Int32.ofInt 1).toInt = i.toInt + 1 := zw_p1 (by omega)
          have b1 := zB_puta (p := 26) (j := (H1.2.1 22 7 * Int32.ofInt 4 + i).toInt.toNat) (x := v) (t := 0) (n := 20) k7.1.1 rfl (fun r hr => by
            have hr : [((-2147483648 : Int), (2147483647 : Int))][(H1.2.1 22 7 * Int32.ofInt 4 + i).toInt.toNat % 1]? = some r := hr
            rw [Nat.mod_one] at hr
            cases hr
            exact ⟨Int32.le_toInt _, Int32.toInt_le _⟩) (zJc_I rfl k7.1.1.2.2.2.2.2.2.2) (fun k r hr => by cases hr)
          have hD9 : yDc 22 cp d (zw_I H1 26 (H1.2.1 22 7 * Int32.ofInt 4 + i).toInt.toNat v) := by
            obtain ⟨g1, g2, g3, g4, g5, g6, g7, g8, g9, g10⟩ := hD1
            have e : ∀ q k, Nat.beq q 26 = false → ((zw_I H1 26 (H1.2.1 22 7 * Int32.ofInt 4 + i).toInt.toNat v).2.1 q k).toInt = (H1.2.1 q k).toInt := fun q k h1 => congrArg Int32.toInt (zw_ne rfl (by rw [h1]; rfl))
            exact ⟨(e 22 0 rfl).trans g1, (e 22 1 rfl).trans g2, (e cp 0 (by rcases hcp with rfl | rfl <;> rfl)).trans g3, (e 22 7 rfl).trans g4, (e 22 12 rfl).trans g5, (e 22 16 rfl).trans g6, (e 51 2 rfl).trans g7, (e 51 3 rfl).trans g8, g9, g10⟩
          have hloc : yLc 22 cp (500 + (4 * (d.1 5).toNat + ((k : Nat) : Int).toNat)) = (26, (H1.2.1 22 7 * Int32.ofInt 4 + i).toInt.toNat) := by
            rw [yL_500 (by omega), ej]
            exact congrArg (Prod.mk _) (by omega)
          have hX9 := yXd_wD (v := ys_vl T n q) (yLc_inj hwc) (by omega) hloc k1 hX1
          have hD8 := yDc_W (i := 500 + (4 * (d.1 5).toNat + ((k : Nat) : Int).toNat)) (v := ys_vl T n q) (by omega) hD9
          have e5 : (yW d (500 + (4 * (d.1 5).toNat + ((k : Nat) : Int).toNat)) (ys_vl T n q)).1 5 = d.1 5 := yW_n (by omega)
          refine zw_ld (n := 1) (k := 1) (f := zp_isR) (pc' := 58) rfl rfl (zw_gt (zw_gt l1 rfl rfl) rfl rfl) rfl rfl ?_
          refine zw_gR (q := 22) (pc' := 61) W1 rfl rfl rfl rfl (W1.2 22 8 _ rfl) rfl ?_
          refine zw_ld (n := 1) (k := 1) (f := zp_isR) (pc' := 62) rfl rfl (zw_gt (zw_gt l1 rfl rfl) rfl rfl) rfl rfl ?_
          refine zw_gI (q := 22) (pc' := 65) W1 rfl rfl rfl rfl rfl rfl ?_
          refine zw_s (pc' := 66) rfl rfl ?_
          refine zw_imul (pc' := 67) rfl rfl ?_
          refine zw_ld (n := 1) (k := 3) (f := zp_isI) (pc' := 68) rfl rfl (zw_gt (zw_gt l3 rfl rfl) rfl rfl) rfl rfl ?_
          refine zw_iadd (pc' := 69) rfl rfl ?_
          refine zw_ld (n := 2) (k := 5) (f := zp_isI) (pc' := 71) rfl rfl zw_g1 rfl rfl ?_
          refine zw_is (q := 26) (pc' := 72) W1 rfl rfl (by decide) (⟨by rw [ej]; omega, by rw [ej]; show _ < ((20 : Nat) : Int); omega⟩) rfl ?_
          refine zw_ld (n := 1) (k := 2) (f := zp_isI) (pc' := 73) rfl rfl (zw_gt (zw_gt l2 rfl rfl) rfl rfl) rfl rfl ?_
          refine zw_ld (n := 2) (k := 5) (f := zp_isI) (pc' := 75) rfl rfl zw_g1 rfl rfl ?_
          refine zw_isub (pc' := 76) rfl rfl ?_
          refine zw_st (n := 1) (k := 2) (f := zp_isI) (pc' := 77) rfl rfl rfl rfl rfl ?_
          refine zw_ii (pc' := 80) rfl (zw_gt (zw_gt (zw_gt l3 rfl rfl) rfl rfl) rfl rfl) rfl rfl ?_
          refine zw_s (pc' := 5) rfl rfl ?_
          refine ih _ _ _ _ _ (k + 1) (a - ys_vl T n q) (yW d (500 + (4 * (d.1 5).toNat + ((k : Nat) : Int).toNat)) (ys_vl T n q)) (by rw [e5]; exact h5) (by omega) (zw_gt (zw_gt (zw_gt (zw_gt l0 rfl rfl) rfl rfl) rfl rfl) rfl rfl) (zw_gt (zw_gt (zw_gt (zw_gt l1 rfl rfl) rfl rfl) rfl rfl) rfl rfl) (zw_gt zw_g1 rfl rfl) zw_g1 (by omega) (by omega) (by omega) (by omega) (yE_I k7 b1 rfl) ⟨hD8, hX9⟩ ?_ (Nat.le_trans hsq (ys_le1 h.2.2))
          rw [if_pos (by omega)]
          exact yR2_t hR (yR2_s ((yN2_13.trans (if_pos (show (k : Int) < 3 by omega))).trans (k6 _)))
        · refine zw_s (pc' := 56) rfl rfl ?_
          refine zw_rz rfl rfl (by decide) ?_
          rcases c3 with ⟨k1, k2, k3, k4, _⟩ | ⟨_, k9, k1, k2, k3, k4, k5⟩
          · omega
          · exact yRL_0 k5 k3 (yR2_a hR (yA2_done ((yN2_13.trans (if_pos (show (k : Int) < 3 by omega))).trans (k4 _)))) ⟨k1, k2⟩
      · refine zw_s (pc' := 16) rfl rfl ?_
        refine zw_s (pc' := 20) rfl rfl ?_
        refine zw_st (n := 2) (k := 4) (f := zp_isI) (pc' := 22) rfl rfl rfl rfl rfl ?_
        refine zw_ld (n := 1) (k := 0) (f := zp_isR) (pc' := 23) rfl rfl (zw_gt l0 rfl rfl) rfl rfl ?_
        refine zw_ld (n := 2) (k := 4) (f := zp_isI) (pc' := 25) rfl rfl zw_g1 rfl rfl ?_
        refine zw_beq1 (g := 32) (pc' := 28) rfl rfl rfl (rfl : _ = (1 : Int)) (fun h9 => absurd h9 (by decide)) (fun h9 => ?_)
        refine zw_ld (n := 1) (k := 2) (f := zp_isI) (pc' := 29) rfl rfl (zw_gt l2 rfl rfl) rfl rfl ?_
        refine zw_s (pc' := 33) rfl rfl ?_
        refine zw_ld (n := 2) (k := 4) (f := zp_isI) (pc' := 35) rfl rfl zw_g1 rfl rfl ?_
        refine zw_beq1 (g := 42) (pc' := 38) rfl rfl rfl (rfl : _ = (1 : Int)) (fun h9 => absurd h9 (by decide)) (fun h9 => ?_)
        refine zw_ld (n := 1) (k := 2) (f := zp_isI) (pc' := 39) rfl rfl (zw_gt l2 rfl rfl) rfl rfl ?_
        refine zw_s (pc' := 44) rfl rfl ?_
        obtain rfl : k = 3 := by omega
        obtain ⟨_, c1, v, H1, rfl, c2, c3⟩ := yc_num (L := L) (σ := σ) (d := dd) (x := r) (y := r) (lo := a) (hi := a) hr hr h
        refine zw_c (pc' := 47) (zw_cv (q := 51) (Y := zm_65) W.1 rfl rfl zm_65_t rfl rfl) rfl rfl rfl rfl rfl (c1) ?_
        refine zw_st (n := 2) (k := 5) (f := zp_isI) (pc' := 49) rfl rfl rfl rfl rfl ?_
        refine zw_ld (n := 2) (k := 5) (f := zp_isI) (pc' := 51) rfl rfl zw_g1 rfl rfl ?_
        refine zw_s (pc' := 52) rfl rfl ?_
        refine zw_bne2 (g := 57) (pc' := 55) rfl rfl rfl rfl (rfl : _ = (-1 : Int)) (fun h4 => ?_) (fun h4 => ?_)
        · rcases c3 with ⟨k1, k2, k3, k4, k5, k6, k7⟩ | ⟨k1, _⟩
          rotate_left
          · omega
          have W1 := zB_Wd k7.1.1
          have hD1 : yDc 22 cp d H1 := yDc_F c2 (by rcases hcp with rfl | rfl <;> rfl) hD
          have hX1 := yXd_F hwc c2 (by rcases hcp with rfl | rfl <;> rfl) hX
          have hha1 : (H1.2.1 22 7).toInt = d.1 5 := hD1.2.2.2.1
          have em : (H1.2.1 22 7 * Int32.ofInt 4).toInt = (H1.2.1 22 7).toInt * 4 := zq_mul rfl (by omega) (by omega)
          have ej : (H1.2.1 22 7 * Int32.ofInt 4 + i).toInt = (H1.2.1 22 7).toInt * 4 + i.toInt := by
            rw [zq_add (by rw [em]; omega) (by rw [em]; omega), em]
          have er : (r - v).toInt = r.toInt - v.toInt := zq_sub (by omega) (by omega)
          have ei : (i + Int32.ofInt 1).toInt = i.toInt + 1 := zw_p1 (by omega)
          have b1 := zB_puta (p := 26) (j := (H1.2.1 22 7 * Int32.ofInt 4 + i).toInt.toNat) (x := v) (t := 0) (n := 20) k7.1.1 rfl (fun r hr => by
            have hr : [((-2147483648 : Int), (2147483647 : Int))][(H1.2.1 22 7 * Int32.ofInt 4 + i).toInt.toNat % 1]? = some r := hr
            rw [Nat.mod_one] at hr
            cases hr
            exact ⟨Int32.le_toInt _, Int32.toInt_le _⟩) (zJc_I rfl k7.1.1.2.2.2.2.2.2.2) (fun k r hr => by cases hr)
          have hD9 : yDc 22 cp d (zw_I H1 26 (H1.2.1 22 7 * Int32.ofInt 4 + i).toInt.toNat v) := by
            obtain ⟨g1, g2, g3, g4, g5, g6, g7, g8, g9, g10⟩ := hD1
            have e : ∀ q k, Nat.beq q 26 = false → ((zw_I H1 26 (H1.2.1 22 7 * Int32.ofInt 4 + i).toInt.toNat v).2.1 q k).toInt = (H1.2.1 q k).toInt := fun q k h1 => congrArg Int32.toInt (zw_ne rfl (by rw [h1]; rfl))
            exact ⟨(e 22 0 rfl).trans g1, (e 22 1 rfl).trans g2, (e cp 0 (by rcases hcp with rfl | rfl <;> rfl)).trans g3, (e 22 7 rfl).trans g4, (e 22 12 rfl).trans g5, (e 22 16 rfl).trans g6, (e 51 2 rfl).trans g7, (e 51 3 rfl).trans g8, g9, g10⟩
          have hloc : yLc 22 cp (500 + (4 * (d.1 5).toNat + ((3 : Nat) : Int).toNat)) = (26, (H1.2.1 22 7 * Int32.ofInt 4 + i).toInt.toNat) := by
            rw [yL_500 (by omega), ej]
            exact congrArg (Prod.mk _) (by omega)
          have hX9 := yXd_wD (v := ys_vl T n q) (yLc_inj hwc) (by omega) hloc k1 hX1
          have hD8 := yDc_W (i := 500 + (4 * (d.1 5).toNat + ((3 : Nat) : Int).toNat)) (v := ys_vl T n q) (by omega) hD9
          have e5 : (yW d (500 + (4 * (d.1 5).toNat + ((3 : Nat) : Int).toNat)) (ys_vl T n q)).1 5 = d.1 5 := yW_n (by omega)
          refine zw_ld (n := 1) (k := 1) (f := zp_isR) (pc' := 58) rfl rfl (zw_gt (zw_gt l1 rfl rfl) rfl rfl) rfl rfl ?_
          refine zw_gR (q := 22) (pc' := 61) W1 rfl rfl rfl rfl (W1.2 22 8 _ rfl) rfl ?_
          refine zw_ld (n := 1) (k := 1) (f := zp_isR) (pc' := 62) rfl rfl (zw_gt (zw_gt l1 rfl rfl) rfl rfl) rfl rfl ?_
          refine zw_gI (q := 22) (pc' := 65) W1 rfl rfl rfl rfl rfl rfl ?_
          refine zw_s (pc' := 66) rfl rfl ?_
          refine zw_imul (pc' := 67) rfl rfl ?_
          refine zw_ld (n := 1) (k := 3) (f := zp_isI) (pc' := 68) rfl rfl (zw_gt (zw_gt l3 rfl rfl) rfl rfl) rfl rfl ?_
          refine zw_iadd (pc' := 69) rfl rfl ?_
          refine zw_ld (n := 2) (k := 5) (f := zp_isI) (pc' := 71) rfl rfl zw_g1 rfl rfl ?_
          refine zw_is (q := 26) (pc' := 72) W1 rfl rfl (by decide) (⟨by rw [ej]; omega, by rw [ej]; show _ < ((20 : Nat) : Int); omega⟩) rfl ?_
          refine zw_ld (n := 1) (k := 2) (f := zp_isI) (pc' := 73) rfl rfl (zw_gt (zw_gt l2 rfl rfl) rfl rfl) rfl rfl ?_
          refine zw_ld (n := 2) (k := 5) (f := zp_isI) (pc' := 75) rfl rfl zw_g1 rfl rfl ?_
          refine zw_isub (pc' := 76) rfl rfl ?_
          refine zw_st (n := 1) (k := 2) (f := zp_isI) (pc' := 77) rfl rfl rfl rfl rfl ?_
          refine zw_ii (pc' := 80) rfl (zw_gt (zw_gt (zw_gt l3 rfl rfl) rfl rfl) rfl rfl) rfl rfl ?_
          refine zw_s (pc' := 5) rfl rfl ?_
          refine ih _ _ _ _ _ 4 (a - ys_vl T n q) (yW d (500 + (4 * (d.1 5).toNat + 3)) (ys_vl T n q)) (by rw [show (yW d (500 + (4 * (d.1 5).toNat + 3)) (ys_vl T n q)).1 5 = d.1 5 from e5]; exact h5) (by omega) (zw_gt (zw_gt (zw_gt (zw_gt l0 rfl rfl) rfl rfl) rfl rfl) rfl rfl) (zw_gt (zw_gt (zw_gt (zw_gt l1 rfl rfl) rfl rfl) rfl rfl) rfl rfl) (zw_gt zw_g1 rfl rfl) zw_g1 (by omega) (by omega) (by omega) (by omega) (yE_I k7 b1 rfl) ⟨hD8, hX9⟩ ?_ (Nat.le_trans hsq (ys_le1 h.2.2))
          rw [if_neg (by omega)]
          exact yR2_t hR (yR2_s ((yN2_13.trans (if_neg (show ¬ ((3 : Nat) : Int) < 3 by decide))).trans (k6 _)))
        · refine zw_s (pc' := 56) rfl rfl ?_
          refine zw_rz rfl rfl (by decide) ?_
          rcases c3 with ⟨k1, k2, k3, k4, _⟩ | ⟨_, k9, k1, k2, k3, k4, k5⟩
          · omega
          · exact yRL_0 k5 k3 (yR2_a hR (yA2_done ((yN2_13.trans (if_neg (show ¬ ((3 : Nat) : Int) < 3 by decide))).trans (k4 _)))) ⟨k1, k2⟩

set_option maxRecDepth 8000 in
theorem yc_hand22 {L : Nat} {σ : Nat → Int32} {dd : Nat} {T : Nat → Int} {n p : Nat} {d : yLD} {cp : Nat} {H : zp_H} (hcp : cp = 13 ∨ cp = 33) (h5 : d.1 5 < 5) (h : yE T n p H) (hD : yDd 22 cp d H) : ∃ X, zp_Call L σ (dd + 5) 79 [.inr (.inr (some 52)), .inr (.inr (some 23))] H X ∧ yRL T n 22 cp (13, [], 0, 12, 0, d, p) X := by
  refine zw_met zm_79_t rfl rfl ?_
  refine zw_s (pc' := 2) rfl rfl ?_
  refine zw_st (n := 1) (k := 2) (f := zp_isI) (pc' := 3) rfl rfl rfl rfl rfl ?_
  refine zw_s (pc' := 4) rfl rfl ?_
  refine zw_st (n := 1) (k := 3) (f := zp_isI) (pc' := 5) rfl rfl rfl rfl rfl ?_
  exact yc_handL22 hcp _ H _ _ _ p 0 12 d h5 (Nat.le_refl _) (zw_gt (zw_gt rfl rfl rfl) rfl rfl) (zw_gt (zw_gt rfl rfl rfl) rfl rfl) (zw_gt zw_g1 rfl rfl) zw_g1 rfl (by decide) rfl ⟨fun _ => by decide, by decide, by decide⟩ h hD (by rw [if_pos (by decide)]; exact yR2_r) (Nat.le_refl _)
end
