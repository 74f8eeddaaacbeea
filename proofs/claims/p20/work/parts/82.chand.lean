/-! ===== the class: nextCell, setSize, numberOfTrailingZeros ===== -/
def zm_3 : za_MI := (yX10_setSize, prog_12_method_3_code, 6, none, 10, 0, 0, [], za_i3)
theorem zm_3_t : za_MT 3 = some zm_3 := rfl
def zm_4 : za_MI := (yX11_bit, prog_1_method_31_code, 1, (some FieldType.long), 11, 0, 0, [], za_i4)
theorem zm_4_t : za_MT 4 = some zm_4 := rfl
def zm_30 : za_MI := (yX10_nextCell, prog_12_method_10_code, 3, (some FieldType.int), 10, 0, 0, [], za_i30)
theorem zm_30_t : za_MT 30 = some zm_30 := rfl
def zm_147 : za_MI := (yJ6_numberOfTrailingZeros_0f7a4, prog_20_method_48_code, 2, (some FieldType.int), 14, 0, 0, [], za_i147)
theorem zm_147_t : za_MT 147 = some zm_147 := rfl
theorem zq_sub {x y : Int32} (h1 : -2147483648 ≤ x.toInt - y.toInt) (h2 : x.toInt - y.toInt ≤ 2147483647) : (x - y).toInt = x.toInt - y.toInt := by
  rw [Int32.toInt_sub, Int.bmod_eq_of_le (by omega) (by omega)]
theorem zq_add {x y : Int32} (h1 : -2147483648 ≤ x.toInt + y.toInt) (h2 : x.toInt + y.toInt ≤ 2147483647) : (x + y).toInt = x.toInt + y.toInt := by
  rw [Int32.toInt_add, Int.bmod_eq_of_le (by omega) (by omega)]
theorem zB_Tp {H : zp_H} (h : zk_Bs zB0 zg (fun _ => True) H) {p k : Nat} {x : Int32} (ho : zR_o p = true) (hr : ∀ r, zB_l2 zB_fr p k = some r → r.1 ≤ x.toInt ∧ x.toInt ≤ r.2) : zk_Bs zB0 zg (fun _ => True) (zw_I H p k x) := by
  refine ⟨h.1, h.2.1, fun q hq => absurd hq List.not_mem_nil, fun q hq => absurd hq List.not_mem_nil, fun p' j r hr' => Or.inr ?_, fun p' t n i r hp hi hr' => ?_, fun c hc => absurd hc List.not_mem_nil, trivial⟩
  · have e1 : ∀ G : zp_H, zk_fv zg G p' j = (G.2.1 p' j).toInt := by
      intro G
      unfold zk_fv
      rw [if_neg]
      rintro ⟨rfl, rfl⟩
      cases hr'
    rw [e1]
    rcases h.2.2.2.2.1 p' j r hr' with ⟨q, q1, _⟩ | h9
    · exact absurd q1 List.not_mem_nil
    rw [e1] at h9
    by_cases h2 : p' = p ∧ j = k
    · obtain ⟨e1, e2⟩ := h2
      subst e1 e2
      rw [zw_eq]
      exact hr r hr'
    · have e : (zw_I H p k x).2.1 p' j = H.2.1 p' j := zp_u_ne h2
      rw [e]
      exact h9
  · have e : (zw_I H p k x).2.1 p' i = H.2.1 p' i := zp_u_ne (fun h9 => by
      have hp : zB_sh[p']? = some (.inr (t, n)) := hp
      obtain ⟨ci, h5⟩ := zR_o_t ho
      rw [h9.1, h5] at hp
      cases hp)
    rw [e]
    exact h.2.2.2.2.2.1 p' t n i r hp hi hr'
theorem zB_Tl {H : zp_H} (h : zk_Bs zB0 zg (fun _ => True) H) {p k : Nat} {u : Int64} : zk_Bs zB0 zg (fun _ => True) (zw_J H p k u) := by
  refine ⟨h.1, h.2.1, fun q hq => absurd hq List.not_mem_nil, fun q hq => absurd hq List.not_mem_nil, fun p' j r hr' => Or.inr ?_, h.2.2.2.2.2.1, fun c hc => absurd hc List.not_mem_nil, trivial⟩
  have e1 : ∀ G : zp_H, zk_fv zg G p' j = (G.2.1 p' j).toInt := by
    intro G
    unfold zk_fv
    rw [if_neg]
    rintro ⟨rfl, rfl⟩
    cases hr'
  rcases h.2.2.2.2.1 p' j r hr' with ⟨q, q1, _⟩ | h9
  · exact absurd q1 List.not_mem_nil
  rw [e1] at h9
  rw [e1]
  exact h9
theorem zn_nc2_0 {L : Nat} {σ : Nat → Int32} {d : Nat} {H : zp_H} {xc : Int32} (hB : zk_Bs zB zg zJc H) (hc : 0 ≤ xc.toInt ∧ xc.toInt ≤ 63) : ∃ X, zp_Call L σ (d + 1) 30 [.inr (.inr (some 3)), .inl xc, .inl (Int32.ofInt 0)] H X ∧ (fun X : zp_X => ∃ v : Int32, X = (.inl (some (.inl v)), H) ∧ (v.toInt = -1 ∨ (0 ≤ v.toInt ∧ v.toInt ≤ 63))) X := by
  have W := zB_Wd (zB_dn hB)
  have r0 := zB_fr1 (zB_dn hB) (p := 2) (k := 0) (r := (2, 8)) rfl
  have r0 : 2 ≤ (H.2.1 2 0).toInt ∧ (H.2.1 2 0).toInt ≤ 8 := r0
  have hj := hB.2.2.2.2.2.2.2.1.1 0 xc (by decide) hc.1 hc.2
  refine zw_met zm_30_t rfl rfl ?_
  refine zw_ld (n := 1) (k := 2) (f := zp_isI) (pc' := 1) rfl rfl rfl rfl rfl ?_
  refine zw_blt1 (g := 24) (pc' := 4) rfl rfl rfl (rfl : _ = (0 : Int)) (fun h9 => absurd h9 (by decide)) (fun hb => ?_)
  refine zw_ld (n := 1) (k := 2) (f := zp_isI) (pc' := 5) rfl rfl rfl rfl rfl ?_
  refine zw_s (pc' := 6) rfl rfl ?_
  refine zw_bge2 (g := 24) (pc' := 9) rfl rfl rfl (rfl : _ = (0 : Int)) (rfl : _ = (4 : Int)) (fun h9 => absurd h9 (by decide)) (fun hb => ?_)
  refine zw_ld (n := 1) (k := 0) (f := zp_isR) (pc' := 10) rfl rfl rfl rfl rfl ?_
  refine zw_gR (q := 2) (pc' := 13) W rfl rfl rfl rfl (W.2 2 4 _ rfl) rfl ?_
  refine zw_ld (n := 1) (k := 2) (f := zp_isI) (pc' := 14) rfl rfl rfl rfl rfl ?_
  refine zw_la (q := 3) (pc' := 15) W rfl rfl (⟨by decide, by decide⟩) rfl ?_
  refine zw_ld (n := 1) (k := 1) (f := zp_isI) (pc' := 16) rfl rfl rfl rfl rfl ?_
  refine zw_lushr (pc' := 17) rfl rfl ?_
  refine zw_s (pc' := 18) rfl rfl ?_
  refine zw_land (pc' := 19) rfl rfl ?_
  refine zw_s (pc' := 20) rfl rfl ?_
  refine zw_s (pc' := 21) rfl rfl ?_
  refine zw_bne1 (g := 26) (pc' := 24) rfl rfl rfl rfl (fun hb => ?_) (fun hb => ?_)
  · have hj := hj hb
    have hj : 0 ≤ xc.toInt - (H.2.1 2 0).toInt ∧ xc.toInt - (H.2.1 2 0).toInt ≤ 63 := hj
    refine zw_ld (n := 1) (k := 2) (f := zp_isI) (pc' := 27) rfl rfl rfl rfl rfl ?_
    refine zw_s (pc' := 52) rfl rfl ?_
    refine zw_ld (n := 1) (k := 1) (f := zp_isI) (pc' := 53) rfl rfl rfl rfl rfl ?_
    refine zw_ld (n := 1) (k := 0) (f := zp_isR) (pc' := 54) rfl rfl rfl rfl rfl ?_
    refine zw_gI (q := 2) (pc' := 57) W rfl rfl rfl rfl rfl rfl ?_
    refine zw_isub (pc' := 58) rfl rfl ?_
    have e : (xc - H.2.1 2 0).toInt = xc.toInt - (H.2.1 2 0).toInt := zq_sub (by omega) (by omega)
    refine zw_ri rfl rfl ?_
    exact ⟨_, rfl, Or.inr (by rw [e]; exact hj)⟩
  · refine zw_s (pc' := 25) rfl rfl ?_
    refine zw_ri rfl rfl ?_
    exact ⟨_, rfl, Or.inl rfl⟩

theorem zn_nc2_1 {L : Nat} {σ : Nat → Int32} {d : Nat} {H : zp_H} {xc : Int32} (hB : zk_Bs zB zg zJc H) (hc : 0 ≤ xc.toInt ∧ xc.toInt ≤ 63) : ∃ X, zp_Call L σ (d + 1) 30 [.inr (.inr (some 3)), .inl xc, .inl (Int32.ofInt 1)] H X ∧ (fun X : zp_X => ∃ v : Int32, X = (.inl (some (.inl v)), H) ∧ (v.toInt = -1 ∨ (0 ≤ v.toInt ∧ v.toInt ≤ 63))) X := by
  have W := zB_Wd (zB_dn hB)
  have r0 := zB_fr1 (zB_dn hB) (p := 2) (k := 0) (r := (2, 8)) rfl
  have r0 : 2 ≤ (H.2.1 2 0).toInt ∧ (H.2.1 2 0).toInt ≤ 8 := r0
  have hj := hB.2.2.2.2.2.2.2.1.1 1 xc (by decide) hc.1 hc.2
  refine zw_met zm_30_t rfl rfl ?_
  refine zw_ld (n := 1) (k := 2) (f := zp_isI) (pc' := 1) rfl rfl rfl rfl rfl ?_
  refine zw_blt1 (g := 24) (pc' := 4) rfl rfl rfl (rfl : _ = (1 : Int)) (fun h9 => absurd h9 (by decide)) (fun hb => ?_)
  refine zw_ld (n := 1) (k := 2) (f := zp_isI) (pc' := 5) rfl rfl rfl rfl rfl ?_
  refine zw_s (pc' := 6) rfl rfl ?_
  refine zw_bge2 (g := 24) (pc' := 9) rfl rfl rfl (rfl : _ = (1 : Int)) (rfl : _ = (4 : Int)) (fun h9 => absurd h9 (by decide)) (fun hb => ?_)
  refine zw_ld (n := 1) (k := 0) (f := zp_isR) (pc' := 10) rfl rfl rfl rfl rfl ?_
  refine zw_gR (q := 2) (pc' := 13) W rfl rfl rfl rfl (W.2 2 4 _ rfl) rfl ?_
  refine zw_ld (n := 1) (k := 2) (f := zp_isI) (pc' := 14) rfl rfl rfl rfl rfl ?_
  refine zw_la (q := 3) (pc' := 15) W rfl rfl (⟨by decide, by decide⟩) rfl ?_
  refine zw_ld (n := 1) (k := 1) (f := zp_isI) (pc' := 16) rfl rfl rfl rfl rfl ?_
  refine zw_lushr (pc' := 17) rfl rfl ?_
  refine zw_s (pc' := 18) rfl rfl ?_
  refine zw_land (pc' := 19) rfl rfl ?_
  refine zw_s (pc' := 20) rfl rfl ?_
  refine zw_s (pc' := 21) rfl rfl ?_
  refine zw_bne1 (g := 26) (pc' := 24) rfl rfl rfl rfl (fun hb => ?_) (fun hb => ?_)
  · have hj := hj hb
    have hj : 0 ≤ xc.toInt + 1 ∧ xc.toInt + 1 ≤ 63 := hj
    refine zw_ld (n := 1) (k := 2) (f := zp_isI) (pc' := 27) rfl rfl rfl rfl rfl ?_
    refine zw_s (pc' := 59) rfl rfl ?_
    refine zw_ld (n := 1) (k := 1) (f := zp_isI) (pc' := 60) rfl rfl rfl rfl rfl ?_
    refine zw_s (pc' := 61) rfl rfl ?_
    refine zw_iadd (pc' := 62) rfl rfl ?_
    have e : (xc + Int32.ofInt 1).toInt = xc.toInt + 1 := zw_p1 (by omega)
    refine zw_ri rfl rfl ?_
    exact ⟨_, rfl, Or.inr (by rw [e]; exact hj)⟩
  · refine zw_s (pc' := 25) rfl rfl ?_
    refine zw_ri rfl rfl ?_
    exact ⟨_, rfl, Or.inl rfl⟩

theorem zn_nc2_2 {L : Nat} {σ : Nat → Int32} {d : Nat} {H : zp_H} {xc : Int32} (hB : zk_Bs zB zg zJc H) (hc : 0 ≤ xc.toInt ∧ xc.toInt ≤ 63) : ∃ X, zp_Call L σ (d + 1) 30 [.inr (.inr (some 3)), .inl xc, .inl (Int32.ofInt 2)] H X ∧ (fun X : zp_X => ∃ v : Int32, X = (.inl (some (.inl v)), H) ∧ (v.toInt = -1 ∨ (0 ≤ v.toInt ∧ v.toInt ≤ 63))) X := by
  have W := zB_Wd (zB_dn hB)
  have r0 := zB_fr1 (zB_dn hB) (p := 2) (k := 0) (r := (2, 8)) rfl
  have r0 : 2 ≤ (H.2.1 2 0).toInt ∧ (H.2.1 2 0).toInt ≤ 8 := r0
  have hj := hB.2.2.2.2.2.2.2.1.1 2 xc (by decide) hc.1 hc.2
  refine zw_met zm_30_t rfl rfl ?_
  refine zw_ld (n := 1) (k := 2) (f := zp_isI) (pc' := 1) rfl rfl rfl rfl rfl ?_
  refine zw_blt1 (g := 24) (pc' := 4) rfl rfl rfl (rfl : _ = (2 : Int)) (fun h9 => absurd h9 (by decide)) (fun hb => ?_)
  refine zw_ld (n := 1) (k := 2) (f := zp_isI) (pc' := 5) rfl rfl rfl rfl rfl ?_
  refine zw_s (pc' := 6) rfl rfl ?_
  refine zw_bge2 (g := 24) (pc' := 9) rfl rfl rfl (rfl : _ = (2 : Int)) (rfl : _ = (4 : Int)) (fun h9 => absurd h9 (by decide)) (fun hb => ?_)
  refine zw_ld (n := 1) (k := 0) (f := zp_isR) (pc' := 10) rfl rfl rfl rfl rfl ?_
  refine zw_gR (q := 2) (pc' := 13) W rfl rfl rfl rfl (W.2 2 4 _ rfl) rfl ?_
  refine zw_ld (n := 1) (k := 2) (f := zp_isI) (pc' := 14) rfl rfl rfl rfl rfl ?_
  refine zw_la (q := 3) (pc' := 15) W rfl rfl (⟨by decide, by decide⟩) rfl ?_
  refine zw_ld (n := 1) (k := 1) (f := zp_isI) (pc' := 16) rfl rfl rfl rfl rfl ?_
  refine zw_lushr (pc' := 17) rfl rfl ?_
  refine zw_s (pc' := 18) rfl rfl ?_
  refine zw_land (pc' := 19) rfl rfl ?_
  refine zw_s (pc' := 20) rfl rfl ?_
  refine zw_s (pc' := 21) rfl rfl ?_
  refine zw_bne1 (g := 26) (pc' := 24) rfl rfl rfl rfl (fun hb => ?_) (fun hb => ?_)
  · have hj := hj hb
    have hj : 0 ≤ xc.toInt + (H.2.1 2 0).toInt ∧ xc.toInt + (H.2.1 2 0).toInt ≤ 63 := hj
    refine zw_ld (n := 1) (k := 2) (f := zp_isI) (pc' := 27) rfl rfl rfl rfl rfl ?_
    refine zw_s (pc' := 63) rfl rfl ?_
    refine zw_ld (n := 1) (k := 1) (f := zp_isI) (pc' := 64) rfl rfl rfl rfl rfl ?_
    refine zw_ld (n := 1) (k := 0) (f := zp_isR) (pc' := 65) rfl rfl rfl rfl rfl ?_
    refine zw_gI (q := 2) (pc' := 68) W rfl rfl rfl rfl rfl rfl ?_
    refine zw_iadd (pc' := 69) rfl rfl ?_
    have e : (xc + H.2.1 2 0).toInt = xc.toInt + (H.2.1 2 0).toInt := zq_add (by omega) (by omega)
    refine zw_ri rfl rfl ?_
    exact ⟨_, rfl, Or.inr (by rw [e]; exact hj)⟩
  · refine zw_s (pc' := 25) rfl rfl ?_
    refine zw_ri rfl rfl ?_
    exact ⟨_, rfl, Or.inl rfl⟩

theorem zn_nc2_3 {L : Nat} {σ : Nat → Int32} {d : Nat} {H : zp_H} {xc : Int32} (hB : zk_Bs zB zg zJc H) (hc : 0 ≤ xc.toInt ∧ xc.toInt ≤ 63) : ∃ X, zp_Call L σ (d + 1) 30 [.inr (.inr (some 3)), .inl xc, .inl (Int32.ofInt 3)] H X ∧ (fun X : zp_X => ∃ v : Int32, X = (.inl (some (.inl v)), H) ∧ (v.toInt = -1 ∨ (0 ≤ v.toInt ∧ v.toInt ≤ 63))) X := by
  have W := zB_Wd (zB_dn hB)
  have r0 := zB_fr1 (zB_dn hB) (p := 2) (k := 0) (r := (2, 8)) rfl
  have r0 : 2 ≤ (H.2.1 2 0).toInt ∧ (H.2.1 2 0).toInt ≤ 8 := r0
  have hj := hB.2.2.2.2.2.2.2.1.1 3 xc (by decide) hc.1 hc.2
  refine zw_met zm_30_t rfl rfl ?_
  refine zw_ld (n := 1) (k := 2) (f := zp_isI) (pc' := 1) rfl rfl rfl rfl rfl ?_
  refine zw_blt1 (g := 24) (pc' := 4) rfl rfl rfl (rfl : _ = (3 : Int)) (fun h9 => absurd h9 (by decide)) (fun hb => ?_)
  refine zw_ld (n := 1) (k := 2) (f := zp_isI) (pc' := 5) rfl rfl rfl rfl rfl ?_
  refine zw_s (pc' := 6) rfl rfl ?_
  refine zw_bge2 (g := 24) (pc' := 9) rfl rfl rfl (rfl : _ = (3 : Int)) (rfl : _ = (4 : Int)) (fun h9 => absurd h9 (by decide)) (fun hb => ?_)
  refine zw_ld (n := 1) (k := 0) (f := zp_isR) (pc' := 10) rfl rfl rfl rfl rfl ?_
  refine zw_gR (q := 2) (pc' := 13) W rfl rfl rfl rfl (W.2 2 4 _ rfl) rfl ?_
  refine zw_ld (n := 1) (k := 2) (f := zp_isI) (pc' := 14) rfl rfl rfl rfl rfl ?_
  refine zw_la (q := 3) (pc' := 15) W rfl rfl (⟨by decide, by decide⟩) rfl ?_
  refine zw_ld (n := 1) (k := 1) (f := zp_isI) (pc' := 16) rfl rfl rfl rfl rfl ?_
  refine zw_lushr (pc' := 17) rfl rfl ?_
  refine zw_s (pc' := 18) rfl rfl ?_
  refine zw_land (pc' := 19) rfl rfl ?_
  refine zw_s (pc' := 20) rfl rfl ?_
  refine zw_s (pc' := 21) rfl rfl ?_
  refine zw_bne1 (g := 26) (pc' := 24) rfl rfl rfl rfl (fun hb => ?_) (fun hb => ?_)
  · have hj := hj hb
    have hj : 0 ≤ xc.toInt - 1 ∧ xc.toInt - 1 ≤ 63 := hj
    refine zw_ld (n := 1) (k := 2) (f := zp_isI) (pc' := 27) rfl rfl rfl rfl rfl ?_
    refine zw_s (pc' := 70) rfl rfl ?_
    refine zw_ld (n := 1) (k := 1) (f := zp_isI) (pc' := 71) rfl rfl rfl rfl rfl ?_
    refine zw_s (pc' := 72) rfl rfl ?_
    refine zw_isub (pc' := 73) rfl rfl ?_
    have e : (xc - Int32.ofInt 1).toInt = xc.toInt - 1 := zw_m1 (by omega)
    refine zw_ri rfl rfl ?_
    exact ⟨_, rfl, Or.inr (by rw [e]; exact hj)⟩
  · refine zw_s (pc' := 25) rfl rfl ?_
    refine zw_ri rfl rfl ?_
    exact ⟨_, rfl, Or.inl rfl⟩

theorem zn_nc2_x {L : Nat} {σ : Nat → Int32} {d : Nat} {H : zp_H} {xc xw : Int32} (hw : xw.toInt < 0 ∨ 4 ≤ xw.toInt) : ∃ X, zp_Call L σ (d + 1) 30 [.inr (.inr (some 3)), .inl xc, .inl xw] H X ∧ (fun X : zp_X => ∃ v : Int32, X = (.inl (some (.inl v)), H) ∧ (v.toInt = -1 ∨ (0 ≤ v.toInt ∧ v.toInt ≤ 63))) X := by
  refine zw_met zm_30_t rfl rfl ?_
  refine zw_ld (n := 1) (k := 2) (f := zp_isI) (pc' := 1) rfl rfl rfl rfl rfl ?_
  refine zw_blt1 (g := 24) (pc' := 4) rfl rfl rfl rfl (fun hb => ?_) (fun hb => ?_)
  · refine zw_s (pc' := 25) rfl rfl ?_
    refine zw_ri rfl rfl ?_
    exact ⟨_, rfl, Or.inl rfl⟩
  · refine zw_ld (n := 1) (k := 2) (f := zp_isI) (pc' := 5) rfl rfl rfl rfl rfl ?_
    refine zw_s (pc' := 6) rfl rfl ?_
    refine zw_bge2 (g := 24) (pc' := 9) rfl rfl rfl rfl (rfl : _ = (4 : Int)) (fun hb2 => ?_) (fun hb2 => ?_)
    · refine zw_s (pc' := 25) rfl rfl ?_
      refine zw_ri rfl rfl ?_
      exact ⟨_, rfl, Or.inl rfl⟩
    · omega

theorem zn_nc2 {L : Nat} {σ : Nat → Int32} {d : Nat} {H : zp_H} {xc xw : Int32} (hB : zk_Bs zB zg zJc H) (hc : 0 ≤ xc.toInt ∧ xc.toInt ≤ 63) : ∃ X, zp_Call L σ (d + 1) 30 [.inr (.inr (some 3)), .inl xc, .inl xw] H X ∧ (fun X : zp_X => ∃ v : Int32, X = (.inl (some (.inl v)), H) ∧ (v.toInt = -1 ∨ (0 ≤ v.toInt ∧ v.toInt ≤ 63))) X := by
  by_cases h0 : xw.toInt = 0
  · obtain rfl : xw = Int32.ofInt 0 := Int32.toInt_inj.mp h0
    exact zn_nc2_0 hB hc
  by_cases h1 : xw.toInt = 1
  · obtain rfl : xw = Int32.ofInt 1 := Int32.toInt_inj.mp h1
    exact zn_nc2_1 hB hc
  by_cases h2 : xw.toInt = 2
  · obtain rfl : xw = Int32.ofInt 2 := Int32.toInt_inj.mp h2
    exact zn_nc2_2 hB hc
  by_cases h3 : xw.toInt = 3
  · obtain rfl : xw = Int32.ofInt 3 := Int32.toInt_inj.mp h3
    exact zn_nc2_3 hB hc
  exact zn_nc2_x (by omega)

theorem zhc_0 {L : Nat} {σ : Nat → Int32} : zk_Ct L σ zB zg zJc ze_h0 := by
  intro d hd as H ha hB hp
  have hd : 1 ≤ d := hd
  obtain ⟨d0, rfl⟩ : ∃ d0, d = d0 + 1 := ⟨d - 1, by omega⟩
  match as, ha with
  | [.inr (.inr r), .inl x, .inl y], ha =>
    obtain ⟨h1, h2, h3, h4⟩ := ha
    have h1 : r = some 3 := h1
    subst h1
    obtain ⟨_, c1, v, rfl, c2⟩ := zn_nc2 (L := L) (σ := σ) (d := d0) (xw := y) hB h2
    rcases c2 with c2 | c2
    · exact ⟨_, c1, hB, zk_Fr_r H, _, List.mem_cons_self, ⟨by show (-1 : Int) ≤ _; omega, by show _ ≤ (-1 : Int); omega⟩, fun f hf => absurd hf List.not_mem_nil, fun f hf => absurd hf List.not_mem_nil⟩
    · exact ⟨_, c1, hB, zk_Fr_r H, _, List.mem_cons_of_mem _ List.mem_cons_self, ⟨c2.1, c2.2⟩, fun f hf => absurd hf List.not_mem_nil, fun f hf => absurd hf List.not_mem_nil⟩

theorem zn_nc22_0 {L : Nat} {σ : Nat → Int32} {d : Nat} {H : zp_H} {xc : Int32} (hB : zk_Bs zB zg zJc H) (hc : 0 ≤ xc.toInt ∧ xc.toInt ≤ 63) : ∃ X, zp_Call L σ (d + 1) 30 [.inr (.inr (some 23)), .inl xc, .inl (Int32.ofInt 0)] H X ∧ (fun X : zp_X => ∃ v : Int32, X = (.inl (some (.inl v)), H) ∧ (v.toInt = -1 ∨ (0 ≤ v.toInt ∧ v.toInt ≤ 63))) X := by
  have W := zB_Wd (zB_dn hB)
  have r0 := zB_fr1 (zB_dn hB) (p := 22) (k := 0) (r := (2, 8)) rfl
  have r0 : 2 ≤ (H.2.1 22 0).toInt ∧ (H.2.1 22 0).toInt ≤ 8 := r0
  have hj := hB.2.2.2.2.2.2.2.2.1 0 xc (by decide) hc.1 hc.2
  refine zw_met zm_30_t rfl rfl ?_
  refine zw_ld (n := 1) (k := 2) (f := zp_isI) (pc' := 1) rfl rfl rfl rfl rfl ?_
  refine zw_blt1 (g := 24) (pc' := 4) rfl rfl rfl (rfl : _ = (0 : Int)) (fun h9 => absurd h9 (by decide)) (fun hb => ?_)
  refine zw_ld (n := 1) (k := 2) (f := zp_isI) (pc' := 5) rfl rfl rfl rfl rfl ?_
  refine zw_s (pc' := 6) rfl rfl ?_
  refine zw_bge2 (g := 24) (pc' := 9) rfl rfl rfl (rfl : _ = (0 : Int)) (rfl : _ = (4 : Int)) (fun h9 => absurd h9 (by decide)) (fun hb => ?_)
  refine zw_ld (n := 1) (k := 0) (f := zp_isR) (pc' := 10) rfl rfl rfl rfl rfl ?_
  refine zw_gR (q := 22) (pc' := 13) W rfl rfl rfl rfl (W.2 22 4 _ rfl) rfl ?_
  refine zw_ld (n := 1) (k := 2) (f := zp_isI) (pc' := 14) rfl rfl rfl rfl rfl ?_
  refine zw_la (q := 23) (pc' := 15) W rfl rfl (⟨by decide, by decide⟩) rfl ?_
  refine zw_ld (n := 1) (k := 1) (f := zp_isI) (pc' := 16) rfl rfl rfl rfl rfl ?_
  refine zw_lushr (pc' := 17) rfl rfl ?_
  refine zw_s (pc' := 18) rfl rfl ?_
  refine zw_land (pc' := 19) rfl rfl ?_
  refine zw_s (pc' := 20) rfl rfl ?_
  refine zw_s (pc' := 21) rfl rfl ?_
  refine zw_bne1 (g := 26) (pc' := 24) rfl rfl rfl rfl (fun hb => ?_) (fun hb => ?_)
  · have hj := hj hb
    have hj : 0 ≤ xc.toInt - (H.2.1 22 0).toInt ∧ xc.toInt - (H.2.1 22 0).toInt ≤ 63 := hj
    refine zw_ld (n := 1) (k := 2) (f := zp_isI) (pc' := 27) rfl rfl rfl rfl rfl ?_
    refine zw_s (pc' := 52) rfl rfl ?_
    refine zw_ld (n := 1) (k := 1) (f := zp_isI) (pc' := 53) rfl rfl rfl rfl rfl ?_
    refine zw_ld (n := 1) (k := 0) (f := zp_isR) (pc' := 54) rfl rfl rfl rfl rfl ?_
    refine zw_gI (q := 22) (pc' := 57) W rfl rfl rfl rfl rfl rfl ?_
    refine zw_isub (pc' := 58) rfl rfl ?_
    have e : (xc - H.2.1 22 0).toInt = xc.toInt - (H.2.1 22 0).toInt := zq_sub (by omega) (by omega)
    refine zw_ri rfl rfl ?_
    exact ⟨_, rfl, Or.inr (by rw [e]; exact hj)⟩
  · refine zw_s (pc' := 25) rfl rfl ?_
    refine zw_ri rfl rfl ?_
    exact ⟨_, rfl, Or.inl rfl⟩

theorem zn_nc22_1 {L : Nat} {σ : Nat → Int32} {d : Nat} {H : zp_H} {xc : Int32} (hB : zk_Bs zB zg zJc H) (hc : 0 ≤ xc.toInt ∧ xc.toInt ≤ 63) : ∃ X, zp_Call L σ (d + 1) 30 [.inr (.inr (some 23)), .inl xc, .inl (Int32.ofInt 1)] H X ∧ (fun X : zp_X => ∃ v : Int32, X = (.inl (some (.inl v)), H) ∧ (v.toInt = -1 ∨ (0 ≤ v.toInt ∧ v.toInt ≤ 63))) X := by
  have W := zB_Wd (zB_dn hB)
  have r0 := zB_fr1 (zB_dn hB) (p := 22) (k := 0) (r := (2, 8)) rfl
  have r0 : 2 ≤ (H.2.1 22 0).toInt ∧ (H.2.1 22 0).toInt ≤ 8 := r0
  have hj := hB.2.2.2.2.2.2.2.2.1 1 xc (by decide) hc.1 hc.2
  refine zw_met zm_30_t rfl rfl ?_
  refine zw_ld (n := 1) (k := 2) (f := zp_isI) (pc' := 1) rfl rfl rfl rfl rfl ?_
  refine zw_blt1 (g := 24) (pc' := 4) rfl rfl rfl (rfl : _ = (1 : Int)) (fun h9 => absurd h9 (by decide)) (fun hb => ?_)
  refine zw_ld (n := 1) (k := 2) (f := zp_isI) (pc' := 5) rfl rfl rfl rfl rfl ?_
  refine zw_s (pc' := 6) rfl rfl ?_
  refine zw_bge2 (g := 24) (pc' := 9) rfl rfl rfl (rfl : _ = (1 : Int)) (rfl : _ = (4 : Int)) (fun h9 => absurd h9 (by decide)) (fun hb => ?_)
  refine zw_ld (n := 1) (k := 0) (f := zp_isR) (pc' := 10) rfl rfl rfl rfl rfl ?_
  refine zw_gR (q := 22) (pc' := 13) W rfl rfl rfl rfl (W.2 22 4 _ rfl) rfl ?_
  refine zw_ld (n := 1) (k := 2) (f := zp_isI) (pc' := 14) rfl rfl rfl rfl rfl ?_
  refine zw_la (q := 23) (pc' := 15) W rfl rfl (⟨by decide, by decide⟩) rfl ?_
  refine zw_ld (n := 1) (k := 1) (f := zp_isI) (pc' := 16) rfl rfl rfl rfl rfl ?_
  refine zw_lushr (pc' := 17) rfl rfl ?_
  refine zw_s (pc' := 18) rfl rfl ?_
  refine zw_land (pc' := 19) rfl rfl ?_
  refine zw_s (pc' := 20) rfl rfl ?_
  refine zw_s (pc' := 21) rfl rfl ?_
  refine zw_bne1 (g := 26) (pc' := 24) rfl rfl rfl rfl (fun hb => ?_) (fun hb => ?_)
  · have hj := hj hb
    have hj : 0 ≤ xc.toInt + 1 ∧ xc.toInt + 1 ≤ 63 := hj
    refine zw_ld (n := 1) (k := 2) (f := zp_isI) (pc' := 27) rfl rfl rfl rfl rfl ?_
    refine zw_s (pc' := 59) rfl rfl ?_
    refine zw_ld (n := 1) (k := 1) (f := zp_isI) (pc' := 60) rfl rfl rfl rfl rfl ?_
    refine zw_s (pc' := 61) rfl rfl ?_
    refine zw_iadd (pc' := 62) rfl rfl ?_
    have e : (xc + Int32.ofInt 1).toInt = xc.toInt + 1 := zw_p1 (by omega)
    refine zw_ri rfl rfl ?_
    exact ⟨_, rfl, Or.inr (by rw [e]; exact hj)⟩
  · refine zw_s (pc' := 25) rfl rfl ?_
    refine zw_ri rfl rfl ?_
    exact ⟨_, rfl, Or.inl rfl⟩

theorem zn_nc22_2 {L : Nat} {σ : Nat → Int32} {d : Nat} {H : zp_H} {xc : Int32} (hB : zk_Bs zB zg zJc H) (hc : 0 ≤ xc.toInt ∧ xc.toInt ≤ 63) : ∃ X, zp_Call L σ (d + 1) 30 [.inr (.inr (some 23)), .inl xc, .inl (Int32.ofInt 2)] H X ∧ (fun X : zp_X => ∃ v : Int32, X = (.inl (some (.inl v)), H) ∧ (v.toInt = -1 ∨ (0 ≤ v.toInt ∧ v.toInt ≤ 63))) X := by
  have W := zB_Wd (zB_dn hB)
  have r0 := zB_fr1 (zB_dn hB) (p := 22) (k := 0) (r := (2, 8)) rfl
  have r0 : 2 ≤ (H.2.1 22 0).toInt ∧ (H.2.1 22 0).toInt ≤ 8 := r0
  have hj := hB.2.2.2.2.2.2.2.2.1 2 xc (by decide) hc.1 hc.2
  refine zw_met zm_30_t rfl rfl ?_
  refine zw_ld (n := 1) (k := 2) (f := zp_isI) (pc' := 1) rfl rfl rfl rfl rfl ?_
  refine zw_blt1 (g := 24) (pc' := 4) rfl rfl rfl (rfl : _ = (2 : Int)) (fun h9 => absurd h9 (by decide)) (fun hb => ?_)
  refine zw_ld (n := 1) (k := 2) (f := zp_isI) (pc' := 5) rfl rfl rfl rfl rfl ?_
  refine zw_s (pc' := 6) rfl rfl ?_
  refine zw_bge2 (g := 24) (pc' := 9) rfl rfl rfl (rfl : _ = (2 : Int)) (rfl : _ = (4 : Int)) (fun h9 => absurd h9 (by decide)) (fun hb => ?_)
  refine zw_ld (n := 1) (k := 0) (f := zp_isR) (pc' := 10) rfl rfl rfl rfl rfl ?_
  refine zw_gR (q := 22) (pc' := 13) W rfl rfl rfl rfl (W.2 22 4 _ rfl) rfl ?_
  refine zw_ld (n := 1) (k := 2) (f := zp_isI) (pc' := 14) rfl rfl rfl rfl rfl ?_
  refine zw_la (q := 23) (pc' := 15) W rfl rfl (⟨by decide, by decide⟩) rfl ?_
  refine zw_ld (n := 1) (k := 1) (f := zp_isI) (pc' := 16) rfl rfl rfl rfl rfl ?_
  refine zw_lushr (pc' := 17) rfl rfl ?_
  refine zw_s (pc' := 18) rfl rfl ?_
  refine zw_land (pc' := 19) rfl rfl ?_
  refine zw_s (pc' := 20) rfl rfl ?_
  refine zw_s (pc' := 21) rfl rfl ?_
  refine zw_bne1 (g := 26) (pc' := 24) rfl rfl rfl rfl (fun hb => ?_) (fun hb => ?_)
  · have hj := hj hb
    have hj : 0 ≤ xc.toInt + (H.2.1 22 0).toInt ∧ xc.toInt + (H.2.1 22 0).toInt ≤ 63 := hj
    refine zw_ld (n := 1) (k := 2) (f := zp_isI) (pc' := 27) rfl rfl rfl rfl rfl ?_
    refine zw_s (pc' := 63) rfl rfl ?_
    refine zw_ld (n := 1) (k := 1) (f := zp_isI) (pc' := 64) rfl rfl rfl rfl rfl ?_
    refine zw_ld (n := 1) (k := 0) (f := zp_isR) (pc' := 65) rfl rfl rfl rfl rfl ?_
    refine zw_gI (q := 22) (pc' := 68) W rfl rfl rfl rfl rfl rfl ?_
    refine zw_iadd (pc' := 69) rfl rfl ?_
    have e : (xc + H.2.1 22 0).toInt = xc.toInt + (H.2.1 22 0).toInt := zq_add (by omega) (by omega)
    refine zw_ri rfl rfl ?_
    exact ⟨_, rfl, Or.inr (by rw [e]; exact hj)⟩
  · refine zw_s (pc' := 25) rfl rfl ?_
    refine zw_ri rfl rfl ?_
    exact ⟨_, rfl, Or.inl rfl⟩

theorem zn_nc22_3 {L : Nat} {σ : Nat → Int32} {d : Nat} {H : zp_H} {xc : Int32} (hB : zk_Bs zB zg zJc H) (hc : 0 ≤ xc.toInt ∧ xc.toInt ≤ 63) : ∃ X, zp_Call L σ (d + 1) 30 [.inr (.inr (some 23)), .inl xc, .inl (Int32.ofInt 3)] H X ∧ (fun X : zp_X => ∃ v : Int32, X = (.inl (some (.inl v)), H) ∧ (v.toInt = -1 ∨ (0 ≤ v.toInt ∧ v.toInt ≤ 63))) X := by
  have W := zB_Wd (zB_dn hB)
  have r0 := zB_fr1 (zB_dn hB) (p := 22) (k := 0) (r := (2, 8)) rfl
  have r0 : 2 ≤ (H.2.1 22 0).toInt ∧ (H.2.1 22 0).toInt ≤ 8 := r0
  have hj := hB.2.2.2.2.2.2.2.2.1 3 xc (by decide) hc.1 hc.2
  refine zw_met zm_30_t rfl rfl ?_
  refine zw_ld (n := 1) (k := 2) (f := zp_isI) (pc' := 1) rfl rfl rfl rfl rfl ?_
  refine zw_blt1 (g := 24) (pc' := 4) rfl rfl rfl (rfl : _ = (3 : Int)) (fun h9 => absurd h9 (by decide)) (fun hb => ?_)
  refine zw_ld (n := 1) (k := 2) (f := zp_isI) (pc' := 5) rfl rfl rfl rfl rfl ?_
  refine zw_s (pc' := 6) rfl rfl ?_
  refine zw_bge2 (g := 24) (pc' := 9) rfl rfl rfl (rfl : _ = (3 : Int)) (rfl : _ = (4 : Int)) (fun h9 => absurd h9 (by decide)) (fun hb => ?_)
  refine zw_ld (n := 1) (k := 0) (f := zp_isR) (pc' := 10) rfl rfl rfl rfl rfl ?_
  refine zw_gR (q := 22) (pc' := 13) W rfl rfl rfl rfl (W.2 22 4 _ rfl) rfl ?_
  refine zw_ld (n := 1) (k := 2) (f := zp_isI) (pc' := 14) rfl rfl rfl rfl rfl ?_
  refine zw_la (q := 23) (pc' := 15) W rfl rfl (⟨by decide, by decide⟩) rfl ?_
  refine zw_ld (n := 1) (k := 1) (f := zp_isI) (pc' := 16) rfl rfl rfl rfl rfl ?_
  refine zw_lushr (pc' := 17) rfl rfl ?_
  refine zw_s (pc' := 18) rfl rfl ?_
  refine zw_land (pc' := 19) rfl rfl ?_
  refine zw_s (pc' := 20) rfl rfl ?_
  refine zw_s (pc' := 21) rfl rfl ?_
  refine zw_bne1 (g := 26) (pc' := 24) rfl rfl rfl rfl (fun hb => ?_) (fun hb => ?_)
  · have hj := hj hb
    have hj : 0 ≤ xc.toInt - 1 ∧ xc.toInt - 1 ≤ 63 := hj
    refine zw_ld (n := 1) (k := 2) (f := zp_isI) (pc' := 27) rfl rfl rfl rfl rfl ?_
    refine zw_s (pc' := 70) rfl rfl ?_
    refine zw_ld (n := 1) (k := 1) (f := zp_isI) (pc' := 71) rfl rfl rfl rfl rfl ?_
    refine zw_s (pc' := 72) rfl rfl ?_
    refine zw_isub (pc' := 73) rfl rfl ?_
    have e : (xc - Int32.ofInt 1).toInt = xc.toInt - 1 := zw_m1 (by omega)
    refine zw_ri rfl rfl ?_
    exact ⟨_, rfl, Or.inr (by rw [e]; exact hj)⟩
  · refine zw_s (pc' := 25) rfl rfl ?_
    refine zw_ri rfl rfl ?_
    exact ⟨_, rfl, Or.inl rfl⟩

theorem zn_nc22_x {L : Nat} {σ : Nat → Int32} {d : Nat} {H : zp_H} {xc xw : Int32} (hw : xw.toInt < 0 ∨ 4 ≤ xw.toInt) : ∃ X, zp_Call L σ (d + 1) 30 [.inr (.inr (some 23)), .inl xc, .inl xw] H X ∧ (fun X : zp_X => ∃ v : Int32, X = (.inl (some (.inl v)), H) ∧ (v.toInt = -1 ∨ (0 ≤ v.toInt ∧ v.toInt ≤ 63))) X := by
  refine zw_met zm_30_t rfl rfl ?_
  refine zw_ld (n := 1) (k := 2) (f := zp_isI) (pc' := 1) rfl rfl rfl rfl rfl ?_
  refine zw_blt1 (g := 24) (pc' := 4) rfl rfl rfl rfl (fun hb => ?_) (fun hb => ?_)
  · refine zw_s (pc' := 25) rfl rfl ?_
    refine zw_ri rfl rfl ?_
    exact ⟨_, rfl, Or.inl rfl⟩
  · refine zw_ld (n := 1) (k := 2) (f := zp_isI) (pc' := 5) rfl rfl rfl rfl rfl ?_
    refine zw_s (pc' := 6) rfl rfl ?_
    refine zw_bge2 (g := 24) (pc' := 9) rfl rfl rfl rfl (rfl : _ = (4 : Int)) (fun hb2 => ?_) (fun hb2 => ?_)
    · refine zw_s (pc' := 25) rfl rfl ?_
      refine zw_ri rfl rfl ?_
      exact ⟨_, rfl, Or.inl rfl⟩
    · omega

theorem zn_nc22 {L : Nat} {σ : Nat → Int32} {d : Nat} {H : zp_H} {xc xw : Int32} (hB : zk_Bs zB zg zJc H) (hc : 0 ≤ xc.toInt ∧ xc.toInt ≤ 63) : ∃ X, zp_Call L σ (d + 1) 30 [.inr (.inr (some 23)), .inl xc, .inl xw] H X ∧ (fun X : zp_X => ∃ v : Int32, X = (.inl (some (.inl v)), H) ∧ (v.toInt = -1 ∨ (0 ≤ v.toInt ∧ v.toInt ≤ 63))) X := by
  by_cases h0 : xw.toInt = 0
  · obtain rfl : xw = Int32.ofInt 0 := Int32.toInt_inj.mp h0
    exact zn_nc22_0 hB hc
  by_cases h1 : xw.toInt = 1
  · obtain rfl : xw = Int32.ofInt 1 := Int32.toInt_inj.mp h1
    exact zn_nc22_1 hB hc
  by_cases h2 : xw.toInt = 2
  · obtain rfl : xw = Int32.ofInt 2 := Int32.toInt_inj.mp h2
    exact zn_nc22_2 hB hc
  by_cases h3 : xw.toInt = 3
  · obtain rfl : xw = Int32.ofInt 3 := Int32.toInt_inj.mp h3
    exact zn_nc22_3 hB hc
  exact zn_nc22_x (by omega)

theorem zhc_2 {L : Nat} {σ : Nat → Int32} : zk_Ct L σ zB zg zJc ze_h2 := by
  intro d hd as H ha hB hp
  have hd : 1 ≤ d := hd
  obtain ⟨d0, rfl⟩ : ∃ d0, d = d0 + 1 := ⟨d - 1, by omega⟩
  match as, ha with
  | [.inr (.inr r), .inl x, .inl y], ha =>
    obtain ⟨h1, h2, h3, h4⟩ := ha
    have h1 : r = some 23 := h1
    subst h1
    obtain ⟨_, c1, v, rfl, c2⟩ := zn_nc22 (L := L) (σ := σ) (d := d0) (xw := y) hB h2
    rcases c2 with c2 | c2
    · exact ⟨_, c1, hB, zk_Fr_r H, _, List.mem_cons_self, ⟨by show (-1 : Int) ≤ _; omega, by show _ ≤ (-1 : Int); omega⟩, fun f hf => absurd hf List.not_mem_nil, fun f hf => absurd hf List.not_mem_nil⟩
    · exact ⟨_, c1, hB, zk_Fr_r H, _, List.mem_cons_of_mem _ List.mem_cons_self, ⟨c2.1, c2.2⟩, fun f hf => absurd hf List.not_mem_nil, fun f hf => absurd hf List.not_mem_nil⟩

theorem zn_bit {L : Nat} {σ : Nat → Int32} {d : Nat} {H : zp_H} {x : Int32} : zp_Call L σ (d + 1) 4 [.inl x] H (.inl (some (.inr (.inl (za_shl0 (Int64.ofNat 1) x)))), H) := by
  refine zw_ex (zw_met zm_4_t rfl rfl ?_)
  refine zw_s (pc' := 1) rfl rfl ?_
  refine zw_ld (n := 1) (k := 0) (f := zp_isI) (pc' := 2) rfl rfl rfl rfl rfl ?_
  refine zw_lshl (pc' := 3) rfl rfl ?_
  refine zw_rl rfl rfl ?_
  rfl

def zq_ck (w h k c : Nat) : Bool := (decide (zq_b (zq_o (Int32.ofNat (w + 2)) (Int32.ofNat (h + 2)) (zq_col (Int32.ofNat (w + 2)) (Int32.ofNat (h + 2))) k) (Int32.ofNat c) = 0)).or ((za_ile 0 (zq_n k c (w + 2 : Nat))).and (za_ile (zq_n k c (w + 2 : Nat)) 63))
theorem zq_tab : (List.range 7).all (fun w => (List.range 7).all (fun h => (List.range 4).all (fun k => (List.range 64).all (fun c => zq_ck w h k c)))) = true := by decide +kernel
theorem zq_i {x : Int32} {n m : Nat} (h1 : (n : Int) ≤ x.toInt) (h2 : x.toInt < (n + m : Nat)) (hm : n + m < 1000) : ∃ j, j < m ∧ x = Int32.ofNat (j + n) := by
  refine ⟨x.toInt.toNat - n, by omega, Int32.toInt_inj.mp ?_⟩
  have e : x.toInt.toNat - n + n = x.toInt.toNat := by omega
  rw [e, Int32.toInt_ofNat_of_lt (by show _ < 2147483648; omega)]
  omega
theorem zq_ok {w h c : Int32} {k : Nat} (hw : 2 ≤ w.toInt ∧ w.toInt ≤ 8) (hh : 2 ≤ h.toInt ∧ h.toInt ≤ 8) (hk : k < 4) (h0 : 0 ≤ c.toInt) (h1 : c.toInt ≤ 63) (hb : zq_b (zq_o w h (zq_col w h) k) c ≠ 0) : 0 ≤ zq_n k c.toInt w.toInt ∧ zq_n k c.toInt w.toInt ≤ 63 := by
  obtain ⟨a, a1, rfl⟩ := zq_i (n := 2) (m := 7) (x := w) (by omega) (by omega) (by decide)
  obtain ⟨b, b1, rfl⟩ := zq_i (n := 2) (m := 7) (x := h) (by omega) (by omega) (by decide)
  obtain ⟨e, e1, he⟩ := zq_i (n := 0) (m := 64) (x := c) (by omega) (by omega) (by decide)
  have he : c = Int32.ofNat e := he
  subst he
  have t := List.all_eq_true.mp (List.all_eq_true.mp (List.all_eq_true.mp (List.all_eq_true.mp zq_tab a (List.mem_range.mpr a1)) b (List.mem_range.mpr b1)) k (List.mem_range.mpr hk)) e (List.mem_range.mpr e1)
  unfold zq_ck at t
  rw [decide_eq_false hb] at t
  obtain ⟨t1, t2⟩ := Bool.and_eq_true_iff.mp t
  have t1 := za_ile_t t1
  have t2 := za_ile_t t2
  rw [Int32.toInt_ofNat_of_lt (by show _ < 2147483648; omega), Int32.toInt_ofNat_of_lt (by show _ < 2147483648; omega)]
  exact ⟨t1, t2⟩

theorem zn_ssL2 {L : Nat} {σ : Nat → Int32} {d : Nat} {P : zp_X → Prop} {w h : Int32} {H : zp_H} {u0 : Int64} (hh : h.toInt ≤ 8) (k : ∀ lv, zp_get lv 0 = some (.inr (.inr (some 3))) → zp_get lv 1 = some (.inl w) → zp_get lv 2 = some (.inl h) → zp_get lv 3 = some (.inr (.inl u0)) → zs_Safe L σ P zm_3 [] (d + 1) (51, lv, [], H, (0, 0))) : ∀ (n : Nat) (lv : zp_LV) (y : Int32) (u : Int64), zp_get lv 0 = some (.inr (.inr (some 3))) → zp_get lv 1 = some (.inl w) → zp_get lv 2 = some (.inl h) → zp_get lv 3 = some (.inr (.inl u)) → zp_get lv 5 = some (.inl y) → 0 ≤ y.toInt → (h.toInt - y.toInt).toNat = n → zq_lp w n y u = u0 → zs_Safe L σ P zm_3 [] (d + 1) (29, lv, [], H, (0, 0)) := by
  intro n
  induction n with
  | zero =>
    intro lv y u l0 l1 l2 l3 l5 hy hn hu
    refine zw_ld (n := 2) (k := 5) (f := zp_isI) (pc' := 31) rfl rfl l5 rfl rfl ?_
    refine zw_ld (n := 1) (k := 2) (f := zp_isI) (pc' := 32) rfl rfl l2 rfl rfl ?_
    refine zw_bge2 (g := 51) (pc' := 35) rfl rfl rfl rfl rfl (fun hb => ?_) (fun hb => ?_)
    · exact k lv l0 l1 l2 (by rw [l3]; exact congrArg (fun z => some (Sum.inr (Sum.inl z))) hu)
    · omega
  | succ n ih =>
    intro lv y u l0 l1 l2 l3 l5 hy hn hu
    refine zw_ld (n := 2) (k := 5) (f := zp_isI) (pc' := 31) rfl rfl l5 rfl rfl ?_
    refine zw_ld (n := 1) (k := 2) (f := zp_isI) (pc' := 32) rfl rfl l2 rfl rfl ?_
    refine zw_bge2 (g := 51) (pc' := 35) rfl rfl rfl rfl rfl (fun hb => ?_) (fun hb => ?_)
    · omega
    · have e1 : (y + Int32.ofInt 1).toInt = y.toInt + 1 := zw_p1 (by omega)
      refine zw_ld (n := 1) (k := 3) (f := zp_isL) (pc' := 36) rfl rfl l3 rfl rfl ?_
      refine zw_ld (n := 1) (k := 1) (f := zp_isI) (pc' := 37) rfl rfl l1 rfl rfl ?_
      refine zw_ld (n := 2) (k := 5) (f := zp_isI) (pc' := 39) rfl rfl l5 rfl rfl ?_
      refine zw_imul (pc' := 40) rfl rfl ?_
      refine zw_cx (pc' := 43) (zw_csx (Y := zm_4) rfl rfl zm_4_t) rfl rfl rfl rfl rfl (zn_bit) ?_
      refine zw_lor (pc' := 44) rfl rfl ?_
      refine zw_sl (n := 1) (k := 3) (pc' := 45) rfl rfl rfl rfl ?_
      refine zw_ii (pc' := 48) rfl (zw_gt2 l5 rfl rfl) rfl rfl ?_
      refine zw_s (pc' := 29) rfl rfl ?_
      exact ih _ _ _ (zw_gt (zw_gt2 l0 rfl rfl) rfl rfl) (zw_gt (zw_gt2 l1 rfl rfl) rfl rfl) (zw_gt (zw_gt2 l2 rfl rfl) rfl rfl) (zw_gt zw_g2 rfl rfl) zw_g1 (by omega) (by omega) hu

def zn_ssH2 (H : zp_H) (w h : Int32) (u : Int64) : zp_H := zw_J (zw_J (zw_J (zw_J (zw_J (zw_I (zw_I H 2 0 w) 2 1 h) 2 2 (zq_all w h)) 3 0 (zq_o w h u 0)) 3 1 (zq_o w h u 1)) 3 2 (zq_o w h u 2)) 3 3 (zq_o w h u 3)

theorem zn_ssT2 {L : Nat} {σ : Nat → Int32} {d : Nat} {P : zp_X → Prop} {w h : Int32} {H : zp_H} {u : Int64} {lv : zp_LV} (W : zw_W H) (l0 : zp_get lv 0 = some (.inr (.inr (some 3)))) (l1 : zp_get lv 1 = some (.inl w)) (l2 : zp_get lv 2 = some (.inl h)) (l3 : zp_get lv 3 = some (.inr (.inl u))) (hP : P (.inl none, zn_ssH2 H w h u)) : zs_Safe L σ P zm_3 [] (d + 1) (51, lv, [], zw_J (zw_I (zw_I H 2 0 w) 2 1 h) 2 2 (zq_all w h), (0, 0)) := by
  refine zw_ld (n := 1) (k := 0) (f := zp_isR) (pc' := 52) rfl rfl l0 rfl rfl ?_
  refine zw_gR (q := 2) (pc' := 55) W rfl rfl rfl rfl (W.2 2 4 _ rfl) rfl ?_
  refine zw_s (pc' := 56) rfl rfl ?_
  refine zw_ld (n := 1) (k := 0) (f := zp_isR) (pc' := 57) rfl rfl l0 rfl rfl ?_
  refine zw_gL (q := 2) (pc' := 60) W rfl rfl rfl rfl rfl ?_
  refine zw_ld (n := 1) (k := 0) (f := zp_isR) (pc' := 61) rfl rfl l0 rfl rfl ?_
  refine zw_gL (q := 2) (pc' := 64) W rfl rfl rfl rfl rfl ?_
  refine zw_ld (n := 1) (k := 1) (f := zp_isI) (pc' := 65) rfl rfl l1 rfl rfl ?_
  refine zw_lshl (pc' := 66) rfl rfl ?_
  refine zw_land (pc' := 67) rfl rfl ?_
  refine zw_ls (q := 3) (pc' := 68) W rfl rfl (⟨by decide, by decide⟩) rfl ?_
  refine zw_ld (n := 1) (k := 0) (f := zp_isR) (pc' := 69) rfl rfl l0 rfl rfl ?_
  refine zw_gR (q := 2) (pc' := 72) W rfl rfl rfl rfl (W.2 2 4 _ rfl) rfl ?_
  refine zw_s (pc' := 73) rfl rfl ?_
  refine zw_ld (n := 1) (k := 0) (f := zp_isR) (pc' := 74) rfl rfl l0 rfl rfl ?_
  refine zw_gL (q := 2) (pc' := 77) W rfl rfl rfl rfl rfl ?_
  refine zw_ld (n := 1) (k := 3) (f := zp_isL) (pc' := 78) rfl rfl l3 rfl rfl ?_
  refine zw_ld (n := 1) (k := 1) (f := zp_isI) (pc' := 79) rfl rfl l1 rfl rfl ?_
  refine zw_s (pc' := 80) rfl rfl ?_
  refine zw_isub (pc' := 81) rfl rfl ?_
  refine zw_lshl (pc' := 82) rfl rfl ?_
  refine zw_s (pc' := 85) rfl rfl ?_
  refine zw_lxor (pc' := 86) rfl rfl ?_
  refine zw_land (pc' := 87) rfl rfl ?_
  refine zw_ls (q := 3) (pc' := 88) W rfl rfl (⟨by decide, by decide⟩) rfl ?_
  refine zw_ld (n := 1) (k := 0) (f := zp_isR) (pc' := 89) rfl rfl l0 rfl rfl ?_
  refine zw_gR (q := 2) (pc' := 92) W rfl rfl rfl rfl (W.2 2 4 _ rfl) rfl ?_
  refine zw_s (pc' := 93) rfl rfl ?_
  refine zw_ld (n := 1) (k := 0) (f := zp_isR) (pc' := 94) rfl rfl l0 rfl rfl ?_
  refine zw_gL (q := 2) (pc' := 97) W rfl rfl rfl rfl rfl ?_
  refine zw_ld (n := 1) (k := 1) (f := zp_isI) (pc' := 98) rfl rfl l1 rfl rfl ?_
  refine zw_lushr (pc' := 99) rfl rfl ?_
  refine zw_ls (q := 3) (pc' := 100) W rfl rfl (⟨by decide, by decide⟩) rfl ?_
  refine zw_ld (n := 1) (k := 0) (f := zp_isR) (pc' := 101) rfl rfl l0 rfl rfl ?_
  refine zw_gR (q := 2) (pc' := 104) W rfl rfl rfl rfl (W.2 2 4 _ rfl) rfl ?_
  refine zw_s (pc' := 105) rfl rfl ?_
  refine zw_ld (n := 1) (k := 0) (f := zp_isR) (pc' := 106) rfl rfl l0 rfl rfl ?_
  refine zw_gL (q := 2) (pc' := 109) W rfl rfl rfl rfl rfl ?_
  refine zw_ld (n := 1) (k := 3) (f := zp_isL) (pc' := 110) rfl rfl l3 rfl rfl ?_
  refine zw_s (pc' := 113) rfl rfl ?_
  refine zw_lxor (pc' := 114) rfl rfl ?_
  refine zw_land (pc' := 115) rfl rfl ?_
  refine zw_ls (q := 3) (pc' := 116) W rfl rfl (⟨by decide, by decide⟩) rfl ?_
  refine zw_rn rfl rfl ?_
  exact hP

theorem zn_ss2 {L : Nat} {σ : Nat → Int32} {d : Nat} {w h : Int32} {H : zp_H} (hB : zk_Bs zB zg zJc H) (hh : h.toInt ≤ 8) : zp_Call L σ (d + 2) 3 [.inr (.inr (some 3)), .inl w, .inl h] H (.inl none, zn_ssH2 H w h (zq_col w h)) := by
  have W := zB_Wd (zB_dn hB)
  refine zw_ex (zw_met zm_3_t rfl rfl ?_)
  refine zw_ld (n := 1) (k := 0) (f := zp_isR) (pc' := 1) rfl rfl rfl rfl rfl ?_
  refine zw_ld (n := 1) (k := 1) (f := zp_isI) (pc' := 2) rfl rfl rfl rfl rfl ?_
  refine zw_pI (q := 2) (pc' := 5) W rfl rfl rfl rfl rfl rfl ?_
  refine zw_ld (n := 1) (k := 0) (f := zp_isR) (pc' := 6) rfl rfl rfl rfl rfl ?_
  refine zw_ld (n := 1) (k := 2) (f := zp_isI) (pc' := 7) rfl rfl rfl rfl rfl ?_
  refine zw_pI (q := 2) (pc' := 10) W rfl rfl rfl rfl rfl rfl ?_
  refine zw_ld (n := 1) (k := 0) (f := zp_isR) (pc' := 11) rfl rfl rfl rfl rfl ?_
  refine zw_s (pc' := 14) rfl rfl ?_
  refine zw_s (pc' := 16) rfl rfl ?_
  refine zw_ld (n := 1) (k := 1) (f := zp_isI) (pc' := 17) rfl rfl rfl rfl rfl ?_
  refine zw_ld (n := 1) (k := 2) (f := zp_isI) (pc' := 18) rfl rfl rfl rfl rfl ?_
  refine zw_imul (pc' := 19) rfl rfl ?_
  refine zw_isub (pc' := 20) rfl rfl ?_
  refine zw_lushr (pc' := 21) rfl rfl ?_
  refine zw_pL (q := 2) (pc' := 24) W rfl rfl rfl rfl rfl rfl ?_
  refine zw_s (pc' := 25) rfl rfl ?_
  refine zw_sl (n := 1) (k := 3) (pc' := 26) rfl rfl rfl rfl ?_
  refine zw_s (pc' := 27) rfl rfl ?_
  refine zw_st (n := 2) (k := 5) (f := zp_isI) (pc' := 29) rfl rfl rfl rfl rfl ?_
  refine zn_ssL2 (L := L) (σ := σ) (d := d) (w := w) (u0 := zq_col w h) (by omega) (fun lv l0 l1 l2 l3 => zn_ssT2 (P := fun X : zp_X => X = (.inl none, zn_ssH2 H w h (zq_col w h))) W l0 l1 l2 l3 rfl) (h.toInt - (Int32.ofInt 0).toInt).toNat _ (Int32.ofInt 0) (Int64.ofNat 0) ?_ ?_ ?_ ?_ ?_ ?_ rfl ?_
  · exact (zw_gt (zw_gt2 rfl rfl rfl) rfl rfl)
  · exact (zw_gt (zw_gt2 rfl rfl rfl) rfl rfl)
  · exact (zw_gt (zw_gt2 rfl rfl rfl) rfl rfl)
  · exact (zw_gt zw_g2 rfl rfl)
  · exact zw_g1
  · decide
  show zq_lp w (h.toInt - 0).toNat _ _ = _
  rw [Int.sub_zero]
  rfl

theorem zhc_1 {L : Nat} {σ : Nat → Int32} : zk_Ct L σ zB zg zJc ze_h1 := by
  intro d hd as H ha hB hp
  have hd : 2 ≤ d := hd
  obtain ⟨d0, rfl⟩ : ∃ d0, d = d0 + 2 := ⟨d - 2, by omega⟩
  match as, ha with
  | [.inr (.inr r), .inl w, .inl h], ha =>
    obtain ⟨h1, h2, h3, h4⟩ := ha
    have h1 : r = some 3 := h1
    subst h1
    have h2 : 2 ≤ w.toInt ∧ w.toInt ≤ 8 := h2
    have h3 : 2 ≤ h.toInt ∧ h.toInt ≤ 8 := h3
    have hQ : zQ 2 3 (zn_ssH2 H w h (zq_col w h)) := by
      refine ⟨?_, fun k k1 => ?_⟩
      rotate_left
      · have e0 : (zn_ssH2 H w h (zq_col w h)).2.1 2 0 = w := show (zw_I (zw_I H 2 0 w) 2 1 h).2.1 2 0 = w from zw_ne zw_eq rfl
        have e1 : (zn_ssH2 H w h (zq_col w h)).2.1 2 1 = h := show (zw_I (zw_I H 2 0 w) 2 1 h).2.1 2 1 = h from zw_eq
        rw [e0, e1]
        match k, k1 with
        | 0, _ => rfl
        | 1, _ => rfl
        | 2, _ => rfl
        | 3, _ => rfl
      intro k c k1 k2 k3 k4
      have e0 : (zn_ssH2 H w h (zq_col w h)).2.1 2 0 = w := show (zw_I (zw_I H 2 0 w) 2 1 h).2.1 2 0 = w from zw_ne zw_eq rfl
      rw [e0]
      refine zq_ok h2 h3 k1 k2 k3 ?_
      have e : (zn_ssH2 H w h (zq_col w h)).2.2.1 3 k = zq_o w h (zq_col w h) k := by
        match k, k1 with
        | 0, _ => rfl
        | 1, _ => rfl
        | 2, _ => rfl
        | 3, _ => rfl
      rw [e] at k4
      exact k4
    have hQ' : zQ 22 23 (zn_ssH2 H w h (zq_col w h)) := zQ_c (H := H) (show (zw_I (zw_I H 2 0 w) 2 1 h).2.1 22 0 = H.2.1 22 0 from zw_ne (zw_ne rfl rfl) rfl) (show (zw_I (zw_I H 2 0 w) 2 1 h).2.1 22 1 = H.2.1 22 1 from zw_ne (zw_ne rfl rfl) rfl) (fun k => by
      have g : ∀ (G : zp_H) (q i : Nat) (u : Int64), Nat.beq 23 q = false → (zw_J G q i u).2.2.1 23 k = G.2.2.1 23 k := fun G q i u hq => zp_u_ne (fun h9 => by rw [← h9.1] at hq; cases hq)
      exact (g _ _ _ _ rfl).trans ((g _ _ _ _ rfl).trans ((g _ _ _ _ rfl).trans ((g _ _ _ _ rfl).trans (g _ _ _ _ rfl))))) hB.2.2.2.2.2.2.2.2
    have hJ : zJc (zn_ssH2 H w h (zq_col w h)) := ⟨hQ, hQ'⟩
    refine ⟨_, zn_ss2 (L := L) (σ := σ) (d := d0) hB h3.2, ?_, ?_, _, List.mem_cons_self, trivial, fun f hf => absurd hf List.not_mem_nil, fun f hf => absurd hf List.not_mem_nil⟩
    · have hT : zk_Bs zB0 zg (fun _ => True) H := ⟨hB.1, hB.2.1, hB.2.2.1, hB.2.2.2.1, hB.2.2.2.2.1, hB.2.2.2.2.2.1, fun c hc => absurd hc List.not_mem_nil, trivial⟩
      have b1 := zB_Tp (p := 2) (k := 0) (x := w) hT rfl (fun r hr => by cases hr; exact h2)
      have b2 := zB_Tp (p := 2) (k := 1) (x := h) b1 rfl (fun r hr => by cases hr; exact h3)
      have b3 := zB_Tl (p := 3) (k := 3) (u := zq_o w h (zq_col w h) 3) (zB_Tl (p := 3) (k := 2) (u := zq_o w h (zq_col w h) 2) (zB_Tl (p := 3) (k := 1) (u := zq_o w h (zq_col w h) 1) (zB_Tl (p := 3) (k := 0) (u := zq_o w h (zq_col w h) 0) (zB_Tl (p := 2) (k := 2) (u := zq_all w h) b2))))
      have b4 : zk_Bs zB0 zg zJc (zn_ssH2 H w h (zq_col w h)) := ⟨b3.1, b3.2.1, b3.2.2.1, b3.2.2.2.1, b3.2.2.2.2.1, b3.2.2.2.2.2.1, b3.2.2.2.2.2.2.1, hJ⟩
      refine zB_up b4 ?_
      have e4 : (zn_ssH2 H w h (zq_col w h)).2.1 52 4 = H.2.1 52 4 := show (zw_I (zw_I H 2 0 w) 2 1 h).2.1 52 4 = _ from zw_ne (zw_ne rfl rfl) rfl
      have e5 : (zn_ssH2 H w h (zq_col w h)).2.1 52 5 = H.2.1 52 5 := show (zw_I (zw_I H 2 0 w) 2 1 h).2.1 52 5 = _ from zw_ne (zw_ne rfl rfl) rfl
      rw [e4, e5]
      exact zB_cn hB
    · exact zk_Fr_J (zk_Fr_J (zk_Fr_J (zk_Fr_J (zk_Fr_J (zk_Fr_I (zk_Fr_I (zk_Fr_r H) rfl rfl) rfl rfl) rfl rfl) rfl rfl) rfl rfl) rfl rfl) rfl rfl

theorem zn_ssL22 {L : Nat} {σ : Nat → Int32} {d : Nat} {P : zp_X → Prop} {w h : Int32} {H : zp_H} {u0 : Int64} (hh : h.toInt ≤ 8) (k : ∀ lv, zp_get lv 0 = some (.inr (.inr (some 23))) → zp_get lv 1 = some (.inl w) → zp_get lv 2 = some (.inl h) → zp_get lv 3 = some (.inr (.inl u0)) → zs_Safe L σ P zm_3 [] (d + 1) (51, lv, [], H, (0, 0))) : ∀ (n : Nat) (lv : zp_LV) (y : Int32) (u : Int64), zp_get lv 0 = some (.inr (.inr (some 23))) → zp_get lv 1 = some (.inl w) → zp_get lv 2 = some (.inl h) → zp_get lv 3 = some (.inr (.inl u)) → zp_get lv 5 = some (.inl y) → 0 ≤ y.toInt → (h.toInt - y.toInt).toNat = n → zq_lp w n y u = u0 → zs_Safe L σ P zm_3 [] (d + 1) (29, lv, [], H, (0, 0)) := by
  intro n
  induction n with
  | zero =>
    intro lv y u l0 l1 l2 l3 l5 hy hn hu
    refine zw_ld (n := 2) (k := 5) (f := zp_isI) (pc' := 31) rfl rfl l5 rfl rfl ?_
    refine zw_ld (n := 1) (k := 2) (f := zp_isI) (pc' := 32) rfl rfl l2 rfl rfl ?_
    refine zw_bge2 (g := 51) (pc' := 35) rfl rfl rfl rfl rfl (fun hb => ?_) (fun hb => ?_)
    · exact k lv l0 l1 l2 (by rw [l3]; exact congrArg (fun z => some (Sum.inr (Sum.inl z))) hu)
    · omega
  | succ n ih =>
    intro lv y u l0 l1 l2 l3 l5 hy hn hu
    refine zw_ld (n := 2) (k := 5) (f := zp_isI) (pc' := 31) rfl rfl l5 rfl rfl ?_
    refine zw_ld (n := 1) (k := 2) (f := zp_isI) (pc' := 32) rfl rfl l2 rfl rfl ?_
    refine zw_bge2 (g := 51) (pc' := 35) rfl rfl rfl rfl rfl (fun hb => ?_) (fun hb => ?_)
    · omega
    · have e1 : (y + Int32.ofInt 1).toInt = y.toInt + 1 := zw_p1 (by omega)
      refine zw_ld (n := 1) (k := 3) (f := zp_isL) (pc' := 36) rfl rfl l3 rfl rfl ?_
      refine zw_ld (n := 1) (k := 1) (f := zp_isI) (pc' := 37) rfl rfl l1 rfl rfl ?_
      refine zw_ld (n := 2) (k := 5) (f := zp_isI) (pc' := 39) rfl rfl l5 rfl rfl ?_
      refine zw_imul (pc' := 40) rfl rfl ?_
      refine zw_cx (pc' := 43) (zw_csx (Y := zm_4) rfl rfl zm_4_t) rfl rfl rfl rfl rfl (zn_bit) ?_
      refine zw_lor (pc' := 44) rfl rfl ?_
      refine zw_sl (n := 1) (k := 3) (pc' := 45) rfl rfl rfl rfl ?_
      refine zw_ii (pc' := 48) rfl (zw_gt2 l5 rfl rfl) rfl rfl ?_
      refine zw_s (pc' := 29) rfl rfl ?_
      exact ih _ _ _ (zw_gt (zw_gt2 l0 rfl rfl) rfl rfl) (zw_gt (zw_gt2 l1 rfl rfl) rfl rfl) (zw_gt (zw_gt2 l2 rfl rfl) rfl rfl) (zw_gt zw_g2 rfl rfl) zw_g1 (by omega) (by omega) hu

def zn_ssH22 (H : zp_H) (w h : Int32) (u : Int64) : zp_H := zw_J (zw_J (zw_J (zw_J (zw_J (zw_I (zw_I H 22 0 w) 22 1 h) 22 2 (zq_all w h)) 23 0 (zq_o w h u 0)) 23 1 (zq_o w h u 1)) 23 2 (zq_o w h u 2)) 23 3 (zq_o w h u 3)

theorem zn_ssT22 {L : Nat} {σ : Nat → Int32} {d : Nat} {P : zp_X → Prop} {w h : Int32} {H : zp_H} {u : Int64} {lv : zp_LV} (W : zw_W H) (l0 : zp_get lv 0 = some (.inr (.inr (some 23)))) (l1 : zp_get lv 1 = some (.inl w)) (l2 : zp_get lv 2 = some (.inl h)) (l3 : zp_get lv 3 = some (.inr (.inl u))) (hP : P (.inl none, zn_ssH22 H w h u)) : zs_Safe L σ P zm_3 [] (d + 1) (51, lv, [], zw_J (zw_I (zw_I H 22 0 w) 22 1 h) 22 2 (zq_all w h), (0, 0)) := by
  refine zw_ld (n := 1) (k := 0) (f := zp_isR) (pc' := 52) rfl rfl l0 rfl rfl ?_
  refine zw_gR (q := 22) (pc' := 55) W rfl rfl rfl rfl (W.2 22 4 _ rfl) rfl ?_
  refine zw_s (pc' := 56) rfl rfl ?_
  refine zw_ld (n := 1) (k := 0) (f := zp_isR) (pc' := 57) rfl rfl l0 rfl rfl ?_
  refine zw_gL (q := 22) (pc' := 60) W rfl rfl rfl rfl rfl ?_
  refine zw_ld (n := 1) (k := 0) (f := zp_isR) (pc' := 61) rfl rfl l0 rfl rfl ?_
  refine zw_gL (q := 22) (pc' := 64) W rfl rfl rfl rfl rfl ?_
  refine zw_ld (n := 1) (k := 1) (f := zp_isI) (pc' := 65) rfl rfl l1 rfl rfl ?_
  refine zw_lshl (pc' := 66) rfl rfl ?_
  refine zw_land (pc' := 67) rfl rfl ?_
  refine zw_ls (q := 23) (pc' := 68) W rfl rfl (⟨by decide, by decide⟩) rfl ?_
  refine zw_ld (n := 1) (k := 0) (f := zp_isR) (pc' := 69) rfl rfl l0 rfl rfl ?_
  refine zw_gR (q := 22) (pc' := 72) W rfl rfl rfl rfl (W.2 22 4 _ rfl) rfl ?_
  refine zw_s (pc' := 73) rfl rfl ?_
  refine zw_ld (n := 1) (k := 0) (f := zp_isR) (pc' := 74) rfl rfl l0 rfl rfl ?_
  refine zw_gL (q := 22) (pc' := 77) W rfl rfl rfl rfl rfl ?_
  refine zw_ld (n := 1) (k := 3) (f := zp_isL) (pc' := 78) rfl rfl l3 rfl rfl ?_
  refine zw_ld (n := 1) (k := 1) (f := zp_isI) (pc' := 79) rfl rfl l1 rfl rfl ?_
  refine zw_s (pc' := 80) rfl rfl ?_
  refine zw_isub (pc' := 81) rfl rfl ?_
  refine zw_lshl (pc' := 82) rfl rfl ?_
  refine zw_s (pc' := 85) rfl rfl ?_
  refine zw_lxor (pc' := 86) rfl rfl ?_
  refine zw_land (pc' := 87) rfl rfl ?_
  refine zw_ls (q := 23) (pc' := 88) W rfl rfl (⟨by decide, by decide⟩) rfl ?_
  refine zw_ld (n := 1) (k := 0) (f := zp_isR) (pc' := 89) rfl rfl l0 rfl rfl ?_
  refine zw_gR (q := 22) (pc' := 92) W rfl rfl rfl rfl (W.2 22 4 _ rfl) rfl ?_
  refine zw_s (pc' := 93) rfl rfl ?_
  refine zw_ld (n := 1) (k := 0) (f := zp_isR) (pc' := 94) rfl rfl l0 rfl rfl ?_
  refine zw_gL (q := 22) (pc' := 97) W rfl rfl rfl rfl rfl ?_
  refine zw_ld (n := 1) (k := 1) (f := zp_isI) (pc' := 98) rfl rfl l1 rfl rfl ?_
  refine zw_lushr (pc' := 99) rfl rfl ?_
  refine zw_ls (q := 23) (pc' := 100) W rfl rfl (⟨by decide, by decide⟩) rfl ?_
  refine zw_ld (n := 1) (k := 0) (f := zp_isR) (pc' := 101) rfl rfl l0 rfl rfl ?_
  refine zw_gR (q := 22) (pc' := 104) W rfl rfl rfl rfl (W.2 22 4 _ rfl) rfl ?_
  refine zw_s (pc' := 105) rfl rfl ?_
  refine zw_ld (n := 1) (k := 0) (f := zp_isR) (pc' := 106) rfl rfl l0 rfl rfl ?_
  refine zw_gL (q := 22) (pc' := 109) W rfl rfl rfl rfl rfl ?_
  refine zw_ld (n := 1) (k := 3) (f := zp_isL) (pc' := 110) rfl rfl l3 rfl rfl ?_
  refine zw_s (pc' := 113) rfl rfl ?_
  refine zw_lxor (pc' := 114) rfl rfl ?_
  refine zw_land (pc' := 115) rfl rfl ?_
  refine zw_ls (q := 23) (pc' := 116) W rfl rfl (⟨by decide, by decide⟩) rfl ?_
  refine zw_rn rfl rfl ?_
  exact hP

theorem zn_ss22 {L : Nat} {σ : Nat → Int32} {d : Nat} {w h : Int32} {H : zp_H} (hB : zk_Bs zB zg zJc H) (hh : h.toInt ≤ 8) : zp_Call L σ (d + 2) 3 [.inr (.inr (some 23)), .inl w, .inl h] H (.inl none, zn_ssH22 H w h (zq_col w h)) := by
  have W := zB_Wd (zB_dn hB)
  refine zw_ex (zw_met zm_3_t rfl rfl ?_)
  refine zw_ld (n := 1) (k := 0) (f := zp_isR) (pc' := 1) rfl rfl rfl rfl rfl ?_
  refine zw_ld (n := 1) (k := 1) (f := zp_isI) (pc' := 2) rfl rfl rfl rfl rfl ?_
  refine zw_pI (q := 22) (pc' := 5) W rfl rfl rfl rfl rfl rfl ?_
  refine zw_ld (n := 1) (k := 0) (f := zp_isR) (pc' := 6) rfl rfl rfl rfl rfl ?_
  refine zw_ld (n := 1) (k := 2) (f := zp_isI) (pc' := 7) rfl rfl rfl rfl rfl ?_
  refine zw_pI (q := 22) (pc' := 10) W rfl rfl rfl rfl rfl rfl ?_
  refine zw_ld (n := 1) (k := 0) (f := zp_isR) (pc' := 11) rfl rfl rfl rfl rfl ?_
  refine zw_s (pc' := 14) rfl rfl ?_
  refine zw_s (pc' := 16) rfl rfl ?_
  refine zw_ld (n := 1) (k := 1) (f := zp_isI) (pc' := 17) rfl rfl rfl rfl rfl ?_
  refine zw_ld (n := 1) (k := 2) (f := zp_isI) (pc' := 18) rfl rfl rfl rfl rfl ?_
  refine zw_imul (pc' := 19) rfl rfl ?_
  refine zw_isub (pc' := 20) rfl rfl ?_
  refine zw_lushr (pc' := 21) rfl rfl ?_
  refine zw_pL (q := 22) (pc' := 24) W rfl rfl rfl rfl rfl rfl ?_
  refine zw_s (pc' := 25) rfl rfl ?_
  refine zw_sl (n := 1) (k := 3) (pc' := 26) rfl rfl rfl rfl ?_
  refine zw_s (pc' := 27) rfl rfl ?_
  refine zw_st (n := 2) (k := 5) (f := zp_isI) (pc' := 29) rfl rfl rfl rfl rfl ?_
  refine zn_ssL22 (L := L) (σ := σ) (d := d) (w := w) (u0 := zq_col w h) (by omega) (fun lv l0 l1 l2 l3 => zn_ssT22 (P := fun X : zp_X => X = (.inl none, zn_ssH22 H w h (zq_col w h))) W l0 l1 l2 l3 rfl) (h.toInt - (Int32.ofInt 0).toInt).toNat _ (Int32.ofInt 0) (Int64.ofNat 0) ?_ ?_ ?_ ?_ ?_ ?_ rfl ?_
  · exact (zw_gt (zw_gt2 rfl rfl rfl) rfl rfl)
  · exact (zw_gt (zw_gt2 rfl rfl rfl) rfl rfl)
  · exact (zw_gt (zw_gt2 rfl rfl rfl) rfl rfl)
  · exact (zw_gt zw_g2 rfl rfl)
  · exact zw_g1
  · decide
  show zq_lp w (h.toInt - 0).toNat _ _ = _
  rw [Int.sub_zero]
  rfl

theorem zhc_3 {L : Nat} {σ : Nat → Int32} : zk_Ct L σ zB zg zJc ze_h3 := by
  intro d hd as H ha hB hp
  have hd : 2 ≤ d := hd
  obtain ⟨d0, rfl⟩ : ∃ d0, d = d0 + 2 := ⟨d - 2, by omega⟩
  match as, ha with
  | [.inr (.inr r), .inl w, .inl h], ha =>
    obtain ⟨h1, h2, h3, h4⟩ := ha
    have h1 : r = some 23 := h1
    subst h1
    have h2 : 2 ≤ w.toInt ∧ w.toInt ≤ 8 := h2
    have h3 : 2 ≤ h.toInt ∧ h.toInt ≤ 8 := h3
    have hQ : zQ 22 23 (zn_ssH22 H w h (zq_col w h)) := by
      refine ⟨?_, fun k k1 => ?_⟩
      rotate_left
      · have e0 : (zn_ssH22 H w h (zq_col w h)).2.1 22 0 = w := show (zw_I (zw_I H 22 0 w) 22 1 h).2.1 22 0 = w from zw_ne zw_eq rfl
        have e1 : (zn_ssH22 H w h (zq_col w h)).2.1 22 1 = h := show (zw_I (zw_I H 22 0 w) 22 1 h).2.1 22 1 = h from zw_eq
        rw [e0, e1]
        match k, k1 with
        | 0, _ => rfl
        | 1, _ => rfl
        | 2, _ => rfl
        | 3, _ => rfl
      intro k c k1 k2 k3 k4
      have e0 : (zn_ssH22 H w h (zq_col w h)).2.1 22 0 = w := show (zw_I (zw_I H 22 0 w) 22 1 h).2.1 22 0 = w from zw_ne zw_eq rfl
      rw [e0]
      refine zq_ok h2 h3 k1 k2 k3 ?_
      have e : (zn_ssH22 H w h (zq_col w h)).2.2.1 23 k = zq_o w h (zq_col w h) k := by
        match k, k1 with
        | 0, _ => rfl
        | 1, _ => rfl
        | 2, _ => rfl
        | 3, _ => rfl
      rw [e] at k4
      exact k4
    have hQ' : zQ 2 3 (zn_ssH22 H w h (zq_col w h)) := zQ_c (H := H) (show (zw_I (zw_I H 22 0 w) 22 1 h).2.1 2 0 = H.2.1 2 0 from zw_ne (zw_ne rfl rfl) rfl) (show (zw_I (zw_I H 22 0 w) 22 1 h).2.1 2 1 = H.2.1 2 1 from zw_ne (zw_ne rfl rfl) rfl) (fun k => by
      have g : ∀ (G : zp_H) (q i : Nat) (u : Int64), Nat.beq 3 q = false → (zw_J G q i u).2.2.1 3 k = G.2.2.1 3 k := fun G q i u hq => zp_u_ne (fun h9 => by rw [← h9.1] at hq; cases hq)
      exact (g _ _ _ _ rfl).trans ((g _ _ _ _ rfl).trans ((g _ _ _ _ rfl).trans ((g _ _ _ _ rfl).trans (g _ _ _ _ rfl))))) hB.2.2.2.2.2.2.2.1
    have hJ : zJc (zn_ssH22 H w h (zq_col w h)) := ⟨hQ', hQ⟩
    refine ⟨_, zn_ss22 (L := L) (σ := σ) (d := d0) hB h3.2, ?_, ?_, _, List.mem_cons_self, trivial, fun f hf => absurd hf List.not_mem_nil, fun f hf => absurd hf List.not_mem_nil⟩
    · have hT : zk_Bs zB0 zg (fun _ => True) H := ⟨hB.1, hB.2.1, hB.2.2.1, hB.2.2.2.1, hB.2.2.2.2.1, hB.2.2.2.2.2.1, fun c hc => absurd hc List.not_mem_nil, trivial⟩
      have b1 := zB_Tp (p := 22) (k := 0) (x := w) hT rfl (fun r hr => by cases hr; exact h2)
      have b2 := zB_Tp (p := 22) (k := 1) (x := h) b1 rfl (fun r hr => by cases hr; exact h3)
      have b3 := zB_Tl (p := 23) (k := 3) (u := zq_o w h (zq_col w h) 3) (zB_Tl (p := 23) (k := 2) (u := zq_o w h (zq_col w h) 2) (zB_Tl (p := 23) (k := 1) (u := zq_o w h (zq_col w h) 1) (zB_Tl (p := 23) (k := 0) (u := zq_o w h (zq_col w h) 0) (zB_Tl (p := 22) (k := 2) (u := zq_all w h) b2))))
      have b4 : zk_Bs zB0 zg zJc (zn_ssH22 H w h (zq_col w h)) := ⟨b3.1, b3.2.1, b3.2.2.1, b3.2.2.2.1, b3.2.2.2.2.1, b3.2.2.2.2.2.1, b3.2.2.2.2.2.2.1, hJ⟩
      refine zB_up b4 ?_
      have e4 : (zn_ssH22 H w h (zq_col w h)).2.1 52 4 = H.2.1 52 4 := show (zw_I (zw_I H 22 0 w) 22 1 h).2.1 52 4 = _ from zw_ne (zw_ne rfl rfl) rfl
      have e5 : (zn_ssH22 H w h (zq_col w h)).2.1 52 5 = H.2.1 52 5 := show (zw_I (zw_I H 22 0 w) 22 1 h).2.1 52 5 = _ from zw_ne (zw_ne rfl rfl) rfl
      rw [e4, e5]
      exact zB_cn hB
    · exact zk_Fr_J (zk_Fr_J (zk_Fr_J (zk_Fr_J (zk_Fr_J (zk_Fr_I (zk_Fr_I (zk_Fr_r H) rfl rfl) rfl rfl) rfl rfl) rfl rfl) rfl rfl) rfl rfl) rfl rfl

def zq_us (x y : Int32) : Int32 := (x.toUInt32 >>> (y.toUInt32 &&& Int32.toUInt32 31)).toInt32
def zq_n5 (y n : Int32) : Int32 := n + zq_us y (Int32.ofInt 1)
def zq_n4 (y n : Int32) : Int32 := if y.toInt ≤ 4 then zq_n5 y n else zq_n5 (zq_us y (Int32.ofInt 2)) (n + Int32.ofInt 2)
def zq_n3 (y n : Int32) : Int32 := if y.toInt ≤ 16 then zq_n4 y n else zq_n4 (zq_us y (Int32.ofInt 4)) (n + Int32.ofInt 4)
def zq_n2 (y n : Int32) : Int32 := if y.toInt ≤ 256 then zq_n3 y n else zq_n3 (zq_us y (Int32.ofInt 8)) (n + Int32.ofInt 8)
def zq_n1 (y n : Int32) : Int32 := if y.toInt ≤ 65536 then zq_n2 y n else zq_n2 (zq_us y (Int32.ofInt 16)) (n + Int32.ofInt 16)
def zq_n0 (x : Int32) : Int32 := if 0 < ((x ^^^ Int32.ofInt (-1)) &&& (x - Int32.ofInt 1)).toInt then zq_n1 ((x ^^^ Int32.ofInt (-1)) &&& (x - Int32.ofInt 1)) (Int32.ofInt 1) else ((x ^^^ Int32.ofInt (-1)) &&& (x - Int32.ofInt 1)) &&& Int32.ofInt 32
theorem zq_ntz_t : (List.range 255).all (fun n => (za_ile 0 (zq_n0 (Int32.ofNat (n + 1))).toInt).and (za_ile (zq_n0 (Int32.ofNat (n + 1))).toInt 7)) = true := by decide +kernel
theorem zq_ntz_ok {n : Nat} (h : n < 255) : 0 ≤ (zq_n0 (Int32.ofNat (n + 1))).toInt ∧ (zq_n0 (Int32.ofNat (n + 1))).toInt ≤ 7 := by
  have t := List.all_eq_true.mp zq_ntz_t n (List.mem_range.mpr h)
  obtain ⟨t1, t2⟩ := Bool.and_eq_true_iff.mp t
  exact ⟨za_ile_t t1, za_ile_t t2⟩

theorem zn_ntz {L : Nat} {σ : Nat → Int32} {d : Nat} {H : zp_H} {x : Int32} (hx : 1 ≤ x.toInt ∧ x.toInt ≤ 255) : ∃ X, zp_Call L σ (d + 1) 147 [.inl x] H X ∧ (fun X : zp_X => ∃ v : Int32, X = (.inl (some (.inl v)), H) ∧ (0 ≤ v.toInt ∧ v.toInt ≤ 7)) X := by
  obtain ⟨n, hn, rfl⟩ := zq_i (n := 1) (m := 255) (x := x) (by omega) (by omega) (by decide)
  refine zw_met zm_147_t rfl rfl ?_
  refine zw_ld (n := 1) (k := 0) (f := zp_isI) (pc' := 1) rfl rfl rfl rfl rfl ?_
  refine zw_s (pc' := 2) rfl rfl ?_
  refine zw_ixor (pc' := 3) rfl rfl ?_
  refine zw_ld (n := 1) (k := 0) (f := zp_isI) (pc' := 4) rfl rfl rfl rfl rfl ?_
  refine zw_s (pc' := 5) rfl rfl ?_
  refine zw_isub (pc' := 6) rfl rfl ?_
  refine zw_iand (pc' := 7) rfl rfl ?_
  refine zw_st (n := 1) (k := 0) (f := zp_isI) (pc' := 8) rfl rfl rfl rfl rfl ?_
  refine zw_ld (n := 1) (k := 0) (f := zp_isI) (pc' := 9) rfl rfl zw_g1 rfl rfl ?_
  refine zw_bgt1 (g := 17) (pc' := 12) rfl rfl rfl rfl (fun hb0 => ?_) (fun hb0 => ?_)
  · have hz0 : zq_n0 (Int32.ofNat (n + 1)) = zq_n1 (((Int32.ofNat (n + 1) ^^^ Int32.ofInt (-1)) &&& (Int32.ofNat (n + 1) - Int32.ofInt 1))) (Int32.ofInt 1) := if_pos hb0
    refine zw_s (pc' := 18) rfl rfl ?_
    refine zw_st (n := 1) (k := 1) (f := zp_isI) (pc' := 19) rfl rfl rfl rfl rfl ?_
    refine zw_ld (n := 1) (k := 0) (f := zp_isI) (pc' := 20) rfl rfl (zw_gt zw_g1 rfl rfl) rfl rfl ?_
    refine zw_s (pc' := 23) rfl rfl ?_
    refine zw_ble2 (g := 34) (pc' := 26) rfl rfl rfl rfl (rfl : _ = (65536 : Int)) (fun hb1 => ?_) (fun hb1 => ?_)
    · have hz1 : zq_n1 (((Int32.ofNat (n + 1) ^^^ Int32.ofInt (-1)) &&& (Int32.ofNat (n + 1) - Int32.ofInt 1))) (Int32.ofInt 1) = zq_n2 (((Int32.ofNat (n + 1) ^^^ Int32.ofInt (-1)) &&& (Int32.ofNat (n + 1) - Int32.ofInt 1))) (Int32.ofInt 1) := if_pos hb1
      refine zw_ld (n := 1) (k := 0) (f := zp_isI) (pc' := 35) rfl rfl (zw_gt zw_g1 rfl rfl) rfl rfl ?_
      refine zw_s (pc' := 38) rfl rfl ?_
      refine zw_ble2 (g := 49) (pc' := 41) rfl rfl rfl rfl (rfl : _ = (256 : Int)) (fun hb2 => ?_) (fun hb2 => ?_)
      · have hz2 : zq_n2 (((Int32.ofNat (n + 1) ^^^ Int32.ofInt (-1)) &&& (Int32.ofNat (n + 1) - Int32.ofInt 1))) (Int32.ofInt 1) = zq_n3 (((Int32.ofNat (n + 1) ^^^ Int32.ofInt (-1)) &&& (Int32.ofNat (n + 1) - Int32.ofInt 1))) (Int32.ofInt 1) := if_pos hb2
        refine zw_ld (n := 1) (k := 0) (f := zp_isI) (pc' := 50) rfl rfl (zw_gt zw_g1 rfl rfl) rfl rfl ?_
        refine zw_s (pc' := 52) rfl rfl ?_
        refine zw_ble2 (g := 62) (pc' := 55) rfl rfl rfl rfl (rfl : _ = (16 : Int)) (fun hb3 => ?_) (fun hb3 => ?_)
        · have hz3 : zq_n3 (((Int32.ofNat (n + 1) ^^^ Int32.ofInt (-1)) &&& (Int32.ofNat (n + 1) - Int32.ofInt 1))) (Int32.ofInt 1) = zq_n4 (((Int32.ofNat (n + 1) ^^^ Int32.ofInt (-1)) &&& (Int32.ofNat (n + 1) - Int32.ofInt 1))) (Int32.ofInt 1) := if_pos hb3
          refine zw_ld (n := 1) (k := 0) (f := zp_isI) (pc' := 63) rfl rfl (zw_gt zw_g1 rfl rfl) rfl rfl ?_
          refine zw_s (pc' := 64) rfl rfl ?_
          refine zw_ble2 (g := 74) (pc' := 67) rfl rfl rfl rfl (rfl : _ = (4 : Int)) (fun hb4 => ?_) (fun hb4 => ?_)
          · have hz4 : zq_n4 (((Int32.ofNat (n + 1) ^^^ Int32.ofInt (-1)) &&& (Int32.ofNat (n + 1) - Int32.ofInt 1))) (Int32.ofInt 1) = zq_n5 (((Int32.ofNat (n + 1) ^^^ Int32.ofInt (-1)) &&& (Int32.ofNat (n + 1) - Int32.ofInt 1))) (Int32.ofInt 1) := if_pos hb4
            refine zw_ld (n := 1) (k := 1) (f := zp_isI) (pc' := 75) rfl rfl zw_g1 rfl rfl ?_
            refine zw_ld (n := 1) (k := 0) (f := zp_isI) (pc' := 76) rfl rfl (zw_gt zw_g1 rfl rfl) rfl rfl ?_
            refine zw_s (pc' := 77) rfl rfl ?_
            refine zw_s (pc' := 78) rfl rfl ?_
            refine zw_iadd (pc' := 79) rfl rfl ?_
            refine zw_ri rfl rfl ?_
            have hr := zq_ntz_ok hn
            rw [hz0, hz1, hz2, hz3, hz4] at hr
            exact ⟨_, rfl, hr⟩
          · have hz4 : zq_n4 (((Int32.ofNat (n + 1) ^^^ Int32.ofInt (-1)) &&& (Int32.ofNat (n + 1) - Int32.ofInt 1))) (Int32.ofInt 1) = zq_n5 (zq_us (((Int32.ofNat (n + 1) ^^^ Int32.ofInt (-1)) &&& (Int32.ofNat (n + 1) - Int32.ofInt 1))) (Int32.ofInt 2)) (Int32.ofInt 1 + Int32.ofInt 2) := if_neg (Int.not_le.mpr hb4)
            refine zw_ii (pc' := 70) rfl zw_g1 rfl rfl ?_
            refine zw_ld (n := 1) (k := 0) (f := zp_isI) (pc' := 71) rfl rfl (zw_gt (zw_gt zw_g1 rfl rfl) rfl rfl) rfl rfl ?_
            refine zw_s (pc' := 72) rfl rfl ?_
            refine zw_s (pc' := 73) rfl rfl ?_
            refine zw_st (n := 1) (k := 0) (f := zp_isI) (pc' := 74) rfl rfl rfl rfl rfl ?_
            refine zw_ld (n := 1) (k := 1) (f := zp_isI) (pc' := 75) rfl rfl (zw_gt zw_g1 rfl rfl) rfl rfl ?_
            refine zw_ld (n := 1) (k := 0) (f := zp_isI) (pc' := 76) rfl rfl zw_g1 rfl rfl ?_
            refine zw_s (pc' := 77) rfl rfl ?_
            refine zw_s (pc' := 78) rfl rfl ?_
            refine zw_iadd (pc' := 79) rfl rfl ?_
            refine zw_ri rfl rfl ?_
            have hr := zq_ntz_ok hn
            rw [hz0, hz1, hz2, hz3, hz4] at hr
            exact ⟨_, rfl, hr⟩
        · have hz3 : zq_n3 (((Int32.ofNat (n + 1) ^^^ Int32.ofInt (-1)) &&& (Int32.ofNat (n + 1) - Int32.ofInt 1))) (Int32.ofInt 1) = zq_n4 (zq_us (((Int32.ofNat (n + 1) ^^^ Int32.ofInt (-1)) &&& (Int32.ofNat (n + 1) - Int32.ofInt 1))) (Int32.ofInt 4)) (Int32.ofInt 1 + Int32.ofInt 4) := if_neg (Int.not_le.mpr hb3)
          refine zw_ii (pc' := 58) rfl zw_g1 rfl rfl ?_
          refine zw_ld (n := 1) (k := 0) (f := zp_isI) (pc' := 59) rfl rfl (zw_gt (zw_gt zw_g1 rfl rfl) rfl rfl) rfl rfl ?_
          refine zw_s (pc' := 60) rfl rfl ?_
          refine zw_s (pc' := 61) rfl rfl ?_
          refine zw_st (n := 1) (k := 0) (f := zp_isI) (pc' := 62) rfl rfl rfl rfl rfl ?_
          refine zw_ld (n := 1) (k := 0) (f := zp_isI) (pc' := 63) rfl rfl zw_g1 rfl rfl ?_
          refine zw_s (pc' := 64) rfl rfl ?_
          refine zw_ble2 (g := 74) (pc' := 67) rfl rfl rfl rfl (rfl : _ = (4 : Int)) (fun hb4 => ?_) (fun hb4 => ?_)
          · have hz4 : zq_n4 (zq_us (((Int32.ofNat (n + 1) ^^^ Int32.ofInt (-1)) &&& (Int32.ofNat (n + 1) - Int32.ofInt 1))) (Int32.ofInt 4)) (Int32.ofInt 1 + Int32.ofInt 4) = zq_n5 (zq_us (((Int32.ofNat (n + 1) ^^^ Int32.ofInt (-1)) &&& (Int32.ofNat (n + 1) - Int32.ofInt 1))) (Int32.ofInt 4)) (Int32.ofInt 1 + Int32.ofInt 4) := if_pos hb4
            refine zw_ld (n := 1) (k := 1) (f := zp_isI) (pc' := 75) rfl rfl (zw_gt zw_g1 rfl rfl) rfl rfl ?_
            refine zw_ld (n := 1) (k := 0) (f := zp_isI) (pc' := 76) rfl rfl zw_g1 rfl rfl ?_
            refine zw_s (pc' := 77) rfl rfl ?_
            refine zw_s (pc' := 78) rfl rfl ?_
            refine zw_iadd (pc' := 79) rfl rfl ?_
            refine zw_ri rfl rfl ?_
            have hr := zq_ntz_ok hn
            rw [hz0, hz1, hz2, hz3, hz4] at hr
            exact ⟨_, rfl, hr⟩
          · have hz4 : zq_n4 (zq_us (((Int32.ofNat (n + 1) ^^^ Int32.ofInt (-1)) &&& (Int32.ofNat (n + 1) - Int32.ofInt 1))) (Int32.ofInt 4)) (Int32.ofInt 1 + Int32.ofInt 4) = zq_n5 (zq_us (zq_us (((Int32.ofNat (n + 1) ^^^ Int32.ofInt (-1)) &&& (Int32.ofNat (n + 1) - Int32.ofInt 1))) (Int32.ofInt 4)) (Int32.ofInt 2)) (Int32.ofInt 1 + Int32.ofInt 4 + Int32.ofInt 2) := if_neg (Int.not_le.mpr hb4)
            refine zw_ii (pc' := 70) rfl (zw_gt zw_g1 rfl rfl) rfl rfl ?_
            refine zw_ld (n := 1) (k := 0) (f := zp_isI) (pc' := 71) rfl rfl (zw_gt zw_g1 rfl rfl) rfl rfl ?_
            refine zw_s (pc' := 72) rfl rfl ?_
            refine zw_s (pc' := 73) rfl rfl ?_
            refine zw_st (n := 1) (k := 0) (f := zp_isI) (pc' := 74) rfl rfl rfl rfl rfl ?_
            refine zw_ld (n := 1) (k := 1) (f := zp_isI) (pc' := 75) rfl rfl (zw_gt zw_g1 rfl rfl) rfl rfl ?_
            refine zw_ld (n := 1) (k := 0) (f := zp_isI) (pc' := 76) rfl rfl zw_g1 rfl rfl ?_
            refine zw_s (pc' := 77) rfl rfl ?_
            refine zw_s (pc' := 78) rfl rfl ?_
            refine zw_iadd (pc' := 79) rfl rfl ?_
            refine zw_ri rfl rfl ?_
            have hr := zq_ntz_ok hn
            rw [hz0, hz1, hz2, hz3, hz4] at hr
            exact ⟨_, rfl, hr⟩
      · have hz2 : zq_n2 (((Int32.ofNat (n + 1) ^^^ Int32.ofInt (-1)) &&& (Int32.ofNat (n + 1) - Int32.ofInt 1))) (Int32.ofInt 1) = zq_n3 (zq_us (((Int32.ofNat (n + 1) ^^^ Int32.ofInt (-1)) &&& (Int32.ofNat (n + 1) - Int32.ofInt 1))) (Int32.ofInt 8)) (Int32.ofInt 1 + Int32.ofInt 8) := if_neg (Int.not_le.mpr hb2)
        refine zw_ii (pc' := 44) rfl zw_g1 rfl rfl ?_
        refine zw_ld (n := 1) (k := 0) (f := zp_isI) (pc' := 45) rfl rfl (zw_gt (zw_gt zw_g1 rfl rfl) rfl rfl) rfl rfl ?_
        refine zw_s (pc' := 47) rfl rfl ?_
        refine zw_s (pc' := 48) rfl rfl ?_
        refine zw_st (n := 1) (k := 0) (f := zp_isI) (pc' := 49) rfl rfl rfl rfl rfl ?_
        refine zw_ld (n := 1) (k := 0) (f := zp_isI) (pc' := 50) rfl rfl zw_g1 rfl rfl ?_
        refine zw_s (pc' := 52) rfl rfl ?_
        refine zw_ble2 (g := 62) (pc' := 55) rfl rfl rfl rfl (rfl : _ = (16 : Int)) (fun hb3 => ?_) (fun hb3 => ?_)
        · have hz3 : zq_n3 (zq_us (((Int32.ofNat (n + 1) ^^^ Int32.ofInt (-1)) &&& (Int32.ofNat (n + 1) - Int32.ofInt 1))) (Int32.ofInt 8)) (Int32.ofInt 1 + Int32.ofInt 8) = zq_n4 (zq_us (((Int32.ofNat (n + 1) ^^^ Int32.ofInt (-1)) &&& (Int32.ofNat (n + 1) - Int32.ofInt 1))) (Int32.ofInt 8)) (Int32.ofInt 1 + Int32.ofInt 8) := if_pos hb3
          refine zw_ld (n := 1) (k := 0) (f := zp_isI) (pc' := 63) rfl rfl zw_g1 rfl rfl ?_
          refine zw_s (pc' := 64) rfl rfl ?_
          refine zw_ble2 (g := 74) (pc' := 67) rfl rfl rfl rfl (rfl : _ = (4 : Int)) (fun hb4 => ?_) (fun hb4 => ?_)
          · have hz4 : zq_n4 (zq_us (((Int32.ofNat (n + 1) ^^^ Int32.ofInt (-1)) &&& (Int32.ofNat (n + 1) - Int32.ofInt 1))) (Int32.ofInt 8)) (Int32.ofInt 1 + Int32.ofInt 8) = zq_n5 (zq_us (((Int32.ofNat (n + 1) ^^^ Int32.ofInt (-1)) &&& (Int32.ofNat (n + 1) - Int32.ofInt 1))) (Int32.ofInt 8)) (Int32.ofInt 1 + Int32.ofInt 8) := if_pos hb4
            refine zw_ld (n := 1) (k := 1) (f := zp_isI) (pc' := 75) rfl rfl (zw_gt zw_g1 rfl rfl) rfl rfl ?_
            refine zw_ld (n := 1) (k := 0) (f := zp_isI) (pc' := 76) rfl rfl zw_g1 rfl rfl ?_
            refine zw_s (pc' := 77) rfl rfl ?_
            refine zw_s (pc' := 78) rfl rfl ?_
            refine zw_iadd (pc' := 79) rfl rfl ?_
            refine zw_ri rfl rfl ?_
            have hr := zq_ntz_ok hn
            rw [hz0, hz1, hz2, hz3, hz4] at hr
            exact ⟨_, rfl, hr⟩
          · have hz4 : zq_n4 (zq_us (((Int32.ofNat (n + 1) ^^^ Int32.ofInt (-1)) &&& (Int32.ofNat (n + 1) - Int32.ofInt 1))) (Int32.ofInt 8)) (Int32.ofInt 1 + Int32.ofInt 8) = zq_n5 (zq_us (zq_us (((Int32.ofNat (n + 1) ^^^ Int32.ofInt (-1)) &&& (Int32.ofNat (n + 1) - Int32.ofInt 1))) (Int32.ofInt 8)) (Int32.ofInt 2)) (Int32.ofInt 1 + Int32.ofInt 8 + Int32.ofInt 2) := if_neg (Int.not_le.mpr hb4)
            refine zw_ii (pc' := 70) rfl (zw_gt zw_g1 rfl rfl) rfl rfl ?_
            refine zw_ld (n := 1) (k := 0) (f := zp_isI) (pc' := 71) rfl rfl (zw_gt zw_g1 rfl rfl) rfl rfl ?_
            refine zw_s (pc' := 72) rfl rfl ?_
            refine zw_s (pc' := 73) rfl rfl ?_
            refine zw_st (n := 1) (k := 0) (f := zp_isI) (pc' := 74) rfl rfl rfl rfl rfl ?_
            refine zw_ld (n := 1) (k := 1) (f := zp_isI) (pc' := 75) rfl rfl (zw_gt zw_g1 rfl rfl) rfl rfl ?_
            refine zw_ld (n := 1) (k := 0) (f := zp_isI) (pc' := 76) rfl rfl zw_g1 rfl rfl ?_
            refine zw_s (pc' := 77) rfl rfl ?_
            refine zw_s (pc' := 78) rfl rfl ?_
            refine zw_iadd (pc' := 79) rfl rfl ?_
            refine zw_ri rfl rfl ?_
            have hr := zq_ntz_ok hn
            rw [hz0, hz1, hz2, hz3, hz4] at hr
            exact ⟨_, rfl, hr⟩
        · have hz3 : zq_n3 (zq_us (((Int32.ofNat (n + 1) ^^^ Int32.ofInt (-1)) &&& (Int32.ofNat (n + 1) - Int32.ofInt 1))) (Int32.ofInt 8)) (Int32.ofInt 1 + Int32.ofInt 8) = zq_n4 (zq_us (zq_us (((Int32.ofNat (n + 1) ^^^ Int32.ofInt (-1)) &&& (Int32.ofNat (n + 1) - Int32.ofInt 1))) (Int32.ofInt 8)) (Int32.ofInt 4)) (Int32.ofInt 1 + Int32.ofInt 8 + Int32.ofInt 4) := if_neg (Int.not_le.mpr hb3)
          refine zw_ii (pc' := 58) rfl (zw_gt zw_g1 rfl rfl) rfl rfl ?_
          refine zw_ld (n := 1) (k := 0) (f := zp_isI) (pc' := 59) rfl rfl (zw_gt zw_g1 rfl rfl) rfl rfl ?_
          refine zw_s (pc' := 60) rfl rfl ?_
          refine zw_s (pc' := 61) rfl rfl ?_
          refine zw_st (n := 1) (k := 0) (f := zp_isI) (pc' := 62) rfl rfl rfl rfl rfl ?_
          refine zw_ld (n := 1) (k := 0) (f := zp_isI) (pc' := 63) rfl rfl zw_g1 rfl rfl ?_
          refine zw_s (pc' := 64) rfl rfl ?_
          refine zw_ble2 (g := 74) (pc' := 67) rfl rfl rfl rfl (rfl : _ = (4 : Int)) (fun hb4 => ?_) (fun hb4 => ?_)
          · have hz4 : zq_n4 (zq_us (zq_us (((Int32.ofNat (n + 1) ^^^ Int32.ofInt (-1)) &&& (Int32.ofNat (n + 1) - Int32.ofInt 1))) (Int32.ofInt 8)) (Int32.ofInt 4)) (Int32.ofInt 1 + Int32.ofInt 8 + Int32.ofInt 4) = zq_n5 (zq_us (zq_us (((Int32.ofNat (n + 1) ^^^ Int32.ofInt (-1)) &&& (Int32.ofNat (n + 1) - Int32.ofInt 1))) (Int32.ofInt 8)) (Int32.ofInt 4)) (Int32.ofInt 1 + Int32.ofInt 8 + Int32.ofInt 4) := if_pos hb4
            refine zw_ld (n := 1) (k := 1) (f := zp_isI) (pc' := 75) rfl rfl (zw_gt zw_g1 rfl rfl) rfl rfl ?_
            refine zw_ld (n := 1) (k := 0) (f := zp_isI) (pc' := 76) rfl rfl zw_g1 rfl rfl ?_
            refine zw_s (pc' := 77) rfl rfl ?_
            refine zw_s (pc' := 78) rfl rfl ?_
            refine zw_iadd (pc' := 79) rfl rfl ?_
            refine zw_ri rfl rfl ?_
            have hr := zq_ntz_ok hn
            rw [hz0, hz1, hz2, hz3, hz4] at hr
            exact ⟨_, rfl, hr⟩
          · have hz4 : zq_n4 (zq_us (zq_us (((Int32.ofNat (n + 1) ^^^ Int32.ofInt (-1)) &&& (Int32.ofNat (n + 1) - Int32.ofInt 1))) (Int32.ofInt 8)) (Int32.ofInt 4)) (Int32.ofInt 1 + Int32.ofInt 8 + Int32.ofInt 4) = zq_n5 (zq_us (zq_us (zq_us (((Int32.ofNat (n + 1) ^^^ Int32.ofInt (-1)) &&& (Int32.ofNat (n + 1) - Int32.ofInt 1))) (Int32.ofInt 8)) (Int32.ofInt 4)) (Int32.ofInt 2)) (Int32.ofInt 1 + Int32.ofInt 8 + Int32.ofInt 4 + Int32.ofInt 2) := if_neg (Int.not_le.mpr hb4)
            refine zw_ii (pc' := 70) rfl (zw_gt zw_g1 rfl rfl) rfl rfl ?_
            refine zw_ld (n := 1) (k := 0) (f := zp_isI) (pc' := 71) rfl rfl (zw_gt zw_g1 rfl rfl) rfl rfl ?_
            refine zw_s (pc' := 72) rfl rfl ?_
            refine zw_s (pc' := 73) rfl rfl ?_
            refine zw_st (n := 1) (k := 0) (f := zp_isI) (pc' := 74) rfl rfl rfl rfl rfl ?_
            refine zw_ld (n := 1) (k := 1) (f := zp_isI) (pc' := 75) rfl rfl (zw_gt zw_g1 rfl rfl) rfl rfl ?_
            refine zw_ld (n := 1) (k := 0) (f := zp_isI) (pc' := 76) rfl rfl zw_g1 rfl rfl ?_
            refine zw_s (pc' := 77) rfl rfl ?_
            refine zw_s (pc' := 78) rfl rfl ?_
            refine zw_iadd (pc' := 79) rfl rfl ?_
            refine zw_ri rfl rfl ?_
            have hr := zq_ntz_ok hn
            rw [hz0, hz1, hz2, hz3, hz4] at hr
            exact ⟨_, rfl, hr⟩
    · have hz1 : zq_n1 (((Int32.ofNat (n + 1) ^^^ Int32.ofInt (-1)) &&& (Int32.ofNat (n + 1) - Int32.ofInt 1))) (Int32.ofInt 1) = zq_n2 (zq_us (((Int32.ofNat (n + 1) ^^^ Int32.ofInt (-1)) &&& (Int32.ofNat (n + 1) - Int32.ofInt 1))) (Int32.ofInt 16)) (Int32.ofInt 1 + Int32.ofInt 16) := if_neg (Int.not_le.mpr hb1)
      refine zw_ii (pc' := 29) rfl zw_g1 rfl rfl ?_
      refine zw_ld (n := 1) (k := 0) (f := zp_isI) (pc' := 30) rfl rfl (zw_gt (zw_gt zw_g1 rfl rfl) rfl rfl) rfl rfl ?_
      refine zw_s (pc' := 32) rfl rfl ?_
      refine zw_s (pc' := 33) rfl rfl ?_
      refine zw_st (n := 1) (k := 0) (f := zp_isI) (pc' := 34) rfl rfl rfl rfl rfl ?_
      refine zw_ld (n := 1) (k := 0) (f := zp_isI) (pc' := 35) rfl rfl zw_g1 rfl rfl ?_
      refine zw_s (pc' := 38) rfl rfl ?_
      refine zw_ble2 (g := 49) (pc' := 41) rfl rfl rfl rfl (rfl : _ = (256 : Int)) (fun hb2 => ?_) (fun hb2 => ?_)
      · have hz2 : zq_n2 (zq_us (((Int32.ofNat (n + 1) ^^^ Int32.ofInt (-1)) &&& (Int32.ofNat (n + 1) - Int32.ofInt 1))) (Int32.ofInt 16)) (Int32.ofInt 1 + Int32.ofInt 16) = zq_n3 (zq_us (((Int32.ofNat (n + 1) ^^^ Int32.ofInt (-1)) &&& (Int32.ofNat (n + 1) - Int32.ofInt 1))) (Int32.ofInt 16)) (Int32.ofInt 1 + Int32.ofInt 16) := if_pos hb2
        refine zw_ld (n := 1) (k := 0) (f := zp_isI) (pc' := 50) rfl rfl zw_g1 rfl rfl ?_
        refine zw_s (pc' := 52) rfl rfl ?_
        refine zw_ble2 (g := 62) (pc' := 55) rfl rfl rfl rfl (rfl : _ = (16 : Int)) (fun hb3 => ?_) (fun hb3 => ?_)
        · have hz3 : zq_n3 (zq_us (((Int32.ofNat (n + 1) ^^^ Int32.ofInt (-1)) &&& (Int32.ofNat (n + 1) - Int32.ofInt 1))) (Int32.ofInt 16)) (Int32.ofInt 1 + Int32.ofInt 16) = zq_n4 (zq_us (((Int32.ofNat (n + 1) ^^^ Int32.ofInt (-1)) &&& (Int32.ofNat (n + 1) - Int32.ofInt 1))) (Int32.ofInt 16)) (Int32.ofInt 1 + Int32.ofInt 16) := if_pos hb3
          refine zw_ld (n := 1) (k := 0) (f := zp_isI) (pc' := 63) rfl rfl zw_g1 rfl rfl ?_
          refine zw_s (pc' := 64) rfl rfl ?_
          refine zw_ble2 (g := 74) (pc' := 67) rfl rfl rfl rfl (rfl : _ = (4 : Int)) (fun hb4 => ?_) (fun hb4 => ?_)
          · have hz4 : zq_n4 (zq_us (((Int32.ofNat (n + 1) ^^^ Int32.ofInt (-1)) &&& (Int32.ofNat (n + 1) - Int32.ofInt 1))) (Int32.ofInt 16)) (Int32.ofInt 1 + Int32.ofInt 16) = zq_n5 (zq_us (((Int32.ofNat (n + 1) ^^^ Int32.ofInt (-1)) &&& (Int32.ofNat (n + 1) - Int32.ofInt 1))) (Int32.ofInt 16)) (Int32.ofInt 1 + Int32.ofInt 16) := if_pos hb4
            refine zw_ld (n := 1) (k := 1) (f := zp_isI) (pc' := 75) rfl rfl (zw_gt zw_g1 rfl rfl) rfl rfl ?_
            refine zw_ld (n := 1) (k := 0) (f := zp_isI) (pc' := 76) rfl rfl zw_g1 rfl rfl ?_
            refine zw_s (pc' := 77) rfl rfl ?_
            refine zw_s (pc' := 78) rfl rfl ?_
            refine zw_iadd (pc' := 79) rfl rfl ?_
            refine zw_ri rfl rfl ?_
            have hr := zq_ntz_ok hn
            rw [hz0, hz1, hz2, hz3, hz4] at hr
            exact ⟨_, rfl, hr⟩
          · have hz4 : zq_n4 (zq_us (((Int32.ofNat (n + 1) ^^^ Int32.ofInt (-1)) &&& (Int32.ofNat (n + 1) - Int32.ofInt 1))) (Int32.ofInt 16)) (Int32.ofInt 1 + Int32.ofInt 16) = zq_n5 (zq_us (zq_us (((Int32.ofNat (n + 1) ^^^ Int32.ofInt (-1)) &&& (Int32.ofNat (n + 1) - Int32.ofInt 1))) (Int32.ofInt 16)) (Int32.ofInt 2)) (Int32.ofInt 1 + Int32.ofInt 16 + Int32.ofInt 2) := if_neg (Int.not_le.mpr hb4)
            refine zw_ii (pc' := 70) rfl (zw_gt zw_g1 rfl rfl) rfl rfl ?_
            refine zw_ld (n := 1) (k := 0) (f := zp_isI) (pc' := 71) rfl rfl (zw_gt zw_g1 rfl rfl) rfl rfl ?_
            refine zw_s (pc' := 72) rfl rfl ?_
            refine zw_s (pc' := 73) rfl rfl ?_
            refine zw_st (n := 1) (k := 0) (f := zp_isI) (pc' := 74) rfl rfl rfl rfl rfl ?_
            refine zw_ld (n := 1) (k := 1) (f := zp_isI) (pc' := 75) rfl rfl (zw_gt zw_g1 rfl rfl) rfl rfl ?_
            refine zw_ld (n := 1) (k := 0) (f := zp_isI) (pc' := 76) rfl rfl zw_g1 rfl rfl ?_
            refine zw_s (pc' := 77) rfl rfl ?_
            refine zw_s (pc' := 78) rfl rfl ?_
            refine zw_iadd (pc' := 79) rfl rfl ?_
            refine zw_ri rfl rfl ?_
            have hr := zq_ntz_ok hn
            rw [hz0, hz1, hz2, hz3, hz4] at hr
            exact ⟨_, rfl, hr⟩
        · have hz3 : zq_n3 (zq_us (((Int32.ofNat (n + 1) ^^^ Int32.ofInt (-1)) &&& (Int32.ofNat (n + 1) - Int32.ofInt 1))) (Int32.ofInt 16)) (Int32.ofInt 1 + Int32.ofInt 16) = zq_n4 (zq_us (zq_us (((Int32.ofNat (n + 1) ^^^ Int32.ofInt (-1)) &&& (Int32.ofNat (n + 1) - Int32.ofInt 1))) (Int32.ofInt 16)) (Int32.ofInt 4)) (Int32.ofInt 1 + Int32.ofInt 16 + Int32.ofInt 4) := if_neg (Int.not_le.mpr hb3)
          refine zw_ii (pc' := 58) rfl (zw_gt zw_g1 rfl rfl) rfl rfl ?_
          refine zw_ld (n := 1) (k := 0) (f := zp_isI) (pc' := 59) rfl rfl (zw_gt zw_g1 rfl rfl) rfl rfl ?_
          refine zw_s (pc' := 60) rfl rfl ?_
          refine zw_s (pc' := 61) rfl rfl ?_
          refine zw_st (n := 1) (k := 0) (f := zp_isI) (pc' := 62) rfl rfl rfl rfl rfl ?_
          refine zw_ld (n := 1) (k := 0) (f := zp_isI) (pc' := 63) rfl rfl zw_g1 rfl rfl ?_
          refine zw_s (pc' := 64) rfl rfl ?_
          refine zw_ble2 (g := 74) (pc' := 67) rfl rfl rfl rfl (rfl : _ = (4 : Int)) (fun hb4 => ?_) (fun hb4 => ?_)
          · have hz4 : zq_n4 (zq_us (zq_us (((Int32.ofNat (n + 1) ^^^ Int32.ofInt (-1)) &&& (Int32.ofNat (n + 1) - Int32.ofInt 1))) (Int32.ofInt 16)) (Int32.ofInt 4)) (Int32.ofInt 1 + Int32.ofInt 16 + Int32.ofInt 4) = zq_n5 (zq_us (zq_us (((Int32.ofNat (n + 1) ^^^ Int32.ofInt (-1)) &&& (Int32.ofNat (n + 1) - Int32.ofInt 1))) (Int32.ofInt 16)) (Int32.ofInt 4)) (Int32.ofInt 1 + Int32.ofInt 16 + Int32.ofInt 4) := if_pos hb4
            refine zw_ld (n := 1) (k := 1) (f := zp_isI) (pc' := 75) rfl rfl (zw_gt zw_g1 rfl rfl) rfl rfl ?_
            refine zw_ld (n := 1) (k := 0) (f := zp_isI) (pc' := 76) rfl rfl zw_g1 rfl rfl ?_
            refine zw_s (pc' := 77) rfl rfl ?_
            refine zw_s (pc' := 78) rfl rfl ?_
            refine zw_iadd (pc' := 79) rfl rfl ?_
            refine zw_ri rfl rfl ?_
            have hr := zq_ntz_ok hn
            rw [hz0, hz1, hz2, hz3, hz4] at hr
            exact ⟨_, rfl, hr⟩
          · have hz4 : zq_n4 (zq_us (zq_us (((Int32.ofNat (n + 1) ^^^ Int32.ofInt (-1)) &&& (Int32.ofNat (n + 1) - Int32.ofInt 1))) (Int32.ofInt 16)) (Int32.ofInt 4)) (Int32.ofInt 1 + Int32.ofInt 16 + Int32.ofInt 4) = zq_n5 (zq_us (zq_us (zq_us (((Int32.ofNat (n + 1) ^^^ Int32.ofInt (-1)) &&& (Int32.ofNat (n + 1) - Int32.ofInt 1))) (Int32.ofInt 16)) (Int32.ofInt 4)) (Int32.ofInt 2)) (Int32.ofInt 1 + Int32.ofInt 16 + Int32.ofInt 4 + Int32.ofInt 2) := if_neg (Int.not_le.mpr hb4)
            refine zw_ii (pc' := 70) rfl (zw_gt zw_g1 rfl rfl) rfl rfl ?_
            refine zw_ld (n := 1) (k := 0) (f := zp_isI) (pc' := 71) rfl rfl (zw_gt zw_g1 rfl rfl) rfl rfl ?_
            refine zw_s (pc' := 72) rfl rfl ?_
            refine zw_s (pc' := 73) rfl rfl ?_
            refine zw_st (n := 1) (k := 0) (f := zp_isI) (pc' := 74) rfl rfl rfl rfl rfl ?_
            refine zw_ld (n := 1) (k := 1) (f := zp_isI) (pc' := 75) rfl rfl (zw_gt zw_g1 rfl rfl) rfl rfl ?_
            refine zw_ld (n := 1) (k := 0) (f := zp_isI) (pc' := 76) rfl rfl zw_g1 rfl rfl ?_
            refine zw_s (pc' := 77) rfl rfl ?_
            refine zw_s (pc' := 78) rfl rfl ?_
            refine zw_iadd (pc' := 79) rfl rfl ?_
            refine zw_ri rfl rfl ?_
            have hr := zq_ntz_ok hn
            rw [hz0, hz1, hz2, hz3, hz4] at hr
            exact ⟨_, rfl, hr⟩
      · have hz2 : zq_n2 (zq_us (((Int32.ofNat (n + 1) ^^^ Int32.ofInt (-1)) &&& (Int32.ofNat (n + 1) - Int32.ofInt 1))) (Int32.ofInt 16)) (Int32.ofInt 1 + Int32.ofInt 16) = zq_n3 (zq_us (zq_us (((Int32.ofNat (n + 1) ^^^ Int32.ofInt (-1)) &&& (Int32.ofNat (n + 1) - Int32.ofInt 1))) (Int32.ofInt 16)) (Int32.ofInt 8)) (Int32.ofInt 1 + Int32.ofInt 16 + Int32.ofInt 8) := if_neg (Int.not_le.mpr hb2)
        refine zw_ii (pc' := 44) rfl (zw_gt zw_g1 rfl rfl) rfl rfl ?_
        refine zw_ld (n := 1) (k := 0) (f := zp_isI) (pc' := 45) rfl rfl (zw_gt zw_g1 rfl rfl) rfl rfl ?_
        refine zw_s (pc' := 47) rfl rfl ?_
        refine zw_s (pc' := 48) rfl rfl ?_
        refine zw_st (n := 1) (k := 0) (f := zp_isI) (pc' := 49) rfl rfl rfl rfl rfl ?_
        refine zw_ld (n := 1) (k := 0) (f := zp_isI) (pc' := 50) rfl rfl zw_g1 rfl rfl ?_
        refine zw_s (pc' := 52) rfl rfl ?_
        refine zw_ble2 (g := 62) (pc' := 55) rfl rfl rfl rfl (rfl : _ = (16 : Int)) (fun hb3 => ?_) (fun hb3 => ?_)
        · have hz3 : zq_n3 (zq_us (zq_us (((Int32.ofNat (n + 1) ^^^ Int32.ofInt (-1)) &&& (Int32.ofNat (n + 1) - Int32.ofInt 1))) (Int32.ofInt 16)) (Int32.ofInt 8)) (Int32.ofInt 1 + Int32.ofInt 16 + Int32.ofInt 8) = zq_n4 (zq_us (zq_us (((Int32.ofNat (n + 1) ^^^ Int32.ofInt (-1)) &&& (Int32.ofNat (n + 1) - Int32.ofInt 1))) (Int32.ofInt 16)) (Int32.ofInt 8)) (Int32.ofInt 1 + Int32.ofInt 16 + Int32.ofInt 8) := if_pos hb3
          refine zw_ld (n := 1) (k := 0) (f := zp_isI) (pc' := 63) rfl rfl zw_g1 rfl rfl ?_
          refine zw_s (pc' := 64) rfl rfl ?_
          refine zw_ble2 (g := 74) (pc' := 67) rfl rfl rfl rfl (rfl : _ = (4 : Int)) (fun hb4 => ?_) (fun hb4 => ?_)
          · have hz4 : zq_n4 (zq_us (zq_us (((Int32.ofNat (n + 1) ^^^ Int32.ofInt (-1)) &&& (Int32.ofNat (n + 1) - Int32.ofInt 1))) (Int32.ofInt 16)) (Int32.ofInt 8)) (Int32.ofInt 1 + Int32.ofInt 16 + Int32.ofInt 8) = zq_n5 (zq_us (zq_us (((Int32.ofNat (n + 1) ^^^ Int32.ofInt (-1)) &&& (Int32.ofNat (n + 1) - Int32.ofInt 1))) (Int32.ofInt 16)) (Int32.ofInt 8)) (Int32.ofInt 1 + Int32.ofInt 16 + Int32.ofInt 8) := if_pos hb4
            refine zw_ld (n := 1) (k := 1) (f := zp_isI) (pc' := 75) rfl rfl (zw_gt zw_g1 rfl rfl) rfl rfl ?_
            refine zw_ld (n := 1) (k := 0) (f := zp_isI) (pc' := 76) rfl rfl zw_g1 rfl rfl ?_
            refine zw_s (pc' := 77) rfl rfl ?_
            refine zw_s (pc' := 78) rfl rfl ?_
            refine zw_iadd (pc' := 79) rfl rfl ?_
            refine zw_ri rfl rfl ?_
            have hr := zq_ntz_ok hn
            rw [hz0, hz1, hz2, hz3, hz4] at hr
            exact ⟨_, rfl, hr⟩
          · have hz4 : zq_n4 (zq_us (zq_us (((Int32.ofNat (n + 1) ^^^ Int32.ofInt (-1)) &&& (Int32.ofNat (n + 1) - Int32.ofInt 1))) (Int32.ofInt 16)) (Int32.ofInt 8)) (Int32.ofInt 1 + Int32.ofInt 16 + Int32.ofInt 8) = zq_n5 (zq_us (zq_us (zq_us (((Int32.ofNat (n + 1) ^^^ Int32.ofInt (-1)) &&& (Int32.ofNat (n + 1) - Int32.ofInt 1))) (Int32.ofInt 16)) (Int32.ofInt 8)) (Int32.ofInt 2)) (Int32.ofInt 1 + Int32.ofInt 16 + Int32.ofInt 8 + Int32.ofInt 2) := if_neg (Int.not_le.mpr hb4)
            refine zw_ii (pc' := 70) rfl (zw_gt zw_g1 rfl rfl) rfl rfl ?_
            refine zw_ld (n := 1) (k := 0) (f := zp_isI) (pc' := 71) rfl rfl (zw_gt zw_g1 rfl rfl) rfl rfl ?_
            refine zw_s (pc' := 72) rfl rfl ?_
            refine zw_s (pc' := 73) rfl rfl ?_
            refine zw_st (n := 1) (k := 0) (f := zp_isI) (pc' := 74) rfl rfl rfl rfl rfl ?_
            refine zw_ld (n := 1) (k := 1) (f := zp_isI) (pc' := 75) rfl rfl (zw_gt zw_g1 rfl rfl) rfl rfl ?_
            refine zw_ld (n := 1) (k := 0) (f := zp_isI) (pc' := 76) rfl rfl zw_g1 rfl rfl ?_
            refine zw_s (pc' := 77) rfl rfl ?_
            refine zw_s (pc' := 78) rfl rfl ?_
            refine zw_iadd (pc' := 79) rfl rfl ?_
            refine zw_ri rfl rfl ?_
            have hr := zq_ntz_ok hn
            rw [hz0, hz1, hz2, hz3, hz4] at hr
            exact ⟨_, rfl, hr⟩
        · have hz3 : zq_n3 (zq_us (zq_us (((Int32.ofNat (n + 1) ^^^ Int32.ofInt (-1)) &&& (Int32.ofNat (n + 1) - Int32.ofInt 1))) (Int32.ofInt 16)) (Int32.ofInt 8)) (Int32.ofInt 1 + Int32.ofInt 16 + Int32.ofInt 8) = zq_n4 (zq_us (zq_us (zq_us (((Int32.ofNat (n + 1) ^^^ Int32.ofInt (-1)) &&& (Int32.ofNat (n + 1) - Int32.ofInt 1))) (Int32.ofInt 16)) (Int32.ofInt 8)) (Int32.ofInt 4)) (Int32.ofInt 1 + Int32.ofInt 16 + Int32.ofInt 8 + Int32.ofInt 4) := if_neg (Int.not_le.mpr hb3)
          refine zw_ii (pc' := 58) rfl (zw_gt zw_g1 rfl rfl) rfl rfl ?_
          refine zw_ld (n := 1) (k := 0) (f := zp_isI) (pc' := 59) rfl rfl (zw_gt zw_g1 rfl rfl) rfl rfl ?_
          refine zw_s (pc' := 60) rfl rfl ?_
          refine zw_s (pc' := 61) rfl rfl ?_
          refine zw_st (n := 1) (k := 0) (f := zp_isI) (pc' := 62) rfl rfl rfl rfl rfl ?_
          refine zw_ld (n := 1) (k := 0) (f := zp_isI) (pc' := 63) rfl rfl zw_g1 rfl rfl ?_
          refine zw_s (pc' := 64) rfl rfl ?_
          refine zw_ble2 (g := 74) (pc' := 67) rfl rfl rfl rfl (rfl : _ = (4 : Int)) (fun hb4 => ?_) (fun hb4 => ?_)
          · have hz4 : zq_n4 (zq_us (zq_us (zq_us (((Int32.ofNat (n + 1) ^^^ Int32.ofInt (-1)) &&& (Int32.ofNat (n + 1) - Int32.ofInt 1))) (Int32.ofInt 16)) (Int32.ofInt 8)) (Int32.ofInt 4)) (Int32.ofInt 1 + Int32.ofInt 16 + Int32.ofInt 8 + Int32.ofInt 4) = zq_n5 (zq_us (zq_us (zq_us (((Int32.ofNat (n + 1) ^^^ Int32.ofInt (-1)) &&& (Int32.ofNat (n + 1) - Int32.ofInt 1))) (Int32.ofInt 16)) (Int32.ofInt 8)) (Int32.ofInt 4)) (Int32.ofInt 1 + Int32.ofInt 16 + Int32.ofInt 8 + Int32.ofInt 4) := if_pos hb4
            refine zw_ld (n := 1) (k := 1) (f := zp_isI) (pc' := 75) rfl rfl (zw_gt zw_g1 rfl rfl) rfl rfl ?_
            refine zw_ld (n := 1) (k := 0) (f := zp_isI) (pc' := 76) rfl rfl zw_g1 rfl rfl ?_
            refine zw_s (pc' := 77) rfl rfl ?_
            refine zw_s (pc' := 78) rfl rfl ?_
            refine zw_iadd (pc' := 79) rfl rfl ?_
            refine zw_ri rfl rfl ?_
            have hr := zq_ntz_ok hn
            rw [hz0, hz1, hz2, hz3, hz4] at hr
            exact ⟨_, rfl, hr⟩
          · have hz4 : zq_n4 (zq_us (zq_us (zq_us (((Int32.ofNat (n + 1) ^^^ Int32.ofInt (-1)) &&& (Int32.ofNat (n + 1) - Int32.ofInt 1))) (Int32.ofInt 16)) (Int32.ofInt 8)) (Int32.ofInt 4)) (Int32.ofInt 1 + Int32.ofInt 16 + Int32.ofInt 8 + Int32.ofInt 4) = zq_n5 (zq_us (zq_us (zq_us (zq_us (((Int32.ofNat (n + 1) ^^^ Int32.ofInt (-1)) &&& (Int32.ofNat (n + 1) - Int32.ofInt 1))) (Int32.ofInt 16)) (Int32.ofInt 8)) (Int32.ofInt 4)) (Int32.ofInt 2)) (Int32.ofInt 1 + Int32.ofInt 16 + Int32.ofInt 8 + Int32.ofInt 4 + Int32.ofInt 2) := if_neg (Int.not_le.mpr hb4)
            refine zw_ii (pc' := 70) rfl (zw_gt zw_g1 rfl rfl) rfl rfl ?_
            refine zw_ld (n := 1) (k := 0) (f := zp_isI) (pc' := 71) rfl rfl (zw_gt zw_g1 rfl rfl) rfl rfl ?_
            refine zw_s (pc' := 72) rfl rfl ?_
            refine zw_s (pc' := 73) rfl rfl ?_
            refine zw_st (n := 1) (k := 0) (f := zp_isI) (pc' := 74) rfl rfl rfl rfl rfl ?_
            refine zw_ld (n := 1) (k := 1) (f := zp_isI) (pc' := 75) rfl rfl (zw_gt zw_g1 rfl rfl) rfl rfl ?_
            refine zw_ld (n := 1) (k := 0) (f := zp_isI) (pc' := 76) rfl rfl zw_g1 rfl rfl ?_
            refine zw_s (pc' := 77) rfl rfl ?_
            refine zw_s (pc' := 78) rfl rfl ?_
            refine zw_iadd (pc' := 79) rfl rfl ?_
            refine zw_ri rfl rfl ?_
            have hr := zq_ntz_ok hn
            rw [hz0, hz1, hz2, hz3, hz4] at hr
            exact ⟨_, rfl, hr⟩
  · have hz0 : zq_n0 (Int32.ofNat (n + 1)) = ((Int32.ofNat (n + 1) ^^^ Int32.ofInt (-1)) &&& (Int32.ofNat (n + 1) - Int32.ofInt 1)) &&& Int32.ofInt 32 := if_neg (Int.not_lt.mpr hb0)
    refine zw_ld (n := 1) (k := 0) (f := zp_isI) (pc' := 13) rfl rfl zw_g1 rfl rfl ?_
    refine zw_s (pc' := 15) rfl rfl ?_
    refine zw_iand (pc' := 16) rfl rfl ?_
    refine zw_ri rfl rfl ?_
    have hr := zq_ntz_ok hn
    rw [hz0] at hr
    exact ⟨_, rfl, hr⟩

theorem zhc_4 {L : Nat} {σ : Nat → Int32} : zk_Ct L σ zB zg zJc ze_h4 := by
  intro d hd as H ha hB hp
  have hd : 1 ≤ d := hd
  obtain ⟨d0, rfl⟩ : ∃ d0, d = d0 + 1 := ⟨d - 1, by omega⟩
  match as, ha with
  | [.inl x], ha =>
    obtain ⟨_, c1, v, rfl, c2⟩ := zn_ntz (L := L) (σ := σ) (d := d0) (H := H) (x := x) ha.1
    exact ⟨_, c1, hB, zk_Fr_r H, _, List.mem_cons_self, c2, fun f hf => absurd hf List.not_mem_nil, fun f hf => absurd hf List.not_mem_nil⟩
