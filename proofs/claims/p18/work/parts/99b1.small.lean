/-! ===== the class: small questions, exactly ===== -/
def zm_74 : za_MI := (yX9_isWay, prog_11_method_10_code, 1, (some FieldType.boolean), 9, 0, 0, [], za_i74)
theorem zm_74_t : za_MT 74 = some zm_74 := rfl
def zm_86 : za_MI := (yX9_isSign, prog_11_method_11_code, 2, (some FieldType.boolean), 9, 0, 0, [], za_i86)
theorem zm_86_t : za_MT 86 = some zm_86 := rfl
def zm_87 : za_MI := (yX2_refuse, prog_4_method_3_code, 2, (some FieldType.boolean), 2, 0, 0, [], za_i87)
theorem zm_87_t : za_MT 87 = some zm_87 := rfl
def zm_90 : za_MI := (yX9_isWord, prog_11_method_9_code, 2, (some FieldType.boolean), 9, 0, 0, [], za_i90)
theorem zm_90_t : za_MT 90 = some zm_90 := rfl
def yE (T : Nat → Int) (n p : Nat) (H : zp_H) : Prop := yc_Z T n H ∧ yc_k T n p H ∧ p ≤ n
def yx_m : List (Nat × Nat) := [(52, 2), (52, 3), (52, 4), (52, 5), (53, 1), (53, 2)]
theorem ys_wl_b {T : Nat → Int} {s e : Nat} : ∀ (f i : Nat), f + i < 102 → 0 ≤ ys_wl T s e f i ∧ ys_wl T s e f i ≤ 21
  | 0, i, h => zq_sp_b (by omega)
  | f + 1, i, h => by
    unfold ys_wl
    split
    · exact zq_sp_b (by omega)
    · exact ys_wl_b f (i + 1) (by omega)
theorem ys_vl_w {T : Nat → Int} {n p : Nat} (h : ys_kd T n p = 3) : ys_st T n p < n ∧ ys_L (T (ys_st T n p)) = true ∧ ys_vl T n p = ys_wi T (ys_st T n p) (ys_nx T n p) := by
  unfold ys_kd ys_ks at h
  by_cases h1 : n ≤ ys_st T n p
  · rw [if_pos h1] at h
    omega
  · rw [if_neg h1] at h
    cases hL : ys_L (T (ys_st T n p)) with
    | true =>
      refine ⟨by omega, rfl, ?_⟩
      unfold ys_vl ys_vs
      rw [hL]
      rfl
    | false =>
      rw [hL] at h
      cases hD : ys_D (T (ys_st T n p)) with
      | true => rw [hD] at h; exact absurd (show (2 : Int) = 3 from h) (by decide)
      | false =>
        rw [hD] at h
        cases hG : ys_G (T (ys_st T n p)) with
        | true => rw [hG] at h; exact absurd h (by decide)
        | false => rw [hG] at h; exact absurd h (by decide)
theorem ys_vl_b {T : Nat → Int} {n p : Nat} (h : ys_kd T n p = 3) : 0 ≤ ys_vl T n p ∧ ys_vl T n p ≤ 21 := by
  rw [(ys_vl_w h).2.2]
  exact ys_wl_b 101 0 (by decide)
theorem yE_B {T : Nat → Int} {n p : Nat} {H : zp_H} (h : yE T n p H) : zk_Bs zB zg zJc H := by
  refine zB_up h.1.1 (fun h9 => ?_)
  have h3 : ys_kd T n p = 3 := h.2.1.2.2.1.symm.trans h9
  rw [h.2.1.2.2.2 (by omega)]
  exact ys_vl_b h3
theorem yE_c {T : Nat → Int} {n p : Nat} {H H1 : zp_H} (h : yE T n p H) (hB : zk_Bs zB0 zg zJc H1) (e1 : H1.2.1 52 = H.2.1 52) (e2 : H1.2.1 1 = H.2.1 1) : yE T n p H1 := by
  refine ⟨⟨hB, h.1.2.1, ?_, ?_⟩, ?_, h.2.2⟩
  · rw [e1]; exact h.1.2.2.1
  · rw [e2]; exact h.1.2.2.2
  · unfold yc_k
    rw [e1]
    exact h.2.1
theorem yE_4 {T : Nat → Int} {n p : Nat} {H : zp_H} (h : yE T n p H) : (H.2.1 52 4).toInt = ys_kd T n p := h.2.1.2.2.1
theorem yE_5 {T : Nat → Int} {n p : Nat} {H : zp_H} (h : yE T n p H) (hk : ys_kd T n p ≠ 0) : (H.2.1 52 5).toInt = ys_vl T n p := h.2.1.2.2.2 hk
/-- put and putDone do the tokens nothing -/
def zm_95 : za_MI := (yX2_put, prog_4_method_4_code, 3, none, 2, 0, 0, [], za_i95)
theorem zm_95_t : za_MT 95 = some zm_95 := rfl
def zm_96 : za_MI := (yX2_putDone, prog_4_method_5_code, 3, none, 2, 0, 0, [], za_i96)
theorem zm_96_t : za_MT 96 = some zm_96 := rfl
theorem y_neg {x : Int32} : (Int32.ofInt (-1) - x).toInt = -1 - x.toInt := by
  have h1 := Int32.le_toInt x
  have h2 := Int32.toInt_le x
  rw [Int32.toInt_sub, show (Int32.ofInt (-1)).toInt = -1 by decide]
  have h : (2 ^ 32 : Nat) = 4294967296 := by decide
  rw [Int.bmod_def, h]
  have h1 : (-2147483648 : Int) ≤ x.toInt := h1
  have h2 : x.toInt ≤ (2147483647 : Int) := h2
  by_cases h9 : (-1 - x.toInt) % ((4294967296 : Nat) : Int) < (((4294967296 : Nat) : Int) + 1) / 2
  · rw [if_pos h9]
    omega
  · rw [if_neg h9]
    omega
theorem yc_sm {wa : Nat} {H H1 : zp_H} (hw : wa = 12 ∨ wa = 32) (h : ∀ p k, p ≠ 52 → p ≠ 72 → H1.2.1 p k = H.2.1 p k) : xSmw wa H H1 := ⟨h 53 1 (by decide) (by decide), fun k => h wa k (by omega) (by omega)⟩
theorem xSmw_t {wa : Nat} {H0 H H1 : zp_H} (h1 : xSmw wa H0 H) (h2 : xSmw wa H H1) : xSmw wa H0 H1 := ⟨h2.1.trans h1.1, fun k => (h2.2 k).trans (h1.2 k)⟩
theorem zk_n52 {mods : List (Nat × Nat)} {p k : Nat} (hm : mods.all (fun q => Nat.beq q.1 52) = true) (hp : p ≠ 52) : zk_inm mods p k = false := by
  cases hq : zk_inm mods p k with
  | false => rfl
  | true =>
    obtain ⟨q, q1, q2⟩ := List.any_eq_true.mp hq
    have h1 : q.1 = 52 := za_beq (show Nat.beq q.1 52 = true from List.all_eq_true.mp hm q q1)
    have h2 : q.1 = p := za_beq (Bool.and_eq_true_iff.mp q2).1
    exact absurd (h2.symm.trans h1) hp
theorem yx_95_12 {L : Nat} {σ : Nat → Int32} {d : Nat} {H : zp_H} {x : Int32} (W : zw_W H) (h : 0 ≤ (H.2.1 53 1).toInt ∧ (H.2.1 53 1).toInt < 700) : zp_Call L σ (d + 1) 95 [.inr (.inr (some 54)), .inr (.inr (some 3)), .inl x] H (.inl none, zw_I (zw_I H 12 (H.2.1 53 1).toInt.toNat x) 53 1 (H.2.1 53 1 + Int32.ofInt 1)) := by
  refine zw_ex (zw_met zm_95_t rfl rfl ?_)
  refine zw_ld (n := 1) (k := 0) (f := zp_isR) (pc' := 1) rfl rfl rfl rfl rfl ?_
  refine zw_gI (q := 53) (pc' := 4) W rfl rfl rfl rfl rfl rfl ?_
  refine zw_ld (n := 1) (k := 1) (f := zp_isR) (pc' := 5) rfl rfl rfl rfl rfl ?_
  refine zw_gR (q := 2) (pc' := 8) W rfl rfl rfl rfl (W.2 2 19 _ rfl) rfl ?_
  refine zw_al (q := 12) (pc' := 9) W rfl rfl rfl ?_
  refine zw_bge2 (g := 32) (pc' := 12) rfl rfl rfl rfl (rfl : _ = (700 : Int)) (fun h1 => ?_) (fun h1 => ?_)
  · have h1 : ((700 : Nat) : Int) ≤ (H.2.1 53 1).toInt := h1
    omega
  · refine zw_ld (n := 1) (k := 1) (f := zp_isR) (pc' := 13) rfl rfl rfl rfl rfl ?_
    refine zw_gR (q := 2) (pc' := 16) W rfl rfl rfl rfl (W.2 2 19 _ rfl) rfl ?_
    refine zw_ld (n := 1) (k := 0) (f := zp_isR) (pc' := 17) rfl rfl rfl rfl rfl ?_
    refine zw_gI (q := 53) (pc' := 20) W rfl rfl rfl rfl rfl rfl ?_
    refine zw_ld (n := 1) (k := 2) (f := zp_isI) (pc' := 21) rfl rfl rfl rfl rfl ?_
    refine zw_is (q := 12) (pc' := 22) W rfl rfl (by decide) (⟨h.1, by show _ < ((700 : Nat) : Int); omega⟩) rfl ?_
    refine zw_ld (n := 1) (k := 0) (f := zp_isR) (pc' := 23) rfl rfl rfl rfl rfl ?_
    refine zw_s (pc' := 24) rfl rfl ?_
    refine zw_gI (q := 53) (pc' := 27) (zw_W_I W) rfl rfl rfl rfl (zw_ne rfl rfl) rfl ?_
    refine zw_s (pc' := 28) rfl rfl ?_
    refine zw_iadd (pc' := 29) rfl rfl ?_
    refine zw_pI (q := 53) (pc' := 32) (zw_W_I W) rfl rfl rfl rfl rfl rfl ?_
    refine zw_rn rfl rfl ?_
    rfl

theorem yx_p95_12 {L : Nat} {σ : Nat → Int32} {d : Nat} {H H1 : zp_H} {x : Int32} (W : zw_W H) (h : zp_Call L σ (d + 1) 95 [.inr (.inr (some 54)), .inr (.inr (some 3)), .inl x] H (.inl none, H1)) : xPut 12 x.toInt H H1 := fun h0 h7 => by
  have e := zp_Call_u h (yx_95_12 (d := d) (x := x) W ⟨h0, h7⟩)
  cases e
  refine ⟨(congrArg Int32.toInt zw_eq).trans (zw_p1 (by omega)), fun k hk => ?_, ?_⟩
  · exact zw_ne (zp_u_ne (fun h9 => hk h9.2)) rfl
  · exact congrArg Int32.toInt ((zw_ne rfl rfl).trans (zp_u_self H.2.1 12 _ x))
theorem yx_96_12 {L : Nat} {σ : Nat → Int32} {d : Nat} {H : zp_H} {x : Int32} (W : zw_W H) (h : 0 ≤ (H.2.1 53 1).toInt ∧ (H.2.1 53 1).toInt < 700) : zp_Call L σ (d + 2) 96 [.inr (.inr (some 54)), .inr (.inr (some 3)), .inl x] H (.inl none, zw_I (zw_I H 12 (H.2.1 53 1).toInt.toNat (Int32.ofInt (-1) - x)) 53 1 (H.2.1 53 1 + Int32.ofInt 1)) := by
  refine zw_ex (zw_met zm_96_t rfl rfl ?_)
  refine zw_ld (n := 1) (k := 0) (f := zp_isR) (pc' := 1) rfl rfl rfl rfl rfl ?_
  refine zw_ld (n := 1) (k := 1) (f := zp_isR) (pc' := 2) rfl rfl rfl rfl rfl ?_
  refine zw_s (pc' := 3) rfl rfl ?_
  refine zw_ld (n := 1) (k := 2) (f := zp_isI) (pc' := 4) rfl rfl rfl rfl rfl ?_
  refine zw_isub (pc' := 5) rfl rfl ?_
  refine zw_cn (pc' := 8) (zw_cv (q := 53) (Y := zm_95) W.1 rfl rfl zm_95_t rfl rfl) rfl rfl rfl rfl rfl (yx_95_12 W h) ?_
  refine zw_rn rfl rfl ?_
  rfl

theorem yx_p96_12 {L : Nat} {σ : Nat → Int32} {d : Nat} {H H1 : zp_H} {x : Int32} (W : zw_W H) (h : zp_Call L σ (d + 2) 96 [.inr (.inr (some 54)), .inr (.inr (some 3)), .inl x] H (.inl none, H1)) : xPut 12 (-1 - x.toInt) H H1 := fun h0 h7 => by
  have e := zp_Call_u h (yx_96_12 (d := d) (x := x) W ⟨h0, h7⟩)
  cases e
  refine ⟨(congrArg Int32.toInt zw_eq).trans (zw_p1 (by omega)), fun k hk => ?_, ?_⟩
  · exact zw_ne (zp_u_ne (fun h9 => hk h9.2)) rfl
  · exact (congrArg Int32.toInt ((zw_ne rfl rfl).trans (zp_u_self H.2.1 12 _ _))).trans y_neg
theorem yx_95_32 {L : Nat} {σ : Nat → Int32} {d : Nat} {H : zp_H} {x : Int32} (W : zw_W H) (h : 0 ≤ (H.2.1 53 1).toInt ∧ (H.2.1 53 1).toInt < 700) : zp_Call L σ (d + 1) 95 [.inr (.inr (some 54)), .inr (.inr (some 23)), .inl x] H (.inl none, zw_I (zw_I H 32 (H.2.1 53 1).toInt.toNat x) 53 1 (H.2.1 53 1 + Int32.ofInt 1)) := by
  refine zw_ex (zw_met zm_95_t rfl rfl ?_)
  refine zw_ld (n := 1) (k := 0) (f := zp_isR) (pc' := 1) rfl rfl rfl rfl rfl ?_
  refine zw_gI (q := 53) (pc' := 4) W rfl rfl rfl rfl rfl rfl ?_
  refine zw_ld (n := 1) (k := 1) (f := zp_isR) (pc' := 5) rfl rfl rfl rfl rfl ?_
  refine zw_gR (q := 22) (pc' := 8) W rfl rfl rfl rfl (W.2 22 19 _ rfl) rfl ?_
  refine zw_al (q := 32) (pc' := 9) W rfl rfl rfl ?_
  refine zw_bge2 (g := 32) (pc' := 12) rfl rfl rfl rfl (rfl : _ = (700 : Int)) (fun h1 => ?_) (fun h1 => ?_)
  · have h1 : ((700 : Nat) : Int) ≤ (H.2.1 53 1).toInt := h1
    omega
  · refine zw_ld (n := 1) (k := 1) (f := zp_isR) (pc' := 13) rfl rfl rfl rfl rfl ?_
    refine zw_gR (q := 22) (pc' := 16) W rfl rfl rfl rfl (W.2 22 19 _ rfl) rfl ?_
    refine zw_ld (n := 1) (k := 0) (f := zp_isR) (pc' := 17) rfl rfl rfl rfl rfl ?_
    refine zw_gI (q := 53) (pc' := 20) W rfl rfl rfl rfl rfl rfl ?_
    refine zw_ld (n := 1) (k := 2) (f := zp_isI) (pc' := 21) rfl rfl rfl rfl rfl ?_
    refine zw_is (q := 32) (pc' := 22) W rfl rfl (by decide) (⟨h.1, by show _ < ((700 : Nat) : Int); omega⟩) rfl ?_
    refine zw_ld (n := 1) (k := 0) (f := zp_isR) (pc' := 23) rfl rfl rfl rfl rfl ?_
    refine zw_s (pc' := 24) rfl rfl ?_
    refine zw_gI (q := 53) (pc' := 27) (zw_W_I W) rfl rfl rfl rfl (zw_ne rfl rfl) rfl ?_
    refine zw_s (pc' := 28) rfl rfl ?_
    refine zw_iadd (pc' := 29) rfl rfl ?_
    refine zw_pI (q := 53) (pc' := 32) (zw_W_I W) rfl rfl rfl rfl rfl rfl ?_
    refine zw_rn rfl rfl ?_
    rfl

theorem yx_p95_32 {L : Nat} {σ : Nat → Int32} {d : Nat} {H H1 : zp_H} {x : Int32} (W : zw_W H) (h : zp_Call L σ (d + 1) 95 [.inr (.inr (some 54)), .inr (.inr (some 23)), .inl x] H (.inl none, H1)) : xPut 32 x.toInt H H1 := fun h0 h7 => by
  have e := zp_Call_u h (yx_95_32 (d := d) (x := x) W ⟨h0, h7⟩)
  cases e
  refine ⟨(congrArg Int32.toInt zw_eq).trans (zw_p1 (by omega)), fun k hk => ?_, ?_⟩
  · exact zw_ne (zp_u_ne (fun h9 => hk h9.2)) rfl
  · exact congrArg Int32.toInt ((zw_ne rfl rfl).trans (zp_u_self H.2.1 32 _ x))
theorem yx_96_32 {L : Nat} {σ : Nat → Int32} {d : Nat} {H : zp_H} {x : Int32} (W : zw_W H) (h : 0 ≤ (H.2.1 53 1).toInt ∧ (H.2.1 53 1).toInt < 700) : zp_Call L σ (d + 2) 96 [.inr (.inr (some 54)), .inr (.inr (some 23)), .inl x] H (.inl none, zw_I (zw_I H 32 (H.2.1 53 1).toInt.toNat (Int32.ofInt (-1) - x)) 53 1 (H.2.1 53 1 + Int32.ofInt 1)) := by
  refine zw_ex (zw_met zm_96_t rfl rfl ?_)
  refine zw_ld (n := 1) (k := 0) (f := zp_isR) (pc' := 1) rfl rfl rfl rfl rfl ?_
  refine zw_ld (n := 1) (k := 1) (f := zp_isR) (pc' := 2) rfl rfl rfl rfl rfl ?_
  refine zw_s (pc' := 3) rfl rfl ?_
  refine zw_ld (n := 1) (k := 2) (f := zp_isI) (pc' := 4) rfl rfl rfl rfl rfl ?_
  refine zw_isub (pc' := 5) rfl rfl ?_
  refine zw_cn (pc' := 8) (zw_cv (q := 53) (Y := zm_95) W.1 rfl rfl zm_95_t rfl rfl) rfl rfl rfl rfl rfl (yx_95_32 W h) ?_
  refine zw_rn rfl rfl ?_
  rfl

theorem yx_p96_32 {L : Nat} {σ : Nat → Int32} {d : Nat} {H H1 : zp_H} {x : Int32} (W : zw_W H) (h : zp_Call L σ (d + 2) 96 [.inr (.inr (some 54)), .inr (.inr (some 23)), .inl x] H (.inl none, H1)) : xPut 32 (-1 - x.toInt) H H1 := fun h0 h7 => by
  have e := zp_Call_u h (yx_96_32 (d := d) (x := x) W ⟨h0, h7⟩)
  cases e
  refine ⟨(congrArg Int32.toInt zw_eq).trans (zw_p1 (by omega)), fun k hk => ?_, ?_⟩
  · exact zw_ne (zp_u_ne (fun h9 => hk h9.2)) rfl
  · exact (congrArg Int32.toInt ((zw_ne rfl rfl).trans (zp_u_self H.2.1 32 _ _))).trans y_neg
def yc_P (L : Nat) (σ : Nat → Int32) (wr : Nat) (wa : Nat) : Prop := (wa = 12 ∨ wa = 32) ∧ (∀ (d : Nat) (H : zp_H) (x : Int32), zk_Bs zB zg zJc H → ∃ H1, zp_Call L σ (d + 2) 96 [.inr (.inr (some 54)), .inr (.inr (some wr)), .inl x] H (.inl none, H1) ∧ zk_Bs zB zg zJc H1 ∧ zk_Fr zg [(53, 1)] [wa] H H1 ∧ xPut wa (-1 - x.toInt) H H1) ∧ (∀ (d : Nat) (H : zp_H) (x : Int32), zk_Bs zB zg zJc H → ∃ H1, zp_Call L σ (d + 1) 95 [.inr (.inr (some 54)), .inr (.inr (some wr)), .inl x] H (.inl none, H1) ∧ zk_Bs zB zg zJc H1 ∧ zk_Fr zg [(53, 1)] [wa] H H1 ∧ xPut wa x.toInt H H1)
def yc_e95_12 : zk_T := (95, [.inr (some (some 54)), .inr (some (some 3)), .inl ((-2147483648), 2147483647)], [], [(53, 1)], [12], [(.inl none, [], [])], 1)
theorem yc_t95_12 : zk_chk zB zB_fz [] [] 5000 yc_e95_12 = true := by decide +kernel
theorem yc_c95_12 {L : Nat} {σ : Nat → Int32} (d : Nat) (H : zp_H) (x : Int32) (hB : zk_Bs zB zg zJc H) : ∃ H1, zp_Call L σ (d + 1) 95 [.inr (.inr (some 54)), .inr (.inr (some 3)), .inl x] H (.inl none, H1) ∧ zk_Bs zB zg zJc H1 ∧ zk_Fr zg [(53, 1)] [12] H H1 := by
  have hct : zk_Ct L σ zB zg zJc yc_e95_12 := zk_chk_ok zB_W (fun _ h => absurd h List.not_mem_nil) yc_t95_12
  obtain ⟨⟨x1, H1⟩, c1, c2, c3, o, o1, o2, _⟩ := hct (d + 1) (Nat.le_add_left 1 d) [.inr (.inr (some 54)), .inr (.inr (some 3)), .inl x] H ⟨rfl, rfl, ⟨Int32.le_toInt _, Int32.toInt_le _⟩, trivial⟩ hB (fun f hf => absurd hf List.not_mem_nil)
  rcases List.mem_cons.mp o1 with rfl | o1
  · obtain rfl : x1 = .inl none := zk_rv_n o2
    exact ⟨H1, c1, c2, c3⟩
  · exact absurd o1 List.not_mem_nil
def yc_e96_12 : zk_T := (96, [.inr (some (some 54)), .inr (some (some 3)), .inl ((-2147483648), 2147483647)], [], [(53, 1)], [12], [(.inl none, [], [])], 2)
theorem yc_t96_12 : zk_chk zB zB_fz [] [] 5000 yc_e96_12 = true := by decide +kernel
theorem yc_c96_12 {L : Nat} {σ : Nat → Int32} (d : Nat) (H : zp_H) (x : Int32) (hB : zk_Bs zB zg zJc H) : ∃ H1, zp_Call L σ (d + 2) 96 [.inr (.inr (some 54)), .inr (.inr (some 3)), .inl x] H (.inl none, H1) ∧ zk_Bs zB zg zJc H1 ∧ zk_Fr zg [(53, 1)] [12] H H1 := by
  have hct : zk_Ct L σ zB zg zJc yc_e96_12 := zk_chk_ok zB_W (fun _ h => absurd h List.not_mem_nil) yc_t96_12
  obtain ⟨⟨x1, H1⟩, c1, c2, c3, o, o1, o2, _⟩ := hct (d + 2) (Nat.le_add_left 2 d) [.inr (.inr (some 54)), .inr (.inr (some 3)), .inl x] H ⟨rfl, rfl, ⟨Int32.le_toInt _, Int32.toInt_le _⟩, trivial⟩ hB (fun f hf => absurd hf List.not_mem_nil)
  rcases List.mem_cons.mp o1 with rfl | o1
  · obtain rfl : x1 = .inl none := zk_rv_n o2
    exact ⟨H1, c1, c2, c3⟩
  · exact absurd o1 List.not_mem_nil
theorem yc_P12 {L : Nat} {σ : Nat → Int32} : yc_P L σ 3 12 := ⟨Or.inl rfl, fun d H x h => by
  obtain ⟨H1, c1, c2, c3⟩ := yc_c96_12 (L := L) (σ := σ) d H x h
  exact ⟨H1, c1, c2, c3, yx_p96_12 (zB_Wd (zB_dn h)) c1⟩, fun d H x h => by
  obtain ⟨H1, c1, c2, c3⟩ := yc_c95_12 (L := L) (σ := σ) d H x h
  exact ⟨H1, c1, c2, c3, yx_p95_12 (zB_Wd (zB_dn h)) c1⟩⟩
def yc_e95_32 : zk_T := (95, [.inr (some (some 54)), .inr (some (some 23)), .inl ((-2147483648), 2147483647)], [], [(53, 1)], [32], [(.inl none, [], [])], 1)
theorem yc_t95_32 : zk_chk zB zB_fz [] [] 5000 yc_e95_32 = true := by decide +kernel
theorem yc_c95_32 {L : Nat} {σ : Nat → Int32} (d : Nat) (H : zp_H) (x : Int32) (hB : zk_Bs zB zg zJc H) : ∃ H1, zp_Call L σ (d + 1) 95 [.inr (.inr (some 54)), .inr (.inr (some 23)), .inl x] H (.inl none, H1) ∧ zk_Bs zB zg zJc H1 ∧ zk_Fr zg [(53, 1)] [32] H H1 := by
  have hct : zk_Ct L σ zB zg zJc yc_e95_32 := zk_chk_ok zB_W (fun _ h => absurd h List.not_mem_nil) yc_t95_32
  obtain ⟨⟨x1, H1⟩, c1, c2, c3, o, o1, o2, _⟩ := hct (d + 1) (Nat.le_add_left 1 d) [.inr (.inr (some 54)), .inr (.inr (some 23)), .inl x] H ⟨rfl, rfl, ⟨Int32.le_toInt _, Int32.toInt_le _⟩, trivial⟩ hB (fun f hf => absurd hf List.not_mem_nil)
  rcases List.mem_cons.mp o1 with rfl | o1
  · obtain rfl : x1 = .inl none := zk_rv_n o2
    exact ⟨H1, c1, c2, c3⟩
  · exact absurd o1 List.not_mem_nil
def yc_e96_32 : zk_T := (96, [.inr (some (some 54)), .inr (some (some 23)), .inl ((-2147483648), 2147483647)], [], [(53, 1)], [32], [(.inl none, [], [])], 2)
theorem yc_t96_32 : zk_chk zB zB_fz [] [] 5000 yc_e96_32 = true := by decide +kernel
theorem yc_c96_32 {L : Nat} {σ : Nat → Int32} (d : Nat) (H : zp_H) (x : Int32) (hB : zk_Bs zB zg zJc H) : ∃ H1, zp_Call L σ (d + 2) 96 [.inr (.inr (some 54)), .inr (.inr (some 23)), .inl x] H (.inl none, H1) ∧ zk_Bs zB zg zJc H1 ∧ zk_Fr zg [(53, 1)] [32] H H1 := by
  have hct : zk_Ct L σ zB zg zJc yc_e96_32 := zk_chk_ok zB_W (fun _ h => absurd h List.not_mem_nil) yc_t96_32
  obtain ⟨⟨x1, H1⟩, c1, c2, c3, o, o1, o2, _⟩ := hct (d + 2) (Nat.le_add_left 2 d) [.inr (.inr (some 54)), .inr (.inr (some 23)), .inl x] H ⟨rfl, rfl, ⟨Int32.le_toInt _, Int32.toInt_le _⟩, trivial⟩ hB (fun f hf => absurd hf List.not_mem_nil)
  rcases List.mem_cons.mp o1 with rfl | o1
  · obtain rfl : x1 = .inl none := zk_rv_n o2
    exact ⟨H1, c1, c2, c3⟩
  · exact absurd o1 List.not_mem_nil
theorem yc_P32 {L : Nat} {σ : Nat → Int32} : yc_P L σ 23 32 := ⟨Or.inr rfl, fun d H x h => by
  obtain ⟨H1, c1, c2, c3⟩ := yc_c96_32 (L := L) (σ := σ) d H x h
  exact ⟨H1, c1, c2, c3, yx_p96_32 (zB_Wd (zB_dn h)) c1⟩, fun d H x h => by
  obtain ⟨H1, c1, c2, c3⟩ := yc_c95_32 (L := L) (σ := σ) d H x h
  exact ⟨H1, c1, c2, c3, yx_p95_32 (zB_Wd (zB_dn h)) c1⟩⟩
theorem yE_P {T : Nat → Int} {n p wa : Nat} {H H1 : zp_H} (hw : wa = 12 ∨ wa = 32) (h : yE T n p H) (hB : zk_Bs zB zg zJc H1) (hF : zk_Fr zg [(53, 1)] [wa] H H1) : yE T n p H1 := by
  rcases hw with rfl | rfl
  · exact yE_c h (zB_dn hB) (zx_ae hF 52 (fun k => rfl) rfl rfl) (zx_ae hF 1 (fun k => rfl) rfl rfl)
  · exact yE_c h (zB_dn hB) (zx_ae hF 52 (fun k => rfl) rfl rfl) (zx_ae hF 1 (fun k => rfl) rfl rfl)
theorem yc_putD {L : Nat} {σ : Nat → Int32} {wr : Nat} {d : Nat} {T : Nat → Int} {n p wa : Nat} {H : zp_H} {x : Int32} (hP : yc_P L σ wr wa) (h : yE T n p H) : ∃ H1, zp_Call L σ (d + 2) 96 [.inr (.inr (some 54)), .inr (.inr (some wr)), .inl x] H (.inl none, H1) ∧ yE T n p H1 ∧ zk_Fr zg yx_m [wa] H H1 ∧ xPut wa (-1 - x.toInt) H H1 := by
  obtain ⟨H1, c1, c2, c3, c4⟩ := hP.2.1 d H x (yE_B h)
  exact ⟨H1, c1, yE_P hP.1 h c2 c3, zk_Fr_w rfl (by unfold List.all List.all zk_ina; rcases hP.1 with rfl | rfl <;> rfl) c3, c4⟩
theorem yc_put {L : Nat} {σ : Nat → Int32} {wr : Nat} {d : Nat} {T : Nat → Int} {n p wa : Nat} {H : zp_H} {x : Int32} (hP : yc_P L σ wr wa) (h : yE T n p H) : ∃ H1, zp_Call L σ (d + 1) 95 [.inr (.inr (some 54)), .inr (.inr (some wr)), .inl x] H (.inl none, H1) ∧ yE T n p H1 ∧ zk_Fr zg yx_m [wa] H H1 ∧ xPut wa x.toInt H H1 := by
  obtain ⟨H1, c1, c2, c3, c4⟩ := hP.2.2 d H x (yE_B h)
  exact ⟨H1, c1, yE_P hP.1 h c2 c3, zk_Fr_w rfl (by unfold List.all List.all zk_ina; rcases hP.1 with rfl | rfl <;> rfl) c3, c4⟩
theorem yc_ad {L : Nat} {σ : Nat → Int32} {d : Nat} {T : Nat → Int} {n p wa : Nat} {H : zp_H} (h : yE T n p H) : ∃ H1, zp_Call L σ (d + 3) 55 [.inr (.inr (some 53))] H (.inl none, H1) ∧ yE T n (ys_nx T n p) H1 ∧ zk_Fr zg yx_m [wa] H H1 := by
  have hb := ys_nxb (T := T) h.2.2
  obtain ⟨_, c1, H1, rfl, c2, c3, c4⟩ := yc_adv (L := L) (σ := σ) (d := d) (p := ys_nx T n p) h.1 h.2.1.2.1 hb.2.2.1
  exact ⟨H1, c1, ⟨c2, c4, hb.2.2.1⟩, zk_Fr_w rfl rfl c3⟩
theorem yc_adx {L : Nat} {σ : Nat → Int32} {d : Nat} {T : Nat → Int} {n p wa : Nat} {H : zp_H} (h : yE T n p H) : ∃ H1, zp_Call L σ (d + 3) 55 [.inr (.inr (some 53))] H (.inl none, H1) ∧ yE T n (ys_nx T n p) H1 ∧ zk_Fr zg yx_m [wa] H H1 ∧ ∀ p k, p ≠ 52 → p ≠ 72 → H1.2.1 p k = H.2.1 p k := by
  have hb := ys_nxb (T := T) h.2.2
  obtain ⟨_, c1, H1, rfl, c2, c3, c4⟩ := yc_adv (L := L) (σ := σ) (d := d) (p := ys_nx T n p) h.1 h.2.1.2.1 hb.2.2.1
  exact ⟨H1, c1, ⟨c2, c4, hb.2.2.1⟩, zk_Fr_w rfl rfl c3, fun p k h52 h72 => (zI_in c3 (p := p) (k := k) (zk_n52 rfl h52) rfl (fun h9 => h72 h9.1)).1⟩
theorem ys_adv {T : Nat → Int} {n p : Nat} (hp : p ≤ n) (hk : ys_kd T n p ≠ 0) : p < ys_nx T n p ∧ ys_nx T n p ≤ n := by
  have h := ys_nxb (T := T) hp
  have := h.2.2.2 hk
  omega

theorem yc_sg1 {L : Nat} {σ : Nat → Int32} {d : Nat} {T : Nat → Int} {n p : Nat} {H : zp_H} {x : Int32} {c : Int} (hc : x.toInt = c) (h : yE T n p H) (hq : ys_kd T n p = 4 ∧ ys_vl T n p = c) : zp_Call L σ (d + 1) 86 [.inr (.inr (some 53)), .inl x] H (.inl (some (.inl (Int32.ofInt 1))), H) := by
  have W := zB_Wd h.1.1
  have h4 := yE_4 h
  have h5 : ys_kd T n p ≠ 0 → _ := yE_5 h
  refine zw_ex (zw_met zm_86_t rfl rfl ?_)
  refine zw_ld (n := 1) (k := 0) (f := zp_isR) (pc' := 1) rfl rfl rfl rfl rfl ?_
  refine zw_gI (q := 52) (pc' := 4) W rfl rfl rfl rfl rfl rfl ?_
  refine zw_s (pc' := 5) rfl rfl ?_
  refine zw_bne2 (g := 20) (pc' := 8) rfl rfl rfl rfl (rfl : _ = (4 : Int)) (fun h1 => ?_) (fun h1 => ?_)
  · omega
  · refine zw_ld (n := 1) (k := 0) (f := zp_isR) (pc' := 9) rfl rfl rfl rfl rfl ?_
    refine zw_gI (q := 52) (pc' := 12) W rfl rfl rfl rfl rfl rfl ?_
    refine zw_ld (n := 1) (k := 1) (f := zp_isI) (pc' := 13) rfl rfl rfl rfl rfl ?_
    refine zw_bne2 (g := 20) (pc' := 16) rfl rfl rfl rfl rfl (fun h2 => ?_) (fun h2 => ?_)
    · have := h5 (by omega)
      omega
    · refine zw_s (pc' := 17) rfl rfl ?_
      refine zw_s (pc' := 21) rfl rfl ?_
      refine zw_rz rfl rfl (by decide) ?_
      rfl

theorem yc_sg0 {L : Nat} {σ : Nat → Int32} {d : Nat} {T : Nat → Int} {n p : Nat} {H : zp_H} {x : Int32} {c : Int} (hc : x.toInt = c) (h : yE T n p H) (hq : ¬ (ys_kd T n p = 4 ∧ ys_vl T n p = c)) : zp_Call L σ (d + 1) 86 [.inr (.inr (some 53)), .inl x] H (.inl (some (.inl (Int32.ofInt 0))), H) := by
  have W := zB_Wd h.1.1
  have h4 := yE_4 h
  have h5 : ys_kd T n p ≠ 0 → _ := yE_5 h
  refine zw_ex (zw_met zm_86_t rfl rfl ?_)
  refine zw_ld (n := 1) (k := 0) (f := zp_isR) (pc' := 1) rfl rfl rfl rfl rfl ?_
  refine zw_gI (q := 52) (pc' := 4) W rfl rfl rfl rfl rfl rfl ?_
  refine zw_s (pc' := 5) rfl rfl ?_
  refine zw_bne2 (g := 20) (pc' := 8) rfl rfl rfl rfl (rfl : _ = (4 : Int)) (fun h1 => ?_) (fun h1 => ?_)
  · refine zw_s (pc' := 21) rfl rfl ?_
    refine zw_rz rfl rfl (by decide) ?_
    rfl
  · refine zw_ld (n := 1) (k := 0) (f := zp_isR) (pc' := 9) rfl rfl rfl rfl rfl ?_
    refine zw_gI (q := 52) (pc' := 12) W rfl rfl rfl rfl rfl rfl ?_
    refine zw_ld (n := 1) (k := 1) (f := zp_isI) (pc' := 13) rfl rfl rfl rfl rfl ?_
    refine zw_bne2 (g := 20) (pc' := 16) rfl rfl rfl rfl rfl (fun h2 => ?_) (fun h2 => ?_)
    · refine zw_s (pc' := 21) rfl rfl ?_
      refine zw_rz rfl rfl (by decide) ?_
      rfl
    · have := h5 (by omega)
      omega

theorem yc_wd1 {L : Nat} {σ : Nat → Int32} {d : Nat} {T : Nat → Int} {n p : Nat} {H : zp_H} {x : Int32} {c : Int} (hc : x.toInt = c) (h : yE T n p H) (hq : ys_kd T n p = 3 ∧ ys_vl T n p = c) : zp_Call L σ (d + 1) 90 [.inr (.inr (some 53)), .inl x] H (.inl (some (.inl (Int32.ofInt 1))), H) := by
  have W := zB_Wd h.1.1
  have h4 := yE_4 h
  have h5 : ys_kd T n p ≠ 0 → _ := yE_5 h
  refine zw_ex (zw_met zm_90_t rfl rfl ?_)
  refine zw_ld (n := 1) (k := 0) (f := zp_isR) (pc' := 1) rfl rfl rfl rfl rfl ?_
  refine zw_gI (q := 52) (pc' := 4) W rfl rfl rfl rfl rfl rfl ?_
  refine zw_s (pc' := 5) rfl rfl ?_
  refine zw_bne2 (g := 20) (pc' := 8) rfl rfl rfl rfl (rfl : _ = (3 : Int)) (fun h1 => ?_) (fun h1 => ?_)
  · omega
  · refine zw_ld (n := 1) (k := 0) (f := zp_isR) (pc' := 9) rfl rfl rfl rfl rfl ?_
    refine zw_gI (q := 52) (pc' := 12) W rfl rfl rfl rfl rfl rfl ?_
    refine zw_ld (n := 1) (k := 1) (f := zp_isI) (pc' := 13) rfl rfl rfl rfl rfl ?_
    refine zw_bne2 (g := 20) (pc' := 16) rfl rfl rfl rfl rfl (fun h2 => ?_) (fun h2 => ?_)
    · have := h5 (by omega)
      omega
    · refine zw_s (pc' := 17) rfl rfl ?_
      refine zw_s (pc' := 21) rfl rfl ?_
      refine zw_rz rfl rfl (by decide) ?_
      rfl

theorem yc_wd0 {L : Nat} {σ : Nat → Int32} {d : Nat} {T : Nat → Int} {n p : Nat} {H : zp_H} {x : Int32} {c : Int} (hc : x.toInt = c) (h : yE T n p H) (hq : ¬ (ys_kd T n p = 3 ∧ ys_vl T n p = c)) : zp_Call L σ (d + 1) 90 [.inr (.inr (some 53)), .inl x] H (.inl (some (.inl (Int32.ofInt 0))), H) := by
  have W := zB_Wd h.1.1
  have h4 := yE_4 h
  have h5 : ys_kd T n p ≠ 0 → _ := yE_5 h
  refine zw_ex (zw_met zm_90_t rfl rfl ?_)
  refine zw_ld (n := 1) (k := 0) (f := zp_isR) (pc' := 1) rfl rfl rfl rfl rfl ?_
  refine zw_gI (q := 52) (pc' := 4) W rfl rfl rfl rfl rfl rfl ?_
  refine zw_s (pc' := 5) rfl rfl ?_
  refine zw_bne2 (g := 20) (pc' := 8) rfl rfl rfl rfl (rfl : _ = (3 : Int)) (fun h1 => ?_) (fun h1 => ?_)
  · refine zw_s (pc' := 21) rfl rfl ?_
    refine zw_rz rfl rfl (by decide) ?_
    rfl
  · refine zw_ld (n := 1) (k := 0) (f := zp_isR) (pc' := 9) rfl rfl rfl rfl rfl ?_
    refine zw_gI (q := 52) (pc' := 12) W rfl rfl rfl rfl rfl rfl ?_
    refine zw_ld (n := 1) (k := 1) (f := zp_isI) (pc' := 13) rfl rfl rfl rfl rfl ?_
    refine zw_bne2 (g := 20) (pc' := 16) rfl rfl rfl rfl rfl (fun h2 => ?_) (fun h2 => ?_)
    · refine zw_s (pc' := 21) rfl rfl ?_
      refine zw_rz rfl rfl (by decide) ?_
      rfl
    · have := h5 (by omega)
      omega

theorem yc_wy1 {L : Nat} {σ : Nat → Int32} {d : Nat} {T : Nat → Int} {n p : Nat} {H : zp_H} (h : yE T n p H) (hq : ys_kd T n p = 3 ∧ ys_vl T n p < 4) : zp_Call L σ (d + 1) 74 [.inr (.inr (some 53))] H (.inl (some (.inl (Int32.ofInt 1))), H) := by
  have W := zB_Wd h.1.1
  have h4 := yE_4 h
  have h5 : ys_kd T n p ≠ 0 → _ := yE_5 h
  refine zw_ex (zw_met zm_74_t rfl rfl ?_)
  refine zw_ld (n := 1) (k := 0) (f := zp_isR) (pc' := 1) rfl rfl rfl rfl rfl ?_
  refine zw_gI (q := 52) (pc' := 4) W rfl rfl rfl rfl rfl rfl ?_
  refine zw_s (pc' := 5) rfl rfl ?_
  refine zw_bne2 (g := 20) (pc' := 8) rfl rfl rfl rfl (rfl : _ = (3 : Int)) (fun h1 => ?_) (fun h1 => ?_)
  · omega
  · refine zw_ld (n := 1) (k := 0) (f := zp_isR) (pc' := 9) rfl rfl rfl rfl rfl ?_
    refine zw_gI (q := 52) (pc' := 12) W rfl rfl rfl rfl rfl rfl ?_
    refine zw_s (pc' := 13) rfl rfl ?_
    refine zw_bge2 (g := 20) (pc' := 16) rfl rfl rfl rfl (rfl : _ = (4 : Int)) (fun h2 => ?_) (fun h2 => ?_)
    · have := h5 (by omega)
      omega
    · refine zw_s (pc' := 17) rfl rfl ?_
      refine zw_s (pc' := 21) rfl rfl ?_
      refine zw_rz rfl rfl (by decide) ?_
      rfl

theorem yc_wy0 {L : Nat} {σ : Nat → Int32} {d : Nat} {T : Nat → Int} {n p : Nat} {H : zp_H} (h : yE T n p H) (hq : ¬ (ys_kd T n p = 3 ∧ ys_vl T n p < 4)) : zp_Call L σ (d + 1) 74 [.inr (.inr (some 53))] H (.inl (some (.inl (Int32.ofInt 0))), H) := by
  have W := zB_Wd h.1.1
  have h4 := yE_4 h
  have h5 : ys_kd T n p ≠ 0 → _ := yE_5 h
  refine zw_ex (zw_met zm_74_t rfl rfl ?_)
  refine zw_ld (n := 1) (k := 0) (f := zp_isR) (pc' := 1) rfl rfl rfl rfl rfl ?_
  refine zw_gI (q := 52) (pc' := 4) W rfl rfl rfl rfl rfl rfl ?_
  refine zw_s (pc' := 5) rfl rfl ?_
  refine zw_bne2 (g := 20) (pc' := 8) rfl rfl rfl rfl (rfl : _ = (3 : Int)) (fun h1 => ?_) (fun h1 => ?_)
  · refine zw_s (pc' := 21) rfl rfl ?_
    refine zw_rz rfl rfl (by decide) ?_
    rfl
  · refine zw_ld (n := 1) (k := 0) (f := zp_isR) (pc' := 9) rfl rfl rfl rfl rfl ?_
    refine zw_gI (q := 52) (pc' := 12) W rfl rfl rfl rfl rfl rfl ?_
    refine zw_s (pc' := 13) rfl rfl ?_
    refine zw_bge2 (g := 20) (pc' := 16) rfl rfl rfl rfl (rfl : _ = (4 : Int)) (fun h2 => ?_) (fun h2 => ?_)
    · refine zw_s (pc' := 21) rfl rfl ?_
      refine zw_rz rfl rfl (by decide) ?_
      rfl
    · have := h5 (by omega)
      omega

theorem yc_rfx {L : Nat} {σ : Nat → Int32} {d : Nat} {T : Nat → Int} {n p : Nat} {H : zp_H} {x : Int32} (h : yE T n p H) : zp_Call L σ (d + 1) 87 [.inr (.inr (some 54)), .inl x] H (.inl (some (.inl (Int32.ofInt 0))), zw_I H 53 2 x) := by
  have W := zB_Wd h.1.1
  refine zw_ex (zw_met zm_87_t rfl rfl ?_)
  refine zw_ld (n := 1) (k := 0) (f := zp_isR) (pc' := 1) rfl rfl rfl rfl rfl ?_
  refine zw_ld (n := 1) (k := 1) (f := zp_isI) (pc' := 2) rfl rfl rfl rfl rfl ?_
  refine zw_pI (q := 53) (pc' := 5) W rfl rfl rfl rfl rfl rfl ?_
  refine zw_s (pc' := 6) rfl rfl ?_
  refine zw_rz rfl rfl (by decide) ?_
  rfl

theorem yc_rf {L : Nat} {σ : Nat → Int32} {d : Nat} {T : Nat → Int} {n p wa : Nat} {H : zp_H} {x : Int32} (h : yE T n p H) : ∃ H1, zp_Call L σ (d + 1) 87 [.inr (.inr (some 54)), .inl x] H (.inl (some (.inl (Int32.ofInt 0))), H1) ∧ yE T n p H1 ∧ zk_Fr zg yx_m [wa] H H1 ∧ (H1.2.1 53 2).toInt = x.toInt := by
  refine ⟨_, yc_rfx h, yE_c h ?_ (funext fun k => zw_ne rfl rfl) (funext fun k => zw_ne rfl rfl), zk_Fr_I (zk_Fr_r H) rfl rfl, congrArg Int32.toInt zw_eq⟩
  exact zB_putf (p := 53) (k := 2) (x := x) h.1.1 rfl (fun r hr => by cases hr) (zJc_I rfl h.1.1.2.2.2.2.2.2.2)
