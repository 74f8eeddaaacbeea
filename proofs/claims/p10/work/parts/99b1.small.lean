/-! ===== the class: small questions, exactly ===== -/
def zm_74 : za_MI := (yX9_isWay, prog_11_method_10_code, 1, (some FieldType.boolean), 9, 0, 0, [], za_i74)
theorem zm_74_t : za_MT 74 = some zm_74 := rfl
def zm_86 : za_MI := (yX9_isSign, prog_11_method_11_code, 2, (some FieldType.boolean), 9, 0, 0, [], za_i86)
theorem zm_86_t : za_MT 86 = some zm_86 := rfl
def zm_87 : za_MI := (yX2_refuse, prog_4_method_3_code, 2, (some FieldType.boolean), 2, 0, 0, [], za_i87)
theorem zm_87_t : za_MT 87 = some zm_87 := rfl
def zm_90 : za_MI := (yX9_isWord, prog_11_method_9_code, 2, (some FieldType.boolean), 9, 0, 0, [], za_i90)
theorem zm_90_t : za_MT 90 = some zm_90 := rfl
def yE (T : Nat → Int) (n p : Nat) (H : zp_H) : Prop := yc_Z T n H ∧ yc_k T n p H ∧ p ≤ n
def yx_m : List (Nat × Nat) := [(52, 2), (52, 3), (52, 4), (52, 5), (53, 1), (53, 2)]
theorem ys_wl_b {T : Nat → Int} {s e : Nat} : ∀ (f i : Nat), f + i < 102 → 0 ≤ ys_wl T s e f i ∧ ys_wl T s e f i ≤ 21
  | 0, i, h => zq_sp_b (by omega)
  | f + 1, i, h => by
    unfold ys_wl
    split
    · exact zq_sp_b (by omega)
    · exact ys_wl_b f (i + 1) (by omega)
theorem ys_vl_w {T : Nat → Int} {n p : Nat} (h : ys_kd T n p = 3) : ys_st T n p < n ∧ ys_L (T (ys_st T n p)) = true ∧ ys_vl T n p = ys_wi T (ys_st T n p) (ys_nx T n p) := by
  unfold ys_kd ys_ks at h
  by_cases h1 : n ≤ ys_st T n p
  · rw [if_pos h1] at h
    omega
  · rw [if_neg h1] at h
    cases hL : ys_L (T (ys_st T n p)) with
    | true =>
      refine ⟨by omega, rfl, ?_⟩
      unfold ys_vl ys_vs
      rw [hL]
      rfl
    | false =>
      rw [hL] at h
      cases hD : ys_D (T (ys_st T n p)) with
      | true => rw [hD] at h; exact absurd (show (2 : Int) = 3 from h) (by decide)
      | false =>
        rw [hD] at h
        cases hG : ys_G (T (ys_st T n p)) with
        | true => rw [hG] at h; exact absurd h (by decide)
        | false => rw [hG] at h; exact absurd h (by decide)
theorem ys_vl_b {T : Nat → Int} {n p : Nat} (h : ys_kd T n p = 3) : 0 ≤ ys_vl T n p ∧ ys_vl T n p ≤ 21 := by
  rw [(ys_vl_w h).2.2]
  exact ys_wl_b 101 0 (by decide)
theorem yE_B {T : Nat → Int} {n p : Nat} {H : zp_H} (h : yE T n p H) : zk_Bs zB zg zJc H := by
  refine zB_up h.1.1 (fun h9 => ?_)
  have h3 : ys_kd T n p = 3 := h.2.1.2.2.1.symm.trans h9
  rw [h.2.1.2.2.2 (by omega)]
  exact ys_vl_b h3
theorem yE_c {T : Nat → Int} {n p : Nat} {H H1 : zp_H} (h : yE T n p H) (hB : zk_Bs zB0 zg zJc H1) (e1 : H1.2.1 52 = H.2.1 52) (e2 : H1.2.1 1 = H.2.1 1) : yE T n p H1 := by
  refine ⟨⟨hB, h.1.2.1, ?_, ?_⟩, ?_, h.2.2⟩
  · rw [e1]; exact h.1.2.2.1
  · rw [e2]; exact h.1.2.2.2
  · unfold yc_k
    rw [e1]
    exact h.2.1
theorem yE_4 {T : Nat → Int} {n p : Nat} {H : zp_H} (h : yE T n p H) : (H.2.1 52 4).toInt = ys_kd T n p := h.2.1.2.2.1
theorem yE_5 {T : Nat → Int} {n p : Nat} {H : zp_H} (h : yE T n p H) (hk : ys_kd T n p ≠ 0) : (H.2.1 52 5).toInt = ys_vl T n p := h.2.1.2.2.2 hk
/-- put and putDone do the tokens nothing -/
def yc_P (L : Nat) (σ : Nat → Int32) (wr : Nat) (wa : Nat) : Prop := (wa = 12 ∨ wa = 32) ∧ (∀ (d : Nat) (H : zp_H) (x : Int32), zk_Bs zB zg zJc H → ∃ H1, zp_Call L σ (d + 2) 96 [.inr (.inr (some 54)), .inr (.inr (some wr)), .inl x] H (.inl none, H1) ∧ zk_Bs zB zg zJc H1 ∧ zk_Fr zg [(53, 1)] [wa] H H1) ∧ (∀ (d : Nat) (H : zp_H) (x : Int32), zk_Bs zB zg zJc H → ∃ H1, zp_Call L σ (d + 1) 95 [.inr (.inr (some 54)), .inr (.inr (some wr)), .inl x] H (.inl none, H1) ∧ zk_Bs zB zg zJc H1 ∧ zk_Fr zg [(53, 1)] [wa] H H1)
def yc_e95_12 : zk_T := (95, [.inr (some (some 54)), .inr (some (some 3)), .inl ((-2147483648), 2147483647)], [], [(53, 1)], [12], [(.inl none, [], [])], 1)
theorem yc_t95_12 : zk_chk zB zB_fz [] [] 5000 yc_e95_12 = true := by decide +kernel
theorem yc_c95_12 {L : Nat} {σ : Nat → Int32} (d : Nat) (H : zp_H) (x : Int32) (hB : zk_Bs zB zg zJc H) : ∃ H1, zp_Call L σ (d + 1) 95 [.inr (.inr (some 54)), .inr (.inr (some 3)), .inl x] H (.inl none, H1) ∧ zk_Bs zB zg zJc H1 ∧ zk_Fr zg [(53, 1)] [12] H H1 := by
  have hct : zk_Ct L σ zB zg zJc yc_e95_12 := zk_chk_ok zB_W (fun _ h => absurd h List.not_mem_nil) yc_t95_12
  obtain ⟨⟨x1, H1⟩, c1, c2, c3, o, o1, o2, _⟩ := hct (d + 1) (Nat.le_add_left 1 d) [.inr (.inr (some 54)), .inr (.inr (some 3)), .inl x] H ⟨rfl, rfl, ⟨Int32.le_toInt _, Int32.toInt_le _⟩, trivial⟩ hB (fun f hf => absurd hf List.not_mem_nil)
  rcases List.mem_cons.mp o1 with rfl | o1
  · obtain rfl : x1 = .inl none := zk_rv_n o2
    exact ⟨H1, c1, c2, c3⟩
  · exact absurd o1 List.not_mem_nil
def yc_e96_12 : zk_T := (96, [.inr (some (some 54)), .inr (some (some 3)), .inl ((-2147483648), 2147483647)], [], [(53, 1)], [12], [(.inl none, [], [])], 2)
theorem yc_t96_12 : zk_chk zB zB_fz [] [] 5000 yc_e96_12 = true := by decide +kernel
theorem yc_c96_12 {L : Nat} {σ : Nat → Int32} (d : Nat) (H : zp_H) (x : Int32) (hB : zk_Bs zB zg zJc H) : ∃ H1, zp_Call L σ (d + 2) 96 [.inr (.inr (some 54)), .inr (.inr (some 3)), .inl x] H (.inl none, H1) ∧ zk_Bs zB zg zJc H1 ∧ zk_Fr zg [(53, 1)] [12] H H1 := by
  have hct : zk_Ct L σ zB zg zJc yc_e96_12 := zk_chk_ok zB_W (fun _ h => absurd h List.not_mem_nil) yc_t96_12
  obtain ⟨⟨x1, H1⟩, c1, c2, c3, o, o1, o2, _⟩ := hct (d + 2) (Nat.le_add_left 2 d) [.inr (.inr (some 54)), .inr (.inr (some 3)), .inl x] H ⟨rfl, rfl, ⟨Int32.le_toInt _, Int32.toInt_le _⟩, trivial⟩ hB (fun f hf => absurd hf List.not_mem_nil)
  rcases List.mem_cons.mp o1 with rfl | o1
  · obtain rfl : x1 = .inl none := zk_rv_n o2
    exact ⟨H1, c1, c2, c3⟩
  · exact absurd o1 List.not_mem_nil
theorem yc_P12 {L : Nat} {σ : Nat → Int32} : yc_P L σ 3 12 := ⟨Or.inl rfl, fun d H x h => yc_c96_12 d H x h, fun d H x h => yc_c95_12 d H x h⟩
def yc_e95_32 : zk_T := (95, [.inr (some (some 54)), .inr (some (some 23)), .inl ((-2147483648), 2147483647)], [], [(53, 1)], [32], [(.inl none, [], [])], 1)
theorem yc_t95_32 : zk_chk zB zB_fz [] [] 5000 yc_e95_32 = true := by decide +kernel
theorem yc_c95_32 {L : Nat} {σ : Nat → Int32} (d : Nat) (H : zp_H) (x : Int32) (hB : zk_Bs zB zg zJc H) : ∃ H1, zp_Call L σ (d + 1) 95 [.inr (.inr (some 54)), .inr (.inr (some 23)), .inl x] H (.inl none, H1) ∧ zk_Bs zB zg zJc H1 ∧ zk_Fr zg [(53, 1)] [32] H H1 := by
  have hct : zk_Ct L σ zB zg zJc yc_e95_32 := zk_chk_ok zB_W (fun _ h => absurd h List.not_mem_nil) yc_t95_32
  obtain ⟨⟨x1, H1⟩, c1, c2, c3, o, o1, o2, _⟩ := hct (d + 1) (Nat.le_add_left 1 d) [.inr (.inr (some 54)), .inr (.inr (some 23)), .inl x] H ⟨rfl, rfl, ⟨Int32.le_toInt _, Int32.toInt_le _⟩, trivial⟩ hB (fun f hf => absurd hf List.not_mem_nil)
  rcases List.mem_cons.mp o1 with rfl | o1
  · obtain rfl : x1 = .inl none := zk_rv_n o2
    exact ⟨H1, c1, c2, c3⟩
  · exact absurd o1 List.not_mem_nil
def yc_e96_32 : zk_T := (96, [.inr (some (some 54)), .inr (some (some 23)), .inl ((-2147483648), 2147483647)], [], [(53, 1)], [32], [(.inl none, [], [])], 2)
theorem yc_t96_32 : zk_chk zB zB_fz [] [] 5000 yc_e96_32 = true := by decide +kernel
theorem yc_c96_32 {L : Nat} {σ : Nat → Int32} (d : Nat) (H : zp_H) (x : Int32) (hB : zk_Bs zB zg zJc H) : ∃ H1, zp_Call L σ (d + 2) 96 [.inr (.inr (some 54)), .inr (.inr (some 23)), .inl x] H (.inl none, H1) ∧ zk_Bs zB zg zJc H1 ∧ zk_Fr zg [(53, 1)] [32] H H1 := by
  have hct : zk_Ct L σ zB zg zJc yc_e96_32 := zk_chk_ok zB_W (fun _ h => absurd h List.not_mem_nil) yc_t96_32
  obtain ⟨⟨x1, H1⟩, c1, c2, c3, o, o1, o2, _⟩ := hct (d + 2) (Nat.le_add_left 2 d) [.inr (.inr (some 54)), .inr (.inr (some 23)), .inl x] H ⟨rfl, rfl, ⟨Int32.le_toInt _, Int32.toInt_le _⟩, trivial⟩ hB (fun f hf => absurd hf List.not_mem_nil)
  rcases List.mem_cons.mp o1 with rfl | o1
  · obtain rfl : x1 = .inl none := zk_rv_n o2
    exact ⟨H1, c1, c2, c3⟩
  · exact absurd o1 List.not_mem_nil
theorem yc_P32 {L : Nat} {σ : Nat → Int32} : yc_P L σ 23 32 := ⟨Or.inr rfl, fun d H x h => yc_c96_32 d H x h, fun d H x h => yc_c95_32 d H x h⟩
theorem yE_P {T : Nat → Int} {n p wa : Nat} {H H1 : zp_H} (hw : wa = 12 ∨ wa = 32) (h : yE T n p H) (hB : zk_Bs zB zg zJc H1) (hF : zk_Fr zg [(53, 1)] [wa] H H1) : yE T n p H1 := by
  rcases hw with rfl | rfl
  · exact yE_c h (zB_dn hB) (zx_ae hF 52 (fun k => rfl) rfl rfl) (zx_ae hF 1 (fun k => rfl) rfl rfl)
  · exact yE_c h (zB_dn hB) (zx_ae hF 52 (fun k => rfl) rfl rfl) (zx_ae hF 1 (fun k => rfl) rfl rfl)
theorem yc_putD {L : Nat} {σ : Nat → Int32} {wr : Nat} {d : Nat} {T : Nat → Int} {n p wa : Nat} {H : zp_H} {x : Int32} (hP : yc_P L σ wr wa) (h : yE T n p H) : ∃ H1, zp_Call L σ (d + 2) 96 [.inr (.inr (some 54)), .inr (.inr (some wr)), .inl x] H (.inl none, H1) ∧ yE T n p H1 ∧ zk_Fr zg yx_m [wa] H H1 := by
  obtain ⟨H1, c1, c2, c3⟩ := hP.2.1 d H x (yE_B h)
  exact ⟨H1, c1, yE_P hP.1 h c2 c3, zk_Fr_w rfl (by unfold List.all List.all zk_ina; rcases hP.1 with rfl | rfl <;> rfl) c3⟩
theorem yc_put {L : Nat} {σ : Nat → Int32} {wr : Nat} {d : Nat} {T : Nat → Int} {n p wa : Nat} {H : zp_H} {x : Int32} (hP : yc_P L σ wr wa) (h : yE T n p H) : ∃ H1, zp_Call L σ (d + 1) 95 [.inr (.inr (some 54)), .inr (.inr (some wr)), .inl x] H (.inl none, H1) ∧ yE T n p H1 ∧ zk_Fr zg yx_m [wa] H H1 := by
  obtain ⟨H1, c1, c2, c3⟩ := hP.2.2 d H x (yE_B h)
  exact ⟨H1, c1, yE_P hP.1 h c2 c3, zk_Fr_w rfl (by unfold List.all List.all zk_ina; rcases hP.1 with rfl | rfl <;> rfl) c3⟩
theorem yc_ad {L : Nat} {σ : Nat → Int32} {d : Nat} {T : Nat → Int} {n p wa : Nat} {H : zp_H} (h : yE T n p H) : ∃ H1, zp_Call L σ (d + 3) 55 [.inr (.inr (some 53))] H (.inl none, H1) ∧ yE T n (ys_nx T n p) H1 ∧ zk_Fr zg yx_m [wa] H H1 := by
  have hb := ys_nxb (T := T) h.2.2
  obtain ⟨_, c1, H1, rfl, c2, c3, c4⟩ := yc_adv (L := L) (σ := σ) (d := d) (p := ys_nx T n p) h.1 h.2.1.2.1 hb.2.2.1
  exact ⟨H1, c1, ⟨c2, c4, hb.2.2.1⟩, zk_Fr_w rfl rfl c3⟩
theorem ys_adv {T : Nat → Int} {n p : Nat} (hp : p ≤ n) (hk : ys_kd T n p ≠ 0) : p < ys_nx T n p ∧ ys_nx T n p ≤ n := by
  have h := ys_nxb (T := T) hp
  have := h.2.2.2 hk
  omega

theorem yc_sg1 {L : Nat} {σ : Nat → Int32} {d : Nat} {T : Nat → Int} {n p : Nat} {H : zp_H} {x : Int32} {c : Int} (hc : x.toInt = c) (h : yE T n p H) (hq : ys_kd T n p = 4 ∧ ys_vl T n p = c) : zp_Call L σ (d + 1) 86 [.inr (.inr (some 53)), .inl x] H (.inl (some (.inl (Int32.ofInt 1))), H) := by
  have W := zB_Wd h.1.1
  have h4 := yE_4 h
  have h5 : ys_kd T n p ≠ 0 → _ := yE_5 h
  refine zw_ex (zw_met zm_86_t rfl rfl ?_)
  refine zw_ld (n := 1) (k := 0) (f := zp_isR) (pc' := 1) rfl rfl rfl rfl rfl ?_
  refine zw_gI (q := 52) (pc' := 4) W rfl rfl rfl rfl rfl rfl ?_
  refine zw_s (pc' := 5) rfl rfl ?_
  refine zw_bne2 (g := 20) (pc' := 8) rfl rfl rfl rfl (rfl : _ = (4 : Int)) (fun h1 => ?_) (fun h1 => ?_)
  · omega
  · refine zw_ld (n := 1) (k := 0) (f := zp_isR) (pc' := 9) rfl rfl rfl rfl rfl ?_
    refine zw_gI (q := 52) (pc' := 12) W rfl rfl rfl rfl rfl rfl ?_
    refine zw_ld (n := 1) (k := 1) (f := zp_isI) (pc' := 13) rfl rfl rfl rfl rfl ?_
    refine zw_bne2 (g := 20) (pc' := 16) rfl rfl rfl rfl rfl (fun h2 => ?_) (fun h2 => ?_)
    · have := h5 (by omega)
      omega
    · refine zw_s (pc' := 17) rfl rfl ?_
      refine zw_s (pc' := 21) rfl rfl ?_
      refine zw_rz rfl rfl (by decide) ?_
      rfl

theorem yc_sg0 {L : Nat} {σ : Nat → Int32} {d : Nat} {T : Nat → Int} {n p : Nat} {H : zp_H} {x : Int32} {c : Int} (hc : x.toInt = c) (h : yE T n p H) (hq : ¬ (ys_kd T n p = 4 ∧ ys_vl T n p = c)) : zp_Call L σ (d + 1) 86 [.inr (.inr (some 53)), .inl x] H (.inl (some (.inl (Int32.ofInt 0))), H) := by
  have W := zB_Wd h.1.1
  have h4 := yE_4 h
  have h5 : ys_kd T n p ≠ 0 → _ := yE_5 h
  refine zw_ex (zw_met zm_86_t rfl rfl ?_)
  refine zw_ld (n := 1) (k := 0) (f := zp_isR) (pc' := 1) rfl rfl rfl rfl rfl ?_
  refine zw_gI (q := 52) (pc' := 4) W rfl rfl rfl rfl rfl rfl ?_
  refine zw_s (pc' := 5) rfl rfl ?_
  refine zw_bne2 (g := 20) (pc' := 8) rfl rfl rfl rfl (rfl : _ = (4 : Int)) (fun h1 => ?_) (fun h1 => ?_)
  · refine zw_s (pc' := 21) rfl rfl ?_
    refine zw_rz rfl rfl (by decide) ?_
    rfl
  · refine zw_ld (n := 1) (k := 0) (f := zp_isR) (pc' := 9) rfl rfl rfl rfl rfl ?_
    refine zw_gI (q := 52) (pc' := 12) W rfl rfl rfl rfl rfl rfl ?_
    refine zw_ld (n := 1) (k := 1) (f := zp_isI) (pc' := 13) rfl rfl rfl rfl rfl ?_
    refine zw_bne2 (g := 20) (pc' := 16) rfl rfl rfl rfl rfl (fun h2 => ?_) (fun h2 => ?_)
    · refine zw_s (pc' := 21) rfl rfl ?_
      refine zw_rz rfl rfl (by decide) ?_
      rfl
    · have := h5 (by omega)
      omega

theorem yc_wd1 {L : Nat} {σ : Nat → Int32} {d : Nat} {T : Nat → Int} {n p : Nat} {H : zp_H} {x : Int32} {c : Int} (hc : x.toInt = c) (h : yE T n p H) (hq : ys_kd T n p = 3 ∧ ys_vl T n p = c) : zp_Call L σ (d + 1) 90 [.inr (.inr (some 53)), .inl x] H (.inl (some (.inl (Int32.ofInt 1))), H) := by
  have W := zB_Wd h.1.1
  have h4 := yE_4 h
  have h5 : ys_kd T n p ≠ 0 → _ := yE_5 h
  refine zw_ex (zw_met zm_90_t rfl rfl ?_)
  refine zw_ld (n := 1) (k := 0) (f := zp_isR) (pc' := 1) rfl rfl rfl rfl rfl ?_
  refine zw_gI (q := 52) (pc' := 4) W rfl rfl rfl rfl rfl rfl ?_
  refine zw_s (pc' := 5) rfl rfl ?_
  refine zw_bne2 (g := 20) (pc' := 8) rfl rfl rfl rfl (rfl : _ = (3 : Int)) (fun h1 => ?_) (fun h1 => ?_)
  · omega
  · refine zw_ld (n := 1) (k := 0) (f := zp_isR) (pc' := 9) rfl rfl rfl rfl rfl ?_
    refine zw_gI (q := 52) (pc' := 12) W rfl rfl rfl rfl rfl rfl ?_
    refine zw_ld (n := 1) (k := 1) (f := zp_isI) (pc' := 13) rfl rfl rfl rfl rfl ?_
    refine zw_bne2 (g := 20) (pc' := 16) rfl rfl rfl rfl rfl (fun h2 => ?_) (fun h2 => ?_)
    · have := h5 (by omega)
      omega
    · refine zw_s (pc' := 17) rfl rfl ?_
      refine zw_s (pc' := 21) rfl rfl ?_
      refine zw_rz rfl rfl (by decide) ?_
      rfl

theorem yc_wd0 {L : Nat} {σ : Nat → Int32} {d : Nat} {T : Nat → Int} {n p : Nat} {H : zp_H} {x : Int32} {c : Int} (hc : x.toInt = c) (h : yE T n p H) (hq : ¬ (ys_kd T n p = 3 ∧ ys_vl T n p = c)) : zp_Call L σ (d + 1) 90 [.inr (.inr (some 53)), .inl x] H (.inl (some (.inl (Int32.ofInt 0))), H) := by
  have W := zB_Wd h.1.1
  have h4 := yE_4 h
  have h5 : ys_kd T n p ≠ 0 → _ := yE_5 h
  refine zw_ex (zw_met zm_90_t rfl rfl ?_)
  refine zw_ld (n := 1) (k := 0) (f := zp_isR) (pc' := 1) rfl rfl rfl rfl rfl ?_
  refine zw_gI (q := 52) (pc' := 4) W rfl rfl rfl rfl rfl rfl ?_
  refine zw_s (pc' := 5) rfl rfl ?_
  refine zw_bne2 (g := 20) (pc' := 8) rfl rfl rfl rfl (rfl : _ = (3 : Int)) (fun h1 => ?_) (fun h1 => ?_)
  · refine zw_s (pc' := 21) rfl rfl ?_
    refine zw_rz rfl rfl (by decide) ?_
    rfl
  · refine zw_ld (n := 1) (k := 0) (f := zp_isR) (pc' := 9) rfl rfl rfl rfl rfl ?_
    refine zw_gI (q := 52) (pc' := 12) W rfl rfl rfl rfl rfl rfl ?_
    refine zw_ld (n := 1) (k := 1) (f := zp_isI) (pc' := 13) rfl rfl rfl rfl rfl ?_
    refine zw_bne2 (g := 20) (pc' := 16) rfl rfl rfl rfl rfl (fun h2 => ?_) (fun h2 => ?_)
    · refine zw_s (pc' := 21) rfl rfl ?_
      refine zw_rz rfl rfl (by decide) ?_
      rfl
    · have := h5 (by omega)
      omega

theorem yc_wy1 {L : Nat} {σ : Nat → Int32} {d : Nat} {T : Nat → Int} {n p : Nat} {H : zp_H} (h : yE T n p H) (hq : ys_kd T n p = 3 ∧ ys_vl T n p < 4) : zp_Call L σ (d + 1) 74 [.inr (.inr (some 53))] H (.inl (some (.inl (Int32.ofInt 1))), H) := by
  have W := zB_Wd h.1.1
  have h4 := yE_4 h
  have h5 : ys_kd T n p ≠ 0 → _ := yE_5 h
  refine zw_ex (zw_met zm_74_t rfl rfl ?_)
  refine zw_ld (n := 1) (k := 0) (f := zp_isR) (pc' := 1) rfl rfl rfl rfl rfl ?_
  refine zw_gI (q := 52) (pc' := 4) W rfl rfl rfl rfl rfl rfl ?_
  refine zw_s (pc' := 5) rfl rfl ?_
  refine zw_bne2 (g := 20) (pc' := 8) rfl rfl rfl rfl (rfl : _ = (3 : Int)) (fun h1 => ?_) (fun h1 => ?_)
  · omega
  · refine zw_ld (n := 1) (k := 0) (f := zp_isR) (pc' := 9) rfl rfl rfl rfl rfl ?_
    refine zw_gI (q := 52) (pc' := 12) W rfl rfl rfl rfl rfl rfl ?_
    refine zw_s (pc' := 13) rfl rfl ?_
    refine zw_bge2 (g := 20) (pc' := 16) rfl rfl rfl rfl (rfl : _ = (4 : Int)) (fun h2 => ?_) (fun h2 => ?_)
    · have := h5 (by omega)
      omega
    · refine zw_s (pc' := 17) rfl rfl ?_
      refine zw_s (pc' := 21) rfl rfl ?_
      refine zw_rz rfl rfl (by decide) ?_
      rfl

theorem yc_wy0 {L : Nat} {σ : Nat → Int32} {d : Nat} {T : Nat → Int} {n p : Nat} {H : zp_H} (h : yE T n p H) (hq : ¬ (ys_kd T n p = 3 ∧ ys_vl T n p < 4)) : zp_Call L σ (d + 1) 74 [.inr (.inr (some 53))] H (.inl (some (.inl (Int32.ofInt 0))), H) := by
  have W := zB_Wd h.1.1
  have h4 := yE_4 h
  have h5 : ys_kd T n p ≠ 0 → _ := yE_5 h
  refine zw_ex (zw_met zm_74_t rfl rfl ?_)
  refine zw_ld (n := 1) (k := 0) (f := zp_isR) (pc' := 1) rfl rfl rfl rfl rfl ?_
  refine zw_gI (q := 52) (pc' := 4) W rfl rfl rfl rfl rfl rfl ?_
  refine zw_s (pc' := 5) rfl rfl ?_
  refine zw_bne2 (g := 20) (pc' := 8) rfl rfl rfl rfl (rfl : _ = (3 : Int)) (fun h1 => ?_) (fun h1 => ?_)
  · refine zw_s (pc' := 21) rfl rfl ?_
    refine zw_rz rfl rfl (by decide) ?_
    rfl
  · refine zw_ld (n := 1) (k := 0) (f := zp_isR) (pc' := 9) rfl rfl rfl rfl rfl ?_
    refine zw_gI (q := 52) (pc' := 12) W rfl rfl rfl rfl rfl rfl ?_
    refine zw_s (pc' := 13) rfl rfl ?_
    refine zw_bge2 (g := 20) (pc' := 16) rfl rfl rfl rfl (rfl : _ = (4 : Int)) (fun h2 => ?_) (fun h2 => ?_)
    · refine zw_s (pc' := 21) rfl rfl ?_
      refine zw_rz rfl rfl (by decide) ?_
      rfl
    · have := h5 (by omega)
      omega

theorem yc_rfx {L : Nat} {σ : Nat → Int32} {d : Nat} {T : Nat → Int} {n p : Nat} {H : zp_H} {x : Int32} (h : yE T n p H) : zp_Call L σ (d + 1) 87 [.inr (.inr (some 54)), .inl x] H (.inl (some (.inl (Int32.ofInt 0))), zw_I H 53 2 x) := by
  have W := zB_Wd h.1.1
  refine zw_ex (zw_met zm_87_t rfl rfl ?_)
  refine zw_ld (n := 1) (k := 0) (f := zp_isR) (pc' := 1) rfl rfl rfl rfl rfl ?_
  refine zw_ld (n := 1) (k := 1) (f := zp_isI) (pc' := 2) rfl rfl rfl rfl rfl ?_
  refine zw_pI (q := 53) (pc' := 5) W rfl rfl rfl rfl rfl rfl ?_
  refine zw_s (pc' := 6) rfl rfl ?_
  refine zw_rz rfl rfl (by decide) ?_
  rfl

theorem yc_rf {L : Nat} {σ : Nat → Int32} {d : Nat} {T : Nat → Int} {n p wa : Nat} {H : zp_H} {x : Int32} (h : yE T n p H) : ∃ H1, zp_Call L σ (d + 1) 87 [.inr (.inr (some 54)), .inl x] H (.inl (some (.inl (Int32.ofInt 0))), H1) ∧ yE T n p H1 ∧ zk_Fr zg yx_m [wa] H H1 ∧ (H1.2.1 53 2).toInt = x.toInt := by
  refine ⟨_, yc_rfx h, yE_c h ?_ (funext fun k => zw_ne rfl rfl) (funext fun k => zw_ne rfl rfl), zk_Fr_I (zk_Fr_r H) rfl rfl, congrArg Int32.toInt zw_eq⟩
  exact zB_putf (p := 53) (k := 2) (x := x) h.1.1 rfl (fun r hr => by cases hr) (zJc_I rfl h.1.1.2.2.2.2.2.2.2)
