/-! ===== the class reads an expression, exactly ===== -/
def zm_85 : za_MI := (yX2_readExpr, prog_4_method_6_code, 4, (some FieldType.boolean), 2, 0, 0, [], za_i85)
theorem zm_85_t : za_MT 85 = some zm_85 := rfl
def zm_94 : za_MI := (yX2_readPart, prog_4_method_12_code, 3, (some FieldType.boolean), 2, 0, 0, [], za_i94)
theorem zm_94_t : za_MT 94 = some zm_94 := rfl
def yX (T : Nat → Int) (n : Nat) (s : yM) (wa l : Nat) (d : Int) (Q : List Bool → Nat → Prop) (H0 : zp_H) (X : zp_X) : Prop := ∃ (v : Int32) (H1 : zp_H) (q : Nat), X = (.inl (some (.inl v)), H1) ∧ yE T n q H1 ∧ zk_Fr zg yx_m [wa] H0 H1 ∧ ((v.toInt = 1 ∧ s.2.2 < q ∧ ∃ lv', Q lv' q ∧ xRC T n wa l d s (0, lv', q) H0 H1) ∨ (v.toInt = 0 ∧ ∃ r : Int × Nat, yA T n s r ∧ r.2 = q ∧ (H1.2.1 53 2).toInt = r.1 ∧ 1 ≤ r.1 ∧ r.1 ≤ 5))
def yQ0 (lv : List Bool) (lv' : List Bool) (_ : Nat) : Prop := lv' = lv
def yQ1 (T : Nat → Int) (n : Nat) (lv : List Bool) (lv' : List Bool) (q : Nat) : Prop := lv' = lv ∧ ¬ (ys_kd T n q = 4 ∧ (ys_vl T n q = 42 ∨ ys_vl T n q = 47))
def yQ2 (T : Nat → Int) (n : Nat) (lv : List Bool) (lv' : List Bool) (q : Nat) : Prop := yQ1 T n lv lv' q ∧ ¬ (ys_kd T n q = 4 ∧ (ys_vl T n q = 43 ∨ ys_vl T n q = 45))
def yQ3 (T : Nat → Int) (n : Nat) (tl : List Bool) (lv' : List Bool) (q : Nat) : Prop := ∃ t, lv' = t :: tl ∧ yQ2 T n (t :: tl) (t :: tl) q ∧ (t = false → ¬ (ys_kd T n q = 4 ∧ (ys_vl T n q = 60 ∨ ys_vl T n q = 61)))
def yQ4 (T : Nat → Int) (n : Nat) (tl : List Bool) (lv' : List Bool) (q : Nat) : Prop := yQ3 T n tl lv' q ∧ ¬ (ys_kd T n q = 3 ∧ ys_vl T n q = 9)
def yQ5 (T : Nat → Int) (n : Nat) (tl : List Bool) (lv' : List Bool) (q : Nat) : Prop := yQ4 T n tl lv' q ∧ ¬ (ys_kd T n q = 3 ∧ ys_vl T n q = 8)
/-- a method that reads from s on -/
def yK (L : Nat) (σ : Nat → Int32) (T : Nat → Int) (n wa : Nat) (wr : Nat) (v j m : Nat) (Q : List Bool → List Bool → Nat → Prop) (b : Option Bool) (c l : Nat) : Prop := ∀ (lv : List Bool) (x : Int32) (p : Nat) (H : zp_H), lv.length = l + 1 → (∀ b', b = some b' → lv.head? = some b') → x.toInt = l → yE T n p H → ∃ X, zp_Call L σ c j [.inr (.inr (some 54)), .inr (.inr (some wr)), .inl x] H X ∧ yX T n (m, lv, p) wa v (38 - 6 * (l : Int) - (v : Int)) (Q lv) H X
/-- readExpr one deeper: it reads, or there are six already -/
def yG (L : Nat) (σ : Nat → Int32) (T : Nat → Int) (n wa wr c l : Nat) : Prop := ∀ (lv : List Bool) (x : Int32) (p : Nat) (H : zp_H), lv.length = l + 1 → x.toInt = ((l + 1 : Nat) : Int) → yE T n p H → ∃ X, zp_Call L σ c 85 [.inr (.inr (some 54)), .inr (.inr (some wr)), .inl x] H X ∧ ∃ (v : Int32) (H1 : zp_H) (q : Nat), X = (.inl (some (.inl v)), H1) ∧ yE T n q H1 ∧ zk_Fr zg yx_m [wa] H H1 ∧ ((v.toInt = 1 ∧ p < q ∧ lv.length < 6 ∧ ∃ lv', yQ5 T n lv lv' q ∧ xRC T n wa 1 (31 - 6 * (l : Int)) (2, false :: lv, p) (0, lv', q) H H1) ∨ (v.toInt = 0 ∧ ∃ r : Int × Nat, (lv.length < 6 → yA T n (2, false :: lv, p) r) ∧ (¬ lv.length < 6 → r = (if yB T n p then 2 else 1, p)) ∧ r.2 = q ∧ (H1.2.1 53 2).toInt = r.1 ∧ 1 ≤ r.1 ∧ r.1 ≤ 5))
theorem yX_0 {T : Nat → Int} {n wa q l : Nat} {d : Int} {s : yM} {r : Int × Nat} {Q : List Bool → Nat → Prop} {H0 H1 : zp_H} (hE : yE T n q H1) (hF : zk_Fr zg yx_m [wa] H0 H1) (hA : yA T n s r) (hq : r.2 = q) (hf : (H1.2.1 53 2).toInt = r.1) (hb : 1 ≤ r.1 ∧ r.1 ≤ 5) : yX T n s wa l d Q H0 (.inl (some (.inl (Int32.ofInt 0))), H1) := ⟨_, H1, q, rfl, hE, hF, Or.inr ⟨rfl, r, hA, hq, hf, hb⟩⟩
theorem yX_1 {T : Nat → Int} {n wa q l : Nat} {d : Int} {s : yM} {lv' : List Bool} {Q : List Bool → Nat → Prop} {H0 H1 : zp_H} (hE : yE T n q H1) (hF : zk_Fr zg yx_m [wa] H0 H1) (hp : s.2.2 < q) (hQ : Q lv' q) (hR : xRC T n wa l d s (0, lv', q) H0 H1) : yX T n s wa l d Q H0 (.inl (some (.inl (Int32.ofInt 1))), H1) := ⟨_, H1, q, rfl, hE, hF, Or.inl ⟨rfl, hp, lv', hQ, hR⟩⟩

set_option maxRecDepth 8000 in
theorem yc_part {L : Nat} {σ : Nat → Int32} {T : Nat → Int} {n wa : Nat} {wr : Nat} {c l : Nat} (hl6 : l < 6) (hP : yc_P L σ wr wa) (hE : yG L σ T n wa wr c l) : yK L σ T n wa wr 7 94 1 yQ0 none (c + 4) l := by
  intro lv x p H hl hb hx h
  have W := zB_Wd h.1.1
  have h4 := yE_4 h
  have h5 : ys_kd T n p ≠ 0 → _ := yE_5 h
  refine zw_met zm_94_t rfl rfl ?_
  refine zw_ld (n := 1) (k := 0) (f := zp_isR) (pc' := 1) rfl rfl rfl rfl rfl ?_
  refine zw_gR (q := 53) (pc' := 4) W rfl rfl rfl rfl (W.2 53 0 _ rfl) rfl ?_
  refine zw_s (pc' := 6) rfl rfl ?_
  by_cases h40 : ys_kd T n p = 4 ∧ ys_vl T n p = 40
  · refine zw_c (pc' := 9) (zw_cv (q := 52) (Y := zm_86) W.1 rfl rfl zm_86_t rfl rfl) rfl rfl rfl rfl rfl (yc_sg1 (d := c + 2) rfl h h40) ?_
    refine zw_beq1 (g := 50) (pc' := 12) rfl rfl rfl (rfl : _ = (1 : Int)) (fun h9 => absurd h9 (by decide)) (fun h9 => ?_)
    obtain ⟨H1, a1, a2, a3, a4⟩ := yc_adx (L := L) (σ := σ) (d := c) (wa := wa) h
    have W1 := zB_Wd a2.1.1
    have hadv := ys_adv (T := T) h.2.2 (by omega)
    refine zw_ld (n := 1) (k := 0) (f := zp_isR) (pc' := 13) rfl rfl rfl rfl rfl ?_
    refine zw_gR (q := 53) (pc' := 16) W rfl rfl rfl rfl (W.2 53 0 _ rfl) rfl ?_
    refine zw_cn (pc' := 19) (zw_cv (q := 52) (Y := zm_55) W.1 rfl rfl zm_55_t rfl rfl) rfl rfl rfl rfl rfl (a1) ?_
    have ex1 : (x + Int32.ofInt 1).toInt = ((l + 1 : Nat) : Int) := by
      rw [zw_p1 (by omega)]
      omega
    have hN := yN_op (lv := lv) h40.1 h40.2
    obtain ⟨X1, b1, b2⟩ := hE lv _ _ H1 hl ex1 a2
    obtain ⟨v, H2, q, rfl, e2, e3, e4⟩ := b2
    have W2 := zB_Wd e2.1.1
    refine zw_ld (n := 1) (k := 0) (f := zp_isR) (pc' := 20) rfl rfl rfl rfl rfl ?_
    refine zw_ld (n := 1) (k := 1) (f := zp_isR) (pc' := 21) rfl rfl rfl rfl rfl ?_
    refine zw_ld (n := 1) (k := 2) (f := zp_isI) (pc' := 22) rfl rfl rfl rfl rfl ?_
    refine zw_s (pc' := 23) rfl rfl ?_
    refine zw_iadd (pc' := 24) rfl rfl ?_
    refine zw_c (pc' := 27) (zw_cv (q := 53) (Y := zm_85) W1.1 rfl rfl zm_85_t rfl rfl) rfl rfl rfl rfl rfl ((zp_Call_le (by omega) b1)) ?_
    refine zw_bne1 (g := 32) (pc' := 30) rfl rfl rfl rfl (fun hv => ?_) (fun hv => ?_)
    · rcases e4 with ⟨_, e5, h6, lv', e6, e7⟩ | ⟨e4, _⟩
      rotate_left
      · omega
      rw [if_pos h6] at hN
      obtain ⟨⟨⟨tf, rfl, e8⟩, e9⟩, e10⟩ := e6
      refine zw_ld (n := 1) (k := 0) (f := zp_isR) (pc' := 33) rfl rfl rfl rfl rfl ?_
      refine zw_gR (q := 53) (pc' := 36) W2 rfl rfl rfl rfl (W2.2 53 0 _ rfl) rfl ?_
      refine zw_s (pc' := 38) rfl rfl ?_
      by_cases h41 : ys_kd T n q = 4 ∧ ys_vl T n q = 41
      · refine zw_c (pc' := 41) (zw_cv (q := 52) (Y := zm_86) W2.1 rfl rfl zm_86_t rfl rfl) rfl rfl rfl rfl rfl (yc_sg1 (d := c + 2) rfl e2 h41) ?_
        refine zw_bne1 (g := 145) (pc' := 44) rfl rfl rfl (rfl : _ = (1 : Int)) (fun h9 => ?_) (fun h9 => absurd h9 (by decide))
        have hpq : ys_nx T n p < q := e5
        obtain ⟨H9, g1, g2, g3, g4⟩ := yc_adx (L := L) (σ := σ) (d := c) (wa := wa) e2
        have hadv9 := ys_adv (T := T) e2.2.2 (by omega)
        refine zw_ld (n := 1) (k := 0) (f := zp_isR) (pc' := 146) rfl rfl rfl rfl rfl ?_
        refine zw_gR (q := 53) (pc' := 149) W2 rfl rfl rfl rfl (W2.2 53 0 _ rfl) rfl ?_
        refine zw_cn (pc' := 152) (zw_cv (q := 52) (Y := zm_55) W2.1 rfl rfl zm_55_t rfl rfl) rfl rfl rfl rfl rfl (g1) ?_
        refine zw_s (pc' := 153) rfl rfl ?_
        refine zw_rz rfl rfl (by decide) ?_
        exact yX_1 g2 (zk_Fr_t (zk_Fr_t a3 e3) g3) (by show p < ys_nx T n _; omega) rfl (xRC_up (Nat.le_refl _) (by omega) (xRC_m (xRC_p hN (fun W O => xWO_op (m := 1) (p := p) h40.1 (show (1 : Nat) ≠ 0 by decide)) (by show p < ys_nx T n p; omega) (yc_sm hP.1 a4) e7 h41.1 h41.2 (by rw [List.length_cons]; omega) (by omega)) (yc_sm hP.1 g4)))
      · refine zw_c (pc' := 41) (zw_cv (q := 52) (Y := zm_86) W2.1 rfl rfl zm_86_t rfl rfl) rfl rfl rfl rfl rfl (yc_sg0 (d := c + 2) rfl e2 h41) ?_
        refine zw_bne1 (g := 145) (pc' := 44) rfl rfl rfl (rfl : _ = (0 : Int)) (fun h9 => absurd h9 (by decide)) (fun h9 => ?_)
        refine zw_ld (n := 1) (k := 0) (f := zp_isR) (pc' := 45) rfl rfl rfl rfl rfl ?_
        refine zw_s (pc' := 46) rfl rfl ?_
        have hNe : yN T n (0, tf :: lv, q) = .inr (1, q) := by
          rw [yN_en ⟨fun h9 => ?_, e8.1.2, e8.1.1.2⟩ (fun h9 => ?_) (fun h9 => h41 ⟨h9.1, h9.2.1⟩), if_pos (by rw [List.length_cons]; omega)]
          · rcases h9.2 with h8 | h8
            · exact e9 ⟨h9.1, h8⟩
            · exact e10 ⟨h9.1, h8⟩
          · exact e8.2 (Option.some.inj h9.2.2) ⟨h9.1, h9.2.1⟩
        obtain ⟨K9, c1, c2, c3, c4⟩ := yc_rf (L := L) (σ := σ) (d := c + 2) (wa := wa) (x := Int32.ofInt 1) e2
        refine zw_c (pc' := 49) (zw_cv (q := 53) (Y := zm_87) W2.1 rfl rfl zm_87_t rfl rfl) rfl rfl rfl rfl rfl (c1) ?_
        refine zw_rz rfl rfl (by decide) ?_
        exact yX_0 c2 (zk_Fr_t (zk_Fr_t a3 e3) c3) (yA_step hN (e7.1 _ (yA_done hNe))) rfl c4 (show 1 ≤ (1 : Int) ∧ (1 : Int) ≤ 5 from by decide)
    · refine zw_s (pc' := 31) rfl rfl ?_
      refine zw_rz rfl rfl (by decide) ?_
      rcases e4 with ⟨e4, _⟩ | ⟨e4, r, e5, e5', e6, e7, e8⟩
      · omega
      · have hv0 : v = Int32.ofInt 0 := Int32.toInt_inj.mp (e4.trans rfl)
        refine yX_0 e2 (zk_Fr_t a3 e3) ?_ e6 e7 e8
        by_cases h6 : lv.length < 6
        · rw [if_pos h6] at hN
          exact yA_step hN (e5 h6)
        · rw [if_neg h6] at hN
          rw [e5' h6]
          exact yA_done hN
  · refine zw_c (pc' := 9) (zw_cv (q := 52) (Y := zm_86) W.1 rfl rfl zm_86_t rfl rfl) rfl rfl rfl rfl rfl (yc_sg0 (d := c + 2) rfl h h40) ?_
    refine zw_beq1 (g := 50) (pc' := 12) rfl rfl rfl (rfl : _ = (0 : Int)) (fun h9 => ?_) (fun h9 => absurd h9 (by decide))
    refine zw_ld (n := 1) (k := 0) (f := zp_isR) (pc' := 51) rfl rfl rfl rfl rfl ?_
    refine zw_gR (q := 53) (pc' := 54) W rfl rfl rfl rfl (W.2 53 0 _ rfl) rfl ?_
    refine zw_gI (q := 52) (pc' := 57) W rfl rfl rfl rfl rfl rfl ?_
    refine zw_s (pc' := 58) rfl rfl ?_
    refine zw_bne2 (g := 95) (pc' := 61) rfl rfl rfl rfl (rfl : _ = (2 : Int)) (fun h2 => ?_) (fun h2 => ?_)
    · refine zw_ld (n := 1) (k := 0) (f := zp_isR) (pc' := 96) rfl rfl rfl rfl rfl ?_
      refine zw_gR (q := 53) (pc' := 99) W rfl rfl rfl rfl (W.2 53 0 _ rfl) rfl ?_
      refine zw_gI (q := 52) (pc' := 102) W rfl rfl rfl rfl rfl rfl ?_
      refine zw_s (pc' := 103) rfl rfl ?_
      refine zw_bne2 (g := 139) (pc' := 106) rfl rfl rfl rfl (rfl : _ = (3 : Int)) (fun h3 => ?_) (fun h3 => ?_)
      · refine zw_ld (n := 1) (k := 0) (f := zp_isR) (pc' := 140) rfl rfl rfl rfl rfl ?_
        refine zw_s (pc' := 141) rfl rfl ?_
        obtain ⟨K9, c1, c2, c3, c4⟩ := yc_rf (L := L) (σ := σ) (d := c + 2) (wa := wa) (x := Int32.ofInt 1) h
        refine zw_c (pc' := 144) (zw_cv (q := 53) (Y := zm_87) W.1 rfl rfl zm_87_t rfl rfl) rfl rfl rfl rfl rfl (c1) ?_
        refine zw_rz rfl rfl (by decide) ?_
        exact yX_0 c2 (zk_Fr_t (zk_Fr_r H) c3) (yA_done (yN_un h40 (by omega) (by omega))) rfl c4 (show 1 ≤ (1 : Int) ∧ (1 : Int) ≤ 5 from by decide)
      · have hv := h5 (by omega)
        have hN := yN_wo (T := T) (n := n) (p := p) (lv := lv) (by omega)
        refine zw_ld (n := 1) (k := 0) (f := zp_isR) (pc' := 107) rfl rfl rfl rfl rfl ?_
        refine zw_gR (q := 53) (pc' := 110) W rfl rfl rfl rfl (W.2 53 0 _ rfl) rfl ?_
        refine zw_gI (q := 52) (pc' := 113) W rfl rfl rfl rfl rfl rfl ?_
        refine zw_s (pc' := 115) rfl rfl ?_
        refine zw_blt2 (g := 124) (pc' := 118) rfl rfl rfl rfl (rfl : _ = (8 : Int)) (fun h6 => ?_) (fun h6 => ?_)
        · rw [if_pos (by omega)] at hN
          obtain ⟨K, k1, k2, k3, k4⟩ := yc_putD (d := c + 1) (x := H.2.1 52 5) hP h
          have WK := zB_Wd k2.1.1
          refine zw_ld (n := 1) (k := 0) (f := zp_isR) (pc' := 125) rfl rfl rfl rfl rfl ?_
          refine zw_ld (n := 1) (k := 1) (f := zp_isR) (pc' := 126) rfl rfl rfl rfl rfl ?_
          refine zw_ld (n := 1) (k := 0) (f := zp_isR) (pc' := 127) rfl rfl rfl rfl rfl ?_
          refine zw_gR (q := 53) (pc' := 130) W rfl rfl rfl rfl (W.2 53 0 _ rfl) rfl ?_
          refine zw_gI (q := 52) (pc' := 133) W rfl rfl rfl rfl rfl rfl ?_
          refine zw_cn (pc' := 136) (zw_cv (q := 53) (Y := zm_96) W.1 rfl rfl zm_96_t rfl rfl) rfl rfl rfl rfl rfl (k1) ?_
          obtain ⟨H9, g1, g2, g3, g4⟩ := yc_adx (L := L) (σ := σ) (d := c) (wa := wa) k2
          have hadv9 := ys_adv (T := T) k2.2.2 (by omega)
          refine zw_s (pc' := 145) rfl rfl ?_
          refine zw_ld (n := 1) (k := 0) (f := zp_isR) (pc' := 146) rfl rfl rfl rfl rfl ?_
          refine zw_gR (q := 53) (pc' := 149) WK rfl rfl rfl rfl (WK.2 53 0 _ rfl) rfl ?_
          refine zw_cn (pc' := 152) (zw_cv (q := 52) (Y := zm_55) WK.1 rfl rfl zm_55_t rfl rfl) rfl rfl rfl rfl rfl (g1) ?_
          refine zw_s (pc' := 153) rfl rfl ?_
          refine zw_rz rfl rfl (by decide) ?_
          exact yX_1 g2 (zk_Fr_t k3 g3) (by show p < ys_nx T n _; omega) rfl (xRC_up (Nat.le_refl _) (by omega) (xRC_m (xRC_1 (i := (1, ys_vl T n p)) hN (fun W O => xWO_vl (m := 1) (p := p) (show ys_kd T n p = 3 by omega) (show ys_vl T n p ≠ 10 by omega) (show (1 : Nat) ≠ 0 by decide)) (show (1 : Nat) < 2 by decide) (by have h8 := ys_vl_b (T := T) (n := n) (p := p) (by omega); exact ⟨h8.1, by show ys_vl T n p ≤ 9999; omega, fun _ => by show ys_vl T n p < 8; omega⟩) (by show p < ys_nx T n p; omega) (by have := h.1.2.1; show p < 700; omega) k4 (by show _ = -1 - ys_vl T n p; omega)) (yc_sm hP.1 g4)))
        · refine zw_ld (n := 1) (k := 0) (f := zp_isR) (pc' := 119) rfl rfl rfl rfl rfl ?_
          refine zw_s (pc' := 120) rfl rfl ?_
          rw [if_neg (by omega)] at hN
          obtain ⟨K9, c1, c2, c3, c4⟩ := yc_rf (L := L) (σ := σ) (d := c + 2) (wa := wa) (x := Int32.ofInt 3) h
          refine zw_c (pc' := 123) (zw_cv (q := 53) (Y := zm_87) W.1 rfl rfl zm_87_t rfl rfl) rfl rfl rfl rfl rfl (c1) ?_
          refine zw_rz rfl rfl (by decide) ?_
          exact yX_0 c2 (zk_Fr_t (zk_Fr_r H) c3) (yA_done (hN)) rfl c4 (show 1 ≤ (3 : Int) ∧ (3 : Int) ≤ 5 from by decide)
    · have hv := h5 (by omega)
      have hN := yN_nu (T := T) (n := n) (p := p) (lv := lv) (by omega)
      refine zw_ld (n := 1) (k := 0) (f := zp_isR) (pc' := 62) rfl rfl rfl rfl rfl ?_
      refine zw_gR (q := 53) (pc' := 65) W rfl rfl rfl rfl (W.2 53 0 _ rfl) rfl ?_
      refine zw_gI (q := 52) (pc' := 68) W rfl rfl rfl rfl rfl rfl ?_
      refine zw_s (pc' := 71) rfl rfl ?_
      refine zw_ble2 (g := 80) (pc' := 74) rfl rfl rfl rfl (rfl : _ = (9999 : Int)) (fun h3 => ?_) (fun h3 => ?_)
      · rw [if_neg (by omega)] at hN
        obtain ⟨K, k1, k2, k3, k4⟩ := yc_put (d := c + 2) (x := H.2.1 52 5) hP h
        have WK := zB_Wd k2.1.1
        refine zw_ld (n := 1) (k := 0) (f := zp_isR) (pc' := 81) rfl rfl rfl rfl rfl ?_
        refine zw_ld (n := 1) (k := 1) (f := zp_isR) (pc' := 82) rfl rfl rfl rfl rfl ?_
        refine zw_ld (n := 1) (k := 0) (f := zp_isR) (pc' := 83) rfl rfl rfl rfl rfl ?_
        refine zw_gR (q := 53) (pc' := 86) W rfl rfl rfl rfl (W.2 53 0 _ rfl) rfl ?_
        refine zw_gI (q := 52) (pc' := 89) W rfl rfl rfl rfl rfl rfl ?_
        refine zw_cn (pc' := 92) (zw_cv (q := 53) (Y := zm_95) W.1 rfl rfl zm_95_t rfl rfl) rfl rfl rfl rfl rfl (k1) ?_
        obtain ⟨H9, g1, g2, g3, g4⟩ := yc_adx (L := L) (σ := σ) (d := c) (wa := wa) k2
        have hadv9 := ys_adv (T := T) k2.2.2 (by omega)
        refine zw_s (pc' := 145) rfl rfl ?_
        refine zw_ld (n := 1) (k := 0) (f := zp_isR) (pc' := 146) rfl rfl rfl rfl rfl ?_
        refine zw_gR (q := 53) (pc' := 149) WK rfl rfl rfl rfl (WK.2 53 0 _ rfl) rfl ?_
        refine zw_cn (pc' := 152) (zw_cv (q := 52) (Y := zm_55) WK.1 rfl rfl zm_55_t rfl rfl) rfl rfl rfl rfl rfl (g1) ?_
        refine zw_s (pc' := 153) rfl rfl ?_
        refine zw_rz rfl rfl (by decide) ?_
        exact yX_1 g2 (zk_Fr_t k3 g3) (by show p < ys_nx T n _; omega) rfl (xRC_up (Nat.le_refl _) (by omega) (xRC_m (xRC_1 (i := (0, ys_vl T n p)) hN (fun W O => xWO_nu (m := 1) (p := p) (show ys_kd T n p = 2 by omega) (show (1 : Nat) ≠ 0 by decide)) (show (0 : Nat) < 2 by decide) ⟨xs_vl_n0 h.2.2 (by omega), by show ys_vl T n p ≤ 9999; omega, fun h9 => absurd (show (0 : Nat) = 1 from h9) (by decide)⟩ (by show p < ys_nx T n p; omega) (by have := h.1.2.1; show p < 700; omega) k4 (by show _ = ys_vl T n p; omega)) (yc_sm hP.1 g4)))
      · refine zw_ld (n := 1) (k := 0) (f := zp_isR) (pc' := 75) rfl rfl rfl rfl rfl ?_
        refine zw_s (pc' := 76) rfl rfl ?_
        rw [if_pos (by omega)] at hN
        obtain ⟨K9, c1, c2, c3, c4⟩ := yc_rf (L := L) (σ := σ) (d := c + 2) (wa := wa) (x := Int32.ofInt 2) h
        refine zw_c (pc' := 79) (zw_cv (q := 53) (Y := zm_87) W.1 rfl rfl zm_87_t rfl rfl) rfl rfl rfl rfl rfl (c1) ?_
        refine zw_rz rfl rfl (by decide) ?_
        exact yX_0 c2 (zk_Fr_t (zk_Fr_r H) c3) (yA_done (hN)) rfl c4 (show 1 ≤ (2 : Int) ∧ (2 : Int) ≤ 5 from by decide)
