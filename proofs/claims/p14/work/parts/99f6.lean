/-! ===== the class reads a text from its start, exactly ===== -/
def zm_51 : za_MI := (yX0_clear, prog_2_method_2_code, 1, none, 0, 0, 0, [], za_i51)
theorem zm_51_t : za_MT 51 = some zm_51 := rfl
def zm_52 : za_MI := (yX2_clear, prog_4_method_2_code, 1, none, 2, 0, 0, [], za_i52)
theorem zm_52_t : za_MT 52 = some zm_52 := rfl
set_option maxRecDepth 8000 in
theorem yc_cc13 {L : Nat} {σ : Nat → Int32} {d : Nat} {H : zp_H} (W : zw_W H) : zp_Call L σ (d + 1) 51 [.inr (.inr (some 14))] H (.inl none, zw_I (zw_I H 13 0 (Int32.ofInt 0)) 13 7 (Int32.ofInt 0)) := by
  refine zw_ex (zw_met zm_51_t rfl rfl ?_)
  refine zw_ld (n := 1) (k := 0) (f := zp_isR) (pc' := 1) rfl rfl rfl rfl rfl ?_
  refine zw_s (pc' := 2) rfl rfl ?_
  refine zw_pI (q := 13) (pc' := 5) W rfl rfl rfl rfl rfl rfl ?_
  refine zw_ld (n := 1) (k := 0) (f := zp_isR) (pc' := 6) rfl rfl rfl rfl rfl ?_
  refine zw_s (pc' := 7) rfl rfl ?_
  refine zw_pI (q := 13) (pc' := 10) W rfl rfl rfl rfl rfl rfl ?_
  refine zw_rn rfl rfl ?_
  rfl

set_option maxRecDepth 8000 in
theorem yc_cc33 {L : Nat} {σ : Nat → Int32} {d : Nat} {H : zp_H} (W : zw_W H) : zp_Call L σ (d + 1) 51 [.inr (.inr (some 34))] H (.inl none, zw_I (zw_I H 33 0 (Int32.ofInt 0)) 33 7 (Int32.ofInt 0)) := by
  refine zw_ex (zw_met zm_51_t rfl rfl ?_)
  refine zw_ld (n := 1) (k := 0) (f := zp_isR) (pc' := 1) rfl rfl rfl rfl rfl ?_
  refine zw_s (pc' := 2) rfl rfl ?_
  refine zw_pI (q := 33) (pc' := 5) W rfl rfl rfl rfl rfl rfl ?_
  refine zw_ld (n := 1) (k := 0) (f := zp_isR) (pc' := 6) rfl rfl rfl rfl rfl ?_
  refine zw_s (pc' := 7) rfl rfl ?_
  refine zw_pI (q := 33) (pc' := 10) W rfl rfl rfl rfl rfl rfl ?_
  refine zw_rn rfl rfl ?_
  rfl

set_option maxRecDepth 8000 in
theorem yc_ce {L : Nat} {σ : Nat → Int32} {d : Nat} {H : zp_H} (W : zw_W H) : zp_Call L σ (d + 1) 52 [.inr (.inr (some 54))] H (.inl none, zw_I H 53 1 (Int32.ofInt 0)) := by
  refine zw_ex (zw_met zm_52_t rfl rfl ?_)
  refine zw_ld (n := 1) (k := 0) (f := zp_isR) (pc' := 1) rfl rfl rfl rfl rfl ?_
  refine zw_s (pc' := 2) rfl rfl ?_
  refine zw_pI (q := 53) (pc' := 5) W rfl rfl rfl rfl rfl rfl ?_
  refine zw_rn rfl rfl ?_
  rfl

set_option maxRecDepth 8000 in
theorem yc_read2_13 {L : Nat} {σ : Nat → Int32} {d : Nat} {T : Nat → Int} {n : Nat} {H : zp_H} {x : Int32} (hB : zk_Bs zB zg zJc H) (hn : n ≤ 700) (hx : x.toInt = n) (hT : ∀ k, k < n → (H.2.1 1 k).toInt = T k) : ∃ X, zp_Call L σ (d + 66) 50 [.inr (.inr (some 52)), .inl x, .inr (.inr (some 3)), .inr (.inr (some 14))] H X ∧ yRD 2 13 T n y00 X := by
  have W := zB_Wd (zB_dn hB)
  obtain ⟨H1, c1, c2, c3, v0, v1, v3, v4, vC, v7, v9, v10, v11, v12, v16⟩ := yc_clear2 (L := L) (σ := σ) (d := d + 62) hB
  have W1 := zB_Wd (zB_dn c2)
  have b0 := zB_dn c2
  have b1 := zB_putf (p := 13) (k := 0) (x := Int32.ofInt 0) b0 rfl (fun r hr => by cases hr; exact ⟨by decide, by decide⟩) (zJc_I rfl b0.2.2.2.2.2.2.2)
  have b2 := zB_putf (p := 13) (k := 7) (x := Int32.ofInt 0) b1 rfl (fun r hr => by cases hr; exact ⟨by decide, by decide⟩) (zJc_I rfl b1.2.2.2.2.2.2.2)
  have b3 := zB_putf (p := 53) (k := 1) (x := Int32.ofInt 0) b2 rfl (fun r hr => by cases hr; exact ⟨by decide, by decide⟩) (zJc_I rfl b2.2.2.2.2.2.2.2)
  have b4 := zB_putf (p := 51) (k := 2) (x := Int32.ofInt 0) b3 rfl (fun r hr => by cases hr; exact ⟨by decide, by decide⟩) (zJc_I rfl b3.2.2.2.2.2.2.2)
  have b5 := zB_putf (p := 51) (k := 3) (x := Int32.ofInt 0) b4 rfl (fun r hr => by cases hr; exact ⟨by decide, by decide⟩) (zJc_I rfl b4.2.2.2.2.2.2.2)
  have W5 := zB_Wd b5
  have eT : ∀ k, k < n → ((zw_I (zw_I (zw_I (zw_I (zw_I H1 13 0 (Int32.ofInt 0)) 13 7 (Int32.ofInt 0)) 53 1 (Int32.ofInt 0)) 51 2 (Int32.ofInt 0)) 51 3 (Int32.ofInt 0)).2.1 1 k).toInt = T k := fun k hk => by
    rw [show (zw_I (zw_I (zw_I (zw_I (zw_I H1 13 0 (Int32.ofInt 0)) 13 7 (Int32.ofInt 0)) 53 1 (Int32.ofInt 0)) 51 2 (Int32.ofInt 0)) 51 3 (Int32.ofInt 0)).2.1 1 k = H1.2.1 1 k from (zw_ne (zw_ne (zw_ne (zw_ne (zw_ne rfl rfl) rfl) rfl) rfl) rfl), (zI_in c3 (p := 1) (k := k) rfl rfl (fun h9 => absurd h9.1 (by decide))).1]
    exact hT k hk
  have e0 : (zw_I (zw_I (zw_I (zw_I (zw_I H1 13 0 (Int32.ofInt 0)) 13 7 (Int32.ofInt 0)) 53 1 (Int32.ofInt 0)) 51 2 (Int32.ofInt 0)) 51 3 (Int32.ofInt 0)).2.1 2 0 = H1.2.1 2 0 := (zw_ne (zw_ne (zw_ne (zw_ne (zw_ne rfl rfl) rfl) rfl) rfl) rfl)
  have e1 : (zw_I (zw_I (zw_I (zw_I (zw_I H1 13 0 (Int32.ofInt 0)) 13 7 (Int32.ofInt 0)) 53 1 (Int32.ofInt 0)) 51 2 (Int32.ofInt 0)) 51 3 (Int32.ofInt 0)).2.1 2 1 = H1.2.1 2 1 := (zw_ne (zw_ne (zw_ne (zw_ne (zw_ne rfl rfl) rfl) rfl) rfl) rfl)
  have e7 : (zw_I (zw_I (zw_I (zw_I (zw_I H1 13 0 (Int32.ofInt 0)) 13 7 (Int32.ofInt 0)) 53 1 (Int32.ofInt 0)) 51 2 (Int32.ofInt 0)) 51 3 (Int32.ofInt 0)).2.1 2 7 = H1.2.1 2 7 := (zw_ne (zw_ne (zw_ne (zw_ne (zw_ne rfl rfl) rfl) rfl) rfl) rfl)
  have e12 : (zw_I (zw_I (zw_I (zw_I (zw_I H1 13 0 (Int32.ofInt 0)) 13 7 (Int32.ofInt 0)) 53 1 (Int32.ofInt 0)) 51 2 (Int32.ofInt 0)) 51 3 (Int32.ofInt 0)).2.1 2 12 = H1.2.1 2 12 := (zw_ne (zw_ne (zw_ne (zw_ne (zw_ne rfl rfl) rfl) rfl) rfl) rfl)
  have e16 : (zw_I (zw_I (zw_I (zw_I (zw_I H1 13 0 (Int32.ofInt 0)) 13 7 (Int32.ofInt 0)) 53 1 (Int32.ofInt 0)) 51 2 (Int32.ofInt 0)) 51 3 (Int32.ofInt 0)).2.1 2 16 = H1.2.1 2 16 := (zw_ne (zw_ne (zw_ne (zw_ne (zw_ne rfl rfl) rfl) rfl) rfl) rfl)
  have ec : (zw_I (zw_I (zw_I (zw_I (zw_I H1 13 0 (Int32.ofInt 0)) 13 7 (Int32.ofInt 0)) 53 1 (Int32.ofInt 0)) 51 2 (Int32.ofInt 0)) 51 3 (Int32.ofInt 0)).2.1 13 0 = Int32.ofInt 0 := (zw_ne (zw_ne (zw_ne (zw_ne zw_eq rfl) rfl) rfl) rfl)
  have es : (zw_I (zw_I (zw_I (zw_I (zw_I H1 13 0 (Int32.ofInt 0)) 13 7 (Int32.ofInt 0)) 53 1 (Int32.ofInt 0)) 51 2 (Int32.ofInt 0)) 51 3 (Int32.ofInt 0)).2.1 51 2 = Int32.ofInt 0 := (zw_ne zw_eq rfl)
  have eg : (zw_I (zw_I (zw_I (zw_I (zw_I H1 13 0 (Int32.ofInt 0)) 13 7 (Int32.ofInt 0)) 53 1 (Int32.ofInt 0)) 51 2 (Int32.ofInt 0)) 51 3 (Int32.ofInt 0)).2.1 51 3 = Int32.ofInt 0 := zw_eq
  have D0 : yDc 2 13 y00d (zw_I (zw_I (zw_I (zw_I (zw_I H1 13 0 (Int32.ofInt 0)) 13 7 (Int32.ofInt 0)) 53 1 (Int32.ofInt 0)) 51 2 (Int32.ofInt 0)) 51 3 (Int32.ofInt 0)) := by
    refine ⟨by rw [e0, v0]; rfl, by rw [e1, v1]; rfl, by rw [ec]; rfl, by rw [e7, v7]; rfl, by rw [e12, v12]; rfl, by rw [e16, v16]; rfl, by rw [es]; rfl, by rw [eg]; rfl, v3, fun c hc => ⟨fun _ => y00d_f hc, fun _ => ?_⟩, by decide, fun w k hw hk h9 => absurd (show H1.2.2.1 5 w &&& yBit (k : Int) = 0 by rw [v4 w hw]; exact Int64.zero_and) h9⟩
    show (H1.2.2.1 5 0 ||| H1.2.2.1 5 1 ||| H1.2.2.1 5 2 ||| H1.2.2.1 5 3) &&& yBit c = 0
    rw [v4 0 (by decide), v4 1 (by decide), v4 2 (by decide), v4 3 (by decide)]
    exact Int64.zero_and
  have X0 : yXd (yLc 2 13) [] y00d (zw_I (zw_I (zw_I (zw_I (zw_I H1 13 0 (Int32.ofInt 0)) 13 7 (Int32.ofInt 0)) 53 1 (Int32.ofInt 0)) 51 2 (Int32.ofInt 0)) 51 3 (Int32.ofInt 0)) := by
    intro i i1 i2 _
    rcases y00d_i i2 with rfl | rfl | rfl | ⟨i3, i4⟩
    · show ((zw_I (zw_I (zw_I (zw_I (zw_I H1 13 0 (Int32.ofInt 0)) 13 7 (Int32.ofInt 0)) 53 1 (Int32.ofInt 0)) 51 2 (Int32.ofInt 0)) 51 3 (Int32.ofInt 0)).2.1 2 9).toInt = 0
      rw [show (zw_I (zw_I (zw_I (zw_I (zw_I H1 13 0 (Int32.ofInt 0)) 13 7 (Int32.ofInt 0)) 53 1 (Int32.ofInt 0)) 51 2 (Int32.ofInt 0)) 51 3 (Int32.ofInt 0)).2.1 2 9 = H1.2.1 2 9 from (zw_ne (zw_ne (zw_ne (zw_ne (zw_ne rfl rfl) rfl) rfl) rfl) rfl)]
      exact v9
    · show ((zw_I (zw_I (zw_I (zw_I (zw_I H1 13 0 (Int32.ofInt 0)) 13 7 (Int32.ofInt 0)) 53 1 (Int32.ofInt 0)) 51 2 (Int32.ofInt 0)) 51 3 (Int32.ofInt 0)).2.1 2 10).toInt = 2
      rw [show (zw_I (zw_I (zw_I (zw_I (zw_I H1 13 0 (Int32.ofInt 0)) 13 7 (Int32.ofInt 0)) 53 1 (Int32.ofInt 0)) 51 2 (Int32.ofInt 0)) 51 3 (Int32.ofInt 0)).2.1 2 10 = H1.2.1 2 10 from (zw_ne (zw_ne (zw_ne (zw_ne (zw_ne rfl rfl) rfl) rfl) rfl) rfl)]
      exact v10
    · show ((zw_I (zw_I (zw_I (zw_I (zw_I H1 13 0 (Int32.ofInt 0)) 13 7 (Int32.ofInt 0)) 53 1 (Int32.ofInt 0)) 51 2 (Int32.ofInt 0)) 51 3 (Int32.ofInt 0)).2.1 2 11).toInt = 5
      rw [show (zw_I (zw_I (zw_I (zw_I (zw_I H1 13 0 (Int32.ofInt 0)) 13 7 (Int32.ofInt 0)) 53 1 (Int32.ofInt 0)) 51 2 (Int32.ofInt 0)) 51 3 (Int32.ofInt 0)).2.1 2 11 = H1.2.1 2 11 from (zw_ne (zw_ne (zw_ne (zw_ne (zw_ne rfl rfl) rfl) rfl) rfl) rfl)]
      exact v11
    · obtain ⟨c, rfl⟩ : ∃ c, i = 100 + c := ⟨i - 100, by omega⟩
      rw [yL_100 (by omega), y00d_c (by omega)]
      rw [show (zw_I (zw_I (zw_I (zw_I (zw_I H1 13 0 (Int32.ofInt 0)) 13 7 (Int32.ofInt 0)) 53 1 (Int32.ofInt 0)) 51 2 (Int32.ofInt 0)) 51 3 (Int32.ofInt 0)).2.1 (2 + 2) c = H1.2.1 (2 + 2) c from (zw_ne (zw_ne (zw_ne (zw_ne (zw_ne rfl rfl) rfl) rfl) rfl) rfl)]
      exact vC c (by omega)
  have hwc : yWC 2 13 := ⟨by decide, by decide⟩
  obtain ⟨_, o1, R, rfl, o2, o3⟩ := yc_open (L := L) (σ := σ) (d := d + 61) (x := x) b5 hn hx eT
  have D1 : yDd 2 13 y00d R := yDd_F hwc o3 rfl rfl ⟨D0, X0⟩
  have WR := zB_Wd o2.1.1
  refine zw_met zm_50_t rfl rfl ?_
  refine zw_ld (n := 1) (k := 2) (f := zp_isR) (pc' := 1) rfl rfl rfl rfl rfl ?_
  refine zw_cnx (pc' := 4) (zw_cvx (q := 2) (Y := zm_2) W.1 rfl rfl zm_2_t rfl rfl) rfl rfl rfl rfl rfl (c1) ?_
  refine zw_ld (n := 1) (k := 3) (f := zp_isR) (pc' := 5) rfl rfl rfl rfl rfl ?_
  refine zw_cn (pc' := 8) (zw_cv (q := 13) (Y := zm_51) W1.1 rfl rfl zm_51_t rfl rfl) rfl rfl rfl rfl rfl (yc_cc13 (d := d + 64) W1) ?_
  refine zw_ld (n := 1) (k := 0) (f := zp_isR) (pc' := 9) rfl rfl rfl rfl rfl ?_
  refine zw_gR (q := 51) (pc' := 12) (zw_W_I (zw_W_I W1)) rfl rfl rfl rfl ((zw_W_I (zw_W_I W1)).2 51 1 _ rfl) rfl ?_
  refine zw_cn (pc' := 15) (zw_cv (q := 53) (Y := zm_52) (zw_W_I (zw_W_I W1)).1 rfl rfl zm_52_t rfl rfl) rfl rfl rfl rfl rfl (yc_ce (d := d + 64) (zw_W_I (zw_W_I W1))) ?_
  refine zw_ld (n := 1) (k := 0) (f := zp_isR) (pc' := 16) rfl rfl rfl rfl rfl ?_
  refine zw_s (pc' := 17) rfl rfl ?_
  refine zw_pI (q := 51) (pc' := 20) (zw_W_I (zw_W_I (zw_W_I W1))) rfl rfl rfl rfl (rfl) rfl ?_
  refine zw_ld (n := 1) (k := 0) (f := zp_isR) (pc' := 21) rfl rfl rfl rfl rfl ?_
  refine zw_s (pc' := 22) rfl rfl ?_
  refine zw_pI (q := 51) (pc' := 25) (zw_W_I (zw_W_I (zw_W_I (zw_W_I W1)))) rfl rfl rfl rfl (rfl) rfl ?_
  refine zw_ld (n := 1) (k := 0) (f := zp_isR) (pc' := 26) rfl rfl rfl rfl rfl ?_
  refine zw_gR (q := 51) (pc' := 29) W5 rfl rfl rfl rfl (W5.2 51 0 _ rfl) rfl ?_
  refine zw_ld (n := 1) (k := 1) (f := zp_isI) (pc' := 30) rfl rfl rfl rfl rfl ?_
  refine zw_cn (pc' := 33) (zw_cv (q := 52) (Y := zm_53) W5.1 rfl rfl zm_53_t rfl rfl) rfl rfl rfl rfl rfl (o1) ?_
  refine zw_s (pc' := 34) rfl rfl ?_
  refine zw_st (n := 2) (k := 4) (f := zp_isI) (pc' := 36) rfl rfl rfl rfl rfl ?_
  exact yc_readL2_13 yBCt 701 R _ _ 0 y00d (by decide) (zw_gt rfl rfl rfl) (zw_gt rfl rfl rfl) (zw_gt rfl rfl rfl) zw_g1 ⟨by decide, by decide⟩ rfl o2 D1 yR2_r

set_option maxRecDepth 8000 in
theorem yc_read2_33 {L : Nat} {σ : Nat → Int32} {d : Nat} {T : Nat → Int} {n : Nat} {H : zp_H} {x : Int32} (hB : zk_Bs zB zg zJc H) (hn : n ≤ 700) (hx : x.toInt = n) (hT : ∀ k, k < n → (H.2.1 1 k).toInt = T k) : ∃ X, zp_Call L σ (d + 66) 50 [.inr (.inr (some 52)), .inl x, .inr (.inr (some 3)), .inr (.inr (some 34))] H X ∧ yRD 2 33 T n y00 X := by
  have W := zB_Wd (zB_dn hB)
  obtain ⟨H1, c1, c2, c3, v0, v1, v3, v4, vC, v7, v9, v10, v11, v12, v16⟩ := yc_clear2 (L := L) (σ := σ) (d := d + 62) hB
  have W1 := zB_Wd (zB_dn c2)
  have b0 := zB_dn c2
  have b1 := zB_putf (p := 33) (k := 0) (x := Int32.ofInt 0) b0 rfl (fun r hr => by cases hr; exact ⟨by decide, by decide⟩) (zJc_I rfl b0.2.2.2.2.2.2.2)
  have b2 := zB_putf (p := 33) (k := 7) (x := Int32.ofInt 0) b1 rfl (fun r hr => by cases hr; exact ⟨by decide, by decide⟩) (zJc_I rfl b1.2.2.2.2.2.2.2)
  have b3 := zB_putf (p := 53) (k := 1) (x := Int32.ofInt 0) b2 rfl (fun r hr => by cases hr; exact ⟨by decide, by decide⟩) (zJc_I rfl b2.2.2.2.2.2.2.2)
  have b4 := zB_putf (p := 51) (k := 2) (x := Int32.ofInt 0) b3 rfl (fun r hr => by cases hr; exact ⟨by decide, by decide⟩) (zJc_I rfl b3.2.2.2.2.2.2.2)
  have b5 := zB_putf (p := 51) (k := 3) (x := Int32.ofInt 0) b4 rfl (fun r hr => by cases hr; exact ⟨by decide, by decide⟩) (zJc_I rfl b4.2.2.2.2.2.2.2)
  have W5 := zB_Wd b5
  have eT : ∀ k, k < n → ((zw_I (zw_I (zw_I (zw_I (zw_I H1 33 0 (Int32.ofInt 0)) 33 7 (Int32.ofInt 0)) 53 1 (Int32.ofInt 0)) 51 2 (Int32.ofInt 0)) 51 3 (Int32.ofInt 0)).2.1 1 k).toInt = T k := fun k hk => by
    rw [show (zw_I (zw_I (zw_I (zw_I (zw_I H1 33 0 (Int32.ofInt 0)) 33 7 (Int32.ofInt 0)) 53 1 (Int32.ofInt 0)) 51 2 (Int32.ofInt 0)) 51 3 (Int32.ofInt 0)).2.1 1 k = H1.2.1 1 k from (zw_ne (zw_ne (zw_ne (zw_ne (zw_ne rfl rfl) rfl) rfl) rfl) rfl), (zI_in c3 (p := 1) (k := k) rfl rfl (fun h9 => absurd h9.1 (by decide))).1]
    exact hT k hk
  have e0 : (zw_I (zw_I (zw_I (zw_I (zw_I H1 33 0 (Int32.ofInt 0)) 33 7 (Int32.ofInt 0)) 53 1 (Int32.ofInt 0)) 51 2 (Int32.ofInt 0)) 51 3 (Int32.ofInt 0)).2.1 2 0 = H1.2.1 2 0 := (zw_ne (zw_ne (zw_ne (zw_ne (zw_ne rfl rfl) rfl) rfl) rfl) rfl)
  have e1 : (zw_I (zw_I (zw_I (zw_I (zw_I H1 33 0 (Int32.ofInt 0)) 33 7 (Int32.ofInt 0)) 53 1 (Int32.ofInt 0)) 51 2 (Int32.ofInt 0)) 51 3 (Int32.ofInt 0)).2.1 2 1 = H1.2.1 2 1 := (zw_ne (zw_ne (zw_ne (zw_ne (zw_ne rfl rfl) rfl) rfl) rfl) rfl)
  have e7 : (zw_I (zw_I (zw_I (zw_I (zw_I H1 33 0 (Int32.ofInt 0)) 33 7 (Int32.ofInt 0)) 53 1 (Int32.ofInt 0)) 51 2 (Int32.ofInt 0)) 51 3 (Int32.ofInt 0)).2.1 2 7 = H1.2.1 2 7 := (zw_ne (zw_ne (zw_ne (zw_ne (zw_ne rfl rfl) rfl) rfl) rfl) rfl)
  have e12 : (zw_I (zw_I (zw_I (zw_I (zw_I H1 33 0 (Int32.ofInt 0)) 33 7 (Int32.ofInt 0)) 53 1 (Int32.ofInt 0)) 51 2 (Int32.ofInt 0)) 51 3 (Int32.ofInt 0)).2.1 2 12 = H1.2.1 2 12 := (zw_ne (zw_ne (zw_ne (zw_ne (zw_ne rfl rfl) rfl) rfl) rfl) rfl)
  have e16 : (zw_I (zw_I (zw_I (zw_I (zw_I H1 33 0 (Int32.ofInt 0)) 33 7 (Int32.ofInt 0)) 53 1 (Int32.ofInt 0)) 51 2 (Int32.ofInt 0)) 51 3 (Int32.ofInt 0)).2.1 2 16 = H1.2.1 2 16 := (zw_ne (zw_ne (zw_ne (zw_ne (zw_ne rfl rfl) rfl) rfl) rfl) rfl)
  have ec : (zw_I (zw_I (zw_I (zw_I (zw_I H1 33 0 (Int32.ofInt 0)) 33 7 (Int32.ofInt 0)) 53 1 (Int32.ofInt 0)) 51 2 (Int32.ofInt 0)) 51 3 (Int32.ofInt 0)).2.1 33 0 = Int32.ofInt 0 := (zw_ne (zw_ne (zw_ne (zw_ne zw_eq rfl) rfl) rfl) rfl)
  have es : (zw_I (zw_I (zw_I (zw_I (zw_I H1 33 0 (Int32.ofInt 0)) 33 7 (Int32.ofInt 0)) 53 1 (Int32.ofInt 0)) 51 2 (Int32.ofInt 0)) 51 3 (Int32.ofInt 0)).2.1 51 2 = Int32.ofInt 0 := (zw_ne zw_eq rfl)
  have eg : (zw_I (zw_I (zw_I (zw_I (zw_I H1 33 0 (Int32.ofInt 0)) 33 7 (Int32.ofInt 0)) 53 1 (Int32.ofInt 0)) 51 2 (Int32.ofInt 0)) 51 3 (Int32.ofInt 0)).2.1 51 3 = Int32.ofInt 0 := zw_eq
  have D0 : yDc 2 33 y00d (zw_I (zw_I (zw_I (zw_I (zw_I H1 33 0 (Int32.ofInt 0)) 33 7 (Int32.ofInt 0)) 53 1 (Int32.ofInt 0)) 51 2 (Int32.ofInt 0)) 51 3 (Int32.ofInt 0)) := by
    refine ⟨by rw [e0, v0]; rfl, by rw [e1, v1]; rfl, by rw [ec]; rfl, by rw [e7, v7]; rfl, by rw [e12, v12]; rfl, by rw [e16, v16]; rfl, by rw [es]; rfl, by rw [eg]; rfl, v3, fun c hc => ⟨fun _ => y00d_f hc, fun _ => ?_⟩, by decide, fun w k hw hk h9 => absurd (show H1.2.2.1 5 w &&& yBit (k : Int) = 0 by rw [v4 w hw]; exact Int64.zero_and) h9⟩
    show (H1.2.2.1 5 0 ||| H1.2.2.1 5 1 ||| H1.2.2.1 5 2 ||| H1.2.2.1 5 3) &&& yBit c = 0
    rw [v4 0 (by decide), v4 1 (by decide), v4 2 (by decide), v4 3 (by decide)]
    exact Int64.zero_and
  have X0 : yXd (yLc 2 33) [] y00d (zw_I (zw_I (zw_I (zw_I (zw_I H1 33 0 (Int32.ofInt 0)) 33 7 (Int32.ofInt 0)) 53 1 (Int32.ofInt 0)) 51 2 (Int32.ofInt 0)) 51 3 (Int32.ofInt 0)) := by
    intro i i1 i2 _
    rcases y00d_i i2 with rfl | rfl | rfl | ⟨i3, i4⟩
    · show ((zw_I (zw_I (zw_I (zw_I (zw_I H1 33 0 (Int32.ofInt 0)) 33 7 (Int32.ofInt 0)) 53 1 (Int32.ofInt 0)) 51 2 (Int32.ofInt 0)) 51 3 (Int32.ofInt 0)).2.1 2 9).toInt = 0
      rw [show (zw_I (zw_I (zw_I (zw_I (zw_I H1 33 0 (Int32.ofInt 0)) 33 7 (Int32.ofInt 0)) 53 1 (Int32.ofInt 0)) 51 2 (Int32.ofInt 0)) 51 3 (Int32.ofInt 0)).2.1 2 9 = H1.2.1 2 9 from (zw_ne (zw_ne (zw_ne (zw_ne (zw_ne rfl rfl) rfl) rfl) rfl) rfl)]
      exact v9
    · show ((zw_I (zw_I (zw_I (zw_I (zw_I H1 33 0 (Int32.ofInt 0)) 33 7 (Int32.ofInt 0)) 53 1 (Int32.ofInt 0)) 51 2 (Int32.ofInt 0)) 51 3 (Int32.ofInt 0)).2.1 2 10).toInt = 2
      rw [show (zw_I (zw_I (zw_I (zw_I (zw_I H1 33 0 (Int32.ofInt 0)) 33 7 (Int32.ofInt 0)) 53 1 (Int32.ofInt 0)) 51 2 (Int32.ofInt 0)) 51 3 (Int32.ofInt 0)).2.1 2 10 = H1.2.1 2 10 from (zw_ne (zw_ne (zw_ne (zw_ne (zw_ne rfl rfl) rfl) rfl) rfl) rfl)]
      exact v10
    · show ((zw_I (zw_I (zw_I (zw_I (zw_I H1 33 0 (Int32.ofInt 0)) 33 7 (Int32.ofInt 0)) 53 1 (Int32.ofInt 0)) 51 2 (Int32.ofInt 0)) 51 3 (Int32.ofInt 0)).2.1 2 11).toInt = 5
      rw [show (zw_I (zw_I (zw_I (zw_I (zw_I H1 33 0 (Int32.ofInt 0)) 33 7 (Int32.ofInt 0)) 53 1 (Int32.ofInt 0)) 51 2 (Int32.ofInt 0)) 51 3 (Int32.ofInt 0)).2.1 2 11 = H1.2.1 2 11 from (zw_ne (zw_ne (zw_ne (zw_ne (zw_ne rfl rfl) rfl) rfl) rfl) rfl)]
      exact v11
    · obtain ⟨c, rfl⟩ : ∃ c, i = 100 + c := ⟨i - 100, by omega⟩
      rw [yL_100 (by omega), y00d_c (by omega)]
      rw [show (zw_I (zw_I (zw_I (zw_I (zw_I H1 33 0 (Int32.ofInt 0)) 33 7 (Int32.ofInt 0)) 53 1 (Int32.ofInt 0)) 51 2 (Int32.ofInt 0)) 51 3 (Int32.ofInt 0)).2.1 (2 + 2) c = H1.2.1 (2 + 2) c from (zw_ne (zw_ne (zw_ne (zw_ne (zw_ne rfl rfl) rfl) rfl) rfl) rfl)]
      exact vC c (by omega)
  have hwc : yWC 2 33 := ⟨by decide, by decide⟩
  obtain ⟨_, o1, R, rfl, o2, o3⟩ := yc_open (L := L) (σ := σ) (d := d + 61) (x := x) b5 hn hx eT
  have D1 : yDd 2 33 y00d R := yDd_F hwc o3 rfl rfl ⟨D0, X0⟩
  have WR := zB_Wd o2.1.1
  refine zw_met zm_50_t rfl rfl ?_
  refine zw_ld (n := 1) (k := 2) (f := zp_isR) (pc' := 1) rfl rfl rfl rfl rfl ?_
  refine zw_cnx (pc' := 4) (zw_cvx (q := 2) (Y := zm_2) W.1 rfl rfl zm_2_t rfl rfl) rfl rfl rfl rfl rfl (c1) ?_
  refine zw_ld (n := 1) (k := 3) (f := zp_isR) (pc' := 5) rfl rfl rfl rfl rfl ?_
  refine zw_cn (pc' := 8) (zw_cv (q := 33) (Y := zm_51) W1.1 rfl rfl zm_51_t rfl rfl) rfl rfl rfl rfl rfl (yc_cc33 (d := d + 64) W1) ?_
  refine zw_ld (n := 1) (k := 0) (f := zp_isR) (pc' := 9) rfl rfl rfl rfl rfl ?_
  refine zw_gR (q := 51) (pc' := 12) (zw_W_I (zw_W_I W1)) rfl rfl rfl rfl ((zw_W_I (zw_W_I W1)).2 51 1 _ rfl) rfl ?_
  refine zw_cn (pc' := 15) (zw_cv (q := 53) (Y := zm_52) (zw_W_I (zw_W_I W1)).1 rfl rfl zm_52_t rfl rfl) rfl rfl rfl rfl rfl (yc_ce (d := d + 64) (zw_W_I (zw_W_I W1))) ?_
  refine zw_ld (n := 1) (k := 0) (f := zp_isR) (pc' := 16) rfl rfl rfl rfl rfl ?_
  refine zw_s (pc' := 17) rfl rfl ?_
  refine zw_pI (q := 51) (pc' := 20) (zw_W_I (zw_W_I (zw_W_I W1))) rfl rfl rfl rfl (rfl) rfl ?_
  refine zw_ld (n := 1) (k := 0) (f := zp_isR) (pc' := 21) rfl rfl rfl rfl rfl ?_
  refine zw_s (pc' := 22) rfl rfl ?_
  refine zw_pI (q := 51) (pc' := 25) (zw_W_I (zw_W_I (zw_W_I (zw_W_I W1)))) rfl rfl rfl rfl (rfl) rfl ?_
  refine zw_ld (n := 1) (k := 0) (f := zp_isR) (pc' := 26) rfl rfl rfl rfl rfl ?_
  refine zw_gR (q := 51) (pc' := 29) W5 rfl rfl rfl rfl (W5.2 51 0 _ rfl) rfl ?_
  refine zw_ld (n := 1) (k := 1) (f := zp_isI) (pc' := 30) rfl rfl rfl rfl rfl ?_
  refine zw_cn (pc' := 33) (zw_cv (q := 52) (Y := zm_53) W5.1 rfl rfl zm_53_t rfl rfl) rfl rfl rfl rfl rfl (o1) ?_
  refine zw_s (pc' := 34) rfl rfl ?_
  refine zw_st (n := 2) (k := 4) (f := zp_isI) (pc' := 36) rfl rfl rfl rfl rfl ?_
  exact yc_readL2_33 yBCt 701 R _ _ 0 y00d (by decide) (zw_gt rfl rfl rfl) (zw_gt rfl rfl rfl) (zw_gt rfl rfl rfl) zw_g1 ⟨by decide, by decide⟩ rfl o2 D1 yR2_r

set_option maxRecDepth 8000 in
theorem yc_read22_13 {L : Nat} {σ : Nat → Int32} {d : Nat} {T : Nat → Int} {n : Nat} {H : zp_H} {x : Int32} (hB : zk_Bs zB zg zJc H) (hn : n ≤ 700) (hx : x.toInt = n) (hT : ∀ k, k < n → (H.2.1 1 k).toInt = T k) : ∃ X, zp_Call L σ (d + 66) 50 [.inr (.inr (some 52)), .inl x, .inr (.inr (some 23)), .inr (.inr (some 14))] H X ∧ yRD 22 13 T n y00 X := by
  have W := zB_Wd (zB_dn hB)
  obtain ⟨H1, c1, c2, c3, v0, v1, v3, v4, vC, v7, v9, v10, v11, v12, v16⟩ := yc_clear22 (L := L) (σ := σ) (d := d + 62) hB
  have W1 := zB_Wd (zB_dn c2)
  have b0 := zB_dn c2
  have b1 := zB_putf (p := 13) (k := 0) (x := Int32.ofInt 0) b0 rfl (fun r hr => by cases hr; exact ⟨by decide, by decide⟩) (zJc_I rfl b0.2.2.2.2.2.2.2)
  have b2 := zB_putf (p := 13) (k := 7) (x := Int32.ofInt 0) b1 rfl (fun r hr => by cases hr; exact ⟨by decide, by decide⟩) (zJc_I rfl b1.2.2.2.2.2.2.2)
  have b3 := zB_putf (p := 53) (k := 1) (x := Int32.ofInt 0) b2 rfl (fun r hr => by cases hr; exact ⟨by decide, by decide⟩) (zJc_I rfl b2.2.2.2.2.2.2.2)
  have b4 := zB_putf (p := 51) (k := 2) (x := Int32.ofInt 0) b3 rfl (fun r hr => by cases hr; exact ⟨by decide, by decide⟩) (zJc_I rfl b3.2.2.2.2.2.2.2)
  have b5 := zB_putf (p := 51) (k := 3) (x := Int32.ofInt 0) b4 rfl (fun r hr => by cases hr; exact ⟨by decide, by decide⟩) (zJc_I rfl b4.2.2.2.2.2.2.2)
  have W5 := zB_Wd b5
  have eT : ∀ k, k < n → ((zw_I (zw_I (zw_I (zw_I (zw_I H1 13 0 (Int32.ofInt 0)) 13 7 (Int32.ofInt 0)) 53 1 (Int32.ofInt 0)) 51 2 (Int32.ofInt 0)) 51 3 (Int32.ofInt 0)).2.1 1 k).toInt = T k := fun k hk => by
    rw [show (zw_I (zw_I (zw_I (zw_I (zw_I H1 13 0 (Int32.ofInt 0)) 13 7 (Int32.ofInt 0)) 53 1 (Int32.ofInt 0)) 51 2 (Int32.ofInt 0)) 51 3 (Int32.ofInt 0)).2.1 1 k = H1.2.1 1 k from (zw_ne (zw_ne (zw_ne (zw_ne (zw_ne rfl rfl) rfl) rfl) rfl) rfl), (zI_in c3 (p := 1) (k := k) rfl rfl (fun h9 => absurd h9.1 (by decide))).1]
    exact hT k hk
  have e0 : (zw_I (zw_I (zw_I (zw_I (zw_I H1 13 0 (Int32.ofInt 0)) 13 7 (Int32.ofInt 0)) 53 1 (Int32.ofInt 0)) 51 2 (Int32.ofInt 0)) 51 3 (Int32.ofInt 0)).2.1 22 0 = H1.2.1 22 0 := (zw_ne (zw_ne (zw_ne (zw_ne (zw_ne rfl rfl) rfl) rfl) rfl) rfl)
  have e1 : (zw_I (zw_I (zw_I (zw_I (zw_I H1 13 0 (Int32.ofInt 0)) 13 7 (Int32.ofInt 0)) 53 1 (Int32.ofInt 0)) 51 2 (Int32.ofInt 0)) 51 3 (Int32.ofInt 0)).2.1 22 1 = H1.2.1 22 1 := (zw_ne (zw_ne (zw_ne (zw_ne (zw_ne rfl rfl) rfl) rfl) rfl) rfl)
  have e7 : (zw_I (zw_I (zw_I (zw_I (zw_I H1 13 0 (Int32.ofInt 0)) 13 7 (Int32.ofInt 0)) 53 1 (Int32.ofInt 0)) 51 2 (Int32.ofInt 0)) 51 3 (Int32.ofInt 0)).2.1 22 7 = H1.2.1 22 7 := (zw_ne (zw_ne (zw_ne (zw_ne (zw_ne rfl rfl) rfl) rfl) rfl) rfl)
  have e12 : (zw_I (zw_I (zw_I (zw_I (zw_I H1 13 0 (Int32.ofInt 0)) 13 7 (Int32.ofInt 0)) 53 1 (Int32.ofInt 0)) 51 2 (Int32.ofInt 0)) 51 3 (Int32.ofInt 0)).2.1 22 12 = H1.2.1 22 12 := (zw_ne (zw_ne (zw_ne (zw_ne (zw_ne rfl rfl) rfl) rfl) rfl) rfl)
  have e16 : (zw_I (zw_I (zw_I (zw_I (zw_I H1 13 0 (Int32.ofInt 0)) 13 7 (Int32.ofInt 0)) 53 1 (Int32.ofInt 0)) 51 2 (Int32.ofInt 0)) 51 3 (Int32.ofInt 0)).2.1 22 16 = H1.2.1 22 16 := (zw_ne (zw_ne (zw_ne (zw_ne (zw_ne rfl rfl) rfl) rfl) rfl) rfl)
  have ec : (zw_I (zw_I (zw_I (zw_I (zw_I H1 13 0 (Int32.ofInt 0)) 13 7 (Int32.ofInt 0)) 53 1 (Int32.ofInt 0)) 51 2 (Int32.ofInt 0)) 51 3 (Int32.ofInt 0)).2.1 13 0 = Int32.ofInt 0 := (zw_ne (zw_ne (zw_ne (zw_ne zw_eq rfl) rfl) rfl) rfl)
  have es : (zw_I (zw_I (zw_I (zw_I (zw_I H1 13 0 (Int32.ofInt 0)) 13 7 (Int32.ofInt 0)) 53 1 (Int32.ofInt 0)) 51 2 (Int32.ofInt 0)) 51 3 (Int32.ofInt 0)).2.1 51 2 = Int32.ofInt 0 := (zw_ne zw_eq rfl)
  have eg : (zw_I (zw_I (zw_I (zw_I (zw_I H1 13 0 (Int32.ofInt 0)) 13 7 (Int32.ofInt 0)) 53 1 (Int32.ofInt 0)) 51 2 (Int32.ofInt 0)) 51 3 (Int32.ofInt 0)).2.1 51 3 = Int32.ofInt 0 := zw_eq
  have D0 : yDc 22 13 y00d (zw_I (zw_I (zw_I (zw_I (zw_I H1 13 0 (Int32.ofInt 0)) 13 7 (Int32.ofInt 0)) 53 1 (Int32.ofInt 0)) 51 2 (Int32.ofInt 0)) 51 3 (Int32.ofInt 0)) := by
    refine ⟨by rw [e0, v0]; rfl, by rw [e1, v1]; rfl, by rw [ec]; rfl, by rw [e7, v7]; rfl, by rw [e12, v12]; rfl, by rw [e16, v16]; rfl, by rw [es]; rfl, by rw [eg]; rfl, v3, fun c hc => ⟨fun _ => y00d_f hc, fun _ => ?_⟩, by decide, fun w k hw hk h9 => absurd (show H1.2.2.1 25 w &&& yBit (k : Int) = 0 by rw [v4 w hw]; exact Int64.zero_and) h9⟩
    show (H1.2.2.1 25 0 ||| H1.2.2.1 25 1 ||| H1.2.2.1 25 2 ||| H1.2.2.1 25 3) &&& yBit c = 0
    rw [v4 0 (by decide), v4 1 (by decide), v4 2 (by decide), v4 3 (by decide)]
    exact Int64.zero_and
  have X0 : yXd (yLc 22 13) [] y00d (zw_I (zw_I (zw_I (zw_I (zw_I H1 13 0 (Int32.ofInt 0)) 13 7 (Int32.ofInt 0)) 53 1 (Int32.ofInt 0)) 51 2 (Int32.ofInt 0)) 51 3 (Int32.ofInt 0)) := by
    intro i i1 i2 _
    rcases y00d_i i2 with rfl | rfl | rfl | ⟨i3, i4⟩
    · show ((zw_I (zw_I (zw_I (zw_I (zw_I H1 13 0 (Int32.ofInt 0)) 13 7 (Int32.ofInt 0)) 53 1 (Int32.ofInt 0)) 51 2 (Int32.ofInt 0)) 51 3 (Int32.ofInt 0)).2.1 22 9).toInt = 0
      rw [show (zw_I (zw_I (zw_I (zw_I (zw_I H1 13 0 (Int32.ofInt 0)) 13 7 (Int32.ofInt 0)) 53 1 (Int32.ofInt 0)) 51 2 (Int32.ofInt 0)) 51 3 (Int32.ofInt 0)).2.1 22 9 = H1.2.1 22 9 from (zw_ne (zw_ne (zw_ne (zw_ne (zw_ne rfl rfl) rfl) rfl) rfl) rfl)]
      exact v9
    · show ((zw_I (zw_I (zw_I (zw_I (zw_I H1 13 0 (Int32.ofInt 0)) 13 7 (Int32.ofInt 0)) 53 1 (Int32.ofInt 0)) 51 2 (Int32.ofInt 0)) 51 3 (Int32.ofInt 0)).2.1 22 10).toInt = 2
      rw [show (zw_I (zw_I (zw_I (zw_I (zw_I H1 13 0 (Int32.ofInt 0)) 13 7 (Int32.ofInt 0)) 53 1 (Int32.ofInt 0)) 51 2 (Int32.ofInt 0)) 51 3 (Int32.ofInt 0)).2.1 22 10 = H1.2.1 22 10 from (zw_ne (zw_ne (zw_ne (zw_ne (zw_ne rfl rfl) rfl) rfl) rfl) rfl)]
      exact v10
    · show ((zw_I (zw_I (zw_I (zw_I (zw_I H1 13 0 (Int32.ofInt 0)) 13 7 (Int32.ofInt 0)) 53 1 (Int32.ofInt 0)) 51 2 (Int32.ofInt 0)) 51 3 (Int32.ofInt 0)).2.1 22 11).toInt = 5
      rw [show (zw_I (zw_I (zw_I (zw_I (zw_I H1 13 0 (Int32.ofInt 0)) 13 7 (Int32.ofInt 0)) 53 1 (Int32.ofInt 0)) 51 2 (Int32.ofInt 0)) 51 3 (Int32.ofInt 0)).2.1 22 11 = H1.2.1 22 11 from (zw_ne (zw_ne (zw_ne (zw_ne (zw_ne rfl rfl) rfl) rfl) rfl) rfl)]
      exact v11
    · obtain ⟨c, rfl⟩ : ∃ c, i = 100 + c := ⟨i - 100, by omega⟩
      rw [yL_100 (by omega), y00d_c (by omega)]
      rw [show (zw_I (zw_I (zw_I (zw_I (zw_I H1 13 0 (Int32.ofInt 0)) 13 7 (Int32.ofInt 0)) 53 1 (Int32.ofInt 0)) 51 2 (Int32.ofInt 0)) 51 3 (Int32.ofInt 0)).2.1 (22 + 2) c = H1.2.1 (22 + 2) c from (zw_ne (zw_ne (zw_ne (zw_ne (zw_ne rfl rfl) rfl) rfl) rfl) rfl)]
      exact vC c (by omega)
  have hwc : yWC 22 13 := ⟨by decide, by decide⟩
  obtain ⟨_, o1, R, rfl, o2, o3⟩ := yc_open (L := L) (σ := σ) (d := d + 61) (x := x) b5 hn hx eT
  have D1 : yDd 22 13 y00d R := yDd_F hwc o3 rfl rfl ⟨D0, X0⟩
  have WR := zB_Wd o2.1.1
  refine zw_met zm_50_t rfl rfl ?_
  refine zw_ld (n := 1) (k := 2) (f := zp_isR) (pc' := 1) rfl rfl rfl rfl rfl ?_
  refine zw_cnx (pc' := 4) (zw_cvx (q := 22) (Y := zm_2) W.1 rfl rfl zm_2_t rfl rfl) rfl rfl rfl rfl rfl (c1) ?_
  refine zw_ld (n := 1) (k := 3) (f := zp_isR) (pc' := 5) rfl rfl rfl rfl rfl ?_
  refine zw_cn (pc' := 8) (zw_cv (q := 13) (Y := zm_51) W1.1 rfl rfl zm_51_t rfl rfl) rfl rfl rfl rfl rfl (yc_cc13 (d := d + 64) W1) ?_
  refine zw_ld (n := 1) (k := 0) (f := zp_isR) (pc' := 9) rfl rfl rfl rfl rfl ?_
  refine zw_gR (q := 51) (pc' := 12) (zw_W_I (zw_W_I W1)) rfl rfl rfl rfl ((zw_W_I (zw_W_I W1)).2 51 1 _ rfl) rfl ?_
  refine zw_cn (pc' := 15) (zw_cv (q := 53) (Y := zm_52) (zw_W_I (zw_W_I W1)).1 rfl rfl zm_52_t rfl rfl) rfl rfl rfl rfl rfl (yc_ce (d := d + 64) (zw_W_I (zw_W_I W1))) ?_
  refine zw_ld (n := 1) (k := 0) (f := zp_isR) (pc' := 16) rfl rfl rfl rfl rfl ?_
  refine zw_s (pc' := 17) rfl rfl ?_
  refine zw_pI (q := 51) (pc' := 20) (zw_W_I (zw_W_I (zw_W_I W1))) rfl rfl rfl rfl (rfl) rfl ?_
  refine zw_ld (n := 1) (k := 0) (f := zp_isR) (pc' := 21) rfl rfl rfl rfl rfl ?_
  refine zw_s (pc' := 22) rfl rfl ?_
  refine zw_pI (q := 51) (pc' := 25) (zw_W_I (zw_W_I (zw_W_I (zw_W_I W1)))) rfl rfl rfl rfl (rfl) rfl ?_
  refine zw_ld (n := 1) (k := 0) (f := zp_isR) (pc' := 26) rfl rfl rfl rfl rfl ?_
  refine zw_gR (q := 51) (pc' := 29) W5 rfl rfl rfl rfl (W5.2 51 0 _ rfl) rfl ?_
  refine zw_ld (n := 1) (k := 1) (f := zp_isI) (pc' := 30) rfl rfl rfl rfl rfl ?_
  refine zw_cn (pc' := 33) (zw_cv (q := 52) (Y := zm_53) W5.1 rfl rfl zm_53_t rfl rfl) rfl rfl rfl rfl rfl (o1) ?_
  refine zw_s (pc' := 34) rfl rfl ?_
  refine zw_st (n := 2) (k := 4) (f := zp_isI) (pc' := 36) rfl rfl rfl rfl rfl ?_
  exact yc_readL22_13 yBCt 701 R _ _ 0 y00d (by decide) (zw_gt rfl rfl rfl) (zw_gt rfl rfl rfl) (zw_gt rfl rfl rfl) zw_g1 ⟨by decide, by decide⟩ rfl o2 D1 yR2_r

set_option maxRecDepth 8000 in
theorem yc_read22_33 {L : Nat} {σ : Nat → Int32} {d : Nat} {T : Nat → Int} {n : Nat} {H : zp_H} {x : Int32} (hB : zk_Bs zB zg zJc H) (hn : n ≤ 700) (hx : x.toInt = n) (hT : ∀ k, k < n → (H.2.1 1 k).toInt = T k) : ∃ X, zp_Call L σ (d + 66) 50 [.inr (.inr (some 52)), .inl x, .inr (.inr (some 23)), .inr (.inr (some 34))] H X ∧ yRD 22 33 T n y00 X := by
  have W := zB_Wd (zB_dn hB)
  obtain ⟨H1, c1, c2, c3, v0, v1, v3, v4, vC, v7, v9, v10, v11, v12, v16⟩ := yc_clear22 (L := L) (σ := σ) (d := d + 62) hB
  have W1 := zB_Wd (zB_dn c2)
  have b0 := zB_dn c2
  have b1 := zB_putf (p := 33) (k := 0) (x := Int32.ofInt 0) b0 rfl (fun r hr => by cases hr; exact ⟨by decide, by decide⟩) (zJc_I rfl b0.2.2.2.2.2.2.2)
  have b2 := zB_putf (p := 33) (k := 7) (x := Int32.ofInt 0) b1 rfl (fun r hr => by cases hr; exact ⟨by decide, by decide⟩) (zJc_I rfl b1.2.2.2.2.2.2.2)
  have b3 := zB_putf (p := 53) (k := 1) (x := Int32.ofInt 0) b2 rfl (fun r hr => by cases hr; exact ⟨by decide, by decide⟩) (zJc_I rfl b2.2.2.2.2.2.2.2)
  have b4 := zB_putf (p := 51) (k := 2) (x := Int32.ofInt 0) b3 rfl (fun r hr => by cases hr; exact ⟨by decide, by decide⟩) (zJc_I rfl b3.2.2.2.2.2.2.2)
  have b5 := zB_putf (p := 51) (k := 3) (x := Int32.ofInt 0) b4 rfl (fun r hr => by cases hr; exact ⟨by decide, by decide⟩) (zJc_I rfl b4.2.2.2.2.2.2.2)
  have W5 := zB_Wd b5
  have eT : ∀ k, k < n → ((zw_I (zw_I (zw_I (zw_I (zw_I H1 33 0 (Int32.ofInt 0)) 33 7 (Int32.ofInt 0)) 53 1 (Int32.ofInt 0)) 51 2 (Int32.ofInt 0)) 51 3 (Int32.ofInt 0)).2.1 1 k).toInt = T k := fun k hk => by
    rw [show (zw_I (zw_I (zw_I (zw_I (zw_I H1 33 0 (Int32.ofInt 0)) 33 7 (Int32.ofInt 0)) 53 1 (Int32.ofInt 0)) 51 2 (Int32.ofInt 0)) 51 3 (Int32.ofInt 0)).2.1 1 k = H1.2.1 1 k from (zw_ne (zw_ne (zw_ne (zw_ne (zw_ne rfl rfl) rfl) rfl) rfl) rfl), (zI_in c3 (p := 1) (k := k) rfl rfl (fun h9 => absurd h9.1 (by decide))).1]
    exact hT k hk
  have e0 : (zw_I (zw_I (zw_I (zw_I (zw_I H1 33 0 (Int32.ofInt 0)) 33 7 (Int32.ofInt 0)) 53 1 (Int32.ofInt 0)) 51 2 (Int32.ofInt 0)) 51 3 (Int32.ofInt 0)).2.1 22 0 = H1.2.1 22 0 := (zw_ne (zw_ne (zw_ne (zw_ne (zw_ne rfl rfl) rfl) rfl) rfl) rfl)
  have e1 : (zw_I (zw_I (zw_I (zw_I (zw_I H1 33 0 (Int32.ofInt 0)) 33 7 (Int32.ofInt 0)) 53 1 (Int32.ofInt 0)) 51 2 (Int32.ofInt 0)) 51 3 (Int32.ofInt 0)).2.1 22 1 = H1.2.1 22 1 := (zw_ne (zw_ne (zw_ne (zw_ne (zw_ne rfl rfl) rfl) rfl) rfl) rfl)
  have e7 : (zw_I (zw_I (zw_I (zw_I (zw_I H1 33 0 (Int32.ofInt 0)) 33 7 (Int32.ofInt 0)) 53 1 (Int32.ofInt 0)) 51 2 (Int32.ofInt 0)) 51 3 (Int32.ofInt 0)).2.1 22 7 = H1.2.1 22 7 := (zw_ne (zw_ne (zw_ne (zw_ne (zw_ne rfl rfl) rfl) rfl) rfl) rfl)
  have e12 : (zw_I (zw_I (zw_I (zw_I (zw_I H1 33 0 (Int32.ofInt 0)) 33 7 (Int32.ofInt 0)) 53 1 (Int32.ofInt 0)) 51 2 (Int32.ofInt 0)) 51 3 (Int32.ofInt 0)).2.1 22 12 = H1.2.1 22 12 := (zw_ne (zw_ne (zw_ne (zw_ne (zw_ne rfl rfl) rfl) rfl) rfl) rfl)
  have e16 : (zw_I (zw_I (zw_I (zw_I (zw_I H1 33 0 (Int32.ofInt 0)) 33 7 (Int32.ofInt 0)) 53 1 (Int32.ofInt 0)) 51 2 (Int32.ofInt 0)) 51 3 (Int32.ofInt 0)).2.1 22 16 = H1.2.1 22 16 := (zw_ne (zw_ne (zw_ne (zw_ne (zw_ne rfl rfl) rfl) rfl) rfl) rfl)
  have ec : (zw_I (zw_I (zw_I (zw_I (zw_I H1 33 0 (Int32.ofInt 0)) 33 7 (Int32.ofInt 0)) 53 1 (Int32.ofInt 0)) 51 2 (Int32.ofInt 0)) 51 3 (Int32.ofInt 0)).2.1 33 0 = Int32.ofInt 0 := (zw_ne (zw_ne (zw_ne (zw_ne zw_eq rfl) rfl) rfl) rfl)
  have es : (zw_I (zw_I (zw_I (zw_I (zw_I H1 33 0 (Int32.ofInt 0)) 33 7 (Int32.ofInt 0)) 53 1 (Int32.ofInt 0)) 51 2 (Int32.ofInt 0)) 51 3 (Int32.ofInt 0)).2.1 51 2 = Int32.ofInt 0 := (zw_ne zw_eq rfl)
  have eg : (zw_I (zw_I (zw_I (zw_I (zw_I H1 33 0 (Int32.ofInt 0)) 33 7 (Int32.ofInt 0)) 53 1 (Int32.ofInt 0)) 51 2 (Int32.ofInt 0)) 51 3 (Int32.ofInt 0)).2.1 51 3 = Int32.ofInt 0 := zw_eq
  have D0 : yDc 22 33 y00d (zw_I (zw_I (zw_I (zw_I (zw_I H1 33 0 (Int32.ofInt 0)) 33 7 (Int32.ofInt 0)) 53 1 (Int32.ofInt 0)) 51 2 (Int32.ofInt 0)) 51 3 (Int32.ofInt 0)) := by
    refine ⟨by rw [e0, v0]; rfl, by rw [e1, v1]; rfl, by rw [ec]; rfl, by rw [e7, v7]; rfl, by rw [e12, v12]; rfl, by rw [e16, v16]; rfl, by rw [es]; rfl, by rw [eg]; rfl, v3, fun c hc => ⟨fun _ => y00d_f hc, fun _ => ?_⟩, by decide, fun w k hw hk h9 => absurd (show H1.2.2.1 25 w &&& yBit (k : Int) = 0 by rw [v4 w hw]; exact Int64.zero_and) h9⟩
    show (H1.2.2.1 25 0 ||| H1.2.2.1 25 1 ||| H1.2.2.1 25 2 ||| H1.2.2.1 25 3) &&& yBit c = 0
    rw [v4 0 (by decide), v4 1 (by decide), v4 2 (by decide), v4 3 (by decide)]
    exact Int64.zero_and
  have X0 : yXd (yLc 22 33) [] y00d (zw_I (zw_I (zw_I (zw_I (zw_I H1 33 0 (Int32.ofInt 0)) 33 7 (Int32.ofInt 0)) 53 1 (Int32.ofInt 0)) 51 2 (Int32.ofInt 0)) 51 3 (Int32.ofInt 0)) := by
    intro i i1 i2 _
    rcases y00d_i i2 with rfl | rfl | rfl | ⟨i3, i4⟩
    · show ((zw_I (zw_I (zw_I (zw_I (zw_I H1 33 0 (Int32.ofInt 0)) 33 7 (Int32.ofInt 0)) 53 1 (Int32.ofInt 0)) 51 2 (Int32.ofInt 0)) 51 3 (Int32.ofInt 0)).2.1 22 9).toInt = 0
      rw [show (zw_I (zw_I (zw_I (zw_I (zw_I H1 33 0 (Int32.ofInt 0)) 33 7 (Int32.ofInt 0)) 53 1 (Int32.ofInt 0)) 51 2 (Int32.ofInt 0)) 51 3 (Int32.ofInt 0)).2.1 22 9 = H1.2.1 22 9 from (zw_ne (zw_ne (zw_ne (zw_ne (zw_ne rfl rfl) rfl) rfl) rfl) rfl)]
      exact v9
    · show ((zw_I (zw_I (zw_I (zw_I (zw_I H1 33 0 (Int32.ofInt 0)) 33 7 (Int32.ofInt 0)) 53 1 (Int32.ofInt 0)) 51 2 (Int32.ofInt 0)) 51 3 (Int32.ofInt 0)).2.1 22 10).toInt = 2
      rw [show (zw_I (zw_I (zw_I (zw_I (zw_I H1 33 0 (Int32.ofInt 0)) 33 7 (Int32.ofInt 0)) 53 1 (Int32.ofInt 0)) 51 2 (Int32.ofInt 0)) 51 3 (Int32.ofInt 0)).2.1 22 10 = H1.2.1 22 10 from (zw_ne (zw_ne (zw_ne (zw_ne (zw_ne rfl rfl) rfl) rfl) rfl) rfl)]
      exact v10
    · show ((zw_I (zw_I (zw_I (zw_I (zw_I H1 33 0 (Int32.ofInt 0)) 33 7 (Int32.ofInt 0)) 53 1 (Int32.ofInt 0)) 51 2 (Int32.ofInt 0)) 51 3 (Int32.ofInt 0)).2.1 22 11).toInt = 5
      rw [show (zw_I (zw_I (zw_I (zw_I (zw_I H1 33 0 (Int32.ofInt 0)) 33 7 (Int32.ofInt 0)) 53 1 (Int32.ofInt 0)) 51 2 (Int32.ofInt 0)) 51 3 (Int32.ofInt 0)).2.1 22 11 = H1.2.1 22 11 from (zw_ne (zw_ne (zw_ne (zw_ne (zw_ne rfl rfl) rfl) rfl) rfl) rfl)]
      exact v11
    · obtain ⟨c, rfl⟩ : ∃ c, i = 100 + c := ⟨i - 100, by omega⟩
      rw [yL_100 (by omega), y00d_c (by omega)]
      rw [show (zw_I (zw_I (zw_I (zw_I (zw_I H1 33 0 (Int32.ofInt 0)) 33 7 (Int32.ofInt 0)) 53 1 (Int32.ofInt 0)) 51 2 (Int32.ofInt 0)) 51 3 (Int32.ofInt 0)).2.1 (22 + 2) c = H1.2.1 (22 + 2) c from (zw_ne (zw_ne (zw_ne (zw_ne (zw_ne rfl rfl) rfl) rfl) rfl) rfl)]
      exact vC c (by omega)
  have hwc : yWC 22 33 := ⟨by decide, by decide⟩
  obtain ⟨_, o1, R, rfl, o2, o3⟩ := yc_open (L := L) (σ := σ) (d := d + 61) (x := x) b5 hn hx eT
  have D1 : yDd 22 33 y00d R := yDd_F hwc o3 rfl rfl ⟨D0, X0⟩
  have WR := zB_Wd o2.1.1
  refine zw_met zm_50_t rfl rfl ?_
  refine zw_ld (n := 1) (k := 2) (f := zp_isR) (pc' := 1) rfl rfl rfl rfl rfl ?_
  refine zw_cnx (pc' := 4) (zw_cvx (q := 22) (Y := zm_2) W.1 rfl rfl zm_2_t rfl rfl) rfl rfl rfl rfl rfl (c1) ?_
  refine zw_ld (n := 1) (k := 3) (f := zp_isR) (pc' := 5) rfl rfl rfl rfl rfl ?_
  refine zw_cn (pc' := 8) (zw_cv (q := 33) (Y := zm_51) W1.1 rfl rfl zm_51_t rfl rfl) rfl rfl rfl rfl rfl (yc_cc33 (d := d + 64) W1) ?_
  refine zw_ld (n := 1) (k := 0) (f := zp_isR) (pc' := 9) rfl rfl rfl rfl rfl ?_
  refine zw_gR (q := 51) (pc' := 12) (zw_W_I (zw_W_I W1)) rfl rfl rfl rfl ((zw_W_I (zw_W_I W1)).2 51 1 _ rfl) rfl ?_
  refine zw_cn (pc' := 15) (zw_cv (q := 53) (Y := zm_52) (zw_W_I (zw_W_I W1)).1 rfl rfl zm_52_t rfl rfl) rfl rfl rfl rfl rfl (yc_ce (d := d + 64) (zw_W_I (zw_W_I W1))) ?_
  refine zw_ld (n := 1) (k := 0) (f := zp_isR) (pc' := 16) rfl rfl rfl rfl rfl ?_
  refine zw_s (pc' := 17) rfl rfl ?_
  refine zw_pI (q := 51) (pc' := 20) (zw_W_I (zw_W_I (zw_W_I W1))) rfl rfl rfl rfl (rfl) rfl ?_
  refine zw_ld (n := 1) (k := 0) (f := zp_isR) (pc' := 21) rfl rfl rfl rfl rfl ?_
  refine zw_s (pc' := 22) rfl rfl ?_
  refine zw_pI (q := 51) (pc' := 25) (zw_W_I (zw_W_I (zw_W_I (zw_W_I W1)))) rfl rfl rfl rfl (rfl) rfl ?_
  refine zw_ld (n := 1) (k := 0) (f := zp_isR) (pc' := 26) rfl rfl rfl rfl rfl ?_
  refine zw_gR (q := 51) (pc' := 29) W5 rfl rfl rfl rfl (W5.2 51 0 _ rfl) rfl ?_
  refine zw_ld (n := 1) (k := 1) (f := zp_isI) (pc' := 30) rfl rfl rfl rfl rfl ?_
  refine zw_cn (pc' := 33) (zw_cv (q := 52) (Y := zm_53) W5.1 rfl rfl zm_53_t rfl rfl) rfl rfl rfl rfl rfl (o1) ?_
  refine zw_s (pc' := 34) rfl rfl ?_
  refine zw_st (n := 2) (k := 4) (f := zp_isI) (pc' := 36) rfl rfl rfl rfl rfl ?_
  exact yc_readL22_33 yBCt 701 R _ _ 0 y00d (by decide) (zw_gt rfl rfl rfl) (zw_gt rfl rfl rfl) (zw_gt rfl rfl rfl) zw_g1 ⟨by decide, by decide⟩ rfl o2 D1 yR2_r
