/-! ===== the class reads a text, exactly: the loop, with data ===== -/

/-- the class read the text -/
def yRD (wp cp : Nat) (T : Nat → Int) (n : Nat) (s0 : yL) (X : zp_X) : Prop := ∃ v H1, X = (.inl (some (.inl v)), H1) ∧ ((v.toInt = 1 ∧ ∃ q d, yA2 T n s0 (0, q) ∧ yR2 T n s0 (0, [], 0, 0, 0, d, q) ∧ ys_kd T n q = 0 ∧ yDd T n wp cp d H1) ∨ (v.toInt = 0 ∧ ∃ r : Int × Nat, yFc T n r H1 ∧ yA2 T n s0 r ∧ 1 ≤ r.1 ∧ r.1 ≤ 5))
theorem y0_e {T : Nat → Int} {n p : Nat} {d : yLD} (h0 : ys_kd T n p = 0) : y0 T n d p = .inr (0, p) := by
  unfold y0
  rw [if_pos h0]

set_option maxRecDepth 8000 in
theorem yc_readL2_13 {L : Nat} {σ : Nat → Int32} {dd : Nat} {T : Nat → Int} {n : Nat} {s0 : yL} (hbu : yBCu) (hs0 : y15 n s0) : ∀ (m : Nat) (H : zp_H) (lv9 : zp_LV) (i : Int32) (q : Nat) (d : yLD), 701 - i.toInt.toNat ≤ m → zp_get lv9 0 = some (.inr (.inr (some 52))) → zp_get lv9 2 = some (.inr (.inr (some 3))) → zp_get lv9 3 = some (.inr (.inr (some 14))) → zp_get lv9 4 = some (.inl i) → 0 ≤ i.toInt ∧ i.toInt ≤ q → d.1 0 = (if i.toInt = 0 then 1 else 0) → yE T n q H → yDd T n 2 13 d H → yR2 T n s0 (0, [], 0, 0, 0, d, q) → zs_Safe L σ (yRD 2 13 T n s0) zm_50 [] (dd + 65) (36, lv9, [], H, (0, 0)) := by
  intro m
  induction m with
  | zero =>
    intro H lv9 i q d hm l0 l2 l3 l4 hi hf h hD hR
    have hwc : yWC 2 13 := ⟨by decide, by decide⟩
    have W := zB_Wd h.1.1
    have h4 := yE_4 h
    have hqn := h.2.2
    have hn7 := h.1.2.1
    refine zw_ld (n := 2) (k := 4) (f := zp_isI) (pc' := 38) rfl rfl l4 rfl rfl ?_
    refine zw_s (pc' := 41) rfl rfl ?_
    refine zw_bgt2 (g := 88) (pc' := 44) rfl rfl rfl rfl (rfl : _ = (700 : Int)) (fun h7 => ?_) (fun h7 => ?_)
    · have hk0 := ys_kd_n (T := T) (n := n) (p := q) (by omega)
      refine zw_s (pc' := 89) rfl rfl ?_
      refine zw_rz rfl rfl (by decide) ?_
      exact ⟨_, H, rfl, Or.inl ⟨rfl, q, d, yR2_a hR (yA2_done (yN2_0.trans (y0_e hk0))), hR, hk0, hD⟩⟩
    · refine zw_ld (n := 1) (k := 0) (f := zp_isR) (pc' := 45) rfl rfl l0 rfl rfl ?_
      refine zw_gR (q := 51) (pc' := 48) W rfl rfl rfl rfl (W.2 51 0 _ rfl) rfl ?_
      refine zw_gI (q := 52) (pc' := 51) W rfl rfl rfl rfl rfl rfl ?_
      refine zw_beq1 (g := 88) (pc' := 54) rfl rfl rfl rfl (fun h1 => ?_) (fun h1 => ?_)
      · refine zw_s (pc' := 89) rfl rfl ?_
        refine zw_rz rfl rfl (by decide) ?_
        exact ⟨_, H, rfl, Or.inl ⟨rfl, q, d, yR2_a hR (yA2_done (yN2_0.trans (y0_e (by omega)))), hR, by omega, hD⟩⟩
      · have hk0 := ys_kd_n (T := T) (n := n) (p := q) (by omega)
        omega
  | succ m ih =>
    intro H lv9 i q d hm l0 l2 l3 l4 hi hf h hD hR
    have hwc : yWC 2 13 := ⟨by decide, by decide⟩
    have W := zB_Wd h.1.1
    have h4 := yE_4 h
    have hqn := h.2.2
    have hn7 := h.1.2.1
    refine zw_ld (n := 2) (k := 4) (f := zp_isI) (pc' := 38) rfl rfl l4 rfl rfl ?_
    refine zw_s (pc' := 41) rfl rfl ?_
    refine zw_bgt2 (g := 88) (pc' := 44) rfl rfl rfl rfl (rfl : _ = (700 : Int)) (fun h7 => ?_) (fun h7 => ?_)
    · have hk0 := ys_kd_n (T := T) (n := n) (p := q) (by omega)
      refine zw_s (pc' := 89) rfl rfl ?_
      refine zw_rz rfl rfl (by decide) ?_
      exact ⟨_, H, rfl, Or.inl ⟨rfl, q, d, yR2_a hR (yA2_done (yN2_0.trans (y0_e hk0))), hR, hk0, hD⟩⟩
    · refine zw_ld (n := 1) (k := 0) (f := zp_isR) (pc' := 45) rfl rfl l0 rfl rfl ?_
      refine zw_gR (q := 51) (pc' := 48) W rfl rfl rfl rfl (W.2 51 0 _ rfl) rfl ?_
      refine zw_gI (q := 52) (pc' := 51) W rfl rfl rfl rfl rfl rfl ?_
      refine zw_beq1 (g := 88) (pc' := 54) rfl rfl rfl rfl (fun h1 => ?_) (fun h1 => ?_)
      · refine zw_s (pc' := 89) rfl rfl ?_
        refine zw_rz rfl rfl (by decide) ?_
        exact ⟨_, H, rfl, Or.inl ⟨rfl, q, d, yR2_a hR (yA2_done (yN2_0.trans (y0_e (by omega)))), hR, by omega, hD⟩⟩
      · refine zw_ld (n := 1) (k := 0) (f := zp_isR) (pc' := 55) rfl rfl l0 rfl rfl ?_
        refine zw_ld (n := 2) (k := 4) (f := zp_isI) (pc' := 57) rfl rfl l4 rfl rfl ?_
        refine zw_bne1 (g := 64) (pc' := 60) rfl rfl rfl rfl (fun h0 => ?_) (fun h0 => ?_)
        · obtain ⟨_, c1, v, H1, rfl, c3⟩ := yc_line2_13 (L := L) (σ := σ) (dd := dd) (d := d) (f := Int32.ofInt 0) (by rw [hf, if_neg (by omega)]; rfl) hbu (y15_R hs0 hR) (by omega) h hD
          refine zw_s (pc' := 65) rfl rfl ?_
          refine zw_ld (n := 1) (k := 2) (f := zp_isR) (pc' := 66) rfl rfl l2 rfl rfl ?_
          refine zw_ld (n := 1) (k := 3) (f := zp_isR) (pc' := 67) rfl rfl l3 rfl rfl ?_
          refine zw_c (pc' := 70) (zw_cv (q := 51) (Y := zm_61) W.1 rfl rfl zm_61_t rfl rfl) rfl rfl rfl rfl rfl (c1) ?_
          refine zw_beq1 (g := 80) (pc' := 73) rfl rfl rfl rfl (fun hv => ?_) (fun hv => ?_)
          · refine zw_s (pc' := 81) rfl rfl ?_
            refine zw_rz rfl rfl (by decide) ?_
            rcases c3 with ⟨k1, _⟩ | ⟨_, r, _, k3, k4, k5⟩
            · omega
            · exact ⟨_, H1, rfl, Or.inr ⟨rfl, r, k3, yR2_a hR k4, k5⟩⟩
          · rcases c3 with ⟨_, d', q', k2, k3, k4, k9⟩ | ⟨k1, _⟩
            rotate_left
            · omega
            have W1 := zB_Wd k2.1.1
            obtain ⟨_, d1, v2, H2, rfl, d2, d3⟩ := yc_end (L := L) (σ := σ) (d := dd + 61) k2
            refine zw_ld (n := 1) (k := 0) (f := zp_isR) (pc' := 74) rfl rfl l0 rfl rfl ?_
            refine zw_c (pc' := 77) (zw_cv (q := 51) (Y := zm_97) W1.1 rfl rfl zm_97_t rfl rfl) rfl rfl rfl rfl rfl (d1) ?_
            refine zw_bne1 (g := 82) (pc' := 80) rfl rfl rfl rfl (fun hv2 => ?_) (fun hv2 => ?_)
            · rcases d3 with ⟨_, m2, m3⟩ | ⟨m1, _⟩
              rotate_left
              · omega
              have hD2 : yDd T n 2 13 d' H2 := yDd_F hwc d2 rfl rfl k3
              have hD3 : yDd T n 2 13 (yU d'.1 0 0, d'.2) H2 := ⟨hD2.1, xXc_k (by decide) hD2.2⟩
              have ei : (i + Int32.ofInt 1).toInt = i.toInt + 1 := zw_p1 (by omega)
              have hadv := ys_adv (T := T) k2.2.2 (by omega)
              have hm3 := m3.2.2
              have k9 : q ≤ q' := k9
              refine zw_ii (pc' := 85) rfl l4 rfl rfl ?_
              refine zw_s (pc' := 36) rfl rfl ?_
              refine ih H2 _ _ _ (yU d'.1 0 0, d'.2) ?_ (zw_gt l0 rfl rfl) (zw_gt l2 rfl rfl) (zw_gt l3 rfl rfl) zw_g1 ⟨by omega, ?_⟩ ?_ m3 hD3 (yR2_t hR (yR2_t k4 (yR2_s (yN2_50.trans (if_pos m2)))))
              · rw [ei]; omega
              · omega
              · rw [if_neg (by omega)]; rfl
            · refine zw_s (pc' := 81) rfl rfl ?_
              refine zw_rz rfl rfl (by decide) ?_
              rcases d3 with ⟨m1, _⟩ | ⟨_, m2, m3, m4⟩
              · omega
              · exact ⟨_, H2, rfl, Or.inr ⟨rfl, _, m3, yR2_a hR (yR2_a k4 (yA2_done (yN2_50.trans (if_neg m2)))), show 1 ≤ (1 : Int) ∧ (1 : Int) ≤ 5 from by decide⟩⟩
        · obtain ⟨_, c1, v, H1, rfl, c3⟩ := yc_line2_13 (L := L) (σ := σ) (dd := dd) (d := d) (f := Int32.ofInt 1) (by rw [hf, if_pos (by omega)]; rfl) hbu (y15_R hs0 hR) (by omega) h hD
          refine zw_s (pc' := 61) rfl rfl ?_
          refine zw_s (pc' := 65) rfl rfl ?_
          refine zw_ld (n := 1) (k := 2) (f := zp_isR) (pc' := 66) rfl rfl l2 rfl rfl ?_
          refine zw_ld (n := 1) (k := 3) (f := zp_isR) (pc' := 67) rfl rfl l3 rfl rfl ?_
          refine zw_c (pc' := 70) (zw_cv (q := 51) (Y := zm_61) W.1 rfl rfl zm_61_t rfl rfl) rfl rfl rfl rfl rfl (c1) ?_
          refine zw_beq1 (g := 80) (pc' := 73) rfl rfl rfl rfl (fun hv => ?_) (fun hv => ?_)
          · refine zw_s (pc' := 81) rfl rfl ?_
            refine zw_rz rfl rfl (by decide) ?_
            rcases c3 with ⟨k1, _⟩ | ⟨_, r, _, k3, k4, k5⟩
            · omega
            · exact ⟨_, H1, rfl, Or.inr ⟨rfl, r, k3, yR2_a hR k4, k5⟩⟩
          · rcases c3 with ⟨_, d', q', k2, k3, k4, k9⟩ | ⟨k1, _⟩
            rotate_left
            · omega
            have W1 := zB_Wd k2.1.1
            obtain ⟨_, d1, v2, H2, rfl, d2, d3⟩ := yc_end (L := L) (σ := σ) (d := dd + 61) k2
            refine zw_ld (n := 1) (k := 0) (f := zp_isR) (pc' := 74) rfl rfl l0 rfl rfl ?_
            refine zw_c (pc' := 77) (zw_cv (q := 51) (Y := zm_97) W1.1 rfl rfl zm_97_t rfl rfl) rfl rfl rfl rfl rfl (d1) ?_
            refine zw_bne1 (g := 82) (pc' := 80) rfl rfl rfl rfl (fun hv2 => ?_) (fun hv2 => ?_)
            · rcases d3 with ⟨_, m2, m3⟩ | ⟨m1, _⟩
              rotate_left
              · omega
              have hD2 : yDd T n 2 13 d' H2 := yDd_F hwc d2 rfl rfl k3
              have hD3 : yDd T n 2 13 (yU d'.1 0 0, d'.2) H2 := ⟨hD2.1, xXc_k (by decide) hD2.2⟩
              have ei : (i + Int32.ofInt 1).toInt = i.toInt + 1 := zw_p1 (by omega)
              have hadv := ys_adv (T := T) k2.2.2 (by omega)
              have hm3 := m3.2.2
              have k9 : q ≤ q' := k9
              refine zw_ii (pc' := 85) rfl l4 rfl rfl ?_
              refine zw_s (pc' := 36) rfl rfl ?_
              refine ih H2 _ _ _ (yU d'.1 0 0, d'.2) ?_ (zw_gt l0 rfl rfl) (zw_gt l2 rfl rfl) (zw_gt l3 rfl rfl) zw_g1 ⟨by omega, ?_⟩ ?_ m3 hD3 (yR2_t hR (yR2_t k4 (yR2_s (yN2_50.trans (if_pos m2)))))
              · rw [ei]; omega
              · omega
              · rw [if_neg (by omega)]; rfl
            · refine zw_s (pc' := 81) rfl rfl ?_
              refine zw_rz rfl rfl (by decide) ?_
              rcases d3 with ⟨m1, _⟩ | ⟨_, m2, m3, m4⟩
              · omega
              · exact ⟨_, H2, rfl, Or.inr ⟨rfl, _, m3, yR2_a hR (yR2_a k4 (yA2_done (yN2_50.trans (if_neg m2)))), show 1 ≤ (1 : Int) ∧ (1 : Int) ≤ 5 from by decide⟩⟩

set_option maxRecDepth 8000 in
theorem yc_readL2_33 {L : Nat} {σ : Nat → Int32} {dd : Nat} {T : Nat → Int} {n : Nat} {s0 : yL} (hbu : yBCu) (hs0 : y15 n s0) : ∀ (m : Nat) (H : zp_H) (lv9 : zp_LV) (i : Int32) (q : Nat) (d : yLD), 701 - i.toInt.toNat ≤ m → zp_get lv9 0 = some (.inr (.inr (some 52))) → zp_get lv9 2 = some (.inr (.inr (some 3))) → zp_get lv9 3 = some (.inr (.inr (some 34))) → zp_get lv9 4 = some (.inl i) → 0 ≤ i.toInt ∧ i.toInt ≤ q → d.1 0 = (if i.toInt = 0 then 1 else 0) → yE T n q H → yDd T n 2 33 d H → yR2 T n s0 (0, [], 0, 0, 0, d, q) → zs_Safe L σ (yRD 2 33 T n s0) zm_50 [] (dd + 65) (36, lv9, [], H, (0, 0)) := by
  intro m
  induction m with
  | zero =>
    intro H lv9 i q d hm l0 l2 l3 l4 hi hf h hD hR
    have hwc : yWC 2 33 := ⟨by decide, by decide⟩
    have W := zB_Wd h.1.1
    have h4 := yE_4 h
    have hqn := h.2.2
    have hn7 := h.1.2.1
    refine zw_ld (n := 2) (k := 4) (f := zp_isI) (pc' := 38) rfl rfl l4 rfl rfl ?_
    refine zw_s (pc' := 41) rfl rfl ?_
    refine zw_bgt2 (g := 88) (pc' := 44) rfl rfl rfl rfl (rfl : _ = (700 : Int)) (fun h7 => ?_) (fun h7 => ?_)
    · have hk0 := ys_kd_n (T := T) (n := n) (p := q) (by omega)
      refine zw_s (pc' := 89) rfl rfl ?_
      refine zw_rz rfl rfl (by decide) ?_
      exact ⟨_, H, rfl, Or.inl ⟨rfl, q, d, yR2_a hR (yA2_done (yN2_0.trans (y0_e hk0))), hR, hk0, hD⟩⟩
    · refine zw_ld (n := 1) (k := 0) (f := zp_isR) (pc' := 45) rfl rfl l0 rfl rfl ?_
      refine zw_gR (q := 51) (pc' := 48) W rfl rfl rfl rfl (W.2 51 0 _ rfl) rfl ?_
      refine zw_gI (q := 52) (pc' := 51) W rfl rfl rfl rfl rfl rfl ?_
      refine zw_beq1 (g := 88) (pc' := 54) rfl rfl rfl rfl (fun h1 => ?_) (fun h1 => ?_)
      · refine zw_s (pc' := 89) rfl rfl ?_
        refine zw_rz rfl rfl (by decide) ?_
        exact ⟨_, H, rfl, Or.inl ⟨rfl, q, d, yR2_a hR (yA2_done (yN2_0.trans (y0_e (by omega)))), hR, by omega, hD⟩⟩
      · have hk0 := ys_kd_n (T := T) (n := n) (p := q) (by omega)
        omega
  | succ m ih =>
    intro H lv9 i q d hm l0 l2 l3 l4 hi hf h hD hR
    have hwc : yWC 2 33 := ⟨by decide, by decide⟩
    have W := zB_Wd h.1.1
    have h4 := yE_4 h
    have hqn := h.2.2
    have hn7 := h.1.2.1
    refine zw_ld (n := 2) (k := 4) (f := zp_isI) (pc' := 38) rfl rfl l4 rfl rfl ?_
    refine zw_s (pc' := 41) rfl rfl ?_
    refine zw_bgt2 (g := 88) (pc' := 44) rfl rfl rfl rfl (rfl : _ = (700 : Int)) (fun h7 => ?_) (fun h7 => ?_)
    · have hk0 := ys_kd_n (T := T) (n := n) (p := q) (by omega)
      refine zw_s (pc' := 89) rfl rfl ?_
      refine zw_rz rfl rfl (by decide) ?_
      exact ⟨_, H, rfl, Or.inl ⟨rfl, q, d, yR2_a hR (yA2_done (yN2_0.trans (y0_e hk0))), hR, hk0, hD⟩⟩
    · refine zw_ld (n := 1) (k := 0) (f := zp_isR) (pc' := 45) rfl rfl l0 rfl rfl ?_
      refine zw_gR (q := 51) (pc' := 48) W rfl rfl rfl rfl (W.2 51 0 _ rfl) rfl ?_
      refine zw_gI (q := 52) (pc' := 51) W rfl rfl rfl rfl rfl rfl ?_
      refine zw_beq1 (g := 88) (pc' := 54) rfl rfl rfl rfl (fun h1 => ?_) (fun h1 => ?_)
      · refine zw_s (pc' := 89) rfl rfl ?_
        refine zw_rz rfl rfl (by decide) ?_
        exact ⟨_, H, rfl, Or.inl ⟨rfl, q, d, yR2_a hR (yA2_done (yN2_0.trans (y0_e (by omega)))), hR, by omega, hD⟩⟩
      · refine zw_ld (n := 1) (k := 0) (f := zp_isR) (pc' := 55) rfl rfl l0 rfl rfl ?_
        refine zw_ld (n := 2) (k := 4) (f := zp_isI) (pc' := 57) rfl rfl l4 rfl rfl ?_
        refine zw_bne1 (g := 64) (pc' := 60) rfl rfl rfl rfl (fun h0 => ?_) (fun h0 => ?_)
        · obtain ⟨_, c1, v, H1, rfl, c3⟩ := yc_line2_33 (L := L) (σ := σ) (dd := dd) (d := d) (f := Int32.ofInt 0) (by rw [hf, if_neg (by omega)]; rfl) hbu (y15_R hs0 hR) (by omega) h hD
          refine zw_s (pc' := 65) rfl rfl ?_
          refine zw_ld (n := 1) (k := 2) (f := zp_isR) (pc' := 66) rfl rfl l2 rfl rfl ?_
          refine zw_ld (n := 1) (k := 3) (f := zp_isR) (pc' := 67) rfl rfl l3 rfl rfl ?_
          refine zw_c (pc' := 70) (zw_cv (q := 51) (Y := zm_61) W.1 rfl rfl zm_61_t rfl rfl) rfl rfl rfl rfl rfl (c1) ?_
          refine zw_beq1 (g := 80) (pc' := 73) rfl rfl rfl rfl (fun hv => ?_) (fun hv => ?_)
          · refine zw_s (pc' := 81) rfl rfl ?_
            refine zw_rz rfl rfl (by decide) ?_
            rcases c3 with ⟨k1, _⟩ | ⟨_, r, _, k3, k4, k5⟩
            · omega
            · exact ⟨_, H1, rfl, Or.inr ⟨rfl, r, k3, yR2_a hR k4, k5⟩⟩
          · rcases c3 with ⟨_, d', q', k2, k3, k4, k9⟩ | ⟨k1, _⟩
            rotate_left
            · omega
            have W1 := zB_Wd k2.1.1
            obtain ⟨_, d1, v2, H2, rfl, d2, d3⟩ := yc_end (L := L) (σ := σ) (d := dd + 61) k2
            refine zw_ld (n := 1) (k := 0) (f := zp_isR) (pc' := 74) rfl rfl l0 rfl rfl ?_
            refine zw_c (pc' := 77) (zw_cv (q := 51) (Y := zm_97) W1.1 rfl rfl zm_97_t rfl rfl) rfl rfl rfl rfl rfl (d1) ?_
            refine zw_bne1 (g := 82) (pc' := 80) rfl rfl rfl rfl (fun hv2 => ?_) (fun hv2 => ?_)
            · rcases d3 with ⟨_, m2, m3⟩ | ⟨m1, _⟩
              rotate_left
              · omega
              have hD2 : yDd T n 2 33 d' H2 := yDd_F hwc d2 rfl rfl k3
              have hD3 : yDd T n 2 33 (yU d'.1 0 0, d'.2) H2 := ⟨hD2.1, xXc_k (by decide) hD2.2⟩
              have ei : (i + Int32.ofInt 1).toInt = i.toInt + 1 := zw_p1 (by omega)
              have hadv := ys_adv (T := T) k2.2.2 (by omega)
              have hm3 := m3.2.2
              have k9 : q ≤ q' := k9
              refine zw_ii (pc' := 85) rfl l4 rfl rfl ?_
              refine zw_s (pc' := 36) rfl rfl ?_
              refine ih H2 _ _ _ (yU d'.1 0 0, d'.2) ?_ (zw_gt l0 rfl rfl) (zw_gt l2 rfl rfl) (zw_gt l3 rfl rfl) zw_g1 ⟨by omega, ?_⟩ ?_ m3 hD3 (yR2_t hR (yR2_t k4 (yR2_s (yN2_50.trans (if_pos m2)))))
              · rw [ei]; omega
              · omega
              · rw [if_neg (by omega)]; rfl
            · refine zw_s (pc' := 81) rfl rfl ?_
              refine zw_rz rfl rfl (by decide) ?_
              rcases d3 with ⟨m1, _⟩ | ⟨_, m2, m3, m4⟩
              · omega
              · exact ⟨_, H2, rfl, Or.inr ⟨rfl, _, m3, yR2_a hR (yR2_a k4 (yA2_done (yN2_50.trans (if_neg m2)))), show 1 ≤ (1 : Int) ∧ (1 : Int) ≤ 5 from by decide⟩⟩
        · obtain ⟨_, c1, v, H1, rfl, c3⟩ := yc_line2_33 (L := L) (σ := σ) (dd := dd) (d := d) (f := Int32.ofInt 1) (by rw [hf, if_pos (by omega)]; rfl) hbu (y15_R hs0 hR) (by omega) h hD
          refine zw_s (pc' := 61) rfl rfl ?_
          refine zw_s (pc' := 65) rfl rfl ?_
          refine zw_ld (n := 1) (k := 2) (f := zp_isR) (pc' := 66) rfl rfl l2 rfl rfl ?_
          refine zw_ld (n := 1) (k := 3) (f := zp_isR) (pc' := 67) rfl rfl l3 rfl rfl ?_
          refine zw_c (pc' := 70) (zw_cv (q := 51) (Y := zm_61) W.1 rfl rfl zm_61_t rfl rfl) rfl rfl rfl rfl rfl (c1) ?_
          refine zw_beq1 (g := 80) (pc' := 73) rfl rfl rfl rfl (fun hv => ?_) (fun hv => ?_)
          · refine zw_s (pc' := 81) rfl rfl ?_
            refine zw_rz rfl rfl (by decide) ?_
            rcases c3 with ⟨k1, _⟩ | ⟨_, r, _, k3, k4, k5⟩
            · omega
            · exact ⟨_, H1, rfl, Or.inr ⟨rfl, r, k3, yR2_a hR k4, k5⟩⟩
          · rcases c3 with ⟨_, d', q', k2, k3, k4, k9⟩ | ⟨k1, _⟩
            rotate_left
            · omega
            have W1 := zB_Wd k2.1.1
            obtain ⟨_, d1, v2, H2, rfl, d2, d3⟩ := yc_end (L := L) (σ := σ) (d := dd + 61) k2
            refine zw_ld (n := 1) (k := 0) (f := zp_isR) (pc' := 74) rfl rfl l0 rfl rfl ?_
            refine zw_c (pc' := 77) (zw_cv (q := 51) (Y := zm_97) W1.1 rfl rfl zm_97_t rfl rfl) rfl rfl rfl rfl rfl (d1) ?_
            refine zw_bne1 (g := 82) (pc' := 80) rfl rfl rfl rfl (fun hv2 => ?_) (fun hv2 => ?_)
            · rcases d3 with ⟨_, m2, m3⟩ | ⟨m1, _⟩
              rotate_left
              · omega
              have hD2 : yDd T n 2 33 d' H2 := yDd_F hwc d2 rfl rfl k3
              have hD3 : yDd T n 2 33 (yU d'.1 0 0, d'.2) H2 := ⟨hD2.1, xXc_k (by decide) hD2.2⟩
              have ei : (i + Int32.ofInt 1).toInt = i.toInt + 1 := zw_p1 (by omega)
              have hadv := ys_adv (T := T) k2.2.2 (by omega)
              have hm3 := m3.2.2
              have k9 : q ≤ q' := k9
              refine zw_ii (pc' := 85) rfl l4 rfl rfl ?_
              refine zw_s (pc' := 36) rfl rfl ?_
              refine ih H2 _ _ _ (yU d'.1 0 0, d'.2) ?_ (zw_gt l0 rfl rfl) (zw_gt l2 rfl rfl) (zw_gt l3 rfl rfl) zw_g1 ⟨by omega, ?_⟩ ?_ m3 hD3 (yR2_t hR (yR2_t k4 (yR2_s (yN2_50.trans (if_pos m2)))))
              · rw [ei]; omega
              · omega
              · rw [if_neg (by omega)]; rfl
            · refine zw_s (pc' := 81) rfl rfl ?_
              refine zw_rz rfl rfl (by decide) ?_
              rcases d3 with ⟨m1, _⟩ | ⟨_, m2, m3, m4⟩
              · omega
              · exact ⟨_, H2, rfl, Or.inr ⟨rfl, _, m3, yR2_a hR (yR2_a k4 (yA2_done (yN2_50.trans (if_neg m2)))), show 1 ≤ (1 : Int) ∧ (1 : Int) ≤ 5 from by decide⟩⟩

set_option maxRecDepth 8000 in
theorem yc_readL22_13 {L : Nat} {σ : Nat → Int32} {dd : Nat} {T : Nat → Int} {n : Nat} {s0 : yL} (hbu : yBCu) (hs0 : y15 n s0) : ∀ (m : Nat) (H : zp_H) (lv9 : zp_LV) (i : Int32) (q : Nat) (d : yLD), 701 - i.toInt.toNat ≤ m → zp_get lv9 0 = some (.inr (.inr (some 52))) → zp_get lv9 2 = some (.inr (.inr (some 23))) → zp_get lv9 3 = some (.inr (.inr (some 14))) → zp_get lv9 4 = some (.inl i) → 0 ≤ i.toInt ∧ i.toInt ≤ q → d.1 0 = (if i.toInt = 0 then 1 else 0) → yE T n q H → yDd T n 22 13 d H → yR2 T n s0 (0, [], 0, 0, 0, d, q) → zs_Safe L σ (yRD 22 13 T n s0) zm_50 [] (dd + 65) (36, lv9, [], H, (0, 0)) := by
  intro m
  induction m with
  | zero =>
    intro H lv9 i q d hm l0 l2 l3 l4 hi hf h hD hR
    have hwc : yWC 22 13 := ⟨by decide, by decide⟩
    have W := zB_Wd h.1.1
    have h4 := yE_4 h
    have hqn := h.2.2
    have hn7 := h.1.2.1
    refine zw_ld (n := 2) (k := 4) (f := zp_isI) (pc' := 38) rfl rfl l4 rfl rfl ?_
    refine zw_s (pc' := 41) rfl rfl ?_
    refine zw_bgt2 (g := 88) (pc' := 44) rfl rfl rfl rfl (rfl : _ = (700 : Int)) (fun h7 => ?_) (fun h7 => ?_)
    · have hk0 := ys_kd_n (T := T) (n := n) (p := q) (by omega)
      refine zw_s (pc' := 89) rfl rfl ?_
      refine zw_rz rfl rfl (by decide) ?_
      exact ⟨_, H, rfl, Or.inl ⟨rfl, q, d, yR2_a hR (yA2_done (yN2_0.trans (y0_e hk0))), hR, hk0, hD⟩⟩
    · refine zw_ld (n := 1) (k := 0) (f := zp_isR) (pc' := 45) rfl rfl l0 rfl rfl ?_
      refine zw_gR (q := 51) (pc' := 48) W rfl rfl rfl rfl (W.2 51 0 _ rfl) rfl ?_
      refine zw_gI (q := 52) (pc' := 51) W rfl rfl rfl rfl rfl rfl ?_
      refine zw_beq1 (g := 88) (pc' := 54) rfl rfl rfl rfl (fun h1 => ?_) (fun h1 => ?_)
      · refine zw_s (pc' := 89) rfl rfl ?_
        refine zw_rz rfl rfl (by decide) ?_
        exact ⟨_, H, rfl, Or.inl ⟨rfl, q, d, yR2_a hR (yA2_done (yN2_0.trans (y0_e (by omega)))), hR, by omega, hD⟩⟩
      · have hk0 := ys_kd_n (T := T) (n := n) (p := q) (by omega)
        omega
  | succ m ih =>
    intro H lv9 i q d hm l0 l2 l3 l4 hi hf h hD hR
    have hwc : yWC 22 13 := ⟨by decide, by decide⟩
    have W := zB_Wd h.1.1
    have h4 := yE_4 h
    have hqn := h.2.2
    have hn7 := h.1.2.1
    refine zw_ld (n := 2) (k := 4) (f := zp_isI) (pc' := 38) rfl rfl l4 rfl rfl ?_
    refine zw_s (pc' := 41) rfl rfl ?_
    refine zw_bgt2 (g := 88) (pc' := 44) rfl rfl rfl rfl (rfl : _ = (700 : Int)) (fun h7 => ?_) (fun h7 => ?_)
    · have hk0 := ys_kd_n (T := T) (n := n) (p := q) (by omega)
      refine zw_s (pc' := 89) rfl rfl ?_
      refine zw_rz rfl rfl (by decide) ?_
      exact ⟨_, H, rfl, Or.inl ⟨rfl, q, d, yR2_a hR (yA2_done (yN2_0.trans (y0_e hk0))), hR, hk0, hD⟩⟩
    · refine zw_ld (n := 1) (k := 0) (f := zp_isR) (pc' := 45) rfl rfl l0 rfl rfl ?_
      refine zw_gR (q := 51) (pc' := 48) W rfl rfl rfl rfl (W.2 51 0 _ rfl) rfl ?_
      refine zw_gI (q := 52) (pc' := 51) W rfl rfl rfl rfl rfl rfl ?_
      refine zw_beq1 (g := 88) (pc' := 54) rfl rfl rfl rfl (fun h1 => ?_) (fun h1 => ?_)
      · refine zw_s (pc' := 89) rfl rfl ?_
        refine zw_rz rfl rfl (by decide) ?_
        exact ⟨_, H, rfl, Or.inl ⟨rfl, q, d, yR2_a hR (yA2_done (yN2_0.trans (y0_e (by omega)))), hR, by omega, hD⟩⟩
      · refine zw_ld (n := 1) (k := 0) (f := zp_isR) (pc' := 55) rfl rfl l0 rfl rfl ?_
        refine zw_ld (n := 2) (k := 4) (f := zp_isI) (pc' := 57) rfl rfl l4 rfl rfl ?_
        refine zw_bne1 (g := 64) (pc' := 60) rfl rfl rfl rfl (fun h0 => ?_) (fun h0 => ?_)
        · obtain ⟨_, c1, v, H1, rfl, c3⟩ := yc_line22_13 (L := L) (σ := σ) (dd := dd) (d := d) (f := Int32.ofInt 0) (by rw [hf, if_neg (by omega)]; rfl) hbu (y15_R hs0 hR) (by omega) h hD
          refine zw_s (pc' := 65) rfl rfl ?_
          refine zw_ld (n := 1) (k := 2) (f := zp_isR) (pc' := 66) rfl rfl l2 rfl rfl ?_
          refine zw_ld (n := 1) (k := 3) (f := zp_isR) (pc' := 67) rfl rfl l3 rfl rfl ?_
          refine zw_c (pc' := 70) (zw_cv (q := 51) (Y := zm_61) W.1 rfl rfl zm_61_t rfl rfl) rfl rfl rfl rfl rfl (c1) ?_
          refine zw_beq1 (g := 80) (pc' := 73) rfl rfl rfl rfl (fun hv => ?_) (fun hv => ?_)
          · refine zw_s (pc' := 81) rfl rfl ?_
            refine zw_rz rfl rfl (by decide) ?_
            rcases c3 with ⟨k1, _⟩ | ⟨_, r, _, k3, k4, k5⟩
            · omega
            · exact ⟨_, H1, rfl, Or.inr ⟨rfl, r, k3, yR2_a hR k4, k5⟩⟩
          · rcases c3 with ⟨_, d', q', k2, k3, k4, k9⟩ | ⟨k1, _⟩
            rotate_left
            · omega
            have W1 := zB_Wd k2.1.1
            obtain ⟨_, d1, v2, H2, rfl, d2, d3⟩ := yc_end (L := L) (σ := σ) (d := dd + 61) k2
            refine zw_ld (n := 1) (k := 0) (f := zp_isR) (pc' := 74) rfl rfl l0 rfl rfl ?_
            refine zw_c (pc' := 77) (zw_cv (q := 51) (Y := zm_97) W1.1 rfl rfl zm_97_t rfl rfl) rfl rfl rfl rfl rfl (d1) ?_
            refine zw_bne1 (g := 82) (pc' := 80) rfl rfl rfl rfl (fun hv2 => ?_) (fun hv2 => ?_)
            · rcases d3 with ⟨_, m2, m3⟩ | ⟨m1, _⟩
              rotate_left
              · omega
              have hD2 : yDd T n 22 13 d' H2 := yDd_F hwc d2 rfl rfl k3
              have hD3 : yDd T n 22 13 (yU d'.1 0 0, d'.2) H2 := ⟨hD2.1, xXc_k (by decide) hD2.2⟩
              have ei : (i + Int32.ofInt 1).toInt = i.toInt + 1 := zw_p1 (by omega)
              have hadv := ys_adv (T := T) k2.2.2 (by omega)
              have hm3 := m3.2.2
              have k9 : q ≤ q' := k9
              refine zw_ii (pc' := 85) rfl l4 rfl rfl ?_
              refine zw_s (pc' := 36) rfl rfl ?_
              refine ih H2 _ _ _ (yU d'.1 0 0, d'.2) ?_ (zw_gt l0 rfl rfl) (zw_gt l2 rfl rfl) (zw_gt l3 rfl rfl) zw_g1 ⟨by omega, ?_⟩ ?_ m3 hD3 (yR2_t hR (yR2_t k4 (yR2_s (yN2_50.trans (if_pos m2)))))
              · rw [ei]; omega
              · omega
              · rw [if_neg (by omega)]; rfl
            · refine zw_s (pc' := 81) rfl rfl ?_
              refine zw_rz rfl rfl (by decide) ?_
              rcases d3 with ⟨m1, _⟩ | ⟨_, m2, m3, m4⟩
              · omega
              · exact ⟨_, H2, rfl, Or.inr ⟨rfl, _, m3, yR2_a hR (yR2_a k4 (yA2_done (yN2_50.trans (if_neg m2)))), show 1 ≤ (1 : Int) ∧ (1 : Int) ≤ 5 from by decide⟩⟩
        · obtain ⟨_, c1, v, H1, rfl, c3⟩ := yc_line22_13 (L := L) (σ := σ) (dd := dd) (d := d) (f := Int32.ofInt 1) (by rw [hf, if_pos (by omega)]; rfl) hbu (y15_R hs0 hR) (by omega) h hD
          refine zw_s (pc' := 61) rfl rfl ?_
          refine zw_s (pc' := 65) rfl rfl ?_
          refine zw_ld (n := 1) (k := 2) (f := zp_isR) (pc' := 66) rfl rfl l2 rfl rfl ?_
          refine zw_ld (n := 1) (k := 3) (f := zp_isR) (pc' := 67) rfl rfl l3 rfl rfl ?_
          refine zw_c (pc' := 70) (zw_cv (q := 51) (Y := zm_61) W.1 rfl rfl zm_61_t rfl rfl) rfl rfl rfl rfl rfl (c1) ?_
          refine zw_beq1 (g := 80) (pc' := 73) rfl rfl rfl rfl (fun hv => ?_) (fun hv => ?_)
          · refine zw_s (pc' := 81) rfl rfl ?_
            refine zw_rz rfl rfl (by decide) ?_
            rcases c3 with ⟨k1, _⟩ | ⟨_, r, _, k3, k4, k5⟩
            · omega
            · exact ⟨_, H1, rfl, Or.inr ⟨rfl, r, k3, yR2_a hR k4, k5⟩⟩
          · rcases c3 with ⟨_, d', q', k2, k3, k4, k9⟩ | ⟨k1, _⟩
            rotate_left
            · omega
            have W1 := zB_Wd k2.1.1
            obtain ⟨_, d1, v2, H2, rfl, d2, d3⟩ := yc_end (L := L) (σ := σ) (d := dd + 61) k2
            refine zw_ld (n := 1) (k := 0) (f := zp_isR) (pc' := 74) rfl rfl l0 rfl rfl ?_
            refine zw_c (pc' := 77) (zw_cv (q := 51) (Y := zm_97) W1.1 rfl rfl zm_97_t rfl rfl) rfl rfl rfl rfl rfl (d1) ?_
            refine zw_bne1 (g := 82) (pc' := 80) rfl rfl rfl rfl (fun hv2 => ?_) (fun hv2 => ?_)
            · rcases d3 with ⟨_, m2, m3⟩ | ⟨m1, _⟩
              rotate_left
              · omega
              have hD2 : yDd T n 22 13 d' H2 := yDd_F hwc d2 rfl rfl k3
              have hD3 : yDd T n 22 13 (yU d'.1 0 0, d'.2) H2 := ⟨hD2.1, xXc_k (by decide) hD2.2⟩
              have ei : (i + Int32.ofInt 1).toInt = i.toInt + 1 := zw_p1 (by omega)
              have hadv := ys_adv (T := T) k2.2.2 (by omega)
              have hm3 := m3.2.2
              have k9 : q ≤ q' := k9
              refine zw_ii (pc' := 85) rfl l4 rfl rfl ?_
              refine zw_s (pc' := 36) rfl rfl ?_
              refine ih H2 _ _ _ (yU d'.1 0 0, d'.2) ?_ (zw_gt l0 rfl rfl) (zw_gt l2 rfl rfl) (zw_gt l3 rfl rfl) zw_g1 ⟨by omega, ?_⟩ ?_ m3 hD3 (yR2_t hR (yR2_t k4 (yR2_s (yN2_50.trans (if_pos m2)))))
              · rw [ei]; omega
              · omega
              · rw [if_neg (by omega)]; rfl
            · refine zw_s (pc' := 81) rfl rfl ?_
              refine zw_rz rfl rfl (by decide) ?_
              rcases d3 with ⟨m1, _⟩ | ⟨_, m2, m3, m4⟩
              · omega
              · exact ⟨_, H2, rfl, Or.inr ⟨rfl, _, m3, yR2_a hR (yR2_a k4 (yA2_done (yN2_50.trans (if_neg m2)))), show 1 ≤ (1 : Int) ∧ (1 : Int) ≤ 5 from by decide⟩⟩

set_option maxRecDepth 8000 in
theorem yc_readL22_33 {L : Nat} {σ : Nat → Int32} {dd : Nat} {T : Nat → Int} {n : Nat} {s0 : yL} (hbu : yBCu) (hs0 : y15 n s0) : ∀ (m : Nat) (H : zp_H) (lv9 : zp_LV) (i : Int32) (q : Nat) (d : yLD), 701 - i.toInt.toNat ≤ m → zp_get lv9 0 = some (.inr (.inr (some 52))) → zp_get lv9 2 = some (.inr (.inr (some 23))) → zp_get lv9 3 = some (.inr (.inr (some 34))) → zp_get lv9 4 = some (.inl i) → 0 ≤ i.toInt ∧ i.toInt ≤ q → d.1 0 = (if i.toInt = 0 then 1 else 0) → yE T n q H → yDd T n 22 33 d H → yR2 T n s0 (0, [], 0, 0, 0, d, q) → zs_Safe L σ (yRD 22 33 T n s0) zm_50 [] (dd + 65) (36, lv9, [], H, (0, 0)) := by
  intro m
  induction m with
  | zero =>
    intro H lv9 i q d hm l0 l2 l3 l4 hi hf h hD hR
    have hwc : yWC 22 33 := ⟨by decide, by decide⟩
    have W := zB_Wd h.1.1
    have h4 := yE_4 h
    have hqn := h.2.2
    have hn7 := h.1.2.1
    refine zw_ld (n := 2) (k := 4) (f := zp_isI) (pc' := 38) rfl rfl l4 rfl rfl ?_
    refine zw_s (pc' := 41) rfl rfl ?_
    refine zw_bgt2 (g := 88) (pc' := 44) rfl rfl rfl rfl (rfl : _ = (700 : Int)) (fun h7 => ?_) (fun h7 => ?_)
    · have hk0 := ys_kd_n (T := T) (n := n) (p := q) (by omega)
      refine zw_s (pc' := 89) rfl rfl ?_
      refine zw_rz rfl rfl (by decide) ?_
      exact ⟨_, H, rfl, Or.inl ⟨rfl, q, d, yR2_a hR (yA2_done (yN2_0.trans (y0_e hk0))), hR, hk0, hD⟩⟩
    · refine zw_ld (n := 1) (k := 0) (f := zp_isR) (pc' := 45) rfl rfl l0 rfl rfl ?_
      refine zw_gR (q := 51) (pc' := 48) W rfl rfl rfl rfl (W.2 51 0 _ rfl) rfl ?_
      refine zw_gI (q := 52) (pc' := 51) W rfl rfl rfl rfl rfl rfl ?_
      refine zw_beq1 (g := 88) (pc' := 54) rfl rfl rfl rfl (fun h1 => ?_) (fun h1 => ?_)
      · refine zw_s (pc' := 89) rfl rfl ?_
        refine zw_rz rfl rfl (by decide) ?_
        exact ⟨_, H, rfl, Or.inl ⟨rfl, q, d, yR2_a hR (yA2_done (yN2_0.trans (y0_e (by omega)))), hR, by omega, hD⟩⟩
      · have hk0 := ys_kd_n (T := T) (n := n) (p := q) (by omega)
        omega
  | succ m ih =>
    intro H lv9 i q d hm l0 l2 l3 l4 hi hf h hD hR
    have hwc : yWC 22 33 := ⟨by decide, by decide⟩
    have W := zB_Wd h.1.1
    have h4 := yE_4 h
    have hqn := h.2.2
    have hn7 := h.1.2.1
    refine zw_ld (n := 2) (k := 4) (f := zp_isI) (pc' := 38) rfl rfl l4 rfl rfl ?_
    refine zw_s (pc' := 41) rfl rfl ?_
    refine zw_bgt2 (g := 88) (pc' := 44) rfl rfl rfl rfl (rfl : _ = (700 : Int)) (fun h7 => ?_) (fun h7 => ?_)
    · have hk0 := ys_kd_n (T := T) (n := n) (p := q) (by omega)
      refine zw_s (pc' := 89) rfl rfl ?_
      refine zw_rz rfl rfl (by decide) ?_
      exact ⟨_, H, rfl, Or.inl ⟨rfl, q, d, yR2_a hR (yA2_done (yN2_0.trans (y0_e hk0))), hR, hk0, hD⟩⟩
    · refine zw_ld (n := 1) (k := 0) (f := zp_isR) (pc' := 45) rfl rfl l0 rfl rfl ?_
      refine zw_gR (q := 51) (pc' := 48) W rfl rfl rfl rfl (W.2 51 0 _ rfl) rfl ?_
      refine zw_gI (q := 52) (pc' := 51) W rfl rfl rfl rfl rfl rfl ?_
      refine zw_beq1 (g := 88) (pc' := 54) rfl rfl rfl rfl (fun h1 => ?_) (fun h1 => ?_)
      · refine zw_s (pc' := 89) rfl rfl ?_
        refine zw_rz rfl rfl (by decide) ?_
        exact ⟨_, H, rfl, Or.inl ⟨rfl, q, d, yR2_a hR (yA2_done (yN2_0.trans (y0_e (by omega)))), hR, by omega, hD⟩⟩
      · refine zw_ld (n := 1) (k := 0) (f := zp_isR) (pc' := 55) rfl rfl l0 rfl rfl ?_
        refine zw_ld (n := 2) (k := 4) (f := zp_isI) (pc' := 57) rfl rfl l4 rfl rfl ?_
        refine zw_bne1 (g := 64) (pc' := 60) rfl rfl rfl rfl (fun h0 => ?_) (fun h0 => ?_)
        · obtain ⟨_, c1, v, H1, rfl, c3⟩ := yc_line22_33 (L := L) (σ := σ) (dd := dd) (d := d) (f := Int32.ofInt 0) (by rw [hf, if_neg (by omega)]; rfl) hbu (y15_R hs0 hR) (by omega) h hD
          refine zw_s (pc' := 65) rfl rfl ?_
          refine zw_ld (n := 1) (k := 2) (f := zp_isR) (pc' := 66) rfl rfl l2 rfl rfl ?_
          refine zw_ld (n := 1) (k := 3) (f := zp_isR) (pc' := 67) rfl rfl l3 rfl rfl ?_
          refine zw_c (pc' := 70) (zw_cv (q := 51) (Y := zm_61) W.1 rfl rfl zm_61_t rfl rfl) rfl rfl rfl rfl rfl (c1) ?_
          refine zw_beq1 (g := 80) (pc' := 73) rfl rfl rfl rfl (fun hv => ?_) (fun hv => ?_)
          · refine zw_s (pc' := 81) rfl rfl ?_
            refine zw_rz rfl rfl (by decide) ?_
            rcases c3 with ⟨k1, _⟩ | ⟨_, r, _, k3, k4, k5⟩
            · omega
            · exact ⟨_, H1, rfl, Or.inr ⟨rfl, r, k3, yR2_a hR k4, k5⟩⟩
          · rcases c3 with ⟨_, d', q', k2, k3, k4, k9⟩ | ⟨k1, _⟩
            rotate_left
            · omega
            have W1 := zB_Wd k2.1.1
            obtain ⟨_, d1, v2, H2, rfl, d2, d3⟩ := yc_end (L := L) (σ := σ) (d := dd + 61) k2
            refine zw_ld (n := 1) (k := 0) (f := zp_isR) (pc' := 74) rfl rfl l0 rfl rfl ?_
            refine zw_c (pc' := 77) (zw_cv (q := 51) (Y := zm_97) W1.1 rfl rfl zm_97_t rfl rfl) rfl rfl rfl rfl rfl (d1) ?_
            refine zw_bne1 (g := 82) (pc' := 80) rfl rfl rfl rfl (fun hv2 => ?_) (fun hv2 => ?_)
            · rcases d3 with ⟨_, m2, m3⟩ | ⟨m1, _⟩
              rotate_left
              · omega
              have hD2 : yDd T n 22 33 d' H2 := yDd_F hwc d2 rfl rfl k3
              have hD3 : yDd T n 22 33 (yU d'.1 0 0, d'.2) H2 := ⟨hD2.1, xXc_k (by decide) hD2.2⟩
              have ei : (i + Int32.ofInt 1).toInt = i.toInt + 1 := zw_p1 (by omega)
              have hadv := ys_adv (T := T) k2.2.2 (by omega)
              have hm3 := m3.2.2
              have k9 : q ≤ q' := k9
              refine zw_ii (pc' := 85) rfl l4 rfl rfl ?_
              refine zw_s (pc' := 36) rfl rfl ?_
              refine ih H2 _ _ _ (yU d'.1 0 0, d'.2) ?_ (zw_gt l0 rfl rfl) (zw_gt l2 rfl rfl) (zw_gt l3 rfl rfl) zw_g1 ⟨by omega, ?_⟩ ?_ m3 hD3 (yR2_t hR (yR2_t k4 (yR2_s (yN2_50.trans (if_pos m2)))))
              · rw [ei]; omega
              · omega
              · rw [if_neg (by omega)]; rfl
            · refine zw_s (pc' := 81) rfl rfl ?_
              refine zw_rz rfl rfl (by decide) ?_
              rcases d3 with ⟨m1, _⟩ | ⟨_, m2, m3, m4⟩
              · omega
              · exact ⟨_, H2, rfl, Or.inr ⟨rfl, _, m3, yR2_a hR (yR2_a k4 (yA2_done (yN2_50.trans (if_neg m2)))), show 1 ≤ (1 : Int) ∧ (1 : Int) ≤ 5 from by decide⟩⟩
        · obtain ⟨_, c1, v, H1, rfl, c3⟩ := yc_line22_33 (L := L) (σ := σ) (dd := dd) (d := d) (f := Int32.ofInt 1) (by rw [hf, if_pos (by omega)]; rfl) hbu (y15_R hs0 hR) (by omega) h hD
          refine zw_s (pc' := 61) rfl rfl ?_
          refine zw_s (pc' := 65) rfl rfl ?_
          refine zw_ld (n := 1) (k := 2) (f := zp_isR) (pc' := 66) rfl rfl l2 rfl rfl ?_
          refine zw_ld (n := 1) (k := 3) (f := zp_isR) (pc' := 67) rfl rfl l3 rfl rfl ?_
          refine zw_c (pc' := 70) (zw_cv (q := 51) (Y := zm_61) W.1 rfl rfl zm_61_t rfl rfl) rfl rfl rfl rfl rfl (c1) ?_
          refine zw_beq1 (g := 80) (pc' := 73) rfl rfl rfl rfl (fun hv => ?_) (fun hv => ?_)
          · refine zw_s (pc' := 81) rfl rfl ?_
            refine zw_rz rfl rfl (by decide) ?_
            rcases c3 with ⟨k1, _⟩ | ⟨_, r, _, k3, k4, k5⟩
            · omega
            · exact ⟨_, H1, rfl, Or.inr ⟨rfl, r, k3, yR2_a hR k4, k5⟩⟩
          · rcases c3 with ⟨_, d', q', k2, k3, k4, k9⟩ | ⟨k1, _⟩
            rotate_left
            · omega
            have W1 := zB_Wd k2.1.1
            obtain ⟨_, d1, v2, H2, rfl, d2, d3⟩ := yc_end (L := L) (σ := σ) (d := dd + 61) k2
            refine zw_ld (n := 1) (k := 0) (f := zp_isR) (pc' := 74) rfl rfl l0 rfl rfl ?_
            refine zw_c (pc' := 77) (zw_cv (q := 51) (Y := zm_97) W1.1 rfl rfl zm_97_t rfl rfl) rfl rfl rfl rfl rfl (d1) ?_
            refine zw_bne1 (g := 82) (pc' := 80) rfl rfl rfl rfl (fun hv2 => ?_) (fun hv2 => ?_)
            · rcases d3 with ⟨_, m2, m3⟩ | ⟨m1, _⟩
              rotate_left
              · omega
              have hD2 : yDd T n 22 33 d' H2 := yDd_F hwc d2 rfl rfl k3
              have hD3 : yDd T n 22 33 (yU d'.1 0 0, d'.2) H2 := ⟨hD2.1, xXc_k (by decide) hD2.2⟩
              have ei : (i + Int32.ofInt 1).toInt = i.toInt + 1 := zw_p1 (by omega)
              have hadv := ys_adv (T := T) k2.2.2 (by omega)
              have hm3 := m3.2.2
              have k9 : q ≤ q' := k9
              refine zw_ii (pc' := 85) rfl l4 rfl rfl ?_
              refine zw_s (pc' := 36) rfl rfl ?_
              refine ih H2 _ _ _ (yU d'.1 0 0, d'.2) ?_ (zw_gt l0 rfl rfl) (zw_gt l2 rfl rfl) (zw_gt l3 rfl rfl) zw_g1 ⟨by omega, ?_⟩ ?_ m3 hD3 (yR2_t hR (yR2_t k4 (yR2_s (yN2_50.trans (if_pos m2)))))
              · rw [ei]; omega
              · omega
              · rw [if_neg (by omega)]; rfl
            · refine zw_s (pc' := 81) rfl rfl ?_
              refine zw_rz rfl rfl (by decide) ?_
              rcases d3 with ⟨m1, _⟩ | ⟨_, m2, m3, m4⟩
              · omega
              · exact ⟨_, H2, rfl, Or.inr ⟨rfl, _, m3, yR2_a hR (yR2_a k4 (yA2_done (yN2_50.trans (if_neg m2)))), show 1 ≤ (1 : Int) ∧ (1 : Int) ≤ 5 from by decide⟩⟩
