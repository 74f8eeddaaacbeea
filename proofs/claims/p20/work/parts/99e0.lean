section
/-! ===== the class reads a text, exactly: the loop, with data ===== -/

/-- the class read the text -/
def yRD (wp cp : Nat) (T : Nat → Int) (n : Nat) (s0 : yL) (X : zp_X) : Prop := ∃ v H1, X = (.inl (some (.inl v)), H1) ∧ ((v.toInt = 1 ∧ ∃ q d, yA2 T n s0 (0, q) ∧ yR2 T n s0 (0, [], 0, 0, 0, d, q) ∧ ys_kd T n q = 0 ∧ yDd wp cp d H1) ∨ (v.toInt = 0 ∧ ∃ r : Int × Nat, yFc T n r H1 ∧ yA2 T n s0 r ∧ 1 ≤ r.1 ∧ r.1 ≤ 5))
theorem y0_e {T : Nat → Int} {n p : Nat} {d : yLD} (h0 : ys_kd T n p = 0) : y0 T n d p = .inr (0, p) := by
  unfold y0
  rw [if_pos h0]

set_option maxRecDepth 8000 in
theorem yc_readL2_13 {L : Nat} {σ : Nat → Int32} {dd : Nat} {T : Nat → Int} {n : Nat} {s0 : yL} (hbu : yBCu) : ∀ (m : Nat) (H : zp_H) (lv9 : zp_LV) (i : Int32) (q : Nat) (d : yLD), 701 - i.toInt.toNat ≤ m → zp_get lv9 0 = some (.inr (.inr (some 52))) → zp_get lv9 2 = some (.inr (.inr (some 3))) → zp_get lv9 3 = some (.inr (.inr (some 14))) → zp_get lv9 4 = some (.inl i) → 0 ≤ i.toInt ∧ i.toInt ≤ q → d.1 0 = (if i.toInt = 0 then 1 else 0) → yE T n q H → yDd 2 13 d H → yR2 T n s0 (0, [], 0, 0, 0, d, q) → zs_Safe L σ (yRD 2 13 T n s0) zm_50 [] (dd + 65) (36, lv9, [], H, (0, 0)) := by
  intro m
  induction m with
  | zero =>
    intro H lv9 i q d hm l0 l2 l3 l4 hi hf h hD hR
    have hwc : yWC 2 13 := ⟨by decide, by decide⟩
    have W := zB_Wd h.1.1
    have h4 := yE_4 h
    have hqn := h.2.2
    have hn7 := h.1.2.1
    refine zw_ld (n := 2) (k := 4) (f := zp_isI) (pc' := 38) rfl rfl l4 rfl rfl ?_
    refine zw_s (pc' := 41) rfl rfl ?_
    refine zw_bgt2 (g := 88) (pc' := 44) rfl rfl rfl rfl (rfl : _ = (700 : Int)) (fun h7 => ?_) (fun h7 => ?_)
    · have hk0 := ys_kd_n (T := T) (n := n) (p := q) (by omega)
      refine zw_s (pc' := 89) rfl rfl ?_
      refine zw_rz rfl rfl (by decide) ?_
      exact ⟨_, H, rfl, Or.inl ⟨rfl, q, d, yR2_a hR (yA2_done (yN2_0.trans (y0_e hk0))), hR, hk0, hD⟩⟩
    · refine zw_ld (n := 1) (k := 0) (f := zp_isR) (pc' := 45) rfl rfl l0 rfl rfl ?_
      refine zw_gR (q := 51) (pc' := 48) W rfl rfl rfl rfl (W.2 51 0 _ rfl) rfl ?_
      refine zw_gI (q := 52) (pc' := 51) W rfl rfl rfl rfl rfl rfl ?_
      refine zw_beq1 (g := 88) (pc' := 54) rfl rfl rfl rfl (fun h1 => ?_) (fun h1 => ?_)
      · refine zw_s (pc' := 89) rfl rfl ?_
        refine zw_rz rfl rfl (by decide) ?_
        exact ⟨_, H, rfl, Or.inl ⟨rfl, q, d, yR2_a hR (yA2_done (yN2_0.trans (y0_e (by omega)))), hR, by omega, hD⟩⟩
      · have hk0 := ys_kd_n (T := T) (n := n) (p := q) (by omega)
        omega
  | succ m ih =>
    intro H lv9 i q d hm l0 l2 l3 l4 hi hf h hD hR
    have hwc : yWC 2 13 := ⟨by decide, by decide⟩
    have W := zB_Wd h.1.1
    have h4 := yE_4 h
    have hqn := h.2.2
    have hn7 := h.1.2.1
    refine zw_ld (n := 2) (k := 4) (f := zp_isI) (pc' := 38) rfl rfl l4 rfl rfl ?_
    refine zw_s (pc' := 41) rfl rfl ?_
    refine zw_bgt2 (g := 88) (pc' := 44) rfl rfl rfl rfl (rfl : _ = (700 : Int)) (fun h7 => ?_) (fun h7 => ?_)
    · have hk0 := ys_kd_n (T := T) (n := n) (p := q) (by omega)
      refine zw_s (pc' := 89) rfl rfl ?_
      refine zw_rz rfl rfl (by decide) ?_
      exact ⟨_, H, rfl, Or.inl ⟨rfl, q, d, yR2_a hR (yA2_done (yN2_0.trans (y0_e hk0))), hR, hk0, hD⟩⟩
    · refine zw_ld (n := 1) (k := 0) (f := zp_isR) (pc' := 45) rfl rfl l0 rfl rfl ?_
      refine zw_gR (q := 51) (pc' := 48) W rfl rfl rfl rfl (W.2 51 0 _ rfl) rfl ?_
      refine zw_gI (q := 52) (pc' := 51) W rfl rfl rfl rfl rfl rfl ?_
      refine zw_beq1 (g := 88) (pc' := 54) rfl rfl rfl rfl (fun h1 => ?_) (fun h1 => ?_)
      · refine zw_s (pc' := 89) rfl rfl ?_
        refine zw_rz rfl rfl (by decide) ?_
        exact ⟨_, H, rfl, Or.inl ⟨rfl, q, d, yR2_a hR (yA2_done (yN2_0.trans (y0_e (by omega)))), hR, by omega, hD⟩⟩
      · refine zw_ld (n := 1) (k := 0) (f := zp_isR) (pc' := 55) rfl rfl l0 rfl rfl ?_
        refine zw_ld (n := 2) (k := 4) (f := zp_isI) (pc' := 57) rfl rfl l4 rfl rfl ?_
        refine zw_bne1 (g := 64) (pc' := 60) rfl rfl rfl rfl (fun h0 => ?_) (fun h0 => ?_)
        · obtain ⟨_, c1, v, H1, rfl, c3⟩ := yc_line2_13 (L := L) (σ := σ) (dd := dd) (d := d) (f := Int32.ofInt 0) (by rw [hf, if_neg (by omega)]; rfl) hbu (by omega) h hD
          refine zw_s (pc' := 65) rfl rfl ?_
          refine zw_ld (n := 1) (k := 2) (f := zp_isR) (pc' := 66) rfl rfl l2 rfl rfl ?_
          refine zw_ld (n := 1) (k := 3) (f := zp_isR) (pc' := 67) rfl rfl l3 rfl rfl ?_
          refine zw_c (pc' := 70) (zw_cv (q := 51) (Y := zm_61) W.1 rfl rfl zm_61_t rfl rfl) rfl rfl rfl rfl rfl (c1) ?_
          refine zw_beq1 (g := 80) (pc' := 73) rfl rfl rfl rfl (fun hv => ?_) (fun hv => ?_)
          · refine zw_s (pc' := 81) rfl rfl ?_
            refine zw_rz rfl rfl (by decide) ?_
            rcases c3 with ⟨k1, _⟩ | ⟨_, r, _, k3, k4, k5⟩
            · omega
            · exact ⟨_, H1, rfl, Or.inr ⟨rfl, r, k3, yR2_a hR k4, k5⟩⟩
          · rcases c3 with ⟨_, d', q', k2, k3, k4, k9⟩ | ⟨k1, _⟩
            rotate_left
            · omega
            have W1 := zB_Wd k2.1.1
            obtain ⟨_, d1, v2, H2, rfl, d2, d3⟩ := yc_end (L := L) (σ := σ) (d := dd + 61) k2
            refine zw_ld (n := 1) (k := 0) (f := zp_isR) (pc' := 74) rfl rfl l0 rfl rfl ?_
            refine zw_c (pc' := 77) (zw_cv (q := 51) (Y := zm_97) W1.1 rfl rfl zm_97_t rfl rfl) rfl rfl rfl rfl rfl (d1) ?_
            refine zw_bne1 (g := 82) (pc' := 80) rfl rfl rfl rfl (fun hv2 => ?_) (fun hv2 => ?_)
            · rcases d3 with ⟨_, m2, m3⟩ | ⟨m1, _⟩
              rotate_left
              · omega
              have hD2 : yDd 2 13 d' H2 := yDd_F hwc d2 rfl rfl k3
              have hD3 : yDd 2 13 (yU d'.1 0 0, d'.2) H2 := ⟨hD2.1, yXd_k (by decide) hD2.2⟩
              have ei : (i + Int32.ofInt 1).toInt = i.toInt + 1 := zw_p1 (by omega)
              have hadv := ys_adv (T := T) k2.2.2 (by omega)
              have hm3 := m3.2.2
              have k9 : q ≤ q' := k9
              refine zw_ii (pc' := 85) rfl l4 rfl rfl ?_
              refine zw_s (pc' := 36) rfl rfl ?_
              refine ih H2 _ _ _ (yU d'.1 0 0, d'.2) ?_ (zw_gt l0 rfl rfl) (zw_gt l2 rfl rfl) (zw_gt l3 rfl rfl) zw_g1 ⟨by omega, ?_⟩ ?_ m3 hD3 (yR2_t hR (yR2_t k4 (yR2_s (yN2_50.trans (if_pos m2)))))
              · rw [ei]; omega
              · omega
              · rw [if_neg (by omega)]; rfl
            · refine zw_s (pc' := 81) rfl rfl ?_
              refine zw_rz rfl rfl (by decide) ?_
              rcases d3 with ⟨m1, _⟩ | ⟨_, m2, m3, m4⟩
              · omega
              · exact ⟨_, H2, rfl, Or.inr ⟨rfl, _, m3, yR2_a hR (yR2_a k4 (yA2_done (yN2_50.trans (if_neg m2)))), show 1 ≤ (1 : Int) ∧ (1 : Int) ≤ 5 from by decide⟩⟩
        · obtain ⟨_, c1, v, H1, rfl, c3⟩ := yc_line2_13 (L := L) (σ := σ) (dd := dd) (d := d) (f := Int32.ofInt 1) (by rw [hf, if_pos (by omega)]; rfl) hbu (by omega) h hD
          refine zw_s (pc' := 61) rfl rfl ?_
          refine zw_s (pc' := 65) rfl rfl ?_
          refine zw_ld (n := 1) (k := 2) (f := zp_isR) (pc' := 66) rfl rfl l2 rfl rfl ?_
          refine zw_ld (n := 1) (k := 3) (f := zp_isR) (pc' := 67) rfl rfl l3 rfl rfl ?_
          refine zw_c (pc' := 70) (zw_cv (q := 51) (Y := zm_61) W.1 rfl rfl zm_61_t rfl rfl) rfl rfl rfl rfl rfl (c1) ?_
          refine zw_beq1 (g := 80) (pc' := 73) rfl rfl rfl rfl (fun hv => ?_) (fun hv => ?_)
          · refine zw_s (pc' := 81) rfl rfl ?_
            refine zw_rz rfl rfl (by decide) ?_
            rcases c3 with ⟨k1, _⟩ | ⟨_, r, _, k3, k4, k5⟩
            · omega
            · exact ⟨_, H1, rfl, Or.inr ⟨rfl, r, k3, yR2_a hR k4, k5⟩⟩
          · rcases c3 with ⟨_, d', q', k2, k3, k4, k9⟩ | ⟨k1, _⟩
            rotate_left
            · omega
            have W1 := zB_Wd k2.1.1
            obtain ⟨_, d1, v2, H2, rfl, d2, d3⟩ := yc_end (L := L) (σ := σ) (d := dd + 61) k2
            refine zw_ld (n := 1) (k := 0) (f := zp_isR) (pc' := 74) rfl rfl l0 rfl rfl ?_
            refine zw_c (pc' := 77) (zw_cv (q := 51) (Y := zm_97) W1.1 rfl rfl zm_97_t rfl rfl) rfl rfl rfl rfl rfl (d1) ?_
            refine zw_bne1 (g := 82) (pc' := 80) rfl rfl rfl rfl (fun hv2 => ?_) (fun hv2 => ?_)
            · rcases d3 with ⟨_, m2, m3⟩ | ⟨m1, _⟩
              rotate_left
              · omega
              have hD2 : yDd 2 13 d' H2 := yDd_F hwc d2 rfl rfl k3
              have hD3 : yDd 2 13 (yU d'.1 0 0, d'.2) H2 := ⟨hD2.1, yXd_k (by decide) hD2.2⟩
              have ei : (i + Int32.ofInt 1).toInt = i.toInt + 1 := zw_p1 (by omega)
              have hadv := ys_adv (T := T) k2.2.2 (by omega)
              have hm3 := m3.2.2
              have k9 : q ≤ q' := k9
              refine zw_ii (pc' := 85) rfl l4 rfl rfl ?_
              refine zw_s (pc' := 36) rfl rfl ?_
              refine ih H2 _ _ _ (yU d'.1 0 0, d'.2) ?_ (zw_gt l0 rfl rfl) (zw_gt l2 rfl rfl) (zw_gt l3 rfl rfl) zw_g1 ⟨by omega, ?_⟩ ?_ m3 hD3 (yR2_t hR (yR2_t k4 (yR2_s (yN2_50.trans (if_pos m2)))))
              · rw [ei]; omega
              · omega
              · rw [if_neg (by omega)]; rfl
            · refine zw_s (pc' := 81) rfl rfl ?_
              refine zw_rz rfl rfl (by decide) ?_
              rcases d3 with ⟨m1, _⟩ | ⟨_, m2, m3, m4⟩
              · omega
              · exact ⟨_, H2, rfl, Or.inr ⟨rfl, _, m3, yR2_a hR (yR2_a k4 (yA2_done (yN2_50.trans (if_neg m2)))), show 1 ≤ (1 : Int) ∧ (1 : Int) ≤ 5 from by decide⟩⟩

set_option maxRecDepth 8000 in
theorem yc_readL2_33 {L : Nat} {σ : Nat → Int32} {dd : Nat} {T : Nat → Int} {n : Nat} {s0 : yL} (hbu : yBCu) : ∀ (m : Nat) (H : zp_H) (lv9 : zp_LV) (i : Int32) (q : Nat) (d : yLD), 701 - i.toInt.toNat ≤ m → zp_get lv9 0 = some (.inr (.inr (some 52))) → zp_get lv9 2 = some (.inr (.inr (some 3))) → zp_get lv9 3 = some (.inr (.inr (some 34))) → zp_get lv9 4 = some (.inl i) → 0 ≤ i.toInt ∧ i.toInt ≤ q → d.1 0 = (if i.toInt = 0 then 1 else 0) → yE T n q H → yDd 2 33 d H → yR2 T n s0 (0, [], 0, 0, 0, d, q) → zs_Safe L σ (yRD 2 33 T n s0) zm_50 [] (dd + 65) (36, lv9, [], H, (0, 0)) := by
  intro m
  induction m with
  | zero =>
    intro H lv9 i q d hm l0 l2 l3 l4 hi hf h hD hR
    have hwc : yWC 2 33 := ⟨by decide, by decide⟩
    have W := zB_Wd h.1.1
    have h4 := yE_4 h
    have hqn := h.2.2
    have hn7 := h.1.2.1
    refine zw_ld (n := 2) (k := 4) (f := zp_isI) (pc' := 38) rfl rfl l4 rfl rfl ?_
    refine zw_s (pc' := 41) rfl rfl ?_
    refine zw_bgt2 (g := 88) (pc' := 44) rfl rfl rfl rfl (rfl : _ = (700 : Int)) (fun h7 => ?_) (fun h7 => ?_)
    · have hk0 := ys_kd_n (T := T) (n := n) (p := q) (by omega)
      refine zw_s (pc' := 89) rfl rfl ?_
      refine zw_rz rfl rfl (by decide) ?_
      exact ⟨_, H, rfl, Or.inl ⟨rfl, q, d, yR2_a hR (yA2_done (yN2_0.trans (y0_e hk0))), hR, hk0, hD⟩⟩
    · refine zw_ld (n := 1) (k := 0) (f := zp_isR) (pc' := 45) rfl rfl l0 rfl rfl ?_
      refine zw_gR (q := 51) (pc' := 48) W rfl rfl rfl rfl (W.2 51 0 _ rfl) rfl ?_
      refine zw_gI (q := 52) (pc' := 51) W rfl rfl rfl rfl rfl rfl ?_
      refine zw_beq1 (g := 88) (pc' := 54) rfl rfl rfl rfl (fun h1 => ?_) (fun h1 => ?_)
      · refine zw_s (pc' := 89) rfl rfl ?_
        refine zw_rz rfl rfl (by decide) ?_
        exact ⟨_, H, rfl, Or.inl ⟨rfl, q, d, yR2_a hR (yA2_done (yN2_0.trans (y0_e (by omega)))), hR, by omega, hD⟩⟩
      · have hk0 := ys_kd_n (T := T) (n := n) (p := q) (by omega)
        omega
  | succ m ih =>
    intro H lv9 i q d hm l0 l2 l3 l4 hi hf h hD hR
    have hwc : yWC 2 33 := ⟨by decide, by decide⟩
    have W := zB_Wd h.1.1
    have h4 := yE_4 h
    have hqn := h.2.2
    have hn7 := h.1.2.1
    refine zw_ld (n := 2) (k := 4) (f := zp_isI) (pc' := 38) rfl rfl l4 rfl rfl ?_
    refine zw_s (pc' := 41) rfl rfl ?_
    refine zw_bgt2 (g := 88) (pc' := 44) rfl rfl rfl rfl (rfl : _ = (700 : Int)) (fun h7 => ?_) (fun h7 => ?_)
    · have hk0 := ys_kd_n (T := T) (n := n) (p := q) (by omega)
      refine zw_s (pc' := 89) rfl rfl ?_
      refine zw_rz rfl rfl (by decide) ?_
      exact ⟨_, H, rfl, Or.inl ⟨rfl, q, d, yR2_a hR (yA2_done (yN2_0.trans (y0_e hk0))), hR, hk0, hD⟩⟩
    · refine zw_ld (n := 1) (k := 0) (f := zp_isR) (pc' := 45) rfl rfl l0 rfl rfl ?_
      refine zw_gR (q := 51) (pc' := 48) W rfl rfl rfl rfl (W.2 51 0 _ rfl) rfl ?_
      refine zw_gI (q := 52) (pc' := 51) W rfl rfl rfl rfl rfl rfl ?_
      refine zw_beq1 (g := 88) (pc' := 54) rfl rfl rfl rfl (fun h1 => ?_) (fun h1 => ?_)
      · refine zw_s (pc' := 89) rfl rfl ?_
        refine zw_rz rfl rfl (by decide) ?_
        exact ⟨_, H, rfl, Or.inl ⟨rfl, q, d, yR2_a hR (yA2_done (yN2_0.trans (y0_e (by omega)))), hR, by omega, hD⟩⟩
      · refine zw_ld (n := 1) (k := 0) (f := zp_isR) (pc' := 55) rfl rfl l0 rfl rfl ?_
        refine zw_ld (n := 2) (k := 4) (f := zp_isI) (pc' := 57) rfl rfl l4 rfl rfl ?_
        refine zw_bne1 (g := 64) (pc' := 60) rfl rfl rfl rfl (fun h0 => ?_) (fun h0 => ?_)
        · obtain ⟨_, c1, v, H1, rfl, c3⟩ := yc_line2_33 (L := L) (σ := σ) (dd := dd) (d := d) (f := Int32.ofInt 0) (by rw [hf, if_neg (by omega)]; rfl) hbu (by omega) h hD
          refine zw_s (pc' := 65) rfl rfl ?_
          refine zw_ld (n := 1) (k := 2) (f := zp_isR) (pc' := 66) rfl rfl l2 rfl rfl ?_
          refine zw_ld (n := 1) (k := 3) (f := zp_isR) (pc' := 67) rfl rfl l3 rfl rfl ?_
          refine zw_c (pc' := 70) (zw_cv (q := 51) (Y := zm_61) W.1 rfl rfl zm_61_t rfl rfl) rfl rfl rfl rfl rfl (c1) ?_
          refine zw_beq1 (g := 80) (pc' := 73) rfl rfl rfl rfl (fun hv => ?_) (fun hv => ?_)
          · refine zw_s (pc' := 81) rfl rfl ?_
            refine zw_rz rfl rfl (by decide) ?_
            rcases c3 with ⟨k1, _⟩ | ⟨_, r, _, k3, k4, k5⟩
            · omega
            · exact ⟨_, H1, rfl, Or.inr ⟨rfl, r, k3, yR2_a hR k4, k5⟩⟩
          · rcases c3 with ⟨_, d', q', k2, k3, k4, k9⟩ | ⟨k1, _⟩
            rotate_left
            · omega
            have W1 := zB_Wd k2.1.1
            obtain ⟨_, d1, v2, H2, rfl, d2, d3⟩ := yc_end (L := L) (σ := σ) (d := dd + 61) k2
            refine zw_ld (n := 1) (k := 0) (f := zp_isR) (pc' := 74) rfl rfl l0 rfl rfl ?_
            refine zw_c (pc' := 77) (zw_cv (q := 51) (Y := zm_97) W1.1 rfl rfl zm_97_t rfl rfl) rfl rfl rfl rfl rfl (d1) ?_
            refine zw_bne1 (g := 82) (pc' := 80) rfl rfl rfl rfl (fun hv2 => ?_) (fun hv2 => ?_)
            · rcases d3 with ⟨_, m2, m3⟩ | ⟨m1, _⟩
              rotate_left
              · omega
              have hD2 : yDd 2 33 d' H2 := yDd_F hwc d2 rfl rfl k3
              have hD3 : yDd 2 33 (yU d'.1 0 0, d'.2) H2 := ⟨hD2.1, yXd_k (by decide) hD2.2⟩
              have ei : (i + Int32.ofInt 1).toInt = i.toInt + 1 := zw_p1 (by omega)
              have hadv := ys_adv (T := T) k2.2.2 (by omega)
              have hm3 := m3.2.2
              have k9 : q ≤ q' := k9
              refine zw_ii (pc' := 85) rfl l4 rfl rfl ?_
              refine zw_s (pc' := 36) rfl rfl ?_
              refine ih H2 _ _ _ (yU d'.1 0 0, d'.2) ?_ (zw_gt l0 rfl rfl) (zw_gt l2 rfl rfl) (zw_gt l3 rfl rfl) zw_g1 ⟨by omega, ?_⟩ ?_ m3 hD3 (yR2_t hR (yR2_t k4 (yR2_s (yN2_50.trans (if_pos m2)))))
              · rw [ei]; omega
              · omega
              · rw [if_neg (by omega)]; rfl
            · refine zw_s (pc' := 81) rfl rfl ?_
              refine zw_rz rfl rfl (by decide) ?_
              rcases d3 with ⟨m1, _⟩ | ⟨_, m2, m3, m4⟩
              · omega
              · exact ⟨_, H2, rfl, Or.inr ⟨rfl, _, m3, yR2_a hR (yR2_a k4 (yA2_done (yN2_50.trans (if_neg m2)))), show 1 ≤ (1 : Int) ∧ (1 : Int) ≤ 5 from by decide⟩⟩
        · obtain ⟨_, c1, v, H1, rfl, c3⟩ := yc_line2_33 (L := L) (σ := σ) (dd := dd) (d := d) (f := Int32.ofInt 1) (by rw [hf, if_pos (by omega)]; rfl) hbu (by omega) h hD
          refine zw_s (pc' := 61) rfl rfl ?_
          refine zw_s (pc' := 65) rfl rfl ?_
          refine zw_ld (n := 1) (k := 2) (f := zp_isR) (pc' := 66) rfl rfl l2 rfl rfl ?_
          refine zw_ld (n := 1) (k := 3) (f := zp_isR) (pc' := 67) rfl rfl l3 rfl rfl ?_
          refine zw_c (pc' := 70) (zw_cv (q := 51) (Y := zm_61) W.1 rfl rfl zm_61_t rfl rfl) rfl rfl rfl rfl rfl (c1) ?_
          refine zw_beq1 (g := 80) (pc' := 73) rfl rfl rfl rfl (fun hv => ?_) (fun hv => ?_)
          · refine zw_s (pc' := 81) rfl rfl ?_
            refine zw_rz rfl rfl (by decide) ?_
            rcases c3 with ⟨k1, _⟩ | ⟨_, r, _, k3, k4, k5⟩
            · omega
            · exact ⟨_, H1, rfl, Or.inr ⟨rfl, r, k3, yR2_a hR k4, k5⟩⟩
          · rcases c3 with ⟨_, d', q', k2, k3, k4, k9⟩ | ⟨k1, _⟩
            rotate_left
            · omega
            have W1 := zB_Wd k2.1.1
            obtain ⟨_, d1, v2, H2, rfl, d2, d3⟩ := yc_end (L := L) (σ := σ) (d := dd + 61) k2
            refine zw_ld (n := 1) (k := 0) (f := zp_isR) (pc' := 74) rfl rfl l0 rfl rfl ?_
            refine zw_c (pc' := 77) (zw_cv (q := 51) (Y := zm_97) W1.1 rfl rfl zm_97_t rfl rfl) rfl rfl rfl rfl rfl (d1) ?_
            refine zw_bne1 (g := 82) (pc' := 80) rfl rfl rfl rfl (fun hv2 => ?_) (fun hv2 => ?_)
            · rcases d3 with ⟨_, m2, m3⟩ | ⟨m1, _⟩
              rotate_left
              · omega
              have hD2 : yDd 2 33 d' H2 := yDd_F hwc d2 rfl rfl k3
              have hD3 : yDd 2 33 (yU d'.1 0 0, d'.2) H2 := ⟨hD2.1, yXd_k (by decide) hD2.2⟩
              have ei : (i + Int32.ofInt 1).toInt = i.toInt + 1 := zw_p1 (by omega)
              have hadv := ys_adv (T := T) k2.2.2 (by omega)
              have hm3 := m3.2.2
              have k9 : q ≤ q' := k9
              refine zw_ii (pc' := 85) rfl l4 rfl rfl ?_
              refine zw_s (pc' := 36) rfl rfl ?_
              refine ih H2 _ _ _ (yU d'.1 0 0, d'.2) ?_ (zw_gt l0 rfl rfl) (zw_gt l2 rfl rfl) (zw_gt l3 rfl rfl) zw_g1 ⟨by omega, ?_⟩ ?_ m3 hD3 (yR2_t hR (yR2_t k4 (yR2_s (yN2_50.trans (if_pos m2)))))
              · rw [ei]; omega
              · omega
              · rw [if_neg (by omega)]; rfl
            · refine zw_s (pc' := 81) rfl rfl ?_
              refine zw_rz rfl rfl (by decide) ?_
              rcases d3 with ⟨m1, _⟩ | ⟨_, m2, m3, m4⟩
              · omega
              · exact ⟨_, H2, rfl, Or.inr ⟨rfl, _, m3, yR2_a hR (yR2_a k4 (yA2_done (yN2_50.trans (if_neg m2)))), show 1 ≤ (1 : Int) ∧ (1 : Int) ≤ 5 from by decide⟩⟩

set_option maxRecDepth 8000 in
theorem yc_readL22_13 {L : Nat} {σ : Nat → Int32} {dd : Nat} {T : Nat → Int} {n : Nat} {s0 : yL} (hbu : yBCu) : ∀ (m : Nat) (H : zp_H) (lv9 : zp_LV) (i : Int32) (q : Nat) (d : yLD), 701 - i.toInt.toNat ≤ m → zp_get lv9 0 = some (.inr (.inr (some 52))) → zp_get lv9 2 = some (.inr (.inr (some 23))) → zp_get lv9 3 = some (.inr (.inr (some 14))) → zp_get lv9 4 = some (.inl i) → 0 ≤ i.toInt ∧ i.toInt ≤ q → d.1 0 = (if i.toInt = 0 then 1 else 0) → yE T n q H → yDd 22 13 d H → yR2 T n s0 (0, [], 0, 0, 0, d, q) → zs_Safe L σ (yRD 22 13 T n s0) zm_50 [] (dd + 65) (36, lv9, [], H, (0, 0)) := by
  intro m
  induction m with
  | zero =>
    intro H lv9 i q d hm l0 l2 l3 l4 hi hf h hD hR
    have hwc : yWC 22 13 := ⟨by decide, by decide⟩
    have W := zB_Wd h.1.1
    have h4 := yE_4 h
    have hqn := h.2.2
    have hn7 := h.1.2.1
    refine zw_ld (n := 2) (k := 4) (f := zp_isI) (pc' := 38) rfl rfl l4 rfl rfl ?_
    refine zw_s (pc' := 41) rfl rfl ?_
    refine zw_bgt2 (g := 88) (pc' := 44) rfl rfl rfl rfl (rfl : _ = (700 : Int)) (fun h7 => ?_) (fun h7 => ?_)
    · have hk0 := ys_kd_n (T := T) (n := n) (p := q) (by omega)
      refine zw_s (pc' := 89) rfl rfl ?_
      refine zw_rz rfl rfl (by decide) ?_
      exact ⟨_, H, rfl, Or.inl ⟨rfl, q, d, yR2_a hR (yA2_done (yN2_0.trans (y0_e hk0))), hR, hk0, hD⟩⟩
    · refine zw_ld (n := 1) (k := 0) (f := zp_isR) (pc' := 45) rfl rfl l0 rfl rfl ?_
      refine zw_gR (q := 51) (pc' := 48) W rfl rfl rfl rfl (W.2 51 0 _ rfl) rfl ?_
      refine zw_gI (q := 52) (pc' := 51) W rfl rfl rfl rfl rfl rfl ?_
      refine zw_beq1 (g := 88) (pc' := 54) rfl rfl rfl rfl (fun h1 => ?_) (fun h1 => ?_)
      · refine zw_s (pc' := 89) rfl rfl ?_
        refine zw_rz rfl rfl (by decide) ?_
        exact ⟨_, H, rfl, Or.inl ⟨rfl, q, d, yR2_a hR (yA2_done (yN2_0.trans (y0_e (by omega)))), hR, by omega, hD⟩⟩
      · have hk0 := ys_kd_n (T := T) (n := n) (p := q) (by omega)
        omega
  | succ m ih =>
    intro H lv9 i q d hm l0 l2 l3 l4 hi hf h hD hR
    have hwc : yWC 22 13 := ⟨by decide, by decide⟩
    have W := zB_Wd h.1.1
    have h4 := yE_4 h
    have hqn := h.2.2
    have hn7 := h.1.2.1
    refine zw_ld (n := 2) (k := 4) (f := zp_isI) (pc' := 38) rfl rfl l4 rfl rfl ?_
    refine zw_s (pc' := 41) rfl rfl ?_
    refine zw_bgt2 (g := 88) (pc' := 44) rfl rfl rfl rfl (rfl : _ = (700 : Int)) (fun h7 => ?_) (fun h7 => ?_)
    · have hk0 := ys_kd_n (T := T) (n := n) (p := q) (by omega)
      refine zw_s (pc' := 89) rfl rfl ?_
      refine zw_rz rfl rfl (by decide) ?_
      exact ⟨_, H, rfl, Or.inl ⟨rfl, q, d, yR2_a hR (yA2_done (yN2_0.trans (y0_e hk0))), hR, hk0, hD⟩⟩
    · refine zw_ld (n := 1) (k := 0) (f := zp_isR) (pc' := 45) rfl rfl l0 rfl rfl ?_
      refine zw_gR (q := 51) (pc' := 48) W rfl rfl rfl rfl (W.2 51 0 _ rfl) rfl ?_
      refine zw_gI (q := 52) (pc' := 51) W rfl rfl rfl rfl rfl rfl ?_
      refine zw_beq1 (g := 88) (pc' := 54) rfl rfl rfl rfl (fun h1 => ?_) (fun h1 => ?_)
      · refine zw_s (pc' := 89) rfl rfl ?_
        refine zw_rz rfl rfl (by decide) ?_
        exact ⟨_, H, rfl, Or.inl ⟨rfl, q, d, yR2_a hR (yA2_done (yN2_0.trans (y0_e (by omega)))), hR, by omega, hD⟩⟩
      · refine zw_ld (n := 1) (k := 0) (f := zp_isR) (pc' := 55) rfl rfl l0 rfl rfl ?_
        refine zw_ld (n := 2) (k := 4) (f := zp_isI) (pc' := 57) rfl rfl l4 rfl rfl ?_
        refine zw_bne1 (g := 64) (pc' := 60) rfl rfl rfl rfl (fun h0 => ?_) (fun h0 => ?_)
        · obtain ⟨_, c1, v, H1, rfl, c3⟩ := yc_line22_13 (L := L) (σ := σ) (dd := dd) (d := d) (f := Int32.ofInt 0) (by rw [hf, if_neg (by omega)]; rfl) hbu (by omega) h hD
          refine zw_s (pc' := 65) rfl rfl ?_
          refine zw_ld (n := 1) (k := 2) (f := zp_isR) (pc' := 66) rfl rfl l2 rfl rfl ?_
          refine zw_ld (n := 1) (k := 3) (f := zp_isR) (pc' := 67) rfl rfl l3 rfl rfl ?_
          refine zw_c (pc' := 70) (zw_cv (q := 51) (Y := zm_61) W.1 rfl rfl zm_61_t rfl rfl) rfl rfl rfl rfl rfl (c1) ?_
          refine zw_beq1 (g := 80) (pc' := 73) rfl rfl rfl rfl (fun hv => ?_) (fun hv => ?_)
          · refine zw_s (pc' := 81) rfl rfl ?_
            refine zw_rz rfl rfl (by decide) ?_
            rcases c3 with ⟨k1, _⟩ | ⟨_, r, _, k3, k4, k5⟩
            · omega
            · exact ⟨_, H1, rfl, Or.inr ⟨rfl, r, k3, yR2_a hR k4, k5⟩⟩
          · rcases c3 with ⟨_, d', q', k2, k3, k4, k9⟩ | ⟨k1, _⟩
            rotate_left
            · omega
            have W1 := zB_Wd k2.1.1
            obtain ⟨_, d1, v2, H2, rfl, d2, d3⟩ := yc_end (L := L) (σ := σ) (d := dd + 61) k2
            refine zw_ld (n := 1) (k := 0) (f := zp_isR) (pc' := 74) rfl rfl l0 rfl rfl ?_
            refine zw_c (pc' := 77) (zw_cv (q := 51) (Y := zm_97) W1.1 rfl rfl zm_97_t rfl rfl) rfl rfl rfl rfl rfl (d1) ?_
            refine zw_bne1 (g := 82) (pc' := 80) rfl rfl rfl rfl (fun hv2 => ?_) (fun hv2 => ?_)
            · rcases d3 with ⟨_, m2, m3⟩ | ⟨m1, _⟩
              rotate_left
              · omega
              have hD2 : yDd 22 13 d' H2 := yDd_F hwc d2 rfl rfl k3
              have hD3 : yDd 22 13 (yU d'.1 0 0, d'.2) H2 := ⟨hD2.1, yXd_k (by decide) hD2.2⟩
              have ei : (i + Int32.ofInt 1).toInt = i.toInt + 1 := zw_p1 (by omega)
              have hadv := ys_adv (T := T) k2.2.2 (by omega)
              have hm3 := m3.2.2
              have k9 : q ≤ q' := k9
              refine zw_ii (pc' := 85) rfl l4 rfl rfl ?_
              refine zw_s (pc' := 36) rfl rfl ?_
              refine ih H2 _ _ _ (yU d'.1 0 0, d'.2) ?_ (zw_gt l0 rfl rfl) (zw_gt l2 rfl rfl) (zw_gt l3 rfl rfl) zw_g1 ⟨by omega, ?_⟩ ?_ m3 hD3 (yR2_t hR (yR2_t k4 (yR2_s (yN2_50.trans (if_pos m2)))))
              · rw [ei]; omega
              · omega
              · rw [if_neg (by omega)]; rfl
            · refine zw_s (pc' := 81) rfl rfl ?_
              refine zw_rz rfl rfl (by decide) ?_
              rcases d3 with ⟨m1, _⟩ | ⟨_, m2, m3, m4⟩
              · omega
              · exact ⟨_, H2, rfl, Or.inr ⟨rfl, _, m3, yR2_a hR (yR2_a k4 (yA2_done (yN2_50.trans (if_neg m2)))), show 1 ≤ (1 : Int) ∧ (1 : Int) ≤ 5 from by decide⟩⟩
        · obtain ⟨_, c1, v, H1, rfl, c3⟩ := yc_line22_13 (L := L) (σ := σ) (dd := dd) (d := d) (f := Int32.ofInt 1) (by rw [hf, if_pos (by omega)]; rfl) hbu (by omega) h hD
          refine zw_s (pc' := 61) rfl rfl ?_
          refine zw_s (pc' := 65) rfl rfl ?_
          refine zw_ld (n := 1) (k := 2) (f := zp_isR) (pc' := 66) rfl rfl l2 rfl rfl ?_
          refine zw_ld (n := 1) (k := 3) (f := zp_isR) (pc' := 67) rfl rfl l3 rfl rfl ?_
          refine zw_c (pc' := 70) (zw_cv (q := 51) (Y := zm_61) W.1 rfl rfl zm_61_t rfl rfl) rfl rfl rfl rfl rfl (c1) ?_
          refine zw_beq1 (g := 80) (pc' := 73) rfl rfl rfl rfl (fun hv => ?_) (fun hv => ?_)
          · refine zw_s (pc' := 81) rfl rfl ?_
            refine zw_rz rfl rfl (by decide) ?_
            rcases c3 with ⟨k1, _⟩ | ⟨_, r, _, k3, k4, k5⟩
            · omega
            · exact ⟨_, H1, rfl, Or.inr ⟨rfl, r, k3, yR2_a hR k4, k5⟩⟩
          · rcases c3 with ⟨_, d', q', k2, k3, k4, k9⟩ | ⟨k1, _⟩
            rotate_left
            · omega
            have W1 := zB_Wd k2.1.1
            obtain ⟨_, d1, v2, H2, rfl, d2, d3⟩ := yc_end (L := L) (σ := σ) (d := dd + 61) k2
            refine zw_ld (n := 1) (k := 0) (f := zp_isR) (pc' := 74) rfl rfl l0 rfl rfl ?_
            refine zw_c (pc' := 77) (zw_cv (q := 51) (Y := zm_97) W1.1 rfl rfl zm_97_t rfl rfl) rfl rfl rfl rfl rfl (d1) ?_
            refine zw_bne1 (g := 82) (pc' := 80) rfl rfl rfl rfl (fun hv2 => ?_) (fun hv2 => ?_)
            · rcases d3 with ⟨_, m2, m3⟩ | ⟨m1, _⟩
              rotate_left
              · omega
              have hD2 : yDd 22 13 d' H2 := yDd_F hwc d2 rfl rfl k3
              have hD3 : yDd 22 13 (yU d'.1 0 0, d'.2) H2 := ⟨hD2.1, yXd_k (by decide) hD2.2⟩
              have ei : (i + Int32.ofInt 1).toInt = i.toInt + 1 := zw_p1 (by omega)
              have hadv := ys_adv (T := T) k2.2.2 (by omega)
              have hm3 := m3.2.2
              have k9 : q ≤ q' := k9
              refine zw_ii (pc' := 85) rfl l4 rfl rfl ?_
              refine zw_s (pc' := 36) rfl rfl ?_
              refine ih H2 _ _ _ (yU d'.1 0 0, d'.2) ?_ (zw_gt l0 rfl rfl) (zw_gt l2 rfl rfl) (zw_gt l3 rfl rfl) zw_g1 ⟨by omega, ?_⟩ ?_ m3 hD3 (yR2_t hR (yR2_t k4 (yR2_s (yN2_50.trans (if_pos m2)))))
              · rw [ei]; omega
              · omega
              · rw [if_neg (by omega)]; rfl
            · refine zw_s (pc' := 81) rfl rfl ?_
              refine zw_rz rfl rfl (by decide) ?_
              rcases d3 with ⟨m1, _⟩ | ⟨_, m2, m3, m4⟩
              · omega
              · exact ⟨_, H2, rfl, Or.inr ⟨rfl, _, m3, yR2_a hR (yR2_a k4 (yA2_done (yN2_50.trans (if_neg m2)))), show 1 ≤ (1 : Int) ∧ (1 : Int) ≤ 5 from by decide⟩⟩

set_option maxRecDepth 8000 in
theorem yc_readL22_33 {L : Nat} {σ : Nat → Int32} {dd : Nat} {T : Nat → Int} {n : Nat} {s0 : yL} (hbu : yBCu) : ∀ (m : Nat) (H : zp_H) (lv9 : zp_LV) (i : Int32) (q : Nat) (d : yLD), 701 - i.toInt.toNat ≤ m → zp_get lv9 0 = some (.inr (.inr (some 52))) → zp_get lv9 2 = some (.inr (.inr (some 23))) → zp_get lv9 3 = some (.inr (.inr (some 34))) → zp_get lv9 4 = some (.inl i) → 0 ≤ i.toInt ∧ i.toInt ≤ q → d.1 0 = (if i.toInt = 0 then 1 else 0) → yE T n q H → yDd 22 33 d H → yR2 T n s0 (0, [], 0, 0, 0, d, q) → zs_Safe L σ (yRD 22 33 T n s0) zm_50 [] (dd + 65) (36, lv9, [], H, (0, 0)) := by
  intro m
  induction m with
  | zero =>
    intro H lv9 i q d hm l0 l2 l3 l4 hi hf h hD hR
    have hwc : yWC 22 33 := ⟨by decide, by decide⟩
    have W := zB_Wd h.1.1
    have h4 := yE_4 h
    have hqn := h.2.2
    have hn7 := h.1.2.1
    refine zw_ld (n := 2) (k := 4) (f := zp_isI) (pc' := 38) rfl rfl l4 rfl rfl ?_
    refine zw_s (pc' := 41) rfl rfl ?_
    refine zw_bgt2 (g := 88) (pc' := 44) rfl rfl rfl rfl (rfl : _ = (700 : Int)) (fun h7 => ?_) (fun h7 => ?_)
    · have hk0 := ys_kd_n (T := T) (n := n) (p := q) (by omega)
      refine zw_s (pc' := 89) rfl rfl ?_
      refine zw_rz rfl rfl (by decide) ?_
      exact ⟨_, H, rfl, Or.inl ⟨rfl, q, d, yR2_a hR (yA2_done (yN2_0.trans (y0_e hk0))), hR, hk0, hD⟩⟩
    · refine zw_ld (n := 1) (k := 0) (f := zp_isR) (pc' := 45) rfl rfl l0 rfl rfl ?_
      refine zw_gR (q := 51) (pc' := 48) W rfl rfl rfl rfl (W.2 51 0 _ rfl) rfl ?_
      refine zw_gI (q := 52) (pc' := 51) W rfl rfl rfl rfl rfl rfl ?_
      refine zw_beq1 (g := 88) (pc' := 54) rfl rfl rfl rfl (fun h1 => ?_) (fun h1 => ?_)
      · refine zw_s (pc' := 89) rfl rfl ?_
        refine zw_rz rfl rfl (by decide) ?_
        exact ⟨_, H, rfl, Or.inl ⟨rfl, q, d, yR2_a hR (yA2_done (yN2_0.trans (y0_e (by omega)))), hR, by omega, hD⟩⟩
      · have hk0 := ys_kd_n (T := T) (n := n) (p := q) (by omega)
        omega
  | succ m ih =>
    intro H lv9 i q d hm l0 l2 l3 l4 hi hf h hD hR
    have hwc : yWC 22 33 := ⟨by decide, by decide⟩
    have W := zB_Wd h.1.1
    have h4 := yE_4 h
    have hqn := h.2.2
    have hn7 := h.1.2.1
    refine zw_ld (n := 2) (k := 4) (f := zp_isI) (pc' := 38) rfl rfl l4 rfl rfl ?_
    refine zw_s (pc' := 41) rfl rfl ?_
    refine zw_bgt2 (g := 88) (pc' := 44) rfl rfl rfl rfl (rfl : _ = (700 : Int)) (fun h7 => ?_) (fun h7 => ?_)
    · have hk0 := ys_kd_n (T := T) (n := n) (p := q) (by omega)
      refine zw_s (pc' := 89) rfl rfl ?_
      refine zw_rz rfl rfl (by decide) ?_
      exact ⟨_, H, rfl, Or.inl ⟨rfl, q, d, yR2_a hR (yA2_done (yN2_0.trans (y0_e hk0))), hR, hk0, hD⟩⟩
    · refine zw_ld (n := 1) (k := 0) (f := zp_isR) (pc' := 45) rfl rfl l0 rfl rfl ?_
      refine zw_gR (q := 51) (pc' := 48) W rfl rfl rfl rfl (W.2 51 0 _ rfl) rfl ?_
      refine zw_gI (q := 52) (pc' := 51) W rfl rfl rfl rfl rfl rfl ?_
      refine zw_beq1 (g := 88) (pc' := 54) rfl rfl rfl rfl (fun h1 => ?_) (fun h1 => ?_)
      · refine zw_s (pc' := 89) rfl rfl ?_
        refine zw_rz rfl rfl (by decide) ?_
        exact ⟨_, H, rfl, Or.inl ⟨rfl, q, d, yR2_a hR (yA2_done (yN2_0.trans (y0_e (by omega)))), hR, by omega, hD⟩⟩
      · refine zw_ld (n := 1) (k := 0) (f := zp_isR) (pc' := 55) rfl rfl l0 rfl rfl ?_
        refine zw_ld (n := 2) (k := 4) (f := zp_isI) (pc' := 57) rfl rfl l4 rfl rfl ?_
        refine zw_bne1 (g := 64) (pc' := 60) rfl rfl rfl rfl (fun h0 => ?_) (fun h0 => ?_)
        · obtain ⟨_, c1, v, H1, rfl, c3⟩ := yc_line22_33 (L := L) (σ := σ) (dd := dd) (d := d) (f := Int32.ofInt 0) (by rw [hf, if_neg (by omega)]; rfl) hbu (by omega) h hD
          refine zw_s (pc' := 65) rfl rfl ?_
          refine zw_ld (n := 1) (k := 2) (f := zp_isR) (pc' := 66) rfl rfl l2 rfl rfl ?_
          refine zw_ld (n := 1) (k := 3) (f := zp_isR) (pc' := 67) rfl rfl l3 rfl rfl ?_
          refine zw_c (pc' := 70) (zw_cv (q := 51) (Y := zm_61) W.1 rfl rfl zm_61_t rfl rfl) rfl rfl rfl rfl rfl (c1) ?_
          refine zw_beq1 (g := 80) (pc' := 73) rfl rfl rfl rfl (fun hv => ?_) (fun hv => ?_)
          · refine zw_s (pc' := 81) rfl rfl ?_
            refine zw_rz rfl rfl (by decide) ?_
            rcases c3 with ⟨k1, _⟩ | ⟨_, r, _, k3, k4, k5⟩
            · omega
            · exact ⟨_, H1, rfl, Or.inr ⟨rfl, r, k3, yR2_a hR k4, k5⟩⟩
          · rcases c3 with ⟨_, d', q', k2, k3, k4, k9⟩ | ⟨k1, _⟩
            rotate_left
            · omega
            have W1 := zB_Wd k2.1.1
            obtain ⟨_, d1, v2, H2, rfl, d2, d3⟩ := yc_end (L := L) (σ := σ) (d := dd + 61) k2
            refine zw_ld (n := 1) (k := 0) (f := zp_isR) (pc' := 74) rfl rfl l0 rfl rfl ?_
            refine zw_c (pc' := 77) (zw_cv (q := 51) (Y := zm_97) W1.1 rfl rfl zm_97_t rfl rfl) rfl rfl rfl rfl rfl (d1) ?_
            refine zw_bne1 (g := 82) (pc' := 80) rfl rfl rfl rfl (fun hv2 => ?_) (fun hv2 => ?_)
            · rcases d3 with ⟨_, m2, m3⟩ | ⟨m1, _⟩
              rotate_left
              · omega
              have hD2 : yDd 22 33 d' H2 := yDd_F hwc d2 rfl rfl k3
              have hD3 : yDd 22 33 (yU d'.1 0 0, d'.2) H2 := ⟨hD2.1, yXd_k (by decide) hD2.2⟩
              have ei : (i + Int32.ofInt 1).toInt = i.toInt + 1 := zw_p1 (by omega)
              have hadv := ys_adv (T := T) k2.2.2 (by omega)
              have hm3 := m3.2.2
              have k9 : q ≤ q' := k9
              refine zw_ii (pc' := 85) rfl l4 rfl rfl ?_
              refine zw_s (pc' := 36) rfl rfl ?_
              refine ih H2 _ _ _ (yU d'.1 0 0, d'.2) ?_ (zw_gt l0 rfl rfl) (zw_gt l2 rfl rfl) (zw_gt l3 rfl rfl) zw_g1 ⟨by omega, ?_⟩ ?_ m3 hD3 (yR2_t hR (yR2_t k4 (yR2_s (yN2_50.trans (if_pos m2)))))
              · rw [ei]; omega
              · omega
              · rw [if_neg (by omega)]; rfl
            · refine zw_s (pc' := 81) rfl rfl ?_
              refine zw_rz rfl rfl (by decide) ?_
              rcases d3 with ⟨m1, _⟩ | ⟨_, m2, m3, m4⟩
              · omega
              · exact ⟨_, H2, rfl, Or.inr ⟨rfl, _, m3, yR2_a hR (yR2_a k4 (yA2_done (yN2_50.trans (if_neg m2)))), show 1 ≤ (1 : Int) ∧ (1 : Int) ≤ 5 from by decide⟩⟩
        · obtain ⟨_, c1, v, H1, rfl, c3⟩ := yc_line22_33 (L := L) (σ := σ) (dd := dd) (d := d) (f := Int32.ofInt 1) (by rw [hf, if_pos (by omega)]; rfl) hbu (by omega) h hD
          refine zw_s (pc' := 61) rfl rfl ?_
          refine zw_s (pc' := 65) rfl rfl ?_
          refine zw_ld (n := 1) (k := 2) (f := zp_isR) (pc' := 66) rfl rfl l2 rfl rfl ?_
          refine zw_ld (n := 1) (k := 3) (f := zp_isR) (pc' := 67) rfl rfl l3 rfl rfl ?_
          refine zw_c (pc' := 70) (zw_cv (q := 51) (Y := zm_61) W.1 rfl rfl zm_61_t rfl rfl) rfl rfl rfl rfl rfl (c1) ?_
          refine zw_beq1 (g := 80) (pc' := 73) rfl rfl rfl rfl (fun hv => ?_) (fun hv => ?_)
          · refine zw_s (pc' := 81) rfl rfl ?_
            refine zw_rz rfl rfl (by decide) ?_
            rcases c3 with ⟨k1, _⟩ | ⟨_, r, _, k3, k4, k5⟩
            · omega
            · exact ⟨_, H1, rfl, Or.inr ⟨rfl, r, k3, yR2_a hR k4, k5⟩⟩
          · rcases c3 with ⟨_, d', q', k2, k3, k4, k9⟩ | ⟨k1, _⟩
            rotate_left
            · omega
            have W1 := zB_Wd k2.1.1
            obtain ⟨_, d1, v2, H2, rfl, d2, d3⟩ := yc_end (L := L) (σ := σ) (d := dd + 61) k2
            refine zw_ld (n := 1) (k := 0) (f := zp_isR) (pc' := 74) rfl rfl l0 rfl rfl ?_
            refine zw_c (pc' := 77) (zw_cv (q := 51) (Y := zm_97) W1.1 rfl rfl zm_97_t rfl rfl) rfl rfl rfl rfl rfl (d1) ?_
            refine zw_bne1 (g := 82) (pc' := 80) rfl rfl rfl rfl (fun hv2 => ?_) (fun hv2 => ?_)
            · rcases d3 with ⟨_, m2, m3⟩ | ⟨m1, _⟩
              rotate_left
              · omega
              have hD2 : yDd 22 33 d' H2 := yDd_F hwc d2 rfl rfl k3
              have hD3 : yDd 22 33 (yU d'.1 0 0, d'.2) H2 := ⟨hD2.1, yXd_k (by decide) hD2.2⟩
              have ei : (i + Int32.ofInt 1).toInt = i.toInt + 1 := zw_p1 (by omega)
              have hadv := ys_adv (T := T) k2.2.2 (by omega)
              have hm3 := m3.2.2
              have k9 : q ≤ q' := k9
              refine zw_ii (pc' := 85) rfl l4 rfl rfl ?_
              refine zw_s (pc' := 36) rfl rfl ?_
              refine ih H2 _ _ _ (yU d'.1 0 0, d'.2) ?_ (zw_gt l0 rfl rfl) (zw_gt l2 rfl rfl) (zw_gt l3 rfl rfl) zw_g1 ⟨by omega, ?_⟩ ?_ m3 hD3 (yR2_t hR (yR2_t k4 (yR2_s (yN2_50.trans (if_pos m2)))))
              · rw [ei]; omega
              · omega
              · rw [if_neg (by omega)]; rfl
            · refine zw_s (pc' := 81) rfl rfl ?_
              refine zw_rz rfl rfl (by decide) ?_
              rcases d3 with ⟨m1, _⟩ | ⟨_, m2, m3, m4⟩
              · omega
              · exact ⟨_, H2, rfl, Or.inr ⟨rfl, _, m3, yR2_a hR (yR2_a k4 (yA2_done (yN2_50.trans (if_neg m2)))), show 1 ≤ (1 : Int) ∧ (1 : Int) ≤ 5 from by decide⟩⟩
end
section
/-! ===== the class opens a text, exactly ===== -/
def zm_53 : za_MI := (yX9_open, prog_11_method_2_code, 2, none, 9, 0, 0, [], za_i53)
theorem zm_53_t : za_MT 53 = some zm_53 := rfl
set_option maxRecDepth 8000 in
theorem yc_min {L : Nat} {σ : Nat → Int32} {d : Nat} {H : zp_H} {x y : Int32} (h : x.toInt ≤ y.toInt) : zp_Call L σ (d + 1) 54 [.inl x, .inl y] H (.inl (some (.inl x)), H) := by
  refine zw_ex (zw_met zm_54_t rfl rfl ?_)
  refine zw_ld (n := 1) (k := 0) (f := zp_isI) (pc' := 1) rfl rfl rfl rfl rfl ?_
  refine zw_ld (n := 1) (k := 1) (f := zp_isI) (pc' := 2) rfl rfl rfl rfl rfl ?_
  refine zw_bgt2 (g := 9) (pc' := 5) rfl rfl rfl rfl rfl (fun h1 => ?_) (fun h1 => ?_)
  · omega
  · refine zw_ld (n := 1) (k := 0) (f := zp_isI) (pc' := 6) rfl rfl rfl rfl rfl ?_
    refine zw_s (pc' := 10) rfl rfl ?_
    refine zw_ri rfl rfl ?_
    rfl

set_option maxRecDepth 8000 in
theorem yc_open {L : Nat} {σ : Nat → Int32} {d : Nat} {T : Nat → Int} {n : Nat} {H : zp_H} {x : Int32} (hB : zk_Bs zB0 zg zJc H) (hn : n ≤ 700) (hx : x.toInt = n) (hT : ∀ k, k < n → (H.2.1 1 k).toInt = T k) : ∃ X, zp_Call L σ (d + 4) 53 [.inr (.inr (some 53)), .inl x] H X ∧ ∃ H1, X = (.inl none, H1) ∧ yE T n 0 H1 ∧ zk_Fr zg [(52, 1), (52, 2), (52, 3), (52, 4), (52, 5)] [] H H1 := by
  have W := zB_Wd hB
  have b1 := zB_putf (p := 52) (k := 1) (x := x) hB rfl (fun r hr => by cases hr; exact ⟨by show (0 : Int) ≤ _; omega, by show _ ≤ (700 : Int); omega⟩) (zJc_I rfl hB.2.2.2.2.2.2.2)
  have b2 := zB_putf (p := 52) (k := 2) (x := Int32.ofInt 0) b1 rfl (fun r hr => by cases hr; exact ⟨by decide, by decide⟩) (zJc_I rfl b1.2.2.2.2.2.2.2)
  have hZ : yc_Z T n (zw_I (zw_I H 52 1 x) 52 2 (Int32.ofInt 0)) := ⟨b2, hn, (congrArg Int32.toInt (zw_ne zw_eq rfl)).trans hx, fun k hk => (congrArg Int32.toInt (zw_ne (zw_ne rfl rfl) rfl)).trans (hT k hk)⟩
  obtain ⟨_, c1, H1, rfl, c2, c3, c4⟩ := yc_adv (L := L) (σ := σ) (d := d) (p := 0) hZ (congrArg Int32.toInt zw_eq) (Nat.zero_le _)
  refine zw_met zm_53_t rfl rfl ?_
  refine zw_ld (n := 1) (k := 0) (f := zp_isR) (pc' := 1) rfl rfl rfl rfl rfl ?_
  refine zw_ld (n := 1) (k := 1) (f := zp_isI) (pc' := 2) rfl rfl rfl rfl rfl ?_
  refine zw_ld (n := 1) (k := 0) (f := zp_isR) (pc' := 3) rfl rfl rfl rfl rfl ?_
  refine zw_gR (q := 52) (pc' := 6) W rfl rfl rfl rfl (W.2 52 0 _ rfl) rfl ?_
  refine zw_al (q := 1) (pc' := 7) W rfl rfl rfl ?_
  refine zw_c (pc' := 10) (zw_cs (Y := zm_54) rfl rfl zm_54_t) rfl rfl rfl rfl rfl (yc_min (d := d + 2) (by show x.toInt ≤ 700; omega)) ?_
  refine zw_pI (q := 52) (pc' := 13) W rfl rfl rfl rfl rfl rfl ?_
  refine zw_ld (n := 1) (k := 0) (f := zp_isR) (pc' := 14) rfl rfl rfl rfl rfl ?_
  refine zw_s (pc' := 15) rfl rfl ?_
  refine zw_pI (q := 52) (pc' := 18) W rfl rfl rfl rfl rfl rfl ?_
  refine zw_ld (n := 1) (k := 0) (f := zp_isR) (pc' := 19) rfl rfl rfl rfl rfl ?_
  refine zw_cn (pc' := 22) (zw_cv (q := 52) (Y := zm_55) W.1 rfl rfl zm_55_t rfl rfl) rfl rfl rfl rfl rfl (c1) ?_
  refine zw_rn rfl rfl ?_
  exact ⟨H1, rfl, ⟨c2, c4, Nat.zero_le _⟩, zk_Fr_t (zk_Fr_I (zk_Fr_I (zk_Fr_r H) rfl rfl) rfl rfl) (zk_Fr_w rfl rfl c3)⟩
end
section
/-! ===== the class fills its currents, exactly ===== -/
def zm_6 : za_MI := (yJ7_fill_d0a16, prog_31_method_101_code, 5, none, 17, 0, 0, [], za_i6)
theorem zm_6_t : za_MT 6 = some zm_6 := rfl
set_option maxRecDepth 8000 in
theorem yc_fill5 {L : Nat} {σ : Nat → Int32} {d : Nat} {H : zp_H} {u : Int64} (W : zw_W H) : ∃ X, zp_Call L σ (d + 1) 6 [.inr (.inr (some 6)), .inr (.inl u)] H X ∧ ∃ H1, X = (.inl none, H1) ∧ (∀ k, k < 4 → H1.2.2.1 5 k = u) ∧ H1.2.1 = H.2.1 := by
  refine zw_met zm_6_t rfl rfl ?_
  refine zw_s (pc' := 1) rfl rfl ?_
  refine zw_st (n := 1) (k := 3) (f := zp_isI) (pc' := 2) rfl rfl rfl rfl rfl ?_
  refine zw_ld (n := 1) (k := 0) (f := zp_isR) (pc' := 3) rfl rfl (zw_gt rfl rfl rfl) rfl rfl ?_
  refine zw_al (q := 5) (pc' := 4) W rfl rfl rfl ?_
  refine zw_st (n := 2) (k := 4) (f := zp_isI) (pc' := 6) rfl rfl rfl rfl rfl ?_
  refine zw_ld (n := 1) (k := 3) (f := zp_isI) (pc' := 7) rfl rfl (zw_gt zw_g1 rfl rfl) rfl rfl ?_
  refine zw_ld (n := 2) (k := 4) (f := zp_isI) (pc' := 9) rfl rfl zw_g1 rfl rfl ?_
  refine zw_bge2 (g := 22) (pc' := 12) rfl rfl rfl (rfl : _ = (0 : Int)) (rfl : _ = (4 : Int)) (fun h9 => absurd h9 (by decide)) (fun h0 => ?_)
  refine zw_ld (n := 1) (k := 0) (f := zp_isR) (pc' := 13) rfl rfl (zw_gt (zw_gt rfl rfl rfl) rfl rfl) rfl rfl ?_
  refine zw_ld (n := 1) (k := 3) (f := zp_isI) (pc' := 14) rfl rfl (zw_gt zw_g1 rfl rfl) rfl rfl ?_
  refine zw_ld (n := 1) (k := 1) (f := zp_isL) (pc' := 15) rfl rfl (zw_gt (zw_gt rfl rfl rfl) rfl rfl) rfl rfl ?_
  refine zw_ls (q := 5) (pc' := 16) W rfl rfl (⟨by decide, by decide⟩) rfl ?_
  refine zw_ii (pc' := 19) rfl (zw_gt zw_g1 rfl rfl) rfl rfl ?_
  refine zw_s (pc' := 6) rfl rfl ?_
  refine zw_ld (n := 1) (k := 3) (f := zp_isI) (pc' := 7) rfl rfl zw_g1 rfl rfl ?_
  refine zw_ld (n := 2) (k := 4) (f := zp_isI) (pc' := 9) rfl rfl (zw_gt zw_g1 rfl rfl) rfl rfl ?_
  refine zw_bge2 (g := 22) (pc' := 12) rfl rfl rfl rfl (rfl : _ = (4 : Int)) (fun h1 => ?_) (fun h1 => ?_)
  · exact absurd h1 (by decide)
  · refine zw_ld (n := 1) (k := 0) (f := zp_isR) (pc' := 13) rfl rfl (zw_gt (zw_gt (zw_gt rfl rfl rfl) rfl rfl) rfl rfl) rfl rfl ?_
    refine zw_ld (n := 1) (k := 3) (f := zp_isI) (pc' := 14) rfl rfl zw_g1 rfl rfl ?_
    refine zw_ld (n := 1) (k := 1) (f := zp_isL) (pc' := 15) rfl rfl (zw_gt (zw_gt (zw_gt rfl rfl rfl) rfl rfl) rfl rfl) rfl rfl ?_
    refine zw_ls (q := 5) (pc' := 16) W rfl rfl (⟨by decide, by decide⟩) rfl ?_
    refine zw_ii (pc' := 19) rfl zw_g1 rfl rfl ?_
    refine zw_s (pc' := 6) rfl rfl ?_
    refine zw_ld (n := 1) (k := 3) (f := zp_isI) (pc' := 7) rfl rfl zw_g1 rfl rfl ?_
    refine zw_ld (n := 2) (k := 4) (f := zp_isI) (pc' := 9) rfl rfl (zw_gt (zw_gt zw_g1 rfl rfl) rfl rfl) rfl rfl ?_
    refine zw_bge2 (g := 22) (pc' := 12) rfl rfl rfl rfl (rfl : _ = (4 : Int)) (fun h2 => ?_) (fun h2 => ?_)
    · exact absurd h2 (by decide)
    · refine zw_ld (n := 1) (k := 0) (f := zp_isR) (pc' := 13) rfl rfl (zw_gt (zw_gt (zw_gt (zw_gt rfl rfl rfl) rfl rfl) rfl rfl) rfl rfl) rfl rfl ?_
      refine zw_ld (n := 1) (k := 3) (f := zp_isI) (pc' := 14) rfl rfl zw_g1 rfl rfl ?_
      refine zw_ld (n := 1) (k := 1) (f := zp_isL) (pc' := 15) rfl rfl (zw_gt (zw_gt (zw_gt (zw_gt rfl rfl rfl) rfl rfl) rfl rfl) rfl rfl) rfl rfl ?_
      refine zw_ls (q := 5) (pc' := 16) W rfl rfl (⟨by decide, by decide⟩) rfl ?_
      refine zw_ii (pc' := 19) rfl zw_g1 rfl rfl ?_
      refine zw_s (pc' := 6) rfl rfl ?_
      refine zw_ld (n := 1) (k := 3) (f := zp_isI) (pc' := 7) rfl rfl zw_g1 rfl rfl ?_
      refine zw_ld (n := 2) (k := 4) (f := zp_isI) (pc' := 9) rfl rfl (zw_gt (zw_gt (zw_gt zw_g1 rfl rfl) rfl rfl) rfl rfl) rfl rfl ?_
      refine zw_bge2 (g := 22) (pc' := 12) rfl rfl rfl rfl (rfl : _ = (4 : Int)) (fun h3 => ?_) (fun h3 => ?_)
      · exact absurd h3 (by decide)
      · refine zw_ld (n := 1) (k := 0) (f := zp_isR) (pc' := 13) rfl rfl (zw_gt (zw_gt (zw_gt (zw_gt (zw_gt rfl rfl rfl) rfl rfl) rfl rfl) rfl rfl) rfl rfl) rfl rfl ?_
        refine zw_ld (n := 1) (k := 3) (f := zp_isI) (pc' := 14) rfl rfl zw_g1 rfl rfl ?_
        refine zw_ld (n := 1) (k := 1) (f := zp_isL) (pc' := 15) rfl rfl (zw_gt (zw_gt (zw_gt (zw_gt (zw_gt rfl rfl rfl) rfl rfl) rfl rfl) rfl rfl) rfl rfl) rfl rfl ?_
        refine zw_ls (q := 5) (pc' := 16) W rfl rfl (⟨by decide, by decide⟩) rfl ?_
        refine zw_ii (pc' := 19) rfl zw_g1 rfl rfl ?_
        refine zw_s (pc' := 6) rfl rfl ?_
        refine zw_ld (n := 1) (k := 3) (f := zp_isI) (pc' := 7) rfl rfl zw_g1 rfl rfl ?_
        refine zw_ld (n := 2) (k := 4) (f := zp_isI) (pc' := 9) rfl rfl (zw_gt (zw_gt (zw_gt (zw_gt zw_g1 rfl rfl) rfl rfl) rfl rfl) rfl rfl) rfl rfl ?_
        refine zw_bge2 (g := 22) (pc' := 12) rfl rfl rfl rfl (rfl : _ = (4 : Int)) (fun h4 => ?_) (fun h4 => ?_)
        · refine zw_rn rfl rfl ?_
          refine ⟨_, rfl, ?_, rfl⟩
          intro k hk
          rcases (show k = 0 ∨ k = 1 ∨ k = 2 ∨ k = 3 by omega) with rfl | rfl | rfl | rfl <;> rfl
        · exact absurd h4 (by decide)

set_option maxRecDepth 8000 in
theorem yc_fill25 {L : Nat} {σ : Nat → Int32} {d : Nat} {H : zp_H} {u : Int64} (W : zw_W H) : ∃ X, zp_Call L σ (d + 1) 6 [.inr (.inr (some 26)), .inr (.inl u)] H X ∧ ∃ H1, X = (.inl none, H1) ∧ (∀ k, k < 4 → H1.2.2.1 25 k = u) ∧ H1.2.1 = H.2.1 := by
  refine zw_met zm_6_t rfl rfl ?_
  refine zw_s (pc' := 1) rfl rfl ?_
  refine zw_st (n := 1) (k := 3) (f := zp_isI) (pc' := 2) rfl rfl rfl rfl rfl ?_
  refine zw_ld (n := 1) (k := 0) (f := zp_isR) (pc' := 3) rfl rfl (zw_gt rfl rfl rfl) rfl rfl ?_
  refine zw_al (q := 25) (pc' := 4) W rfl rfl rfl ?_
  refine zw_st (n := 2) (k := 4) (f := zp_isI) (pc' := 6) rfl rfl rfl rfl rfl ?_
  refine zw_ld (n := 1) (k := 3) (f := zp_isI) (pc' := 7) rfl rfl (zw_gt zw_g1 rfl rfl) rfl rfl ?_
  refine zw_ld (n := 2) (k := 4) (f := zp_isI) (pc' := 9) rfl rfl zw_g1 rfl rfl ?_
  refine zw_bge2 (g := 22) (pc' := 12) rfl rfl rfl (rfl : _ = (0 : Int)) (rfl : _ = (4 : Int)) (fun h9 => absurd h9 (by decide)) (fun h0 => ?_)
  refine zw_ld (n := 1) (k := 0) (f := zp_isR) (pc' := 13) rfl rfl (zw_gt (zw_gt rfl rfl rfl) rfl rfl) rfl rfl ?_
  refine zw_ld (n := 1) (k := 3) (f := zp_isI) (pc' := 14) rfl rfl (zw_gt zw_g1 rfl rfl) rfl rfl ?_
  refine zw_ld (n := 1) (k := 1) (f := zp_isL) (pc' := 15) rfl rfl (zw_gt (zw_gt rfl rfl rfl) rfl rfl) rfl rfl ?_
  refine zw_ls (q := 25) (pc' := 16) W rfl rfl (⟨by decide, by decide⟩) rfl ?_
  refine zw_ii (pc' := 19) rfl (zw_gt zw_g1 rfl rfl) rfl rfl ?_
  refine zw_s (pc' := 6) rfl rfl ?_
  refine zw_ld (n := 1) (k := 3) (f := zp_isI) (pc' := 7) rfl rfl zw_g1 rfl rfl ?_
  refine zw_ld (n := 2) (k := 4) (f := zp_isI) (pc' := 9) rfl rfl (zw_gt zw_g1 rfl rfl) rfl rfl ?_
  refine zw_bge2 (g := 22) (pc' := 12) rfl rfl rfl rfl (rfl : _ = (4 : Int)) (fun h1 => ?_) (fun h1 => ?_)
  · exact absurd h1 (by decide)
  · refine zw_ld (n := 1) (k := 0) (f := zp_isR) (pc' := 13) rfl rfl (zw_gt (zw_gt (zw_gt rfl rfl rfl) rfl rfl) rfl rfl) rfl rfl ?_
    refine zw_ld (n := 1) (k := 3) (f := zp_isI) (pc' := 14) rfl rfl zw_g1 rfl rfl ?_
    refine zw_ld (n := 1) (k := 1) (f := zp_isL) (pc' := 15) rfl rfl (zw_gt (zw_gt (zw_gt rfl rfl rfl) rfl rfl) rfl rfl) rfl rfl ?_
    refine zw_ls (q := 25) (pc' := 16) W rfl rfl (⟨by decide, by decide⟩) rfl ?_
    refine zw_ii (pc' := 19) rfl zw_g1 rfl rfl ?_
    refine zw_s (pc' := 6) rfl rfl ?_
    refine zw_ld (n := 1) (k := 3) (f := zp_isI) (pc' := 7) rfl rfl zw_g1 rfl rfl ?_
    refine zw_ld (n := 2) (k := 4) (f := zp_isI) (pc' := 9) rfl rfl (zw_gt (zw_gt zw_g1 rfl rfl) rfl rfl) rfl rfl ?_
    refine zw_bge2 (g := 22) (pc' := 12) rfl rfl rfl rfl (rfl : _ = (4 : Int)) (fun h2 => ?_) (fun h2 => ?_)
    · exact absurd h2 (by decide)
    · refine zw_ld (n := 1) (k := 0) (f := zp_isR) (pc' := 13) rfl rfl (zw_gt (zw_gt (zw_gt (zw_gt rfl rfl rfl) rfl rfl) rfl rfl) rfl rfl) rfl rfl ?_
      refine zw_ld (n := 1) (k := 3) (f := zp_isI) (pc' := 14) rfl rfl zw_g1 rfl rfl ?_
      refine zw_ld (n := 1) (k := 1) (f := zp_isL) (pc' := 15) rfl rfl (zw_gt (zw_gt (zw_gt (zw_gt rfl rfl rfl) rfl rfl) rfl rfl) rfl rfl) rfl rfl ?_
      refine zw_ls (q := 25) (pc' := 16) W rfl rfl (⟨by decide, by decide⟩) rfl ?_
      refine zw_ii (pc' := 19) rfl zw_g1 rfl rfl ?_
      refine zw_s (pc' := 6) rfl rfl ?_
      refine zw_ld (n := 1) (k := 3) (f := zp_isI) (pc' := 7) rfl rfl zw_g1 rfl rfl ?_
      refine zw_ld (n := 2) (k := 4) (f := zp_isI) (pc' := 9) rfl rfl (zw_gt (zw_gt (zw_gt zw_g1 rfl rfl) rfl rfl) rfl rfl) rfl rfl ?_
      refine zw_bge2 (g := 22) (pc' := 12) rfl rfl rfl rfl (rfl : _ = (4 : Int)) (fun h3 => ?_) (fun h3 => ?_)
      · exact absurd h3 (by decide)
      · refine zw_ld (n := 1) (k := 0) (f := zp_isR) (pc' := 13) rfl rfl (zw_gt (zw_gt (zw_gt (zw_gt (zw_gt rfl rfl rfl) rfl rfl) rfl rfl) rfl rfl) rfl rfl) rfl rfl ?_
        refine zw_ld (n := 1) (k := 3) (f := zp_isI) (pc' := 14) rfl rfl zw_g1 rfl rfl ?_
        refine zw_ld (n := 1) (k := 1) (f := zp_isL) (pc' := 15) rfl rfl (zw_gt (zw_gt (zw_gt (zw_gt (zw_gt rfl rfl rfl) rfl rfl) rfl rfl) rfl rfl) rfl rfl) rfl rfl ?_
        refine zw_ls (q := 25) (pc' := 16) W rfl rfl (⟨by decide, by decide⟩) rfl ?_
        refine zw_ii (pc' := 19) rfl zw_g1 rfl rfl ?_
        refine zw_s (pc' := 6) rfl rfl ?_
        refine zw_ld (n := 1) (k := 3) (f := zp_isI) (pc' := 7) rfl rfl zw_g1 rfl rfl ?_
        refine zw_ld (n := 2) (k := 4) (f := zp_isI) (pc' := 9) rfl rfl (zw_gt (zw_gt (zw_gt (zw_gt zw_g1 rfl rfl) rfl rfl) rfl rfl) rfl rfl) rfl rfl ?_
        refine zw_bge2 (g := 22) (pc' := 12) rfl rfl rfl rfl (rfl : _ = (4 : Int)) (fun h4 => ?_) (fun h4 => ?_)
        · refine zw_rn rfl rfl ?_
          refine ⟨_, rfl, ?_, rfl⟩
          intro k hk
          rcases (show k = 0 ∨ k = 1 ∨ k = 2 ∨ k = 3 by omega) with rfl | rfl | rfl | rfl <;> rfl
        · exact absurd h4 (by decide)
end
section
/-! ===== the class counts its rocks: one bit more is one more ===== -/
def yf (k A : Nat) : Nat := A / 16 ^ k % 16
theorem yf_0 {A : Nat} : yf 0 A = A % 16 := by
  unfold yf
  rw [Nat.pow_zero, Nat.div_one]
theorem yf_s {k A : Nat} : yf (k + 1) A = yf k (A / 16) := by
  unfold yf
  rw [Nat.pow_succ, Nat.mul_comm, ← Nat.div_div_eq_div_mul]
theorem yf_add : ∀ (k A B : Nat), (∀ j, yf j A + yf j B < 16) → yf k (A + B) = yf k A + yf k B
  | 0, A, B, h => by
    have h0 := h 0
    rw [yf_0, yf_0] at h0
    rw [yf_0, yf_0, yf_0]
    omega
  | k + 1, A, B, h => by
    have h0 := h 0
    rw [yf_0, yf_0] at h0
    rw [yf_s, yf_s, yf_s, show (A + B) / 16 = A / 16 + B / 16 by omega]
    exact yf_add k (A / 16) (B / 16) (fun j => by rw [← yf_s, ← yf_s]; exact h (j + 1))
theorem yf_b {k A i : Nat} : (yf k A).testBit i = (decide (i < 4) && A.testBit (4 * k + i)) := by
  unfold yf
  rw [show 16 ^ k = 2 ^ (4 * k) from (Nat.pow_mul 2 4 k).symm, show A / 2 ^ (4 * k) % 16 = A / 2 ^ (4 * k) % 2 ^ 4 from rfl, Nat.testBit_mod_two_pow, Nat.testBit_div_two_pow, Nat.add_comm i]
theorem yf_ext {A B : Nat} (h : ∀ k, yf k A = yf k B) : A = B := by
  apply Nat.eq_of_testBit_eq
  intro i
  have e := congrArg (fun x => Nat.testBit x (i % 4)) (h (i / 4))
  have e : (yf (i / 4) A).testBit (i % 4) = (yf (i / 4) B).testBit (i % 4) := e
  rw [yf_b, yf_b, decide_eq_true (show i % 4 < 4 by omega), show 4 * (i / 4) + i % 4 = i by omega, Bool.true_and, Bool.true_and] at e
  exact e
theorem yf_and {k A B : Nat} : yf k (A &&& B) = yf k A &&& yf k B := by
  apply Nat.eq_of_testBit_eq
  intro i
  rw [yf_b, Nat.testBit_and, Nat.testBit_and, yf_b, yf_b]
  cases decide (i < 4) <;> cases A.testBit (4 * k + i) <;> cases B.testBit (4 * k + i) <;> rfl
theorem yf_or {k A B : Nat} : yf k (A ||| B) = yf k A ||| yf k B := by
  apply Nat.eq_of_testBit_eq
  intro i
  rw [yf_b, Nat.testBit_or, Nat.testBit_or, yf_b, yf_b]
  cases decide (i < 4) <;> cases A.testBit (4 * k + i) <;> cases B.testBit (4 * k + i) <;> rfl
theorem yf_sh {k A B s : Nat} (h : ∀ i, 4 ≤ s + i → (yf k B).testBit i = false) : yf k (A / 2 ^ s &&& B) = yf k A / 2 ^ s &&& yf k B := by
  rw [yf_and]
  apply Nat.eq_of_testBit_eq
  intro i
  rw [Nat.testBit_and, Nat.testBit_and]
  by_cases hi : 4 ≤ s + i
  · rw [h i hi, Bool.and_false, Bool.and_false]
  · have e1 : (yf k (A / 2 ^ s)).testBit i = (yf k A / 2 ^ s).testBit i := by
      rw [yf_b, Nat.testBit_div_two_pow, Nat.testBit_div_two_pow, yf_b, decide_eq_true (show i < 4 by omega), decide_eq_true (show i + s < 4 by omega), show 4 * k + i + s = 4 * k + (i + s) by omega]
    rw [e1]
theorem yf_lt {k A : Nat} : yf k A < 16 := Nat.mod_lt _ (by decide)
theorem yf_big {k A n : Nat} (h : A < 16 ^ n) (hk : n ≤ k) : yf k A = 0 := by
  unfold yf
  rw [Nat.div_eq_of_lt (Nat.lt_of_lt_of_le h (Nat.pow_le_pow_right (by decide) hk))]
/-- a mask's nibbles -/
theorem yf_m {M m : Nat} (hM : M < 16 ^ 16) (h : ∀ k, k < 16 → yf k M = m) (k : Nat) : yf k M = if k < 16 then m else 0 := by
  by_cases hk : k < 16
  · rw [if_pos hk]
    exact h k hk
  · rw [if_neg hk]
    exact yf_big hM (by omega)
theorem yf_5 : ∀ k, yf k 6148914691236517205 = if k < 16 then 5 else 0 := yf_m (by decide) (by decide +kernel)
theorem yf_3 : ∀ k, yf k 3689348814741910323 = if k < 16 then 3 else 0 := yf_m (by decide) (by decide +kernel)
theorem yf_bit0 {m s : Nat} (hm : m < 2 ^ (4 - s)) (hs : s ≤ 4) : ∀ i, 4 ≤ s + i → m.testBit i = false := fun i hi => Nat.testBit_lt_two_pow (Nat.lt_of_lt_of_le hm (Nat.pow_le_pow_right (by decide) (by omega)))
def yt1 (u : Nat) : Nat := (u &&& 5) + (u / 2 &&& 5)
def yt2 (a : Nat) : Nat := (a &&& 3) + (a / 4 &&& 3)
def yT (u : Nat) : Nat := yt2 (yt1 u)
theorem yt_k1 : ∀ u, u < 16 → (u &&& 5) + ((u / 2 &&& 5) + (u / 2 &&& 5)) = u ∧ (u &&& 5) ≤ 5 ∧ (u / 2 &&& 5) ≤ 5 := by decide +kernel
theorem yt_k2 : ∀ u, u < 16 → (u &&& 3) ≤ 3 ∧ (u / 4 &&& 3) ≤ 3 := by decide +kernel
theorem yt_k3 : ∀ u, u < 16 → yT u ≤ 4 ∧ yt1 u < 16 := by decide +kernel
theorem yT_or : ∀ a, a < 16 → ∀ b, b < 16 → a &&& b = 0 → yT (a ||| b) = yT a + yT b := by decide +kernel
theorem y_a1 {U : Nat} (hU : U < 16 ^ 16) : ∀ k, yf k (U &&& 6148914691236517205) = yf k U &&& 5 ∧ yf k (U / 2 &&& 6148914691236517205) = yf k U / 2 &&& 5 := by
  intro k
  by_cases hk : k < 16
  · have e := yf_5 k
    rw [if_pos hk] at e
    refine ⟨by rw [yf_and, e], ?_⟩
    have := yf_sh (k := k) (A := U) (B := 6148914691236517205) (s := 1) (by rw [e]; exact yf_bit0 (by decide) (by decide))
    rw [e] at this
    exact this
  · have e := yf_5 k
    rw [if_neg hk] at e
    have z : yf k U = 0 := yf_big hU (by omega)
    rw [yf_and, yf_and, e, z]
    exact ⟨rfl, Nat.and_zero _⟩
theorem y_a2 {U : Nat} (hU : U < 16 ^ 16) : ∀ k, yf k (U &&& 3689348814741910323) = yf k U &&& 3 ∧ yf k (U / 4 &&& 3689348814741910323) = yf k U / 4 &&& 3 := by
  intro k
  by_cases hk : k < 16
  · have e := yf_3 k
    rw [if_pos hk] at e
    refine ⟨by rw [yf_and, e], ?_⟩
    have := yf_sh (k := k) (A := U) (B := 3689348814741910323) (s := 2) (by rw [e]; exact yf_bit0 (by decide) (by decide))
    rw [e] at this
    exact this
  · have e := yf_3 k
    rw [if_neg hk] at e
    have z : yf k U = 0 := yf_big hU (by omega)
    rw [yf_and, yf_and, e, z]
    exact ⟨rfl, Nat.and_zero _⟩
/-- the first step -/
theorem y_s1 {U : Nat} (hU : U < 16 ^ 16) : U = (U &&& 6148914691236517205) + ((U / 2 &&& 6148914691236517205) + (U / 2 &&& 6148914691236517205)) ∧ ∀ k, yf k ((U &&& 6148914691236517205) + (U / 2 &&& 6148914691236517205)) = yt1 (yf k U) := by
  have a := y_a1 hU
  have b := fun k => yt_k1 (yf k U) yf_lt
  have c : ∀ k, yf k ((U / 2 &&& 6148914691236517205) + (U / 2 &&& 6148914691236517205)) = (yf k U / 2 &&& 5) + (yf k U / 2 &&& 5) := fun k => by
    rw [yf_add k _ _ (fun j => by rw [(a j).2]; have := b j; omega), (a k).2]
  constructor
  · refine (yf_ext (fun k => ?_)).symm
    rw [yf_add k _ _ (fun j => by rw [(a j).1, c j]; have := b j; have := yf_lt (k := j) (A := U); omega), (a k).1, c k]
    exact (b k).1
  · intro k
    rw [yf_add k _ _ (fun j => by rw [(a j).1, (a j).2]; have := b j; omega), (a k).1, (a k).2]
    rfl
theorem y_s2 {U : Nat} (hU : U < 16 ^ 16) : ∀ k, yf k ((U &&& 3689348814741910323) + (U / 4 &&& 3689348814741910323)) = yt2 (yf k U) := by
  have a := y_a2 hU
  have b := fun k => yt_k2 (yf k U) yf_lt
  intro k
  rw [yf_add k _ _ (fun j => by rw [(a j).1, (a j).2]; have := b j; omega), (a k).1, (a k).2]
  rfl
def yv (f : Nat → Nat) : Nat → Nat
  | 0 => 0
  | n + 1 => f 0 + 16 * yv (fun k => f (k + 1)) n
theorem y16 : ∀ (n C : Nat), C < 16 ^ n → C = yv (fun k => yf k C) n
  | 0, C, h => by
    have h : C < 1 := h
    show C = 0
    omega
  | n + 1, C, h => by
    show C = yf 0 C + 16 * yv (fun k => yf (k + 1) C) n
    have h1 : C / 16 < 16 ^ n := by
      rw [Nat.pow_succ] at h
      omega
    have ih := y16 n (C / 16) h1
    rw [show (fun k => yf (k + 1) C) = fun k => yf k (C / 16) from funext (fun k => yf_s), ← ih, yf_0]
    omega
end
section
/-! ===== the same of the long ===== -/
theorem yN_add (a b : Int64) : (a + b).toBitVec.toNat = (a.toBitVec.toNat + b.toBitVec.toNat) % 2 ^ 64 := by
  rw [Int64.toBitVec_add, BitVec.toNat_add]
theorem yN_sub (a b : Int64) : (a - b).toBitVec.toNat = (2 ^ 64 - b.toBitVec.toNat + a.toBitVec.toNat) % 2 ^ 64 := by
  rw [Int64.toBitVec_sub, BitVec.toNat_sub]
theorem yN_and (a b : Int64) : (a &&& b).toBitVec.toNat = a.toBitVec.toNat &&& b.toBitVec.toNat := by
  rw [Int64.toBitVec_and, BitVec.toNat_and]
theorem yN_or (a b : Int64) : (a ||| b).toBitVec.toNat = a.toBitVec.toNat ||| b.toBitVec.toNat := by
  rw [Int64.toBitVec_or, BitVec.toNat_or]
theorem yN_ushr {x : Int64} {s : Int32} {m D : Nat} (h : (s.toInt64.toUInt64 &&& Int64.toUInt64 63).toNat % 64 = m) (hD : 2 ^ m = D) : (za_ushr0 x s).toBitVec.toNat = x.toBitVec.toNat / D := by
  show (x.toUInt64 >>> (s.toInt64.toUInt64 &&& Int64.toUInt64 63)).toNat = _
  rw [UInt64.toNat_shiftRight, h, Nat.shiftRight_eq_div_pow, hD]
  rfl
theorem yN_f (g : Int64) : (g.toInt32 &&& Int32.ofInt 127).toInt = ((g.toBitVec.toNat % 128 : Nat) : Int) := by
  have e : (g.toInt32 &&& Int32.ofInt 127).toBitVec.toNat = g.toBitVec.toNat % 128 := by
    rw [Int32.toBitVec_and, BitVec.toNat_and, show (Int32.ofInt 127).toBitVec.toNat = 2 ^ 7 - 1 from by decide, Nat.and_two_pow_sub_one_eq_mod, Int64.toBitVec_toInt32, BitVec.signExtend_eq_setWidth_of_le _ (by decide), BitVec.toNat_setWidth]
    omega
  rw [← Int32.toInt_toBitVec, BitVec.toInt_eq_toNat_of_lt (by rw [e]; omega), e]
theorem y_and15 : ∀ x, x < 16 → x &&& 15 = x := by decide +kernel
theorem y_dv {r m q : Nat} (hm : 0 < m) (h : r < m) : (r + m * q) / m = q := by
  rw [Nat.add_mul_div_left _ _ hm, Nat.div_eq_of_lt h, Nat.zero_add]
theorem y_256 {x z : Nat} : x + 16 * (0 + 16 * z) = x + 256 * z := by omega
theorem y_ar {b0 b1 b2 b3 b4 b5 b6 b7 C D1 D2 D3 D4 D5 D6 D7 E F : Nat} (h : b0 ≤ 8 ∧ b1 ≤ 8 ∧ b2 ≤ 8 ∧ b3 ≤ 8 ∧ b4 ≤ 8 ∧ b5 ≤ 8 ∧ b6 ≤ 8 ∧ b7 ≤ 8) (h0 : C = b0 + 256 * D1) (h1 : D1 = b1 + 256 * D2) (h2 : D2 = b2 + 256 * D3) (h3 : D3 = b3 + 256 * D4) (h4 : D4 = b4 + 256 * D5) (h5 : D5 = b5 + 256 * D6) (h6 : D6 = b6 + 256 * D7) (h7 : D7 = b7 + 256 * 0) (hE : E = C + C / 256) (hF : F = E + E / 65536) : F < 2 ^ 63 ∧ E < 2 ^ 62 ∧ (F + F / 4294967296) % 128 = b0 + b1 + b2 + b3 + b4 + b5 + b6 + b7 := by
  have c1 : C / 256 = D1 := by
    rw [h0]
    exact y_dv (by decide) (by omega)
  rw [c1] at hE
  have e0 : E = (b0 + b1 + 256 * (b1 + b2)) + 65536 * (D2 + D3) := by
    clear h hF c1 h3 h4 h5 h6 h7
    omega
  have e1 : E / 65536 = D2 + D3 := by
    rw [e0]
    exact y_dv (by decide) (by clear hE hF e0 h0 h1 h2 h3 h4 h5 h6 h7 c1; omega)
  rw [e1] at hF
  have k1 : D2 + D3 = (b2 + b3) + 256 * (b3 + b4) + 65536 * (D4 + D5) := by
    clear h hF c1 h0 h1 h5 h6 h7 hE e0 e1
    omega
  have k2 : D4 + D5 = (b4 + b5) + 256 * (b5 + b6) + 65536 * (D6 + D7) := by
    clear h hF c1 h0 h1 h2 h3 h7 hE e0 e1 k1
    omega
  have f0 : F = ((b0 + b1 + b2 + b3) + 256 * (b1 + b2 + b3 + b4) + 65536 * (b2 + b3 + b4 + b5) + 16777216 * (b3 + b4 + b5 + b6)) + 4294967296 * (D4 + D5 + D6 + D7) := by
    clear h c1 h0 h1 h2 h3 h4 h5 h6 h7 hE e1
    omega
  have f1 : F / 4294967296 = D4 + D5 + D6 + D7 := by
    rw [f0]
    exact y_dv (by decide) (by clear hE hF e0 e1 h0 h1 h2 h3 h4 h5 h6 h7 c1 k1 k2 f0; omega)
  have b : D2 ≤ 10000000000000 := by
    clear hE hF e0 e1 h0 h1 c1 k1 k2 f0 f1
    omega
  refine ⟨by clear hE h0 c1 f0 f1 e1 k2 h4 h5 h6 h7 k1; omega, by clear hF c1 f0 f1 e1 k2 h4 h5 h6 h7 k1 hE; omega, ?_⟩
  have g0 : F + F / 4294967296 = (b0 + b1 + b2 + b3 + b4 + b5 + b6 + b7) + 128 * (2 * (b1 + b2 + b3 + b4) + 512 * (b2 + b3 + b4 + b5) + 131072 * (b3 + b4 + b5 + b6) + 33554432 * (D4 + D5 + D6 + D7) + 2 * (D5 + D6 + D7)) := by
    rw [f1, f0]
    clear h hE hF h0 h1 h2 h3 c1 e0 e1 f0 f1 k1 k2 b
    omega
  rw [g0, Nat.add_mul_mod_self_left]
  exact Nat.mod_eq_of_lt (by clear hE hF h0 h1 h2 h3 h4 h5 h6 h7 c1 e0 e1 f0 f1 g0 k1 k2 b; omega)
theorem yBC_s (u : Int64) {U : Nat} (eU : u.toBitVec.toNat = U) : (yBC u).toInt = ((yT (yf 0 U) + yT (yf 1 U) + yT (yf 2 U) + yT (yf 3 U) + yT (yf 4 U) + yT (yf 5 U) + yT (yf 6 U) + yT (yf 7 U) + yT (yf 8 U) + yT (yf 9 U) + yT (yf 10 U) + yT (yf 11 U) + yT (yf 12 U) + yT (yf 13 U) + yT (yf 14 U) + yT (yf 15 U) : Nat) : Int) := by
  have hU : U < 16 ^ 16 := by
    rw [← eU]
    exact Nat.lt_of_lt_of_le u.toBitVec.isLt (by decide)
  obtain ⟨s1, s2⟩ := y_s1 hU
  unfold yBC
  dsimp only
  generalize ha : u - (za_ushr0 u (Int32.ofInt 1) &&& 6148914691236517205) = a
  have ea : a.toBitVec.toNat = (U &&& 6148914691236517205) + (U / 2 &&& 6148914691236517205) := by
    rw [← ha, yN_sub, yN_and, yN_ushr (m := 1) (D := 2) (by decide +kernel) rfl, eU, show (6148914691236517205 : Int64).toBitVec.toNat = 6148914691236517205 from by decide +kernel]
    generalize (U / 2 &&& 6148914691236517205) = V at s1 ⊢
    generalize (U &&& 6148914691236517205) = X at s1 ⊢
    omega
  generalize hA : a.toBitVec.toNat = A at ea
  have hA16 : A < 16 ^ 16 := by
    rw [← hA]
    exact Nat.lt_of_lt_of_le a.toBitVec.isLt (by decide)
  have s3 := y_s2 hA16
  generalize hb : (a &&& 3689348814741910323) + (za_ushr0 a (Int32.ofInt 2) &&& 3689348814741910323) = b
  have l1 : (A &&& 3689348814741910323) ≤ 3689348814741910323 := Nat.and_le_right
  have l2 : (A / 4 &&& 3689348814741910323) ≤ 3689348814741910323 := Nat.and_le_right
  have eb : b.toBitVec.toNat = (A &&& 3689348814741910323) + (A / 4 &&& 3689348814741910323) := by
    rw [← hb, yN_add, yN_and, yN_and, yN_ushr (m := 2) (D := 4) (by decide +kernel) rfl, hA, show (3689348814741910323 : Int64).toBitVec.toNat = 3689348814741910323 from by decide +kernel]
    omega
  have kB : ∀ k, yf k b.toBitVec.toNat = yT (yf k U) := fun k => by
    rw [eb, s3 k, ea, s2 k]
    rfl
  generalize hB : b.toBitVec.toNat = B at eb kB
  generalize hc : (b + za_ushr0 b (Int32.ofInt 4)) &&& 1085102592571150095 = c
  have ec : c.toBitVec.toNat = (B + B / 16) &&& 1085102592571150095 := by
    rw [← hc, yN_and, yN_add, yN_ushr (m := 4) (D := 16) (by decide +kernel) rfl, hB, show (1085102592571150095 : Int64).toBitVec.toNat = 1085102592571150095 from by decide +kernel, Nat.mod_eq_of_lt (by omega)]
  generalize hC : c.toBitVec.toNat = C at ec
  have t4 : ∀ k, yT (yf k U) ≤ 4 := fun k => (yt_k3 _ yf_lt).1
  have kC : ∀ k, yf k C = (yT (yf k U) + yT (yf (k + 1) U)) &&& yf k 1085102592571150095 := fun k => by
    have e2 : ∀ j, yf j (B / 16) = yT (yf (j + 1) U) := fun j => by rw [← yf_s, kB]
    rw [ec, yf_and, yf_add k B (B / 16) (fun j => by rw [kB, e2]; have := t4 j; have := t4 (j + 1); omega), kB, e2]
  have kE : ∀ k, yf k 1085102592571150095 = 15 → yf k C = yT (yf k U) + yT (yf (k + 1) U) := fun k h => by
    rw [kC, h]
    exact y_and15 _ (by have := t4 k; have := t4 (k + 1); omega)
  have kO : ∀ k, yf k 1085102592571150095 = 0 → yf k C = 0 := fun k h => by
    rw [kC, h]
    exact Nat.and_zero _
  have lC : C ≤ 1085102592571150095 := by
    rw [ec]
    exact Nat.and_le_right
  have sC := y16 16 C (by omega)
  simp only [yv] at sC
  rw [kE 0 (by decide +kernel), kO 1 (by decide +kernel), kE 2 (by decide +kernel), kO 3 (by decide +kernel), kE 4 (by decide +kernel), kO 5 (by decide +kernel), kE 6 (by decide +kernel), kO 7 (by decide +kernel), kE 8 (by decide +kernel), kO 9 (by decide +kernel), kE 10 (by decide +kernel), kO 11 (by decide +kernel), kE 12 (by decide +kernel), kO 13 (by decide +kernel), kE 14 (by decide +kernel), kO 15 (by decide +kernel)] at sC
  simp only [y_256] at sC
  have tt : ∀ k, yT (yf k U) + yT (yf (k + 1) U) ≤ 8 := fun k => by have := t4 k; have := t4 (k + 1); omega
  obtain ⟨a1, a2, a3⟩ := y_ar (E := C + C / 256) (F := C + C / 256 + (C + C / 256) / 65536) ⟨tt 0, tt 2, tt 4, tt 6, tt 8, tt 10, tt 12, tt 14⟩ sC rfl rfl rfl rfl rfl rfl rfl rfl rfl
  clear sC kC kE kO kB s1 s2 s3 tt t4
  generalize he : c + za_ushr0 c (Int32.ofInt 8) = e
  have ee : e.toBitVec.toNat = C + C / 256 := by
    rw [← he, yN_add, yN_ushr (m := 8) (D := 256) (by decide +kernel) rfl, hC]
    omega
  generalize hE : e.toBitVec.toNat = E at ee
  generalize hf : e + za_ushr0 e (Int32.ofInt 16) = f
  have ef : f.toBitVec.toNat = E + E / 65536 := by
    rw [← hf, yN_add, yN_ushr (m := 16) (D := 65536) (by decide +kernel) rfl, hE]
    omega
  generalize hF : f.toBitVec.toNat = F at ef
  generalize hg : f + za_ushr0 f (Int32.ofInt 32) = g
  have eg : g.toBitVec.toNat = F + F / 4294967296 := by
    rw [← hg, yN_add, yN_ushr (m := 32) (D := 4294967296) (by decide +kernel) rfl, hF]
    omega
  rw [yN_f, eg, ef, ee, a3]
  show ((yT (yf 0 U) + yT (yf 1 U) + (yT (yf 2 U) + yT (yf 3 U)) + (yT (yf 4 U) + yT (yf 5 U)) + (yT (yf 6 U) + yT (yf 7 U)) + (yT (yf 8 U) + yT (yf 9 U)) + (yT (yf 10 U) + yT (yf 11 U)) + (yT (yf 12 U) + yT (yf 13 U)) + (yT (yf 14 U) + yT (yf 15 U)) : Nat) : Int) = _
  refine congrArg Int.ofNat ?_
  clear a1 a2 a3 ee ef eg lC hU hA16 l1 l2
  omega
theorem yBit_n : ∀ c, c < 64 → (yBit (c : Nat)).toBitVec.toNat = 2 ^ c := by decide +kernel
theorem yBit_1 : ∀ c, c < 64 → yT (yf 0 (2 ^ c)) + yT (yf 1 (2 ^ c)) + yT (yf 2 (2 ^ c)) + yT (yf 3 (2 ^ c)) + yT (yf 4 (2 ^ c)) + yT (yf 5 (2 ^ c)) + yT (yf 6 (2 ^ c)) + yT (yf 7 (2 ^ c)) + yT (yf 8 (2 ^ c)) + yT (yf 9 (2 ^ c)) + yT (yf 10 (2 ^ c)) + yT (yf 11 (2 ^ c)) + yT (yf 12 (2 ^ c)) + yT (yf 13 (2 ^ c)) + yT (yf 14 (2 ^ c)) + yT (yf 15 (2 ^ c)) = 1 := by decide +kernel
theorem yBCt : yBCu := by
  intro r c hc h
  have e0 : r.toBitVec.toNat &&& 2 ^ c = 0 := by
    have := congrArg (fun x : Int64 => x.toBitVec.toNat) h
    have : (r &&& yBit c).toBitVec.toNat = 0 := this
    rw [yN_and, yBit_n c hc] at this
    exact this
  have k0 : ∀ k, yT (yf k (r.toBitVec.toNat ||| 2 ^ c)) = yT (yf k r.toBitVec.toNat) + yT (yf k (2 ^ c)) := fun k => by
    rw [yf_or]
    refine yT_or _ yf_lt _ yf_lt ?_
    rw [← yf_and, e0]
    unfold yf
    rw [Nat.zero_div]
  have e1 := yBit_1 c hc
  rw [yBC_s (r ||| yBit c) (U := r.toBitVec.toNat ||| 2 ^ c) (by rw [yN_or, yBit_n c hc]), yBC_s r rfl]
  simp only [k0]
  omega
end
section
/-! ===== the reference: numbers, ways, exactly ===== -/
def zm_181 : za_MI := (yX12_number, prog_14_method_22_code, 4, (some FieldType.int), 12, 0, 0, [], za_i181)
theorem zm_181_t : za_MT 181 = some zm_181 := rfl
def zm_182 : za_MI := (yX12_numberHere, prog_14_method_21_code, 3, (some FieldType.boolean), 12, 0, 0, [], za_i182)
theorem zm_182_t : za_MT 182 = some zm_182 := rfl
def zm_189 : za_MI := (yX12_isWay, prog_14_method_23_code, 1, (some FieldType.boolean), 12, 0, 0, [], za_i189)
theorem zm_189_t : za_MT 189 = some zm_189 := rfl
/-- the reference stands at a token -/
def yP (T : Nat → Int) (n p : Nat) (H : zp_H) : Prop := yr_T T n H ∧ yr_k T n p H ∧ p ≤ n
theorem yp_go {L : Nat} {σ : Nat → Int32} {d : Nat} {T : Nat → Int} {n p : Nat} {H : zp_H} (hby : ∀ k, k < n → -128 ≤ T k ∧ T k ≤ 127) (hB : zk_Bs zR zg zJ H) (h : yP T n p H) : ∃ H1, zp_Call L σ (d + 2) 171 [.inr (.inr (some 73))] H (.inl none, H1) ∧ zk_Bs zR zg zJ H1 ∧ zk_Fr zg yr_m [] H H1 ∧ yP T n (ys_nx T n p) H1 := by
  obtain ⟨H1, c1, c2, c3, _, _⟩ := zx_goes (L := L) (σ := σ) (d := d) hB
  obtain ⟨v1, v2, v3⟩ := h
  have hn := ys_nxb (T := T) v3
  obtain ⟨_, c4, H2, rfl, c5, c6, c7⟩ := yr_goes (L := L) (σ := σ) (d := d) (p := ys_nx T n p) hby ⟨zR_T hB, v1⟩ v2.2.1 hn.2.2.1
  have e := zp_Call_u c1 c4
  have e : H1 = H2 := by cases e; rfl
  subst e
  exact ⟨H1, c1, c2, c6, c5.2, c7, hn.2.2.1⟩
theorem yp_wr {L : Nat} {σ : Nat → Int32} {d : Nat} {T : Nat → Int} {n p : Nat} {H : zp_H} {y : Int32} (hB : zk_Bs zR zg zJ H) (hg : (H.2.1 72 23).toInt = 0) (h : yP T n p H) (hy : 1 ≤ y.toInt ∧ y.toInt ≤ 5) : ∃ H1, zp_Call L σ (d + 1) 180 [.inr (.inr (some 73)), .inl y] H (.inl none, H1) ∧ zk_Bs zR zg zJ H1 ∧ (H1.2.1 72 23).toInt ≠ 0 ∧ zk_Fr zg zl_M [] H H1 ∧ yD T n (y.toInt, p) H1 := by
  obtain ⟨H1, c1, c2, c3, c4⟩ := zl_wrong (L := L) (σ := σ) (d := d) hB hy
  have e := zp_Call_u c1 (zq_wrong0 (d := 0) (zR_Wd (zR_dn hB)) hg)
  have e : H1 = zw_I (zw_I H 72 23 y) 72 24 (H.2.1 72 29) := by cases e; rfl
  refine ⟨H1, c1, c2, c3, c4, ?_⟩
  rw [e]
  refine ⟨yr_T_w h.1 (by omega), congrArg Int32.toInt (zw_ne zw_eq rfl), (by show y.toInt ≠ 0; omega), ?_⟩
  exact (congrArg Int32.toInt zw_eq).trans h.2.1.1
/-- no number from lo to hi stands here -/
def yNo (T : Nat → Int) (n p : Nat) (lo hi : Int) (r : Int × Nat) : Prop := ∀ ok, yNu T n p lo hi ok = .inr r

set_option maxRecDepth 8000 in
theorem yp_nh {L : Nat} {σ : Nat → Int32} {d : Nat} {T : Nat → Int} {n p : Nat} {H : zp_H} {x y : Int32} (hB : zk_Bs zR zg zJ H) (hg : (H.2.1 72 23).toInt = 0) (h : yP T n p H) (hy : y.toInt < 2147483647) : ∃ X, zp_Call L σ (d + 2) 182 [.inr (.inr (some 73)), .inl x, .inl y] H X ∧ ((X = (.inl (some (.inl (Int32.ofInt 1))), H) ∧ ys_kd T n p = 2 ∧ x.toInt ≤ ys_vl T n p ∧ ys_vl T n p ≤ y.toInt ∧ (H.2.1 72 31).toInt = ys_vl T n p) ∨ (∃ H1, X = (.inl (some (.inl (Int32.ofInt 0))), H1) ∧ zk_Bs zR zg zJ H1 ∧ (H1.2.1 72 23).toInt ≠ 0 ∧ zk_Fr zg zl_M [] H H1 ∧ ∃ r, yD T n r H1 ∧ yNo T n p x.toInt y.toInt r)) := by
  have W := zR_Wd (zR_dn hB)
  have k28 : (H.2.1 72 28).toInt = yr_s (ys_kd T n p) := h.2.1.2.2.1
  refine zw_met zm_182_t rfl rfl ?_
  refine zw_ld (n := 1) (k := 0) (f := zp_isR) (pc' := 1) rfl rfl rfl rfl rfl ?_
  refine zw_c (pc' := 4) (zw_cv (q := 72) (Y := zm_175) W.1 rfl rfl zm_175_t rfl rfl) rfl rfl rfl rfl rfl (zq_good1 W hg) ?_
  refine zw_bne1 (g := 9) (pc' := 7) rfl rfl rfl (rfl : _ = (1 : Int)) (fun hb => ?_) (fun h9 => absurd h9 (by decide))
  refine zw_ld (n := 1) (k := 0) (f := zp_isR) (pc' := 10) rfl rfl rfl rfl rfl ?_
  refine zw_gI (q := 72) (pc' := 13) W rfl rfl rfl rfl rfl rfl ?_
  refine zw_s (pc' := 14) rfl rfl ?_
  refine zw_beq2 (g := 25) (pc' := 17) rfl rfl rfl rfl (rfl : _ = (2 : Int)) (fun hb => ?_) (fun hb => ?_)
  · have hk : ys_kd T n p = 2 := yr_s_2.mp (k28.symm.trans hb)
    have nm := yr_nm h.2.2 h.2.1 hk
    refine zw_ld (n := 1) (k := 0) (f := zp_isR) (pc' := 26) rfl rfl rfl rfl rfl ?_
    refine zw_gI (q := 72) (pc' := 29) W rfl rfl rfl rfl rfl rfl ?_
    refine zw_s (pc' := 30) rfl rfl ?_
    refine zw_bgt2 (g := 49) (pc' := 33) rfl rfl rfl rfl (rfl : _ = (4 : Int)) (fun h1 => ?_) (fun h1 => ?_)
    · obtain ⟨H1, c1, c2, c3, c4, c5⟩ := yp_wr (L := L) (σ := σ) (d := d) (y := Int32.ofInt 2) hB hg h (by decide)
      have W1 := zR_Wd (zR_dn c2)
      refine zw_ld (n := 1) (k := 0) (f := zp_isR) (pc' := 50) rfl rfl rfl rfl rfl ?_
      refine zw_s (pc' := 51) rfl rfl ?_
      refine zw_cn (pc' := 54) (zw_cv (q := 72) (Y := zm_180) W.1 rfl rfl zm_180_t rfl rfl) rfl rfl rfl rfl rfl (c1) ?_
      refine zw_ld (n := 1) (k := 0) (f := zp_isR) (pc' := 55) rfl rfl rfl rfl rfl ?_
      refine zw_c (pc' := 58) (zw_cv (q := 72) (Y := zm_175) W1.1 rfl rfl zm_175_t rfl rfl) rfl rfl rfl rfl rfl (zq_good0 W1 c3) ?_
      refine zw_rz rfl rfl (by decide) ?_
      exact Or.inr ⟨H1, rfl, c2, c3, c4, _, c5, fun ok => by unfold yNu; rw [if_pos hk, if_neg (by rcases nm with nm | nm <;> omega)]; rfl⟩
    · refine zw_ld (n := 1) (k := 0) (f := zp_isR) (pc' := 34) rfl rfl rfl rfl rfl ?_
      refine zw_gI (q := 72) (pc' := 37) W rfl rfl rfl rfl rfl rfl ?_
      refine zw_ld (n := 1) (k := 1) (f := zp_isI) (pc' := 38) rfl rfl rfl rfl rfl ?_
      refine zw_blt2 (g := 49) (pc' := 41) rfl rfl rfl rfl rfl (fun h2 => ?_) (fun h2 => ?_)
      · obtain ⟨H1, c1, c2, c3, c4, c5⟩ := yp_wr (L := L) (σ := σ) (d := d) (y := Int32.ofInt 2) hB hg h (by decide)
        have W1 := zR_Wd (zR_dn c2)
        refine zw_ld (n := 1) (k := 0) (f := zp_isR) (pc' := 50) rfl rfl rfl rfl rfl ?_
        refine zw_s (pc' := 51) rfl rfl ?_
        refine zw_cn (pc' := 54) (zw_cv (q := 72) (Y := zm_180) W.1 rfl rfl zm_180_t rfl rfl) rfl rfl rfl rfl rfl (c1) ?_
        refine zw_ld (n := 1) (k := 0) (f := zp_isR) (pc' := 55) rfl rfl rfl rfl rfl ?_
        refine zw_c (pc' := 58) (zw_cv (q := 72) (Y := zm_175) W1.1 rfl rfl zm_175_t rfl rfl) rfl rfl rfl rfl rfl (zq_good0 W1 c3) ?_
        refine zw_rz rfl rfl (by decide) ?_
        exact Or.inr ⟨H1, rfl, c2, c3, c4, _, c5, fun ok => by unfold yNu; rw [if_pos hk, if_neg (by rcases nm with nm | nm <;> omega)]; rfl⟩
      · refine zw_ld (n := 1) (k := 0) (f := zp_isR) (pc' := 42) rfl rfl rfl rfl rfl ?_
        refine zw_gI (q := 72) (pc' := 45) W rfl rfl rfl rfl rfl rfl ?_
        refine zw_ld (n := 1) (k := 2) (f := zp_isI) (pc' := 46) rfl rfl rfl rfl rfl ?_
        refine zw_ble2 (g := 54) (pc' := 49) rfl rfl rfl rfl rfl (fun h3 => ?_) (fun h3 => ?_)
        · refine zw_ld (n := 1) (k := 0) (f := zp_isR) (pc' := 55) rfl rfl rfl rfl rfl ?_
          refine zw_c (pc' := 58) (zw_cv (q := 72) (Y := zm_175) W.1 rfl rfl zm_175_t rfl rfl) rfl rfl rfl rfl rfl (zq_good1 W hg) ?_
          refine zw_rz rfl rfl (by decide) ?_
          exact Or.inl ⟨rfl, hk, by rcases nm with nm | nm <;> omega, by rcases nm with nm | nm <;> omega, by rcases nm with nm | nm <;> omega⟩
        · obtain ⟨H1, c1, c2, c3, c4, c5⟩ := yp_wr (L := L) (σ := σ) (d := d) (y := Int32.ofInt 2) hB hg h (by decide)
          have W1 := zR_Wd (zR_dn c2)
          refine zw_ld (n := 1) (k := 0) (f := zp_isR) (pc' := 50) rfl rfl rfl rfl rfl ?_
          refine zw_s (pc' := 51) rfl rfl ?_
          refine zw_cn (pc' := 54) (zw_cv (q := 72) (Y := zm_180) W.1 rfl rfl zm_180_t rfl rfl) rfl rfl rfl rfl rfl (c1) ?_
          refine zw_ld (n := 1) (k := 0) (f := zp_isR) (pc' := 55) rfl rfl rfl rfl rfl ?_
          refine zw_c (pc' := 58) (zw_cv (q := 72) (Y := zm_175) W1.1 rfl rfl zm_175_t rfl rfl) rfl rfl rfl rfl rfl (zq_good0 W1 c3) ?_
          refine zw_rz rfl rfl (by decide) ?_
          exact Or.inr ⟨H1, rfl, c2, c3, c4, _, c5, fun ok => by unfold yNu; rw [if_pos hk, if_neg (by rcases nm with nm | nm <;> omega)]; rfl⟩
  · have hk : ys_kd T n p ≠ 2 := fun h9 => hb (k28.trans (yr_s_2.mpr h9))
    obtain ⟨H1, c1, c2, c3, c4, c5⟩ := yp_wr (L := L) (σ := σ) (d := d) (y := Int32.ofInt 1) hB hg h (by decide)
    have W1 := zR_Wd (zR_dn c2)
    refine zw_ld (n := 1) (k := 0) (f := zp_isR) (pc' := 18) rfl rfl rfl rfl rfl ?_
    refine zw_s (pc' := 19) rfl rfl ?_
    refine zw_cn (pc' := 22) (zw_cv (q := 72) (Y := zm_180) W.1 rfl rfl zm_180_t rfl rfl) rfl rfl rfl rfl rfl (c1) ?_
    refine zw_s (pc' := 54) rfl rfl ?_
    refine zw_ld (n := 1) (k := 0) (f := zp_isR) (pc' := 55) rfl rfl rfl rfl rfl ?_
    refine zw_c (pc' := 58) (zw_cv (q := 72) (Y := zm_175) W1.1 rfl rfl zm_175_t rfl rfl) rfl rfl rfl rfl rfl (zq_good0 W1 c3) ?_
    refine zw_rz rfl rfl (by decide) ?_
    exact Or.inr ⟨H1, rfl, c2, c3, c4, _, c5, fun ok => by unfold yNu; rw [if_neg hk]; rfl⟩

set_option maxRecDepth 8000 in
theorem yp_nh0 {L : Nat} {σ : Nat → Int32} {d : Nat} {H : zp_H} {x y : Int32} (hB : zk_Bs zR zg zJ H) (hg : (H.2.1 72 23).toInt ≠ 0) : zp_Call L σ (d + 2) 182 [.inr (.inr (some 73)), .inl x, .inl y] H (.inl (some (.inl (Int32.ofInt 0))), H) := by
  have W := zR_Wd (zR_dn hB)
  refine zw_ex ?_
  refine zw_met zm_182_t rfl rfl ?_
  refine zw_ld (n := 1) (k := 0) (f := zp_isR) (pc' := 1) rfl rfl rfl rfl rfl ?_
  refine zw_c (pc' := 4) (zw_cv (q := 72) (Y := zm_175) W.1 rfl rfl zm_175_t rfl rfl) rfl rfl rfl rfl rfl (zq_good0 W hg) ?_
  refine zw_bne1 (g := 9) (pc' := 7) rfl rfl rfl (rfl : _ = (0 : Int)) (fun h9 => absurd h9 (by decide)) (fun hb => ?_)
  refine zw_s (pc' := 8) rfl rfl ?_
  refine zw_rz rfl rfl (by decide) ?_
  rfl

set_option maxRecDepth 8000 in
theorem yp_nu {L : Nat} {σ : Nat → Int32} {d : Nat} {T : Nat → Int} {n p : Nat} {H : zp_H} {x y : Int32} (hby : ∀ k, k < n → -128 ≤ T k ∧ T k ≤ 127) (hB : zk_Bs zR zg zJ H) (hg : (H.2.1 72 23).toInt = 0) (h : yP T n p H) (hy : y.toInt < 2147483647) : ∃ X, zp_Call L σ (d + 3) 181 [.inr (.inr (some 73)), .inl x, .inl y] H X ∧ ((∃ v H1, X = (.inl (some (.inl v)), H1) ∧ zk_Bs zR zg zJ H1 ∧ zk_Fr zg zl_M [] H H1 ∧ (H1.2.1 72 23).toInt = 0 ∧ ys_kd T n p = 2 ∧ x.toInt ≤ ys_vl T n p ∧ ys_vl T n p ≤ y.toInt ∧ v.toInt = ys_vl T n p ∧ yP T n (ys_nx T n p) H1) ∨ (∃ H1, X = (.inl (some (.inl (Int32.ofInt 0))), H1) ∧ zk_Bs zR zg zJ H1 ∧ (H1.2.1 72 23).toInt ≠ 0 ∧ zk_Fr zg zl_M [] H H1 ∧ ∃ r, yD T n r H1 ∧ yNo T n p x.toInt y.toInt r)) := by
  have W := zR_Wd (zR_dn hB)
  refine zw_met zm_181_t rfl rfl ?_
  refine zw_ld (n := 1) (k := 0) (f := zp_isR) (pc' := 1) rfl rfl rfl rfl rfl ?_
  refine zw_ld (n := 1) (k := 1) (f := zp_isI) (pc' := 2) rfl rfl rfl rfl rfl ?_
  refine zw_ld (n := 1) (k := 2) (f := zp_isI) (pc' := 3) rfl rfl rfl rfl rfl ?_
  obtain ⟨_, n1, ⟨rfl, n2, n3, n4, n5⟩ | ⟨H1, rfl, n2, n3, n4, r, n5, n6⟩⟩ := yp_nh (L := L) (σ := σ) (d := d) (x := x) (y := y) hB hg h hy
  · refine zw_c (pc' := 6) (zw_cv (q := 72) (Y := zm_182) W.1 rfl rfl zm_182_t rfl rfl) rfl rfl rfl rfl rfl (n1) ?_
    refine zw_beq1 (g := 16) (pc' := 9) rfl rfl rfl (rfl : _ = (1 : Int)) (fun h9 => absurd h9 (by decide)) (fun hb => ?_)
    refine zw_ld (n := 1) (k := 0) (f := zp_isR) (pc' := 10) rfl rfl rfl rfl rfl ?_
    refine zw_gI (q := 72) (pc' := 13) W rfl rfl rfl rfl rfl rfl ?_
    refine zw_s (pc' := 17) rfl rfl ?_
    refine zw_st (n := 1) (k := 3) (f := zp_isI) (pc' := 18) rfl rfl rfl rfl rfl ?_
    refine zw_ld (n := 1) (k := 0) (f := zp_isR) (pc' := 19) rfl rfl (zw_gt rfl rfl rfl) rfl rfl ?_
    refine zw_c (pc' := 22) (zw_cv (q := 72) (Y := zm_175) W.1 rfl rfl zm_175_t rfl rfl) rfl rfl rfl rfl rfl (zq_good1 W hg) ?_
    refine zw_beq1 (g := 29) (pc' := 25) rfl rfl rfl (rfl : _ = (1 : Int)) (fun h9 => absurd h9 (by decide)) (fun hb => ?_)
    obtain ⟨H1, g1, g2, g3, g4⟩ := yp_go (L := L) (σ := σ) (d := d) hby hB h
    refine zw_ld (n := 1) (k := 0) (f := zp_isR) (pc' := 26) rfl rfl (zw_gt rfl rfl rfl) rfl rfl ?_
    refine zw_cn (pc' := 29) (zw_cv (q := 72) (Y := zm_171) W.1 rfl rfl zm_171_t rfl rfl) rfl rfl rfl rfl rfl (g1) ?_
    refine zw_ld (n := 1) (k := 3) (f := zp_isI) (pc' := 30) rfl rfl zw_g1 rfl rfl ?_
    refine zw_ri rfl rfl ?_
    exact Or.inl ⟨_, H1, rfl, g2, zk_Fr_w rfl rfl g3, (zx_fe g3 23 rfl rfl rfl).trans hg, n2, n3, n4, n5, g4⟩
  · have W1 := zR_Wd (zR_dn n2)
    refine zw_c (pc' := 6) (zw_cv (q := 72) (Y := zm_182) W.1 rfl rfl zm_182_t rfl rfl) rfl rfl rfl rfl rfl (n1) ?_
    refine zw_beq1 (g := 16) (pc' := 9) rfl rfl rfl (rfl : _ = (0 : Int)) (fun hb => ?_) (fun h9 => absurd h9 (by decide))
    refine zw_s (pc' := 17) rfl rfl ?_
    refine zw_st (n := 1) (k := 3) (f := zp_isI) (pc' := 18) rfl rfl rfl rfl rfl ?_
    refine zw_ld (n := 1) (k := 0) (f := zp_isR) (pc' := 19) rfl rfl (zw_gt rfl rfl rfl) rfl rfl ?_
    refine zw_c (pc' := 22) (zw_cv (q := 72) (Y := zm_175) W1.1 rfl rfl zm_175_t rfl rfl) rfl rfl rfl rfl rfl (zq_good0 W1 n3) ?_
    refine zw_beq1 (g := 29) (pc' := 25) rfl rfl rfl (rfl : _ = (0 : Int)) (fun hb => ?_) (fun h9 => absurd h9 (by decide))
    refine zw_ld (n := 1) (k := 3) (f := zp_isI) (pc' := 30) rfl rfl zw_g1 rfl rfl ?_
    refine zw_ri rfl rfl ?_
    exact Or.inr ⟨H1, rfl, n2, n3, n4, r, n5, n6⟩

set_option maxRecDepth 8000 in
theorem yp_nu0 {L : Nat} {σ : Nat → Int32} {d : Nat} {H : zp_H} {x y : Int32} (hB : zk_Bs zR zg zJ H) (hg : (H.2.1 72 23).toInt ≠ 0) : zp_Call L σ (d + 3) 181 [.inr (.inr (some 73)), .inl x, .inl y] H (.inl (some (.inl (Int32.ofInt 0))), H) := by
  have W := zR_Wd (zR_dn hB)
  refine zw_ex ?_
  refine zw_met zm_181_t rfl rfl ?_
  refine zw_ld (n := 1) (k := 0) (f := zp_isR) (pc' := 1) rfl rfl rfl rfl rfl ?_
  refine zw_ld (n := 1) (k := 1) (f := zp_isI) (pc' := 2) rfl rfl rfl rfl rfl ?_
  refine zw_ld (n := 1) (k := 2) (f := zp_isI) (pc' := 3) rfl rfl rfl rfl rfl ?_
  refine zw_c (pc' := 6) (zw_cv (q := 72) (Y := zm_182) W.1 rfl rfl zm_182_t rfl rfl) rfl rfl rfl rfl rfl (yp_nh0 (d := d) hB hg) ?_
  refine zw_beq1 (g := 16) (pc' := 9) rfl rfl rfl (rfl : _ = (0 : Int)) (fun hb => ?_) (fun h9 => absurd h9 (by decide))
  refine zw_s (pc' := 17) rfl rfl ?_
  refine zw_st (n := 1) (k := 3) (f := zp_isI) (pc' := 18) rfl rfl rfl rfl rfl ?_
  refine zw_ld (n := 1) (k := 0) (f := zp_isR) (pc' := 19) rfl rfl (zw_gt rfl rfl rfl) rfl rfl ?_
  refine zw_c (pc' := 22) (zw_cv (q := 72) (Y := zm_175) W.1 rfl rfl zm_175_t rfl rfl) rfl rfl rfl rfl rfl (zq_good0 W hg) ?_
  refine zw_beq1 (g := 29) (pc' := 25) rfl rfl rfl (rfl : _ = (0 : Int)) (fun hb => ?_) (fun h9 => absurd h9 (by decide))
  refine zw_ld (n := 1) (k := 3) (f := zp_isI) (pc' := 30) rfl rfl zw_g1 rfl rfl ?_
  refine zw_ri rfl rfl ?_
  rfl

/-- the reference read on: from s0 on it is read as from s on; or it met the fault of s0 -/
def yS (T : Nat → Int) (n : Nat) (s0 : yL) (s : Nat → yL) (H : zp_H) : Prop := ((H.2.1 72 23).toInt = 0 ∧ ∃ q, yP T n q H ∧ yR2 T n s0 (s q)) ∨ ((H.2.1 72 23).toInt ≠ 0 ∧ ∃ r, yD T n r H ∧ yA2 T n s0 r)
theorem yS_nu {L : Nat} {σ : Nat → Int32} {d : Nat} {T : Nat → Int} {n : Nat} {H : zp_H} {x y : Int32} {s0 : yL} {s : Nat → yL} {ok : Int → Nat → yL} (hby : ∀ k, k < n → -128 ≤ T k ∧ T k ≤ 127) (hB : zk_Bs zR zg zJ H) (hs : yS T n s0 s H) (hN : ∀ q, yN2 T n (s q) = yNu T n q x.toInt y.toInt (fun v => ok v (ys_nx T n q))) (hy : y.toInt < 2147483647) : ∃ v H1, zp_Call L σ (d + 3) 181 [.inr (.inr (some 73)), .inl x, .inl y] H (.inl (some (.inl v)), H1) ∧ zk_Bs zR zg zJ H1 ∧ zk_Fr zg zl_M [] H H1 ∧ yS T n s0 (ok v.toInt) H1 ∧ ((H1.2.1 72 23).toInt = 0 → (H.2.1 72 23).toInt = 0 ∧ x.toInt ≤ v.toInt ∧ v.toInt ≤ y.toInt) ∧ ((H1.2.1 72 23).toInt ≠ 0 → v = Int32.ofInt 0) := by
  rcases hs with ⟨g, q, hP, hR⟩ | ⟨b, r, hD, hA⟩
  · obtain ⟨_, c, ⟨v, H1, rfl, b1, f1, g1, k, l1, l2, e, P1⟩ | ⟨H1, rfl, b1, b2, f1, r, hD, hN1⟩⟩ := yp_nu (L := L) (σ := σ) (d := d) (x := x) (y := y) hby hB g hP hy
    · refine ⟨v, H1, c, b1, f1, Or.inl ⟨g1, _, P1, yR2_t hR (yR2_s ?_)⟩, fun _ => ⟨g, by omega, by omega⟩, fun h9 => absurd g1 h9⟩
      rw [hN q]
      unfold yNu
      rw [if_pos k, if_pos ⟨l1, l2⟩, e]
    · refine ⟨_, H1, c, b1, f1, Or.inr ⟨b2, r, hD, yR2_a hR (yA2_done ?_)⟩, fun h9 => absurd h9 b2, fun _ => rfl⟩
      rw [hN q]
      exact hN1 _
  · exact ⟨_, H, yp_nu0 hB b, hB, zk_Fr_r H, Or.inr ⟨b, r, hD, hA⟩, fun h9 => absurd h9 b, fun _ => rfl⟩

set_option maxRecDepth 8000 in
theorem yp_need {L : Nat} {σ : Nat → Int32} {d : Nat} {T : Nat → Int} {n p : Nat} {H : zp_H} {y : Int32} (hby : ∀ k, k < n → -128 ≤ T k ∧ T k ≤ 127) (hB : zk_Bs zR zg zJ H) (hg : (H.2.1 72 23).toInt = 0) (h : yP T n p H) : ∃ X, zp_Call L σ (d + 3) 186 [.inr (.inr (some 73)), .inl y] H X ∧ ∃ H1, X = (.inl none, H1) ∧ zk_Bs zR zg zJ H1 ∧ zk_Fr zg zl_M [] H H1 ∧ ((y.toInt ≠ 0 ∧ (H1.2.1 72 23).toInt = 0 ∧ yP T n (ys_nx T n p) H1) ∨ (y.toInt = 0 ∧ (H1.2.1 72 23).toInt ≠ 0 ∧ yD T n (1, p) H1)) := by
  have W := zR_Wd (zR_dn hB)
  refine zw_met zm_186_t rfl rfl ?_
  refine zw_ld (n := 1) (k := 0) (f := zp_isR) (pc' := 1) rfl rfl rfl rfl rfl ?_
  refine zw_c (pc' := 4) (zw_cv (q := 72) (Y := zm_175) W.1 rfl rfl zm_175_t rfl rfl) rfl rfl rfl rfl rfl (zq_good1 W hg) ?_
  refine zw_bne1 (g := 8) (pc' := 7) rfl rfl rfl (rfl : _ = (1 : Int)) (fun hb => ?_) (fun h9 => absurd h9 (by decide))
  refine zw_ld (n := 1) (k := 1) (f := zp_isI) (pc' := 9) rfl rfl rfl rfl rfl ?_
  refine zw_beq1 (g := 19) (pc' := 12) rfl rfl rfl rfl (fun hy => ?_) (fun hy => ?_)
  · obtain ⟨H1, c1, c2, c3, c4, c5⟩ := yp_wr (L := L) (σ := σ) (d := d + 1) (y := Int32.ofInt 1) hB hg h (by decide)
    refine zw_ld (n := 1) (k := 0) (f := zp_isR) (pc' := 20) rfl rfl rfl rfl rfl ?_
    refine zw_s (pc' := 21) rfl rfl ?_
    refine zw_cn (pc' := 24) (zw_cv (q := 72) (Y := zm_180) W.1 rfl rfl zm_180_t rfl rfl) rfl rfl rfl rfl rfl (c1) ?_
    refine zw_rn rfl rfl ?_
    exact ⟨H1, rfl, c2, c4, Or.inr ⟨hy, c3, c5⟩⟩
  · obtain ⟨H1, c1, c2, c3, c4⟩ := yp_go (L := L) (σ := σ) (d := d) hby hB h
    refine zw_ld (n := 1) (k := 0) (f := zp_isR) (pc' := 13) rfl rfl rfl rfl rfl ?_
    refine zw_cn (pc' := 16) (zw_cv (q := 72) (Y := zm_171) W.1 rfl rfl zm_171_t rfl rfl) rfl rfl rfl rfl rfl (c1) ?_
    refine zw_s (pc' := 24) rfl rfl ?_
    refine zw_rn rfl rfl ?_
    exact ⟨H1, rfl, c2, zk_Fr_w rfl rfl c3, Or.inl ⟨hy, (zx_fe c3 23 rfl rfl rfl).trans hg, c4⟩⟩

set_option maxRecDepth 8000 in
theorem yp_need0 {L : Nat} {σ : Nat → Int32} {d : Nat} {H : zp_H} {y : Int32} (hB : zk_Bs zR zg zJ H) (hg : (H.2.1 72 23).toInt ≠ 0) : zp_Call L σ (d + 3) 186 [.inr (.inr (some 73)), .inl y] H (.inl none, H) := by
  have W := zR_Wd (zR_dn hB)
  refine zw_ex ?_
  refine zw_met zm_186_t rfl rfl ?_
  refine zw_ld (n := 1) (k := 0) (f := zp_isR) (pc' := 1) rfl rfl rfl rfl rfl ?_
  refine zw_c (pc' := 4) (zw_cv (q := 72) (Y := zm_175) W.1 rfl rfl zm_175_t rfl rfl) rfl rfl rfl rfl rfl (zq_good0 W hg) ?_
  refine zw_bne1 (g := 8) (pc' := 7) rfl rfl rfl (rfl : _ = (0 : Int)) (fun h9 => absurd h9 (by decide)) (fun hb => ?_)
  refine zw_rn rfl rfl ?_
  rfl

set_option maxRecDepth 8000 in
theorem yS_need {L : Nat} {σ : Nat → Int32} {d : Nat} {T : Nat → Int} {n : Nat} {H : zp_H} {y : Int32} {s0 : yL} {s s' : Nat → yL} (hby : ∀ k, k < n → -128 ≤ T k ∧ T k ≤ 127) (hB : zk_Bs zR zg zJ H) (hs : yS T n s0 s H) (h1 : y.toInt ≠ 0 → ∀ q, yP T n q H → yN2 T n (s q) = .inl (s' (ys_nx T n q))) (h0 : y.toInt = 0 → ∀ q, (H.2.1 72 23).toInt = 0 → yP T n q H → yN2 T n (s q) = .inr (1, q)) : ∃ H1, zp_Call L σ (d + 3) 186 [.inr (.inr (some 73)), .inl y] H (.inl none, H1) ∧ zk_Bs zR zg zJ H1 ∧ zk_Fr zg zl_M [] H H1 ∧ yS T n s0 s' H1 ∧ ((H1.2.1 72 23).toInt = 0 → (H.2.1 72 23).toInt = 0 ∧ y.toInt ≠ 0) := by
  rcases hs with ⟨g, q, hP, hR⟩ | ⟨b, r, hD, hA⟩
  · obtain ⟨_, c, H1, rfl, b1, f1, ⟨k, g1, P1⟩ | ⟨k, b2, hD⟩⟩ := yp_need (L := L) (σ := σ) (d := d) (y := y) hby hB g hP
    · exact ⟨H1, c, b1, f1, Or.inl ⟨g1, _, P1, yR2_t hR (yR2_s (h1 k q hP))⟩, fun _ => ⟨g, k⟩⟩
    · exact ⟨H1, c, b1, f1, Or.inr ⟨b2, _, hD, yR2_a hR (yA2_done (h0 k q g hP))⟩, fun h9 => absurd h9 b2⟩
  · exact ⟨H, yp_need0 hB b, hB, zk_Fr_r H, Or.inr ⟨b, r, hD, hA⟩, fun h9 => absurd h9 b⟩
/-- a way's word -/
theorem yr_way {T : Nat → Int} {n p : Nat} {H : zp_H} (h : yP T n p H) : (0 ≤ zg H ∧ zg H ≤ 3) ↔ (ys_kd T n p = 3 ∧ ys_vl T n p < 4) := by
  rw [yr_zg h.2.2 h.2.1]
  by_cases hk : ys_kd T n p = 3
  · rw [if_pos hk]
    have hv := ys_vl_b hk
    rcases yw_m8 hv with h9 | h9
    · constructor
      · intro h8
        exact ⟨hk, by omega⟩
      · intro h8
        omega
    · constructor
      · intro h8
        omega
      · intro h8
        omega
  · rw [if_neg hk]
    constructor
    · intro h8
      omega
    · intro h8
      exact absurd h8.1 hk

set_option maxRecDepth 8000 in
theorem yp_wi1 {L : Nat} {σ : Nat → Int32} {d : Nat} {H : zp_H} {x y z : Int32} (h : y.toInt ≤ x.toInt ∧ x.toInt ≤ z.toInt) : zp_Call L σ (d + 1) 185 [.inl x, .inl y, .inl z] H (.inl (some (.inl (Int32.ofInt 1))), H) := by
  refine zw_ex ?_
  refine zw_met zm_185_t rfl rfl ?_
  refine zw_ld (n := 1) (k := 0) (f := zp_isI) (pc' := 1) rfl rfl rfl rfl rfl ?_
  refine zw_ld (n := 1) (k := 1) (f := zp_isI) (pc' := 2) rfl rfl rfl rfl rfl ?_
  refine zw_blt2 (g := 14) (pc' := 5) rfl rfl rfl rfl rfl (fun h1 => ?_) (fun h1 => ?_)
  · exfalso
    omega
  · refine zw_ld (n := 1) (k := 0) (f := zp_isI) (pc' := 6) rfl rfl rfl rfl rfl ?_
    refine zw_ld (n := 1) (k := 2) (f := zp_isI) (pc' := 7) rfl rfl rfl rfl rfl ?_
    refine zw_bgt2 (g := 14) (pc' := 10) rfl rfl rfl rfl rfl (fun h2 => ?_) (fun h2 => ?_)
    · exfalso
      omega
    · refine zw_s (pc' := 11) rfl rfl ?_
      refine zw_s (pc' := 15) rfl rfl ?_
      refine zw_rz rfl rfl (by decide) ?_
      rfl

set_option maxRecDepth 8000 in
theorem yp_wi0 {L : Nat} {σ : Nat → Int32} {d : Nat} {H : zp_H} {x y z : Int32} (h : ¬ (y.toInt ≤ x.toInt ∧ x.toInt ≤ z.toInt)) : zp_Call L σ (d + 1) 185 [.inl x, .inl y, .inl z] H (.inl (some (.inl (Int32.ofInt 0))), H) := by
  refine zw_ex ?_
  refine zw_met zm_185_t rfl rfl ?_
  refine zw_ld (n := 1) (k := 0) (f := zp_isI) (pc' := 1) rfl rfl rfl rfl rfl ?_
  refine zw_ld (n := 1) (k := 1) (f := zp_isI) (pc' := 2) rfl rfl rfl rfl rfl ?_
  refine zw_blt2 (g := 14) (pc' := 5) rfl rfl rfl rfl rfl (fun h1 => ?_) (fun h1 => ?_)
  · refine zw_s (pc' := 15) rfl rfl ?_
    refine zw_rz rfl rfl (by decide) ?_
    rfl
  · refine zw_ld (n := 1) (k := 0) (f := zp_isI) (pc' := 6) rfl rfl rfl rfl rfl ?_
    refine zw_ld (n := 1) (k := 2) (f := zp_isI) (pc' := 7) rfl rfl rfl rfl rfl ?_
    refine zw_bgt2 (g := 14) (pc' := 10) rfl rfl rfl rfl rfl (fun h2 => ?_) (fun h2 => ?_)
    · refine zw_s (pc' := 15) rfl rfl ?_
      refine zw_rz rfl rfl (by decide) ?_
      rfl
    · exfalso
      omega

def yWy (T : Nat → Int) (n : Nat) (s s' : Nat → yL) (H : zp_H) : Prop := ∀ q, yP T n q H → yN2 T n (s q) = if ys_kd T n q = 3 ∧ ys_vl T n q < 4 then .inl (s' (ys_nx T n q)) else .inr (1, q)

set_option maxRecDepth 8000 in
theorem yS_way {L : Nat} {σ : Nat → Int32} {d : Nat} {T : Nat → Int} {n : Nat} {H : zp_H} {s0 : yL} {s s' : Nat → yL} (hK : zx_KW L σ) (hby : ∀ k, k < n → -128 ≤ T k ∧ T k ≤ 127) (hB : zk_Bs zR zg zJ H) (hs : yS T n s0 s H) (hN : yWy T n s s' H) : ∃ X, zp_Call L σ (d + 5) 184 [.inr (.inr (some 73))] H X ∧ ∃ v H1, X = (.inl (some (.inl v)), H1) ∧ zk_Bs zR zg zJ H1 ∧ zk_Fr zg zl_M [] H H1 ∧ yS T n s0 s' H1 ∧ ((H1.2.1 72 23).toInt = 0 → (H.2.1 72 23).toInt = 0 ∧ 0 ≤ v.toInt ∧ v.toInt ≤ 3) ∧ (-1 ≤ v.toInt ∧ v.toInt ≤ 20) ∧ ((H.2.1 72 23).toInt = 0 → 0 ≤ zg H ∧ zg H ≤ 3 → 0 ≤ v.toInt ∧ v.toInt ≤ 3) ∧ ((H.2.1 72 23).toInt = 0 → v.toInt = zg H) := by
  have W := zR_Wd (zR_dn hB)
  refine zw_met zm_184_t rfl rfl ?_
  refine zw_ld (n := 1) (k := 0) (f := zp_isR) (pc' := 1) rfl rfl rfl rfl rfl ?_
  by_cases hg : (H.2.1 72 23).toInt = 0
  · refine zw_c (pc' := 4) (zw_cv (q := 72) (Y := zm_175) W.1 rfl rfl zm_175_t rfl rfl) rfl rfl rfl rfl rfl (zq_good1 W hg) ?_
    refine zw_beq1 (g := 14) (pc' := 7) rfl rfl rfl (rfl : _ = (1 : Int)) (fun h9 => absurd h9 (by decide)) (fun hb => ?_)
    refine zw_ld (n := 1) (k := 0) (f := zp_isR) (pc' := 8) rfl rfl rfl rfl rfl ?_
    obtain ⟨v, v1, v2⟩ := hK d H hB
    have zi : -1 ≤ zg H ∧ zg H ≤ 20 := zg_in H
    refine zw_c (pc' := 11) (zw_cv (q := 72) (Y := zm_177) W.1 rfl rfl zm_177_t rfl rfl) rfl rfl rfl rfl rfl (v1) ?_
    refine zw_s (pc' := 15) rfl rfl ?_
    refine zw_st (n := 1) (k := 1) (f := zp_isI) (pc' := 16) rfl rfl rfl rfl rfl ?_
    by_cases hw : 0 ≤ zg H ∧ zg H ≤ 3
    · refine zw_ld (n := 1) (k := 0) (f := zp_isR) (pc' := 17) rfl rfl (zw_gt rfl rfl rfl) rfl rfl ?_
      refine zw_ld (n := 1) (k := 1) (f := zp_isI) (pc' := 18) rfl rfl zw_g1 rfl rfl ?_
      refine zw_s (pc' := 19) rfl rfl ?_
      refine zw_s (pc' := 20) rfl rfl ?_
      obtain ⟨H1, n1, n2, n3, n4, n5⟩ := yS_need (L := L) (σ := σ) (d := d + 1) (y := Int32.ofInt 1) (s' := s') hby hB hs (fun _ q hP => by rw [hN q hP, if_pos ((yr_way hP).mp hw)]) (fun h9 => absurd h9 (by decide))
      refine zw_c (pc' := 23) (zw_cs (Y := zm_185) rfl rfl zm_185_t) rfl rfl rfl rfl rfl (yp_wi1 (by show (0 : Int) ≤ _ ∧ _ ≤ (3 : Int); omega)) ?_
      refine zw_cn (pc' := 26) (zw_cv (q := 72) (Y := zm_186) W.1 rfl rfl zm_186_t rfl rfl) rfl rfl rfl rfl rfl (n1) ?_
      refine zw_ld (n := 1) (k := 1) (f := zp_isI) (pc' := 27) rfl rfl zw_g1 rfl rfl ?_
      refine zw_ri rfl rfl ?_
      exact ⟨_, H1, rfl, n2, n3, n4, fun _ => ⟨hg, by omega, by omega⟩, ⟨by omega, by omega⟩, fun _ _ => ⟨by omega, by omega⟩, fun _ => v2⟩
    · refine zw_ld (n := 1) (k := 0) (f := zp_isR) (pc' := 17) rfl rfl (zw_gt rfl rfl rfl) rfl rfl ?_
      refine zw_ld (n := 1) (k := 1) (f := zp_isI) (pc' := 18) rfl rfl zw_g1 rfl rfl ?_
      refine zw_s (pc' := 19) rfl rfl ?_
      refine zw_s (pc' := 20) rfl rfl ?_
      obtain ⟨H1, n1, n2, n3, n4, n5⟩ := yS_need (L := L) (σ := σ) (d := d + 1) (y := Int32.ofInt 0) (s' := s') hby hB hs (fun h9 => absurd rfl h9) (fun _ q _ hP => by rw [hN q hP, if_neg (fun h9 => hw ((yr_way hP).mpr h9))])
      refine zw_c (pc' := 23) (zw_cs (Y := zm_185) rfl rfl zm_185_t) rfl rfl rfl rfl rfl (yp_wi0 (by show ¬ ((0 : Int) ≤ _ ∧ _ ≤ (3 : Int)); omega)) ?_
      refine zw_cn (pc' := 26) (zw_cv (q := 72) (Y := zm_186) W.1 rfl rfl zm_186_t rfl rfl) rfl rfl rfl rfl rfl (n1) ?_
      refine zw_ld (n := 1) (k := 1) (f := zp_isI) (pc' := 27) rfl rfl zw_g1 rfl rfl ?_
      refine zw_ri rfl rfl ?_
      exact ⟨_, H1, rfl, n2, n3, n4, fun h9 => absurd rfl (n5 h9).2, ⟨by omega, by omega⟩, fun _ h9 => absurd h9 hw, fun _ => v2⟩
  · refine zw_c (pc' := 4) (zw_cv (q := 72) (Y := zm_175) W.1 rfl rfl zm_175_t rfl rfl) rfl rfl rfl rfl rfl (zq_good0 W hg) ?_
    refine zw_beq1 (g := 14) (pc' := 7) rfl rfl rfl (rfl : _ = (0 : Int)) (fun hb => ?_) (fun h9 => absurd h9 (by decide))
    refine zw_s (pc' := 15) rfl rfl ?_
    refine zw_st (n := 1) (k := 1) (f := zp_isI) (pc' := 16) rfl rfl rfl rfl rfl ?_
    refine zw_ld (n := 1) (k := 0) (f := zp_isR) (pc' := 17) rfl rfl (zw_gt rfl rfl rfl) rfl rfl ?_
    refine zw_ld (n := 1) (k := 1) (f := zp_isI) (pc' := 18) rfl rfl zw_g1 rfl rfl ?_
    refine zw_s (pc' := 19) rfl rfl ?_
    refine zw_s (pc' := 20) rfl rfl ?_
    obtain ⟨H1, n1, n2, n3, n4, n5⟩ := yS_need (L := L) (σ := σ) (d := d + 1) (y := Int32.ofInt 0) (s' := s') hby hB hs (fun h9 => absurd rfl h9) (fun _ q h9 _ => absurd h9 hg)
    refine zw_c (pc' := 23) (zw_cs (Y := zm_185) rfl rfl zm_185_t) rfl rfl rfl rfl rfl (yp_wi0 (by decide)) ?_
    refine zw_cn (pc' := 26) (zw_cv (q := 72) (Y := zm_186) W.1 rfl rfl zm_186_t rfl rfl) rfl rfl rfl rfl rfl (n1) ?_
    refine zw_ld (n := 1) (k := 1) (f := zp_isI) (pc' := 27) rfl rfl zw_g1 rfl rfl ?_
    refine zw_ri rfl rfl ?_
    exact ⟨_, H1, rfl, n2, n3, n4, fun h9 => absurd (n5 h9).1 hg, by decide, fun h9 => absurd h9 hg, fun h9 => absurd h9 hg⟩

set_option maxRecDepth 8000 in
theorem yr_wv {T : Nat → Int} {n q : Nat} {H : zp_H} (hP : yP T n q H) (hw : ys_kd T n q = 3 ∧ ys_vl T n q < 4) : ys_vl T n q = zg H := by
  rw [yr_zg hP.2.2 hP.2.1, if_pos hw.1]
  have hb := ys_vl_b hw.1
  rcases yw_m8 (v := ys_vl T n q) ⟨by omega, by omega⟩ with h9 | h9
  · exact h9.2.symm
  · omega

set_option maxRecDepth 8000 in
theorem yp_iw1 {L : Nat} {σ : Nat → Int32} {d : Nat} {T : Nat → Int} {n p : Nat} {H : zp_H} (hK : zx_KW L σ) (hB : zk_Bs zR zg zJ H) (hg : (H.2.1 72 23).toInt = 0) (h : yP T n p H) (hw : ys_kd T n p = 3 ∧ ys_vl T n p < 4) : zp_Call L σ (d + 5) 189 [.inr (.inr (some 73))] H (.inl (some (.inl (Int32.ofInt 1))), H) := by
  have W := zR_Wd (zR_dn hB)
  have hz := yr_way h
  refine zw_ex ?_
  refine zw_met zm_189_t rfl rfl ?_
  refine zw_ld (n := 1) (k := 0) (f := zp_isR) (pc' := 1) rfl rfl rfl rfl rfl ?_
  refine zw_c (pc' := 4) (zw_cv (q := 72) (Y := zm_175) W.1 rfl rfl zm_175_t rfl rfl) rfl rfl rfl rfl rfl (zq_good1 W hg) ?_
  refine zw_beq1 (g := 23) (pc' := 7) rfl rfl rfl (rfl : _ = (1 : Int)) (fun h9 => absurd h9 (by decide)) (fun hb => ?_)
  refine zw_ld (n := 1) (k := 0) (f := zp_isR) (pc' := 8) rfl rfl rfl rfl rfl ?_
  obtain ⟨v, v1, v2⟩ := hK d H hB
  refine zw_c (pc' := 11) (zw_cv (q := 72) (Y := zm_177) W.1 rfl rfl zm_177_t rfl rfl) rfl rfl rfl rfl rfl (v1) ?_
  refine zw_s (pc' := 12) rfl rfl ?_
  refine zw_s (pc' := 13) rfl rfl ?_
  refine zw_c (pc' := 16) (zw_cs (Y := zm_185) rfl rfl zm_185_t) rfl rfl rfl rfl rfl (yp_wi1 (by show ((0 : Int) ≤ _ ∧ _ ≤ (3 : Int)); rw [v2]; exact hz.mpr hw)) ?_
  refine zw_beq1 (g := 23) (pc' := 19) rfl rfl rfl (rfl : _ = (1 : Int)) (fun h9 => absurd h9 (by decide)) (fun hb => ?_)
  refine zw_s (pc' := 20) rfl rfl ?_
  refine zw_s (pc' := 24) rfl rfl ?_
  refine zw_rz rfl rfl (by decide) ?_
  rfl

set_option maxRecDepth 8000 in
theorem yp_iw0 {L : Nat} {σ : Nat → Int32} {d : Nat} {T : Nat → Int} {n p : Nat} {H : zp_H} (hK : zx_KW L σ) (hB : zk_Bs zR zg zJ H) (hg : (H.2.1 72 23).toInt = 0) (h : yP T n p H) (hw : ¬ (ys_kd T n p = 3 ∧ ys_vl T n p < 4)) : zp_Call L σ (d + 5) 189 [.inr (.inr (some 73))] H (.inl (some (.inl (Int32.ofInt 0))), H) := by
  have W := zR_Wd (zR_dn hB)
  have hz := yr_way h
  refine zw_ex ?_
  refine zw_met zm_189_t rfl rfl ?_
  refine zw_ld (n := 1) (k := 0) (f := zp_isR) (pc' := 1) rfl rfl rfl rfl rfl ?_
  refine zw_c (pc' := 4) (zw_cv (q := 72) (Y := zm_175) W.1 rfl rfl zm_175_t rfl rfl) rfl rfl rfl rfl rfl (zq_good1 W hg) ?_
  refine zw_beq1 (g := 23) (pc' := 7) rfl rfl rfl (rfl : _ = (1 : Int)) (fun h9 => absurd h9 (by decide)) (fun hb => ?_)
  refine zw_ld (n := 1) (k := 0) (f := zp_isR) (pc' := 8) rfl rfl rfl rfl rfl ?_
  obtain ⟨v, v1, v2⟩ := hK d H hB
  refine zw_c (pc' := 11) (zw_cv (q := 72) (Y := zm_177) W.1 rfl rfl zm_177_t rfl rfl) rfl rfl rfl rfl rfl (v1) ?_
  refine zw_s (pc' := 12) rfl rfl ?_
  refine zw_s (pc' := 13) rfl rfl ?_
  refine zw_c (pc' := 16) (zw_cs (Y := zm_185) rfl rfl zm_185_t) rfl rfl rfl rfl rfl (yp_wi0 (by show ¬ ((0 : Int) ≤ _ ∧ _ ≤ (3 : Int)); rw [v2]; exact fun h9 => hw (hz.mp h9))) ?_
  refine zw_beq1 (g := 23) (pc' := 19) rfl rfl rfl (rfl : _ = (0 : Int)) (fun hb => ?_) (fun h9 => absurd h9 (by decide))
  refine zw_s (pc' := 24) rfl rfl ?_
  refine zw_rz rfl rfl (by decide) ?_
  rfl

set_option maxRecDepth 8000 in
theorem yp_iwb {L : Nat} {σ : Nat → Int32} {d : Nat} {H : zp_H} (hB : zk_Bs zR zg zJ H) (hg : (H.2.1 72 23).toInt ≠ 0) : zp_Call L σ (d + 5) 189 [.inr (.inr (some 73))] H (.inl (some (.inl (Int32.ofInt 0))), H) := by
  have W := zR_Wd (zR_dn hB)
  refine zw_ex ?_
  refine zw_met zm_189_t rfl rfl ?_
  refine zw_ld (n := 1) (k := 0) (f := zp_isR) (pc' := 1) rfl rfl rfl rfl rfl ?_
  refine zw_c (pc' := 4) (zw_cv (q := 72) (Y := zm_175) W.1 rfl rfl zm_175_t rfl rfl) rfl rfl rfl rfl rfl (zq_good0 W hg) ?_
  refine zw_beq1 (g := 23) (pc' := 7) rfl rfl rfl (rfl : _ = (0 : Int)) (fun hb => ?_) (fun h9 => absurd h9 (by decide))
  refine zw_s (pc' := 24) rfl rfl ?_
  refine zw_rz rfl rfl (by decide) ?_
  rfl
end
