/-! ===== the reference's image ===== -/
theorem zc_ne {H : zp_H} {q1 q2 n p i : Nat} (h : p ≠ q2) : (zc_k H q1 q2 n).2.1 p i = H.2.1 p i := by
  show (if p = q2 ∧ i < n then H.2.1 q1 i else H.2.1 p i) = _
  rw [if_neg (fun h9 => h h9.1)]
theorem zc_eq {H : zp_H} {q1 q2 n i : Nat} (h : i < n) : (zc_k H q1 q2 n).2.1 q2 i = H.2.1 q1 i := by
  show (if q2 = q2 ∧ i < n then H.2.1 q1 i else H.2.1 q2 i) = _
  rw [if_pos ⟨rfl, h⟩]
theorem zc_B {H : zp_H} {q1 q2 n : Nat} (h : zk_Bs zR0 zg zT H) (h1 : zB_sh[q1]? = some (.inr (0, n))) (h2 : zB_sh[q2]? = some (.inr (0, n))) (ha : zB_al zR_ar q2 = zB_al zR_ar q1) : zk_Bs zR0 zg zT (zc_k H q1 q2 n) := by
  have hne : (72 : Nat) ≠ q2 := by
    rintro rfl
    cases h2
  refine ⟨h.1, h.2.1, fun q hq => absurd hq List.not_mem_nil, fun q hq => absurd hq List.not_mem_nil, fun p j r hr => Or.inr ?_, fun p t m i r hp hi hr => ?_, fun c hc => absurd hc List.not_mem_nil, trivial⟩
  · rcases h.2.2.2.2.1 p j r hr with ⟨q, q1, _⟩ | h9
    · exact absurd q1 List.not_mem_nil
    have hp72 : p = 72 := by
      cases hb : Nat.beq 72 p with
      | true => exact (za_beq hb).symm
      | false =>
        have hr : zB_l2 zR_fr p j = some r := hr
        unfold zR_fr zB_l2 at hr
        rw [hb] at hr
        cases hr
    subst hp72
    unfold zk_fv at h9 ⊢
    by_cases h1 : (72 : Nat) = 72 ∧ j = 100
    · rw [if_pos h1]
      obtain ⟨_, e2⟩ := h1
      subst e2
      have e : r = (-1, 20) := (Option.some.inj hr).symm
      rw [e]
      exact zg_in _
    · rw [if_neg h1] at h9 ⊢
      rw [zc_ne hne]
      exact h9
  · by_cases h9 : p = q2
    · subst h9
      have e := Option.some.inj (h2.symm.trans hp)
      cases e
      rw [zc_eq hi]
      have hr : (zB_al zR_ar p).2[i % (zB_al zR_ar p).1]? = some r := hr
      rw [ha] at hr
      exact h.2.2.2.2.2.1 q1 0 n i r h1 hi hr
    · rw [zc_ne h9]
      exact h.2.2.2.2.2.1 p t m i r hp hi hr
theorem zc_F {mods : List (Nat × Nat)} {am : List Nat} {H0 H : zp_H} {q1 q2 n : Nat} (h : zk_Fr zg mods am H0 H) (hm : zk_ina am q2 = true) (hq : Nat.beq 72 q2 = false) : zk_Fr zg mods am H0 (zc_k H q1 q2 n) := by
  have hne : (72 : Nat) ≠ q2 := by
    rintro rfl
    cases hq
  refine ⟨h.1, fun p k h1 h2 => ⟨?_, (h.2 p k h1 h2).2⟩⟩
  have hp : p ≠ q2 := by
    rintro rfl
    rw [hm] at h2
    cases h2
  rw [← (h.2 p k h1 h2).1]
  unfold zk_fv
  by_cases h9 : p = 72 ∧ k = 100
  · rw [if_pos h9, if_pos h9]
    unfold zg
    rw [zc_ne hne, zc_ne hne]
    rfl
  · rw [if_neg h9, if_neg h9, zc_ne hp]
theorem zc_W {H : zp_H} {q1 q2 n : Nat} (h : zw_W H) : zw_W (zc_k H q1 q2 n) := h
def zm_249 : za_MI := (yX12_image, prog_14_method_85_code, 1, none, 12, 0, 0, [], za_i249)
set_option maxRecDepth 4000 in
theorem zm_249_t : za_MT 249 = some zm_249 := rfl
def zm_250 : za_MI := (yX12_restore, prog_14_method_86_code, 1, (some FieldType.boolean), 12, 0, 0, [], za_i250)
set_option maxRecDepth 4000 in
theorem zm_250_t : za_MT 250 = some zm_250 := rfl
theorem zt_image {L : Nat} {σ : Nat → Int32} {d : Nat} {H : zp_H} (hB : zk_Bs zR zg zJ H) : ∃ X, zp_Call L σ (d + 2) 249 [.inr (.inr (some 73))] H X ∧ ∃ H1, X = (.inl none, H1) ∧ zk_Bs zR zg zJ H1 ∧ zk_Fr zg [(72, 0), (72, 80), (72, 81)] [101, 102, 103] H H1 := by
  have b0 := zT_dn hB
  have hJ := hB.2.2.2.2.2.2.2
  have hcc := zR_cn hB
  have W := zT_Wd b0
  have a0 := zt_acts b0
  refine zw_met zm_249_t rfl rfl ?_
  refine zw_ld (n := 1) (k := 0) (f := zp_isR) (pc' := 1) rfl rfl rfl rfl rfl ?_
  refine zw_s (pc' := 2) rfl rfl ?_
  refine zw_pI (q := 72) (pc' := 5) W rfl rfl rfl rfl rfl rfl ?_
  refine zw_ld (n := 1) (k := 0) (f := zp_isR) (pc' := 6) rfl rfl rfl rfl rfl ?_
  refine zw_s (pc' := 7) rfl rfl ?_
  refine zw_pI (q := 72) (pc' := 10) W rfl rfl rfl rfl (rfl) rfl ?_
  refine zw_ld (n := 1) (k := 0) (f := zp_isR) (pc' := 11) rfl rfl rfl rfl rfl ?_
  refine zw_ld (n := 1) (k := 0) (f := zp_isR) (pc' := 12) rfl rfl rfl rfl rfl ?_
  refine zw_gI (q := 72) (pc' := 15) W rfl rfl rfl rfl (zw_ne (zw_ne rfl rfl) rfl) rfl ?_
  refine zw_pI (q := 72) (pc' := 18) W rfl rfl rfl rfl rfl rfl ?_
  refine zw_ld (n := 1) (k := 0) (f := zp_isR) (pc' := 19) rfl rfl rfl rfl rfl ?_
  refine zw_ld (n := 1) (k := 0) (f := zp_isR) (pc' := 20) rfl rfl rfl rfl rfl ?_
  refine zw_gR (q := 72) (pc' := 23) W rfl rfl rfl rfl (W.2 72 14 _ rfl) rfl ?_
  refine zw_ld (n := 1) (k := 0) (f := zp_isR) (pc' := 24) rfl rfl rfl rfl rfl ?_
  refine zw_gR (q := 72) (pc' := 27) W rfl rfl rfl rfl (W.2 72 82 _ rfl) rfl ?_
  refine zw_cn (pc' := 30) (zw_cv (q := 72) (Y := zm_204) W.1 rfl rfl zm_204_t rfl rfl) rfl rfl rfl rfl rfl (zc_copies (H := zw_I (zw_I (zw_I H 72 0 (Int32.ofInt 0)) 72 80 (Int32.ofInt 1)) 72 81 (H.2.1 72 62)) (q1 := 74) (q2 := 101) (n := 32) W rfl rfl (by decide) (by decide) rfl) ?_
  refine zw_ld (n := 1) (k := 0) (f := zp_isR) (pc' := 31) rfl rfl rfl rfl rfl ?_
  refine zw_ld (n := 1) (k := 0) (f := zp_isR) (pc' := 32) rfl rfl rfl rfl rfl ?_
  refine zw_gR (q := 72) (pc' := 35) W rfl rfl rfl rfl (W.2 72 15 _ rfl) rfl ?_
  refine zw_ld (n := 1) (k := 0) (f := zp_isR) (pc' := 36) rfl rfl rfl rfl rfl ?_
  refine zw_gR (q := 72) (pc' := 39) W rfl rfl rfl rfl (W.2 72 83 _ rfl) rfl ?_
  refine zw_cn (pc' := 42) (zw_cv (q := 72) (Y := zm_204) W.1 rfl rfl zm_204_t rfl rfl) rfl rfl rfl rfl rfl (zc_copies (H := zc_k (zw_I (zw_I (zw_I H 72 0 (Int32.ofInt 0)) 72 80 (Int32.ofInt 1)) 72 81 (H.2.1 72 62)) 74 101 32) (q1 := 75) (q2 := 102) (n := 128) W rfl rfl (by decide) (by decide) rfl) ?_
  refine zw_ld (n := 1) (k := 0) (f := zp_isR) (pc' := 43) rfl rfl rfl rfl rfl ?_
  refine zw_ld (n := 1) (k := 0) (f := zp_isR) (pc' := 44) rfl rfl rfl rfl rfl ?_
  refine zw_gR (q := 72) (pc' := 47) W rfl rfl rfl rfl (W.2 72 63 _ rfl) rfl ?_
  refine zw_ld (n := 1) (k := 0) (f := zp_isR) (pc' := 48) rfl rfl rfl rfl rfl ?_
  refine zw_gR (q := 72) (pc' := 51) W rfl rfl rfl rfl (W.2 72 84 _ rfl) rfl ?_
  refine zw_cn (pc' := 54) (zw_cv (q := 72) (Y := zm_204) W.1 rfl rfl zm_204_t rfl rfl) rfl rfl rfl rfl rfl (zc_copies (H := zc_k (zc_k (zw_I (zw_I (zw_I H 72 0 (Int32.ofInt 0)) 72 80 (Int32.ofInt 1)) 72 81 (H.2.1 72 62)) 74 101 32) 75 102 128) (q1 := 93) (q2 := 103) (n := 60) W rfl rfl (by decide) (by decide) rfl) ?_
  refine zw_rn rfl rfl ?_
  have b1 := zT_putf (k := 0) (x := Int32.ofInt 0) b0 (fun r hr => by cases hr) rfl trivial
  have b2 := zT_putf (k := 80) (x := Int32.ofInt 1) b1 (fun r hr => by cases hr; exact ⟨by decide, by decide⟩) rfl trivial
  have b3 := zT_putf (k := 81) (x := H.2.1 72 62) b2 (fun r hr => by cases hr; exact a0) rfl trivial
  have b4 := zc_B (q1 := 74) (q2 := 101) (n := 32) b3 rfl rfl rfl
  have b5 := zc_B (q1 := 75) (q2 := 102) (n := 128) b4 rfl rfl rfl
  have b6 := zc_B (q1 := 93) (q2 := 103) (n := 60) b5 rfl rfl rfl
  have f : ∀ p k, p ≠ 101 → p ≠ 102 → p ≠ 103 → ¬ (p = 72 ∧ (k = 0 ∨ k = 80 ∨ k = 81)) → (zc_k (zc_k (zc_k (zw_I (zw_I (zw_I H 72 0 (Int32.ofInt 0)) 72 80 (Int32.ofInt 1)) 72 81 (H.2.1 72 62)) 74 101 32) 75 102 128) 93 103 60).2.1 p k = H.2.1 p k := fun p k h1 h2 h3 h4 => (zc_ne h3).trans ((zc_ne h2).trans ((zc_ne h1).trans ((zp_u_ne (fun h8 => h4 ⟨h8.1, Or.inr (Or.inr h8.2)⟩)).trans ((zp_u_ne (fun h8 => h4 ⟨h8.1, Or.inr (Or.inl h8.2)⟩)).trans (zp_u_ne (fun h8 => h4 ⟨h8.1, Or.inl h8.2⟩))))))
  have g101 : ∀ i, i < 32 → (zc_k (zc_k (zc_k (zw_I (zw_I (zw_I H 72 0 (Int32.ofInt 0)) 72 80 (Int32.ofInt 1)) 72 81 (H.2.1 72 62)) 74 101 32) 75 102 128) 93 103 60).2.1 101 i = H.2.1 74 i := fun i hi => (zc_ne (by decide)).trans ((zc_ne (by decide)).trans ((zc_eq hi).trans (zw_ne (zw_ne (zw_ne rfl rfl) rfl) rfl)))
  have g103 : ∀ i, i < 60 → (zc_k (zc_k (zc_k (zw_I (zw_I (zw_I H 72 0 (Int32.ofInt 0)) 72 80 (Int32.ofInt 1)) 72 81 (H.2.1 72 62)) 74 101 32) 75 102 128) 93 103 60).2.1 103 i = H.2.1 93 i := fun i hi => (zc_eq hi).trans ((zc_ne (by decide)).trans ((zc_ne (by decide)).trans (zw_ne (zw_ne (zw_ne rfl rfl) rfl) rfl)))
  have g81 : (zc_k (zc_k (zc_k (zw_I (zw_I (zw_I H 72 0 (Int32.ofInt 0)) 72 80 (Int32.ofInt 1)) 72 81 (H.2.1 72 62)) 74 101 32) 75 102 128) 93 103 60).2.1 72 81 = H.2.1 72 62 := (zc_ne (by decide)).trans ((zc_ne (by decide)).trans ((zc_ne (by decide)).trans zw_eq))
  refine ⟨_, rfl, zT_up b6 ⟨?_, ?_, ?_⟩ ?_, zc_F (zc_F (zc_F (zk_Fr_I (zk_Fr_I (zk_Fr_I (zk_Fr_r H) rfl rfl) rfl rfl) rfl rfl) rfl rfl) rfl rfl) rfl rfl⟩
  · have h := hJ.1
    unfold zJ_code at h ⊢
    rw [f 72 8 (by decide) (by decide) (by decide) (by decide), show (zc_k (zc_k (zc_k (zw_I (zw_I (zw_I H 72 0 (Int32.ofInt 0)) 72 80 (Int32.ofInt 1)) 72 81 (H.2.1 72 62)) 74 101 32) 75 102 128) 93 103 60).2.1 78 = H.2.1 78 from funext (fun i => f 78 i (by decide) (by decide) (by decide) (fun h => by cases h.1)), show (zc_k (zc_k (zc_k (zw_I (zw_I (zw_I H 72 0 (Int32.ofInt 0)) 72 80 (Int32.ofInt 1)) 72 81 (H.2.1 72 62)) 74 101 32) 75 102 128) 93 103 60).2.1 80 = H.2.1 80 from funext (fun i => f 80 i (by decide) (by decide) (by decide) (fun h => by cases h.1))]
    exact h
  · intro s h'
    have h := hJ.2.1 s h'
    rw [f 72 62 (by decide) (by decide) (by decide) (by decide), show (zc_k (zc_k (zc_k (zw_I (zw_I (zw_I H 72 0 (Int32.ofInt 0)) 72 80 (Int32.ofInt 1)) 72 81 (H.2.1 72 62)) 74 101 32) 75 102 128) 93 103 60).2.1 93 = H.2.1 93 from funext (fun i => f 93 i (by decide) (by decide) (by decide) (fun h => by cases h.1)), f 74 (4 * s + 2) (by decide) (by decide) (by decide) (fun h => by cases h.1)]
    exact h
  · intro s h'
    have h := hJ.2.1 s h'
    rw [g81, g101 (4 * s + 2) (by omega), zt_cnt_c (fun i hi => g103 i (by omega))]
    exact h
  · unfold zR_cc
    rw [f 72 23 (by decide) (by decide) (by decide) (by decide), f 72 34 (by decide) (by decide) (by decide) (by decide), f 72 35 (by decide) (by decide) (by decide) (by decide)]
    exact hcc

theorem zt_restore {L : Nat} {σ : Nat → Int32} {d : Nat} {H : zp_H} (hB : zk_Bs zR zg zJ H) : ∃ X, zp_Call L σ (d + 2) 250 [.inr (.inr (some 73))] H X ∧ ∃ H1 v, X = (.inl (some (.inl v)), H1) ∧ zk_Bs zR zg zJ H1 ∧ zk_Fr zg [(72, 0), (72, 62)] [74, 75, 93] H H1 := by
  have b0 := zT_dn hB
  have hJ := hB.2.2.2.2.2.2.2
  have hcc := zR_cn hB
  have W := zT_Wd b0
  have a0 := zT_fr1 b0 (k := 81) (r := (0, 30)) rfl rfl
  have a0 : 0 ≤ (H.2.1 72 81).toInt ∧ (H.2.1 72 81).toInt ≤ 30 := a0
  refine zw_met zm_250_t rfl rfl ?_
  refine zw_ld (n := 1) (k := 0) (f := zp_isR) (pc' := 1) rfl rfl rfl rfl rfl ?_
  refine zw_s (pc' := 2) rfl rfl ?_
  refine zw_pI (q := 72) (pc' := 5) W rfl rfl rfl rfl rfl rfl ?_
  refine zw_ld (n := 1) (k := 0) (f := zp_isR) (pc' := 6) rfl rfl rfl rfl rfl ?_
  refine zw_gI (q := 72) (pc' := 9) W rfl rfl rfl rfl (zw_ne rfl rfl) rfl ?_
  refine zw_bne1 (g := 14) (pc' := 12) rfl rfl rfl rfl (fun h0 => ?_) (fun h0 => ?_)
  · refine zw_ld (n := 1) (k := 0) (f := zp_isR) (pc' := 15) rfl rfl rfl rfl rfl ?_
    refine zw_ld (n := 1) (k := 0) (f := zp_isR) (pc' := 16) rfl rfl rfl rfl rfl ?_
    refine zw_gI (q := 72) (pc' := 19) W rfl rfl rfl rfl (zw_ne rfl rfl) rfl ?_
    refine zw_pI (q := 72) (pc' := 22) W rfl rfl rfl rfl rfl rfl ?_
    refine zw_ld (n := 1) (k := 0) (f := zp_isR) (pc' := 23) rfl rfl rfl rfl rfl ?_
    refine zw_ld (n := 1) (k := 0) (f := zp_isR) (pc' := 24) rfl rfl rfl rfl rfl ?_
    refine zw_gR (q := 72) (pc' := 27) W rfl rfl rfl rfl (W.2 72 82 _ rfl) rfl ?_
    refine zw_ld (n := 1) (k := 0) (f := zp_isR) (pc' := 28) rfl rfl rfl rfl rfl ?_
    refine zw_gR (q := 72) (pc' := 31) W rfl rfl rfl rfl (W.2 72 14 _ rfl) rfl ?_
    refine zw_cn (pc' := 34) (zw_cv (q := 72) (Y := zm_204) W.1 rfl rfl zm_204_t rfl rfl) rfl rfl rfl rfl rfl (zc_copies (H := zw_I (zw_I H 72 0 (Int32.ofInt 0)) 72 62 (H.2.1 72 81)) (q1 := 101) (q2 := 74) (n := 32) W rfl rfl (by decide) (by decide) rfl) ?_
    refine zw_ld (n := 1) (k := 0) (f := zp_isR) (pc' := 35) rfl rfl rfl rfl rfl ?_
    refine zw_ld (n := 1) (k := 0) (f := zp_isR) (pc' := 36) rfl rfl rfl rfl rfl ?_
    refine zw_gR (q := 72) (pc' := 39) W rfl rfl rfl rfl (W.2 72 83 _ rfl) rfl ?_
    refine zw_ld (n := 1) (k := 0) (f := zp_isR) (pc' := 40) rfl rfl rfl rfl rfl ?_
    refine zw_gR (q := 72) (pc' := 43) W rfl rfl rfl rfl (W.2 72 15 _ rfl) rfl ?_
    refine zw_cn (pc' := 46) (zw_cv (q := 72) (Y := zm_204) W.1 rfl rfl zm_204_t rfl rfl) rfl rfl rfl rfl rfl (zc_copies (H := zc_k (zw_I (zw_I H 72 0 (Int32.ofInt 0)) 72 62 (H.2.1 72 81)) 101 74 32) (q1 := 102) (q2 := 75) (n := 128) W rfl rfl (by decide) (by decide) rfl) ?_
    refine zw_ld (n := 1) (k := 0) (f := zp_isR) (pc' := 47) rfl rfl rfl rfl rfl ?_
    refine zw_ld (n := 1) (k := 0) (f := zp_isR) (pc' := 48) rfl rfl rfl rfl rfl ?_
    refine zw_gR (q := 72) (pc' := 51) W rfl rfl rfl rfl (W.2 72 84 _ rfl) rfl ?_
    refine zw_ld (n := 1) (k := 0) (f := zp_isR) (pc' := 52) rfl rfl rfl rfl rfl ?_
    refine zw_gR (q := 72) (pc' := 55) W rfl rfl rfl rfl (W.2 72 63 _ rfl) rfl ?_
    refine zw_cn (pc' := 58) (zw_cv (q := 72) (Y := zm_204) W.1 rfl rfl zm_204_t rfl rfl) rfl rfl rfl rfl rfl (zc_copies (H := zc_k (zc_k (zw_I (zw_I H 72 0 (Int32.ofInt 0)) 72 62 (H.2.1 72 81)) 101 74 32) 102 75 128) (q1 := 103) (q2 := 93) (n := 60) W rfl rfl (by decide) (by decide) rfl) ?_
    refine zw_s (pc' := 59) rfl rfl ?_
    refine zw_rz rfl rfl (by decide) ?_
    have b1 := zT_putf (k := 0) (x := Int32.ofInt 0) b0 (fun r hr => by cases hr) rfl trivial
    have b3 := zT_putf (k := 62) (x := H.2.1 72 81) b1 (fun r hr => by cases hr; exact a0) rfl trivial
    have b4 := zc_B (q1 := 101) (q2 := 74) (n := 32) b3 rfl rfl rfl
    have b5 := zc_B (q1 := 102) (q2 := 75) (n := 128) b4 rfl rfl rfl
    have b6 := zc_B (q1 := 103) (q2 := 93) (n := 60) b5 rfl rfl rfl
    have f : ∀ p k, p ≠ 74 → p ≠ 75 → p ≠ 93 → ¬ (p = 72 ∧ (k = 0 ∨ k = 62)) → (zc_k (zc_k (zc_k (zw_I (zw_I H 72 0 (Int32.ofInt 0)) 72 62 (H.2.1 72 81)) 101 74 32) 102 75 128) 103 93 60).2.1 p k = H.2.1 p k := fun p k h1 h2 h3 h4 => (zc_ne h3).trans ((zc_ne h2).trans ((zc_ne h1).trans ((zp_u_ne (fun h8 => h4 ⟨h8.1, Or.inr h8.2⟩)).trans (zp_u_ne (fun h8 => h4 ⟨h8.1, Or.inl h8.2⟩)))))
    have g74 : ∀ i, i < 32 → (zc_k (zc_k (zc_k (zw_I (zw_I H 72 0 (Int32.ofInt 0)) 72 62 (H.2.1 72 81)) 101 74 32) 102 75 128) 103 93 60).2.1 74 i = H.2.1 101 i := fun i hi => (zc_ne (by decide)).trans ((zc_ne (by decide)).trans ((zc_eq hi).trans (zw_ne (zw_ne rfl rfl) rfl)))
    have g93 : ∀ i, i < 60 → (zc_k (zc_k (zc_k (zw_I (zw_I H 72 0 (Int32.ofInt 0)) 72 62 (H.2.1 72 81)) 101 74 32) 102 75 128) 103 93 60).2.1 93 i = H.2.1 103 i := fun i hi => (zc_eq hi).trans ((zc_ne (by decide)).trans ((zc_ne (by decide)).trans (zw_ne (zw_ne rfl rfl) rfl)))
    have g62 : (zc_k (zc_k (zc_k (zw_I (zw_I H 72 0 (Int32.ofInt 0)) 72 62 (H.2.1 72 81)) 101 74 32) 102 75 128) 103 93 60).2.1 72 62 = H.2.1 72 81 := (zc_ne (by decide)).trans ((zc_ne (by decide)).trans ((zc_ne (by decide)).trans zw_eq))
    refine ⟨_, _, rfl, zT_up b6 ⟨?_, ?_, ?_⟩ ?_, zc_F (zc_F (zc_F (zk_Fr_I (zk_Fr_I (zk_Fr_r H) rfl rfl) rfl rfl) rfl rfl) rfl rfl) rfl rfl⟩
    · have h := hJ.1
      unfold zJ_code at h ⊢
      rw [f 72 8 (by decide) (by decide) (by decide) (by decide), show (zc_k (zc_k (zc_k (zw_I (zw_I H 72 0 (Int32.ofInt 0)) 72 62 (H.2.1 72 81)) 101 74 32) 102 75 128) 103 93 60).2.1 78 = H.2.1 78 from funext (fun i => f 78 i (by decide) (by decide) (by decide) (fun h => by cases h.1)), show (zc_k (zc_k (zc_k (zw_I (zw_I H 72 0 (Int32.ofInt 0)) 72 62 (H.2.1 72 81)) 101 74 32) 102 75 128) 103 93 60).2.1 80 = H.2.1 80 from funext (fun i => f 80 i (by decide) (by decide) (by decide) (fun h => by cases h.1))]
      exact h
    · intro s h'
      have h := hJ.2.2 s h'
      rw [g62, g74 (4 * s + 2) (by omega), zt_cnt_c (fun i hi => g93 i (by omega))]
      exact h
    · intro s h'
      have h := hJ.2.2 s h'
      rw [f 72 81 (by decide) (by decide) (by decide) (by decide), show (zc_k (zc_k (zc_k (zw_I (zw_I H 72 0 (Int32.ofInt 0)) 72 62 (H.2.1 72 81)) 101 74 32) 102 75 128) 103 93 60).2.1 103 = H.2.1 103 from funext (fun i => f 103 i (by decide) (by decide) (by decide) (fun h => by cases h.1)), f 101 (4 * s + 2) (by decide) (by decide) (by decide) (fun h => by cases h.1)]
      exact h
    · unfold zR_cc
      rw [f 72 23 (by decide) (by decide) (by decide) (by decide), f 72 34 (by decide) (by decide) (by decide) (by decide), f 72 35 (by decide) (by decide) (by decide) (by decide)]
      exact hcc
  · refine zw_s (pc' := 13) rfl rfl ?_
    refine zw_rz rfl rfl (by decide) ?_
    exact ⟨_, _, rfl, zt_thr hB, zk_Fr_I (zk_Fr_r H) rfl rfl⟩
