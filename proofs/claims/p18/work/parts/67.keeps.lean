/-! ===== the reference keeps an act ===== -/
theorem zt_cnt_c {act act' : Nat → Int32} {s : Int} : ∀ {n : Nat}, (∀ i, i < 2 * n → act' i = act i) → zr_cnt act' s n = zr_cnt act s n
  | 0, _ => rfl
  | n + 1, h => by
    unfold zr_cnt
    rw [zt_cnt_c (fun i hi => h i (by omega)), h (2 * n) (by omega), h (2 * n + 1) (by omega)]
theorem zt_cnt_s {act act' : Nat → Int32} {s : Int} : ∀ {n : Nat}, (∀ i, i < 2 * n → act' i = act (i + 2)) → zr_cnt act' s n ≤ zr_cnt act s (n + 1)
  | 0, _ => Nat.zero_le _
  | n + 1, h => by
    have ih := zt_cnt_s (act := act) (act' := act') (s := s) (n := n) (fun i hi => h i (by omega))
    have e1 := h (2 * n) (by omega)
    have e2 := h (2 * n + 1) (by omega)
    show zr_cnt act' s n + _ ≤ zr_cnt act s (n + 1) + _
    rw [e1, e2, show 2 * n + 2 = 2 * (n + 1) by omega, show 2 * n + 1 + 2 = 2 * (n + 1) + 1 by omega]
    omega
/-- all acts stand one place ahead, as far as k -/
def zt_sh (H : zp_H) (k : Nat) : zp_H := (H.1, (fun p i => if p = 93 ∧ i + 2 < k then H.2.1 93 (i + 2) else H.2.1 p i), H.2.2)
theorem zt_sh2 {H : zp_H} : zt_sh H 2 = H := by
  unfold zt_sh
  have e : (fun p i => if p = 93 ∧ i + 2 < 2 then H.2.1 93 (i + 2) else H.2.1 p i) = H.2.1 := by
    funext p i
    rw [if_neg (fun h => by have := h.2; omega)]
  rw [e]
theorem zt_sh1 {H : zp_H} {k : Nat} (hk : 2 ≤ k) : zw_I (zt_sh H k) 93 (k - 2) ((zt_sh H k).2.1 93 k) = zt_sh H (k + 1) := by
  have e1 : (zt_sh H k).2.1 93 k = H.2.1 93 k := if_neg (fun h => by have := h.2; omega)
  rw [e1]
  unfold zw_I zt_sh
  have e : zp_u (fun p i => if p = 93 ∧ i + 2 < k then H.2.1 93 (i + 2) else H.2.1 p i) 93 (k - 2) (H.2.1 93 k) = (fun p i => if p = 93 ∧ i + 2 < k + 1 then H.2.1 93 (i + 2) else H.2.1 p i) := by
    funext p i
    show (if p = 93 ∧ i = k - 2 then H.2.1 93 k else (if p = 93 ∧ i + 2 < k then H.2.1 93 (i + 2) else H.2.1 p i)) = (if p = 93 ∧ i + 2 < k + 1 then H.2.1 93 (i + 2) else H.2.1 p i)
    by_cases h1 : p = 93
    · by_cases h2 : i = k - 2
      · rw [if_pos ⟨h1, h2⟩, if_pos ⟨h1, by omega⟩, show i + 2 = k by omega]
      · rw [if_neg (fun h => h2 h.2)]
        by_cases h3 : i + 2 < k
        · rw [if_pos ⟨h1, h3⟩, if_pos ⟨h1, by omega⟩]
        · rw [if_neg (fun h => h3 h.2), if_neg (fun h => by have := h.2; omega)]
    · rw [if_neg (fun h => h1 h.1), if_neg (fun h => h1 h.1), if_neg (fun h => h1 h.1)]
  dsimp only
  rw [e]
theorem zt_sh_ne {H : zp_H} {k p i : Nat} (h : p ≠ 93) : (zt_sh H k).2.1 p i = H.2.1 p i := by
  show (if p = 93 ∧ i + 2 < k then H.2.1 93 (i + 2) else H.2.1 p i) = _
  rw [if_neg (fun h9 => h h9.1)]
theorem zt_sh_eq {H : zp_H} {k i : Nat} (h : i + 2 < k) : (zt_sh H k).2.1 93 i = H.2.1 93 (i + 2) := by
  show (if 93 = 93 ∧ i + 2 < k then H.2.1 93 (i + 2) else H.2.1 93 i) = _
  rw [if_pos ⟨rfl, h⟩]
theorem zt_shB {H : zp_H} (h : zk_Bs zR0 zg zT H) : zk_Bs zR0 zg zT (zt_sh H 60) := by
  refine ⟨h.1, h.2.1, fun q hq => absurd hq List.not_mem_nil, fun q hq => absurd hq List.not_mem_nil, fun p j r hr => Or.inr ?_, fun p t n i r hp hi hr => ?_, fun c hc => absurd hc List.not_mem_nil, trivial⟩
  · rcases h.2.2.2.2.1 p j r hr with ⟨q, q1, _⟩ | h9
    · exact absurd q1 List.not_mem_nil
    have hp72 : p = 72 := by
      cases hb : Nat.beq 72 p with
      | true => exact (za_beq hb).symm
      | false =>
        have hr : zB_l2 zR_fr p j = some r := hr
        unfold zR_fr zB_l2 at hr
        rw [hb] at hr
        cases hr
    subst hp72
    unfold zk_fv at h9 ⊢
    by_cases h1 : (72 : Nat) = 72 ∧ j = 100
    · rw [if_pos h1]
      obtain ⟨_, e2⟩ := h1
      subst e2
      have e : r = (-1, 20) := (Option.some.inj hr).symm
      rw [e]
      exact zg_in _
    · rw [if_neg h1] at h9 ⊢
      exact h9
  · by_cases h1 : p = 93 ∧ i + 2 < 60
    · have e : (zt_sh H 60).2.1 p i = H.2.1 93 (i + 2) := if_pos h1
      rw [e]
      obtain ⟨rfl, h2⟩ := h1
      have hr : [((0 : Int), (7 : Int)), (-1, 255)][i % 2]? = some r := hr
      refine h.2.2.2.2.2.1 93 0 60 (i + 2) r rfl (by omega) ?_
      show [((0 : Int), (7 : Int)), (-1, 255)][(i + 2) % 2]? = some r
      rw [show (i + 2) % 2 = i % 2 by omega]
      exact hr
    · have e : (zt_sh H 60).2.1 p i = H.2.1 p i := if_neg h1
      rw [e]
      exact h.2.2.2.2.2.1 p t n i r hp hi hr
def zt_kC (H : zp_H) (s v : Int) : Prop := ∀ s' : Nat, s' < 8 → ((zr_cnt (H.2.1 93) s' (H.2.1 72 62).toInt.toNat : Nat) : Int) + (if (s' : Int) = s ∧ v = -1 then 1 else 0) ≤ (H.2.1 74 (4 * s' + 2)).toInt
def zm_215 : za_MI := (yX12_keeps, prog_14_method_52_code, 4, none, 12, 0, 0, [], za_i215)
theorem zm_215_t : za_MT 215 = some zm_215 := rfl
theorem zt_kT {L : Nat} {σ : Nat → Int32} {d : Nat} {H0 H : zp_H} {lv : zp_LV} {xs xv : Int32} (l0 : zp_get lv 0 = some (.inr (.inr (some 73)))) (l1 : zp_get lv 1 = some (.inl xs)) (l2 : zp_get lv 2 = some (.inl xv)) (hs : 0 ≤ xs.toInt ∧ xs.toInt ≤ 7) (hv : -1 ≤ xv.toInt ∧ xv.toInt ≤ 255) (hB : zk_Bs zR0 zg zT H) (hF : zk_Fr zg [(72, 62)] [93] H0 H) (hC : zt_kC H xs.toInt xv.toInt) (h29 : (H.2.1 72 62).toInt ≤ 29) : zs_Safe L σ (fun X : zp_X => ∃ H1, X = (.inl none, H1) ∧ zk_Bs zR0 zg zT H1 ∧ zJ_cnt H1 ∧ zk_Fr zg [(72, 62)] [93] H0 H1) zm_215 [] d (47, lv, [], H, (0, 0)) := by
  have W := zT_Wd hB
  have a0 := zt_acts hB
  have em : (Int32.ofInt 2 * H.2.1 72 62).toInt = 2 * (H.2.1 72 62).toInt := zt_mul (by decide) (by omega)
  have em1 : (Int32.ofInt 2 * H.2.1 72 62 + Int32.ofInt 1).toInt = 2 * (H.2.1 72 62).toInt + 1 := by rw [zw_p1 (by omega), em]
  have ea : (H.2.1 72 62 + Int32.ofInt 1).toInt = (H.2.1 72 62).toInt + 1 := zw_p1 (by omega)
  obtain ⟨n, hn⟩ : ∃ n : Nat, (H.2.1 72 62).toInt = (n : Int) := ⟨(H.2.1 72 62).toInt.toNat, by omega⟩
  have en : (Int32.ofInt 2 * H.2.1 72 62).toInt.toNat = 2 * n := by omega
  have en1 : (Int32.ofInt 2 * H.2.1 72 62 + Int32.ofInt 1).toInt.toNat = 2 * n + 1 := by omega
  refine zw_ld (n := 1) (k := 0) (f := zp_isR) (pc' := 48) rfl rfl l0 rfl rfl ?_
  refine zw_gR (q := 72) (pc' := 51) W rfl rfl rfl rfl (W.2 72 63 _ rfl) rfl ?_
  refine zw_s (pc' := 52) rfl rfl ?_
  refine zw_ld (n := 1) (k := 0) (f := zp_isR) (pc' := 53) rfl rfl l0 rfl rfl ?_
  refine zw_gI (q := 72) (pc' := 56) W rfl rfl rfl rfl rfl rfl ?_
  refine zw_imul (pc' := 57) rfl rfl ?_
  refine zw_ld (n := 1) (k := 1) (f := zp_isI) (pc' := 58) rfl rfl l1 rfl rfl ?_
  refine zw_is (q := 93) (pc' := 59) W rfl rfl (by decide) (⟨by omega, by show _ < ((60 : Nat) : Int); omega⟩) rfl ?_
  refine zw_ld (n := 1) (k := 0) (f := zp_isR) (pc' := 60) rfl rfl l0 rfl rfl ?_
  refine zw_gR (q := 72) (pc' := 63) W rfl rfl rfl rfl (W.2 72 63 _ rfl) rfl ?_
  refine zw_s (pc' := 64) rfl rfl ?_
  refine zw_ld (n := 1) (k := 0) (f := zp_isR) (pc' := 65) rfl rfl l0 rfl rfl ?_
  refine zw_gI (q := 72) (pc' := 68) W rfl rfl rfl rfl (zw_ne rfl rfl) rfl ?_
  refine zw_imul (pc' := 69) rfl rfl ?_
  refine zw_s (pc' := 70) rfl rfl ?_
  refine zw_iadd (pc' := 71) rfl rfl ?_
  refine zw_ld (n := 1) (k := 2) (f := zp_isI) (pc' := 72) rfl rfl l2 rfl rfl ?_
  refine zw_is (q := 93) (pc' := 73) W rfl rfl (by decide) (⟨by omega, by show _ < ((60 : Nat) : Int); omega⟩) rfl ?_
  refine zw_ld (n := 1) (k := 0) (f := zp_isR) (pc' := 74) rfl rfl l0 rfl rfl ?_
  refine zw_s (pc' := 75) rfl rfl ?_
  refine zw_gI (q := 72) (pc' := 78) W rfl rfl rfl rfl (zw_ne (zw_ne rfl rfl) rfl) rfl ?_
  refine zw_s (pc' := 79) rfl rfl ?_
  refine zw_iadd (pc' := 80) rfl rfl ?_
  refine zw_pI (q := 72) (pc' := 83) W rfl rfl rfl rfl rfl rfl ?_
  refine zw_rn rfl rfl ?_
  rw [en, en1]
  have b1 := zT_puta (p := 93) (j := 2 * n) (x := zp_nar 0 xs) (t := 0) (n := 60) hB rfl (fun r hr => by
    have hr : [((0 : Int), (7 : Int)), (-1, 255)][2 * n % 2]? = some r := hr
    rw [Nat.mul_mod_right] at hr
    cases hr
    exact hs) trivial
  have b2 := zT_puta (p := 93) (j := 2 * n + 1) (x := zp_nar 0 xv) (t := 0) (n := 60) b1 rfl (fun r hr => by
    have hr : [((0 : Int), (7 : Int)), (-1, 255)][(2 * n + 1) % 2]? = some r := hr
    rw [show (2 * n + 1) % 2 = 1 by omega] at hr
    cases hr
    exact hv) trivial
  have b3 := zT_putf (k := 62) (x := H.2.1 72 62 + Int32.ofInt 1) b2 (fun r hr => by cases hr; exact ⟨by show (0 : Int) ≤ _; omega, by show _ ≤ (30 : Int); omega⟩) rfl trivial
  refine ⟨_, rfl, b3, ?_, zk_Fr_I (zk_Fr_I (zk_Fr_I hF rfl rfl) rfl rfl) rfl rfl⟩
  intro s' h'
  have hc := hC s' h'
  have e74 : (zw_I (zw_I (zw_I H 93 (2 * n) (zp_nar 0 xs)) 93 (2 * n + 1) (zp_nar 0 xv)) 72 62 (H.2.1 72 62 + Int32.ofInt 1)).2.1 74 (4 * s' + 2) = H.2.1 74 (4 * s' + 2) := zw_ne (zw_ne (zw_ne rfl rfl) rfl) rfl
  have e62 : (zw_I (zw_I (zw_I H 93 (2 * n) (zp_nar 0 xs)) 93 (2 * n + 1) (zp_nar 0 xv)) 72 62 (H.2.1 72 62 + Int32.ofInt 1)).2.1 72 62 = H.2.1 72 62 + Int32.ofInt 1 := zw_eq
  rw [e74, e62, show (H.2.1 72 62 + Int32.ofInt 1).toInt.toNat = n + 1 by omega]
  rw [show (H.2.1 72 62).toInt.toNat = n by omega] at hc
  generalize hK : zw_I (zw_I (zw_I H 93 (2 * n) (zp_nar 0 xs)) 93 (2 * n + 1) (zp_nar 0 xv)) 72 62 (H.2.1 72 62 + Int32.ofInt 1) = K
  have k0 : K.2.1 93 (2 * n) = xs := by rw [← hK]; exact zw_ne ((zp_u_ne (fun h9 => by have := h9.2; omega)).trans zw_eq) rfl
  have k1 : K.2.1 93 (2 * n + 1) = xv := by rw [← hK]; exact zw_ne zw_eq rfl
  have kc : ∀ i, i < 2 * n → K.2.1 93 i = H.2.1 93 i := fun i hi => by rw [← hK]; exact zw_ne ((zp_u_ne (fun h9 => by have := h9.2; omega)).trans (zp_u_ne (fun h9 => by have := h9.2; omega))) rfl
  have ec : zr_cnt (K.2.1 93) (s' : Int) (n + 1) = zr_cnt (H.2.1 93) (s' : Int) n + (if xs.toInt = (s' : Int) ∧ xv.toInt = -1 then 1 else 0) := by
    show zr_cnt (K.2.1 93) (s' : Int) n + _ = _
    rw [zt_cnt_c kc, k0, k1]
  rw [ec]
  by_cases h9 : (s' : Int) = xs.toInt ∧ xv.toInt = -1
  · rw [if_pos h9] at hc
    rw [if_pos ⟨h9.1.symm, h9.2⟩]
    omega
  · rw [if_neg h9] at hc
    rw [if_neg (fun h8 => h9 ⟨h8.1.symm, h8.2⟩)]
    omega

theorem zt_kL {L : Nat} {σ : Nat → Int32} {P : zp_X → Prop} {d : Nat} {H : zp_H} {xs xv : Int32} (W : zw_W H) (hk9 : ∀ lv : zp_LV, zp_get lv 0 = some (.inr (.inr (some 73))) → zp_get lv 1 = some (.inl xs) → zp_get lv 2 = some (.inl xv) → zs_Safe L σ P zm_215 [] d (37, lv, [], zt_sh H 60, (0, 0))) : ∀ (m : Nat) (lv : zp_LV) (k : Int32), (60 - k.toInt).toNat = m → 2 ≤ k.toInt ∧ k.toInt ≤ 60 → zp_get lv 0 = some (.inr (.inr (some 73))) → zp_get lv 1 = some (.inl xs) → zp_get lv 2 = some (.inl xv) → zp_get lv 3 = some (.inl k) → zs_Safe L σ P zm_215 [] d (11, lv, [], zt_sh H k.toInt.toNat, (0, 0)) := by
  intro m
  induction m with
  | zero =>
    intro lv k hm hk l0 l1 l2 l3
    have WK : zw_W (zt_sh H k.toInt.toNat) := W
    refine zw_ld (n := 1) (k := 3) (f := zp_isI) (pc' := 12) rfl rfl l3 rfl rfl ?_
    refine zw_s (pc' := 14) rfl rfl ?_
    refine zw_bge2 (g := 37) (pc' := 17) rfl rfl rfl rfl (rfl : _ = (60 : Int)) (fun hb => ?_) (fun hb => ?_)
    · have e : k.toInt.toNat = 60 := by omega
      rw [e]
      exact hk9 _ l0 l1 l2
    · omega
  | succ m ih =>
    intro lv k hm hk l0 l1 l2 l3
    have WK : zw_W (zt_sh H k.toInt.toNat) := W
    have e1 : (k + Int32.ofInt 1).toInt = k.toInt + 1 := zw_p1 (by omega)
    have e2 : (k - Int32.ofInt 2).toInt = k.toInt - 2 := by
      have h1 : (Int32.ofInt 2).toInt = 2 := rfl
      rw [zn_sub (by omega) (by omega), h1]
    refine zw_ld (n := 1) (k := 3) (f := zp_isI) (pc' := 12) rfl rfl l3 rfl rfl ?_
    refine zw_s (pc' := 14) rfl rfl ?_
    refine zw_bge2 (g := 37) (pc' := 17) rfl rfl rfl rfl (rfl : _ = (60 : Int)) (fun hb => ?_) (fun hb => ?_)
    · omega
    · refine zw_ld (n := 1) (k := 0) (f := zp_isR) (pc' := 18) rfl rfl l0 rfl rfl ?_
      refine zw_gR (q := 72) (pc' := 21) WK rfl rfl rfl rfl (WK.2 72 63 _ rfl) rfl ?_
      refine zw_ld (n := 1) (k := 3) (f := zp_isI) (pc' := 22) rfl rfl l3 rfl rfl ?_
      refine zw_s (pc' := 23) rfl rfl ?_
      refine zw_isub (pc' := 24) rfl rfl ?_
      refine zw_ld (n := 1) (k := 0) (f := zp_isR) (pc' := 25) rfl rfl l0 rfl rfl ?_
      refine zw_gR (q := 72) (pc' := 28) WK rfl rfl rfl rfl (WK.2 72 63 _ rfl) rfl ?_
      refine zw_ld (n := 1) (k := 3) (f := zp_isI) (pc' := 29) rfl rfl l3 rfl rfl ?_
      refine zw_ia (q := 93) (pc' := 30) WK rfl rfl (by decide) (⟨by omega, by show _ < ((60 : Nat) : Int); omega⟩) rfl rfl ?_
      refine zw_is (q := 93) (pc' := 31) WK rfl rfl (by decide) (⟨by rw [e2]; omega, by rw [e2]; show _ < ((60 : Nat) : Int); omega⟩) rfl ?_
      refine zw_ii (pc' := 34) rfl l3 rfl rfl ?_
      refine zw_s (pc' := 11) rfl rfl ?_
      have e3 : (k + Int32.ofInt 1).toInt.toNat = k.toInt.toNat + 1 := by omega
      have e4 : (k - Int32.ofInt 2).toInt.toNat = k.toInt.toNat - 2 := by omega
      have ih9 := ih _ (k + Int32.ofInt 1) (by omega) ⟨by omega, by omega⟩ (zw_gt l0 rfl rfl) (zw_gt l1 rfl rfl) (zw_gt l2 rfl rfl) zw_g1
      rw [e3, ← zt_sh1 (by omega)] at ih9
      rw [e4]
      exact ih9

theorem zt_keeps {L : Nat} {σ : Nat → Int32} {d : Nat} {H : zp_H} {xs xv : Int32} (hs : 0 ≤ xs.toInt ∧ xs.toInt ≤ 7) (hv : -1 ≤ xv.toInt ∧ xv.toInt ≤ 255) (hB : zk_Bs zR0 zg zT H) (hC : zt_kC H xs.toInt xv.toInt) : ∃ X, zp_Call L σ (d + 1) 215 [.inr (.inr (some 73)), .inl xs, .inl xv] H X ∧ (fun X : zp_X => ∃ H1, X = (.inl none, H1) ∧ zk_Bs zR0 zg zT H1 ∧ zJ_cnt H1 ∧ zk_Fr zg [(72, 62)] [93] H H1) X := by
  have W := zT_Wd hB
  have a0 := zt_acts hB
  refine zw_met zm_215_t rfl rfl ?_
  refine zw_ld (n := 1) (k := 0) (f := zp_isR) (pc' := 1) rfl rfl rfl rfl rfl ?_
  refine zw_gI (q := 72) (pc' := 4) W rfl rfl rfl rfl rfl rfl ?_
  refine zw_s (pc' := 6) rfl rfl ?_
  refine zw_bne2 (g := 47) (pc' := 9) rfl rfl rfl rfl (rfl : _ = (30 : Int)) (fun h30 => ?_) (fun h30 => ?_)
  · exact zt_kT rfl rfl rfl hs hv hB (zk_Fr_r H) hC (by omega)
  · refine zw_s (pc' := 10) rfl rfl ?_
    refine zw_st (n := 1) (k := 3) (f := zp_isI) (pc' := 11) rfl rfl rfl rfl rfl ?_
    have ea : (H.2.1 72 62 - Int32.ofInt 1).toInt = (H.2.1 72 62).toInt - 1 := zw_m1 (by omega)
    have b1 := zt_shB hB
    have b2 := zT_putf (k := 62) (x := H.2.1 72 62 - Int32.ofInt 1) b1 (fun r hr => by cases hr; exact ⟨by show (0 : Int) ≤ _; omega, by show _ ≤ (30 : Int); omega⟩) rfl trivial
    have h9 := zt_kL (L := L) (σ := σ) (P := (fun X : zp_X => ∃ H1, X = (.inl none, H1) ∧ zk_Bs zR0 zg zT H1 ∧ zJ_cnt H1 ∧ zk_Fr zg [(72, 62)] [93] H H1)) (d := d) (xs := xs) (xv := xv) W ?_ _ (zp_st1 (zp_args 0 [.inr (.inr (some 73)), .inl xs, .inl xv]) 3 (.inl (Int32.ofInt 2))) (Int32.ofInt 2) rfl ⟨by decide, by decide⟩ (zw_gt rfl rfl rfl) (zw_gt rfl rfl rfl) (zw_gt rfl rfl rfl) zw_g1
    · rw [show (Int32.ofInt 2).toInt.toNat = 2 from rfl, zt_sh2] at h9
      exact h9
    · intro lv l0 l1 l2
      have W2 : zw_W (zt_sh H 60) := W
      refine zw_ld (n := 1) (k := 0) (f := zp_isR) (pc' := 38) rfl rfl l0 rfl rfl ?_
      refine zw_s (pc' := 39) rfl rfl ?_
      refine zw_gI (q := 72) (pc' := 42) W2 rfl rfl rfl rfl rfl rfl ?_
      refine zw_s (pc' := 43) rfl rfl ?_
      refine zw_isub (pc' := 44) rfl rfl ?_
      refine zw_pI (q := 72) (pc' := 47) W2 rfl rfl rfl rfl rfl rfl ?_
      have eS : (zt_sh H 60).2.1 72 62 = H.2.1 72 62 := zt_sh_ne (by decide)
      rw [eS]
      refine zt_kT l0 l1 l2 hs hv b2 ?_ ?_ ?_
      · refine zk_Fr_I ⟨rfl, fun p j h1 h2 => ⟨?_, rfl⟩⟩ rfl rfl
        have hne : p ≠ 93 := by
          rintro rfl
          cases h2
        unfold zk_fv
        by_cases h9 : p = 72 ∧ j = 100
        · rw [if_pos h9, if_pos h9]
          rfl
        · rw [if_neg h9, if_neg h9]
          exact congrArg Int32.toInt (zt_sh_ne hne)
      · intro s' h'
        have hc := hC s' h'
        rw [show (H.2.1 72 62).toInt.toNat = 29 + 1 by omega] at hc
        have e62 : (zw_I (zt_sh H 60) 72 62 (H.2.1 72 62 - Int32.ofInt 1)).2.1 72 62 = H.2.1 72 62 - Int32.ofInt 1 := zw_eq
        rw [e62, show (H.2.1 72 62 - Int32.ofInt 1).toInt.toNat = 29 by omega]
        have e74 : (zw_I (zt_sh H 60) 72 62 (H.2.1 72 62 - Int32.ofInt 1)).2.1 74 (4 * s' + 2) = H.2.1 74 (4 * s' + 2) := zw_ne (zt_sh_ne (by decide)) rfl
        rw [e74]
        have ec := zt_cnt_s (act := H.2.1 93) (act' := (zw_I (zt_sh H 60) 72 62 (H.2.1 72 62 - Int32.ofInt 1)).2.1 93) (s := (s' : Int)) (n := 29) (fun i hi => zw_ne (zt_sh_eq (by omega)) rfl)
        omega
      · have e62 : (zw_I (zt_sh H 60) 72 62 (H.2.1 72 62 - Int32.ofInt 1)).2.1 72 62 = H.2.1 72 62 - Int32.ofInt 1 := zw_eq
        rw [e62]
        omega
