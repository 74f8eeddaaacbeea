/-! ===== the reference reads an expression: words, parts, brackets ===== -/
def zx_TK : List (Nat × Nat) := [(72, 27), (72, 28), (72, 29), (72, 30), (72, 31), (72, 32), (72, 33), (72, 100)]
def zx_M : List (Nat × Nat) := [(72, 23), (72, 24), (72, 27), (72, 28), (72, 29), (72, 30), (72, 31), (72, 32), (72, 33), (72, 45), (72, 46), (72, 47), (72, 100)]
def zx_A : List Nat := [90, 91, 92]
def zx_F (a : Nat) (H0 H : zp_H) : Prop := zk_Fr zg zx_M zx_A H0 H ∧ ∀ i, i < a → H.2.1 90 i = H0.2.1 90 i
theorem zx_F_r {a : Nat} (H : zp_H) : zx_F a H H := ⟨zk_Fr_r H, fun _ _ => rfl⟩
theorem zx_F_t {a : Nat} {H H1 H2 : zp_H} (h1 : zx_F a H H1) (h2 : zx_F a H1 H2) : zx_F a H H2 := ⟨zk_Fr_t h1.1 h2.1, fun i hi => (h2.2 i hi).trans (h1.2 i hi)⟩
theorem zx_Fd_F {a : Nat} {H H1 : zp_H} (h : zx_Fd a H H1) : zx_F a H H1 := ⟨zk_Fr_w rfl rfl h.1, h.2⟩
theorem zk_rv_n {x : Option zp_V ⊕ Nat} (h : zk_rv (.inl none) x) : x = .inl none := by
  match x, h with
  | .inl none, _ => rfl
theorem zx_fe {mods : List (Nat × Nat)} {am : List Nat} {H H1 : zp_H} (h : zk_Fr zg mods am H H1) (k : Nat) (hm : zk_inm mods 72 k = false) (ha : zk_ina am 72 = false) (hk : Nat.beq k 100 = false) : (H1.2.1 72 k).toInt = (H.2.1 72 k).toInt := by
  have e := (h.2 72 k hm ha).1
  have hne : ¬ ((72 : Nat) = 72 ∧ k = 100) := by
    rintro ⟨_, e⟩
    rw [e] at hk
    cases hk
  unfold zk_fv at e
  rw [if_neg hne, if_neg hne] at e
  exact e
theorem zx_ae {mods : List (Nat × Nat)} {am : List Nat} {H H1 : zp_H} (h : zk_Fr zg mods am H H1) (p : Nat) (hm : ∀ k, zk_inm mods p k = false) (ha : zk_ina am p = false) (hp : Nat.beq p 72 = false) : H1.2.1 p = H.2.1 p := by
  funext k
  have e := (h.2 p k (hm k) ha).1
  have hne : ¬ (p = 72 ∧ k = 100) := by
    rintro ⟨e, _⟩
    rw [e] at hp
    cases hp
  unfold zk_fv at e
  rw [if_neg hne, if_neg hne] at e
  exact Int32.toInt_inj.mp e
theorem zx_goes {L : Nat} {σ : Nat → Int32} {d : Nat} {H : zp_H} (h : zk_Bs zR zg zJ H) : ∃ H1, zp_Call L σ (d + 2) 171 [.inr (.inr (some 73))] H (.inl none, H1) ∧ zk_Bs zR zg zJ H1 ∧ zk_Fr zg zx_TK [] H H1 ∧ 2 * (H.2.1 72 27).toInt ≤ zx_phi H1 ∧ (H1.2.1 72 27).toInt ≤ 700 := by
  have hct : zk_Ct L σ zR zg zJ zr_e0 := zk_chk_ok zR_W (fun _ h => absurd h List.not_mem_nil) zrt_e0
  obtain ⟨X, x1, x2, x3, o, o1, o2, o3, o4⟩ := hct (d + 2) (Nat.le_add_left 2 d) [.inr (.inr (some 73))] H ⟨rfl, trivial⟩ h (fun f hf => absurd hf List.not_mem_nil)
  have o1 : o ∈ [((Sum.inl none, [(72, 27, 0, 700), (72, 28, 0, 0)], [(72, 27, 0)]) : zk_Oc), (Sum.inl none, [(72, 27, 0, 700), (72, 28, 1, 4)], [(72, 27, 1)])] := o1
  obtain ⟨X1, X2⟩ := X
  have key : X1 = .inl none ∧ 2 * (H.2.1 72 27).toInt ≤ zx_phi X2 ∧ (X2.2.1 72 27).toInt ≤ 700 := by
    rcases List.mem_cons.mp o1 with rfl | o1
    · have a1 := o3 (72, 27, 0, 700) List.mem_cons_self
      have a2 := o3 (72, 28, 0, 0) (List.mem_cons_of_mem _ List.mem_cons_self)
      have a3 := o4 (72, 27, 0) List.mem_cons_self
      have a1 : 0 ≤ (X2.2.1 72 27).toInt ∧ (X2.2.1 72 27).toInt ≤ 700 := a1
      have a2 : 0 ≤ (X2.2.1 72 28).toInt ∧ (X2.2.1 72 28).toInt ≤ 0 := a2
      have a3 : (H.2.1 72 27).toInt + 0 ≤ (X2.2.1 72 27).toInt := a3
      refine ⟨zk_rv_n o2, ?_, a1.2⟩
      unfold zx_phi
      rw [if_pos (by omega)]
      omega
    · rcases List.mem_cons.mp o1 with rfl | o1
      · have a1 := o3 (72, 27, 0, 700) List.mem_cons_self
        have a2 := o3 (72, 28, 1, 4) (List.mem_cons_of_mem _ List.mem_cons_self)
        have a3 := o4 (72, 27, 1) List.mem_cons_self
        have a1 : 0 ≤ (X2.2.1 72 27).toInt ∧ (X2.2.1 72 27).toInt ≤ 700 := a1
        have a2 : 1 ≤ (X2.2.1 72 28).toInt ∧ (X2.2.1 72 28).toInt ≤ 4 := a2
        have a3 : (H.2.1 72 27).toInt + 1 ≤ (X2.2.1 72 27).toInt := a3
        refine ⟨zk_rv_n o2, ?_, a1.2⟩
        unfold zx_phi
        rw [if_neg (by omega)]
        omega
      · exact absurd o1 List.not_mem_nil
  obtain ⟨rfl, k2, k3⟩ := key
  exact ⟨X2, x1, x2, x3, k2, k3⟩
theorem zx_phi_le {H : zp_H} (h : zk_Bs zR zg zJ H) : zx_phi H ≤ 1400 := by
  have h1 := (zR_fr1 (zR_dn h) (k := 27) (r := (0, 700)) rfl rfl).2
  have h1 : (H.2.1 72 27).toInt ≤ 700 := h1
  unfold zx_phi
  split <;> omega
theorem zx_phi_s {H : zp_H} (h : (H.2.1 72 28).toInt ≠ 0) : zx_phi H = 2 * (H.2.1 72 27).toInt - 2 := by
  unfold zx_phi
  rw [if_neg h]
theorem zx_phi_e {H H1 : zp_H} (h1 : H1.2.1 72 27 = H.2.1 72 27) (h2 : H1.2.1 72 28 = H.2.1 72 28) : zx_phi H1 = zx_phi H := by
  unfold zx_phi
  rw [h1, h2]
/-- a fault -/
theorem zx_wrong {L : Nat} {σ : Nat → Int32} {d a e o : Nat} {H : zp_H} {y : Int32} (h : zx_S a e o H) (hy : 1 ≤ y.toInt ∧ y.toInt ≤ 5) : ∃ H1, zp_Call L σ (d + 1) 180 [.inr (.inr (some 73)), .inl y] H (.inl none, H1) ∧ (H1.2.1 72 23).toInt ≠ 0 ∧ (∀ e' o', zx_S a e' o' H1) ∧ zx_F a H H1 ∧ (H1.2.1 72 45).toInt = (H.2.1 72 45).toInt ∧ (H1.2.1 72 46).toInt = (H.2.1 72 46).toInt ∧ zx_phi H1 = zx_phi H := by
  have W := zR_Wd (zR_dn h.1)
  by_cases hg : (H.2.1 72 23).toInt = 0
  · refine ⟨_, zq_wrong0 W hg, ?_, ?_, ⟨zk_Fr_I (zk_Fr_I (zk_Fr_r H) rfl rfl) rfl rfl, fun i hi => zw_ne (zw_ne rfl rfl) rfl⟩, congrArg Int32.toInt (zw_ne (zw_ne rfl rfl) rfl), congrArg Int32.toInt (zw_ne (zw_ne rfl rfl) rfl), ?_⟩
    rotate_left 2
    · have e1 : (zw_I (zw_I H 72 23 y) 72 24 (H.2.1 72 29)).2.1 72 27 = H.2.1 72 27 := zw_ne (zw_ne rfl rfl) rfl
      have e2 : (zw_I (zw_I H 72 23 y) 72 24 (H.2.1 72 29)).2.1 72 28 = H.2.1 72 28 := zw_ne (zw_ne rfl rfl) rfl
      unfold zx_phi
      rw [e1, e2]
    · have e1 : (zw_I (zw_I H 72 23 y) 72 24 (H.2.1 72 29)).2.1 72 23 = y := zw_ne zw_eq rfl
      rw [e1]
      omega
    · intro e' o'
      have e1 : (zw_I (zw_I H 72 23 y) 72 24 (H.2.1 72 29)).2.1 72 23 = y := zw_ne zw_eq rfl
      have e2 : (zw_I (zw_I H 72 23 y) 72 24 (H.2.1 72 29)).2.1 72 45 = H.2.1 72 45 := zw_ne (zw_ne rfl rfl) rfl
      have e3 : (zw_I (zw_I H 72 23 y) 72 24 (H.2.1 72 29)).2.1 72 46 = H.2.1 72 46 := zw_ne (zw_ne rfl rfl) rfl
      have b0 := zR_dn h.1
      have b1 := zR_putf (k := 23) (x := y) b0 (fun r hr => by cases hr; exact ⟨by show (0 : Int) ≤ _; omega, hy.2⟩) rfl (zJ_I rfl b0.2.2.2.2.2.2.2)
      have b2 := zR_putf (k := 24) (x := H.2.1 72 29) b1 (fun r hr => by cases hr) rfl (zJ_I rfl b1.2.2.2.2.2.2.2)
      refine ⟨zR_up b2 (fun h9 => ?_), by rw [e2, e3]; exact h.2.1, by rw [e3]; exact h.2.2.1, fun h9 => ?_⟩
      · rw [e1] at h9; omega
      · rw [e1] at h9; omega
  · exact ⟨H, zq_wrong1 W hg, hg, fun e' o' => ⟨h.1, h.2.1, h.2.2.1, fun h9 => absurd h9 hg⟩, zx_F_r H, rfl, rfl, rfl⟩
def zm_171 : za_MI := (yX12_goes, prog_14_method_13_code, 2, none, 12, 0, 0, [], za_i171)
theorem zm_171_t : za_MT 171 = some zm_171 := rfl
def zm_193 : za_MI := (yX12_deeper, prog_14_method_31_code, 1, none, 12, 0, 0, [], za_i193)
theorem zm_193_t : za_MT 193 = some zm_193 := rfl
theorem zx_deep {a e : Nat} {H : zp_H} (h : zx_S a e 1 H) (hd : (H.2.1 72 47).toInt < 6) : zx_S a e 0 (zw_I (zw_I H 72 47 (H.2.1 72 47 + Int32.ofInt 1)) 92 (H.2.1 72 47 + Int32.ofInt 1).toInt.toNat (zp_nar 2 (Int32.ofInt 0))) := by
  have hd0 := zR_fr1 (zR_dn h.1) (k := 47) (r := (0, 6)) rfl rfl
  have hd0 : 0 ≤ (H.2.1 72 47).toInt ∧ (H.2.1 72 47).toInt ≤ 6 := hd0
  have e1 : (H.2.1 72 47 + Int32.ofInt 1).toInt = (H.2.1 72 47).toInt + 1 := zw_p1 (by omega)
  generalize hK : zw_I (zw_I H 72 47 (H.2.1 72 47 + Int32.ofInt 1)) 92 (H.2.1 72 47 + Int32.ofInt 1).toInt.toNat (zp_nar 2 (Int32.ofInt 0)) = K
  have b0 := zR_dn h.1
  have b1 := zR_putf (k := 47) (x := H.2.1 72 47 + Int32.ofInt 1) b0 (fun r hr => by cases hr; exact ⟨by show (0 : Int) ≤ _; omega, by show _ ≤ (6 : Int); omega⟩) rfl (zJ_I rfl b0.2.2.2.2.2.2.2)
  have b2 := zR_puta (p := 92) (j := (H.2.1 72 47 + Int32.ofInt 1).toInt.toNat) (x := zp_nar 2 (Int32.ofInt 0)) (t := 2) (n := 9) b1 rfl (fun r hr => by
    have hr : [((0 : Int), (1 : Int))][(H.2.1 72 47 + Int32.ofInt 1).toInt.toNat % 1]? = some r := hr
    rw [Nat.mod_one] at hr
    cases hr
    exact ⟨by decide, by decide⟩) (zJ_I rfl b1.2.2.2.2.2.2.2)
  rw [hK] at b2
  have f : ∀ k, Nat.beq k 47 = false → K.2.1 72 k = H.2.1 72 k := fun k hk => by rw [← hK]; exact zw_ne (zw_ne rfl (by rw [hk]; rfl)) rfl
  have f47 : K.2.1 72 47 = H.2.1 72 47 + Int32.ofInt 1 := by rw [← hK]; exact zw_ne zw_eq rfl
  have f90 : K.2.1 90 = H.2.1 90 := by rw [← hK]; exact funext (fun i => zw_ne (zw_ne rfl rfl) rfl)
  have f91 : K.2.1 91 = H.2.1 91 := by rw [← hK]; exact funext (fun i => zw_ne (zw_ne rfl rfl) rfl)
  have hphi : zx_phi K = zx_phi H := by
    unfold zx_phi
    rw [f 27 rfl, f 28 rfl]
  refine ⟨zR_up b2 ?_, by rw [f 45 rfl, f 46 rfl]; exact h.2.1, by rw [f 46 rfl]; exact h.2.2.1, ?_⟩
  · have c := zR_cn h.1
    unfold zR_cc
    rw [f 23 rfl, f 34 rfl, f 35 rfl]
    exact c
  · rw [f 23 rfl]
    intro h0
    obtain ⟨g1, g2, g3, g4, g5⟩ := h.2.2.2 h0
    refine ⟨by rw [hphi, f 45 rfl, f 46 rfl]; exact g1, by rw [hphi, f 46 rfl]; exact g2, ?_, by rw [f 46 rfl, f91]; exact g4, by rw [f90, f91, f 45 rfl, f 46 rfl]; exact g5⟩
    rw [f47, e1, f91, f 46 rfl]
    omega

theorem zx_deeper {L : Nat} {σ : Nat → Int32} {d a e : Nat} {H : zp_H} (h : zx_S a e 1 H) : ∃ X, zp_Call L σ (d + 3) 193 [.inr (.inr (some 73))] H X ∧ ∃ H1, X = (.inl none, H1) ∧ zx_S a e 0 H1 ∧ zx_F a H H1 ∧ zx_phi H1 = zx_phi H ∧ (H1.2.1 72 45).toInt = (H.2.1 72 45).toInt := by
  have W := zR_Wd (zR_dn h.1)
  have hd := zR_fr1 (zR_dn h.1) (k := 47) (r := (0, 6)) rfl rfl
  have hd : 0 ≤ (H.2.1 72 47).toInt ∧ (H.2.1 72 47).toInt ≤ 6 := hd
  have e1 : (H.2.1 72 47 + Int32.ofInt 1).toInt = (H.2.1 72 47).toInt + 1 := zw_p1 (by omega)
  refine zw_met zm_193_t rfl rfl ?_
  refine zw_ld (n := 1) (k := 0) (f := zp_isR) (pc' := 1) rfl rfl rfl rfl rfl ?_
  refine zw_gI (q := 72) (pc' := 4) W rfl rfl rfl rfl rfl rfl ?_
  refine zw_s (pc' := 6) rfl rfl ?_
  refine zw_bge2 (g := 30) (pc' := 9) rfl rfl rfl rfl (rfl : _ = (6 : Int)) (fun hb => ?_) (fun hb => ?_)
  · refine zw_ld (n := 1) (k := 0) (f := zp_isR) (pc' := 31) rfl rfl rfl rfl rfl ?_
    refine zw_ld (n := 1) (k := 0) (f := zp_isR) (pc' := 32) rfl rfl rfl rfl rfl ?_
    refine zw_gI (q := 72) (pc' := 35) W rfl rfl rfl rfl rfl rfl ?_
    refine zw_s (pc' := 36) rfl rfl ?_
    refine zw_beq2 (g := 56) (pc' := 39) rfl rfl rfl rfl (rfl : _ = (2 : Int)) (fun h1 => ?_) (fun h1 => ?_)
    · refine zw_s (pc' := 57) rfl rfl ?_
      refine zw_s (pc' := 61) rfl rfl ?_
      obtain ⟨H1, c1, c2, c3, c4, c5, c6, c7⟩ := zx_wrong (L := L) (σ := σ) (d := d + 1) (y := Int32.ofInt 2) h (by decide)
      refine zw_cn (pc' := 64) (zw_cv (q := 72) (Y := zm_180) W.1 rfl rfl zm_180_t rfl rfl) rfl rfl rfl rfl rfl (c1) ?_
      refine zw_rn rfl rfl ?_
      exact ⟨H1, rfl, c3 _ _, c4, c7, c5⟩
    · refine zw_ld (n := 1) (k := 0) (f := zp_isR) (pc' := 40) rfl rfl rfl rfl rfl ?_
      refine zw_gI (q := 72) (pc' := 43) W rfl rfl rfl rfl rfl rfl ?_
      refine zw_s (pc' := 44) rfl rfl ?_
      refine zw_beq2 (g := 56) (pc' := 47) rfl rfl rfl rfl (rfl : _ = (1 : Int)) (fun h2 => ?_) (fun h2 => ?_)
      · refine zw_s (pc' := 57) rfl rfl ?_
        refine zw_s (pc' := 61) rfl rfl ?_
        obtain ⟨H1, c1, c2, c3, c4, c5, c6, c7⟩ := zx_wrong (L := L) (σ := σ) (d := d + 1) (y := Int32.ofInt 2) h (by decide)
        refine zw_cn (pc' := 64) (zw_cv (q := 72) (Y := zm_180) W.1 rfl rfl zm_180_t rfl rfl) rfl rfl rfl rfl rfl (c1) ?_
        refine zw_rn rfl rfl ?_
        exact ⟨H1, rfl, c3 _ _, c4, c7, c5⟩
      · refine zw_ld (n := 1) (k := 0) (f := zp_isR) (pc' := 48) rfl rfl rfl rfl rfl ?_
        refine zw_s (pc' := 50) rfl rfl ?_
        by_cases h3 : (H.2.1 72 28).toInt = 3 ∧ (H.2.1 72 32).toInt = (Int32.ofInt 40).toInt
        · refine zw_c (pc' := 53) (zw_cv (q := 72) (Y := zm_194) W.1 rfl rfl zm_194_t rfl rfl) rfl rfl rfl rfl rfl (zq_sign1 W h3) ?_
          refine zw_beq1 (g := 60) (pc' := 56) rfl rfl rfl (rfl : _ = (1 : Int)) (fun h9 => absurd h9 (by decide)) (fun hb => ?_)
          refine zw_s (pc' := 57) rfl rfl ?_
          refine zw_s (pc' := 61) rfl rfl ?_
          obtain ⟨H1, c1, c2, c3, c4, c5, c6, c7⟩ := zx_wrong (L := L) (σ := σ) (d := d + 1) (y := Int32.ofInt 2) h (by decide)
          refine zw_cn (pc' := 64) (zw_cv (q := 72) (Y := zm_180) W.1 rfl rfl zm_180_t rfl rfl) rfl rfl rfl rfl rfl (c1) ?_
          refine zw_rn rfl rfl ?_
          exact ⟨H1, rfl, c3 _ _, c4, c7, c5⟩
        · refine zw_c (pc' := 53) (zw_cv (q := 72) (Y := zm_194) W.1 rfl rfl zm_194_t rfl rfl) rfl rfl rfl rfl rfl (zq_sign0 W h3) ?_
          refine zw_beq1 (g := 60) (pc' := 56) rfl rfl rfl (rfl : _ = (0 : Int)) (fun hb => ?_) (fun h9 => absurd h9 (by decide))
          refine zw_s (pc' := 61) rfl rfl ?_
          obtain ⟨H1, c1, c2, c3, c4, c5, c6, c7⟩ := zx_wrong (L := L) (σ := σ) (d := d + 1) (y := Int32.ofInt 1) h (by decide)
          refine zw_cn (pc' := 64) (zw_cv (q := 72) (Y := zm_180) W.1 rfl rfl zm_180_t rfl rfl) rfl rfl rfl rfl rfl (c1) ?_
          refine zw_rn rfl rfl ?_
          exact ⟨H1, rfl, c3 _ _, c4, c7, c5⟩
  · refine zw_ld (n := 1) (k := 0) (f := zp_isR) (pc' := 10) rfl rfl rfl rfl rfl ?_
    refine zw_s (pc' := 11) rfl rfl ?_
    refine zw_gI (q := 72) (pc' := 14) W rfl rfl rfl rfl rfl rfl ?_
    refine zw_s (pc' := 15) rfl rfl ?_
    refine zw_iadd (pc' := 16) rfl rfl ?_
    refine zw_pI (q := 72) (pc' := 19) W rfl rfl rfl rfl rfl rfl ?_
    refine zw_ld (n := 1) (k := 0) (f := zp_isR) (pc' := 20) rfl rfl rfl rfl rfl ?_
    refine zw_gR (q := 72) (pc' := 23) W rfl rfl rfl rfl (W.2 72 61 _ rfl) rfl ?_
    refine zw_ld (n := 1) (k := 0) (f := zp_isR) (pc' := 24) rfl rfl rfl rfl rfl ?_
    refine zw_gI (q := 72) (pc' := 27) W rfl rfl rfl rfl zw_eq rfl ?_
    refine zw_s (pc' := 28) rfl rfl ?_
    refine zw_bs (q := 92) (pc' := 29) W rfl rfl (by decide) (⟨by rw [e1]; omega, by rw [e1]; omega⟩) rfl ?_
    refine zw_rn rfl rfl ?_
    exact ⟨_, rfl, zx_deep h (by omega), ⟨zk_Fr_I (zk_Fr_I (zk_Fr_r H) rfl rfl) rfl rfl, fun i hi => zw_ne (zw_ne rfl rfl) rfl⟩, zx_phi_e (zw_ne (zw_ne rfl rfl) rfl) (zw_ne (zw_ne rfl rfl) rfl), congrArg Int32.toInt (zw_ne (zw_ne rfl rfl) rfl)⟩
