/-! ===== the reference reads an expression: what is put, what waits ===== -/
theorem zx_S_b {a e o e' o' : Nat} {H : zp_H} (h : zx_S a e o H) (hn : (H.2.1 72 23).toInt ≠ 0) : zx_S a e' o' H := ⟨h.1, h.2.1, h.2.2.1, fun h9 => absurd h9 hn⟩
/-- as zx_S, but the word at hand is spent -/
def zx_T (a e o : Nat) (H : zp_H) : Prop := zk_Bs zR zg zJ H ∧ (H.2.1 72 23).toInt = 0 ∧ (H.2.1 72 28).toInt ≠ 0 ∧ (H.2.1 72 45).toInt + (H.2.1 72 46).toInt ≤ zx_phi H ∧ 2 * (H.2.1 72 46).toInt ≤ zx_phi H + 2 ∧ (H.2.1 72 47).toInt + o = 1 + (zr_opn (H.2.1 91) (H.2.1 72 46).toInt.toNat : Nat) ∧ (∀ i, i < (H.2.1 72 46).toInt.toNat → 3 ≤ (H.2.1 91 i).toInt ∧ (H.2.1 91 i).toInt ≤ 14) ∧ ∃ n, zr_run (H.2.1 90) n a 0 = some ((H.2.1 72 45).toInt.toNat, zr_bin (H.2.1 91) (H.2.1 72 46).toInt.toNat + e)
theorem zx_T_goes {L : Nat} {σ : Nat → Int32} {d a e o : Nat} {H : zp_H} (h : zx_T a e o H) : ∃ H1, zp_Call L σ (d + 2) 171 [.inr (.inr (some 73))] H (.inl none, H1) ∧ zx_S a e o H1 ∧ zx_F a H H1 ∧ (H1.2.1 72 23).toInt = 0 ∧ zx_phi H + 2 ≤ zx_phi H1 ∧ (H1.2.1 72 45).toInt = (H.2.1 72 45).toInt := by
  obtain ⟨h1, h2, h3, h4, h5, h6, h7, h8⟩ := h
  obtain ⟨H1, c1, c2, c3, c4, c5⟩ := zx_goes (L := L) (σ := σ) (d := d) h1
  have p0 := zx_phi_s h3
  have p1 := zx_phi_le c2
  have e23 := zx_fe c3 23 rfl rfl rfl
  have e45 := zx_fe c3 45 rfl rfl rfl
  have e46 := zx_fe c3 46 rfl rfl rfl
  have e47 := zx_fe c3 47 rfl rfl rfl
  have f90 := zx_ae c3 90 (fun _ => rfl) rfl rfl
  have f91 := zx_ae c3 91 (fun _ => rfl) rfl rfl
  have w0 := zR_fr1 (zR_dn h1) (k := 46) (r := (0, 800)) rfl rfl
  have w0 : 0 ≤ (H.2.1 72 46).toInt ∧ _ := w0
  refine ⟨H1, c1, ⟨c2, by omega, by omega, fun _ => ⟨by omega, by omega, ?_, ?_, ?_⟩⟩, ⟨zk_Fr_w rfl rfl c3, fun i _ => by rw [f90]⟩, by omega, by omega, e45⟩
  · rw [e47, e46, f91]; exact h6
  · rw [e46, f91]; exact h7
  · rw [e45, e46, f90, f91]; exact h8
def zx_pt (H : zp_H) (y : Int32) : zp_H := zw_I (zw_I H 90 (H.2.1 72 45).toInt.toNat y) 72 45 (H.2.1 72 45 + Int32.ofInt 1)
theorem zx_pt_f {H : zp_H} {y : Int32} (k : Nat) (hk : Nat.beq k 45 = false) : (zx_pt H y).2.1 72 k = H.2.1 72 k := zw_ne (zw_ne rfl rfl) (by rw [hk]; rfl)
theorem zx_pt_t {H : zp_H} {y : Int32} (h : (H.2.1 72 45).toInt < 1600) : ((zx_pt H y).2.1 72 45).toInt = (H.2.1 72 45).toInt + 1 := by
  have e : (zx_pt H y).2.1 72 45 = H.2.1 72 45 + Int32.ofInt 1 := zw_eq
  rw [e]
  exact zw_p1 (by omega)
theorem zx_pt_w {H : zp_H} {y : Int32} : (zx_pt H y).2.1 91 = H.2.1 91 := funext (fun i => zw_ne (zw_ne rfl rfl) rfl)
theorem zx_pt_c {H : zp_H} {y : Int32} {i : Nat} (h : i ≠ (H.2.1 72 45).toInt.toNat) : (zx_pt H y).2.1 90 i = H.2.1 90 i := zw_ne (zp_u_ne (fun h9 => h h9.2)) rfl
theorem zx_pt_y {H : zp_H} {y : Int32} : (zx_pt H y).2.1 90 (H.2.1 72 45).toInt.toNat = y := zw_ne zw_eq rfl
theorem zx_pt_B {H : zp_H} {y : Int32} (hB : zk_Bs zR zg zJ H) (h : (H.2.1 72 45).toInt < 1600) : zk_Bs zR zg zJ (zx_pt H y) := by
  have t0 := zR_fr1 (zR_dn hB) (k := 45) (r := (0, 1600)) rfl rfl
  have t0 : 0 ≤ (H.2.1 72 45).toInt ∧ _ := t0
  have e2 : (H.2.1 72 45 + Int32.ofInt 1).toInt = (H.2.1 72 45).toInt + 1 := zw_p1 (by omega)
  have b1 := zR_dn hB
  have b2 := zR_puta (p := 90) (j := (H.2.1 72 45).toInt.toNat) (x := y) (t := 0) (n := 1600) b1 rfl (fun r hr => by
    have e : r = (-2147483648, 2147483647) := by
      have hr : [((-2147483648 : Int), (2147483647 : Int))][(H.2.1 72 45).toInt.toNat % 1]? = some r := hr
      rw [Nat.mod_one] at hr
      exact (Option.some.inj hr).symm
    rw [e]
    exact ⟨Int32.le_toInt _, Int32.toInt_le _⟩) (zJ_I rfl b1.2.2.2.2.2.2.2)
  have b3 := zR_putf (k := 45) (x := H.2.1 72 45 + Int32.ofInt 1) b2 (fun r hr => by cases hr; exact ⟨by show (0 : Int) ≤ _; omega, by show _ ≤ (1600 : Int); omega⟩) rfl (zJ_I rfl b2.2.2.2.2.2.2.2)
  refine zR_up b3 ?_
  have c := zR_cn hB
  unfold zR_cc
  show ((zx_pt H y).2.1 72 23).toInt = 0 → _
  rw [zx_pt_f 23 rfl, zx_pt_f 34 rfl, zx_pt_f 35 rfl]
  exact c
theorem zx_pt_F {a : Nat} {H : zp_H} {y : Int32} (ha : (a : Int) ≤ (H.2.1 72 45).toInt) : zx_F a H (zx_pt H y) := ⟨zk_Fr_I (zk_Fr_I (zk_Fr_r H) rfl rfl) rfl rfl, fun i hi => zx_pt_c (by omega)⟩
/-- a number or a value is put -/
theorem zx_pp {a e o : Nat} {H : zp_H} {c y : Int32} (h : zx_S a e o H) (h0 : (H.2.1 72 23).toInt = 0) (hs : (H.2.1 72 28).toInt ≠ 0) (hc : c.toInt = 1 ∨ c.toInt = 2) : zx_T a (e + 1) o (zx_pt (zx_pt H c) y) := by
  obtain ⟨t0, w0⟩ := zx_top h
  obtain ⟨hB, h2, h3, hg⟩ := h
  obtain ⟨g1, g2, g3, g4, n, g5⟩ := hg h0
  have p1 := zx_phi_le hB
  have e1 : ((zx_pt H c).2.1 72 45).toInt = (H.2.1 72 45).toInt + 1 := zx_pt_t (by omega)
  have e2 : ((zx_pt (zx_pt H c) y).2.1 72 45).toInt = (H.2.1 72 45).toInt + 1 + 1 := by rw [zx_pt_t (by omega), e1]
  have f : ∀ k, Nat.beq k 45 = false → (zx_pt (zx_pt H c) y).2.1 72 k = H.2.1 72 k := fun k hk => (zx_pt_f k hk).trans (zx_pt_f k hk)
  have f91 : (zx_pt (zx_pt H c) y).2.1 91 = H.2.1 91 := zx_pt_w.trans zx_pt_w
  have hphi : zx_phi (zx_pt (zx_pt H c) y) = zx_phi H := by
    unfold zx_phi
    rw [f 27 rfl, f 28 rfl]
  refine ⟨zx_pt_B (zx_pt_B hB (by omega)) (by omega), by rw [f 23 rfl]; exact h0, by rw [f 28 rfl]; exact hs, by rw [hphi, f 46 rfl, e2]; omega, by rw [hphi, f 46 rfl]; omega, by rw [f 47 rfl, f91, f 46 rfl]; exact g3, by rw [f91, f 46 rfl]; exact g4, n + 1, ?_⟩
  have r1 := zr_run_c (c := H.2.1 90) (c' := (zx_pt (zx_pt H c) y).2.1 90) (b := (H.2.1 72 45).toInt.toNat) (fun i hi => (zx_pt_c (by omega)).trans (zx_pt_c (by omega))) g5 (Nat.le_refl _)
  rw [zr_run_app r1, f91, f 46 rfl, e2]
  have ey : (zx_pt (zx_pt H c) y).2.1 90 (H.2.1 72 45).toInt.toNat = c := (zx_pt_c (by omega)).trans zx_pt_y
  have et : ((H.2.1 72 45).toInt + 1 + 1).toNat = (H.2.1 72 45).toInt.toNat + 2 := by omega
  unfold zr_stp
  dsimp only
  rw [ey, et, if_pos hc]
  rfl
theorem zx_pp_b {a e o : Nat} {H : zp_H} {c y : Int32} (h : zx_S a e o H) (hn : (H.2.1 72 23).toInt ≠ 0) (hb : (H.2.1 72 45).toInt + (H.2.1 72 46).toInt ≤ 1399) {e' o' : Nat} : zx_S a e' o' (zx_pt (zx_pt H c) y) := by
  obtain ⟨t0, w0⟩ := zx_top h
  obtain ⟨hB, h2, h3, hg⟩ := h
  have e1 : ((zx_pt H c).2.1 72 45).toInt = (H.2.1 72 45).toInt + 1 := zx_pt_t (by omega)
  have e2 : ((zx_pt (zx_pt H c) y).2.1 72 45).toInt = (H.2.1 72 45).toInt + 1 + 1 := by rw [zx_pt_t (by omega), e1]
  have f : ∀ k, Nat.beq k 45 = false → (zx_pt (zx_pt H c) y).2.1 72 k = H.2.1 72 k := fun k hk => (zx_pt_f k hk).trans (zx_pt_f k hk)
  exact ⟨zx_pt_B (zx_pt_B hB (by omega)) (by omega), by rw [f 46 rfl, e2]; omega, by rw [f 46 rfl]; exact h3, fun h9 => absurd (by rw [f 23 rfl] at h9; exact h9) hn⟩
/-- one waits -/
def zx_wt (H : zp_H) (y : Int32) : zp_H := zw_I (zw_I H 91 (H.2.1 72 46).toInt.toNat y) 72 46 (H.2.1 72 46 + Int32.ofInt 1)
theorem zx_wt_f {H : zp_H} {y : Int32} (k : Nat) (hk : Nat.beq k 46 = false) : (zx_wt H y).2.1 72 k = H.2.1 72 k := zw_ne (zw_ne rfl rfl) (by rw [hk]; rfl)
theorem zx_wait {a e o : Nat} {H : zp_H} {y : Int32} (h : zx_S a e o H) (h0 : (H.2.1 72 23).toInt = 0) (hs : (H.2.1 72 28).toInt ≠ 0) (hy : 3 ≤ y.toInt ∧ y.toInt ≤ 14) :
    zx_F a H (zx_wt H y) ∧ (zx_wt H y).2.1 72 47 = H.2.1 72 47 ∧ zx_phi (zx_wt H y) = zx_phi H ∧ ∀ e' o', e = e' + (if 4 ≤ y.toInt ∧ y.toInt < 14 then 1 else 0) → o' = o + (if 14 ≤ y.toInt then 1 else 0) → zx_T a e' o' (zx_wt H y) := by
  obtain ⟨t0, w0⟩ := zx_top h
  obtain ⟨hB, h2, h3, hg⟩ := h
  obtain ⟨g1, g2, g3, g4, n, g5⟩ := hg h0
  have p1 := zx_phi_le hB
  have e1 : (H.2.1 72 46 + Int32.ofInt 1).toInt = (H.2.1 72 46).toInt + 1 := zw_p1 (by omega)
  have f46 : (zx_wt H y).2.1 72 46 = H.2.1 72 46 + Int32.ofInt 1 := zw_eq
  have f90 : (zx_wt H y).2.1 90 = H.2.1 90 := funext (fun i => zw_ne (zw_ne rfl rfl) rfl)
  have f91 : ∀ i, i ≠ (H.2.1 72 46).toInt.toNat → (zx_wt H y).2.1 91 i = H.2.1 91 i := fun i hi => zw_ne (zp_u_ne (fun h9 => hi h9.2)) rfl
  have f91t : (zx_wt H y).2.1 91 (H.2.1 72 46).toInt.toNat = y := zw_ne zw_eq rfl
  have hphi : zx_phi (zx_wt H y) = zx_phi H := by
    unfold zx_phi
    rw [zx_wt_f 27 rfl, zx_wt_f 28 rfl]
  have en : (H.2.1 72 46 + Int32.ofInt 1).toInt.toNat = (H.2.1 72 46).toInt.toNat + 1 := by omega
  have hB' : zk_Bs zR zg zJ (zx_wt H y) := by
    have b1 := zR_dn hB
    have b2 := zR_puta (p := 91) (j := (H.2.1 72 46).toInt.toNat) (x := y) (t := 0) (n := 800) b1 rfl (fun r hr => by
      have hr : [((0 : Int), (14 : Int))][(H.2.1 72 46).toInt.toNat % 1]? = some r := hr
      rw [Nat.mod_one] at hr
      cases hr
      exact ⟨by show (0 : Int) ≤ _; omega, hy.2⟩) (zJ_I rfl b1.2.2.2.2.2.2.2)
    have b3 := zR_putf (k := 46) (x := H.2.1 72 46 + Int32.ofInt 1) b2 (fun r hr => by cases hr; exact ⟨by show (0 : Int) ≤ _; omega, by show _ ≤ (800 : Int); omega⟩) rfl (zJ_I rfl b2.2.2.2.2.2.2.2)
    refine zR_up b3 ?_
    have c := zR_cn hB
    unfold zR_cc
    show ((zx_wt H y).2.1 72 23).toInt = 0 → _
    rw [zx_wt_f 23 rfl, zx_wt_f 34 rfl, zx_wt_f 35 rfl]
    exact c
  refine ⟨⟨zk_Fr_I (zk_Fr_I (zk_Fr_r H) rfl rfl) rfl rfl, fun i _ => by rw [f90]⟩, zx_wt_f 47 rfl, hphi, fun e' o' he ho => ⟨hB', by rw [zx_wt_f 23 rfl]; exact h0, by rw [zx_wt_f 28 rfl]; exact hs, by rw [hphi, zx_wt_f 45 rfl, f46, e1]; omega, by rw [hphi, f46, e1]; omega, ?_, ?_, n, ?_⟩⟩
  · rw [zx_wt_f 47 rfl, f46, en]
    show _ = 1 + ((zr_opn ((zx_wt H y).2.1 91) (H.2.1 72 46).toInt.toNat + _ : Nat) : Int)
    rw [zr_opn_c (fun i hi => f91 i (by omega)), f91t, ho]
    split <;> omega
  · rw [f46, en]
    intro i hi
    by_cases h9 : i = (H.2.1 72 46).toInt.toNat
    · rw [h9, f91t]; exact hy
    · rw [f91 i h9]
      exact g4 i (by omega)
  · rw [f90, zx_wt_f 45 rfl, f46, en, g5]
    show _ = some (_, zr_bin ((zx_wt H y).2.1 91) (H.2.1 72 46).toInt.toNat + _ + e')
    rw [zr_bin_c (fun i hi => f91 i (by omega)), f91t]
    refine congrArg (fun z => some ((H.2.1 72 45).toInt.toNat, z)) ?_
    omega
