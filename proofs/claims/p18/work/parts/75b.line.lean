/-! ===== the reference: any line ===== -/
theorem zrc_h6 {L : Nat} {σ : Nat → Int32} : zk_Ct L σ zR zg zJ zr_h6 := by
  intro d hd as H ha hB hp
  have hd : 1 ≤ d := hd
  obtain ⟨d0, rfl⟩ : ∃ d0, d = d0 + 1 := ⟨d - 1, by omega⟩
  match as, ha with
  | [.inr (.inr r), .inr (.inr r1), .inr (.inr r2)], ha =>
    obtain ⟨h1, h2, h3, h4⟩ := ha
    have h1 : r = some 73 := h1
    have h2 : r1 = some (98 + 1) := h2
    have h3 : r2 = some (100 + 1) := h3
    subst h1 h2 h3
    have W := zR_Wd (zR_dn hB)
    have c1 := zc_copies (L := L) (σ := σ) (d := d0) (H := H) (q1 := 98) (q2 := 100) (n := 8) W rfl rfl (by decide) (by decide) rfl
    have f : ∀ p k, p ≠ 100 → (zc_k H 98 100 8).2.1 p k = H.2.1 p k := fun p k h => zc_ne h
    refine ⟨_, c1, ?_, zc_F (zk_Fr_r H) rfl rfl, _, List.mem_cons_self, trivial, fun f hf => absurd hf List.not_mem_nil, fun f hf => absurd hf List.not_mem_nil⟩
    have b0 := zT_dn hB
    have b1 : zk_Bs zR0 zg zT (zc_k H 98 100 8) := by
      refine ⟨b0.1, b0.2.1, fun q hq => absurd hq List.not_mem_nil, fun q hq => absurd hq List.not_mem_nil, fun p j r hr => Or.inr ?_, fun p t m i r hp hi hr => ?_, fun c hc => absurd hc List.not_mem_nil, trivial⟩
      · rcases b0.2.2.2.2.1 p j r hr with ⟨q, q1, _⟩ | h9
        · exact absurd q1 List.not_mem_nil
        have hp72 : p = 72 := by
          cases hb : Nat.beq 72 p with
          | true => exact (za_beq hb).symm
          | false =>
            have hr : zB_l2 zR_fr p j = some r := hr
            unfold zR_fr zB_l2 at hr
            rw [hb] at hr
            cases hr
        subst hp72
        unfold zk_fv at h9 ⊢
        by_cases h1 : (72 : Nat) = 72 ∧ j = 100
        · rw [if_pos h1]
          obtain ⟨_, e2⟩ := h1
          subst e2
          have e : r = (-1, 20) := (Option.some.inj hr).symm
          rw [e]
          exact zg_in _
        · rw [if_neg h1] at h9 ⊢
          rw [f 72 j (by decide)]
          exact h9
      · by_cases h9 : p = 100
        · subst h9
          have hr : [((-2147483648 : Int), (2147483647 : Int))][i % 1]? = some r := hr
          rw [Nat.mod_one] at hr
          cases hr
          exact ⟨Int32.le_toInt _, Int32.toInt_le _⟩
        · rw [f p i h9]
          exact b0.2.2.2.2.2.1 p t m i r hp hi hr
    refine zT_up b1 (zJ_c (fun p k hf => f p k ?_) hB.2.2.2.2.2.2.2) ?_
    · rintro rfl
      cases hf
    · unfold zR_cc
      rw [f 72 23 (by decide), f 72 34 (by decide), f 72 35 (by decide)]
      exact zR_cn hB
/-- all summaries that were shown by hand -/
theorem zr_all {L : Nat} {σ : Nat → Int32} : ∀ s ∈ zr_l, zk_Ct L σ zR zg zJ s := by
  unfold zr_l
  exact List.forall_mem_cons.mpr ⟨zrc_h0, List.forall_mem_cons.mpr ⟨zrc_h1, List.forall_mem_cons.mpr ⟨zrc_h2, List.forall_mem_cons.mpr ⟨zrc_h3, List.forall_mem_cons.mpr ⟨zrc_h4, List.forall_mem_cons.mpr ⟨zrc_h5, List.forall_mem_cons.mpr ⟨zrc_h6, fun _ h => absurd h List.not_mem_nil⟩⟩⟩⟩⟩⟩⟩
/-- nothing of the class is touched -/
def zf_72 (H H1 : zp_H) : Prop := H1.2.2.2 = H.2.2.2 ∧ ∀ p k, p < 72 → H1.2.1 p k = H.2.1 p k ∧ H1.2.2.1 p k = H.2.2.1 p k
theorem zf_r (H : zp_H) : zf_72 H H := ⟨rfl, fun _ _ _ => ⟨rfl, rfl⟩⟩
theorem zf_t {H H1 H2 : zp_H} (h1 : zf_72 H H1) (h2 : zf_72 H1 H2) : zf_72 H H2 := ⟨h2.1.trans h1.1, fun p k hp => ⟨(h2.2 p k hp).1.trans (h1.2 p k hp).1, (h2.2 p k hp).2.trans (h1.2 p k hp).2⟩⟩
theorem zf_of {mods : List (Nat × Nat)} {am : List Nat} {H H1 : zp_H} (h : zk_Fr zg mods am H H1) (hm : mods.all (fun q => Nat.ble 72 q.1) = true) (ha : am.all (fun q => Nat.ble 72 q) = true) : zf_72 H H1 := by
  refine ⟨h.1, fun p k hp => ?_⟩
  have h1 : zk_inm mods p k = false := by
    cases hb : zk_inm mods p k with
    | false => rfl
    | true =>
      obtain ⟨q, q1, q2⟩ := List.any_eq_true.mp hb
      have q3 := za_beq (Bool.and_eq_true_iff.mp q2).1
      have q4 := za_ble (List.all_eq_true.mp hm q q1)
      omega
  have h2 : zk_ina am p = false := by
    cases hb : zk_ina am p with
    | false => rfl
    | true =>
      obtain ⟨q, q1, q2⟩ := List.any_eq_true.mp hb
      have q3 := za_beq q2
      have q4 := za_ble (List.all_eq_true.mp ha q q1)
      omega
  obtain ⟨g1, g2⟩ := h.2 p k h1 h2
  refine ⟨?_, g2⟩
  have hne : ¬ (p = 72 ∧ k = 100) := fun h9 => by have := h9.1; omega
  unfold zk_fv at g1
  rw [if_neg hne, if_neg hne] at g1
  exact Int32.toInt_inj.mp g1
theorem zf_I {H0 H : zp_H} {p k : Nat} {x : Int32} (h : zf_72 H0 H) (hp : Nat.ble 72 p = true) : zf_72 H0 (zw_I H p k x) := ⟨h.1, fun q j hq => ⟨(zp_u_ne (fun h9 => by have := za_ble hp; have := h9.1; omega)).trans (h.2 q j hq).1, (h.2 q j hq).2⟩⟩
theorem zf_J {H0 H : zp_H} {p k : Nat} {x : Int64} (h : zf_72 H0 H) (hp : Nat.ble 72 p = true) : zf_72 H0 (zw_J H p k x) := ⟨h.1, fun q j hq => ⟨(h.2 q j hq).1, (zp_u_ne (fun h9 => by have := za_ble hp; have := h9.1; omega)).trans (h.2 q j hq).2⟩⟩
theorem zf_c {H0 H : zp_H} {q1 q2 n : Nat} (h : zf_72 H0 H) (hp : Nat.ble 72 q2 = true) : zf_72 H0 (zc_k H q1 q2 n) := ⟨h.1, fun q j hq => ⟨(zc_ne (fun h9 => by have := za_ble hp; omega)).trans (h.2 q j hq).1, (h.2 q j hq).2⟩⟩
/-- behind a line -/
def zl_R2 (H H1 : zp_H) : Prop := zk_Bs zR zg zJ H1 ∧ zf_72 H H1 ∧ (H1.2.1 72 45).toInt ≤ 1402 ∧ (H1.2.1 72 22).toInt = (H.2.1 72 22).toInt ∧ ((H1.2.1 72 23).toInt = 0 → zl_J H1 ∧ ((H1.2.1 72 28).toInt ≠ 0 → (H1.2.1 72 45).toInt ≤ zx_phi H1 ∧ zx_phi H + 2 ≤ zx_phi H1))
theorem zl_lineC {L : Nat} {σ : Nat → Int32} {d : Nat} {H : zp_H} {lo hi : Int} (hct : zk_Ct L σ zR zg zJ (176, [.inr (some (some 73))], [(72, 23, 0, 0), (72, 100, lo, hi)], zr_e38.2.2.2.1, zr_e38.2.2.2.2.1, zr_e38.2.2.2.2.2.1, 12)) (hB : zk_Bs zR zg zJ H) (h0 : (H.2.1 72 23).toInt = 0) (hs : (H.2.1 72 28).toInt ≠ 0) (hg : lo ≤ zg H ∧ zg H ≤ hi) (hJ : zl_J H) (ht : (H.2.1 72 45).toInt ≤ zx_phi H) : ∃ H1, zp_Call L σ (d + 12) 176 [.inr (.inr (some 73))] H (.inl none, H1) ∧ zl_R2 H H1 := by
  obtain ⟨X, x1, x2, x3, o, o1, o2, o3, o4⟩ := hct (d + 12) (Nat.le_add_left 12 d) [.inr (.inr (some 73))] H ⟨rfl, trivial⟩ hB (fun f hf => by
    rcases List.mem_cons.mp hf with rfl | hf
    · exact ⟨by show (0 : Int) ≤ (H.2.1 72 23).toInt; omega, by show (H.2.1 72 23).toInt ≤ (0 : Int); omega⟩
    · rcases List.mem_cons.mp hf with rfl | hf
      · exact hg
      · exact absurd hf List.not_mem_nil)
  obtain ⟨X1, X2⟩ := X
  have x2 : zk_Bs zR zg zJ X2 := x2
  have e22 := zx_fe x3 22 rfl rfl rfl
  have e41 := zx_fe x3 41 rfl rfl rfl
  have e45 := zx_fe x3 45 rfl rfl rfl
  have e88 := zx_ae x3 88 (fun _ => rfl) rfl rfl
  have e90 := zx_ae x3 90 (fun _ => rfl) rfl rfl
  have pH := zx_phi_le hB
  have ps := zx_phi_s hs
  have e22 : (X2.2.1 72 22).toInt = (H.2.1 72 22).toInt := e22
  have e41 : (X2.2.1 72 41).toInt = (H.2.1 72 41).toInt := e41
  have e45 : (X2.2.1 72 45).toInt = (H.2.1 72 45).toInt := e45
  have hJ2 : zl_J X2 := by
    unfold zl_J
    rw [e41, e45, show X2.2.1 88 = H.2.1 88 from e88, show X2.2.1 90 = H.2.1 90 from e90]
    exact hJ
  have o1 : o ∈ [((Sum.inl none, [(72, 23, 1, 5)], []) : zk_Oc), (Sum.inl none, [(72, 23, 0, 0), (72, 27, 0, 700), (72, 28, 0, 0)], []), (Sum.inl none, [(72, 23, 0, 0), (72, 27, 0, 700), (72, 28, 1, 4)], [(72, 27, 1)])] := o1
  have key : X1 = .inl none ∧ ((X2.2.1 72 23).toInt = 0 → (X2.2.1 72 28).toInt ≠ 0 → (X2.2.1 72 45).toInt ≤ zx_phi X2 ∧ zx_phi H + 2 ≤ zx_phi X2) := by
    rcases List.mem_cons.mp o1 with rfl | o1
    · have a := o3 (72, 23, 1, 5) List.mem_cons_self
      have a : 1 ≤ (X2.2.1 72 23).toInt ∧ _ := a
      exact ⟨zk_rv_n o2, fun h9 => by omega⟩
    · rcases List.mem_cons.mp o1 with rfl | o1
      · have a := o3 (72, 28, 0, 0) (List.mem_cons_of_mem _ (List.mem_cons_of_mem _ List.mem_cons_self))
        have a : 0 ≤ (X2.2.1 72 28).toInt ∧ (X2.2.1 72 28).toInt ≤ 0 := a
        exact ⟨zk_rv_n o2, fun _ h9 => by omega⟩
      · rcases List.mem_cons.mp o1 with rfl | o1
        · have a := o4 (72, 27, 1) List.mem_cons_self
          have a : (H.2.1 72 27).toInt + 1 ≤ (X2.2.1 72 27).toInt := a
          refine ⟨zk_rv_n o2, fun _ h9 => ?_⟩
          have p2 := zx_phi_s h9
          omega
        · exact absurd o1 List.not_mem_nil
  obtain ⟨rfl, k2⟩ := key
  exact ⟨X2, x1, x2, zf_of x3 rfl rfl, by omega, e22, fun h9 => ⟨hJ2, k2 h9⟩⟩
theorem zl_line {L : Nat} {σ : Nat → Int32} {d : Nat} {H : zp_H} (hB : zk_Bs zR zg zJ H) (h0 : (H.2.1 72 23).toInt = 0) (hs : (H.2.1 72 28).toInt ≠ 0) (hJ : zl_J H) (ht : (H.2.1 72 45).toInt ≤ zx_phi H) : ∃ H1, zp_Call L σ (d + 12) 176 [.inr (.inr (some 73))] H (.inl none, H1) ∧ zl_R2 H H1 := by
  have g := zg_in H
  have g : -1 ≤ zg H ∧ zg H ≤ 20 := g
  by_cases h1 : zg H ≤ 15
  · exact zl_lineC (lo := -1) (hi := 15) zro_e38 hB h0 hs ⟨g.1, h1⟩ hJ ht
  · by_cases h2 : zg H = 16
    · obtain ⟨_, c1, H1, rfl, ⟨c2, c3, c4⟩, c5⟩ := zl_line16 (L := L) (σ := σ) (d := d + 2) zx_KWt hB h0 h2 hJ ht
      exact ⟨H1, c1, c2, zf_of c5 rfl rfl, c3, zx_fe c5 22 rfl rfl rfl, fun h9 => ⟨(c4 h9).1, fun _ => (c4 h9).2⟩⟩
    · exact zl_lineC (lo := 17) (hi := 20) zro_e39 hB h0 hs ⟨by omega, g.2⟩ hJ ht
