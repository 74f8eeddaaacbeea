/-! ===== both sides, with equal tapes: every call ===== -/
def yEq (H : zp_H) : Prop := H.2.1 0 10 = H.2.1 72 80
def yI (c t : Nat) (H : zp_H) : Prop := zI c t H ∧ yTp (20 * t) H H ∧ yEq H
theorem yEq_c {H H' : zp_H} (a0 : H'.2.1 0 10 = H.2.1 0 10) (b0 : H'.2.1 72 80 = H.2.1 72 80) (h : yEq H) : yEq H' := by
  unfold yEq
  rw [a0, b0]
  exact h
theorem yTp_c {n : Nat} {H K H' K' : zp_H} (h1 : ∀ k, H'.2.1 1 k = H.2.1 1 k) (h2 : ∀ k, K'.2.1 81 k = K.2.1 81 k) (h : yTp n H K) : yTp n H' K' := fun k hk => by
  rw [h1, h2]
  exact h k hk
def yI_fc (q : Nat × Nat) : Bool := !(Nat.beq q.1 0 && Nat.beq q.2 10)
def yI_fr (q : Nat × Nat) : Bool := !(Nat.beq q.1 72 && Nat.beq q.2 80)
def yI_mc (e : zk_T) : Bool := ((zI_mc e).and (e.2.2.2.1.all yI_fc)).and ((e.2.2.2.1.all (fun q => (Nat.beq q.1 1).not)).and (e.2.2.2.2.1.all (fun q => (Nat.beq q 1).not)))
theorem yI_C {L : Nat} {σ : Nat → Int32} {d c t : Nat} {H : zp_H} {e : zk_T} {as : List zp_V} (hI : yI c t H) (hct : zk_Ct L σ (zB_c c) zg zJc e) (hm : yI_mc e = true) (hd : e.2.2.2.2.2.2 ≤ d) (ha : za_F2 zk_pv e.2.1 as) (hp : e.2.2.1 = []) : ∃ X, zp_Call L σ d e.1 as H X ∧ yI c t X.2 ∧ ∃ o ∈ e.2.2.2.2.2.1, zk_rv o.1 X.1 := by
  obtain ⟨m0, m3⟩ := Bool.and_eq_true_iff.mp hm
  obtain ⟨m0, m5⟩ := Bool.and_eq_true_iff.mp m0
  obtain ⟨m3, m4⟩ := Bool.and_eq_true_iff.mp m3
  obtain ⟨m1, m2⟩ := Bool.and_eq_true_iff.mp m0
  obtain ⟨X, x1, x2, x3⟩ := zI_C hI.1 hct m0 hd ha hp
  obtain ⟨X', y1, y2, y3, -⟩ := hct d hd as H ha hI.1.1 (by rw [hp]; exact fun f hf => absurd hf List.not_mem_nil)
  obtain rfl := zp_Call_u x1 y1
  have hF := zI_frc y3 (zI_sub m1) (zI_sua m2)
  exact ⟨X, x1, ⟨x2, yTp_c (fun k => (zI_in y3 (zI_nm m3 rfl) (zI_na m4 rfl) (fun h9 => absurd h9.1 (by decide))).1) (fun k => (hF 81 k (by decide) (by decide) (fun h9 => absurd h9.1 (by decide))).1) hI.2.1, yEq_c (zI_in y3 (zI_nm m5 rfl) (zI_na m2 rfl) (by decide)).1 (hF 72 80 (by decide) (by decide) (by decide)).1 hI.2.2⟩, x3⟩
def yI_nr (mods : List (Nat × Nat)) (am : List Nat) : Bool := (mods.all yI_fr).and ((mods.all (fun q => (Nat.beq q.1 81).not)).and (am.all (fun q => (Nat.beq q 81).not)))
def yI_mr (e : zk_T) : Bool := (zI_mr e).and (yI_nr e.2.2.2.1 e.2.2.2.2.1)
theorem yI_afF {c t : Nat} {H H' : zp_H} {mods : List (Nat × Nat)} {am : List Nat} (hI : yI c t H) (hR : zk_Bs z0R zg zJ H') (hF : zk_Fr zg mods am H H') (hm : mods.all zI_pr = true) (ha : am.all zI_ar = true) (hn : yI_nr mods am = true) : yI c t H' := by
  obtain ⟨n0, n1⟩ := Bool.and_eq_true_iff.mp hn
  obtain ⟨n1, n2⟩ := Bool.and_eq_true_iff.mp n1
  have hf : zf_72 H H' := zf_of hF (List.all_eq_true.mpr (fun q hq => (Bool.and_eq_true_iff.mp (List.all_eq_true.mp hm q hq)).1)) (List.all_eq_true.mpr (fun q hq => by
    have h1 := za_blt (List.all_eq_true.mp ha q hq)
    exact Nat.ble_eq_true_of_le (by omega)))
  exact ⟨zI_afF hI.1 hR hF hm ha, yTp_c (fun k => (hf.2 1 k (by decide)).1) (fun k => (zI_in hF (zI_nm n1 rfl) (zI_na n2 rfl) (fun h9 => absurd h9.1 (by decide))).1) hI.2.1, yEq_c (hf.2 0 10 (by decide)).1 (zI_in hF (zI_nm n0 rfl) (zI_na ha rfl) (by decide)).1 hI.2.2⟩
theorem yI_D {L : Nat} {σ : Nat → Int32} {d c t : Nat} {H : zp_H} {e : zk_T} {as : List zp_V} (hI : yI c t H) (hct : zk_Ct L σ z0R zg zJ e) (hm : yI_mr e = true) (hd : e.2.2.2.2.2.2 ≤ d) (ha : za_F2 zk_pv e.2.1 as) (hp : e.2.2.1 = []) : ∃ X, zp_Call L σ d e.1 as H X ∧ yI c t X.2 ∧ ∃ o ∈ e.2.2.2.2.2.1, zk_rv o.1 X.1 := by
  obtain ⟨X, x1, x2, x3, o, o1, o2⟩ := hct d hd as H ha hI.1.2.1 (by rw [hp]; exact fun f hf => absurd hf List.not_mem_nil)
  obtain ⟨m0, m3⟩ := Bool.and_eq_true_iff.mp hm
  obtain ⟨m1, m2⟩ := Bool.and_eq_true_iff.mp m0
  exact ⟨X, x1, yI_afF hI x2 x3 m1 m2 m3, o, o1, o2.1⟩
theorem yI_C1 {L : Nat} {σ : Nat → Int32} {d c t j : Nat} {H : zp_H} {e : zk_T} {as : List zp_V} (hI : yI c t H) (hct : zk_Ct L σ (zB_c c) zg zJc e) (hm : yI_mc e = true) (hd : e.2.2.2.2.2.2 ≤ d) (ha : za_F2 zk_pv e.2.1 as) (hp : e.2.2.1 = []) (hj : e.1 = j) (hk : e.2.2.2.2.2.1.all (zI_k 1) = true) : ∃ H1 v, zp_Call L σ d j as H (.inl (some (.inl v)), H1) ∧ yI c t H1 := by
  obtain ⟨⟨x, H1⟩, x1, x2, x3⟩ := yI_C hI hct hm hd ha hp
  obtain ⟨v, rfl⟩ : ∃ v, x = .inl (some (.inl v)) := zI_v1 hk x3
  subst hj
  exact ⟨H1, v, x1, x2⟩
theorem yI_C0 {L : Nat} {σ : Nat → Int32} {d c t j : Nat} {H : zp_H} {e : zk_T} {as : List zp_V} (hI : yI c t H) (hct : zk_Ct L σ (zB_c c) zg zJc e) (hm : yI_mc e = true) (hd : e.2.2.2.2.2.2 ≤ d) (ha : za_F2 zk_pv e.2.1 as) (hp : e.2.2.1 = []) (hj : e.1 = j) (hk : e.2.2.2.2.2.1.all (zI_k 0) = true) : ∃ H1, zp_Call L σ d j as H (.inl none, H1) ∧ yI c t H1 := by
  obtain ⟨⟨x, H1⟩, x1, x2, x3⟩ := yI_C hI hct hm hd ha hp
  obtain rfl : x = .inl none := zI_v0 hk x3
  subst hj
  exact ⟨H1, x1, x2⟩
theorem yI_D1 {L : Nat} {σ : Nat → Int32} {d c t j : Nat} {H : zp_H} {e : zk_T} {as : List zp_V} (hI : yI c t H) (hct : zk_Ct L σ z0R zg zJ e) (hm : yI_mr e = true) (hd : e.2.2.2.2.2.2 ≤ d) (ha : za_F2 zk_pv e.2.1 as) (hp : e.2.2.1 = []) (hj : e.1 = j) (hk : e.2.2.2.2.2.1.all (zI_k 1) = true) : ∃ H1 v, zp_Call L σ d j as H (.inl (some (.inl v)), H1) ∧ yI c t H1 := by
  obtain ⟨⟨x, H1⟩, x1, x2, x3⟩ := yI_D hI hct hm hd ha hp
  obtain ⟨v, rfl⟩ : ∃ v, x = .inl (some (.inl v)) := zI_v1 hk x3
  subst hj
  exact ⟨H1, v, x1, x2⟩
theorem yI_D2 {L : Nat} {σ : Nat → Int32} {d c t j : Nat} {H : zp_H} {e : zk_T} {as : List zp_V} (hI : yI c t H) (hct : zk_Ct L σ z0R zg zJ e) (hm : yI_mr e = true) (hd : e.2.2.2.2.2.2 ≤ d) (ha : za_F2 zk_pv e.2.1 as) (hp : e.2.2.1 = []) (hj : e.1 = j) (hk : e.2.2.2.2.2.1.all (zI_k 2) = true) : ∃ (H1 : zp_H) (v : Int64), zp_Call L σ d j as H (.inl (some (.inr (.inl v))), H1) ∧ yI c t H1 := by
  obtain ⟨⟨x, H1⟩, x1, x2, x3⟩ := yI_D hI hct hm hd ha hp
  obtain ⟨v, rfl⟩ : ∃ v, x = .inl (some (.inr (.inl v))) := zI_v2 hk x3
  subst hj
  exact ⟨H1, v, x1, x2⟩
theorem yo_count {L : Nat} {σ : Nat → Int32} {d c t : Nat} {H : zp_H} {x1 : Int32} (hI : yI c t H) : ∃ H1 v, zp_Call L σ (d + 60) 100 [.inr (.inr (some 1)), .inl x1, .inr (.inr (some 105))] H (.inl (some (.inl v)), H1) ∧ yI c t H1 := by
  match c, hI, hI.1.2.2.2.2.2 with
  | 0, hI, _ => exact yI_C1 (e := ze_t0) hI (zc_t0 zB_W zh_all) (by decide +kernel) (by show 3 ≤ d + 60; omega) ⟨rfl, zl_full _, rfl, trivial⟩ rfl rfl rfl
  | 1, hI, _ => exact yI_C1 (e := ze_t24) hI (zc_t24 zB_W zh_all) (by decide +kernel) (by show 3 ≤ d + 60; omega) ⟨rfl, zl_full _, rfl, trivial⟩ rfl rfl rfl
  | 2, hI, _ => exact yI_C1 (e := ze_t48) hI (zc_t48 zB_W zh_all) (by decide +kernel) (by show 3 ≤ d + 60; omega) ⟨rfl, zl_full _, rfl, trivial⟩ rfl rfl rfl
  | 3, hI, _ => exact yI_C1 (e := ze_t72) hI (zc_t72 zB_W zh_all) (by decide +kernel) (by show 3 ≤ d + 60; omega) ⟨rfl, zl_full _, rfl, trivial⟩ rfl rfl rfl

theorem yo_cell {L : Nat} {σ : Nat → Int32} {d c t : Nat} {H : zp_H} {x1 x2 : Int32} (hI : yI c t H) : ∃ H1 v, zp_Call L σ (d + 60) 102 [.inr (.inr (some 1)), .inl x1, .inl x2, .inr (.inr (some 105))] H (.inl (some (.inl v)), H1) ∧ yI c t H1 := by
  match c, hI, hI.1.2.2.2.2.2 with
  | 0, hI, _ => exact yI_C1 (e := ze_t1) hI (zc_t1 zB_W zh_all) (by decide +kernel) (by show 3 ≤ d + 60; omega) ⟨rfl, zl_full _, zl_full _, rfl, trivial⟩ rfl rfl rfl
  | 1, hI, _ => exact yI_C1 (e := ze_t25) hI (zc_t25 zB_W zh_all) (by decide +kernel) (by show 3 ≤ d + 60; omega) ⟨rfl, zl_full _, zl_full _, rfl, trivial⟩ rfl rfl rfl
  | 2, hI, _ => exact yI_C1 (e := ze_t49) hI (zc_t49 zB_W zh_all) (by decide +kernel) (by show 3 ≤ d + 60; omega) ⟨rfl, zl_full _, zl_full _, rfl, trivial⟩ rfl rfl rfl
  | 3, hI, _ => exact yI_C1 (e := ze_t73) hI (zc_t73 zB_W zh_all) (by decide +kernel) (by show 3 ≤ d + 60; omega) ⟨rfl, zl_full _, zl_full _, rfl, trivial⟩ rfl rfl rfl

theorem yo_slate {L : Nat} {σ : Nat → Int32} {d c t : Nat} {H : zp_H} {x1 x2 : Int32} (hI : yI c t H) : ∃ H1 v, zp_Call L σ (d + 60) 106 [.inr (.inr (some 1)), .inl x1, .inl x2, .inr (.inr (some 105))] H (.inl (some (.inl v)), H1) ∧ yI c t H1 := by
  match c, hI, hI.1.2.2.2.2.2 with
  | 0, hI, _ => exact yI_C1 (e := ze_t2) hI (zc_t2 zB_W zh_all) (by decide +kernel) (by show 3 ≤ d + 60; omega) ⟨rfl, zl_full _, zl_full _, rfl, trivial⟩ rfl rfl rfl
  | 1, hI, _ => exact yI_C1 (e := ze_t26) hI (zc_t26 zB_W zh_all) (by decide +kernel) (by show 3 ≤ d + 60; omega) ⟨rfl, zl_full _, zl_full _, rfl, trivial⟩ rfl rfl rfl
  | 2, hI, _ => exact yI_C1 (e := ze_t50) hI (zc_t50 zB_W zh_all) (by decide +kernel) (by show 3 ≤ d + 60; omega) ⟨rfl, zl_full _, zl_full _, rfl, trivial⟩ rfl rfl rfl
  | 3, hI, _ => exact yI_C1 (e := ze_t74) hI (zc_t74 zB_W zh_all) (by decide +kernel) (by show 3 ≤ d + 60; omega) ⟨rfl, zl_full _, zl_full _, rfl, trivial⟩ rfl rfl rfl

theorem yo_mark {L : Nat} {σ : Nat → Int32} {d c t : Nat} {H : zp_H} {x1 x2 x3 : Int32} (hI : yI c t H) : ∃ H1 v, zp_Call L σ (d + 60) 109 [.inr (.inr (some 1)), .inl x1, .inl x2, .inl x3, .inr (.inr (some 105))] H (.inl (some (.inl v)), H1) ∧ yI c t H1 := by
  match c, hI, hI.1.2.2.2.2.2 with
  | 0, hI, _ => exact yI_C1 (e := ze_t3) hI (zc_t3 zB_W zh_all) (by decide +kernel) (by show 3 ≤ d + 60; omega) ⟨rfl, zl_full _, zl_full _, zl_full _, rfl, trivial⟩ rfl rfl rfl
  | 1, hI, _ => exact yI_C1 (e := ze_t27) hI (zc_t27 zB_W zh_all) (by decide +kernel) (by show 3 ≤ d + 60; omega) ⟨rfl, zl_full _, zl_full _, zl_full _, rfl, trivial⟩ rfl rfl rfl
  | 2, hI, _ => exact yI_C1 (e := ze_t51) hI (zc_t51 zB_W zh_all) (by decide +kernel) (by show 3 ≤ d + 60; omega) ⟨rfl, zl_full _, zl_full _, zl_full _, rfl, trivial⟩ rfl rfl rfl
  | 3, hI, _ => exact yI_C1 (e := ze_t75) hI (zc_t75 zB_W zh_all) (by decide +kernel) (by show 3 ≤ d + 60; omega) ⟨rfl, zl_full _, zl_full _, zl_full _, rfl, trivial⟩ rfl rfl rfl

theorem yo_write {L : Nat} {σ : Nat → Int32} {d c t : Nat} {H : zp_H} {x1 x2 x3 : Int32} (hI : yI c t H) : ∃ H1 v, zp_Call L σ (d + 60) 111 [.inr (.inr (some 1)), .inl x1, .inl x2, .inl x3, .inr (.inr (some 105))] H (.inl (some (.inl v)), H1) ∧ yI c t H1 := by
  match c, hI, hI.1.2.2.2.2.2 with
  | 0, hI, _ => exact yI_C1 (e := ze_t4) hI (zc_t4 zB_W zh_all) (by decide +kernel) (by show 3 ≤ d + 60; omega) ⟨rfl, zl_full _, zl_full _, zl_full _, rfl, trivial⟩ rfl rfl rfl
  | 1, hI, _ => exact yI_C1 (e := ze_t28) hI (zc_t28 zB_W zh_all) (by decide +kernel) (by show 3 ≤ d + 60; omega) ⟨rfl, zl_full _, zl_full _, zl_full _, rfl, trivial⟩ rfl rfl rfl
  | 2, hI, _ => exact yI_C1 (e := ze_t52) hI (zc_t52 zB_W zh_all) (by decide +kernel) (by show 3 ≤ d + 60; omega) ⟨rfl, zl_full _, zl_full _, zl_full _, rfl, trivial⟩ rfl rfl rfl
  | 3, hI, _ => exact yI_C1 (e := ze_t76) hI (zc_t76 zB_W zh_all) (by decide +kernel) (by show 3 ≤ d + 60; omega) ⟨rfl, zl_full _, zl_full _, zl_full _, rfl, trivial⟩ rfl rfl rfl

theorem yo_rub {L : Nat} {σ : Nat → Int32} {d c t : Nat} {H : zp_H} {x1 x2 x3 : Int32} (hI : yI c t H) : ∃ H1 v, zp_Call L σ (d + 60) 114 [.inr (.inr (some 1)), .inl x1, .inl x2, .inl x3, .inr (.inr (some 105))] H (.inl (some (.inl v)), H1) ∧ yI c t H1 := by
  match c, hI, hI.1.2.2.2.2.2 with
  | 0, hI, _ => exact yI_C1 (e := ze_t5) hI (zc_t5 zB_W zh_all) (by decide +kernel) (by show 3 ≤ d + 60; omega) ⟨rfl, zl_full _, zl_full _, zl_full _, rfl, trivial⟩ rfl rfl rfl
  | 1, hI, _ => exact yI_C1 (e := ze_t29) hI (zc_t29 zB_W zh_all) (by decide +kernel) (by show 3 ≤ d + 60; omega) ⟨rfl, zl_full _, zl_full _, zl_full _, rfl, trivial⟩ rfl rfl rfl
  | 2, hI, _ => exact yI_C1 (e := ze_t53) hI (zc_t53 zB_W zh_all) (by decide +kernel) (by show 3 ≤ d + 60; omega) ⟨rfl, zl_full _, zl_full _, zl_full _, rfl, trivial⟩ rfl rfl rfl
  | 3, hI, _ => exact yI_C1 (e := ze_t77) hI (zc_t77 zB_W zh_all) (by decide +kernel) (by show 3 ≤ d + 60; omega) ⟨rfl, zl_full _, zl_full _, zl_full _, rfl, trivial⟩ rfl rfl rfl

theorem yo_voyage {L : Nat} {σ : Nat → Int32} {d c t : Nat} {H : zp_H} {x1 x2 : Int32} (hI : yI c t H) : ∃ H1 v, zp_Call L σ (d + 60) 118 [.inr (.inr (some 1)), .inl x1, .inl x2, .inr (.inr (some 105))] H (.inl (some (.inl v)), H1) ∧ yI c t H1 := by
  match c, hI, hI.1.2.2.2.2.2 with
  | 0, hI, _ => exact yI_C1 (e := ze_t6) hI (zc_t6 zB_W zh_all) (by decide +kernel) (by show 7 ≤ d + 60; omega) ⟨rfl, zl_full _, zl_full _, rfl, trivial⟩ rfl rfl rfl
  | 1, hI, _ => exact yI_C1 (e := ze_t30) hI (zc_t30 zB_W zh_all) (by decide +kernel) (by show 7 ≤ d + 60; omega) ⟨rfl, zl_full _, zl_full _, rfl, trivial⟩ rfl rfl rfl
  | 2, hI, _ => exact yI_C1 (e := ze_t54) hI (zc_t54 zB_W zh_all) (by decide +kernel) (by show 7 ≤ d + 60; omega) ⟨rfl, zl_full _, zl_full _, rfl, trivial⟩ rfl rfl rfl
  | 3, hI, _ => exact yI_C1 (e := ze_t78) hI (zc_t78 zB_W zh_all) (by decide +kernel) (by show 7 ≤ d + 60; omega) ⟨rfl, zl_full _, zl_full _, rfl, trivial⟩ rfl rfl rfl

theorem yo_explained {L : Nat} {σ : Nat → Int32} {d c t : Nat} {H : zp_H} {x1 : Int32} (hI : yI c t H) : ∃ H1 v, zp_Call L σ (d + 60) 120 [.inr (.inr (some 1)), .inl x1, .inr (.inr (some 105))] H (.inl (some (.inl v)), H1) ∧ yI c t H1 := by
  match c, hI, hI.1.2.2.2.2.2 with
  | 0, hI, _ => exact yI_C1 (e := ze_t7) hI (zc_t7 zB_W zh_all) (by decide +kernel) (by show 7 ≤ d + 60; omega) ⟨rfl, zl_full _, rfl, trivial⟩ rfl rfl rfl
  | 1, hI, _ => exact yI_C1 (e := ze_t31) hI (zc_t31 zB_W zh_all) (by decide +kernel) (by show 7 ≤ d + 60; omega) ⟨rfl, zl_full _, rfl, trivial⟩ rfl rfl rfl
  | 2, hI, _ => exact yI_C1 (e := ze_t55) hI (zc_t55 zB_W zh_all) (by decide +kernel) (by show 7 ≤ d + 60; omega) ⟨rfl, zl_full _, rfl, trivial⟩ rfl rfl rfl
  | 3, hI, _ => exact yI_C1 (e := ze_t79) hI (zc_t79 zB_W zh_all) (by decide +kernel) (by show 7 ≤ d + 60; omega) ⟨rfl, zl_full _, rfl, trivial⟩ rfl rfl rfl

theorem yo_where {L : Nat} {σ : Nat → Int32} {d c t : Nat} {H : zp_H} {x1 x2 : Int32} (hI : yI c t H) : ∃ H1 v, zp_Call L σ (d + 60) 122 [.inr (.inr (some 1)), .inl x1, .inl x2, .inr (.inr (some 105))] H (.inl (some (.inl v)), H1) ∧ yI c t H1 := by
  match c, hI, hI.1.2.2.2.2.2 with
  | 0, hI, _ => exact yI_C1 (e := ze_t8) hI (zc_t8 zB_W zh_all) (by decide +kernel) (by show 8 ≤ d + 60; omega) ⟨rfl, zl_full _, zl_full _, rfl, trivial⟩ rfl rfl rfl
  | 1, hI, _ => exact yI_C1 (e := ze_t32) hI (zc_t32 zB_W zh_all) (by decide +kernel) (by show 8 ≤ d + 60; omega) ⟨rfl, zl_full _, zl_full _, rfl, trivial⟩ rfl rfl rfl
  | 2, hI, _ => exact yI_C1 (e := ze_t56) hI (zc_t56 zB_W zh_all) (by decide +kernel) (by show 8 ≤ d + 60; omega) ⟨rfl, zl_full _, zl_full _, rfl, trivial⟩ rfl rfl rfl
  | 3, hI, _ => exact yI_C1 (e := ze_t80) hI (zc_t80 zB_W zh_all) (by decide +kernel) (by show 8 ≤ d + 60; omega) ⟨rfl, zl_full _, zl_full _, rfl, trivial⟩ rfl rfl rfl

theorem yo_pilot {L : Nat} {σ : Nat → Int32} {d c t : Nat} {H : zp_H} {x1 x2 : Int32} (hI : yI c t H) : ∃ H1 v, zp_Call L σ (d + 60) 132 [.inr (.inr (some 1)), .inl x1, .inl x2, .inr (.inr (some 105))] H (.inl (some (.inl v)), H1) ∧ yI c t H1 := by
  match c, hI, hI.1.2.2.2.2.2 with
  | 0, hI, _ => exact yI_C1 (e := ze_t9) hI (zc_t9 zB_W zh_all) (by decide +kernel) (by show 3 ≤ d + 60; omega) ⟨rfl, zl_full _, zl_full _, rfl, trivial⟩ rfl rfl rfl
  | 1, hI, _ => exact yI_C1 (e := ze_t33) hI (zc_t33 zB_W zh_all) (by decide +kernel) (by show 3 ≤ d + 60; omega) ⟨rfl, zl_full _, zl_full _, rfl, trivial⟩ rfl rfl rfl
  | 2, hI, _ => exact yI_C1 (e := ze_t57) hI (zc_t57 zB_W zh_all) (by decide +kernel) (by show 3 ≤ d + 60; omega) ⟨rfl, zl_full _, zl_full _, rfl, trivial⟩ rfl rfl rfl
  | 3, hI, _ => exact yI_C1 (e := ze_t81) hI (zc_t81 zB_W zh_all) (by decide +kernel) (by show 3 ≤ d + 60; omega) ⟨rfl, zl_full _, zl_full _, rfl, trivial⟩ rfl rfl rfl

theorem yo_sails {L : Nat} {σ : Nat → Int32} {d c t : Nat} {H : zp_H} {x1 x2 x3 : Int32} (hI : yI c t H) : ∃ H1 v, zp_Call L σ (d + 60) 135 [.inr (.inr (some 1)), .inl x1, .inl x2, .inl x3, .inr (.inr (some 105))] H (.inl (some (.inl v)), H1) ∧ yI c t H1 := by
  match c, hI, hI.1.2.2.2.2.2 with
  | 0, hI, _ => exact yI_C1 (e := ze_t10) hI (zc_t10 zB_W zh_all) (by decide +kernel) (by show 8 ≤ d + 60; omega) ⟨rfl, zl_full _, zl_full _, zl_full _, rfl, trivial⟩ rfl rfl rfl
  | 1, hI, _ => exact yI_C1 (e := ze_t34) hI (zc_t34 zB_W zh_all) (by decide +kernel) (by show 8 ≤ d + 60; omega) ⟨rfl, zl_full _, zl_full _, zl_full _, rfl, trivial⟩ rfl rfl rfl
  | 2, hI, _ => exact yI_C1 (e := ze_t58) hI (zc_t58 zB_W zh_all) (by decide +kernel) (by show 8 ≤ d + 60; omega) ⟨rfl, zl_full _, zl_full _, zl_full _, rfl, trivial⟩ rfl rfl rfl
  | 3, hI, _ => exact yI_C1 (e := ze_t82) hI (zc_t82 zB_W zh_all) (by decide +kernel) (by show 8 ≤ d + 60; omega) ⟨rfl, zl_full _, zl_full _, zl_full _, rfl, trivial⟩ rfl rfl rfl

theorem yo_study {L : Nat} {σ : Nat → Int32} {d c t : Nat} {H : zp_H} {x1 : Int32} (hI : yI c t H) : ∃ H1 v, zp_Call L σ (d + 60) 137 [.inr (.inr (some 1)), .inl x1, .inr (.inr (some 105))] H (.inl (some (.inl v)), H1) ∧ yI c t H1 := by
  match c, hI, hI.1.2.2.2.2.2 with
  | 0, hI, _ => exact yI_C1 (e := ze_t11) hI (zc_t11 zB_W zh_all) (by decide +kernel) (by show 8 ≤ d + 60; omega) ⟨rfl, zl_full _, rfl, trivial⟩ rfl rfl rfl
  | 1, hI, _ => exact yI_C1 (e := ze_t35) hI (zc_t35 zB_W zh_all) (by decide +kernel) (by show 8 ≤ d + 60; omega) ⟨rfl, zl_full _, rfl, trivial⟩ rfl rfl rfl
  | 2, hI, _ => exact yI_C1 (e := ze_t59) hI (zc_t59 zB_W zh_all) (by decide +kernel) (by show 8 ≤ d + 60; omega) ⟨rfl, zl_full _, rfl, trivial⟩ rfl rfl rfl
  | 3, hI, _ => exact yI_C1 (e := ze_t83) hI (zc_t83 zB_W zh_all) (by decide +kernel) (by show 8 ≤ d + 60; omega) ⟨rfl, zl_full _, rfl, trivial⟩ rfl rfl rfl

theorem yo_studied {L : Nat} {σ : Nat → Int32} {d c t : Nat} {H : zp_H} {x1 : Int32} (hI : yI c t H) : ∃ H1 v, zp_Call L σ (d + 60) 150 [.inr (.inr (some 1)), .inl x1, .inr (.inr (some 105))] H (.inl (some (.inl v)), H1) ∧ yI c t H1 := by
  match c, hI, hI.1.2.2.2.2.2 with
  | 0, hI, _ => exact yI_C1 (e := ze_t12) hI (zc_t12 zB_W zh_all) (by decide +kernel) (by show 2 ≤ d + 60; omega) ⟨rfl, zl_full _, rfl, trivial⟩ rfl rfl rfl
  | 1, hI, _ => exact yI_C1 (e := ze_t36) hI (zc_t36 zB_W zh_all) (by decide +kernel) (by show 2 ≤ d + 60; omega) ⟨rfl, zl_full _, rfl, trivial⟩ rfl rfl rfl
  | 2, hI, _ => exact yI_C1 (e := ze_t60) hI (zc_t60 zB_W zh_all) (by decide +kernel) (by show 2 ≤ d + 60; omega) ⟨rfl, zl_full _, rfl, trivial⟩ rfl rfl rfl
  | 3, hI, _ => exact yI_C1 (e := ze_t84) hI (zc_t84 zB_W zh_all) (by decide +kernel) (by show 2 ≤ d + 60; omega) ⟨rfl, zl_full _, rfl, trivial⟩ rfl rfl rfl

theorem yo_dive {L : Nat} {σ : Nat → Int32} {d c t : Nat} {H : zp_H} {x1 x2 : Int32} (hI : yI c t H) : ∃ H1 v, zp_Call L σ (d + 60) 152 [.inr (.inr (some 1)), .inl x1, .inl x2, .inr (.inr (some 105))] H (.inl (some (.inl v)), H1) ∧ yI c t H1 := by
  match c, hI, hI.1.2.2.2.2.2 with
  | 0, hI, _ => exact yI_C1 (e := ze_t14) hI (zc_t14 zB_W zh_all) (by decide +kernel) (by show 8 ≤ d + 60; omega) ⟨rfl, zl_full _, zl_full _, rfl, trivial⟩ rfl rfl rfl
  | 1, hI, _ => exact yI_C1 (e := ze_t38) hI (zc_t38 zB_W zh_all) (by decide +kernel) (by show 8 ≤ d + 60; omega) ⟨rfl, zl_full _, zl_full _, rfl, trivial⟩ rfl rfl rfl
  | 2, hI, _ => exact yI_C1 (e := ze_t62) hI (zc_t62 zB_W zh_all) (by decide +kernel) (by show 8 ≤ d + 60; omega) ⟨rfl, zl_full _, zl_full _, rfl, trivial⟩ rfl rfl rfl
  | 3, hI, _ => exact yI_C1 (e := ze_t86) hI (zc_t86 zB_W zh_all) (by decide +kernel) (by show 8 ≤ d + 60; omega) ⟨rfl, zl_full _, zl_full _, rfl, trivial⟩ rfl rfl rfl

theorem yo_chart {L : Nat} {σ : Nat → Int32} {d c t : Nat} {H : zp_H} {x1 : Int32} (hI : yI c t H) : ∃ H1 v, zp_Call L σ (d + 60) 155 [.inr (.inr (some 1)), .inl x1, .inr (.inr (some 105))] H (.inl (some (.inl v)), H1) ∧ yI c t H1 := by
  match c, hI, hI.1.2.2.2.2.2 with
  | 0, hI, _ => exact yI_C1 (e := ze_t16) hI (zc_t16 zB_W zh_all) (by decide +kernel) (by show 7 ≤ d + 60; omega) ⟨rfl, zl_full _, rfl, trivial⟩ rfl rfl rfl
  | 1, hI, _ => exact yI_C1 (e := ze_t40) hI (zc_t40 zB_W zh_all) (by decide +kernel) (by show 7 ≤ d + 60; omega) ⟨rfl, zl_full _, rfl, trivial⟩ rfl rfl rfl
  | 2, hI, _ => exact yI_C1 (e := ze_t64) hI (zc_t64 zB_W zh_all) (by decide +kernel) (by show 7 ≤ d + 60; omega) ⟨rfl, zl_full _, rfl, trivial⟩ rfl rfl rfl
  | 3, hI, _ => exact yI_C1 (e := ze_t88) hI (zc_t88 zB_W zh_all) (by decide +kernel) (by show 7 ≤ d + 60; omega) ⟨rfl, zl_full _, rfl, trivial⟩ rfl rfl rfl

theorem yo_hand {L : Nat} {σ : Nat → Int32} {d c t : Nat} {H : zp_H} {x1 x2 : Int32} (hI : yI c t H) : ∃ H1 v, zp_Call L σ (d + 60) 157 [.inr (.inr (some 1)), .inl x1, .inl x2, .inr (.inr (some 105))] H (.inl (some (.inl v)), H1) ∧ yI c t H1 := by
  match c, hI, hI.1.2.2.2.2.2 with
  | 0, hI, _ => exact yI_C1 (e := ze_t17) hI (zc_t17 zB_W zh_all) (by decide +kernel) (by show 5 ≤ d + 60; omega) ⟨rfl, zl_full _, zl_full _, rfl, trivial⟩ rfl rfl rfl
  | 1, hI, _ => exact yI_C1 (e := ze_t41) hI (zc_t41 zB_W zh_all) (by decide +kernel) (by show 5 ≤ d + 60; omega) ⟨rfl, zl_full _, zl_full _, rfl, trivial⟩ rfl rfl rfl
  | 2, hI, _ => exact yI_C1 (e := ze_t65) hI (zc_t65 zB_W zh_all) (by decide +kernel) (by show 5 ≤ d + 60; omega) ⟨rfl, zl_full _, zl_full _, rfl, trivial⟩ rfl rfl rfl
  | 3, hI, _ => exact yI_C1 (e := ze_t89) hI (zc_t89 zB_W zh_all) (by decide +kernel) (by show 5 ≤ d + 60; omega) ⟨rfl, zl_full _, zl_full _, rfl, trivial⟩ rfl rfl rfl

theorem yo_copied {L : Nat} {σ : Nat → Int32} {d c t : Nat} {H : zp_H} {x1 x2 x3 : Int32} (hI : yI c t H) : ∃ H1 v, zp_Call L σ (d + 60) 162 [.inr (.inr (some 1)), .inl x1, .inl x2, .inl x3, .inr (.inr (some 105))] H (.inl (some (.inl v)), H1) ∧ yI c t H1 := by
  match c, hI, hI.1.2.2.2.2.2 with
  | 0, hI, _ => exact yI_C1 (e := ze_t18) hI (zc_t18 zB_W zh_all) (by decide +kernel) (by show 5 ≤ d + 60; omega) ⟨rfl, zl_full _, zl_full _, zl_full _, rfl, trivial⟩ rfl rfl rfl
  | 1, hI, _ => exact yI_C1 (e := ze_t42) hI (zc_t42 zB_W zh_all) (by decide +kernel) (by show 5 ≤ d + 60; omega) ⟨rfl, zl_full _, zl_full _, zl_full _, rfl, trivial⟩ rfl rfl rfl
  | 2, hI, _ => exact yI_C1 (e := ze_t66) hI (zc_t66 zB_W zh_all) (by decide +kernel) (by show 5 ≤ d + 60; omega) ⟨rfl, zl_full _, zl_full _, zl_full _, rfl, trivial⟩ rfl rfl rfl
  | 3, hI, _ => exact yI_C1 (e := ze_t90) hI (zc_t90 zB_W zh_all) (by decide +kernel) (by show 5 ≤ d + 60; omega) ⟨rfl, zl_full _, zl_full _, zl_full _, rfl, trivial⟩ rfl rfl rfl

theorem yo_fault {L : Nat} {σ : Nat → Int32} {d c t : Nat} {H : zp_H} (hI : yI c t H) : ∃ H1 v, zp_Call L σ (d + 60) 19 [.inr (.inr (some 1))] H (.inl (some (.inl v)), H1) ∧ yI c t H1 := by
  match c, hI, hI.1.2.2.2.2.2 with
  | 0, hI, _ => exact yI_C1 (e := ze_t19) hI (zc_t19 zB_W zh_all) (by decide +kernel) (by show 1 ≤ d + 60; omega) ⟨rfl, trivial⟩ rfl rfl rfl
  | 1, hI, _ => exact yI_C1 (e := ze_t43) hI (zc_t43 zB_W zh_all) (by decide +kernel) (by show 1 ≤ d + 60; omega) ⟨rfl, trivial⟩ rfl rfl rfl
  | 2, hI, _ => exact yI_C1 (e := ze_t67) hI (zc_t67 zB_W zh_all) (by decide +kernel) (by show 1 ≤ d + 60; omega) ⟨rfl, trivial⟩ rfl rfl rfl
  | 3, hI, _ => exact yI_C1 (e := ze_t91) hI (zc_t91 zB_W zh_all) (by decide +kernel) (by show 1 ≤ d + 60; omega) ⟨rfl, trivial⟩ rfl rfl rfl

theorem yo_undo {L : Nat} {σ : Nat → Int32} {d c t : Nat} {H : zp_H} (hI : yI c t H) : ∃ H1 v, zp_Call L σ (d + 60) 20 [.inr (.inr (some 1))] H (.inl (some (.inl v)), H1) ∧ yI c t H1 := by
  match c, hI, hI.1.2.2.2.2.2 with
  | 0, hI, _ => exact yI_C1 (e := ze_t20) hI (zc_t20 zB_W zh_all) (by decide +kernel) (by show 2 ≤ d + 60; omega) ⟨rfl, trivial⟩ rfl rfl rfl
  | 1, hI, _ => exact yI_C1 (e := ze_t44) hI (zc_t44 zB_W zh_all) (by decide +kernel) (by show 2 ≤ d + 60; omega) ⟨rfl, trivial⟩ rfl rfl rfl
  | 2, hI, _ => exact yI_C1 (e := ze_t68) hI (zc_t68 zB_W zh_all) (by decide +kernel) (by show 2 ≤ d + 60; omega) ⟨rfl, trivial⟩ rfl rfl rfl
  | 3, hI, _ => exact yI_C1 (e := ze_t92) hI (zc_t92 zB_W zh_all) (by decide +kernel) (by show 2 ≤ d + 60; omega) ⟨rfl, trivial⟩ rfl rfl rfl

theorem yo_exam {L : Nat} {σ : Nat → Int32} {d c t : Nat} {H : zp_H} (hI : yI c t H) : ∃ H1 v, zp_Call L σ (d + 60) 22 [.inr (.inr (some 1))] H (.inl (some (.inl v)), H1) ∧ yI c t H1 := by
  match c, hI, hI.1.2.2.2.2.2 with
  | 0, hI, _ => exact yI_C1 (e := ze_t21) hI (zc_t21 zB_W zh_all) (by decide +kernel) (by show 7 ≤ d + 60; omega) ⟨rfl, trivial⟩ rfl rfl rfl
  | 1, hI, _ => exact yI_C1 (e := ze_t45) hI (zc_t45 zB_W zh_all) (by decide +kernel) (by show 7 ≤ d + 60; omega) ⟨rfl, trivial⟩ rfl rfl rfl
  | 2, hI, _ => exact yI_C1 (e := ze_t69) hI (zc_t69 zB_W zh_all) (by decide +kernel) (by show 7 ≤ d + 60; omega) ⟨rfl, trivial⟩ rfl rfl rfl
  | 3, hI, _ => exact yI_C1 (e := ze_t93) hI (zc_t93 zB_W zh_all) (by decide +kernel) (by show 7 ≤ d + 60; omega) ⟨rfl, trivial⟩ rfl rfl rfl

theorem yo_restore {L : Nat} {σ : Nat → Int32} {d c t : Nat} {H : zp_H} (hI : yI c t H) : ∃ H1 v, zp_Call L σ (d + 60) 47 [.inr (.inr (some 1))] H (.inl (some (.inl v)), H1) ∧ yI c t H1 := by
  match c, hI, hI.1.2.2.2.2.2 with
  | 0, hI, _ => exact yI_C1 (e := ze_t23) hI (zc_t23 zB_W zh_all) (by decide +kernel) (by show 2 ≤ d + 60; omega) ⟨rfl, trivial⟩ rfl rfl rfl
  | 1, hI, _ => exact yI_C1 (e := ze_t47) hI (zc_t47 zB_W zh_all) (by decide +kernel) (by show 2 ≤ d + 60; omega) ⟨rfl, trivial⟩ rfl rfl rfl
  | 2, hI, _ => exact yI_C1 (e := ze_t71) hI (zc_t71 zB_W zh_all) (by decide +kernel) (by show 2 ≤ d + 60; omega) ⟨rfl, trivial⟩ rfl rfl rfl
  | 3, hI, _ => exact yI_C1 (e := ze_t95) hI (zc_t95 zB_W zh_all) (by decide +kernel) (by show 2 ≤ d + 60; omega) ⟨rfl, trivial⟩ rfl rfl rfl

theorem yu_fault {L : Nat} {σ : Nat → Int32} {d c t : Nat} {H : zp_H} (hI : yI c t H) : ∃ H1 v, zp_Call L σ (d + 60) 205 [.inr (.inr (some 73))] H (.inl (some (.inl v)), H1) ∧ yI c t H1 :=
  yI_D1 (e := zr_e1) hI (z0rc_e1 z0R_W z0r_all) (by decide +kernel) (by show 1 ≤ d + 60; omega) ⟨rfl, trivial⟩ rfl rfl rfl

theorem yu_count {L : Nat} {σ : Nat → Int32} {d c t : Nat} {H : zp_H} {x1 : Int32} (hI : yI c t H) : ∃ H1 v, zp_Call L σ (d + 60) 206 [.inr (.inr (some 73)), .inl x1] H (.inl (some (.inl v)), H1) ∧ yI c t H1 :=
  yI_D1 (e := zr_e2) hI (z0rc_e2 z0R_W z0r_all) (by decide +kernel) (by show 2 ≤ d + 60; omega) ⟨rfl, zl_full _, trivial⟩ rfl rfl rfl

theorem yu_cell {L : Nat} {σ : Nat → Int32} {d c t : Nat} {H : zp_H} {x1 x2 : Int32} (hI : yI c t H) : ∃ H1 v, zp_Call L σ (d + 60) 207 [.inr (.inr (some 73)), .inl x1, .inl x2] H (.inl (some (.inl v)), H1) ∧ yI c t H1 :=
  yI_D1 (e := zr_e3) hI (z0rc_e3 z0R_W z0r_all) (by decide +kernel) (by show 3 ≤ d + 60; omega) ⟨rfl, zl_full _, zl_full _, trivial⟩ rfl rfl rfl

theorem yu_slate {L : Nat} {σ : Nat → Int32} {d c t : Nat} {H : zp_H} {x1 x2 : Int32} (hI : yI c t H) : ∃ H1 v, zp_Call L σ (d + 60) 209 [.inr (.inr (some 73)), .inl x1, .inl x2] H (.inl (some (.inl v)), H1) ∧ yI c t H1 :=
  yI_D1 (e := zr_e4) hI (z0rc_e4 z0R_W z0r_all) (by decide +kernel) (by show 3 ≤ d + 60; omega) ⟨rfl, zl_full _, zl_full _, trivial⟩ rfl rfl rfl

theorem yu_mark {L : Nat} {σ : Nat → Int32} {d c t : Nat} {H : zp_H} {x1 x2 x3 : Int32} (hI : yI c t H) : ∃ H1 v, zp_Call L σ (d + 60) 211 [.inr (.inr (some 73)), .inl x1, .inl x2, .inl x3] H (.inl (some (.inl v)), H1) ∧ yI c t H1 :=
  yI_D1 (e := zr_e5) hI (z0rc_e5 z0R_W z0r_all) (by decide +kernel) (by show 3 ≤ d + 60; omega) ⟨rfl, zl_full _, zl_full _, zl_full _, trivial⟩ rfl rfl rfl

theorem yu_voyage {L : Nat} {σ : Nat → Int32} {d c t : Nat} {H : zp_H} {x1 x2 : Int32} (hI : yI c t H) : ∃ H1 v, zp_Call L σ (d + 60) 219 [.inr (.inr (some 73)), .inl x1, .inl x2] H (.inl (some (.inl v)), H1) ∧ yI c t H1 :=
  yI_D1 (e := zr_e9) hI (z0rc_e9 z0R_W z0r_all) (by decide +kernel) (by show 4 ≤ d + 60; omega) ⟨rfl, zl_full _, zl_full _, trivial⟩ rfl rfl rfl

theorem yu_explained {L : Nat} {σ : Nat → Int32} {d c t : Nat} {H : zp_H} {x1 : Int32} (hI : yI c t H) : ∃ H1 v, zp_Call L σ (d + 60) 224 [.inr (.inr (some 73)), .inl x1] H (.inl (some (.inl v)), H1) ∧ yI c t H1 :=
  yI_D1 (e := zr_e10) hI (z0rc_e10 z0R_W z0r_all) (by decide +kernel) (by show 4 ≤ d + 60; omega) ⟨rfl, zl_full _, trivial⟩ rfl rfl rfl

theorem yu_where {L : Nat} {σ : Nat → Int32} {d c t : Nat} {H : zp_H} {x1 x2 : Int32} (hI : yI c t H) : ∃ (H1 : zp_H) (v : Int64), zp_Call L σ (d + 60) 225 [.inr (.inr (some 73)), .inl x1, .inl x2] H (.inl (some (.inr (.inl v))), H1) ∧ yI c t H1 :=
  yI_D2 (e := zr_e12) hI (z0rc_e12 z0R_W z0r_all) (by decide +kernel) (by show 4 ≤ d + 60; omega) ⟨rfl, zl_full _, zl_full _, trivial⟩ rfl rfl rfl

theorem yu_pilot {L : Nat} {σ : Nat → Int32} {d c t : Nat} {H : zp_H} {x1 x2 : Int32} (hI : yI c t H) : ∃ H1 v, zp_Call L σ (d + 60) 227 [.inr (.inr (some 73)), .inl x1, .inl x2] H (.inl (some (.inl v)), H1) ∧ yI c t H1 :=
  yI_D1 (e := zr_e13) hI (z0rc_e13 z0R_W z0r_all) (by decide +kernel) (by show 3 ≤ d + 60; omega) ⟨rfl, zl_full _, zl_full _, trivial⟩ rfl rfl rfl

theorem yu_sails {L : Nat} {σ : Nat → Int32} {d c t : Nat} {H : zp_H} {x1 x2 x3 : Int32} (hI : yI c t H) : ∃ H1 v, zp_Call L σ (d + 60) 229 [.inr (.inr (some 73)), .inl x1, .inl x2, .inl x3] H (.inl (some (.inl v)), H1) ∧ yI c t H1 :=
  yI_D1 (e := zr_e16) hI (z0rc_e16 z0R_W z0r_all) (by decide +kernel) (by show 10 ≤ d + 60; omega) ⟨rfl, zl_full _, zl_full _, zl_full _, trivial⟩ rfl rfl rfl

theorem yu_exam {L : Nat} {σ : Nat → Int32} {d c t : Nat} {H : zp_H} (hI : yI c t H) : ∃ H1 v, zp_Call L σ (d + 60) 236 [.inr (.inr (some 73))] H (.inl (some (.inl v)), H1) ∧ yI c t H1 :=
  yI_D1 (e := zr_e17) hI (z0rc_e17 z0R_W z0r_all) (by decide +kernel) (by show 10 ≤ d + 60; omega) ⟨rfl, trivial⟩ rfl rfl rfl

theorem yu_study {L : Nat} {σ : Nat → Int32} {d c t : Nat} {H : zp_H} {x1 : Int32} (hI : yI c t H) : ∃ H1 v, zp_Call L σ (d + 60) 237 [.inr (.inr (some 73)), .inl x1] H (.inl (some (.inl v)), H1) ∧ yI c t H1 :=
  yI_D1 (e := zr_e18) hI (z0rc_e18 z0R_W z0r_all) (by decide +kernel) (by show 25 ≤ d + 60; omega) ⟨rfl, zl_full _, trivial⟩ rfl rfl rfl

theorem yu_studied {L : Nat} {σ : Nat → Int32} {d c t : Nat} {H : zp_H} {x1 : Int32} (hI : yI c t H) : ∃ H1 v, zp_Call L σ (d + 60) 242 [.inr (.inr (some 73)), .inl x1] H (.inl (some (.inl v)), H1) ∧ yI c t H1 :=
  yI_D1 (e := zr_e19) hI (z0rc_e19 z0R_W z0r_all) (by decide +kernel) (by show 2 ≤ d + 60; omega) ⟨rfl, zl_full _, trivial⟩ rfl rfl rfl

theorem yu_dive {L : Nat} {σ : Nat → Int32} {d c t : Nat} {H : zp_H} {x1 x2 : Int32} (hI : yI c t H) : ∃ H1 v, zp_Call L σ (d + 60) 243 [.inr (.inr (some 73)), .inl x1, .inl x2] H (.inl (some (.inl v)), H1) ∧ yI c t H1 :=
  yI_D1 (e := zr_e20) hI (z0rc_e20 z0R_W z0r_all) (by decide +kernel) (by show 4 ≤ d + 60; omega) ⟨rfl, zl_full _, zl_full _, trivial⟩ rfl rfl rfl

theorem yu_chart {L : Nat} {σ : Nat → Int32} {d c t : Nat} {H : zp_H} {x1 : Int32} (hI : yI c t H) : ∃ (H1 : zp_H) (v : Int64), zp_Call L σ (d + 60) 244 [.inr (.inr (some 73)), .inl x1] H (.inl (some (.inr (.inl v))), H1) ∧ yI c t H1 :=
  yI_D2 (e := zr_e21) hI (z0rc_e21 z0R_W z0r_all) (by decide +kernel) (by show 5 ≤ d + 60; omega) ⟨rfl, zl_full _, trivial⟩ rfl rfl rfl

theorem yu_hand {L : Nat} {σ : Nat → Int32} {d c t : Nat} {H : zp_H} {x1 x2 : Int32} (hI : yI c t H) : ∃ (H1 : zp_H) (v : Int64), zp_Call L σ (d + 60) 245 [.inr (.inr (some 73)), .inl x1, .inl x2] H (.inl (some (.inr (.inl v))), H1) ∧ yI c t H1 :=
  yI_D2 (e := zr_e23) hI (z0rc_e23 z0R_W z0r_all) (by decide +kernel) (by show 3 ≤ d + 60; omega) ⟨rfl, zl_full _, zl_full _, trivial⟩ rfl rfl rfl

theorem yu_copied {L : Nat} {σ : Nat → Int32} {d c t : Nat} {H : zp_H} {x1 x2 x3 : Int32} (hI : yI c t H) : ∃ H1 v, zp_Call L σ (d + 60) 247 [.inr (.inr (some 73)), .inl x1, .inl x2, .inl x3] H (.inl (some (.inl v)), H1) ∧ yI c t H1 :=
  yI_D1 (e := zr_e25) hI (z0rc_e25 z0R_W z0r_all) (by decide +kernel) (by show 3 ≤ d + 60; omega) ⟨rfl, zl_full _, zl_full _, zl_full _, trivial⟩ rfl rfl rfl

theorem yu_undo {L : Nat} {σ : Nat → Int32} {d c t : Nat} {H : zp_H} (hI : yI c t H) : ∃ H1 v, zp_Call L σ (d + 60) 218 [.inr (.inr (some 73))] H (.inl (some (.inl v)), H1) ∧ yI c t H1 := by
  obtain ⟨_, c1, H1, v, rfl, c2, c3⟩ := z0t_undo (L := L) (σ := σ) (d := d + 59) hI.1.2.1
  exact ⟨H1, v, c1, yI_afF hI c2 c3 (by decide) (by decide) (by decide)⟩
theorem yu_write {L : Nat} {σ : Nat → Int32} {d c t : Nat} {H : zp_H} {x1 x2 x3 : Int32} (hI : yI c t H) : ∃ H1 v, zp_Call L σ (d + 60) 213 [.inr (.inr (some 73)), .inl x1, .inl x2, .inl x3] H (.inl (some (.inl v)), H1) ∧ yI c t H1 := by
  obtain ⟨_, c1, H1, v, rfl, c2, c3⟩ := z0t_write (L := L) (σ := σ) (d := d + 57) (xs := x1) (xw := x2) (xt := x3) hI.1.2.1
  exact ⟨H1, v, c1, yI_afF hI c2 c3 (by decide) (by decide) (by decide)⟩
theorem yu_rub {L : Nat} {σ : Nat → Int32} {d c t : Nat} {H : zp_H} {x1 x2 x3 : Int32} (hI : yI c t H) : ∃ H1 v, zp_Call L σ (d + 60) 216 [.inr (.inr (some 73)), .inl x1, .inl x2, .inl x3] H (.inl (some (.inl v)), H1) ∧ yI c t H1 := by
  obtain ⟨_, c1, H1, v, rfl, c2, c3⟩ := z0t_rub (L := L) (σ := σ) (d := d + 57) (xs := x1) (xd := x2) (xc := x3) hI.1.2.1
  exact ⟨H1, v, c1, yI_afF hI c2 c3 (by decide) (by decide) (by decide)⟩
theorem yu_restore {L : Nat} {σ : Nat → Int32} {d c t : Nat} {H : zp_H} (hI : yI c t H) : ∃ H1 v, zp_Call L σ (d + 60) 250 [.inr (.inr (some 73))] H (.inl (some (.inl v)), H1) ∧ yI c t H1 := by
  obtain ⟨_, c1, H1, v, rfl, c2, c3⟩ := z0t_restore (L := L) (σ := σ) (d := d + 58) hI.1.2.1
  exact ⟨H1, v, c1, yI_afF hI c2 c3 (by decide) (by decide) (by decide)⟩


def ykS_fc : List Nat := [17, 18]
theorem ykS_fc_t : ykS [] [(11, 10), (12, 80)] ykS_fc = true := by decide +kernel
def ykS_fr : List Nat := [167, 168]
theorem ykS_fr_t : ykS [] [(11, 10), (12, 80)] ykS_fr = true := by decide +kernel

theorem yo_feed {L : Nat} {σ : Nat → Int32} {d c t : Nat} {H : zp_H} {x1 x2 x3 x4 x5 : Int32} (hI : yI c t H) : ∃ H1 H2 v w t', zp_Call L σ (d + 60) 17 [.inr (.inr (some 1)), .inl x1, .inl x2, .inl x3, .inl x4, .inl x5] H (.inl (some (.inl v)), H1) ∧ zp_Call L σ (d + 60) 167 [.inr (.inr (some 73)), .inl x1, .inl x2, .inl x3, .inl x4, .inl x5] H1 (.inl (some (.inl w)), H2) ∧ v.toInt = w.toInt ∧ H1.1 = zB_sh ∧ yI c t' H2 := by
  obtain ⟨H1, H2, v, w, t', c1, c2, hv, hW, hI2⟩ := zo_feed (L := L) (σ := σ) (d := d) (x1 := x1) (x2 := x2) (x3 := x3) (x4 := x4) (x5 := x5) hI.1
  refine ⟨H1, H2, v, w, t', c1, c2, hv, hW, hI2, ?_, ?_⟩
  rotate_left
  · obtain ⟨⟨h1, h2, h3, h4, h5, h6⟩, hT, hq⟩ := hI
    have W := zB_Wd (zB_dn (zB_Bc h1))
    have k1 := ykF_call ykS_fc_t _ _ _ _ _ (by decide) c1
    have k2 := ykF_call ykS_fr_t _ _ _ _ _ (by decide) c2
    exact yEq_c ((k2.2.1 (11, 10) (by decide) 0 (by rw [hW]; rfl)).1.trans (k1.2.1 (11, 10) (by decide) 0 (by rw [W.1]; rfl)).1) ((k2.2.1 (12, 80) (by decide) 72 (by rw [hW]; rfl)).1.trans (k1.2.1 (12, 80) (by decide) 72 (by rw [W.1]; rfl)).1) hq
  obtain ⟨⟨h1, h2, h3, h4, h5, h6⟩, hT, hq⟩ := hI
  have W := zB_Wd (zB_dn (zB_Bc h1))
  obtain ⟨_, e1, H1', u1, rfl, W1, k1, k2⟩ := yfC_feed (L := L) (σ := σ) (d := d + 58) (x1 := x1) (x2 := x2) (x3 := x3) (x4 := x4) (x5 := x5) W h3 (by omega)
  obtain ⟨e9, rfl⟩ : _ ∧ H1' = H1 := by
    have e9 := zp_Call_u e1 c1
    cases e9
    exact ⟨trivial, rfl⟩
  by_cases hn : 20 * t + 20 ≤ 700
  · obtain ⟨A1, A2, A3, A4, a1, a2, a3, a4, a5⟩ := k1 hn
    have f1 : ∀ p k, p ≠ 0 → p ≠ 1 → H1'.2.1 p k = H.2.1 p k := fun p k p0 p1 => (a5.2.2.2 p k p0 p1).trans ((a4.2.2.2 p k p0 p1).trans ((a3.2.2.2 p k p0 p1).trans ((a2.2.2.2 p k p0 p1).trans (a1.2.2.2 p k p0 p1))))
    obtain ⟨_, e2, H2', u2, rfl, W2, m1, m2⟩ := yfR_feed (L := L) (σ := σ) (d := d + 58) (x1 := x1) (x2 := x2) (x3 := x3) (x4 := x4) (x5 := x5) (n := 20 * t) W1 (by rw [f1 72 22 (by decide) (by decide)]; exact h4) (by omega)
    obtain ⟨e9, rfl⟩ : _ ∧ H2' = H2 := by
      have e9 := zp_Call_u e2 c2
      cases e9
      exact ⟨trivial, rfl⟩
    obtain ⟨B1, B2, B3, B4, b1, b2, b3, b4, b5⟩ := m1 hn
    have g1 : ∀ p k, p ≠ 72 → p ≠ 81 → H2'.2.1 p k = H1'.2.1 p k := fun p k p0 p1 => (b5.2.2.2 p k p0 p1).trans ((b4.2.2.2 p k p0 p1).trans ((b3.2.2.2 p k p0 p1).trans ((b2.2.2.2 p k p0 p1).trans ((b1.2.2.2 p k p0 p1).trans (y_ne (fun h9 => p0 h9.1))))))
    have T0 : yTp (20 * t) H (zw_I H1' 72 0 (Int32.ofInt 0)) := yTp_c (H := H) (K := H) (fun _ => rfl) (fun k => (y_ne (fun h9 => absurd h9.1 (by decide))).trans (f1 81 k (by decide) (by decide))) hT
    have T5 := yTp_s (yTp_s (yTp_s (yTp_s (yTp_s T0 a1 b1) a2 b2) a3 b3) a4 b4) a5 b5
    have e01 : (H2'.2.1 0 1).toInt = 20 * t + 16 + 4 := by
      rw [g1 0 1 (by decide) (by decide)]
      exact a5.1
    have et : 20 * t' = 20 * t + 16 + 4 := by
      have := hI2.2.2.1
      omega
    rw [et]
    exact yTp_c (fun k => g1 1 k (by decide) (by decide)) (fun _ => rfl) T5
  · obtain rfl := k2 hn
    obtain ⟨_, e2, H2', u2, rfl, W2, m1, m2⟩ := yfR_feed (L := L) (σ := σ) (d := d + 58) (x1 := x1) (x2 := x2) (x3 := x3) (x4 := x4) (x5 := x5) (n := 20 * t) W1 h4 (by omega)
    obtain ⟨e9, rfl⟩ : _ ∧ H2' = H2 := by
      have e9 := zp_Call_u e2 c2
      cases e9
      exact ⟨trivial, rfl⟩
    obtain rfl := m2 hn
    have e01 : ((zw_I H1' 72 0 (Int32.ofInt 0)).2.1 0 1).toInt = 20 * t := (congrArg Int32.toInt (zw_ne rfl rfl)).trans (by rw [h3]; omega)
    have et : 20 * t' = 20 * t := by
      have := hI2.2.2.1
      omega
    rw [et]
    exact yTp_c (H := H1') (K := H1') (fun k => y_ne (fun h9 => absurd h9.1 (by decide))) (fun k => y_ne (fun h9 => absurd h9.1 (by decide))) hT
theorem yo_seaX {L : Nat} {σ : Nat → Int32} {d c : Nat} {T : Nat → Int} {n : Nat} {H : zp_H} {x : Int32} (hc : c < 4) (hB : zk_Bs (zB_c c) zg zJc H) (hn : n ≤ 700) (hxn : x.toInt = n) (hT : ∀ k, k < n → (H.2.1 1 k).toInt = T k) (hx : 0 ≤ x.toInt ∧ x.toInt ≤ (H.2.1 0 1).toInt) : ∃ X, zp_Call L σ (d + 68) 48 [.inr (.inr (some 1)), .inl x, .inr (.inr (some 105))] H X ∧ ∃ H1 u, X = (.inl (some (.inl (Int32.ofInt 0))), zw_J H1 104 0 u.toInt64) ∧ ysc_P T n H (.inl (some (.inl u)), H1) := by
  have W := zB_Wd (zB_dn (zB_Bc hB))
  obtain ⟨X9, c1, c2⟩ := ysc_yes (L := L) (σ := σ) (d := d) hc hB hn hxn hT hx
  obtain ⟨v, H1, rfl, c3⟩ := id c2
  obtain ⟨_, b1, v', H1', c', b2, b3, b4, b5, b6⟩ := zsc_yes (L := L) (σ := σ) (d := d) hc hB hx
  obtain ⟨rfl, rfl⟩ : v' = v ∧ H1' = H1 := by
    have e9 := zp_Call_u b1 c1
    rw [b2] at e9
    cases e9
    exact ⟨rfl, rfl⟩
  have W1 := zB_Wd (zB_dn (zB_Bc b4))
  refine zw_met zm_48_t rfl rfl ?_
  refine zw_ld (n := 1) (k := 2) (f := zp_isR) (pc' := 1) rfl rfl rfl rfl rfl ?_
  refine zw_s (pc' := 2) rfl rfl ?_
  refine zw_ld (n := 1) (k := 0) (f := zp_isR) (pc' := 3) rfl rfl rfl rfl rfl ?_
  refine zw_ld (n := 1) (k := 1) (f := zp_isI) (pc' := 4) rfl rfl rfl rfl rfl ?_
  refine zw_ct (pc' := 7) (c' := (1, 6)) (zw_cv (q := 0) (Y := zm_49) W.1 rfl rfl zm_49_t rfl rfl) (zw_pb_ok rfl) rfl rfl rfl rfl c1 ?_
  refine zw_s (pc' := 8) rfl rfl ?_
  refine zw_ls (q := 104) (pc' := 9) W1 rfl rfl (⟨by decide, by decide⟩) rfl ?_
  refine zw_s (pc' := 15) rfl rfl ?_
  refine zw_s (pc' := 16) rfl rfl ?_
  refine zw_rig rfl rfl ⟨by decide, by decide⟩ ?_
  exact ⟨_, _, rfl, c2⟩
theorem yo_sea {L : Nat} {σ : Nat → Int32} {d c t : Nat} {H : zp_H} {x : Int32} (hI : yI c t H) : ∃ H1 H2 v w c' t', zp_Call L σ (d + 60) 48 [.inr (.inr (some 1)), .inl x, .inr (.inr (some 105))] H (.inl (some (.inl v)), H1) ∧ zp_Call L σ (d + 60) 169 [.inr (.inr (some 73)), .inl x] H1 (.inl (some (.inl w)), H2) ∧ H1.1 = zB_sh ∧ yI c' t' H2 ∧ (H2.2.1 72 0).toInt = v.toInt ∧ (v.toInt = 0 → H2.2.2.1 104 0 = w.toInt64) := by
  obtain ⟨hz, hT, hq⟩ := hI
  by_cases hx : 0 ≤ x.toInt ∧ x.toInt ≤ (H.2.1 0 1).toInt
  · obtain ⟨_, c1, v, H1, c', rfl, c2, c3, c4, c5⟩ := zo_seaY (L := L) (σ := σ) (d := d) hz hx
    obtain ⟨h1, h2, h3, h4, h5, h6⟩ := hz
    have hxn : x.toInt = (x.toInt.toNat : Nat) := by omega
    obtain ⟨_, b1, K, u, rfl, u', K', e9, r, r1, r2, r7, r8⟩ := yo_seaX (L := L) (σ := σ) (d := d) (T := fun k => (H.2.1 1 k).toInt) (n := x.toInt.toNat) h6 h1 (by omega) hxn (fun _ _ => rfl) hx
    cases e9
    have e8 := zp_Call_u b1 c1
    cases e8
    have b2 : zk_Bs z0R zg zJ (zw_J K 104 0 u.toInt64) := zI_R h2 c3.1 (zI_rf c3) c4
    have e22 := (c4 72 22 (by decide) (by decide) (by decide)).1
    obtain ⟨_, a1, H2, w, rfl, a2, a3, a4, ⟨r', r3, r4, r5, r6⟩, a5⟩ := ysr_yes (L := L) (σ := σ) (d := d + 47) (x := x) (Tx := fun k => (H.2.1 1 k).toInt) (nx := x.toInt.toNat) (fun k hk => (hT k (by omega)).2) b2 hxn (fun k hk => by
      rw [(c4 81 k (by decide) (by decide) (fun h9 => absurd h9.1 (by decide))).1]
      exact (hT k (by omega)).1) (by rw [e22, h4, ← h3]; exact hx)
    obtain rfl := yA2_u r1 r3
    refine ⟨_, H2, _, w, c', 0, c1, a1, c3.1, ⟨⟨zI_B c3 a2.1 a3, zR_dn a2, ?_, a4, by decide, c2⟩, fun k hk => absurd hk (Nat.not_lt_zero _), ?_⟩, a5, fun _ => ?_⟩
    · rw [(a3.2 0 1 (by decide)).1]
      exact c5
    · unfold yEq
      rw [(a3.2 0 10 (by decide)).1]
      by_cases h0 : r.1 = 0
      · exact Int32.toInt_inj.mp ((r7 h0).2.1.trans (r6 h0).2.symm)
      · exact (r8 h0).2.1.trans (hq.trans ((c4 72 80 (by decide) (by decide) (by decide)).1.symm.trans (r5 h0).2.symm))
    · have e104 := ykF_sea (zB_Wd (zB_dn (zB_Bc c3))) a1 0
      rw [e104]
      have ew : u = w := Int32.toInt_inj.mp (by rw [r2, r4])
      rw [← ew]
      rfl
  · have c1 := zo_seaN (L := L) (σ := σ) (d := d + 58) hz hx
    obtain ⟨h1, h2, h3, h4, h5, h6⟩ := hz
    obtain ⟨_, a1, H2, w, rfl, a2, a3, a4⟩ := z0se_no (L := L) (σ := σ) (d := d + 58) (x := x) h2 (by rw [h4, ← h3]; exact hx)
    obtain ⟨_, b1, H2', w', rfl, b2, b3⟩ := ysr_no (L := L) (σ := σ) (d := d + 58) (x := x) (zB_Wd (zB_dn (zB_Bc h1))) (by rw [h4, ← h3]; exact hx)
    have e9 := zp_Call_u b1 a1
    cases e9
    refine ⟨H, H2, _, w, c, t, c1, a1, h1.1, ⟨zI_af ⟨h1, h2, h3, h4, h5, h6⟩ a2 a3 a4, ?_⟩, b2, fun h9 => absurd h9 (by decide)⟩
    exact ⟨yTp_c (H := H) (K := H) (fun k => b3 1 k (by omega)) (fun k => b3 81 k (by omega)) hT, yEq_c (b3 0 10 (by decide)) (b3 72 80 (by decide)) hq⟩
