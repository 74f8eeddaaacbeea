/-! ===== questions keep the chalk ===== -/
theorem yJ_C1 {L : Nat} {σ : Nat → Int32} {d c t j : Nat} {H : zp_H} {e : zk_T} {as : List zp_V} (hI : yJ c t H) (hct : zk_Ct L σ (zB_c c) zg zJc e) (hm : yJ_mc e = true) (hd : e.2.2.2.2.2.2 ≤ d) (ha : za_F2 zk_pv e.2.1 as) (hp : e.2.2.1 = []) (hj : e.1 = j) (hk : e.2.2.2.2.2.1.all (zI_k 1) = true) : ∃ H1 v, zp_Call L σ d j as H (.inl (some (.inl v)), H1) ∧ yJ c t H1 := by
  obtain ⟨⟨x, H1⟩, x1, x2, x3⟩ := yJ_C hI hct hm hd ha hp
  obtain ⟨v, rfl⟩ : ∃ v, x = .inl (some (.inl v)) := zI_v1 hk x3
  subst hj
  exact ⟨H1, v, x1, x2⟩
theorem yJ_C0 {L : Nat} {σ : Nat → Int32} {d c t j : Nat} {H : zp_H} {e : zk_T} {as : List zp_V} (hI : yJ c t H) (hct : zk_Ct L σ (zB_c c) zg zJc e) (hm : yJ_mc e = true) (hd : e.2.2.2.2.2.2 ≤ d) (ha : za_F2 zk_pv e.2.1 as) (hp : e.2.2.1 = []) (hj : e.1 = j) (hk : e.2.2.2.2.2.1.all (zI_k 0) = true) : ∃ H1, zp_Call L σ d j as H (.inl none, H1) ∧ yJ c t H1 := by
  obtain ⟨⟨x, H1⟩, x1, x2, x3⟩ := yJ_C hI hct hm hd ha hp
  obtain rfl : x = .inl none := zI_v0 hk x3
  subst hj
  exact ⟨H1, x1, x2⟩
theorem yJ_D1 {L : Nat} {σ : Nat → Int32} {d c t j : Nat} {H : zp_H} {e : zk_T} {as : List zp_V} (hI : yJ c t H) (hct : zk_Ct L σ z0R zg zJ e) (hm : yJ_mr e = true) (hd : e.2.2.2.2.2.2 ≤ d) (ha : za_F2 zk_pv e.2.1 as) (hp : e.2.2.1 = []) (hj : e.1 = j) (hk : e.2.2.2.2.2.1.all (zI_k 1) = true) : ∃ H1 v, zp_Call L σ d j as H (.inl (some (.inl v)), H1) ∧ yJ c t H1 := by
  obtain ⟨⟨x, H1⟩, x1, x2, x3⟩ := yJ_D hI hct hm hd ha hp
  obtain ⟨v, rfl⟩ : ∃ v, x = .inl (some (.inl v)) := zI_v1 hk x3
  subst hj
  exact ⟨H1, v, x1, x2⟩
theorem yJ_D2 {L : Nat} {σ : Nat → Int32} {d c t j : Nat} {H : zp_H} {e : zk_T} {as : List zp_V} (hI : yJ c t H) (hct : zk_Ct L σ z0R zg zJ e) (hm : yJ_mr e = true) (hd : e.2.2.2.2.2.2 ≤ d) (ha : za_F2 zk_pv e.2.1 as) (hp : e.2.2.1 = []) (hj : e.1 = j) (hk : e.2.2.2.2.2.1.all (zI_k 2) = true) : ∃ (H1 : zp_H) (v : Int64), zp_Call L σ d j as H (.inl (some (.inr (.inl v))), H1) ∧ yJ c t H1 := by
  obtain ⟨⟨x, H1⟩, x1, x2, x3⟩ := yJ_D hI hct hm hd ha hp
  obtain ⟨v, rfl⟩ : ∃ v, x = .inl (some (.inr (.inl v))) := zI_v2 hk x3
  subst hj
  exact ⟨H1, v, x1, x2⟩
theorem yp_count {L : Nat} {σ : Nat → Int32} {d c t : Nat} {H : zp_H} {x1 : Int32} (hI : yJ c t H) : ∃ H1 v, zp_Call L σ (d + 60) 100 [.inr (.inr (some 1)), .inl x1, .inr (.inr (some 105))] H (.inl (some (.inl v)), H1) ∧ yJ c t H1 := by
  match c, hI, hI.1.1.2.2.2.2.2 with
  | 0, hI, _ => exact yJ_C1 (e := ze_t0) hI (zc_t0 zB_W zh_all) (by decide +kernel) (by show 3 ≤ d + 60; omega) ⟨rfl, zl_full _, rfl, trivial⟩ rfl rfl rfl
  | 1, hI, _ => exact yJ_C1 (e := ze_t24) hI (zc_t24 zB_W zh_all) (by decide +kernel) (by show 3 ≤ d + 60; omega) ⟨rfl, zl_full _, rfl, trivial⟩ rfl rfl rfl
  | 2, hI, _ => exact yJ_C1 (e := ze_t48) hI (zc_t48 zB_W zh_all) (by decide +kernel) (by show 3 ≤ d + 60; omega) ⟨rfl, zl_full _, rfl, trivial⟩ rfl rfl rfl
  | 3, hI, _ => exact yJ_C1 (e := ze_t72) hI (zc_t72 zB_W zh_all) (by decide +kernel) (by show 3 ≤ d + 60; omega) ⟨rfl, zl_full _, rfl, trivial⟩ rfl rfl rfl

theorem yp_cell {L : Nat} {σ : Nat → Int32} {d c t : Nat} {H : zp_H} {x1 x2 : Int32} (hI : yJ c t H) : ∃ H1 v, zp_Call L σ (d + 60) 102 [.inr (.inr (some 1)), .inl x1, .inl x2, .inr (.inr (some 105))] H (.inl (some (.inl v)), H1) ∧ yJ c t H1 := by
  match c, hI, hI.1.1.2.2.2.2.2 with
  | 0, hI, _ => exact yJ_C1 (e := ze_t1) hI (zc_t1 zB_W zh_all) (by decide +kernel) (by show 3 ≤ d + 60; omega) ⟨rfl, zl_full _, zl_full _, rfl, trivial⟩ rfl rfl rfl
  | 1, hI, _ => exact yJ_C1 (e := ze_t25) hI (zc_t25 zB_W zh_all) (by decide +kernel) (by show 3 ≤ d + 60; omega) ⟨rfl, zl_full _, zl_full _, rfl, trivial⟩ rfl rfl rfl
  | 2, hI, _ => exact yJ_C1 (e := ze_t49) hI (zc_t49 zB_W zh_all) (by decide +kernel) (by show 3 ≤ d + 60; omega) ⟨rfl, zl_full _, zl_full _, rfl, trivial⟩ rfl rfl rfl
  | 3, hI, _ => exact yJ_C1 (e := ze_t73) hI (zc_t73 zB_W zh_all) (by decide +kernel) (by show 3 ≤ d + 60; omega) ⟨rfl, zl_full _, zl_full _, rfl, trivial⟩ rfl rfl rfl

theorem yp_slate {L : Nat} {σ : Nat → Int32} {d c t : Nat} {H : zp_H} {x1 x2 : Int32} (hI : yJ c t H) : ∃ H1 v, zp_Call L σ (d + 60) 106 [.inr (.inr (some 1)), .inl x1, .inl x2, .inr (.inr (some 105))] H (.inl (some (.inl v)), H1) ∧ yJ c t H1 := by
  match c, hI, hI.1.1.2.2.2.2.2 with
  | 0, hI, _ => exact yJ_C1 (e := ze_t2) hI (zc_t2 zB_W zh_all) (by decide +kernel) (by show 3 ≤ d + 60; omega) ⟨rfl, zl_full _, zl_full _, rfl, trivial⟩ rfl rfl rfl
  | 1, hI, _ => exact yJ_C1 (e := ze_t26) hI (zc_t26 zB_W zh_all) (by decide +kernel) (by show 3 ≤ d + 60; omega) ⟨rfl, zl_full _, zl_full _, rfl, trivial⟩ rfl rfl rfl
  | 2, hI, _ => exact yJ_C1 (e := ze_t50) hI (zc_t50 zB_W zh_all) (by decide +kernel) (by show 3 ≤ d + 60; omega) ⟨rfl, zl_full _, zl_full _, rfl, trivial⟩ rfl rfl rfl
  | 3, hI, _ => exact yJ_C1 (e := ze_t74) hI (zc_t74 zB_W zh_all) (by decide +kernel) (by show 3 ≤ d + 60; omega) ⟨rfl, zl_full _, zl_full _, rfl, trivial⟩ rfl rfl rfl

theorem yp_mark {L : Nat} {σ : Nat → Int32} {d c t : Nat} {H : zp_H} {x1 x2 x3 : Int32} (hI : yJ c t H) : ∃ H1 v, zp_Call L σ (d + 60) 109 [.inr (.inr (some 1)), .inl x1, .inl x2, .inl x3, .inr (.inr (some 105))] H (.inl (some (.inl v)), H1) ∧ yJ c t H1 := by
  match c, hI, hI.1.1.2.2.2.2.2 with
  | 0, hI, _ => exact yJ_C1 (e := ze_t3) hI (zc_t3 zB_W zh_all) (by decide +kernel) (by show 3 ≤ d + 60; omega) ⟨rfl, zl_full _, zl_full _, zl_full _, rfl, trivial⟩ rfl rfl rfl
  | 1, hI, _ => exact yJ_C1 (e := ze_t27) hI (zc_t27 zB_W zh_all) (by decide +kernel) (by show 3 ≤ d + 60; omega) ⟨rfl, zl_full _, zl_full _, zl_full _, rfl, trivial⟩ rfl rfl rfl
  | 2, hI, _ => exact yJ_C1 (e := ze_t51) hI (zc_t51 zB_W zh_all) (by decide +kernel) (by show 3 ≤ d + 60; omega) ⟨rfl, zl_full _, zl_full _, zl_full _, rfl, trivial⟩ rfl rfl rfl
  | 3, hI, _ => exact yJ_C1 (e := ze_t75) hI (zc_t75 zB_W zh_all) (by decide +kernel) (by show 3 ≤ d + 60; omega) ⟨rfl, zl_full _, zl_full _, zl_full _, rfl, trivial⟩ rfl rfl rfl

theorem yp_voyage {L : Nat} {σ : Nat → Int32} {d c t : Nat} {H : zp_H} {x1 x2 : Int32} (hI : yJ c t H) : ∃ H1 v, zp_Call L σ (d + 60) 118 [.inr (.inr (some 1)), .inl x1, .inl x2, .inr (.inr (some 105))] H (.inl (some (.inl v)), H1) ∧ yJ c t H1 := by
  match c, hI, hI.1.1.2.2.2.2.2 with
  | 0, hI, _ => exact yJ_C1 (e := ze_t6) hI (zc_t6 zB_W zh_all) (by decide +kernel) (by show 7 ≤ d + 60; omega) ⟨rfl, zl_full _, zl_full _, rfl, trivial⟩ rfl rfl rfl
  | 1, hI, _ => exact yJ_C1 (e := ze_t30) hI (zc_t30 zB_W zh_all) (by decide +kernel) (by show 7 ≤ d + 60; omega) ⟨rfl, zl_full _, zl_full _, rfl, trivial⟩ rfl rfl rfl
  | 2, hI, _ => exact yJ_C1 (e := ze_t54) hI (zc_t54 zB_W zh_all) (by decide +kernel) (by show 7 ≤ d + 60; omega) ⟨rfl, zl_full _, zl_full _, rfl, trivial⟩ rfl rfl rfl
  | 3, hI, _ => exact yJ_C1 (e := ze_t78) hI (zc_t78 zB_W zh_all) (by decide +kernel) (by show 7 ≤ d + 60; omega) ⟨rfl, zl_full _, zl_full _, rfl, trivial⟩ rfl rfl rfl

theorem yp_explained {L : Nat} {σ : Nat → Int32} {d c t : Nat} {H : zp_H} {x1 : Int32} (hI : yJ c t H) : ∃ H1 v, zp_Call L σ (d + 60) 120 [.inr (.inr (some 1)), .inl x1, .inr (.inr (some 105))] H (.inl (some (.inl v)), H1) ∧ yJ c t H1 := by
  match c, hI, hI.1.1.2.2.2.2.2 with
  | 0, hI, _ => exact yJ_C1 (e := ze_t7) hI (zc_t7 zB_W zh_all) (by decide +kernel) (by show 7 ≤ d + 60; omega) ⟨rfl, zl_full _, rfl, trivial⟩ rfl rfl rfl
  | 1, hI, _ => exact yJ_C1 (e := ze_t31) hI (zc_t31 zB_W zh_all) (by decide +kernel) (by show 7 ≤ d + 60; omega) ⟨rfl, zl_full _, rfl, trivial⟩ rfl rfl rfl
  | 2, hI, _ => exact yJ_C1 (e := ze_t55) hI (zc_t55 zB_W zh_all) (by decide +kernel) (by show 7 ≤ d + 60; omega) ⟨rfl, zl_full _, rfl, trivial⟩ rfl rfl rfl
  | 3, hI, _ => exact yJ_C1 (e := ze_t79) hI (zc_t79 zB_W zh_all) (by decide +kernel) (by show 7 ≤ d + 60; omega) ⟨rfl, zl_full _, rfl, trivial⟩ rfl rfl rfl

theorem yp_where {L : Nat} {σ : Nat → Int32} {d c t : Nat} {H : zp_H} {x1 x2 : Int32} (hI : yJ c t H) : ∃ H1 v, zp_Call L σ (d + 60) 122 [.inr (.inr (some 1)), .inl x1, .inl x2, .inr (.inr (some 105))] H (.inl (some (.inl v)), H1) ∧ yJ c t H1 := by
  match c, hI, hI.1.1.2.2.2.2.2 with
  | 0, hI, _ => exact yJ_C1 (e := ze_t8) hI (zc_t8 zB_W zh_all) (by decide +kernel) (by show 8 ≤ d + 60; omega) ⟨rfl, zl_full _, zl_full _, rfl, trivial⟩ rfl rfl rfl
  | 1, hI, _ => exact yJ_C1 (e := ze_t32) hI (zc_t32 zB_W zh_all) (by decide +kernel) (by show 8 ≤ d + 60; omega) ⟨rfl, zl_full _, zl_full _, rfl, trivial⟩ rfl rfl rfl
  | 2, hI, _ => exact yJ_C1 (e := ze_t56) hI (zc_t56 zB_W zh_all) (by decide +kernel) (by show 8 ≤ d + 60; omega) ⟨rfl, zl_full _, zl_full _, rfl, trivial⟩ rfl rfl rfl
  | 3, hI, _ => exact yJ_C1 (e := ze_t80) hI (zc_t80 zB_W zh_all) (by decide +kernel) (by show 8 ≤ d + 60; omega) ⟨rfl, zl_full _, zl_full _, rfl, trivial⟩ rfl rfl rfl

theorem yp_pilot {L : Nat} {σ : Nat → Int32} {d c t : Nat} {H : zp_H} {x1 x2 : Int32} (hI : yJ c t H) : ∃ H1 v, zp_Call L σ (d + 60) 132 [.inr (.inr (some 1)), .inl x1, .inl x2, .inr (.inr (some 105))] H (.inl (some (.inl v)), H1) ∧ yJ c t H1 := by
  match c, hI, hI.1.1.2.2.2.2.2 with
  | 0, hI, _ => exact yJ_C1 (e := ze_t9) hI (zc_t9 zB_W zh_all) (by decide +kernel) (by show 3 ≤ d + 60; omega) ⟨rfl, zl_full _, zl_full _, rfl, trivial⟩ rfl rfl rfl
  | 1, hI, _ => exact yJ_C1 (e := ze_t33) hI (zc_t33 zB_W zh_all) (by decide +kernel) (by show 3 ≤ d + 60; omega) ⟨rfl, zl_full _, zl_full _, rfl, trivial⟩ rfl rfl rfl
  | 2, hI, _ => exact yJ_C1 (e := ze_t57) hI (zc_t57 zB_W zh_all) (by decide +kernel) (by show 3 ≤ d + 60; omega) ⟨rfl, zl_full _, zl_full _, rfl, trivial⟩ rfl rfl rfl
  | 3, hI, _ => exact yJ_C1 (e := ze_t81) hI (zc_t81 zB_W zh_all) (by decide +kernel) (by show 3 ≤ d + 60; omega) ⟨rfl, zl_full _, zl_full _, rfl, trivial⟩ rfl rfl rfl

theorem yp_sails {L : Nat} {σ : Nat → Int32} {d c t : Nat} {H : zp_H} {x1 x2 x3 : Int32} (hI : yJ c t H) : ∃ H1 v, zp_Call L σ (d + 60) 135 [.inr (.inr (some 1)), .inl x1, .inl x2, .inl x3, .inr (.inr (some 105))] H (.inl (some (.inl v)), H1) ∧ yJ c t H1 := by
  match c, hI, hI.1.1.2.2.2.2.2 with
  | 0, hI, _ => exact yJ_C1 (e := ze_t10) hI (zc_t10 zB_W zh_all) (by decide +kernel) (by show 8 ≤ d + 60; omega) ⟨rfl, zl_full _, zl_full _, zl_full _, rfl, trivial⟩ rfl rfl rfl
  | 1, hI, _ => exact yJ_C1 (e := ze_t34) hI (zc_t34 zB_W zh_all) (by decide +kernel) (by show 8 ≤ d + 60; omega) ⟨rfl, zl_full _, zl_full _, zl_full _, rfl, trivial⟩ rfl rfl rfl
  | 2, hI, _ => exact yJ_C1 (e := ze_t58) hI (zc_t58 zB_W zh_all) (by decide +kernel) (by show 8 ≤ d + 60; omega) ⟨rfl, zl_full _, zl_full _, zl_full _, rfl, trivial⟩ rfl rfl rfl
  | 3, hI, _ => exact yJ_C1 (e := ze_t82) hI (zc_t82 zB_W zh_all) (by decide +kernel) (by show 8 ≤ d + 60; omega) ⟨rfl, zl_full _, zl_full _, zl_full _, rfl, trivial⟩ rfl rfl rfl

theorem yp_study {L : Nat} {σ : Nat → Int32} {d c t : Nat} {H : zp_H} {x1 : Int32} (hI : yJ c t H) : ∃ H1 v, zp_Call L σ (d + 60) 137 [.inr (.inr (some 1)), .inl x1, .inr (.inr (some 105))] H (.inl (some (.inl v)), H1) ∧ yJ c t H1 := by
  match c, hI, hI.1.1.2.2.2.2.2 with
  | 0, hI, _ => exact yJ_C1 (e := ze_t11) hI (zc_t11 zB_W zh_all) (by decide +kernel) (by show 8 ≤ d + 60; omega) ⟨rfl, zl_full _, rfl, trivial⟩ rfl rfl rfl
  | 1, hI, _ => exact yJ_C1 (e := ze_t35) hI (zc_t35 zB_W zh_all) (by decide +kernel) (by show 8 ≤ d + 60; omega) ⟨rfl, zl_full _, rfl, trivial⟩ rfl rfl rfl
  | 2, hI, _ => exact yJ_C1 (e := ze_t59) hI (zc_t59 zB_W zh_all) (by decide +kernel) (by show 8 ≤ d + 60; omega) ⟨rfl, zl_full _, rfl, trivial⟩ rfl rfl rfl
  | 3, hI, _ => exact yJ_C1 (e := ze_t83) hI (zc_t83 zB_W zh_all) (by decide +kernel) (by show 8 ≤ d + 60; omega) ⟨rfl, zl_full _, rfl, trivial⟩ rfl rfl rfl

theorem yp_studied {L : Nat} {σ : Nat → Int32} {d c t : Nat} {H : zp_H} {x1 : Int32} (hI : yJ c t H) : ∃ H1 v, zp_Call L σ (d + 60) 150 [.inr (.inr (some 1)), .inl x1, .inr (.inr (some 105))] H (.inl (some (.inl v)), H1) ∧ yJ c t H1 := by
  match c, hI, hI.1.1.2.2.2.2.2 with
  | 0, hI, _ => exact yJ_C1 (e := ze_t12) hI (zc_t12 zB_W zh_all) (by decide +kernel) (by show 2 ≤ d + 60; omega) ⟨rfl, zl_full _, rfl, trivial⟩ rfl rfl rfl
  | 1, hI, _ => exact yJ_C1 (e := ze_t36) hI (zc_t36 zB_W zh_all) (by decide +kernel) (by show 2 ≤ d + 60; omega) ⟨rfl, zl_full _, rfl, trivial⟩ rfl rfl rfl
  | 2, hI, _ => exact yJ_C1 (e := ze_t60) hI (zc_t60 zB_W zh_all) (by decide +kernel) (by show 2 ≤ d + 60; omega) ⟨rfl, zl_full _, rfl, trivial⟩ rfl rfl rfl
  | 3, hI, _ => exact yJ_C1 (e := ze_t84) hI (zc_t84 zB_W zh_all) (by decide +kernel) (by show 2 ≤ d + 60; omega) ⟨rfl, zl_full _, rfl, trivial⟩ rfl rfl rfl

theorem yp_dive {L : Nat} {σ : Nat → Int32} {d c t : Nat} {H : zp_H} {x1 x2 : Int32} (hI : yJ c t H) : ∃ H1 v, zp_Call L σ (d + 60) 152 [.inr (.inr (some 1)), .inl x1, .inl x2, .inr (.inr (some 105))] H (.inl (some (.inl v)), H1) ∧ yJ c t H1 := by
  match c, hI, hI.1.1.2.2.2.2.2 with
  | 0, hI, _ => exact yJ_C1 (e := ze_t14) hI (zc_t14 zB_W zh_all) (by decide +kernel) (by show 8 ≤ d + 60; omega) ⟨rfl, zl_full _, zl_full _, rfl, trivial⟩ rfl rfl rfl
  | 1, hI, _ => exact yJ_C1 (e := ze_t38) hI (zc_t38 zB_W zh_all) (by decide +kernel) (by show 8 ≤ d + 60; omega) ⟨rfl, zl_full _, zl_full _, rfl, trivial⟩ rfl rfl rfl
  | 2, hI, _ => exact yJ_C1 (e := ze_t62) hI (zc_t62 zB_W zh_all) (by decide +kernel) (by show 8 ≤ d + 60; omega) ⟨rfl, zl_full _, zl_full _, rfl, trivial⟩ rfl rfl rfl
  | 3, hI, _ => exact yJ_C1 (e := ze_t86) hI (zc_t86 zB_W zh_all) (by decide +kernel) (by show 8 ≤ d + 60; omega) ⟨rfl, zl_full _, zl_full _, rfl, trivial⟩ rfl rfl rfl

theorem yp_chart {L : Nat} {σ : Nat → Int32} {d c t : Nat} {H : zp_H} {x1 : Int32} (hI : yJ c t H) : ∃ H1 v, zp_Call L σ (d + 60) 155 [.inr (.inr (some 1)), .inl x1, .inr (.inr (some 105))] H (.inl (some (.inl v)), H1) ∧ yJ c t H1 := by
  match c, hI, hI.1.1.2.2.2.2.2 with
  | 0, hI, _ => exact yJ_C1 (e := ze_t16) hI (zc_t16 zB_W zh_all) (by decide +kernel) (by show 7 ≤ d + 60; omega) ⟨rfl, zl_full _, rfl, trivial⟩ rfl rfl rfl
  | 1, hI, _ => exact yJ_C1 (e := ze_t40) hI (zc_t40 zB_W zh_all) (by decide +kernel) (by show 7 ≤ d + 60; omega) ⟨rfl, zl_full _, rfl, trivial⟩ rfl rfl rfl
  | 2, hI, _ => exact yJ_C1 (e := ze_t64) hI (zc_t64 zB_W zh_all) (by decide +kernel) (by show 7 ≤ d + 60; omega) ⟨rfl, zl_full _, rfl, trivial⟩ rfl rfl rfl
  | 3, hI, _ => exact yJ_C1 (e := ze_t88) hI (zc_t88 zB_W zh_all) (by decide +kernel) (by show 7 ≤ d + 60; omega) ⟨rfl, zl_full _, rfl, trivial⟩ rfl rfl rfl

theorem yp_hand {L : Nat} {σ : Nat → Int32} {d c t : Nat} {H : zp_H} {x1 x2 : Int32} (hI : yJ c t H) : ∃ H1 v, zp_Call L σ (d + 60) 157 [.inr (.inr (some 1)), .inl x1, .inl x2, .inr (.inr (some 105))] H (.inl (some (.inl v)), H1) ∧ yJ c t H1 := by
  match c, hI, hI.1.1.2.2.2.2.2 with
  | 0, hI, _ => exact yJ_C1 (e := ze_t17) hI (zc_t17 zB_W zh_all) (by decide +kernel) (by show 5 ≤ d + 60; omega) ⟨rfl, zl_full _, zl_full _, rfl, trivial⟩ rfl rfl rfl
  | 1, hI, _ => exact yJ_C1 (e := ze_t41) hI (zc_t41 zB_W zh_all) (by decide +kernel) (by show 5 ≤ d + 60; omega) ⟨rfl, zl_full _, zl_full _, rfl, trivial⟩ rfl rfl rfl
  | 2, hI, _ => exact yJ_C1 (e := ze_t65) hI (zc_t65 zB_W zh_all) (by decide +kernel) (by show 5 ≤ d + 60; omega) ⟨rfl, zl_full _, zl_full _, rfl, trivial⟩ rfl rfl rfl
  | 3, hI, _ => exact yJ_C1 (e := ze_t89) hI (zc_t89 zB_W zh_all) (by decide +kernel) (by show 5 ≤ d + 60; omega) ⟨rfl, zl_full _, zl_full _, rfl, trivial⟩ rfl rfl rfl

theorem yp_copied {L : Nat} {σ : Nat → Int32} {d c t : Nat} {H : zp_H} {x1 x2 x3 : Int32} (hI : yJ c t H) : ∃ H1 v, zp_Call L σ (d + 60) 162 [.inr (.inr (some 1)), .inl x1, .inl x2, .inl x3, .inr (.inr (some 105))] H (.inl (some (.inl v)), H1) ∧ yJ c t H1 := by
  match c, hI, hI.1.1.2.2.2.2.2 with
  | 0, hI, _ => exact yJ_C1 (e := ze_t18) hI (zc_t18 zB_W zh_all) (by decide +kernel) (by show 5 ≤ d + 60; omega) ⟨rfl, zl_full _, zl_full _, zl_full _, rfl, trivial⟩ rfl rfl rfl
  | 1, hI, _ => exact yJ_C1 (e := ze_t42) hI (zc_t42 zB_W zh_all) (by decide +kernel) (by show 5 ≤ d + 60; omega) ⟨rfl, zl_full _, zl_full _, zl_full _, rfl, trivial⟩ rfl rfl rfl
  | 2, hI, _ => exact yJ_C1 (e := ze_t66) hI (zc_t66 zB_W zh_all) (by decide +kernel) (by show 5 ≤ d + 60; omega) ⟨rfl, zl_full _, zl_full _, zl_full _, rfl, trivial⟩ rfl rfl rfl
  | 3, hI, _ => exact yJ_C1 (e := ze_t90) hI (zc_t90 zB_W zh_all) (by decide +kernel) (by show 5 ≤ d + 60; omega) ⟨rfl, zl_full _, zl_full _, zl_full _, rfl, trivial⟩ rfl rfl rfl

theorem yp_fault {L : Nat} {σ : Nat → Int32} {d c t : Nat} {H : zp_H} (hI : yJ c t H) : ∃ H1 v, zp_Call L σ (d + 60) 19 [.inr (.inr (some 1))] H (.inl (some (.inl v)), H1) ∧ yJ c t H1 := by
  match c, hI, hI.1.1.2.2.2.2.2 with
  | 0, hI, _ => exact yJ_C1 (e := ze_t19) hI (zc_t19 zB_W zh_all) (by decide +kernel) (by show 1 ≤ d + 60; omega) ⟨rfl, trivial⟩ rfl rfl rfl
  | 1, hI, _ => exact yJ_C1 (e := ze_t43) hI (zc_t43 zB_W zh_all) (by decide +kernel) (by show 1 ≤ d + 60; omega) ⟨rfl, trivial⟩ rfl rfl rfl
  | 2, hI, _ => exact yJ_C1 (e := ze_t67) hI (zc_t67 zB_W zh_all) (by decide +kernel) (by show 1 ≤ d + 60; omega) ⟨rfl, trivial⟩ rfl rfl rfl
  | 3, hI, _ => exact yJ_C1 (e := ze_t91) hI (zc_t91 zB_W zh_all) (by decide +kernel) (by show 1 ≤ d + 60; omega) ⟨rfl, trivial⟩ rfl rfl rfl

theorem yp_exam {L : Nat} {σ : Nat → Int32} {d c t : Nat} {H : zp_H} (hI : yJ c t H) : ∃ H1 v, zp_Call L σ (d + 60) 22 [.inr (.inr (some 1))] H (.inl (some (.inl v)), H1) ∧ yJ c t H1 := by
  match c, hI, hI.1.1.2.2.2.2.2 with
  | 0, hI, _ => exact yJ_C1 (e := ze_t21) hI (zc_t21 zB_W zh_all) (by decide +kernel) (by show 7 ≤ d + 60; omega) ⟨rfl, trivial⟩ rfl rfl rfl
  | 1, hI, _ => exact yJ_C1 (e := ze_t45) hI (zc_t45 zB_W zh_all) (by decide +kernel) (by show 7 ≤ d + 60; omega) ⟨rfl, trivial⟩ rfl rfl rfl
  | 2, hI, _ => exact yJ_C1 (e := ze_t69) hI (zc_t69 zB_W zh_all) (by decide +kernel) (by show 7 ≤ d + 60; omega) ⟨rfl, trivial⟩ rfl rfl rfl
  | 3, hI, _ => exact yJ_C1 (e := ze_t93) hI (zc_t93 zB_W zh_all) (by decide +kernel) (by show 7 ≤ d + 60; omega) ⟨rfl, trivial⟩ rfl rfl rfl

theorem yq_fault {L : Nat} {σ : Nat → Int32} {d c t : Nat} {H : zp_H} (hI : yJ c t H) : ∃ H1 v, zp_Call L σ (d + 60) 205 [.inr (.inr (some 73))] H (.inl (some (.inl v)), H1) ∧ yJ c t H1 :=
  yJ_D1 (e := zr_e1) hI (z0rc_e1 z0R_W z0r_all) (by decide +kernel) (by show 1 ≤ d + 60; omega) ⟨rfl, trivial⟩ rfl rfl rfl

theorem yq_count {L : Nat} {σ : Nat → Int32} {d c t : Nat} {H : zp_H} {x1 : Int32} (hI : yJ c t H) : ∃ H1 v, zp_Call L σ (d + 60) 206 [.inr (.inr (some 73)), .inl x1] H (.inl (some (.inl v)), H1) ∧ yJ c t H1 :=
  yJ_D1 (e := zr_e2) hI (z0rc_e2 z0R_W z0r_all) (by decide +kernel) (by show 2 ≤ d + 60; omega) ⟨rfl, zl_full _, trivial⟩ rfl rfl rfl

theorem yq_cell {L : Nat} {σ : Nat → Int32} {d c t : Nat} {H : zp_H} {x1 x2 : Int32} (hI : yJ c t H) : ∃ H1 v, zp_Call L σ (d + 60) 207 [.inr (.inr (some 73)), .inl x1, .inl x2] H (.inl (some (.inl v)), H1) ∧ yJ c t H1 :=
  yJ_D1 (e := zr_e3) hI (z0rc_e3 z0R_W z0r_all) (by decide +kernel) (by show 3 ≤ d + 60; omega) ⟨rfl, zl_full _, zl_full _, trivial⟩ rfl rfl rfl

theorem yq_slate {L : Nat} {σ : Nat → Int32} {d c t : Nat} {H : zp_H} {x1 x2 : Int32} (hI : yJ c t H) : ∃ H1 v, zp_Call L σ (d + 60) 209 [.inr (.inr (some 73)), .inl x1, .inl x2] H (.inl (some (.inl v)), H1) ∧ yJ c t H1 :=
  yJ_D1 (e := zr_e4) hI (z0rc_e4 z0R_W z0r_all) (by decide +kernel) (by show 3 ≤ d + 60; omega) ⟨rfl, zl_full _, zl_full _, trivial⟩ rfl rfl rfl

theorem yq_mark {L : Nat} {σ : Nat → Int32} {d c t : Nat} {H : zp_H} {x1 x2 x3 : Int32} (hI : yJ c t H) : ∃ H1 v, zp_Call L σ (d + 60) 211 [.inr (.inr (some 73)), .inl x1, .inl x2, .inl x3] H (.inl (some (.inl v)), H1) ∧ yJ c t H1 :=
  yJ_D1 (e := zr_e5) hI (z0rc_e5 z0R_W z0r_all) (by decide +kernel) (by show 3 ≤ d + 60; omega) ⟨rfl, zl_full _, zl_full _, zl_full _, trivial⟩ rfl rfl rfl

theorem yq_voyage {L : Nat} {σ : Nat → Int32} {d c t : Nat} {H : zp_H} {x1 x2 : Int32} (hI : yJ c t H) : ∃ H1 v, zp_Call L σ (d + 60) 219 [.inr (.inr (some 73)), .inl x1, .inl x2] H (.inl (some (.inl v)), H1) ∧ yJ c t H1 :=
  yJ_D1 (e := zr_e9) hI (z0rc_e9 z0R_W z0r_all) (by decide +kernel) (by show 4 ≤ d + 60; omega) ⟨rfl, zl_full _, zl_full _, trivial⟩ rfl rfl rfl

theorem yq_explained {L : Nat} {σ : Nat → Int32} {d c t : Nat} {H : zp_H} {x1 : Int32} (hI : yJ c t H) : ∃ H1 v, zp_Call L σ (d + 60) 224 [.inr (.inr (some 73)), .inl x1] H (.inl (some (.inl v)), H1) ∧ yJ c t H1 :=
  yJ_D1 (e := zr_e10) hI (z0rc_e10 z0R_W z0r_all) (by decide +kernel) (by show 4 ≤ d + 60; omega) ⟨rfl, zl_full _, trivial⟩ rfl rfl rfl

theorem yq_where {L : Nat} {σ : Nat → Int32} {d c t : Nat} {H : zp_H} {x1 x2 : Int32} (hI : yJ c t H) : ∃ (H1 : zp_H) (v : Int64), zp_Call L σ (d + 60) 225 [.inr (.inr (some 73)), .inl x1, .inl x2] H (.inl (some (.inr (.inl v))), H1) ∧ yJ c t H1 :=
  yJ_D2 (e := zr_e12) hI (z0rc_e12 z0R_W z0r_all) (by decide +kernel) (by show 4 ≤ d + 60; omega) ⟨rfl, zl_full _, zl_full _, trivial⟩ rfl rfl rfl

theorem yq_pilot {L : Nat} {σ : Nat → Int32} {d c t : Nat} {H : zp_H} {x1 x2 : Int32} (hI : yJ c t H) : ∃ H1 v, zp_Call L σ (d + 60) 227 [.inr (.inr (some 73)), .inl x1, .inl x2] H (.inl (some (.inl v)), H1) ∧ yJ c t H1 :=
  yJ_D1 (e := zr_e13) hI (z0rc_e13 z0R_W z0r_all) (by decide +kernel) (by show 3 ≤ d + 60; omega) ⟨rfl, zl_full _, zl_full _, trivial⟩ rfl rfl rfl

theorem yq_sails {L : Nat} {σ : Nat → Int32} {d c t : Nat} {H : zp_H} {x1 x2 x3 : Int32} (hI : yJ c t H) : ∃ H1 v, zp_Call L σ (d + 60) 229 [.inr (.inr (some 73)), .inl x1, .inl x2, .inl x3] H (.inl (some (.inl v)), H1) ∧ yJ c t H1 :=
  yJ_D1 (e := zr_e16) hI (z0rc_e16 z0R_W z0r_all) (by decide +kernel) (by show 10 ≤ d + 60; omega) ⟨rfl, zl_full _, zl_full _, zl_full _, trivial⟩ rfl rfl rfl

theorem yq_exam {L : Nat} {σ : Nat → Int32} {d c t : Nat} {H : zp_H} (hI : yJ c t H) : ∃ H1 v, zp_Call L σ (d + 60) 236 [.inr (.inr (some 73))] H (.inl (some (.inl v)), H1) ∧ yJ c t H1 :=
  yJ_D1 (e := zr_e17) hI (z0rc_e17 z0R_W z0r_all) (by decide +kernel) (by show 10 ≤ d + 60; omega) ⟨rfl, trivial⟩ rfl rfl rfl

theorem yq_study {L : Nat} {σ : Nat → Int32} {d c t : Nat} {H : zp_H} {x1 : Int32} (hI : yJ c t H) : ∃ H1 v, zp_Call L σ (d + 60) 237 [.inr (.inr (some 73)), .inl x1] H (.inl (some (.inl v)), H1) ∧ yJ c t H1 :=
  yJ_D1 (e := zr_e18) hI (z0rc_e18 z0R_W z0r_all) (by decide +kernel) (by show 25 ≤ d + 60; omega) ⟨rfl, zl_full _, trivial⟩ rfl rfl rfl

theorem yq_studied {L : Nat} {σ : Nat → Int32} {d c t : Nat} {H : zp_H} {x1 : Int32} (hI : yJ c t H) : ∃ H1 v, zp_Call L σ (d + 60) 242 [.inr (.inr (some 73)), .inl x1] H (.inl (some (.inl v)), H1) ∧ yJ c t H1 :=
  yJ_D1 (e := zr_e19) hI (z0rc_e19 z0R_W z0r_all) (by decide +kernel) (by show 2 ≤ d + 60; omega) ⟨rfl, zl_full _, trivial⟩ rfl rfl rfl

theorem yq_dive {L : Nat} {σ : Nat → Int32} {d c t : Nat} {H : zp_H} {x1 x2 : Int32} (hI : yJ c t H) : ∃ H1 v, zp_Call L σ (d + 60) 243 [.inr (.inr (some 73)), .inl x1, .inl x2] H (.inl (some (.inl v)), H1) ∧ yJ c t H1 :=
  yJ_D1 (e := zr_e20) hI (z0rc_e20 z0R_W z0r_all) (by decide +kernel) (by show 4 ≤ d + 60; omega) ⟨rfl, zl_full _, zl_full _, trivial⟩ rfl rfl rfl

theorem yq_chart {L : Nat} {σ : Nat → Int32} {d c t : Nat} {H : zp_H} {x1 : Int32} (hI : yJ c t H) : ∃ (H1 : zp_H) (v : Int64), zp_Call L σ (d + 60) 244 [.inr (.inr (some 73)), .inl x1] H (.inl (some (.inr (.inl v))), H1) ∧ yJ c t H1 :=
  yJ_D2 (e := zr_e21) hI (z0rc_e21 z0R_W z0r_all) (by decide +kernel) (by show 5 ≤ d + 60; omega) ⟨rfl, zl_full _, trivial⟩ rfl rfl rfl

theorem yq_hand {L : Nat} {σ : Nat → Int32} {d c t : Nat} {H : zp_H} {x1 x2 : Int32} (hI : yJ c t H) : ∃ (H1 : zp_H) (v : Int64), zp_Call L σ (d + 60) 245 [.inr (.inr (some 73)), .inl x1, .inl x2] H (.inl (some (.inr (.inl v))), H1) ∧ yJ c t H1 :=
  yJ_D2 (e := zr_e23) hI (z0rc_e23 z0R_W z0r_all) (by decide +kernel) (by show 3 ≤ d + 60; omega) ⟨rfl, zl_full _, zl_full _, trivial⟩ rfl rfl rfl

theorem yq_copied {L : Nat} {σ : Nat → Int32} {d c t : Nat} {H : zp_H} {x1 x2 x3 : Int32} (hI : yJ c t H) : ∃ H1 v, zp_Call L σ (d + 60) 247 [.inr (.inr (some 73)), .inl x1, .inl x2, .inl x3] H (.inl (some (.inl v)), H1) ∧ yJ c t H1 :=
  yJ_D1 (e := zr_e25) hI (z0rc_e25 z0R_W z0r_all) (by decide +kernel) (by show 3 ≤ d + 60; omega) ⟨rfl, zl_full _, zl_full _, zl_full _, trivial⟩ rfl rfl rfl

