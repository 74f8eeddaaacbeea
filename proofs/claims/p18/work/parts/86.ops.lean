/-! ===== every call of both sides ===== -/
def zm_48 : za_MI := (yL_sea, method_3_code, 4, (some FieldType.int), 13, 1, 6, [(0, 9, 12, 13)], za_i48)
theorem zm_48_t : za_MT 48 = some zm_48 := rfl
section WV
variable {L : Nat} {σ : Nat → Int32} {P : zp_X → Prop} {M Y : za_MI} {fs : List zs_F} {d : Nat} {pc pc' : Nat} {lv lv' : zp_LV} {st st' : List zp_V} {H H1 : zp_H} {c c' : Nat × Nat} {x y : Int32} {u v : Int64} {a b : Int} {i : Instr}
/-- calls that may need new cells -/
theorem zw_ct {k j : Nat} {as : List zp_V} {w : zp_V} {nx : Bool} (h : za_fe (za_is M) pc = some i ∧ zp_cl (za_CP (za_cl M)) i st (H, c) = some (nx, j, k, Y)) (hp : zp_pre M Y k st (H, c)) (ha : (st.take k).reverse = as) (hst : st.drop k = st') (hc : (c.1 + za_mc Y, c.2 + za_ms Y) = c') (hpc : pc + 3 = pc') (hC : zp_Call L σ d j as H (.inl (some w), H1)) (hS : zs_Safe L σ P M fs d (pc', lv, w :: st', H1, c')) : zs_Safe L σ P M fs d (pc, lv, st, H, c) := by
  subst ha hst hpc hc
  exact zs_sum (S := (pc, lv, st, H, c)) h.1 h.2 hp hC (fun _ => trivial) (Or.inl ⟨(pc + 3, lv, w :: st.drop k, H1, (c.1 + za_mc Y, c.2 + za_ms Y)), rfl, hS⟩)
theorem zw_ctn {k j : Nat} {as : List zp_V} {nx : Bool} (h : za_fe (za_is M) pc = some i ∧ zp_cl (za_CP (za_cl M)) i st (H, c) = some (nx, j, k, Y)) (hp : zp_pre M Y k st (H, c)) (ha : (st.take k).reverse = as) (hst : st.drop k = st') (hc : (c.1 + za_mc Y, c.2 + za_ms Y) = c') (hpc : pc + 3 = pc') (hC : zp_Call L σ d j as H (.inl none, H1)) (hS : zs_Safe L σ P M fs d (pc', lv, st', H1, c')) : zs_Safe L σ P M fs d (pc, lv, st, H, c) := by
  subst ha hst hpc hc
  exact zs_sum (S := (pc, lv, st, H, c)) h.1 h.2 hp hC (fun _ => trivial) (Or.inl ⟨(pc + 3, lv, st.drop k, H1, (c.1 + za_mc Y, c.2 + za_ms Y)), rfl, hS⟩)
/-- it throws, and that is caught here -/
theorem zw_cex {k j ex hp9 : Nat} {k9 : Fin 4} {as : List zp_V} (h : za_fe (za_is M) pc = some i ∧ zp_cl (za_CP (za_cl M)) i st (H, c) = some (false, j, k, Y)) (hp : zp_pre M Y k st (H, c)) (ha : (st.take k).reverse = as) (hc : (c.1 + za_mc Y, c.2 + za_ms Y) = c') (hh : za_hnd (za_CP (za_cl M)) pc ex (za_hh M) = some (some hp9)) (hi9 : za_fe (za_is M) hp9 = some (.astore_n k9)) (hk9 : Nat.blt k9.val (za_nL M) = true) (hpc : hp9 + 1 = pc') (hlv : zp_fl lv k9.val = lv') (hC : zp_Call L σ d j as H (.inr ex, H1)) (hS : zs_Safe L σ P M fs d (pc', lv', [], H1, c')) : zs_Safe L σ P M fs d (pc, lv, st, H, c) := by
  subst ha hpc hc hlv
  refine zs_sum (S := (pc, lv, st, H, c)) h.1 h.2 hp hC (fun z => Bool.noConfusion z) (Or.inl ⟨(hp9 + 1, zp_fl lv k9.val, [], H1, (c.1 + za_mc Y, c.2 + za_ms Y)), ?_, hS⟩)
  show (match za_hnd (za_CP (za_cl M)) pc ex (za_hh M) with
    | none => none
    | some none => some (.inr (.inr ex, H1))
    | some (some hp) => match za_fe (za_is M) hp with
      | some (.astore_n k) => bif Nat.blt k.val (za_nL M) then some (.inl (hp + 1, zp_fl lv k.val, [], H1, c.1 + za_mc Y, c.2 + za_ms Y)) else none
      | some (.astore k) => bif Nat.blt k (za_nL M) then some (.inl (hp + 2, zp_fl lv k, [], H1, c.1 + za_mc Y, c.2 + za_ms Y)) else none
      | _ => none : Option (zp_S ⊕ zp_X)) = _
  rw [hh]
  show (match za_fe (za_is M) hp9 with
      | some (.astore_n k) => bif Nat.blt k.val (za_nL M) then some (.inl (hp9 + 1, zp_fl lv k.val, [], H1, c.1 + za_mc Y, c.2 + za_ms Y)) else none
      | some (.astore k) => bif Nat.blt k (za_nL M) then some (.inl (hp9 + 2, zp_fl lv k, [], H1, c.1 + za_mc Y, c.2 + za_ms Y)) else none
      | _ => none : Option (zp_S ⊕ zp_X)) = _
  rw [hi9]
  show (bif Nat.blt k9.val (za_nL M) then some (.inl (hp9 + 1, zp_fl lv k9.val, [], H1, c.1 + za_mc Y, c.2 + za_ms Y)) else none : Option (zp_S ⊕ zp_X)) = _
  rw [hk9]
  rfl
theorem zw_rig (hi : za_fe (za_is M) pc = some .ireturn) (hr : za_rt M = some .int) (hc : c.1 ≤ za_mc M ∧ c.2 ≤ za_ms M) (hP : P (.inl (some (.inl x)), H)) : zs_Safe L σ P M [] d (pc, lv, [.inl x], H, c) := by
  refine zs_end (S := (pc, lv, [.inl x], H, c)) (X := (.inl (some (.inl x)), H)) hi ?_ hP
  show zp_iret (za_mc M) (za_ms M) (za_rt M) [.inl x] (H, c) = _
  rw [hr]
  exact if_pos hc
theorem zw_rzg (hi : za_fe (za_is M) pc = some .ireturn) (hr : za_rt M = some .boolean) (hx : x = 0 ∨ x = 1) (hc : c.1 ≤ za_mc M ∧ c.2 ≤ za_ms M) (hP : P (.inl (some (.inl x)), H)) : zs_Safe L σ P M [] d (pc, lv, [.inl x], H, c) := by
  refine zs_end (S := (pc, lv, [.inl x], H, c)) (X := (.inl (some (.inl x)), H)) hi ?_ hP
  show zp_iret (za_mc M) (za_ms M) (za_rt M) [.inl x] (H, c) = _
  rw [hr]
  exact if_pos ⟨hc, hx⟩
/-- a number of the script -/
theorem zw_sc (hi : za_fe (za_is M) pc = some .iaload) (hb : 0 ≤ y.toInt ∧ y.toInt < L) (hp : pc + 1 = pc') (hS : zs_Safe L σ P M fs d (pc', lv, .inl (σ y.toInt.toNat) :: st, H, c)) : zs_Safe L σ P M fs d (pc, lv, .inl y :: .inr (.inr (some 0)) :: st, H, c) := by
  refine zs_step (S := (pc, lv, .inl y :: .inr (.inr (some 0)) :: st, H, c)) (S' := (pc', lv, .inl (σ y.toInt.toNat) :: st, H, c)) hi ?_ hS
  show (if false = false ∧ 0 ≤ y.toInt ∧ y.toInt < L then zp_go lv (H, c) (pc + 1) (.inl (σ y.toInt.toNat) :: st) else none) = _
  rw [if_pos ⟨rfl, hb.1, hb.2⟩, hp]
  rfl
end WV
/-! one call of each, both sides kept -/
theorem zI_C1 {L : Nat} {σ : Nat → Int32} {d c t j : Nat} {H : zp_H} {e : zk_T} {as : List zp_V} (hI : zI c t H) (hct : zk_Ct L σ (zB_c c) zg zJc e) (hm : zI_mc e = true) (hd : e.2.2.2.2.2.2 ≤ d) (ha : za_F2 zk_pv e.2.1 as) (hp : e.2.2.1 = []) (hj : e.1 = j) (hk : e.2.2.2.2.2.1.all (zI_k 1) = true) : ∃ H1 v, zp_Call L σ d j as H (.inl (some (.inl v)), H1) ∧ zI c t H1 := by
  obtain ⟨⟨x, H1⟩, x1, x2, x3⟩ := zI_C hI hct hm hd ha hp
  obtain ⟨v, rfl⟩ : ∃ v, x = .inl (some (.inl v)) := zI_v1 hk x3
  subst hj
  exact ⟨H1, v, x1, x2⟩
theorem zI_C0 {L : Nat} {σ : Nat → Int32} {d c t j : Nat} {H : zp_H} {e : zk_T} {as : List zp_V} (hI : zI c t H) (hct : zk_Ct L σ (zB_c c) zg zJc e) (hm : zI_mc e = true) (hd : e.2.2.2.2.2.2 ≤ d) (ha : za_F2 zk_pv e.2.1 as) (hp : e.2.2.1 = []) (hj : e.1 = j) (hk : e.2.2.2.2.2.1.all (zI_k 0) = true) : ∃ H1, zp_Call L σ d j as H (.inl none, H1) ∧ zI c t H1 := by
  obtain ⟨⟨x, H1⟩, x1, x2, x3⟩ := zI_C hI hct hm hd ha hp
  obtain rfl : x = .inl none := zI_v0 hk x3
  subst hj
  exact ⟨H1, x1, x2⟩
theorem zI_D1 {L : Nat} {σ : Nat → Int32} {d c t j : Nat} {H : zp_H} {e : zk_T} {as : List zp_V} (hI : zI c t H) (hct : zk_Ct L σ z0R zg zJ e) (hm : zI_mr e = true) (hd : e.2.2.2.2.2.2 ≤ d) (ha : za_F2 zk_pv e.2.1 as) (hp : e.2.2.1 = []) (hj : e.1 = j) (hk : e.2.2.2.2.2.1.all (zI_k 1) = true) : ∃ H1 v, zp_Call L σ d j as H (.inl (some (.inl v)), H1) ∧ zI c t H1 := by
  obtain ⟨⟨x, H1⟩, x1, x2, x3⟩ := zI_D hI hct hm hd ha hp
  obtain ⟨v, rfl⟩ : ∃ v, x = .inl (some (.inl v)) := zI_v1 hk x3
  subst hj
  exact ⟨H1, v, x1, x2⟩
theorem zI_D2 {L : Nat} {σ : Nat → Int32} {d c t j : Nat} {H : zp_H} {e : zk_T} {as : List zp_V} (hI : zI c t H) (hct : zk_Ct L σ z0R zg zJ e) (hm : zI_mr e = true) (hd : e.2.2.2.2.2.2 ≤ d) (ha : za_F2 zk_pv e.2.1 as) (hp : e.2.2.1 = []) (hj : e.1 = j) (hk : e.2.2.2.2.2.1.all (zI_k 2) = true) : ∃ (H1 : zp_H) (v : Int64), zp_Call L σ d j as H (.inl (some (.inr (.inl v))), H1) ∧ zI c t H1 := by
  obtain ⟨⟨x, H1⟩, x1, x2, x3⟩ := zI_D hI hct hm hd ha hp
  obtain ⟨v, rfl⟩ : ∃ v, x = .inl (some (.inr (.inl v))) := zI_v2 hk x3
  subst hj
  exact ⟨H1, v, x1, x2⟩
theorem zo_count {L : Nat} {σ : Nat → Int32} {d c t : Nat} {H : zp_H} {x1 : Int32} (hI : zI c t H) : ∃ H1 v, zp_Call L σ (d + 60) 100 [.inr (.inr (some 1)), .inl x1, .inr (.inr (some 105))] H (.inl (some (.inl v)), H1) ∧ zI c t H1 := by
  match c, hI, hI.2.2.2.2.2 with
  | 0, hI, _ => exact zI_C1 (e := ze_t0) hI (zc_t0 zB_W zh_all) (by decide +kernel) (by show 3 ≤ d + 60; omega) ⟨rfl, zl_full _, rfl, trivial⟩ rfl rfl rfl
  | 1, hI, _ => exact zI_C1 (e := ze_t24) hI (zc_t24 zB_W zh_all) (by decide +kernel) (by show 3 ≤ d + 60; omega) ⟨rfl, zl_full _, rfl, trivial⟩ rfl rfl rfl
  | 2, hI, _ => exact zI_C1 (e := ze_t48) hI (zc_t48 zB_W zh_all) (by decide +kernel) (by show 3 ≤ d + 60; omega) ⟨rfl, zl_full _, rfl, trivial⟩ rfl rfl rfl
  | 3, hI, _ => exact zI_C1 (e := ze_t72) hI (zc_t72 zB_W zh_all) (by decide +kernel) (by show 3 ≤ d + 60; omega) ⟨rfl, zl_full _, rfl, trivial⟩ rfl rfl rfl

theorem zo_cell {L : Nat} {σ : Nat → Int32} {d c t : Nat} {H : zp_H} {x1 x2 : Int32} (hI : zI c t H) : ∃ H1 v, zp_Call L σ (d + 60) 102 [.inr (.inr (some 1)), .inl x1, .inl x2, .inr (.inr (some 105))] H (.inl (some (.inl v)), H1) ∧ zI c t H1 := by
  match c, hI, hI.2.2.2.2.2 with
  | 0, hI, _ => exact zI_C1 (e := ze_t1) hI (zc_t1 zB_W zh_all) (by decide +kernel) (by show 3 ≤ d + 60; omega) ⟨rfl, zl_full _, zl_full _, rfl, trivial⟩ rfl rfl rfl
  | 1, hI, _ => exact zI_C1 (e := ze_t25) hI (zc_t25 zB_W zh_all) (by decide +kernel) (by show 3 ≤ d + 60; omega) ⟨rfl, zl_full _, zl_full _, rfl, trivial⟩ rfl rfl rfl
  | 2, hI, _ => exact zI_C1 (e := ze_t49) hI (zc_t49 zB_W zh_all) (by decide +kernel) (by show 3 ≤ d + 60; omega) ⟨rfl, zl_full _, zl_full _, rfl, trivial⟩ rfl rfl rfl
  | 3, hI, _ => exact zI_C1 (e := ze_t73) hI (zc_t73 zB_W zh_all) (by decide +kernel) (by show 3 ≤ d + 60; omega) ⟨rfl, zl_full _, zl_full _, rfl, trivial⟩ rfl rfl rfl

theorem zo_slate {L : Nat} {σ : Nat → Int32} {d c t : Nat} {H : zp_H} {x1 x2 : Int32} (hI : zI c t H) : ∃ H1 v, zp_Call L σ (d + 60) 106 [.inr (.inr (some 1)), .inl x1, .inl x2, .inr (.inr (some 105))] H (.inl (some (.inl v)), H1) ∧ zI c t H1 := by
  match c, hI, hI.2.2.2.2.2 with
  | 0, hI, _ => exact zI_C1 (e := ze_t2) hI (zc_t2 zB_W zh_all) (by decide +kernel) (by show 3 ≤ d + 60; omega) ⟨rfl, zl_full _, zl_full _, rfl, trivial⟩ rfl rfl rfl
  | 1, hI, _ => exact zI_C1 (e := ze_t26) hI (zc_t26 zB_W zh_all) (by decide +kernel) (by show 3 ≤ d + 60; omega) ⟨rfl, zl_full _, zl_full _, rfl, trivial⟩ rfl rfl rfl
  | 2, hI, _ => exact zI_C1 (e := ze_t50) hI (zc_t50 zB_W zh_all) (by decide +kernel) (by show 3 ≤ d + 60; omega) ⟨rfl, zl_full _, zl_full _, rfl, trivial⟩ rfl rfl rfl
  | 3, hI, _ => exact zI_C1 (e := ze_t74) hI (zc_t74 zB_W zh_all) (by decide +kernel) (by show 3 ≤ d + 60; omega) ⟨rfl, zl_full _, zl_full _, rfl, trivial⟩ rfl rfl rfl

theorem zo_mark {L : Nat} {σ : Nat → Int32} {d c t : Nat} {H : zp_H} {x1 x2 x3 : Int32} (hI : zI c t H) : ∃ H1 v, zp_Call L σ (d + 60) 109 [.inr (.inr (some 1)), .inl x1, .inl x2, .inl x3, .inr (.inr (some 105))] H (.inl (some (.inl v)), H1) ∧ zI c t H1 := by
  match c, hI, hI.2.2.2.2.2 with
  | 0, hI, _ => exact zI_C1 (e := ze_t3) hI (zc_t3 zB_W zh_all) (by decide +kernel) (by show 3 ≤ d + 60; omega) ⟨rfl, zl_full _, zl_full _, zl_full _, rfl, trivial⟩ rfl rfl rfl
  | 1, hI, _ => exact zI_C1 (e := ze_t27) hI (zc_t27 zB_W zh_all) (by decide +kernel) (by show 3 ≤ d + 60; omega) ⟨rfl, zl_full _, zl_full _, zl_full _, rfl, trivial⟩ rfl rfl rfl
  | 2, hI, _ => exact zI_C1 (e := ze_t51) hI (zc_t51 zB_W zh_all) (by decide +kernel) (by show 3 ≤ d + 60; omega) ⟨rfl, zl_full _, zl_full _, zl_full _, rfl, trivial⟩ rfl rfl rfl
  | 3, hI, _ => exact zI_C1 (e := ze_t75) hI (zc_t75 zB_W zh_all) (by decide +kernel) (by show 3 ≤ d + 60; omega) ⟨rfl, zl_full _, zl_full _, zl_full _, rfl, trivial⟩ rfl rfl rfl

theorem zo_write {L : Nat} {σ : Nat → Int32} {d c t : Nat} {H : zp_H} {x1 x2 x3 : Int32} (hI : zI c t H) : ∃ H1 v, zp_Call L σ (d + 60) 111 [.inr (.inr (some 1)), .inl x1, .inl x2, .inl x3, .inr (.inr (some 105))] H (.inl (some (.inl v)), H1) ∧ zI c t H1 := by
  match c, hI, hI.2.2.2.2.2 with
  | 0, hI, _ => exact zI_C1 (e := ze_t4) hI (zc_t4 zB_W zh_all) (by decide +kernel) (by show 3 ≤ d + 60; omega) ⟨rfl, zl_full _, zl_full _, zl_full _, rfl, trivial⟩ rfl rfl rfl
  | 1, hI, _ => exact zI_C1 (e := ze_t28) hI (zc_t28 zB_W zh_all) (by decide +kernel) (by show 3 ≤ d + 60; omega) ⟨rfl, zl_full _, zl_full _, zl_full _, rfl, trivial⟩ rfl rfl rfl
  | 2, hI, _ => exact zI_C1 (e := ze_t52) hI (zc_t52 zB_W zh_all) (by decide +kernel) (by show 3 ≤ d + 60; omega) ⟨rfl, zl_full _, zl_full _, zl_full _, rfl, trivial⟩ rfl rfl rfl
  | 3, hI, _ => exact zI_C1 (e := ze_t76) hI (zc_t76 zB_W zh_all) (by decide +kernel) (by show 3 ≤ d + 60; omega) ⟨rfl, zl_full _, zl_full _, zl_full _, rfl, trivial⟩ rfl rfl rfl

theorem zo_rub {L : Nat} {σ : Nat → Int32} {d c t : Nat} {H : zp_H} {x1 x2 x3 : Int32} (hI : zI c t H) : ∃ H1 v, zp_Call L σ (d + 60) 114 [.inr (.inr (some 1)), .inl x1, .inl x2, .inl x3, .inr (.inr (some 105))] H (.inl (some (.inl v)), H1) ∧ zI c t H1 := by
  match c, hI, hI.2.2.2.2.2 with
  | 0, hI, _ => exact zI_C1 (e := ze_t5) hI (zc_t5 zB_W zh_all) (by decide +kernel) (by show 3 ≤ d + 60; omega) ⟨rfl, zl_full _, zl_full _, zl_full _, rfl, trivial⟩ rfl rfl rfl
  | 1, hI, _ => exact zI_C1 (e := ze_t29) hI (zc_t29 zB_W zh_all) (by decide +kernel) (by show 3 ≤ d + 60; omega) ⟨rfl, zl_full _, zl_full _, zl_full _, rfl, trivial⟩ rfl rfl rfl
  | 2, hI, _ => exact zI_C1 (e := ze_t53) hI (zc_t53 zB_W zh_all) (by decide +kernel) (by show 3 ≤ d + 60; omega) ⟨rfl, zl_full _, zl_full _, zl_full _, rfl, trivial⟩ rfl rfl rfl
  | 3, hI, _ => exact zI_C1 (e := ze_t77) hI (zc_t77 zB_W zh_all) (by decide +kernel) (by show 3 ≤ d + 60; omega) ⟨rfl, zl_full _, zl_full _, zl_full _, rfl, trivial⟩ rfl rfl rfl

theorem zo_voyage {L : Nat} {σ : Nat → Int32} {d c t : Nat} {H : zp_H} {x1 x2 : Int32} (hI : zI c t H) : ∃ H1 v, zp_Call L σ (d + 60) 118 [.inr (.inr (some 1)), .inl x1, .inl x2, .inr (.inr (some 105))] H (.inl (some (.inl v)), H1) ∧ zI c t H1 := by
  match c, hI, hI.2.2.2.2.2 with
  | 0, hI, _ => exact zI_C1 (e := ze_t6) hI (zc_t6 zB_W zh_all) (by decide +kernel) (by show 7 ≤ d + 60; omega) ⟨rfl, zl_full _, zl_full _, rfl, trivial⟩ rfl rfl rfl
  | 1, hI, _ => exact zI_C1 (e := ze_t30) hI (zc_t30 zB_W zh_all) (by decide +kernel) (by show 7 ≤ d + 60; omega) ⟨rfl, zl_full _, zl_full _, rfl, trivial⟩ rfl rfl rfl
  | 2, hI, _ => exact zI_C1 (e := ze_t54) hI (zc_t54 zB_W zh_all) (by decide +kernel) (by show 7 ≤ d + 60; omega) ⟨rfl, zl_full _, zl_full _, rfl, trivial⟩ rfl rfl rfl
  | 3, hI, _ => exact zI_C1 (e := ze_t78) hI (zc_t78 zB_W zh_all) (by decide +kernel) (by show 7 ≤ d + 60; omega) ⟨rfl, zl_full _, zl_full _, rfl, trivial⟩ rfl rfl rfl

theorem zo_explained {L : Nat} {σ : Nat → Int32} {d c t : Nat} {H : zp_H} {x1 : Int32} (hI : zI c t H) : ∃ H1 v, zp_Call L σ (d + 60) 120 [.inr (.inr (some 1)), .inl x1, .inr (.inr (some 105))] H (.inl (some (.inl v)), H1) ∧ zI c t H1 := by
  match c, hI, hI.2.2.2.2.2 with
  | 0, hI, _ => exact zI_C1 (e := ze_t7) hI (zc_t7 zB_W zh_all) (by decide +kernel) (by show 7 ≤ d + 60; omega) ⟨rfl, zl_full _, rfl, trivial⟩ rfl rfl rfl
  | 1, hI, _ => exact zI_C1 (e := ze_t31) hI (zc_t31 zB_W zh_all) (by decide +kernel) (by show 7 ≤ d + 60; omega) ⟨rfl, zl_full _, rfl, trivial⟩ rfl rfl rfl
  | 2, hI, _ => exact zI_C1 (e := ze_t55) hI (zc_t55 zB_W zh_all) (by decide +kernel) (by show 7 ≤ d + 60; omega) ⟨rfl, zl_full _, rfl, trivial⟩ rfl rfl rfl
  | 3, hI, _ => exact zI_C1 (e := ze_t79) hI (zc_t79 zB_W zh_all) (by decide +kernel) (by show 7 ≤ d + 60; omega) ⟨rfl, zl_full _, rfl, trivial⟩ rfl rfl rfl

theorem zo_where {L : Nat} {σ : Nat → Int32} {d c t : Nat} {H : zp_H} {x1 x2 : Int32} (hI : zI c t H) : ∃ H1 v, zp_Call L σ (d + 60) 122 [.inr (.inr (some 1)), .inl x1, .inl x2, .inr (.inr (some 105))] H (.inl (some (.inl v)), H1) ∧ zI c t H1 := by
  match c, hI, hI.2.2.2.2.2 with
  | 0, hI, _ => exact zI_C1 (e := ze_t8) hI (zc_t8 zB_W zh_all) (by decide +kernel) (by show 8 ≤ d + 60; omega) ⟨rfl, zl_full _, zl_full _, rfl, trivial⟩ rfl rfl rfl
  | 1, hI, _ => exact zI_C1 (e := ze_t32) hI (zc_t32 zB_W zh_all) (by decide +kernel) (by show 8 ≤ d + 60; omega) ⟨rfl, zl_full _, zl_full _, rfl, trivial⟩ rfl rfl rfl
  | 2, hI, _ => exact zI_C1 (e := ze_t56) hI (zc_t56 zB_W zh_all) (by decide +kernel) (by show 8 ≤ d + 60; omega) ⟨rfl, zl_full _, zl_full _, rfl, trivial⟩ rfl rfl rfl
  | 3, hI, _ => exact zI_C1 (e := ze_t80) hI (zc_t80 zB_W zh_all) (by decide +kernel) (by show 8 ≤ d + 60; omega) ⟨rfl, zl_full _, zl_full _, rfl, trivial⟩ rfl rfl rfl

theorem zo_pilot {L : Nat} {σ : Nat → Int32} {d c t : Nat} {H : zp_H} {x1 x2 : Int32} (hI : zI c t H) : ∃ H1 v, zp_Call L σ (d + 60) 132 [.inr (.inr (some 1)), .inl x1, .inl x2, .inr (.inr (some 105))] H (.inl (some (.inl v)), H1) ∧ zI c t H1 := by
  match c, hI, hI.2.2.2.2.2 with
  | 0, hI, _ => exact zI_C1 (e := ze_t9) hI (zc_t9 zB_W zh_all) (by decide +kernel) (by show 3 ≤ d + 60; omega) ⟨rfl, zl_full _, zl_full _, rfl, trivial⟩ rfl rfl rfl
  | 1, hI, _ => exact zI_C1 (e := ze_t33) hI (zc_t33 zB_W zh_all) (by decide +kernel) (by show 3 ≤ d + 60; omega) ⟨rfl, zl_full _, zl_full _, rfl, trivial⟩ rfl rfl rfl
  | 2, hI, _ => exact zI_C1 (e := ze_t57) hI (zc_t57 zB_W zh_all) (by decide +kernel) (by show 3 ≤ d + 60; omega) ⟨rfl, zl_full _, zl_full _, rfl, trivial⟩ rfl rfl rfl
  | 3, hI, _ => exact zI_C1 (e := ze_t81) hI (zc_t81 zB_W zh_all) (by decide +kernel) (by show 3 ≤ d + 60; omega) ⟨rfl, zl_full _, zl_full _, rfl, trivial⟩ rfl rfl rfl

theorem zo_sails {L : Nat} {σ : Nat → Int32} {d c t : Nat} {H : zp_H} {x1 x2 x3 : Int32} (hI : zI c t H) : ∃ H1 v, zp_Call L σ (d + 60) 135 [.inr (.inr (some 1)), .inl x1, .inl x2, .inl x3, .inr (.inr (some 105))] H (.inl (some (.inl v)), H1) ∧ zI c t H1 := by
  match c, hI, hI.2.2.2.2.2 with
  | 0, hI, _ => exact zI_C1 (e := ze_t10) hI (zc_t10 zB_W zh_all) (by decide +kernel) (by show 8 ≤ d + 60; omega) ⟨rfl, zl_full _, zl_full _, zl_full _, rfl, trivial⟩ rfl rfl rfl
  | 1, hI, _ => exact zI_C1 (e := ze_t34) hI (zc_t34 zB_W zh_all) (by decide +kernel) (by show 8 ≤ d + 60; omega) ⟨rfl, zl_full _, zl_full _, zl_full _, rfl, trivial⟩ rfl rfl rfl
  | 2, hI, _ => exact zI_C1 (e := ze_t58) hI (zc_t58 zB_W zh_all) (by decide +kernel) (by show 8 ≤ d + 60; omega) ⟨rfl, zl_full _, zl_full _, zl_full _, rfl, trivial⟩ rfl rfl rfl
  | 3, hI, _ => exact zI_C1 (e := ze_t82) hI (zc_t82 zB_W zh_all) (by decide +kernel) (by show 8 ≤ d + 60; omega) ⟨rfl, zl_full _, zl_full _, zl_full _, rfl, trivial⟩ rfl rfl rfl

theorem zo_study {L : Nat} {σ : Nat → Int32} {d c t : Nat} {H : zp_H} {x1 : Int32} (hI : zI c t H) : ∃ H1 v, zp_Call L σ (d + 60) 137 [.inr (.inr (some 1)), .inl x1, .inr (.inr (some 105))] H (.inl (some (.inl v)), H1) ∧ zI c t H1 := by
  match c, hI, hI.2.2.2.2.2 with
  | 0, hI, _ => exact zI_C1 (e := ze_t11) hI (zc_t11 zB_W zh_all) (by decide +kernel) (by show 8 ≤ d + 60; omega) ⟨rfl, zl_full _, rfl, trivial⟩ rfl rfl rfl
  | 1, hI, _ => exact zI_C1 (e := ze_t35) hI (zc_t35 zB_W zh_all) (by decide +kernel) (by show 8 ≤ d + 60; omega) ⟨rfl, zl_full _, rfl, trivial⟩ rfl rfl rfl
  | 2, hI, _ => exact zI_C1 (e := ze_t59) hI (zc_t59 zB_W zh_all) (by decide +kernel) (by show 8 ≤ d + 60; omega) ⟨rfl, zl_full _, rfl, trivial⟩ rfl rfl rfl
  | 3, hI, _ => exact zI_C1 (e := ze_t83) hI (zc_t83 zB_W zh_all) (by decide +kernel) (by show 8 ≤ d + 60; omega) ⟨rfl, zl_full _, rfl, trivial⟩ rfl rfl rfl

theorem zo_studied {L : Nat} {σ : Nat → Int32} {d c t : Nat} {H : zp_H} {x1 : Int32} (hI : zI c t H) : ∃ H1 v, zp_Call L σ (d + 60) 150 [.inr (.inr (some 1)), .inl x1, .inr (.inr (some 105))] H (.inl (some (.inl v)), H1) ∧ zI c t H1 := by
  match c, hI, hI.2.2.2.2.2 with
  | 0, hI, _ => exact zI_C1 (e := ze_t12) hI (zc_t12 zB_W zh_all) (by decide +kernel) (by show 2 ≤ d + 60; omega) ⟨rfl, zl_full _, rfl, trivial⟩ rfl rfl rfl
  | 1, hI, _ => exact zI_C1 (e := ze_t36) hI (zc_t36 zB_W zh_all) (by decide +kernel) (by show 2 ≤ d + 60; omega) ⟨rfl, zl_full _, rfl, trivial⟩ rfl rfl rfl
  | 2, hI, _ => exact zI_C1 (e := ze_t60) hI (zc_t60 zB_W zh_all) (by decide +kernel) (by show 2 ≤ d + 60; omega) ⟨rfl, zl_full _, rfl, trivial⟩ rfl rfl rfl
  | 3, hI, _ => exact zI_C1 (e := ze_t84) hI (zc_t84 zB_W zh_all) (by decide +kernel) (by show 2 ≤ d + 60; omega) ⟨rfl, zl_full _, rfl, trivial⟩ rfl rfl rfl

theorem zo_dive {L : Nat} {σ : Nat → Int32} {d c t : Nat} {H : zp_H} {x1 x2 : Int32} (hI : zI c t H) : ∃ H1 v, zp_Call L σ (d + 60) 152 [.inr (.inr (some 1)), .inl x1, .inl x2, .inr (.inr (some 105))] H (.inl (some (.inl v)), H1) ∧ zI c t H1 := by
  match c, hI, hI.2.2.2.2.2 with
  | 0, hI, _ => exact zI_C1 (e := ze_t14) hI (zc_t14 zB_W zh_all) (by decide +kernel) (by show 8 ≤ d + 60; omega) ⟨rfl, zl_full _, zl_full _, rfl, trivial⟩ rfl rfl rfl
  | 1, hI, _ => exact zI_C1 (e := ze_t38) hI (zc_t38 zB_W zh_all) (by decide +kernel) (by show 8 ≤ d + 60; omega) ⟨rfl, zl_full _, zl_full _, rfl, trivial⟩ rfl rfl rfl
  | 2, hI, _ => exact zI_C1 (e := ze_t62) hI (zc_t62 zB_W zh_all) (by decide +kernel) (by show 8 ≤ d + 60; omega) ⟨rfl, zl_full _, zl_full _, rfl, trivial⟩ rfl rfl rfl
  | 3, hI, _ => exact zI_C1 (e := ze_t86) hI (zc_t86 zB_W zh_all) (by decide +kernel) (by show 8 ≤ d + 60; omega) ⟨rfl, zl_full _, zl_full _, rfl, trivial⟩ rfl rfl rfl

theorem zo_chart {L : Nat} {σ : Nat → Int32} {d c t : Nat} {H : zp_H} {x1 : Int32} (hI : zI c t H) : ∃ H1 v, zp_Call L σ (d + 60) 155 [.inr (.inr (some 1)), .inl x1, .inr (.inr (some 105))] H (.inl (some (.inl v)), H1) ∧ zI c t H1 := by
  match c, hI, hI.2.2.2.2.2 with
  | 0, hI, _ => exact zI_C1 (e := ze_t16) hI (zc_t16 zB_W zh_all) (by decide +kernel) (by show 7 ≤ d + 60; omega) ⟨rfl, zl_full _, rfl, trivial⟩ rfl rfl rfl
  | 1, hI, _ => exact zI_C1 (e := ze_t40) hI (zc_t40 zB_W zh_all) (by decide +kernel) (by show 7 ≤ d + 60; omega) ⟨rfl, zl_full _, rfl, trivial⟩ rfl rfl rfl
  | 2, hI, _ => exact zI_C1 (e := ze_t64) hI (zc_t64 zB_W zh_all) (by decide +kernel) (by show 7 ≤ d + 60; omega) ⟨rfl, zl_full _, rfl, trivial⟩ rfl rfl rfl
  | 3, hI, _ => exact zI_C1 (e := ze_t88) hI (zc_t88 zB_W zh_all) (by decide +kernel) (by show 7 ≤ d + 60; omega) ⟨rfl, zl_full _, rfl, trivial⟩ rfl rfl rfl

theorem zo_hand {L : Nat} {σ : Nat → Int32} {d c t : Nat} {H : zp_H} {x1 x2 : Int32} (hI : zI c t H) : ∃ H1 v, zp_Call L σ (d + 60) 157 [.inr (.inr (some 1)), .inl x1, .inl x2, .inr (.inr (some 105))] H (.inl (some (.inl v)), H1) ∧ zI c t H1 := by
  match c, hI, hI.2.2.2.2.2 with
  | 0, hI, _ => exact zI_C1 (e := ze_t17) hI (zc_t17 zB_W zh_all) (by decide +kernel) (by show 5 ≤ d + 60; omega) ⟨rfl, zl_full _, zl_full _, rfl, trivial⟩ rfl rfl rfl
  | 1, hI, _ => exact zI_C1 (e := ze_t41) hI (zc_t41 zB_W zh_all) (by decide +kernel) (by show 5 ≤ d + 60; omega) ⟨rfl, zl_full _, zl_full _, rfl, trivial⟩ rfl rfl rfl
  | 2, hI, _ => exact zI_C1 (e := ze_t65) hI (zc_t65 zB_W zh_all) (by decide +kernel) (by show 5 ≤ d + 60; omega) ⟨rfl, zl_full _, zl_full _, rfl, trivial⟩ rfl rfl rfl
  | 3, hI, _ => exact zI_C1 (e := ze_t89) hI (zc_t89 zB_W zh_all) (by decide +kernel) (by show 5 ≤ d + 60; omega) ⟨rfl, zl_full _, zl_full _, rfl, trivial⟩ rfl rfl rfl

theorem zo_copied {L : Nat} {σ : Nat → Int32} {d c t : Nat} {H : zp_H} {x1 x2 x3 : Int32} (hI : zI c t H) : ∃ H1 v, zp_Call L σ (d + 60) 162 [.inr (.inr (some 1)), .inl x1, .inl x2, .inl x3, .inr (.inr (some 105))] H (.inl (some (.inl v)), H1) ∧ zI c t H1 := by
  match c, hI, hI.2.2.2.2.2 with
  | 0, hI, _ => exact zI_C1 (e := ze_t18) hI (zc_t18 zB_W zh_all) (by decide +kernel) (by show 5 ≤ d + 60; omega) ⟨rfl, zl_full _, zl_full _, zl_full _, rfl, trivial⟩ rfl rfl rfl
  | 1, hI, _ => exact zI_C1 (e := ze_t42) hI (zc_t42 zB_W zh_all) (by decide +kernel) (by show 5 ≤ d + 60; omega) ⟨rfl, zl_full _, zl_full _, zl_full _, rfl, trivial⟩ rfl rfl rfl
  | 2, hI, _ => exact zI_C1 (e := ze_t66) hI (zc_t66 zB_W zh_all) (by decide +kernel) (by show 5 ≤ d + 60; omega) ⟨rfl, zl_full _, zl_full _, zl_full _, rfl, trivial⟩ rfl rfl rfl
  | 3, hI, _ => exact zI_C1 (e := ze_t90) hI (zc_t90 zB_W zh_all) (by decide +kernel) (by show 5 ≤ d + 60; omega) ⟨rfl, zl_full _, zl_full _, zl_full _, rfl, trivial⟩ rfl rfl rfl

theorem zo_fault {L : Nat} {σ : Nat → Int32} {d c t : Nat} {H : zp_H} (hI : zI c t H) : ∃ H1 v, zp_Call L σ (d + 60) 19 [.inr (.inr (some 1))] H (.inl (some (.inl v)), H1) ∧ zI c t H1 := by
  match c, hI, hI.2.2.2.2.2 with
  | 0, hI, _ => exact zI_C1 (e := ze_t19) hI (zc_t19 zB_W zh_all) (by decide +kernel) (by show 1 ≤ d + 60; omega) ⟨rfl, trivial⟩ rfl rfl rfl
  | 1, hI, _ => exact zI_C1 (e := ze_t43) hI (zc_t43 zB_W zh_all) (by decide +kernel) (by show 1 ≤ d + 60; omega) ⟨rfl, trivial⟩ rfl rfl rfl
  | 2, hI, _ => exact zI_C1 (e := ze_t67) hI (zc_t67 zB_W zh_all) (by decide +kernel) (by show 1 ≤ d + 60; omega) ⟨rfl, trivial⟩ rfl rfl rfl
  | 3, hI, _ => exact zI_C1 (e := ze_t91) hI (zc_t91 zB_W zh_all) (by decide +kernel) (by show 1 ≤ d + 60; omega) ⟨rfl, trivial⟩ rfl rfl rfl

theorem zo_undo {L : Nat} {σ : Nat → Int32} {d c t : Nat} {H : zp_H} (hI : zI c t H) : ∃ H1 v, zp_Call L σ (d + 60) 20 [.inr (.inr (some 1))] H (.inl (some (.inl v)), H1) ∧ zI c t H1 := by
  match c, hI, hI.2.2.2.2.2 with
  | 0, hI, _ => exact zI_C1 (e := ze_t20) hI (zc_t20 zB_W zh_all) (by decide +kernel) (by show 2 ≤ d + 60; omega) ⟨rfl, trivial⟩ rfl rfl rfl
  | 1, hI, _ => exact zI_C1 (e := ze_t44) hI (zc_t44 zB_W zh_all) (by decide +kernel) (by show 2 ≤ d + 60; omega) ⟨rfl, trivial⟩ rfl rfl rfl
  | 2, hI, _ => exact zI_C1 (e := ze_t68) hI (zc_t68 zB_W zh_all) (by decide +kernel) (by show 2 ≤ d + 60; omega) ⟨rfl, trivial⟩ rfl rfl rfl
  | 3, hI, _ => exact zI_C1 (e := ze_t92) hI (zc_t92 zB_W zh_all) (by decide +kernel) (by show 2 ≤ d + 60; omega) ⟨rfl, trivial⟩ rfl rfl rfl

theorem zo_exam {L : Nat} {σ : Nat → Int32} {d c t : Nat} {H : zp_H} (hI : zI c t H) : ∃ H1 v, zp_Call L σ (d + 60) 22 [.inr (.inr (some 1))] H (.inl (some (.inl v)), H1) ∧ zI c t H1 := by
  match c, hI, hI.2.2.2.2.2 with
  | 0, hI, _ => exact zI_C1 (e := ze_t21) hI (zc_t21 zB_W zh_all) (by decide +kernel) (by show 7 ≤ d + 60; omega) ⟨rfl, trivial⟩ rfl rfl rfl
  | 1, hI, _ => exact zI_C1 (e := ze_t45) hI (zc_t45 zB_W zh_all) (by decide +kernel) (by show 7 ≤ d + 60; omega) ⟨rfl, trivial⟩ rfl rfl rfl
  | 2, hI, _ => exact zI_C1 (e := ze_t69) hI (zc_t69 zB_W zh_all) (by decide +kernel) (by show 7 ≤ d + 60; omega) ⟨rfl, trivial⟩ rfl rfl rfl
  | 3, hI, _ => exact zI_C1 (e := ze_t93) hI (zc_t93 zB_W zh_all) (by decide +kernel) (by show 7 ≤ d + 60; omega) ⟨rfl, trivial⟩ rfl rfl rfl

theorem zo_image {L : Nat} {σ : Nat → Int32} {d c t : Nat} {H : zp_H} (hI : zI c t H) : ∃ H1, zp_Call L σ (d + 60) 45 [.inr (.inr (some 1))] H (.inl none, H1) ∧ zI c t H1 := by
  match c, hI, hI.2.2.2.2.2 with
  | 0, hI, _ => exact zI_C0 (e := ze_t22) hI (zc_t22 zB_W zh_all) (by decide +kernel) (by show 2 ≤ d + 60; omega) ⟨rfl, trivial⟩ rfl rfl rfl
  | 1, hI, _ => exact zI_C0 (e := ze_t46) hI (zc_t46 zB_W zh_all) (by decide +kernel) (by show 2 ≤ d + 60; omega) ⟨rfl, trivial⟩ rfl rfl rfl
  | 2, hI, _ => exact zI_C0 (e := ze_t70) hI (zc_t70 zB_W zh_all) (by decide +kernel) (by show 2 ≤ d + 60; omega) ⟨rfl, trivial⟩ rfl rfl rfl
  | 3, hI, _ => exact zI_C0 (e := ze_t94) hI (zc_t94 zB_W zh_all) (by decide +kernel) (by show 2 ≤ d + 60; omega) ⟨rfl, trivial⟩ rfl rfl rfl

theorem zo_restore {L : Nat} {σ : Nat → Int32} {d c t : Nat} {H : zp_H} (hI : zI c t H) : ∃ H1 v, zp_Call L σ (d + 60) 47 [.inr (.inr (some 1))] H (.inl (some (.inl v)), H1) ∧ zI c t H1 := by
  match c, hI, hI.2.2.2.2.2 with
  | 0, hI, _ => exact zI_C1 (e := ze_t23) hI (zc_t23 zB_W zh_all) (by decide +kernel) (by show 2 ≤ d + 60; omega) ⟨rfl, trivial⟩ rfl rfl rfl
  | 1, hI, _ => exact zI_C1 (e := ze_t47) hI (zc_t47 zB_W zh_all) (by decide +kernel) (by show 2 ≤ d + 60; omega) ⟨rfl, trivial⟩ rfl rfl rfl
  | 2, hI, _ => exact zI_C1 (e := ze_t71) hI (zc_t71 zB_W zh_all) (by decide +kernel) (by show 2 ≤ d + 60; omega) ⟨rfl, trivial⟩ rfl rfl rfl
  | 3, hI, _ => exact zI_C1 (e := ze_t95) hI (zc_t95 zB_W zh_all) (by decide +kernel) (by show 2 ≤ d + 60; omega) ⟨rfl, trivial⟩ rfl rfl rfl

theorem zu_fault {L : Nat} {σ : Nat → Int32} {d c t : Nat} {H : zp_H} (hI : zI c t H) : ∃ H1 v, zp_Call L σ (d + 60) 205 [.inr (.inr (some 73))] H (.inl (some (.inl v)), H1) ∧ zI c t H1 :=
  zI_D1 (e := zr_e1) hI (z0rc_e1 z0R_W z0r_all) (by decide +kernel) (by show 1 ≤ d + 60; omega) ⟨rfl, trivial⟩ rfl rfl rfl

theorem zu_count {L : Nat} {σ : Nat → Int32} {d c t : Nat} {H : zp_H} {x1 : Int32} (hI : zI c t H) : ∃ H1 v, zp_Call L σ (d + 60) 206 [.inr (.inr (some 73)), .inl x1] H (.inl (some (.inl v)), H1) ∧ zI c t H1 :=
  zI_D1 (e := zr_e2) hI (z0rc_e2 z0R_W z0r_all) (by decide +kernel) (by show 2 ≤ d + 60; omega) ⟨rfl, zl_full _, trivial⟩ rfl rfl rfl

theorem zu_cell {L : Nat} {σ : Nat → Int32} {d c t : Nat} {H : zp_H} {x1 x2 : Int32} (hI : zI c t H) : ∃ H1 v, zp_Call L σ (d + 60) 207 [.inr (.inr (some 73)), .inl x1, .inl x2] H (.inl (some (.inl v)), H1) ∧ zI c t H1 :=
  zI_D1 (e := zr_e3) hI (z0rc_e3 z0R_W z0r_all) (by decide +kernel) (by show 3 ≤ d + 60; omega) ⟨rfl, zl_full _, zl_full _, trivial⟩ rfl rfl rfl

theorem zu_slate {L : Nat} {σ : Nat → Int32} {d c t : Nat} {H : zp_H} {x1 x2 : Int32} (hI : zI c t H) : ∃ H1 v, zp_Call L σ (d + 60) 209 [.inr (.inr (some 73)), .inl x1, .inl x2] H (.inl (some (.inl v)), H1) ∧ zI c t H1 :=
  zI_D1 (e := zr_e4) hI (z0rc_e4 z0R_W z0r_all) (by decide +kernel) (by show 3 ≤ d + 60; omega) ⟨rfl, zl_full _, zl_full _, trivial⟩ rfl rfl rfl

theorem zu_mark {L : Nat} {σ : Nat → Int32} {d c t : Nat} {H : zp_H} {x1 x2 x3 : Int32} (hI : zI c t H) : ∃ H1 v, zp_Call L σ (d + 60) 211 [.inr (.inr (some 73)), .inl x1, .inl x2, .inl x3] H (.inl (some (.inl v)), H1) ∧ zI c t H1 :=
  zI_D1 (e := zr_e5) hI (z0rc_e5 z0R_W z0r_all) (by decide +kernel) (by show 3 ≤ d + 60; omega) ⟨rfl, zl_full _, zl_full _, zl_full _, trivial⟩ rfl rfl rfl

theorem zu_voyage {L : Nat} {σ : Nat → Int32} {d c t : Nat} {H : zp_H} {x1 x2 : Int32} (hI : zI c t H) : ∃ H1 v, zp_Call L σ (d + 60) 219 [.inr (.inr (some 73)), .inl x1, .inl x2] H (.inl (some (.inl v)), H1) ∧ zI c t H1 :=
  zI_D1 (e := zr_e9) hI (z0rc_e9 z0R_W z0r_all) (by decide +kernel) (by show 4 ≤ d + 60; omega) ⟨rfl, zl_full _, zl_full _, trivial⟩ rfl rfl rfl

theorem zu_explained {L : Nat} {σ : Nat → Int32} {d c t : Nat} {H : zp_H} {x1 : Int32} (hI : zI c t H) : ∃ H1 v, zp_Call L σ (d + 60) 224 [.inr (.inr (some 73)), .inl x1] H (.inl (some (.inl v)), H1) ∧ zI c t H1 :=
  zI_D1 (e := zr_e10) hI (z0rc_e10 z0R_W z0r_all) (by decide +kernel) (by show 4 ≤ d + 60; omega) ⟨rfl, zl_full _, trivial⟩ rfl rfl rfl

theorem zu_where {L : Nat} {σ : Nat → Int32} {d c t : Nat} {H : zp_H} {x1 x2 : Int32} (hI : zI c t H) : ∃ (H1 : zp_H) (v : Int64), zp_Call L σ (d + 60) 225 [.inr (.inr (some 73)), .inl x1, .inl x2] H (.inl (some (.inr (.inl v))), H1) ∧ zI c t H1 :=
  zI_D2 (e := zr_e12) hI (z0rc_e12 z0R_W z0r_all) (by decide +kernel) (by show 4 ≤ d + 60; omega) ⟨rfl, zl_full _, zl_full _, trivial⟩ rfl rfl rfl

theorem zu_pilot {L : Nat} {σ : Nat → Int32} {d c t : Nat} {H : zp_H} {x1 x2 : Int32} (hI : zI c t H) : ∃ H1 v, zp_Call L σ (d + 60) 227 [.inr (.inr (some 73)), .inl x1, .inl x2] H (.inl (some (.inl v)), H1) ∧ zI c t H1 :=
  zI_D1 (e := zr_e13) hI (z0rc_e13 z0R_W z0r_all) (by decide +kernel) (by show 3 ≤ d + 60; omega) ⟨rfl, zl_full _, zl_full _, trivial⟩ rfl rfl rfl

theorem zu_sails {L : Nat} {σ : Nat → Int32} {d c t : Nat} {H : zp_H} {x1 x2 x3 : Int32} (hI : zI c t H) : ∃ H1 v, zp_Call L σ (d + 60) 229 [.inr (.inr (some 73)), .inl x1, .inl x2, .inl x3] H (.inl (some (.inl v)), H1) ∧ zI c t H1 :=
  zI_D1 (e := zr_e16) hI (z0rc_e16 z0R_W z0r_all) (by decide +kernel) (by show 10 ≤ d + 60; omega) ⟨rfl, zl_full _, zl_full _, zl_full _, trivial⟩ rfl rfl rfl

theorem zu_exam {L : Nat} {σ : Nat → Int32} {d c t : Nat} {H : zp_H} (hI : zI c t H) : ∃ H1 v, zp_Call L σ (d + 60) 236 [.inr (.inr (some 73))] H (.inl (some (.inl v)), H1) ∧ zI c t H1 :=
  zI_D1 (e := zr_e17) hI (z0rc_e17 z0R_W z0r_all) (by decide +kernel) (by show 10 ≤ d + 60; omega) ⟨rfl, trivial⟩ rfl rfl rfl

theorem zu_study {L : Nat} {σ : Nat → Int32} {d c t : Nat} {H : zp_H} {x1 : Int32} (hI : zI c t H) : ∃ H1 v, zp_Call L σ (d + 60) 237 [.inr (.inr (some 73)), .inl x1] H (.inl (some (.inl v)), H1) ∧ zI c t H1 :=
  zI_D1 (e := zr_e18) hI (z0rc_e18 z0R_W z0r_all) (by decide +kernel) (by show 25 ≤ d + 60; omega) ⟨rfl, zl_full _, trivial⟩ rfl rfl rfl

theorem zu_studied {L : Nat} {σ : Nat → Int32} {d c t : Nat} {H : zp_H} {x1 : Int32} (hI : zI c t H) : ∃ H1 v, zp_Call L σ (d + 60) 242 [.inr (.inr (some 73)), .inl x1] H (.inl (some (.inl v)), H1) ∧ zI c t H1 :=
  zI_D1 (e := zr_e19) hI (z0rc_e19 z0R_W z0r_all) (by decide +kernel) (by show 2 ≤ d + 60; omega) ⟨rfl, zl_full _, trivial⟩ rfl rfl rfl

theorem zu_dive {L : Nat} {σ : Nat → Int32} {d c t : Nat} {H : zp_H} {x1 x2 : Int32} (hI : zI c t H) : ∃ H1 v, zp_Call L σ (d + 60) 243 [.inr (.inr (some 73)), .inl x1, .inl x2] H (.inl (some (.inl v)), H1) ∧ zI c t H1 :=
  zI_D1 (e := zr_e20) hI (z0rc_e20 z0R_W z0r_all) (by decide +kernel) (by show 4 ≤ d + 60; omega) ⟨rfl, zl_full _, zl_full _, trivial⟩ rfl rfl rfl

theorem zu_chart {L : Nat} {σ : Nat → Int32} {d c t : Nat} {H : zp_H} {x1 : Int32} (hI : zI c t H) : ∃ (H1 : zp_H) (v : Int64), zp_Call L σ (d + 60) 244 [.inr (.inr (some 73)), .inl x1] H (.inl (some (.inr (.inl v))), H1) ∧ zI c t H1 :=
  zI_D2 (e := zr_e21) hI (z0rc_e21 z0R_W z0r_all) (by decide +kernel) (by show 5 ≤ d + 60; omega) ⟨rfl, zl_full _, trivial⟩ rfl rfl rfl

theorem zu_hand {L : Nat} {σ : Nat → Int32} {d c t : Nat} {H : zp_H} {x1 x2 : Int32} (hI : zI c t H) : ∃ (H1 : zp_H) (v : Int64), zp_Call L σ (d + 60) 245 [.inr (.inr (some 73)), .inl x1, .inl x2] H (.inl (some (.inr (.inl v))), H1) ∧ zI c t H1 :=
  zI_D2 (e := zr_e23) hI (z0rc_e23 z0R_W z0r_all) (by decide +kernel) (by show 3 ≤ d + 60; omega) ⟨rfl, zl_full _, zl_full _, trivial⟩ rfl rfl rfl

theorem zu_copied {L : Nat} {σ : Nat → Int32} {d c t : Nat} {H : zp_H} {x1 x2 x3 : Int32} (hI : zI c t H) : ∃ H1 v, zp_Call L σ (d + 60) 247 [.inr (.inr (some 73)), .inl x1, .inl x2, .inl x3] H (.inl (some (.inl v)), H1) ∧ zI c t H1 :=
  zI_D1 (e := zr_e25) hI (z0rc_e25 z0R_W z0r_all) (by decide +kernel) (by show 3 ≤ d + 60; omega) ⟨rfl, zl_full _, zl_full _, zl_full _, trivial⟩ rfl rfl rfl

theorem zu_undo {L : Nat} {σ : Nat → Int32} {d c t : Nat} {H : zp_H} (hI : zI c t H) : ∃ H1 v, zp_Call L σ (d + 60) 218 [.inr (.inr (some 73))] H (.inl (some (.inl v)), H1) ∧ zI c t H1 := by
  obtain ⟨_, c1, H1, v, rfl, c2, c3⟩ := z0t_undo (L := L) (σ := σ) (d := d + 59) hI.2.1
  exact ⟨H1, v, c1, zI_afF hI c2 c3 (by decide) (by decide)⟩
theorem zu_write {L : Nat} {σ : Nat → Int32} {d c t : Nat} {H : zp_H} {x1 x2 x3 : Int32} (hI : zI c t H) : ∃ H1 v, zp_Call L σ (d + 60) 213 [.inr (.inr (some 73)), .inl x1, .inl x2, .inl x3] H (.inl (some (.inl v)), H1) ∧ zI c t H1 := by
  obtain ⟨_, c1, H1, v, rfl, c2, c3⟩ := z0t_write (L := L) (σ := σ) (d := d + 57) (xs := x1) (xw := x2) (xt := x3) hI.2.1
  exact ⟨H1, v, c1, zI_afF hI c2 c3 (by decide) (by decide)⟩
theorem zu_rub {L : Nat} {σ : Nat → Int32} {d c t : Nat} {H : zp_H} {x1 x2 x3 : Int32} (hI : zI c t H) : ∃ H1 v, zp_Call L σ (d + 60) 216 [.inr (.inr (some 73)), .inl x1, .inl x2, .inl x3] H (.inl (some (.inl v)), H1) ∧ zI c t H1 := by
  obtain ⟨_, c1, H1, v, rfl, c2, c3⟩ := z0t_rub (L := L) (σ := σ) (d := d + 57) (xs := x1) (xd := x2) (xc := x3) hI.2.1
  exact ⟨H1, v, c1, zI_afF hI c2 c3 (by decide) (by decide)⟩
theorem zu_image {L : Nat} {σ : Nat → Int32} {d c t : Nat} {H : zp_H} (hI : zI c t H) : ∃ H1, zp_Call L σ (d + 60) 249 [.inr (.inr (some 73))] H (.inl none, H1) ∧ zI c t H1 := by
  obtain ⟨_, c1, H1, rfl, c2, c3⟩ := z0t_image (L := L) (σ := σ) (d := d + 58) hI.2.1
  exact ⟨H1, c1, zI_afF hI c2 c3 (by decide) (by decide)⟩
theorem zu_restore {L : Nat} {σ : Nat → Int32} {d c t : Nat} {H : zp_H} (hI : zI c t H) : ∃ H1 v, zp_Call L σ (d + 60) 250 [.inr (.inr (some 73))] H (.inl (some (.inl v)), H1) ∧ zI c t H1 := by
  obtain ⟨_, c1, H1, v, rfl, c2, c3⟩ := z0t_restore (L := L) (σ := σ) (d := d + 58) hI.2.1
  exact ⟨H1, v, c1, zI_afF hI c2 c3 (by decide) (by decide)⟩

theorem zo_feed {L : Nat} {σ : Nat → Int32} {d c t : Nat} {H : zp_H} {x1 x2 x3 x4 x5 : Int32} (hI : zI c t H) : ∃ H1 H2 v w t', zp_Call L σ (d + 60) 17 [.inr (.inr (some 1)), .inl x1, .inl x2, .inl x3, .inl x4, .inl x5] H (.inl (some (.inl v)), H1) ∧ zp_Call L σ (d + 60) 167 [.inr (.inr (some 73)), .inl x1, .inl x2, .inl x3, .inl x4, .inl x5] H1 (.inl (some (.inl w)), H2) ∧ v.toInt = w.toInt ∧ H1.1 = zB_sh ∧ zI c t' H2 := by
  obtain ⟨h1, h2, h3, h4, h5, h6⟩ := hI
  obtain ⟨⟨x, H1⟩, a1, a2, a3, o, a4, a5⟩ := zB_ct (c := c) (zdo_fd (L := L) (σ := σ) zB_W (c := t) (by omega)) (d + 60) (by show 2 ≤ d + 60; omega) [.inr (.inr (some 1)), .inl x1, .inl x2, .inl x3, .inl x4, .inl x5] H ⟨rfl, zl_full _, zl_full _, zl_full _, zl_full _, zl_full _, trivial⟩ h1 (fun f hf => by
    rcases List.mem_cons.mp hf with rfl | hf
    · show zk_in (H.2.1 0 1).toInt _
      rw [h3]
      exact ⟨Int.le_refl _, Int.le_refl _⟩
    · exact absurd hf List.not_mem_nil)
  have hC : zf_C H H1 := zI_frc a3 rfl rfl
  have b2 : zk_Bs z0R zg zJ H1 := zI_R h2 a2.1 (zI_rf a2) hC
  have g4 : (H1.2.1 72 22).toInt = (20 * t : Nat) := by
    rw [(hC 72 22 (by decide) (by decide) (by decide)).1]
    exact h4
  obtain ⟨⟨y, H2⟩, b1, c2, b3, o', b4, b5⟩ := z0ro_fd (L := L) (σ := σ) (c := t) (by omega) (d + 60) (by show 2 ≤ d + 60; omega) [.inr (.inr (some 73)), .inl x1, .inl x2, .inl x3, .inl x4, .inl x5] H1 ⟨rfl, zl_full _, zl_full _, zl_full _, zl_full _, zl_full _, trivial⟩ b2 (fun f hf => by
    rcases List.mem_cons.mp hf with rfl | hf
    · show zk_in (H1.2.1 72 22).toInt _
      rw [g4]
      exact ⟨Int.le_refl _, Int.le_refl _⟩
    · exact absurd hf List.not_mem_nil)
  have hF : zf_72 H1 H2 := zf_of b3 rfl rfl
  have k1 := zI_B a2 c2.1 hF
  have e01 : H2.2.1 0 1 = H1.2.1 0 1 := (hF.2 0 1 (by decide)).1
  have a4 := List.mem_singleton.mp a4
  have b4 := List.mem_singleton.mp b4
  subst a4 b4
  by_cases ht : t < 35
  · have hb : Nat.blt t 35 = true := Nat.ble_eq_true_of_le ht
    rw [hb] at a5 b5
    obtain ⟨p1, p2, -⟩ := a5
    obtain ⟨q1, q2, -⟩ := b5
    have p3 := p2 _ List.mem_cons_self
    have q3 := q2 _ List.mem_cons_self
    match x, y, p1, q1 with
    | .inl (some (.inl v)), .inl (some (.inl w)), p1, q1 =>
      have p1 : ((20 * t + 20 : Nat) : Int) ≤ v.toInt ∧ v.toInt ≤ ((20 * t + 20 : Nat) : Int) := p1
      have q1 : ((20 * t + 20 : Nat) : Int) ≤ w.toInt ∧ w.toInt ≤ ((20 * t + 20 : Nat) : Int) := q1
      have p3 : ((20 * t + 20 : Nat) : Int) ≤ (H1.2.1 0 1).toInt ∧ (H1.2.1 0 1).toInt ≤ ((20 * t + 20 : Nat) : Int) := p3
      have q3 : ((20 * t + 20 : Nat) : Int) ≤ (H2.2.1 72 22).toInt ∧ (H2.2.1 72 22).toInt ≤ ((20 * t + 20 : Nat) : Int) := q3
      exact ⟨H1, H2, v, w, t + 1, a1, b1, by omega, a2.1, k1, c2, by rw [e01]; omega, by omega, by omega, h6⟩
  · have hb : Nat.blt t 35 = false := by
      cases hb : Nat.blt t 35 with
      | false => rfl
      | true => exact absurd (za_blt hb) ht
    have ht : t = 35 := by omega
    subst ht
    obtain ⟨p1, p2, -⟩ := a5
    obtain ⟨q1, q2, -⟩ := b5
    have p3 := p2 _ List.mem_cons_self
    have q3 := q2 _ List.mem_cons_self
    match x, y, p1, q1 with
    | .inl (some (.inl v)), .inl (some (.inl w)), p1, q1 =>
      have p1 : (-1 : Int) ≤ v.toInt ∧ v.toInt ≤ (-1 : Int) := p1
      have q1 : (-1 : Int) ≤ w.toInt ∧ w.toInt ≤ (-1 : Int) := q1
      have p3 : (700 : Int) ≤ (H1.2.1 0 1).toInt ∧ (H1.2.1 0 1).toInt ≤ (700 : Int) := p3
      have q3 : (700 : Int) ≤ (H2.2.1 72 22).toInt ∧ (H2.2.1 72 22).toInt ≤ (700 : Int) := q3
      exact ⟨H1, H2, v, w, 35, a1, b1, by omega, a2.1, k1, c2, by rw [e01]; omega, by omega, by omega, h6⟩

theorem zo_seaN {L : Nat} {σ : Nat → Int32} {d c t : Nat} {H : zp_H} {x : Int32} (hI : zI c t H) (hx : ¬ (0 ≤ x.toInt ∧ x.toInt ≤ (H.2.1 0 1).toInt)) : zp_Call L σ (d + 2) 48 [.inr (.inr (some 1)), .inl x, .inr (.inr (some 105))] H (.inl (some (.inl (Int32.ofInt 1))), H) := by
  have W := zB_Wd (zB_dn (zB_Bc hI.1))
  refine zw_ex (zw_met zm_48_t rfl rfl ?_)
  refine zw_ld (n := 1) (k := 2) (f := zp_isR) (pc' := 1) rfl rfl rfl rfl rfl ?_
  refine zw_s (pc' := 2) rfl rfl ?_
  refine zw_ld (n := 1) (k := 0) (f := zp_isR) (pc' := 3) rfl rfl rfl rfl rfl ?_
  refine zw_ld (n := 1) (k := 1) (f := zp_isI) (pc' := 4) rfl rfl rfl rfl rfl ?_
  refine zw_cex (ex := 1) (hp9 := 12) (pc' := 13) (c' := (1, 6)) (zw_cv (q := 0) (Y := zm_49) W.1 rfl rfl zm_49_t rfl rfl) (zw_pb_ok rfl) rfl rfl rfl rfl rfl rfl rfl (zsc_no (zB_Bc hI.1) hx) ?_
  refine zw_s (pc' := 14) rfl rfl ?_
  refine zw_rig rfl rfl ⟨by decide, by decide⟩ ?_
  rfl

theorem zsc_o {c k : Nat} {H : zp_H} {u : Int64} (h : zk_Bs (zB_c c) zg zJc H) : zk_Bs (zB_c c) zg zJc (zw_J H 104 k u) := by
  refine ⟨h.1, h.2.1, fun q hq => absurd hq List.not_mem_nil, fun q hq => absurd hq List.not_mem_nil, fun p' j r hr' => Or.inr ?_, h.2.2.2.2.2.1, fun e he => Or.inr ?_, zJc_c (H := H) (fun q j hz => ⟨rfl, zp_u_ne (fun h9 => by have := zI_bz hz; have := h9.1; omega)⟩) h.2.2.2.2.2.2.2⟩
  · rcases h.2.2.2.2.1 p' j r hr' with ⟨q, q1, _⟩ | h9
    · exact absurd q1 List.not_mem_nil
    unfold zk_fv at h9 ⊢
    by_cases hh : p' = 72 ∧ j = 100
    · obtain ⟨rfl, rfl⟩ := hh
      cases hr'
    · rw [if_neg hh] at h9 ⊢
      exact h9
  · rcases h.2.2.2.2.2.2.1 e he with ⟨q, q1, _⟩ | h9
    · exact absurd q1 List.not_mem_nil
    have he : e ∈ zB_cd := he
    unfold zB_cd at he
    rcases List.mem_cons.mp he with rfl | he
    · exact h9
    · exact absurd he List.not_mem_nil

theorem zo_seaY {L : Nat} {σ : Nat → Int32} {d c t : Nat} {H : zp_H} {x : Int32} (hI : zI c t H) (hx : 0 ≤ x.toInt ∧ x.toInt ≤ (H.2.1 0 1).toInt) : ∃ X, zp_Call L σ (d + 60) 48 [.inr (.inr (some 1)), .inl x, .inr (.inr (some 105))] H X ∧ (fun X : zp_X => ∃ (v : Int32) (H1 : zp_H) (c : Nat), X = (.inl (some (.inl v)), H1) ∧ c < 4 ∧ zk_Bs (zB_c c) zg zJc H1 ∧ zf_C H H1 ∧ (H1.2.1 0 1).toInt = 0) X := by
  have W := zB_Wd (zB_dn (zB_Bc hI.1))
  obtain ⟨_, c1, v, H1, c', rfl, c2, c3, c4, c5⟩ := zsc_yes (L := L) (σ := σ) (d := d + 10) hI.2.2.2.2.2 hI.1 hx
  have W1 := zB_Wd (zB_dn (zB_Bc c3))
  refine zw_met zm_48_t rfl rfl ?_
  refine zw_ld (n := 1) (k := 2) (f := zp_isR) (pc' := 1) rfl rfl rfl rfl rfl ?_
  refine zw_s (pc' := 2) rfl rfl ?_
  refine zw_ld (n := 1) (k := 0) (f := zp_isR) (pc' := 3) rfl rfl rfl rfl rfl ?_
  refine zw_ld (n := 1) (k := 1) (f := zp_isI) (pc' := 4) rfl rfl rfl rfl rfl ?_
  refine zw_ct (pc' := 7) (c' := (1, 6)) (zw_cv (q := 0) (Y := zm_49) W.1 rfl rfl zm_49_t rfl rfl) (zw_pb_ok rfl) rfl rfl rfl rfl c1 ?_
  refine zw_s (pc' := 8) rfl rfl ?_
  refine zw_ls (q := 104) (pc' := 9) W1 rfl rfl (⟨by decide, by decide⟩) rfl ?_
  refine zw_s (pc' := 15) rfl rfl ?_
  refine zw_s (pc' := 16) rfl rfl ?_
  refine zw_rig rfl rfl ⟨by decide, by decide⟩ ?_
  exact ⟨_, _, c', rfl, c2, zsc_o c3, fun p k h1 h2 h3 => ⟨(c4 p k h1 h2 h3).1, (zp_u_ne (fun h9 => h2 h9.1)).trans (c4 p k h1 h2 h3).2⟩, c5⟩

theorem zo_sea {L : Nat} {σ : Nat → Int32} {d c t : Nat} {H : zp_H} {x : Int32} (hI : zI c t H) : ∃ H1 H2 v w c' t', zp_Call L σ (d + 60) 48 [.inr (.inr (some 1)), .inl x, .inr (.inr (some 105))] H (.inl (some (.inl v)), H1) ∧ zp_Call L σ (d + 60) 169 [.inr (.inr (some 73)), .inl x] H1 (.inl (some (.inl w)), H2) ∧ H1.1 = zB_sh ∧ zI c' t' H2 := by
  by_cases hx : 0 ≤ x.toInt ∧ x.toInt ≤ (H.2.1 0 1).toInt
  · obtain ⟨_, c1, v, H1, c', rfl, c2, c3, c4, c5⟩ := zo_seaY (L := L) (σ := σ) (d := d) hI hx
    obtain ⟨h1, h2, h3, h4, h5, h6⟩ := hI
    have b2 : zk_Bs z0R zg zJ H1 := zI_R h2 c3.1 (zI_rf c3) c4
    have e22 := (c4 72 22 (by decide) (by decide) (by decide)).1
    obtain ⟨_, a1, H2, w, rfl, a2, a3, a4⟩ := zse_yes0 (L := L) (σ := σ) (d := d + 47) (x := x) b2 (by rw [e22, h4, ← h3]; exact hx)
    refine ⟨H1, H2, v, w, c', 0, c1, a1, c3.1, zI_B c3 a2.1 a3, zR_dn a2, ?_, a4, by decide, c2⟩
    rw [(a3.2 0 1 (by decide)).1]
    exact c5
  · have c1 := zo_seaN (L := L) (σ := σ) (d := d + 58) hI hx
    obtain ⟨h1, h2, h3, h4, h5, h6⟩ := hI
    obtain ⟨_, a1, H2, w, rfl, a2, a3, a4⟩ := z0se_no (L := L) (σ := σ) (d := d + 58) (x := x) h2 (by rw [h4, ← h3]; exact hx)
    exact ⟨H, H2, _, w, c, t, c1, a1, h1.1, zI_af ⟨h1, h2, h3, h4, h5, h6⟩ a2 a3 a4⟩
