/-! ===== calls that leave the kept row alone ===== -/
def yF_m (mods : List (Nat × Nat)) (am : List Nat) : Bool := (mods.all (fun q => ((((Nat.beq q.1 60).and (Nat.beq q.2 11)).or ((Nat.beq q.1 72).and (Nat.beq q.2 79))).or ((Nat.beq q.1 69).or (Nat.beq q.1 100))).not)).and (am.all (fun q => (((Nat.beq q 60).or (Nat.beq q 72)).or ((Nat.beq q 69).or (Nat.beq q 100))).not))
theorem yF_Fr {mods : List (Nat × Nat)} {am : List Nat} {H H' : zp_H} (h : zk_Fr zg mods am H H') (hn : yF_m mods am = true) (hF : yFd H) : yFd H' := by
  obtain ⟨m1, m2⟩ := Bool.and_eq_true_iff.mp hn
  exact yFd_k (zI_in h (p := 72) (k := 79) (zI_nm m1 rfl) (zI_na m2 rfl) (fun h9 => absurd h9.2 (by decide))).1 (zI_in h (p := 60) (k := 11) (zI_nm m1 rfl) (zI_na m2 rfl) (fun h9 => absurd h9.1 (by decide))).1 (fun k => (zI_in h (p := 69) (k := k) (zI_nm m1 (by cases Nat.beq k 11 <;> cases Nat.beq k 79 <;> rfl)) (zI_na m2 rfl) (fun h9 => absurd h9.1 (by decide))).1) (fun k => (zI_in h (p := 100) (k := k) (zI_nm m1 (by cases Nat.beq k 11 <;> cases Nat.beq k 79 <;> rfl)) (zI_na m2 rfl) (fun h9 => absurd h9.1 (by decide))).1) hF
theorem yF_C {L : Nat} {σ : Nat → Int32} {d c t : Nat} {H : zp_H} {e : zk_T} {as : List zp_V} (hI : yI c t H) (hct : zk_Ct L σ (zB_c c) zg zJc e) (hn : yF_m e.2.2.2.1 e.2.2.2.2.1 = true) (hd : e.2.2.2.2.2.2 ≤ d) {j : Nat} (hj : e.1 = j) {X : zp_X} (c1 : zp_Call L σ d j as H X) (ha : za_F2 zk_pv e.2.1 as) (hp : e.2.2.1 = []) (hF : yFd H) : yFd X.2 := by
  subst hj
  obtain ⟨X', y1, y2, y3, -⟩ := hct d hd as H ha hI.1.1 (by rw [hp]; exact fun f hf => absurd hf List.not_mem_nil)
  obtain rfl := zp_Call_u c1 y1
  exact yF_Fr y3 hn hF
theorem yF_D {L : Nat} {σ : Nat → Int32} {d c t : Nat} {H : zp_H} {e : zk_T} {as : List zp_V} (hI : yI c t H) (hct : zk_Ct L σ z0R zg zJ e) (hn : yF_m e.2.2.2.1 e.2.2.2.2.1 = true) (hd : e.2.2.2.2.2.2 ≤ d) {j : Nat} (hj : e.1 = j) {X : zp_X} (c1 : zp_Call L σ d j as H X) (ha : za_F2 zk_pv e.2.1 as) (hp : e.2.2.1 = []) (hF : yFd H) : yFd X.2 := by
  subst hj
  obtain ⟨X', y1, y2, y3, -⟩ := hct d hd as H ha hI.1.2.1 (by rw [hp]; exact fun f hf => absurd hf List.not_mem_nil)
  obtain rfl := zp_Call_u c1 y1
  exact yF_Fr y3 hn hF
theorem yFo_fault {L : Nat} {σ : Nat → Int32} {d c t : Nat} {H : zp_H} (hI : yI c t H) {X : zp_X} (c1 : zp_Call L σ (d + 60) 19 [.inr (.inr (some 1))] H X) (hF : yFd H) : yFd X.2 := by
  match c, hI, hI.1.2.2.2.2.2 with
  | 0, hI, _ => exact yF_C (e := ze_t19) hI (zc_t19 zB_W zh_all) (by decide +kernel) (by show 1 ≤ d + 60; omega) rfl c1 ⟨rfl, trivial⟩ rfl hF
  | 1, hI, _ => exact yF_C (e := ze_t43) hI (zc_t43 zB_W zh_all) (by decide +kernel) (by show 1 ≤ d + 60; omega) rfl c1 ⟨rfl, trivial⟩ rfl hF
  | 2, hI, _ => exact yF_C (e := ze_t67) hI (zc_t67 zB_W zh_all) (by decide +kernel) (by show 1 ≤ d + 60; omega) rfl c1 ⟨rfl, trivial⟩ rfl hF
  | 3, hI, _ => exact yF_C (e := ze_t91) hI (zc_t91 zB_W zh_all) (by decide +kernel) (by show 1 ≤ d + 60; omega) rfl c1 ⟨rfl, trivial⟩ rfl hF
theorem yFo_count {L : Nat} {σ : Nat → Int32} {d c t : Nat} {H : zp_H} {x1 : Int32} (hI : yI c t H) {X : zp_X} (c1 : zp_Call L σ (d + 60) 100 [.inr (.inr (some 1)), .inl x1, .inr (.inr (some 105))] H X) (hF : yFd H) : yFd X.2 := by
  match c, hI, hI.1.2.2.2.2.2 with
  | 0, hI, _ => exact yF_C (e := ze_t0) hI (zc_t0 zB_W zh_all) (by decide +kernel) (by show 3 ≤ d + 60; omega) rfl c1 ⟨rfl, zl_full _, rfl, trivial⟩ rfl hF
  | 1, hI, _ => exact yF_C (e := ze_t24) hI (zc_t24 zB_W zh_all) (by decide +kernel) (by show 3 ≤ d + 60; omega) rfl c1 ⟨rfl, zl_full _, rfl, trivial⟩ rfl hF
  | 2, hI, _ => exact yF_C (e := ze_t48) hI (zc_t48 zB_W zh_all) (by decide +kernel) (by show 3 ≤ d + 60; omega) rfl c1 ⟨rfl, zl_full _, rfl, trivial⟩ rfl hF
  | 3, hI, _ => exact yF_C (e := ze_t72) hI (zc_t72 zB_W zh_all) (by decide +kernel) (by show 3 ≤ d + 60; omega) rfl c1 ⟨rfl, zl_full _, rfl, trivial⟩ rfl hF
theorem yFo_cell {L : Nat} {σ : Nat → Int32} {d c t : Nat} {H : zp_H} {x1 x2 : Int32} (hI : yI c t H) {X : zp_X} (c1 : zp_Call L σ (d + 60) 102 [.inr (.inr (some 1)), .inl x1, .inl x2, .inr (.inr (some 105))] H X) (hF : yFd H) : yFd X.2 := by
  match c, hI, hI.1.2.2.2.2.2 with
  | 0, hI, _ => exact yF_C (e := ze_t1) hI (zc_t1 zB_W zh_all) (by decide +kernel) (by show 3 ≤ d + 60; omega) rfl c1 ⟨rfl, zl_full _, zl_full _, rfl, trivial⟩ rfl hF
  | 1, hI, _ => exact yF_C (e := ze_t25) hI (zc_t25 zB_W zh_all) (by decide +kernel) (by show 3 ≤ d + 60; omega) rfl c1 ⟨rfl, zl_full _, zl_full _, rfl, trivial⟩ rfl hF
  | 2, hI, _ => exact yF_C (e := ze_t49) hI (zc_t49 zB_W zh_all) (by decide +kernel) (by show 3 ≤ d + 60; omega) rfl c1 ⟨rfl, zl_full _, zl_full _, rfl, trivial⟩ rfl hF
  | 3, hI, _ => exact yF_C (e := ze_t73) hI (zc_t73 zB_W zh_all) (by decide +kernel) (by show 3 ≤ d + 60; omega) rfl c1 ⟨rfl, zl_full _, zl_full _, rfl, trivial⟩ rfl hF
theorem yFo_slate {L : Nat} {σ : Nat → Int32} {d c t : Nat} {H : zp_H} {x1 x2 : Int32} (hI : yI c t H) {X : zp_X} (c1 : zp_Call L σ (d + 60) 106 [.inr (.inr (some 1)), .inl x1, .inl x2, .inr (.inr (some 105))] H X) (hF : yFd H) : yFd X.2 := by
  match c, hI, hI.1.2.2.2.2.2 with
  | 0, hI, _ => exact yF_C (e := ze_t2) hI (zc_t2 zB_W zh_all) (by decide +kernel) (by show 3 ≤ d + 60; omega) rfl c1 ⟨rfl, zl_full _, zl_full _, rfl, trivial⟩ rfl hF
  | 1, hI, _ => exact yF_C (e := ze_t26) hI (zc_t26 zB_W zh_all) (by decide +kernel) (by show 3 ≤ d + 60; omega) rfl c1 ⟨rfl, zl_full _, zl_full _, rfl, trivial⟩ rfl hF
  | 2, hI, _ => exact yF_C (e := ze_t50) hI (zc_t50 zB_W zh_all) (by decide +kernel) (by show 3 ≤ d + 60; omega) rfl c1 ⟨rfl, zl_full _, zl_full _, rfl, trivial⟩ rfl hF
  | 3, hI, _ => exact yF_C (e := ze_t74) hI (zc_t74 zB_W zh_all) (by decide +kernel) (by show 3 ≤ d + 60; omega) rfl c1 ⟨rfl, zl_full _, zl_full _, rfl, trivial⟩ rfl hF
theorem yFo_mark {L : Nat} {σ : Nat → Int32} {d c t : Nat} {H : zp_H} {x1 x2 x3 : Int32} (hI : yI c t H) {X : zp_X} (c1 : zp_Call L σ (d + 60) 109 [.inr (.inr (some 1)), .inl x1, .inl x2, .inl x3, .inr (.inr (some 105))] H X) (hF : yFd H) : yFd X.2 := by
  match c, hI, hI.1.2.2.2.2.2 with
  | 0, hI, _ => exact yF_C (e := ze_t3) hI (zc_t3 zB_W zh_all) (by decide +kernel) (by show 3 ≤ d + 60; omega) rfl c1 ⟨rfl, zl_full _, zl_full _, zl_full _, rfl, trivial⟩ rfl hF
  | 1, hI, _ => exact yF_C (e := ze_t27) hI (zc_t27 zB_W zh_all) (by decide +kernel) (by show 3 ≤ d + 60; omega) rfl c1 ⟨rfl, zl_full _, zl_full _, zl_full _, rfl, trivial⟩ rfl hF
  | 2, hI, _ => exact yF_C (e := ze_t51) hI (zc_t51 zB_W zh_all) (by decide +kernel) (by show 3 ≤ d + 60; omega) rfl c1 ⟨rfl, zl_full _, zl_full _, zl_full _, rfl, trivial⟩ rfl hF
  | 3, hI, _ => exact yF_C (e := ze_t75) hI (zc_t75 zB_W zh_all) (by decide +kernel) (by show 3 ≤ d + 60; omega) rfl c1 ⟨rfl, zl_full _, zl_full _, zl_full _, rfl, trivial⟩ rfl hF
theorem yFo_write {L : Nat} {σ : Nat → Int32} {d c t : Nat} {H : zp_H} {x1 x2 x3 : Int32} (hI : yI c t H) {X : zp_X} (c1 : zp_Call L σ (d + 60) 111 [.inr (.inr (some 1)), .inl x1, .inl x2, .inl x3, .inr (.inr (some 105))] H X) (hF : yFd H) : yFd X.2 := by
  match c, hI, hI.1.2.2.2.2.2 with
  | 0, hI, _ => exact yF_C (e := ze_t4) hI (zc_t4 zB_W zh_all) (by decide +kernel) (by show 3 ≤ d + 60; omega) rfl c1 ⟨rfl, zl_full _, zl_full _, zl_full _, rfl, trivial⟩ rfl hF
  | 1, hI, _ => exact yF_C (e := ze_t28) hI (zc_t28 zB_W zh_all) (by decide +kernel) (by show 3 ≤ d + 60; omega) rfl c1 ⟨rfl, zl_full _, zl_full _, zl_full _, rfl, trivial⟩ rfl hF
  | 2, hI, _ => exact yF_C (e := ze_t52) hI (zc_t52 zB_W zh_all) (by decide +kernel) (by show 3 ≤ d + 60; omega) rfl c1 ⟨rfl, zl_full _, zl_full _, zl_full _, rfl, trivial⟩ rfl hF
  | 3, hI, _ => exact yF_C (e := ze_t76) hI (zc_t76 zB_W zh_all) (by decide +kernel) (by show 3 ≤ d + 60; omega) rfl c1 ⟨rfl, zl_full _, zl_full _, zl_full _, rfl, trivial⟩ rfl hF
theorem yFo_rub {L : Nat} {σ : Nat → Int32} {d c t : Nat} {H : zp_H} {x1 x2 x3 : Int32} (hI : yI c t H) {X : zp_X} (c1 : zp_Call L σ (d + 60) 114 [.inr (.inr (some 1)), .inl x1, .inl x2, .inl x3, .inr (.inr (some 105))] H X) (hF : yFd H) : yFd X.2 := by
  match c, hI, hI.1.2.2.2.2.2 with
  | 0, hI, _ => exact yF_C (e := ze_t5) hI (zc_t5 zB_W zh_all) (by decide +kernel) (by show 3 ≤ d + 60; omega) rfl c1 ⟨rfl, zl_full _, zl_full _, zl_full _, rfl, trivial⟩ rfl hF
  | 1, hI, _ => exact yF_C (e := ze_t29) hI (zc_t29 zB_W zh_all) (by decide +kernel) (by show 3 ≤ d + 60; omega) rfl c1 ⟨rfl, zl_full _, zl_full _, zl_full _, rfl, trivial⟩ rfl hF
  | 2, hI, _ => exact yF_C (e := ze_t53) hI (zc_t53 zB_W zh_all) (by decide +kernel) (by show 3 ≤ d + 60; omega) rfl c1 ⟨rfl, zl_full _, zl_full _, zl_full _, rfl, trivial⟩ rfl hF
  | 3, hI, _ => exact yF_C (e := ze_t77) hI (zc_t77 zB_W zh_all) (by decide +kernel) (by show 3 ≤ d + 60; omega) rfl c1 ⟨rfl, zl_full _, zl_full _, zl_full _, rfl, trivial⟩ rfl hF
theorem yFo_undo {L : Nat} {σ : Nat → Int32} {d c t : Nat} {H : zp_H} (hI : yI c t H) {X : zp_X} (c1 : zp_Call L σ (d + 60) 20 [.inr (.inr (some 1))] H X) (hF : yFd H) : yFd X.2 := by
  match c, hI, hI.1.2.2.2.2.2 with
  | 0, hI, _ => exact yF_C (e := ze_t20) hI (zc_t20 zB_W zh_all) (by decide +kernel) (by show 2 ≤ d + 60; omega) rfl c1 ⟨rfl, trivial⟩ rfl hF
  | 1, hI, _ => exact yF_C (e := ze_t44) hI (zc_t44 zB_W zh_all) (by decide +kernel) (by show 2 ≤ d + 60; omega) rfl c1 ⟨rfl, trivial⟩ rfl hF
  | 2, hI, _ => exact yF_C (e := ze_t68) hI (zc_t68 zB_W zh_all) (by decide +kernel) (by show 2 ≤ d + 60; omega) rfl c1 ⟨rfl, trivial⟩ rfl hF
  | 3, hI, _ => exact yF_C (e := ze_t92) hI (zc_t92 zB_W zh_all) (by decide +kernel) (by show 2 ≤ d + 60; omega) rfl c1 ⟨rfl, trivial⟩ rfl hF
theorem yFo_voyage {L : Nat} {σ : Nat → Int32} {d c t : Nat} {H : zp_H} {x1 x2 : Int32} (hI : yI c t H) {X : zp_X} (c1 : zp_Call L σ (d + 60) 118 [.inr (.inr (some 1)), .inl x1, .inl x2, .inr (.inr (some 105))] H X) (hF : yFd H) : yFd X.2 := by
  match c, hI, hI.1.2.2.2.2.2 with
  | 0, hI, _ => exact yF_C (e := ze_t6) hI (zc_t6 zB_W zh_all) (by decide +kernel) (by show 7 ≤ d + 60; omega) rfl c1 ⟨rfl, zl_full _, zl_full _, rfl, trivial⟩ rfl hF
  | 1, hI, _ => exact yF_C (e := ze_t30) hI (zc_t30 zB_W zh_all) (by decide +kernel) (by show 7 ≤ d + 60; omega) rfl c1 ⟨rfl, zl_full _, zl_full _, rfl, trivial⟩ rfl hF
  | 2, hI, _ => exact yF_C (e := ze_t54) hI (zc_t54 zB_W zh_all) (by decide +kernel) (by show 7 ≤ d + 60; omega) rfl c1 ⟨rfl, zl_full _, zl_full _, rfl, trivial⟩ rfl hF
  | 3, hI, _ => exact yF_C (e := ze_t78) hI (zc_t78 zB_W zh_all) (by decide +kernel) (by show 7 ≤ d + 60; omega) rfl c1 ⟨rfl, zl_full _, zl_full _, rfl, trivial⟩ rfl hF
theorem yFo_explained {L : Nat} {σ : Nat → Int32} {d c t : Nat} {H : zp_H} {x1 : Int32} (hI : yI c t H) {X : zp_X} (c1 : zp_Call L σ (d + 60) 120 [.inr (.inr (some 1)), .inl x1, .inr (.inr (some 105))] H X) (hF : yFd H) : yFd X.2 := by
  match c, hI, hI.1.2.2.2.2.2 with
  | 0, hI, _ => exact yF_C (e := ze_t7) hI (zc_t7 zB_W zh_all) (by decide +kernel) (by show 7 ≤ d + 60; omega) rfl c1 ⟨rfl, zl_full _, rfl, trivial⟩ rfl hF
  | 1, hI, _ => exact yF_C (e := ze_t31) hI (zc_t31 zB_W zh_all) (by decide +kernel) (by show 7 ≤ d + 60; omega) rfl c1 ⟨rfl, zl_full _, rfl, trivial⟩ rfl hF
  | 2, hI, _ => exact yF_C (e := ze_t55) hI (zc_t55 zB_W zh_all) (by decide +kernel) (by show 7 ≤ d + 60; omega) rfl c1 ⟨rfl, zl_full _, rfl, trivial⟩ rfl hF
  | 3, hI, _ => exact yF_C (e := ze_t79) hI (zc_t79 zB_W zh_all) (by decide +kernel) (by show 7 ≤ d + 60; omega) rfl c1 ⟨rfl, zl_full _, rfl, trivial⟩ rfl hF
theorem yFo_where {L : Nat} {σ : Nat → Int32} {d c t : Nat} {H : zp_H} {x1 x2 : Int32} (hI : yI c t H) {X : zp_X} (c1 : zp_Call L σ (d + 60) 122 [.inr (.inr (some 1)), .inl x1, .inl x2, .inr (.inr (some 105))] H X) (hF : yFd H) : yFd X.2 := by
  match c, hI, hI.1.2.2.2.2.2 with
  | 0, hI, _ => exact yF_C (e := ze_t8) hI (zc_t8 zB_W zh_all) (by decide +kernel) (by show 8 ≤ d + 60; omega) rfl c1 ⟨rfl, zl_full _, zl_full _, rfl, trivial⟩ rfl hF
  | 1, hI, _ => exact yF_C (e := ze_t32) hI (zc_t32 zB_W zh_all) (by decide +kernel) (by show 8 ≤ d + 60; omega) rfl c1 ⟨rfl, zl_full _, zl_full _, rfl, trivial⟩ rfl hF
  | 2, hI, _ => exact yF_C (e := ze_t56) hI (zc_t56 zB_W zh_all) (by decide +kernel) (by show 8 ≤ d + 60; omega) rfl c1 ⟨rfl, zl_full _, zl_full _, rfl, trivial⟩ rfl hF
  | 3, hI, _ => exact yF_C (e := ze_t80) hI (zc_t80 zB_W zh_all) (by decide +kernel) (by show 8 ≤ d + 60; omega) rfl c1 ⟨rfl, zl_full _, zl_full _, rfl, trivial⟩ rfl hF
theorem yFo_pilot {L : Nat} {σ : Nat → Int32} {d c t : Nat} {H : zp_H} {x1 x2 : Int32} (hI : yI c t H) {X : zp_X} (c1 : zp_Call L σ (d + 60) 132 [.inr (.inr (some 1)), .inl x1, .inl x2, .inr (.inr (some 105))] H X) (hF : yFd H) : yFd X.2 := by
  match c, hI, hI.1.2.2.2.2.2 with
  | 0, hI, _ => exact yF_C (e := ze_t9) hI (zc_t9 zB_W zh_all) (by decide +kernel) (by show 3 ≤ d + 60; omega) rfl c1 ⟨rfl, zl_full _, zl_full _, rfl, trivial⟩ rfl hF
  | 1, hI, _ => exact yF_C (e := ze_t33) hI (zc_t33 zB_W zh_all) (by decide +kernel) (by show 3 ≤ d + 60; omega) rfl c1 ⟨rfl, zl_full _, zl_full _, rfl, trivial⟩ rfl hF
  | 2, hI, _ => exact yF_C (e := ze_t57) hI (zc_t57 zB_W zh_all) (by decide +kernel) (by show 3 ≤ d + 60; omega) rfl c1 ⟨rfl, zl_full _, zl_full _, rfl, trivial⟩ rfl hF
  | 3, hI, _ => exact yF_C (e := ze_t81) hI (zc_t81 zB_W zh_all) (by decide +kernel) (by show 3 ≤ d + 60; omega) rfl c1 ⟨rfl, zl_full _, zl_full _, rfl, trivial⟩ rfl hF
theorem yFo_sails {L : Nat} {σ : Nat → Int32} {d c t : Nat} {H : zp_H} {x1 x2 x3 : Int32} (hI : yI c t H) {X : zp_X} (c1 : zp_Call L σ (d + 60) 135 [.inr (.inr (some 1)), .inl x1, .inl x2, .inl x3, .inr (.inr (some 105))] H X) (hF : yFd H) : yFd X.2 := by
  match c, hI, hI.1.2.2.2.2.2 with
  | 0, hI, _ => exact yF_C (e := ze_t10) hI (zc_t10 zB_W zh_all) (by decide +kernel) (by show 8 ≤ d + 60; omega) rfl c1 ⟨rfl, zl_full _, zl_full _, zl_full _, rfl, trivial⟩ rfl hF
  | 1, hI, _ => exact yF_C (e := ze_t34) hI (zc_t34 zB_W zh_all) (by decide +kernel) (by show 8 ≤ d + 60; omega) rfl c1 ⟨rfl, zl_full _, zl_full _, zl_full _, rfl, trivial⟩ rfl hF
  | 2, hI, _ => exact yF_C (e := ze_t58) hI (zc_t58 zB_W zh_all) (by decide +kernel) (by show 8 ≤ d + 60; omega) rfl c1 ⟨rfl, zl_full _, zl_full _, zl_full _, rfl, trivial⟩ rfl hF
  | 3, hI, _ => exact yF_C (e := ze_t82) hI (zc_t82 zB_W zh_all) (by decide +kernel) (by show 8 ≤ d + 60; omega) rfl c1 ⟨rfl, zl_full _, zl_full _, zl_full _, rfl, trivial⟩ rfl hF
theorem yFo_exam {L : Nat} {σ : Nat → Int32} {d c t : Nat} {H : zp_H} (hI : yI c t H) {X : zp_X} (c1 : zp_Call L σ (d + 60) 22 [.inr (.inr (some 1))] H X) (hF : yFd H) : yFd X.2 := by
  match c, hI, hI.1.2.2.2.2.2 with
  | 0, hI, _ => exact yF_C (e := ze_t21) hI (zc_t21 zB_W zh_all) (by decide +kernel) (by show 7 ≤ d + 60; omega) rfl c1 ⟨rfl, trivial⟩ rfl hF
  | 1, hI, _ => exact yF_C (e := ze_t45) hI (zc_t45 zB_W zh_all) (by decide +kernel) (by show 7 ≤ d + 60; omega) rfl c1 ⟨rfl, trivial⟩ rfl hF
  | 2, hI, _ => exact yF_C (e := ze_t69) hI (zc_t69 zB_W zh_all) (by decide +kernel) (by show 7 ≤ d + 60; omega) rfl c1 ⟨rfl, trivial⟩ rfl hF
  | 3, hI, _ => exact yF_C (e := ze_t93) hI (zc_t93 zB_W zh_all) (by decide +kernel) (by show 7 ≤ d + 60; omega) rfl c1 ⟨rfl, trivial⟩ rfl hF
theorem yFo_dive {L : Nat} {σ : Nat → Int32} {d c t : Nat} {H : zp_H} {x1 x2 : Int32} (hI : yI c t H) {X : zp_X} (c1 : zp_Call L σ (d + 60) 152 [.inr (.inr (some 1)), .inl x1, .inl x2, .inr (.inr (some 105))] H X) (hF : yFd H) : yFd X.2 := by
  match c, hI, hI.1.2.2.2.2.2 with
  | 0, hI, _ => exact yF_C (e := ze_t14) hI (zc_t14 zB_W zh_all) (by decide +kernel) (by show 8 ≤ d + 60; omega) rfl c1 ⟨rfl, zl_full _, zl_full _, rfl, trivial⟩ rfl hF
  | 1, hI, _ => exact yF_C (e := ze_t38) hI (zc_t38 zB_W zh_all) (by decide +kernel) (by show 8 ≤ d + 60; omega) rfl c1 ⟨rfl, zl_full _, zl_full _, rfl, trivial⟩ rfl hF
  | 2, hI, _ => exact yF_C (e := ze_t62) hI (zc_t62 zB_W zh_all) (by decide +kernel) (by show 8 ≤ d + 60; omega) rfl c1 ⟨rfl, zl_full _, zl_full _, rfl, trivial⟩ rfl hF
  | 3, hI, _ => exact yF_C (e := ze_t86) hI (zc_t86 zB_W zh_all) (by decide +kernel) (by show 8 ≤ d + 60; omega) rfl c1 ⟨rfl, zl_full _, zl_full _, rfl, trivial⟩ rfl hF
theorem yFo_chart {L : Nat} {σ : Nat → Int32} {d c t : Nat} {H : zp_H} {x1 : Int32} (hI : yI c t H) {X : zp_X} (c1 : zp_Call L σ (d + 60) 155 [.inr (.inr (some 1)), .inl x1, .inr (.inr (some 105))] H X) (hF : yFd H) : yFd X.2 := by
  match c, hI, hI.1.2.2.2.2.2 with
  | 0, hI, _ => exact yF_C (e := ze_t16) hI (zc_t16 zB_W zh_all) (by decide +kernel) (by show 7 ≤ d + 60; omega) rfl c1 ⟨rfl, zl_full _, rfl, trivial⟩ rfl hF
  | 1, hI, _ => exact yF_C (e := ze_t40) hI (zc_t40 zB_W zh_all) (by decide +kernel) (by show 7 ≤ d + 60; omega) rfl c1 ⟨rfl, zl_full _, rfl, trivial⟩ rfl hF
  | 2, hI, _ => exact yF_C (e := ze_t64) hI (zc_t64 zB_W zh_all) (by decide +kernel) (by show 7 ≤ d + 60; omega) rfl c1 ⟨rfl, zl_full _, rfl, trivial⟩ rfl hF
  | 3, hI, _ => exact yF_C (e := ze_t88) hI (zc_t88 zB_W zh_all) (by decide +kernel) (by show 7 ≤ d + 60; omega) rfl c1 ⟨rfl, zl_full _, rfl, trivial⟩ rfl hF
theorem yFo_hand {L : Nat} {σ : Nat → Int32} {d c t : Nat} {H : zp_H} {x1 x2 : Int32} (hI : yI c t H) {X : zp_X} (c1 : zp_Call L σ (d + 60) 157 [.inr (.inr (some 1)), .inl x1, .inl x2, .inr (.inr (some 105))] H X) (hF : yFd H) : yFd X.2 := by
  match c, hI, hI.1.2.2.2.2.2 with
  | 0, hI, _ => exact yF_C (e := ze_t17) hI (zc_t17 zB_W zh_all) (by decide +kernel) (by show 5 ≤ d + 60; omega) rfl c1 ⟨rfl, zl_full _, zl_full _, rfl, trivial⟩ rfl hF
  | 1, hI, _ => exact yF_C (e := ze_t41) hI (zc_t41 zB_W zh_all) (by decide +kernel) (by show 5 ≤ d + 60; omega) rfl c1 ⟨rfl, zl_full _, zl_full _, rfl, trivial⟩ rfl hF
  | 2, hI, _ => exact yF_C (e := ze_t65) hI (zc_t65 zB_W zh_all) (by decide +kernel) (by show 5 ≤ d + 60; omega) rfl c1 ⟨rfl, zl_full _, zl_full _, rfl, trivial⟩ rfl hF
  | 3, hI, _ => exact yF_C (e := ze_t89) hI (zc_t89 zB_W zh_all) (by decide +kernel) (by show 5 ≤ d + 60; omega) rfl c1 ⟨rfl, zl_full _, zl_full _, rfl, trivial⟩ rfl hF
theorem yFo_copied {L : Nat} {σ : Nat → Int32} {d c t : Nat} {H : zp_H} {x1 x2 x3 : Int32} (hI : yI c t H) {X : zp_X} (c1 : zp_Call L σ (d + 60) 162 [.inr (.inr (some 1)), .inl x1, .inl x2, .inl x3, .inr (.inr (some 105))] H X) (hF : yFd H) : yFd X.2 := by
  match c, hI, hI.1.2.2.2.2.2 with
  | 0, hI, _ => exact yF_C (e := ze_t18) hI (zc_t18 zB_W zh_all) (by decide +kernel) (by show 5 ≤ d + 60; omega) rfl c1 ⟨rfl, zl_full _, zl_full _, zl_full _, rfl, trivial⟩ rfl hF
  | 1, hI, _ => exact yF_C (e := ze_t42) hI (zc_t42 zB_W zh_all) (by decide +kernel) (by show 5 ≤ d + 60; omega) rfl c1 ⟨rfl, zl_full _, zl_full _, zl_full _, rfl, trivial⟩ rfl hF
  | 2, hI, _ => exact yF_C (e := ze_t66) hI (zc_t66 zB_W zh_all) (by decide +kernel) (by show 5 ≤ d + 60; omega) rfl c1 ⟨rfl, zl_full _, zl_full _, zl_full _, rfl, trivial⟩ rfl hF
  | 3, hI, _ => exact yF_C (e := ze_t90) hI (zc_t90 zB_W zh_all) (by decide +kernel) (by show 5 ≤ d + 60; omega) rfl c1 ⟨rfl, zl_full _, zl_full _, zl_full _, rfl, trivial⟩ rfl hF
theorem yFo_image {L : Nat} {σ : Nat → Int32} {d c t : Nat} {H : zp_H} (hI : yI c t H) {X : zp_X} (c1 : zp_Call L σ (d + 60) 45 [.inr (.inr (some 1))] H X) (hF : yFd H) : yFd X.2 := by
  match c, hI, hI.1.2.2.2.2.2 with
  | 0, hI, _ => exact yF_C (e := ze_t22) hI (zc_t22 zB_W zh_all) (by decide +kernel) (by show 2 ≤ d + 60; omega) rfl c1 ⟨rfl, trivial⟩ rfl hF
  | 1, hI, _ => exact yF_C (e := ze_t46) hI (zc_t46 zB_W zh_all) (by decide +kernel) (by show 2 ≤ d + 60; omega) rfl c1 ⟨rfl, trivial⟩ rfl hF
  | 2, hI, _ => exact yF_C (e := ze_t70) hI (zc_t70 zB_W zh_all) (by decide +kernel) (by show 2 ≤ d + 60; omega) rfl c1 ⟨rfl, trivial⟩ rfl hF
  | 3, hI, _ => exact yF_C (e := ze_t94) hI (zc_t94 zB_W zh_all) (by decide +kernel) (by show 2 ≤ d + 60; omega) rfl c1 ⟨rfl, trivial⟩ rfl hF
theorem yFo_restore {L : Nat} {σ : Nat → Int32} {d c t : Nat} {H : zp_H} (hI : yI c t H) {X : zp_X} (c1 : zp_Call L σ (d + 60) 47 [.inr (.inr (some 1))] H X) (hF : yFd H) : yFd X.2 := by
  match c, hI, hI.1.2.2.2.2.2 with
  | 0, hI, _ => exact yF_C (e := ze_t23) hI (zc_t23 zB_W zh_all) (by decide +kernel) (by show 2 ≤ d + 60; omega) rfl c1 ⟨rfl, trivial⟩ rfl hF
  | 1, hI, _ => exact yF_C (e := ze_t47) hI (zc_t47 zB_W zh_all) (by decide +kernel) (by show 2 ≤ d + 60; omega) rfl c1 ⟨rfl, trivial⟩ rfl hF
  | 2, hI, _ => exact yF_C (e := ze_t71) hI (zc_t71 zB_W zh_all) (by decide +kernel) (by show 2 ≤ d + 60; omega) rfl c1 ⟨rfl, trivial⟩ rfl hF
  | 3, hI, _ => exact yF_C (e := ze_t95) hI (zc_t95 zB_W zh_all) (by decide +kernel) (by show 2 ≤ d + 60; omega) rfl c1 ⟨rfl, trivial⟩ rfl hF
theorem yFu_fault {L : Nat} {σ : Nat → Int32} {d c t : Nat} {H : zp_H} (hI : yI c t H) {X : zp_X} (c1 : zp_Call L σ (d + 60) 205 [.inr (.inr (some 73))] H X) (hF : yFd H) : yFd X.2 := yF_D (e := zr_e1) hI (z0rc_e1 z0R_W z0r_all) (by decide +kernel) (by show 1 ≤ d + 60; omega) rfl c1 ⟨rfl, trivial⟩ rfl hF
theorem yFu_count {L : Nat} {σ : Nat → Int32} {d c t : Nat} {H : zp_H} {x1 : Int32} (hI : yI c t H) {X : zp_X} (c1 : zp_Call L σ (d + 60) 206 [.inr (.inr (some 73)), .inl x1] H X) (hF : yFd H) : yFd X.2 := yF_D (e := zr_e2) hI (z0rc_e2 z0R_W z0r_all) (by decide +kernel) (by show 2 ≤ d + 60; omega) rfl c1 ⟨rfl, zl_full _, trivial⟩ rfl hF
theorem yFu_cell {L : Nat} {σ : Nat → Int32} {d c t : Nat} {H : zp_H} {x1 x2 : Int32} (hI : yI c t H) {X : zp_X} (c1 : zp_Call L σ (d + 60) 207 [.inr (.inr (some 73)), .inl x1, .inl x2] H X) (hF : yFd H) : yFd X.2 := yF_D (e := zr_e3) hI (z0rc_e3 z0R_W z0r_all) (by decide +kernel) (by show 3 ≤ d + 60; omega) rfl c1 ⟨rfl, zl_full _, zl_full _, trivial⟩ rfl hF
theorem yFu_slate {L : Nat} {σ : Nat → Int32} {d c t : Nat} {H : zp_H} {x1 x2 : Int32} (hI : yI c t H) {X : zp_X} (c1 : zp_Call L σ (d + 60) 209 [.inr (.inr (some 73)), .inl x1, .inl x2] H X) (hF : yFd H) : yFd X.2 := yF_D (e := zr_e4) hI (z0rc_e4 z0R_W z0r_all) (by decide +kernel) (by show 3 ≤ d + 60; omega) rfl c1 ⟨rfl, zl_full _, zl_full _, trivial⟩ rfl hF
theorem yFu_mark {L : Nat} {σ : Nat → Int32} {d c t : Nat} {H : zp_H} {x1 x2 x3 : Int32} (hI : yI c t H) {X : zp_X} (c1 : zp_Call L σ (d + 60) 211 [.inr (.inr (some 73)), .inl x1, .inl x2, .inl x3] H X) (hF : yFd H) : yFd X.2 := yF_D (e := zr_e5) hI (z0rc_e5 z0R_W z0r_all) (by decide +kernel) (by show 3 ≤ d + 60; omega) rfl c1 ⟨rfl, zl_full _, zl_full _, zl_full _, trivial⟩ rfl hF
theorem yFu_write {L : Nat} {σ : Nat → Int32} {d c t : Nat} {H : zp_H} {x1 x2 x3 : Int32} (hI : yI c t H) {X : zp_X} (c1 : zp_Call L σ (d + 60) 213 [.inr (.inr (some 73)), .inl x1, .inl x2, .inl x3] H X) (hF : yFd H) : yFd X.2 := by
  obtain ⟨_, k1, H1, v, rfl, k2, k3⟩ := z0t_write (L := L) (σ := σ) (d := d + 57) (xs := x1) (xw := x2) (xt := x3) hI.1.2.1
  obtain rfl := zp_Call_u c1 k1
  exact yF_Fr k3 (by decide) hF
theorem yFu_rub {L : Nat} {σ : Nat → Int32} {d c t : Nat} {H : zp_H} {x1 x2 x3 : Int32} (hI : yI c t H) {X : zp_X} (c1 : zp_Call L σ (d + 60) 216 [.inr (.inr (some 73)), .inl x1, .inl x2, .inl x3] H X) (hF : yFd H) : yFd X.2 := by
  obtain ⟨_, k1, H1, v, rfl, k2, k3⟩ := z0t_rub (L := L) (σ := σ) (d := d + 57) (xs := x1) (xd := x2) (xc := x3) hI.1.2.1
  obtain rfl := zp_Call_u c1 k1
  exact yF_Fr k3 (by decide) hF
theorem yFu_undo {L : Nat} {σ : Nat → Int32} {d c t : Nat} {H : zp_H} (hI : yI c t H) {X : zp_X} (c1 : zp_Call L σ (d + 60) 218 [.inr (.inr (some 73))] H X) (hF : yFd H) : yFd X.2 := by
  obtain ⟨_, k1, H1, v, rfl, k2, k3⟩ := z0t_undo (L := L) (σ := σ) (d := d + 59) hI.1.2.1
  obtain rfl := zp_Call_u c1 k1
  exact yF_Fr k3 (by decide) hF
theorem yFu_voyage {L : Nat} {σ : Nat → Int32} {d c t : Nat} {H : zp_H} {x1 x2 : Int32} (hI : yI c t H) {X : zp_X} (c1 : zp_Call L σ (d + 60) 219 [.inr (.inr (some 73)), .inl x1, .inl x2] H X) (hF : yFd H) : yFd X.2 := yF_D (e := zr_e9) hI (z0rc_e9 z0R_W z0r_all) (by decide +kernel) (by show 4 ≤ d + 60; omega) rfl c1 ⟨rfl, zl_full _, zl_full _, trivial⟩ rfl hF
theorem yFu_explained {L : Nat} {σ : Nat → Int32} {d c t : Nat} {H : zp_H} {x1 : Int32} (hI : yI c t H) {X : zp_X} (c1 : zp_Call L σ (d + 60) 224 [.inr (.inr (some 73)), .inl x1] H X) (hF : yFd H) : yFd X.2 := yF_D (e := zr_e10) hI (z0rc_e10 z0R_W z0r_all) (by decide +kernel) (by show 4 ≤ d + 60; omega) rfl c1 ⟨rfl, zl_full _, trivial⟩ rfl hF
theorem yFu_where {L : Nat} {σ : Nat → Int32} {d c t : Nat} {H : zp_H} {x1 x2 : Int32} (hI : yI c t H) {X : zp_X} (c1 : zp_Call L σ (d + 60) 225 [.inr (.inr (some 73)), .inl x1, .inl x2] H X) (hF : yFd H) : yFd X.2 := yF_D (e := zr_e12) hI (z0rc_e12 z0R_W z0r_all) (by decide +kernel) (by show 4 ≤ d + 60; omega) rfl c1 ⟨rfl, zl_full _, zl_full _, trivial⟩ rfl hF
theorem yFu_pilot {L : Nat} {σ : Nat → Int32} {d c t : Nat} {H : zp_H} {x1 x2 : Int32} (hI : yI c t H) {X : zp_X} (c1 : zp_Call L σ (d + 60) 227 [.inr (.inr (some 73)), .inl x1, .inl x2] H X) (hF : yFd H) : yFd X.2 := yF_D (e := zr_e13) hI (z0rc_e13 z0R_W z0r_all) (by decide +kernel) (by show 3 ≤ d + 60; omega) rfl c1 ⟨rfl, zl_full _, zl_full _, trivial⟩ rfl hF
theorem yFu_sails {L : Nat} {σ : Nat → Int32} {d c t : Nat} {H : zp_H} {x1 x2 x3 : Int32} (hI : yI c t H) {X : zp_X} (c1 : zp_Call L σ (d + 60) 229 [.inr (.inr (some 73)), .inl x1, .inl x2, .inl x3] H X) (hF : yFd H) : yFd X.2 := yF_D (e := zr_e16) hI (z0rc_e16 z0R_W z0r_all) (by decide +kernel) (by show 10 ≤ d + 60; omega) rfl c1 ⟨rfl, zl_full _, zl_full _, zl_full _, trivial⟩ rfl hF
theorem yFu_exam {L : Nat} {σ : Nat → Int32} {d c t : Nat} {H : zp_H} (hI : yI c t H) {X : zp_X} (c1 : zp_Call L σ (d + 60) 236 [.inr (.inr (some 73))] H X) (hF : yFd H) : yFd X.2 := yF_D (e := zr_e17) hI (z0rc_e17 z0R_W z0r_all) (by decide +kernel) (by show 10 ≤ d + 60; omega) rfl c1 ⟨rfl, trivial⟩ rfl hF
theorem yFu_dive {L : Nat} {σ : Nat → Int32} {d c t : Nat} {H : zp_H} {x1 x2 : Int32} (hI : yI c t H) {X : zp_X} (c1 : zp_Call L σ (d + 60) 243 [.inr (.inr (some 73)), .inl x1, .inl x2] H X) (hF : yFd H) : yFd X.2 := yF_D (e := zr_e20) hI (z0rc_e20 z0R_W z0r_all) (by decide +kernel) (by show 4 ≤ d + 60; omega) rfl c1 ⟨rfl, zl_full _, zl_full _, trivial⟩ rfl hF
theorem yFu_chart {L : Nat} {σ : Nat → Int32} {d c t : Nat} {H : zp_H} {x1 : Int32} (hI : yI c t H) {X : zp_X} (c1 : zp_Call L σ (d + 60) 244 [.inr (.inr (some 73)), .inl x1] H X) (hF : yFd H) : yFd X.2 := yF_D (e := zr_e21) hI (z0rc_e21 z0R_W z0r_all) (by decide +kernel) (by show 5 ≤ d + 60; omega) rfl c1 ⟨rfl, zl_full _, trivial⟩ rfl hF
theorem yFu_hand {L : Nat} {σ : Nat → Int32} {d c t : Nat} {H : zp_H} {x1 x2 : Int32} (hI : yI c t H) {X : zp_X} (c1 : zp_Call L σ (d + 60) 245 [.inr (.inr (some 73)), .inl x1, .inl x2] H X) (hF : yFd H) : yFd X.2 := yF_D (e := zr_e23) hI (z0rc_e23 z0R_W z0r_all) (by decide +kernel) (by show 3 ≤ d + 60; omega) rfl c1 ⟨rfl, zl_full _, zl_full _, trivial⟩ rfl hF
theorem yFu_copied {L : Nat} {σ : Nat → Int32} {d c t : Nat} {H : zp_H} {x1 x2 x3 : Int32} (hI : yI c t H) {X : zp_X} (c1 : zp_Call L σ (d + 60) 247 [.inr (.inr (some 73)), .inl x1, .inl x2, .inl x3] H X) (hF : yFd H) : yFd X.2 := yF_D (e := zr_e25) hI (z0rc_e25 z0R_W z0r_all) (by decide +kernel) (by show 3 ≤ d + 60; omega) rfl c1 ⟨rfl, zl_full _, zl_full _, zl_full _, trivial⟩ rfl hF
theorem yFu_image {L : Nat} {σ : Nat → Int32} {d c t : Nat} {H : zp_H} (hI : yI c t H) {X : zp_X} (c1 : zp_Call L σ (d + 60) 249 [.inr (.inr (some 73))] H X) (hF : yFd H) : yFd X.2 := by
  obtain ⟨_, k1, H1, rfl, k2, k3⟩ := z0t_image (L := L) (σ := σ) (d := d + 58) hI.1.2.1
  obtain rfl := zp_Call_u c1 k1
  exact yF_Fr k3 (by decide) hF
theorem yFu_restore {L : Nat} {σ : Nat → Int32} {d c t : Nat} {H : zp_H} (hI : yI c t H) {X : zp_X} (c1 : zp_Call L σ (d + 60) 250 [.inr (.inr (some 73))] H X) (hF : yFd H) : yFd X.2 := by
  obtain ⟨_, k1, H1, v, rfl, k2, k3⟩ := z0t_restore (L := L) (σ := σ) (d := d + 58) hI.1.2.1
  obtain rfl := zp_Call_u c1 k1
  exact yF_Fr k3 (by decide) hF
theorem yF_fault {L : Nat} {σ : Nat → Int32} {d c t : Nat} {H : zp_H} (hI : yI c t H) {X1 X2 : zp_X} (c1 : zp_Call L σ (d + 60) 19 [.inr (.inr (some 1))] H X1) (c2 : zp_Call L σ (d + 60) 205 [.inr (.inr (some 73))] X1.2 X2) (hF : yFd H) : yFd X2.2 := by
  obtain ⟨H1, v, k1, hI1⟩ := yo_fault (L := L) (σ := σ) (d := d)  hI
  obtain rfl := zp_Call_u c1 k1
  exact yFu_fault hI1 c2 (yFo_fault hI c1 hF)
theorem yF_count {L : Nat} {σ : Nat → Int32} {d c t : Nat} {H : zp_H} {x1 : Int32} (hI : yI c t H) {X1 X2 : zp_X} (c1 : zp_Call L σ (d + 60) 100 [.inr (.inr (some 1)), .inl x1, .inr (.inr (some 105))] H X1) (c2 : zp_Call L σ (d + 60) 206 [.inr (.inr (some 73)), .inl x1] X1.2 X2) (hF : yFd H) : yFd X2.2 := by
  obtain ⟨H1, v, k1, hI1⟩ := yo_count (L := L) (σ := σ) (d := d) (x1 := x1) hI
  obtain rfl := zp_Call_u c1 k1
  exact yFu_count hI1 c2 (yFo_count hI c1 hF)
theorem yF_cell {L : Nat} {σ : Nat → Int32} {d c t : Nat} {H : zp_H} {x1 x2 : Int32} (hI : yI c t H) {X1 X2 : zp_X} (c1 : zp_Call L σ (d + 60) 102 [.inr (.inr (some 1)), .inl x1, .inl x2, .inr (.inr (some 105))] H X1) (c2 : zp_Call L σ (d + 60) 207 [.inr (.inr (some 73)), .inl x1, .inl x2] X1.2 X2) (hF : yFd H) : yFd X2.2 := by
  obtain ⟨H1, v, k1, hI1⟩ := yo_cell (L := L) (σ := σ) (d := d) (x1 := x1) (x2 := x2) hI
  obtain rfl := zp_Call_u c1 k1
  exact yFu_cell hI1 c2 (yFo_cell hI c1 hF)
theorem yF_slate {L : Nat} {σ : Nat → Int32} {d c t : Nat} {H : zp_H} {x1 x2 : Int32} (hI : yI c t H) {X1 X2 : zp_X} (c1 : zp_Call L σ (d + 60) 106 [.inr (.inr (some 1)), .inl x1, .inl x2, .inr (.inr (some 105))] H X1) (c2 : zp_Call L σ (d + 60) 209 [.inr (.inr (some 73)), .inl x1, .inl x2] X1.2 X2) (hF : yFd H) : yFd X2.2 := by
  obtain ⟨H1, v, k1, hI1⟩ := yo_slate (L := L) (σ := σ) (d := d) (x1 := x1) (x2 := x2) hI
  obtain rfl := zp_Call_u c1 k1
  exact yFu_slate hI1 c2 (yFo_slate hI c1 hF)
theorem yF_mark {L : Nat} {σ : Nat → Int32} {d c t : Nat} {H : zp_H} {x1 x2 x3 : Int32} (hI : yI c t H) {X1 X2 : zp_X} (c1 : zp_Call L σ (d + 60) 109 [.inr (.inr (some 1)), .inl x1, .inl x2, .inl x3, .inr (.inr (some 105))] H X1) (c2 : zp_Call L σ (d + 60) 211 [.inr (.inr (some 73)), .inl x1, .inl x2, .inl x3] X1.2 X2) (hF : yFd H) : yFd X2.2 := by
  obtain ⟨H1, v, k1, hI1⟩ := yo_mark (L := L) (σ := σ) (d := d) (x1 := x1) (x2 := x2) (x3 := x3) hI
  obtain rfl := zp_Call_u c1 k1
  exact yFu_mark hI1 c2 (yFo_mark hI c1 hF)
theorem yF_write {L : Nat} {σ : Nat → Int32} {d c t : Nat} {H : zp_H} {x1 x2 x3 : Int32} (hI : yI c t H) {X1 X2 : zp_X} (c1 : zp_Call L σ (d + 60) 111 [.inr (.inr (some 1)), .inl x1, .inl x2, .inl x3, .inr (.inr (some 105))] H X1) (c2 : zp_Call L σ (d + 60) 213 [.inr (.inr (some 73)), .inl x1, .inl x2, .inl x3] X1.2 X2) (hF : yFd H) : yFd X2.2 := by
  obtain ⟨H1, v, k1, hI1⟩ := yo_write (L := L) (σ := σ) (d := d) (x1 := x1) (x2 := x2) (x3 := x3) hI
  obtain rfl := zp_Call_u c1 k1
  exact yFu_write hI1 c2 (yFo_write hI c1 hF)
theorem yF_rub {L : Nat} {σ : Nat → Int32} {d c t : Nat} {H : zp_H} {x1 x2 x3 : Int32} (hI : yI c t H) {X1 X2 : zp_X} (c1 : zp_Call L σ (d + 60) 114 [.inr (.inr (some 1)), .inl x1, .inl x2, .inl x3, .inr (.inr (some 105))] H X1) (c2 : zp_Call L σ (d + 60) 216 [.inr (.inr (some 73)), .inl x1, .inl x2, .inl x3] X1.2 X2) (hF : yFd H) : yFd X2.2 := by
  obtain ⟨H1, v, k1, hI1⟩ := yo_rub (L := L) (σ := σ) (d := d) (x1 := x1) (x2 := x2) (x3 := x3) hI
  obtain rfl := zp_Call_u c1 k1
  exact yFu_rub hI1 c2 (yFo_rub hI c1 hF)
theorem yF_undo {L : Nat} {σ : Nat → Int32} {d c t : Nat} {H : zp_H} (hI : yI c t H) {X1 X2 : zp_X} (c1 : zp_Call L σ (d + 60) 20 [.inr (.inr (some 1))] H X1) (c2 : zp_Call L σ (d + 60) 218 [.inr (.inr (some 73))] X1.2 X2) (hF : yFd H) : yFd X2.2 := by
  obtain ⟨H1, v, k1, hI1⟩ := yo_undo (L := L) (σ := σ) (d := d)  hI
  obtain rfl := zp_Call_u c1 k1
  exact yFu_undo hI1 c2 (yFo_undo hI c1 hF)
theorem yF_voyage {L : Nat} {σ : Nat → Int32} {d c t : Nat} {H : zp_H} {x1 x2 : Int32} (hI : yI c t H) {X1 X2 : zp_X} (c1 : zp_Call L σ (d + 60) 118 [.inr (.inr (some 1)), .inl x1, .inl x2, .inr (.inr (some 105))] H X1) (c2 : zp_Call L σ (d + 60) 219 [.inr (.inr (some 73)), .inl x1, .inl x2] X1.2 X2) (hF : yFd H) : yFd X2.2 := by
  obtain ⟨H1, v, k1, hI1⟩ := yo_voyage (L := L) (σ := σ) (d := d) (x1 := x1) (x2 := x2) hI
  obtain rfl := zp_Call_u c1 k1
  exact yFu_voyage hI1 c2 (yFo_voyage hI c1 hF)
theorem yF_explained {L : Nat} {σ : Nat → Int32} {d c t : Nat} {H : zp_H} {x1 : Int32} (hI : yI c t H) {X1 X2 : zp_X} (c1 : zp_Call L σ (d + 60) 120 [.inr (.inr (some 1)), .inl x1, .inr (.inr (some 105))] H X1) (c2 : zp_Call L σ (d + 60) 224 [.inr (.inr (some 73)), .inl x1] X1.2 X2) (hF : yFd H) : yFd X2.2 := by
  obtain ⟨H1, v, k1, hI1⟩ := yo_explained (L := L) (σ := σ) (d := d) (x1 := x1) hI
  obtain rfl := zp_Call_u c1 k1
  exact yFu_explained hI1 c2 (yFo_explained hI c1 hF)
theorem yF_where {L : Nat} {σ : Nat → Int32} {d c t : Nat} {H : zp_H} {x1 x2 : Int32} (hI : yI c t H) {X1 X2 : zp_X} (c1 : zp_Call L σ (d + 60) 122 [.inr (.inr (some 1)), .inl x1, .inl x2, .inr (.inr (some 105))] H X1) (c2 : zp_Call L σ (d + 60) 225 [.inr (.inr (some 73)), .inl x1, .inl x2] X1.2 X2) (hF : yFd H) : yFd X2.2 := by
  obtain ⟨H1, v, k1, hI1⟩ := yo_where (L := L) (σ := σ) (d := d) (x1 := x1) (x2 := x2) hI
  obtain rfl := zp_Call_u c1 k1
  exact yFu_where hI1 c2 (yFo_where hI c1 hF)
theorem yF_pilot {L : Nat} {σ : Nat → Int32} {d c t : Nat} {H : zp_H} {x1 x2 : Int32} (hI : yI c t H) {X1 X2 : zp_X} (c1 : zp_Call L σ (d + 60) 132 [.inr (.inr (some 1)), .inl x1, .inl x2, .inr (.inr (some 105))] H X1) (c2 : zp_Call L σ (d + 60) 227 [.inr (.inr (some 73)), .inl x1, .inl x2] X1.2 X2) (hF : yFd H) : yFd X2.2 := by
  obtain ⟨H1, v, k1, hI1⟩ := yo_pilot (L := L) (σ := σ) (d := d) (x1 := x1) (x2 := x2) hI
  obtain rfl := zp_Call_u c1 k1
  exact yFu_pilot hI1 c2 (yFo_pilot hI c1 hF)
theorem yF_sails {L : Nat} {σ : Nat → Int32} {d c t : Nat} {H : zp_H} {x1 x2 x3 : Int32} (hI : yI c t H) {X1 X2 : zp_X} (c1 : zp_Call L σ (d + 60) 135 [.inr (.inr (some 1)), .inl x1, .inl x2, .inl x3, .inr (.inr (some 105))] H X1) (c2 : zp_Call L σ (d + 60) 229 [.inr (.inr (some 73)), .inl x1, .inl x2, .inl x3] X1.2 X2) (hF : yFd H) : yFd X2.2 := by
  obtain ⟨H1, v, k1, hI1⟩ := yo_sails (L := L) (σ := σ) (d := d) (x1 := x1) (x2 := x2) (x3 := x3) hI
  obtain rfl := zp_Call_u c1 k1
  exact yFu_sails hI1 c2 (yFo_sails hI c1 hF)
theorem yF_exam {L : Nat} {σ : Nat → Int32} {d c t : Nat} {H : zp_H} (hI : yI c t H) {X1 X2 : zp_X} (c1 : zp_Call L σ (d + 60) 22 [.inr (.inr (some 1))] H X1) (c2 : zp_Call L σ (d + 60) 236 [.inr (.inr (some 73))] X1.2 X2) (hF : yFd H) : yFd X2.2 := by
  obtain ⟨H1, v, k1, hI1⟩ := yo_exam (L := L) (σ := σ) (d := d)  hI
  obtain rfl := zp_Call_u c1 k1
  exact yFu_exam hI1 c2 (yFo_exam hI c1 hF)
theorem yF_dive {L : Nat} {σ : Nat → Int32} {d c t : Nat} {H : zp_H} {x1 x2 : Int32} (hI : yI c t H) {X1 X2 : zp_X} (c1 : zp_Call L σ (d + 60) 152 [.inr (.inr (some 1)), .inl x1, .inl x2, .inr (.inr (some 105))] H X1) (c2 : zp_Call L σ (d + 60) 243 [.inr (.inr (some 73)), .inl x1, .inl x2] X1.2 X2) (hF : yFd H) : yFd X2.2 := by
  obtain ⟨H1, v, k1, hI1⟩ := yo_dive (L := L) (σ := σ) (d := d) (x1 := x1) (x2 := x2) hI
  obtain rfl := zp_Call_u c1 k1
  exact yFu_dive hI1 c2 (yFo_dive hI c1 hF)
theorem yF_chart {L : Nat} {σ : Nat → Int32} {d c t : Nat} {H : zp_H} {x1 : Int32} (hI : yI c t H) {X1 X2 : zp_X} (c1 : zp_Call L σ (d + 60) 155 [.inr (.inr (some 1)), .inl x1, .inr (.inr (some 105))] H X1) (c2 : zp_Call L σ (d + 60) 244 [.inr (.inr (some 73)), .inl x1] X1.2 X2) (hF : yFd H) : yFd X2.2 := by
  obtain ⟨H1, v, k1, hI1⟩ := yo_chart (L := L) (σ := σ) (d := d) (x1 := x1) hI
  obtain rfl := zp_Call_u c1 k1
  exact yFu_chart hI1 c2 (yFo_chart hI c1 hF)
theorem yF_hand {L : Nat} {σ : Nat → Int32} {d c t : Nat} {H : zp_H} {x1 x2 : Int32} (hI : yI c t H) {X1 X2 : zp_X} (c1 : zp_Call L σ (d + 60) 157 [.inr (.inr (some 1)), .inl x1, .inl x2, .inr (.inr (some 105))] H X1) (c2 : zp_Call L σ (d + 60) 245 [.inr (.inr (some 73)), .inl x1, .inl x2] X1.2 X2) (hF : yFd H) : yFd X2.2 := by
  obtain ⟨H1, v, k1, hI1⟩ := yo_hand (L := L) (σ := σ) (d := d) (x1 := x1) (x2 := x2) hI
  obtain rfl := zp_Call_u c1 k1
  exact yFu_hand hI1 c2 (yFo_hand hI c1 hF)
theorem yF_copied {L : Nat} {σ : Nat → Int32} {d c t : Nat} {H : zp_H} {x1 x2 x3 : Int32} (hI : yI c t H) {X1 X2 : zp_X} (c1 : zp_Call L σ (d + 60) 162 [.inr (.inr (some 1)), .inl x1, .inl x2, .inl x3, .inr (.inr (some 105))] H X1) (c2 : zp_Call L σ (d + 60) 247 [.inr (.inr (some 73)), .inl x1, .inl x2, .inl x3] X1.2 X2) (hF : yFd H) : yFd X2.2 := by
  obtain ⟨H1, v, k1, hI1⟩ := yo_copied (L := L) (σ := σ) (d := d) (x1 := x1) (x2 := x2) (x3 := x3) hI
  obtain rfl := zp_Call_u c1 k1
  exact yFu_copied hI1 c2 (yFo_copied hI c1 hF)
theorem yF_image {L : Nat} {σ : Nat → Int32} {d c t : Nat} {H : zp_H} (hI : yI c t H) {X1 X2 : zp_X} (c1 : zp_Call L σ (d + 60) 45 [.inr (.inr (some 1))] H X1) (c2 : zp_Call L σ (d + 60) 249 [.inr (.inr (some 73))] X1.2 X2) (hF : yFd H) : yFd X2.2 := by
  obtain ⟨H1, k1, hI1⟩ := yo_image (L := L) (σ := σ) (d := d)  hI
  obtain rfl := zp_Call_u c1 k1
  exact yFu_image hI1 c2 (yFo_image hI c1 hF)
theorem yF_restore {L : Nat} {σ : Nat → Int32} {d c t : Nat} {H : zp_H} (hI : yI c t H) {X1 X2 : zp_X} (c1 : zp_Call L σ (d + 60) 47 [.inr (.inr (some 1))] H X1) (c2 : zp_Call L σ (d + 60) 250 [.inr (.inr (some 73))] X1.2 X2) (hF : yFd H) : yFd X2.2 := by
  obtain ⟨H1, v, k1, hI1⟩ := yo_restore (L := L) (σ := σ) (d := d)  hI
  obtain rfl := zp_Call_u c1 k1
  exact yFu_restore hI1 c2 (yFo_restore hI c1 hF)
theorem ykS_kr : ykS [] [(12, 79)] ykS_fr = true := by decide +kernel
theorem yN_feed {L : Nat} {σ : Nat → Int32} {d c t : Nat} {H : zp_H} {x1 x2 x3 x4 x5 : Int32} (hJ : yJ c t H) (hF : yFd H) : ∃ H1 H2 v w t', zp_Call L σ (d + 60) 17 [.inr (.inr (some 1)), .inl x1, .inl x2, .inl x3, .inl x4, .inl x5] H (.inl (some (.inl v)), H1) ∧ zp_Call L σ (d + 60) 167 [.inr (.inr (some 73)), .inl x1, .inl x2, .inl x3, .inl x4, .inl x5] H1 (.inl (some (.inl w)), H2) ∧ v.toInt = w.toInt ∧ H1.1 = zB_sh ∧ yJ c t' H2 ∧ yFd H2 := by
  obtain ⟨H1, H2, v, w, t', c1, c2, hv, hW, hJ2⟩ := yp_feed (L := L) (σ := σ) (d := d) (x1 := x1) (x2 := x2) (x3 := x3) (x4 := x4) (x5 := x5) hJ
  refine ⟨H1, H2, v, w, t', c1, c2, hv, hW, hJ2, ?_⟩
  obtain ⟨⟨⟨h1, h2, h3, h4, h5, h6⟩, hT, hq⟩, -⟩ := hJ
  have W := zB_Wd (zB_dn (zB_Bc h1))
  have n2 := ((ykF_call ykS_kr _ _ _ _ _ (by decide) c2).2.1 (12, 79) (by decide) 72 (by rw [hW]; rfl)).1
  obtain ⟨_, e1, K1, u1, rfl, W1, k1, k2⟩ := yfC_feed (L := L) (σ := σ) (d := d + 58) (x1 := x1) (x2 := x2) (x3 := x3) (x4 := x4) (x5 := x5) W h3 (by omega)
  have e9 : K1 = H1 := by
    have e9 := zp_Call_u e1 c1
    cases e9
    rfl
  by_cases hn : 20 * t + 20 ≤ 700
  · obtain ⟨A1, A2, A3, A4, a1, a2, a3, a4, a5⟩ := k1 hn
    have f1 : ∀ p k, p ≠ 0 → p ≠ 1 → K1.2.1 p k = H.2.1 p k := fun p k p0 p1 => (a5.2.2.2 p k p0 p1).trans ((a4.2.2.2 p k p0 p1).trans ((a3.2.2.2 p k p0 p1).trans ((a2.2.2.2 p k p0 p1).trans (a1.2.2.2 p k p0 p1))))
    obtain ⟨_, e2, K2, u2, rfl, W2, m1, m2⟩ := yfR_feed (L := L) (σ := σ) (d := d + 58) (x1 := x1) (x2 := x2) (x3 := x3) (x4 := x4) (x5 := x5) (n := 20 * t) W1 (by rw [f1 72 22 (by decide) (by decide)]; exact h4) (by omega)
    have e8 : K2 = H2 := by
      rw [← e9] at c2
      have e9 := zp_Call_u e2 c2
      cases e9
      rfl
    obtain ⟨B1, B2, B3, B4, b1, b2, b3, b4, b5⟩ := m1 hn
    have g0 : ∀ p k, p ≠ 72 → p ≠ 81 → K2.2.1 p k = K1.2.1 p k := fun p k p0 p1 => (b5.2.2.2 p k p0 p1).trans ((b4.2.2.2 p k p0 p1).trans ((b3.2.2.2 p k p0 p1).trans ((b2.2.2.2 p k p0 p1).trans ((b1.2.2.2 p k p0 p1).trans (y_ne (fun h9 => p0 h9.1))))))
    rw [e8] at g0
    refine yFd_k (n2.trans ?_) ((g0 60 11 (by decide) (by decide)).trans (f1 60 11 (by decide) (by decide))) (fun k => (g0 69 k (by decide) (by decide)).trans (f1 69 k (by decide) (by decide))) (fun k => (g0 100 k (by decide) (by decide)).trans (f1 100 k (by decide) (by decide))) hF
    rw [← e9]
    exact f1 72 79 (by decide) (by decide)
  · have k3 := k2 hn
    have k4 : H1 = H := e9.symm.trans (by rw [k3])
    have W1 : zw_W H1 := by rw [k4]; exact W
    obtain ⟨_, e2, K2, u2, rfl, W2, m1, m2⟩ := yfR_feed (L := L) (σ := σ) (d := d + 58) (H := H1) (x1 := x1) (x2 := x2) (x3 := x3) (x4 := x4) (x5 := x5) (n := 20 * t) W1 (by rw [k4]; exact h4) (by omega)
    have e8 : K2 = H2 := by
      have e9 := zp_Call_u e2 c2
      cases e9
      rfl
    have m3 := m2 hn
    have m4 : H2 = zw_I H1 72 0 (Int32.ofInt 0) := e8.symm.trans (by rw [m3])
    rw [m4, k4]
    exact yFd_k (y_ne (fun h9 => absurd h9.2 (by decide))) (y_ne (fun h9 => absurd h9.1 (by decide))) (fun k => y_ne (fun h9 => absurd h9.1 (by decide))) (fun k => y_ne (fun h9 => absurd h9.1 (by decide))) hF
/-- what sea does to the kept row -/
def yKs (H : zp_H) (v : Int32) (K : zp_H) : Prop := (v.toInt = 0 ∧ (K.2.1 60 11).toInt = 0) ∨ (v.toInt ≠ 0 ∧ K.2.1 60 11 = H.2.1 60 11 ∧ ∀ k, K.2.1 69 k = H.2.1 69 k)
set_option maxRecDepth 8000 in
theorem yks_y0 {L : Nat} {σ : Nat → Int32} {d : Nat} {T : Nat → Int} {n : Nat} {H : zp_H} {x : Int32} (hB : zk_Bs (zB_c 0) zg zJc H) (hn : n ≤ 700) (hxn : x.toInt = n) (hT : ∀ k, k < n → (H.2.1 1 k).toInt = T k) (hx : 0 ≤ x.toInt ∧ x.toInt ≤ (H.2.1 0 1).toInt) : ∃ X, zp_Call L σ (d + 67) 49 [.inr (.inr (some 1)), .inl x] H X ∧ ∃ v K, X = (.inl (some (.inl v)), K) ∧ yKs H v K := by
  have hb := zB_Bc hB
  have W := zB_Wd (zB_dn hb)
  have g5 : H.2.2.2 0 5 = some 3 := hB.2.1 0 5 _ rfl
  have g6 : H.2.2.2 0 6 = some 14 := hB.2.1 0 6 _ rfl
  have g7 : H.2.2.2 0 7 = some 23 := hB.2.1 0 7 _ rfl
  have g8 : H.2.2.2 0 8 = some 34 := hB.2.1 0 8 _ rfl
  have b0 : zk_Bs zB zg zJc (zw_I H 0 1 (Int32.ofInt 0)) := zB_up (zB_putf (p := 0) (k := 1) (x := Int32.ofInt 0) (zB_dn hb) rfl (fun r hr => by cases hr; decide) (zJc_I rfl hb.2.2.2.2.2.2.2)) (by
    rw [show (zw_I H 0 1 (Int32.ofInt 0)).2.1 52 4 = H.2.1 52 4 from zw_ne rfl rfl, show (zw_I H 0 1 (Int32.ofInt 0)).2.1 52 5 = H.2.1 52 5 from zw_ne rfl rfl]
    exact zB_cn hb)
  obtain ⟨X9, c1, c2, c3, _⟩ := zc_e74 (L := L) (σ := σ) zB_W zh_all (d + 48) (by show 48 ≤ d + 48; omega) [.inr (.inr (some 52)), .inl x, .inr (.inr (some 23)), .inr (.inr (some 34))] (zw_I H 0 1 (Int32.ofInt 0)) ⟨rfl, ⟨by show (0 : Int) ≤ _; omega, by show _ ≤ (700 : Int); omega⟩, rfl, rfl, trivial⟩ b0 (fun f hf => absurd hf List.not_mem_nil)
  obtain ⟨X7, q1, q2, q3, o, o1, -, o3, -⟩ := zc_xq0 (L := L) (σ := σ) zB_W zh_all (d + 48) (by show 48 ≤ d + 48; omega) [.inr (.inr (some 52)), .inl x, .inr (.inr (some 23)), .inr (.inr (some 34))] (zw_I H 0 1 (Int32.ofInt 0)) ⟨rfl, ⟨by show (0 : Int) ≤ _; omega, by show _ ≤ (700 : Int); omega⟩, rfl, rfl, trivial⟩ b0 (fun f hf => absurd hf List.not_mem_nil)
  obtain rfl := zp_Call_u c1 q1
  have e7 : (X9.2.2.1 33 7).toInt = 0 := by
    have a : 0 ≤ (X9.2.2.1 33 7).toInt ∧ (X9.2.2.1 33 7).toInt ≤ 0 := by
      rcases List.mem_cons.mp o1 with rfl | o1
      · exact o3 (33, 7, 0, 0) List.mem_cons_self
      · rcases List.mem_cons.mp o1 with rfl | o1
        · exact o3 (33, 7, 0, 0) List.mem_cons_self
        · exact absurd o1 List.not_mem_nil
    omega
  obtain ⟨X8, y1, v, H1, rfl, y2⟩ := yc_read22_33 (L := L) (σ := σ) (d := d) (T := T) (n := n) b0 hn hxn (fun k hk => (congrArg Int32.toInt (zw_ne rfl rfl)).trans (hT k hk))
  obtain rfl := zp_Call_u y1 c1
  have W1 := zB_Wd (zB_dn c2)
  have hr1 : H1.2.2.2 = H.2.2.2 := c3.1
  have e10 : H1.2.1 0 10 = H.2.1 0 10 := (zI_in c3 (p := 0) (k := 10) rfl rfl (by decide)).1.trans (zw_ne rfl rfl)
  have e3 : H1.2.1 0 3 = H.2.1 0 3 := (zI_in c3 (p := 0) (k := 3) rfl rfl (by decide)).1.trans (zw_ne rfl rfl)
  have e4 : H1.2.1 0 4 = H.2.1 0 4 := (zI_in c3 (p := 0) (k := 4) rfl rfl (by decide)).1.trans (zw_ne rfl rfl)
  have e60 : H1.2.1 60 11 = H.2.1 60 11 := (zI_in c3 (p := 60) (k := 11) rfl rfl (by decide)).1.trans (zw_ne rfl rfl)
  have e69 : ∀ k, H1.2.1 69 k = H.2.1 69 k := fun k => (zI_in c3 (p := 69) (k := k) rfl rfl (fun h9 => absurd h9.1 (by decide))).1.trans (zw_ne rfl rfl)
  refine zw_met zm_49_t rfl rfl ?_
  refine zw_ld (n := 1) (k := 1) (f := zp_isI) (pc' := 1) rfl rfl rfl rfl rfl ?_
  refine zw_blt1 (g := 12) (pc' := 4) rfl rfl rfl rfl (fun hb0 => ?_) (fun hb0 => ?_)
  · omega
  · refine zw_ld (n := 1) (k := 1) (f := zp_isI) (pc' := 5) rfl rfl rfl rfl rfl ?_
    refine zw_ld (n := 1) (k := 0) (f := zp_isR) (pc' := 6) rfl rfl rfl rfl rfl ?_
    refine zw_gI (q := 0) (pc' := 9) W rfl rfl rfl rfl rfl rfl ?_
    refine zw_ble2 (g := 22) (pc' := 12) rfl rfl rfl rfl rfl (fun hb1 => ?_) (fun hb1 => ?_)
    · refine zw_ld (n := 1) (k := 0) (f := zp_isR) (pc' := 23) rfl rfl rfl rfl rfl ?_
      refine zw_s (pc' := 24) rfl rfl ?_
      refine zw_pI (q := 0) (pc' := 27) W rfl rfl rfl rfl rfl rfl ?_
      refine zw_ld (n := 1) (k := 0) (f := zp_isR) (pc' := 28) rfl rfl rfl rfl rfl ?_
      refine zw_gR (q := 0) (pc' := 31) (zw_W_I W) rfl rfl rfl rfl ((zw_W_I W).2 0 11 _ rfl) rfl ?_
      refine zw_ld (n := 1) (k := 1) (f := zp_isI) (pc' := 32) rfl rfl rfl rfl rfl ?_
      refine zw_ld (n := 1) (k := 0) (f := zp_isR) (pc' := 33) rfl rfl rfl rfl rfl ?_
      refine zw_gR (q := 0) (pc' := 36) (zw_W_I W) rfl rfl rfl rfl g7 rfl ?_
      refine zw_ld (n := 1) (k := 0) (f := zp_isR) (pc' := 37) rfl rfl rfl rfl rfl ?_
      refine zw_gR (q := 0) (pc' := 40) (zw_W_I W) rfl rfl rfl rfl g8 rfl ?_
      refine zw_c (pc' := 43) (zw_cv (q := 51) (Y := zm_50) (zw_W_I W).1 rfl rfl zm_50_t rfl rfl) rfl rfl rfl rfl rfl (y1) ?_
      refine zw_bne1 (g := 75) (pc' := 46) rfl rfl rfl rfl (fun hv => ?_) (fun hv => ?_)
      · refine zw_ld (n := 1) (k := 0) (f := zp_isR) (pc' := 76) rfl rfl rfl rfl rfl ?_
        refine zw_cn (pc' := 79) (zw_cv (q := 0) (Y := zm_98) W1.1 rfl rfl zm_98_t rfl rfl) rfl rfl rfl rfl rfl (zsc_tn0 W1 (by rw [hr1]; exact g5) (by rw [hr1]; exact g6) (by rw [hr1]; exact g7) (by rw [hr1]; exact g8)) ?_
        refine zw_s (pc' := 80) rfl rfl ?_
        refine zw_ri rfl rfl ?_
        exact ⟨_, _, rfl, Or.inl ⟨rfl, congrArg Int32.toInt zw_eq⟩⟩
      · refine zw_ld (n := 1) (k := 0) (f := zp_isR) (pc' := 47) rfl rfl rfl rfl rfl ?_
        refine zw_ld (n := 1) (k := 0) (f := zp_isR) (pc' := 48) rfl rfl rfl rfl rfl ?_
        refine zw_gR (q := 0) (pc' := 51) W1 rfl rfl rfl rfl (W1.2 0 11 _ rfl) rfl ?_
        refine zw_gI (q := 51) (pc' := 54) W1 rfl rfl rfl rfl rfl rfl ?_
        refine zw_pI (q := 0) (pc' := 57) W1 rfl rfl rfl rfl rfl rfl ?_
        refine zw_ld (n := 1) (k := 0) (f := zp_isR) (pc' := 58) rfl rfl rfl rfl rfl ?_
        refine zw_s (pc' := 59) rfl rfl ?_
        refine zw_gI (q := 0) (pc' := 62) (zw_W_I W1) rfl rfl rfl rfl (zw_ne rfl rfl) rfl ?_
        refine zw_s (pc' := 63) rfl rfl ?_
        refine zw_iadd (pc' := 64) rfl rfl ?_
        refine zw_pI (q := 0) (pc' := 67) (zw_W_I W1) rfl rfl rfl rfl rfl rfl ?_
        refine zw_ld (n := 1) (k := 0) (f := zp_isR) (pc' := 68) rfl rfl rfl rfl rfl ?_
        refine zw_gR (q := 0) (pc' := 71) (zw_W_I (zw_W_I W1)) rfl rfl rfl rfl ((zw_W_I (zw_W_I W1)).2 0 11 _ rfl) rfl ?_
        refine zw_gI (q := 51) (pc' := 74) (zw_W_I (zw_W_I W1)) rfl rfl rfl rfl (zw_ne (zw_ne rfl rfl) rfl) rfl ?_
        refine zw_ri rfl rfl ?_
        rcases y2 with ⟨k1, _⟩ | ⟨_, r, k3, k4, k5⟩
        · omega
        · refine ⟨_, _, rfl, Or.inr ⟨fun h9 => ?_, (zw_ne (zw_ne rfl rfl) rfl).trans e60, fun k => (zw_ne (zw_ne rfl rfl) rfl).trans (e69 k)⟩⟩
          have e := h9.symm.trans k3.1
          omega
    · omega

set_option maxRecDepth 8000 in
theorem yks_y3 {L : Nat} {σ : Nat → Int32} {d : Nat} {T : Nat → Int} {n : Nat} {H : zp_H} {x : Int32} (hB : zk_Bs (zB_c 3) zg zJc H) (hn : n ≤ 700) (hxn : x.toInt = n) (hT : ∀ k, k < n → (H.2.1 1 k).toInt = T k) (hx : 0 ≤ x.toInt ∧ x.toInt ≤ (H.2.1 0 1).toInt) : ∃ X, zp_Call L σ (d + 67) 49 [.inr (.inr (some 1)), .inl x] H X ∧ ∃ v K, X = (.inl (some (.inl v)), K) ∧ yKs H v K := by
  have hb := zB_Bc hB
  have W := zB_Wd (zB_dn hb)
  have g5 : H.2.2.2 0 5 = some 23 := hB.2.1 0 5 _ rfl
  have g6 : H.2.2.2 0 6 = some 34 := hB.2.1 0 6 _ rfl
  have g7 : H.2.2.2 0 7 = some 3 := hB.2.1 0 7 _ rfl
  have g8 : H.2.2.2 0 8 = some 14 := hB.2.1 0 8 _ rfl
  have b0 : zk_Bs zB zg zJc (zw_I H 0 1 (Int32.ofInt 0)) := zB_up (zB_putf (p := 0) (k := 1) (x := Int32.ofInt 0) (zB_dn hb) rfl (fun r hr => by cases hr; decide) (zJc_I rfl hb.2.2.2.2.2.2.2)) (by
    rw [show (zw_I H 0 1 (Int32.ofInt 0)).2.1 52 4 = H.2.1 52 4 from zw_ne rfl rfl, show (zw_I H 0 1 (Int32.ofInt 0)).2.1 52 5 = H.2.1 52 5 from zw_ne rfl rfl]
    exact zB_cn hb)
  obtain ⟨X9, c1, c2, c3, _⟩ := zc_e161 (L := L) (σ := σ) zB_W zh_all (d + 48) (by show 48 ≤ d + 48; omega) [.inr (.inr (some 52)), .inl x, .inr (.inr (some 3)), .inr (.inr (some 14))] (zw_I H 0 1 (Int32.ofInt 0)) ⟨rfl, ⟨by show (0 : Int) ≤ _; omega, by show _ ≤ (700 : Int); omega⟩, rfl, rfl, trivial⟩ b0 (fun f hf => absurd hf List.not_mem_nil)
  obtain ⟨X7, q1, q2, q3, o, o1, -, o3, -⟩ := zc_xq3 (L := L) (σ := σ) zB_W zh_all (d + 48) (by show 48 ≤ d + 48; omega) [.inr (.inr (some 52)), .inl x, .inr (.inr (some 3)), .inr (.inr (some 14))] (zw_I H 0 1 (Int32.ofInt 0)) ⟨rfl, ⟨by show (0 : Int) ≤ _; omega, by show _ ≤ (700 : Int); omega⟩, rfl, rfl, trivial⟩ b0 (fun f hf => absurd hf List.not_mem_nil)
  obtain rfl := zp_Call_u c1 q1
  have e7 : (X9.2.2.1 13 7).toInt = 0 := by
    have a : 0 ≤ (X9.2.2.1 13 7).toInt ∧ (X9.2.2.1 13 7).toInt ≤ 0 := by
      rcases List.mem_cons.mp o1 with rfl | o1
      · exact o3 (13, 7, 0, 0) List.mem_cons_self
      · rcases List.mem_cons.mp o1 with rfl | o1
        · exact o3 (13, 7, 0, 0) List.mem_cons_self
        · exact absurd o1 List.not_mem_nil
    omega
  obtain ⟨X8, y1, v, H1, rfl, y2⟩ := yc_read2_13 (L := L) (σ := σ) (d := d) (T := T) (n := n) b0 hn hxn (fun k hk => (congrArg Int32.toInt (zw_ne rfl rfl)).trans (hT k hk))
  obtain rfl := zp_Call_u y1 c1
  have W1 := zB_Wd (zB_dn c2)
  have hr1 : H1.2.2.2 = H.2.2.2 := c3.1
  have e10 : H1.2.1 0 10 = H.2.1 0 10 := (zI_in c3 (p := 0) (k := 10) rfl rfl (by decide)).1.trans (zw_ne rfl rfl)
  have e3 : H1.2.1 0 3 = H.2.1 0 3 := (zI_in c3 (p := 0) (k := 3) rfl rfl (by decide)).1.trans (zw_ne rfl rfl)
  have e4 : H1.2.1 0 4 = H.2.1 0 4 := (zI_in c3 (p := 0) (k := 4) rfl rfl (by decide)).1.trans (zw_ne rfl rfl)
  have e60 : H1.2.1 60 11 = H.2.1 60 11 := (zI_in c3 (p := 60) (k := 11) rfl rfl (by decide)).1.trans (zw_ne rfl rfl)
  have e69 : ∀ k, H1.2.1 69 k = H.2.1 69 k := fun k => (zI_in c3 (p := 69) (k := k) rfl rfl (fun h9 => absurd h9.1 (by decide))).1.trans (zw_ne rfl rfl)
  refine zw_met zm_49_t rfl rfl ?_
  refine zw_ld (n := 1) (k := 1) (f := zp_isI) (pc' := 1) rfl rfl rfl rfl rfl ?_
  refine zw_blt1 (g := 12) (pc' := 4) rfl rfl rfl rfl (fun hb0 => ?_) (fun hb0 => ?_)
  · omega
  · refine zw_ld (n := 1) (k := 1) (f := zp_isI) (pc' := 5) rfl rfl rfl rfl rfl ?_
    refine zw_ld (n := 1) (k := 0) (f := zp_isR) (pc' := 6) rfl rfl rfl rfl rfl ?_
    refine zw_gI (q := 0) (pc' := 9) W rfl rfl rfl rfl rfl rfl ?_
    refine zw_ble2 (g := 22) (pc' := 12) rfl rfl rfl rfl rfl (fun hb1 => ?_) (fun hb1 => ?_)
    · refine zw_ld (n := 1) (k := 0) (f := zp_isR) (pc' := 23) rfl rfl rfl rfl rfl ?_
      refine zw_s (pc' := 24) rfl rfl ?_
      refine zw_pI (q := 0) (pc' := 27) W rfl rfl rfl rfl rfl rfl ?_
      refine zw_ld (n := 1) (k := 0) (f := zp_isR) (pc' := 28) rfl rfl rfl rfl rfl ?_
      refine zw_gR (q := 0) (pc' := 31) (zw_W_I W) rfl rfl rfl rfl ((zw_W_I W).2 0 11 _ rfl) rfl ?_
      refine zw_ld (n := 1) (k := 1) (f := zp_isI) (pc' := 32) rfl rfl rfl rfl rfl ?_
      refine zw_ld (n := 1) (k := 0) (f := zp_isR) (pc' := 33) rfl rfl rfl rfl rfl ?_
      refine zw_gR (q := 0) (pc' := 36) (zw_W_I W) rfl rfl rfl rfl g7 rfl ?_
      refine zw_ld (n := 1) (k := 0) (f := zp_isR) (pc' := 37) rfl rfl rfl rfl rfl ?_
      refine zw_gR (q := 0) (pc' := 40) (zw_W_I W) rfl rfl rfl rfl g8 rfl ?_
      refine zw_c (pc' := 43) (zw_cv (q := 51) (Y := zm_50) (zw_W_I W).1 rfl rfl zm_50_t rfl rfl) rfl rfl rfl rfl rfl (y1) ?_
      refine zw_bne1 (g := 75) (pc' := 46) rfl rfl rfl rfl (fun hv => ?_) (fun hv => ?_)
      · refine zw_ld (n := 1) (k := 0) (f := zp_isR) (pc' := 76) rfl rfl rfl rfl rfl ?_
        refine zw_cn (pc' := 79) (zw_cv (q := 0) (Y := zm_98) W1.1 rfl rfl zm_98_t rfl rfl) rfl rfl rfl rfl rfl (zsc_tn3 W1 (by rw [hr1]; exact g5) (by rw [hr1]; exact g6) (by rw [hr1]; exact g7) (by rw [hr1]; exact g8)) ?_
        refine zw_s (pc' := 80) rfl rfl ?_
        refine zw_ri rfl rfl ?_
        exact ⟨_, _, rfl, Or.inl ⟨rfl, congrArg Int32.toInt zw_eq⟩⟩
      · refine zw_ld (n := 1) (k := 0) (f := zp_isR) (pc' := 47) rfl rfl rfl rfl rfl ?_
        refine zw_ld (n := 1) (k := 0) (f := zp_isR) (pc' := 48) rfl rfl rfl rfl rfl ?_
        refine zw_gR (q := 0) (pc' := 51) W1 rfl rfl rfl rfl (W1.2 0 11 _ rfl) rfl ?_
        refine zw_gI (q := 51) (pc' := 54) W1 rfl rfl rfl rfl rfl rfl ?_
        refine zw_pI (q := 0) (pc' := 57) W1 rfl rfl rfl rfl rfl rfl ?_
        refine zw_ld (n := 1) (k := 0) (f := zp_isR) (pc' := 58) rfl rfl rfl rfl rfl ?_
        refine zw_s (pc' := 59) rfl rfl ?_
        refine zw_gI (q := 0) (pc' := 62) (zw_W_I W1) rfl rfl rfl rfl (zw_ne rfl rfl) rfl ?_
        refine zw_s (pc' := 63) rfl rfl ?_
        refine zw_iadd (pc' := 64) rfl rfl ?_
        refine zw_pI (q := 0) (pc' := 67) (zw_W_I W1) rfl rfl rfl rfl rfl rfl ?_
        refine zw_ld (n := 1) (k := 0) (f := zp_isR) (pc' := 68) rfl rfl rfl rfl rfl ?_
        refine zw_gR (q := 0) (pc' := 71) (zw_W_I (zw_W_I W1)) rfl rfl rfl rfl ((zw_W_I (zw_W_I W1)).2 0 11 _ rfl) rfl ?_
        refine zw_gI (q := 51) (pc' := 74) (zw_W_I (zw_W_I W1)) rfl rfl rfl rfl (zw_ne (zw_ne rfl rfl) rfl) rfl ?_
        refine zw_ri rfl rfl ?_
        rcases y2 with ⟨k1, _⟩ | ⟨_, r, k3, k4, k5⟩
        · omega
        · refine ⟨_, _, rfl, Or.inr ⟨fun h9 => ?_, (zw_ne (zw_ne rfl rfl) rfl).trans e60, fun k => (zw_ne (zw_ne rfl rfl) rfl).trans (e69 k)⟩⟩
          have e := h9.symm.trans k3.1
          omega
    · omega

theorem yk_seaX {L : Nat} {σ : Nat → Int32} {d c : Nat} {T : Nat → Int} {n : Nat} {H : zp_H} {x : Int32} (h03 : c = 0 ∨ c = 3) (hc : c < 4) (hB : zk_Bs (zB_c c) zg zJc H) (hn : n ≤ 700) (hxn : x.toInt = n) (hT : ∀ k, k < n → (H.2.1 1 k).toInt = T k) (hx : 0 ≤ x.toInt ∧ x.toInt ≤ (H.2.1 0 1).toInt) : ∃ X, zp_Call L σ (d + 68) 48 [.inr (.inr (some 1)), .inl x, .inr (.inr (some 105))] H X ∧ ∃ H1 u, X = (.inl (some (.inl (Int32.ofInt 0))), zw_J H1 104 0 u.toInt64) ∧ ysc_P c T n H (.inl (some (.inl u)), H1) ∧ yKs H u H1 := by
  have W := zB_Wd (zB_dn (zB_Bc hB))
  obtain ⟨X9, c1, c2⟩ := ysc_yes (L := L) (σ := σ) (d := d) hc hB hn hxn hT hx
  obtain ⟨v, H1, rfl, c3⟩ := id c2
  have k2 : yKs H v H1 := by
    rcases h03 with rfl | rfl
    · obtain ⟨_, k1, v8, K8, rfl, k2⟩ := yks_y0 (L := L) (σ := σ) (d := d) hB hn hxn hT hx
      cases zp_Call_u c1 k1
      exact k2
    · obtain ⟨_, k1, v8, K8, rfl, k2⟩ := yks_y3 (L := L) (σ := σ) (d := d) hB hn hxn hT hx
      cases zp_Call_u c1 k1
      exact k2
  obtain ⟨_, b1, v', H1', c', b2, b3, b4, b5, b6⟩ := zsc_yes (L := L) (σ := σ) (d := d) hc hB hx
  obtain ⟨rfl, rfl⟩ : v' = v ∧ H1' = H1 := by
    have e9 := zp_Call_u b1 c1
    rw [b2] at e9
    cases e9
    exact ⟨rfl, rfl⟩
  have W1 := zB_Wd (zB_dn (zB_Bc b4))
  refine zw_met zm_48_t rfl rfl ?_
  refine zw_ld (n := 1) (k := 2) (f := zp_isR) (pc' := 1) rfl rfl rfl rfl rfl ?_
  refine zw_s (pc' := 2) rfl rfl ?_
  refine zw_ld (n := 1) (k := 0) (f := zp_isR) (pc' := 3) rfl rfl rfl rfl rfl ?_
  refine zw_ld (n := 1) (k := 1) (f := zp_isI) (pc' := 4) rfl rfl rfl rfl rfl ?_
  refine zw_ct (pc' := 7) (c' := (1, 6)) (zw_cv (q := 0) (Y := zm_49) W.1 rfl rfl zm_49_t rfl rfl) (zw_pb_ok rfl) rfl rfl rfl rfl c1 ?_
  refine zw_s (pc' := 8) rfl rfl ?_
  refine zw_ls (q := 104) (pc' := 9) W1 rfl rfl (⟨by decide, by decide⟩) rfl ?_
  refine zw_s (pc' := 15) rfl rfl ?_
  refine zw_s (pc' := 16) rfl rfl ?_
  refine zw_rig rfl rfl ⟨by decide, by decide⟩ ?_
  exact ⟨_, _, rfl, c2, k2⟩
theorem yN_sea {L : Nat} {σ : Nat → Int32} {d c t : Nat} {H : zp_H} {x : Int32} {X1 X2 : zp_X} (hJ : yJ c t H) (c1 : zp_Call L σ (d + 60) 48 [.inr (.inr (some 1)), .inl x, .inr (.inr (some 105))] H X1) (c2 : zp_Call L σ (d + 60) 169 [.inr (.inr (some 73)), .inl x] X1.2 X2) (hF : yFd H) : yFd X2.2 := by
  obtain ⟨⟨hz, hT, hq⟩, hG⟩ := hJ
  by_cases hx : 0 ≤ x.toInt ∧ x.toInt ≤ (H.2.1 0 1).toInt
  · obtain ⟨_, p1, v, H1, c', rfl, p2, c3, c4, c5⟩ := zo_seaY (L := L) (σ := σ) (d := d) hz hx
    obtain ⟨h1, h2, h3, h4, h5, h6⟩ := hz
    have hxn : x.toInt = (x.toInt.toNat : Nat) := by omega
    obtain ⟨_, b1, K, u, rfl, ⟨u', K', e9, r, r1, r2, -⟩, hk⟩ := yk_seaX (L := L) (σ := σ) (d := d) (T := fun k => (H.2.1 1 k).toInt) (n := x.toInt.toNat) hq.1 h6 h1 (by omega) hxn (fun _ _ => rfl) hx
    cases e9
    have e8 := zp_Call_u b1 p1
    cases e8
    obtain rfl := zp_Call_u c1 p1
    have b2 : zk_Bs z0R zg zJ (zw_J K 104 0 u.toInt64) := zI_R h2 c3.1 (zI_rf c3) c4
    have e22 := (c4 72 22 (by decide) (by decide) (by decide)).1
    obtain ⟨_, a1, H2, w, rfl, a2, a3, a4, ⟨r', r3, r4, r5, r6⟩, a5⟩ := ysr_yes (L := L) (σ := σ) (d := d + 47) (x := x) (Tx := fun k => (H.2.1 1 k).toInt) (nx := x.toInt.toNat) (fun k hk => (hT k (by omega)).2) b2 hxn (fun k hk => by
      rw [(c4 81 k (by decide) (by decide) (fun h9 => absurd h9.1 (by decide))).1]
      exact (hT k (by omega)).1) (by rw [e22, h4, ← h3]; exact hx)
    obtain rfl := yA2_u r1 r3
    obtain rfl := zp_Call_u c2 a1
    show yFd H2
    have o : ∀ p k, p < 72 → H2.2.1 p k = K.2.1 p k := fun p k hp => (a3.2 p k hp).1
    by_cases h0 : r.1 = 0
    · obtain ⟨-, ⟨-, n79⟩, -⟩ := r6 h0
      rcases hk with ⟨-, k6⟩ | ⟨k5, -⟩
      · have z : (H2.2.1 60 11).toInt = 0 := by rw [o 60 11 (by decide)]; exact k6
        exact ⟨Or.inr ⟨n79, z⟩, fun k hk => by rw [z] at hk; omega⟩
      · exact absurd (r2.trans h0) k5
    · obtain ⟨-, f1, f2, -, -⟩ := r5 h0
      rcases hk with ⟨k5, -⟩ | ⟨-, k6, k7⟩
      · exact absurd (r2.symm.trans k5) h0
      · exact yFd_k ((f1 72 79 rfl (by decide)).trans (c4 72 79 (by decide) (by decide) (by decide)).1) ((o 60 11 (by decide)).trans k6) (fun k => (o 69 k (by decide)).trans (k7 k)) (fun k => (f1 100 k rfl (by decide)).trans (c4 100 k (by decide) (by decide) (fun h9 => absurd h9.1 (by decide))).1) hF
  · have p1 := zo_seaN (L := L) (σ := σ) (d := d + 58) hz hx
    obtain ⟨h1, h2, h3, h4, h5, h6⟩ := hz
    obtain rfl := zp_Call_u c1 p1
    obtain ⟨_, b1, H2', w', rfl, b2, b4, b3⟩ := ysr_no (L := L) (σ := σ) (d := d + 58) (x := x) (zB_Wd (zB_dn (zB_Bc h1))) (by rw [h4, ← h3]; exact hx)
    obtain rfl := zp_Call_u c2 b1
    exact yFd_k (b3 72 79 (by decide)) (b3 60 11 (by decide)) (fun k => b3 69 k (by omega)) (fun k => b3 100 k (by omega)) hF
