/-! ===== the checker: ends, calls ===== -/
abbrev zk_XV : Type := Option zk_V ⊕ Nat
def zk_gX (τ : Nat → Int) (n : Nat) (x : zk_XV) (X : Option zp_V ⊕ Nat) : Prop := match x, X with
  | .inl none, .inl none => True
  | .inl (some a), .inl (some v) => zk_gV τ n a v
  | .inr e, .inr e' => e' = e
  | _, _ => False
def zk_thrB (mc ms : Nat) (tab : List (Nat × Instr)) (cp : Nat → Option za_row) (ex pc w cs sl : Nat) : Bool := match za_fe tab (pc + 3), za_fe tab (pc + 4) with
  | some .dup, some (.ldc is) => match za_fe tab (pc + 6), za_fe tab (pc + 9) with
    | some (.invokespecial ic), some .athrow => match cp is, cp ic with
      | some (10, _, _, _), some (15, ex', _, _) => (Nat.beq ex' ex).and ((Nat.ble w 4).and ((Nat.ble (cs + 1) mc).and (Nat.ble (sl + 6) ms)))
      | _, _ => false
    | _, _ => false
  | some .dup, some (.ldc_w is) => match za_fe tab (pc + 7), za_fe tab (pc + 10) with
    | some (.invokespecial ic), some .athrow => match cp is, cp ic with
      | some (10, _, _, _), some (15, ex', _, _) => (Nat.beq ex' ex).and ((Nat.ble w 4).and ((Nat.ble (cs + 1) mc).and (Nat.ble (sl + 6) ms)))
      | _, _ => false
    | _, _ => false
  | _, _ => false
theorem zk_thrB_ok {mc ms : Nat} {tab : List (Nat × Instr)} {cp : Nat → Option za_row} {ex pc w : Nat} {sc : List zp_V} {t : zp_T} (hw : zp_wt sc ≤ 2 * w) (h : zk_thrB mc ms tab cp ex pc w t.2.1 t.2.2 = true) : zp_thr mc ms tab cp ex pc sc t = some (.inr ex, t.1) := by
  unfold zk_thrB at h
  unfold zp_thr
  split at h
  · rename_i is f3 f4
    rw [f3, f4]
    dsimp only
    split at h
    · rename_i ic f6 f9
      rw [f6, f9]
      dsimp only
      split at h
      · rename_i r1 r2 r3 ex' r4 r5 c1 c2
        rw [c1, c2]
        obtain ⟨g1, h⟩ := Bool.and_eq_true_iff.mp h
        obtain ⟨g2, h⟩ := Bool.and_eq_true_iff.mp h
        obtain ⟨g3, g4⟩ := Bool.and_eq_true_iff.mp h
        have g2 := za_ble g2
        exact if_pos ⟨za_beq g1, by omega, za_ble g3, za_ble g4⟩
      · cases h
    · cases h
  · rename_i is f3 f4
    rw [f3, f4]
    dsimp only
    split at h
    · rename_i ic f6 f9
      rw [f6, f9]
      dsimp only
      split at h
      · rename_i r1 r2 r3 ex' r4 r5 c1 c2
        rw [c1, c2]
        obtain ⟨g1, h⟩ := Bool.and_eq_true_iff.mp h
        obtain ⟨g2, h⟩ := Bool.and_eq_true_iff.mp h
        obtain ⟨g3, g4⟩ := Bool.and_eq_true_iff.mp h
        have g2 := za_ble g2
        exact if_pos ⟨za_beq g1, by omega, za_ble g3, za_ble g4⟩
      · cases h
    · cases h
  · cases h
def zk_endI (M : za_MI) (cp : Nat → Option za_row) (i : Instr) (A : zk_A) (pc : Nat) (st : List zk_V) (cs sl : Nat) : Option zk_XV := match i with
  | .ireturn => match za_rt M, st with
    | some .int, [.inl a] => bif (Nat.ble cs (za_mc M)).and (Nat.ble sl (za_ms M)) then some (.inl (some (.inl a))) else none
    | some .boolean, [.inl a] => bif ((Nat.ble cs (za_mc M)).and (Nat.ble sl (za_ms M))).and (zk_sub1 A a (0, 1)) then some (.inl (some (.inl a))) else none
    | _, _ => none
  | .lreturn => match za_rt M, st with
    | some .long, [.inr none] => bif (Nat.ble cs (za_mc M)).and (Nat.ble sl (za_ms M)) then some (.inl (some (.inr none))) else none
    | _, _ => none
  | .return_ => match za_rt M, st with
    | none, [] => bif (Nat.ble cs (za_mc M)).and (Nat.ble sl (za_ms M)) then some (.inl none) else none
    | _, _ => none
  | .new k => match cp k, za_hh M with
    | some (6, ex, _, _), [] => bif zk_thrB (za_mc M) (za_ms M) (za_is M) cp ex pc st.length cs sl then some (.inr ex) else none
    | _, _ => none
  | _ => none
theorem zk_endI_ok {M : za_MI} {cp : Nat → Option za_row} {i : Instr} {τ : Nat → Int} {A : zk_A} {pc : Nat} {st : List zk_V} {sc : List zp_V} {t : zp_T} {x : zk_XV} (hN : zk_N τ A) (hs : za_F2 (zk_gV τ A.1) st sc) (h : zk_endI M cp i A pc st t.2.1 t.2.2 = some x) : ∃ X, zp_end M cp i pc sc t = some X ∧ X.2 = t.1 ∧ zk_gX τ A.1 x X.1 := by
  unfold zk_endI at h
  split at h
  · split at h
    · rename_i a hrt
      obtain ⟨h1, h⟩ := za_bif h
      cases h
      obtain ⟨h1, h2⟩ := Bool.and_eq_true_iff.mp h1
      obtain ⟨_, s1, rfl, v1, q1⟩ := za_F2_cons hs
      have e := za_F2_nil q1
      subst e
      obtain ⟨y, rfl, y1, y2⟩ := zk_gI_v v1
      refine ⟨(.inl (some (.inl y)), t.1), ?_, rfl, ⟨y1, y2⟩⟩
      show zp_iret (za_mc M) (za_ms M) (za_rt M) [.inl y] t = _
      rw [hrt]
      exact if_pos ⟨za_ble h1, za_ble h2⟩
    · rename_i a hrt
      obtain ⟨h1, h⟩ := za_bif h
      cases h
      obtain ⟨h1, h3⟩ := Bool.and_eq_true_iff.mp h1
      obtain ⟨h1, h2⟩ := Bool.and_eq_true_iff.mp h1
      obtain ⟨_, s1, rfl, v1, q1⟩ := za_F2_cons hs
      have e := za_F2_nil q1
      subst e
      obtain ⟨y, rfl, y1, y2⟩ := zk_gI_v v1
      have hb := zk_sub1_ok hN h3
      refine ⟨(.inl (some (.inl y)), t.1), ?_, rfl, ⟨y1, y2⟩⟩
      show zp_iret (za_mc M) (za_ms M) (za_rt M) [.inl y] t = _
      rw [hrt]
      exact if_pos ⟨⟨za_ble h1, za_ble h2⟩, zk_x01 (by rw [y2]; exact hb.1) (by rw [y2]; exact hb.2)⟩
    · cases h
  · split at h
    · rename_i hrt
      obtain ⟨h1, h⟩ := za_bif h
      cases h
      obtain ⟨h1, h2⟩ := Bool.and_eq_true_iff.mp h1
      obtain ⟨_, s1, rfl, v1, q1⟩ := za_F2_cons hs
      have e := za_F2_nil q1
      subst e
      obtain ⟨y, rfl⟩ := zk_gL_v v1
      refine ⟨(.inl (some (.inr (.inl y))), t.1), ?_, rfl, trivial⟩
      show zp_lret (za_mc M) (za_ms M) (za_rt M) [.inr (.inl y)] t = _
      rw [hrt]
      exact if_pos ⟨za_ble h1, za_ble h2⟩
    · cases h
  · split at h
    · rename_i hrt
      obtain ⟨h1, h⟩ := za_bif h
      cases h
      obtain ⟨h1, h2⟩ := Bool.and_eq_true_iff.mp h1
      have e := za_F2_nil hs
      subst e
      refine ⟨(.inl none, t.1), ?_, rfl, trivial⟩
      show zp_vret (za_mc M) (za_ms M) (za_rt M) [] t = _
      rw [hrt]
      exact if_pos ⟨za_ble h1, za_ble h2⟩
    · cases h
  · rename_i k
    split at h
    · rename_i ex r1 r2 hrow hhe
      obtain ⟨h1, h⟩ := za_bif h
      cases h
      refine ⟨(.inr ex, t.1), ?_, rfl, rfl⟩
      show (match cp k, za_hh M with
        | some (6, ex, _, _), [] => zp_thr (za_mc M) (za_ms M) (za_is M) cp ex pc sc t
        | _, _ => none) = _
      rw [hrow, hhe]
      exact zk_thrB_ok (zk_wt4 hs) h1
    · cases h
  · cases h
/-! calls -/
def zk_isRk (B : zk_B) (st : List zk_V) (k own : Nat) : Bool := match st[k]? with
  | some (.inr (some (some (q + 1)))) => match B.1[q]? with
    | some (.inl ci) => Nat.beq ci own
    | _ => false
  | _ => false
theorem zk_isRk_ok {B : zk_B} {τ : Nat → Int} {n k own : Nat} {st : List zk_V} {sc : List zp_V} {H : zp_H} (hH : H.1 = B.1) (hs : za_F2 (zk_gV τ n) st sc) (h : zk_isRk B st k own = true) : zp_isRk sc k H own = true := by
  unfold zk_isRk at h
  split at h
  · rename_i q hq
    split at h
    · rename_i ci hc
      obtain ⟨w, w1, w2⟩ := za_F2_get hs hq
      have e := zk_gR_v w2
      subst e
      unfold zp_isRk
      rw [w1]
      show (match H.1[q]? with
        | some (.inl ci) => Nat.beq ci own
        | _ => false) = true
      rw [hH, hc]
      exact h
    · cases h
  · cases h
def zk_clA (B : zk_B) (cp : Nat → Option za_row) (i : Instr) (st : List zk_V) : Option (Bool × Nat × Nat × za_MI) := match i with
  | .invokevirtual k => match cp k with
    | some (1, j, n, _) => match za_MT j with
      | some Y => bif zk_isRk B st n (za_cl Y) then some (false, j, n + 1, Y) else none
      | none => none
    | some (11, j, n, _) => match za_MT j with
      | some Y => bif zk_isRk B st n (za_cl Y) then some (true, j, n + 1, Y) else none
      | none => none
    | _ => none
  | .invokestatic k => match cp k with
    | some (2, j, n, _) => match za_MT j with
      | some Y => some (false, j, n, Y)
      | none => none
    | some (12, j, n, _) => match za_MT j with
      | some Y => some (true, j, n, Y)
      | none => none
    | _ => none
  | _ => none
theorem zk_clA_ok {B : zk_B} {τ : Nat → Int} {n : Nat} {cp : Nat → Option za_row} {i : Instr} {st : List zk_V} {sc : List zp_V} {t : zp_T} {nx : Bool} {j k : Nat} {Y : za_MI} (hH : t.1.1 = B.1) (hs : za_F2 (zk_gV τ n) st sc) (h : zk_clA B cp i st = some (nx, j, k, Y)) : zp_cl cp i sc t = some (nx, j, k, Y) ∧ za_MT j = some Y := by
  unfold zk_clA at h
  unfold zp_cl
  split at h
  · rename_i kk
    try dsimp only
    split at h
    · rename_i j9 n9 z hrow
      rw [hrow]
      show (match za_MT j9 with
        | some Y => bif zp_isRk sc n9 t.1 (za_cl Y) then some (false, j9, n9 + 1, Y) else none
        | none => none) = some (nx, j, k, Y) ∧ za_MT j = some Y
      split at h
      · rename_i Y9 hj
        obtain ⟨h1, h⟩ := za_bif h
        cases h
        rw [hj]
        try dsimp only
        rw [zk_isRk_ok hH hs h1]
        exact ⟨rfl, rfl⟩
      · cases h
    · rename_i j9 n9 z hrow
      rw [hrow]
      show (match za_MT j9 with
        | some Y => bif zp_isRk sc n9 t.1 (za_cl Y) then some (true, j9, n9 + 1, Y) else none
        | none => none) = some (nx, j, k, Y) ∧ za_MT j = some Y
      split at h
      · rename_i Y9 hj
        obtain ⟨h1, h⟩ := za_bif h
        cases h
        rw [hj]
        try dsimp only
        rw [zk_isRk_ok hH hs h1]
        exact ⟨rfl, rfl⟩
      · cases h
    · cases h
  · rename_i kk
    try dsimp only
    split at h
    · rename_i j9 n9 z hrow
      rw [hrow]
      show (match za_MT j9 with
        | some Y => some (false, j9, n9, Y)
        | none => none) = some (nx, j, k, Y) ∧ za_MT j = some Y
      split at h
      · rename_i Y9 hj
        cases h
        rw [hj]
        exact ⟨rfl, rfl⟩
      · cases h
    · rename_i j9 n9 z hrow
      rw [hrow]
      show (match za_MT j9 with
        | some Y => some (true, j9, n9, Y)
        | none => none) = some (nx, j, k, Y) ∧ za_MT j = some Y
      split at h
      · rename_i Y9 hj
        cases h
        rw [hj]
        exact ⟨rfl, rfl⟩
      · cases h
    · cases h
  · cases h
def zk_wtA : List zk_V → Nat
  | [] => 0
  | v :: l => zk_cat v + zk_wtA l
theorem zk_wtA_ok {τ : Nat → Int} {n : Nat} : ∀ {st : List zk_V} {sc : List zp_V}, za_F2 (zk_gV τ n) st sc → zp_wt sc = zk_wtA st
  | [], [], _ => rfl
  | v :: st, w :: sc, h => by
    show zp_cat w + zp_wt sc = zk_cat v + zk_wtA st
    rw [zk_wtA_ok h.2, zk_cat_ok h.1]
  | [], _ :: _, h => h.elim
  | _ :: _, [], h => h.elim
def zk_args : Nat → List zk_V → zk_LV
  | _, [] => []
  | i, v :: vs => (i, v) :: zk_args (if zk_cat v = 2 then i + 2 else i + 1) vs
theorem zk_args_ok {τ : Nat → Int} {n : Nat} : ∀ {as : List zk_V} {vs : List zp_V} (i : Nat), za_F2 (zk_gV τ n) as vs → zk_L τ n (zk_args i as) (zp_args i vs)
  | [], [], _, _ => fun j v h => by cases h
  | a :: as, v :: vs, i, h => by
    intro j w hw
    have ih := zk_args_ok (if zk_cat a = 2 then i + 2 else i + 1) h.2
    unfold zk_args at hw
    unfold zk_get at hw
    show ∃ w9, (bif Nat.beq i j then some v else zp_get (zp_args (if zp_cat v = 2 then i + 2 else i + 1) vs) j) = some w9 ∧ _
    cases hb : Nat.beq i j with
    | true =>
      rw [hb] at hw
      cases hw
      exact ⟨v, rfl, h.1⟩
    | false =>
      rw [hb] at hw
      rw [← zk_cat_ok h.1]
      exact ih j w hw
  | [], _ :: _, _, h => h.elim
  | _ :: _, [], _, h => h.elim
/-! a summary's use -/
def zk_pB (A : zk_A) (p : zk_P) (v : zk_V) : Bool := match p, v with
  | .inl r, .inl a => zk_sub1 A a r
  | .inr none, .inr none => true
  | .inr (some none), .inr (some none) => true
  | .inr (some (some p)), .inr (some (some q)) => Nat.beq p q
  | _, _ => false
theorem zk_pB_ok {τ : Nat → Int} {A : zk_A} {p : zk_P} {v : zk_V} {w : zp_V} (hN : zk_N τ A) (hv : zk_gV τ A.1 v w) (h : zk_pB A p v = true) : zk_pv p w := by
  match p, v, h with
  | .inl r, .inl a, h =>
    obtain ⟨x, rfl, x1, x2⟩ := zk_gI_v hv
    show zk_in x.toInt r
    rw [x2]
    exact zk_sub1_ok hN h
  | .inr none, .inr none, _ =>
    obtain ⟨x, rfl⟩ := zk_gL_v hv
    trivial
  | .inr (some none), .inr (some none), _ =>
    have e := zk_gR_v hv
    subst e
    rfl
  | .inr (some (some p)), .inr (some (some q)), h =>
    have e := zk_gR_v hv
    subst e
    show some q = some p
    rw [za_beq (show Nat.beq p q = true from h)]
def zk_amB (A : zk_A) : List zk_P → List zk_V → Bool
  | [], [] => true
  | p :: l, v :: m => (zk_pB A p v).and (zk_amB A l m)
  | _, _ => false
theorem zk_amB_ok {τ : Nat → Int} {A : zk_A} (hN : zk_N τ A) : ∀ {ps : List zk_P} {vs : List zk_V} {ws : List zp_V}, za_F2 (zk_gV τ A.1) vs ws → zk_amB A ps vs = true → za_F2 zk_pv ps ws
  | [], [], [], _, _ => trivial
  | p :: ps, v :: vs, w :: ws, hv, h => by
    obtain ⟨h1, h2⟩ := Bool.and_eq_true_iff.mp h
    exact ⟨zk_pB_ok hN hv.1 h1, zk_amB_ok hN hv.2 h2⟩
  | _, [], _ :: _, hv, _ => hv.elim
  | _, _ :: _, [], hv, _ => hv.elim
  | [], _ :: _, _, _, h => by cases h
  | _ :: _, [], _, _, h => by cases h
/-- a field lies in a range -/
def zk_ff (B : zk_B) (A : zk_A) (f : Nat × Nat × Int × Int) : Bool := match zk_fr1 B A f.1 f.2.1 with
  | some r => zk_le2 r f.2.2
  | none => false
theorem zk_ff_ok {B : zk_B} {gh : zp_H → Int} {J : zp_H → Prop} {τ : Nat → Int} {A : zk_A} {H : zp_H} {f : Nat × Nat × Int × Int} (hN : zk_N τ A) (hH : zk_Hp B gh J τ A H) (h : zk_ff B A f = true) : zk_in (zk_fv gh H f.1 f.2.1) f.2.2 := by
  unfold zk_ff at h
  split at h
  · rename_i r hr
    have g := zk_fr1_ok hN hH hr
    obtain ⟨h1, h2⟩ := Bool.and_eq_true_iff.mp h
    exact ⟨Int.le_trans (za_ile_t h1) g.1, Int.le_trans g.2 (za_ile_t h2)⟩
  · cases h
def zk_fd (B : zk_B) (A : zk_A) (j : Nat) (vs : List zk_V) : List zk_T → Option zk_T
  | [] => none
  | e :: l => bif Nat.beq e.1 j then bif (zk_amB A e.2.1 vs).and (e.2.2.1.all (zk_ff B A)) then some e else zk_fd B A j vs l else zk_fd B A j vs l
theorem zk_fd_ok {B : zk_B} {A : zk_A} {j : Nat} {vs : List zk_V} {s : zk_T} : ∀ {T : List zk_T}, zk_fd B A j vs T = some s → s ∈ T ∧ s.1 = j ∧ zk_amB A s.2.1 vs = true
  | [], h => by cases h
  | e :: l, h => by
    unfold zk_fd at h
    cases h1 : Nat.beq e.1 j with
    | false =>
      rw [h1] at h
      obtain ⟨g1, g2⟩ := zk_fd_ok h
      exact ⟨List.mem_cons_of_mem _ g1, g2⟩
    | true =>
      rw [h1] at h
      cases h2 : (zk_amB A e.2.1 vs).and (e.2.2.1.all (zk_ff B A)) with
      | false =>
        rw [h2] at h
        obtain ⟨g1, g2⟩ := zk_fd_ok h
        exact ⟨List.mem_cons_of_mem _ g1, g2⟩
      | true =>
        rw [h2] at h
        cases h
        exact ⟨List.mem_cons_self, za_beq h1, (Bool.and_eq_true_iff.mp h2).1⟩
def zk_fa : List (Nat × Nat × Int × Int) → zk_A → zk_A
  | [], A => A
  | f :: l, A => zk_fa l (zk_addo (zk_fresh A f.2.2.1 f.2.2.2 1) f.1 f.2.1).1
theorem zk_fa_ok {B : zk_B} {gh : zp_H → Int} {J : zp_H → Prop} {H : zp_H} : ∀ {fs : List (Nat × Nat × Int × Int)} {τ : Nat → Int} {A : zk_A}, (∀ f ∈ fs, zk_in (zk_fv gh H f.1 f.2.1) f.2.2) → zk_N τ A → zk_Hp B gh J τ A H → ∃ τ', zk_ext A.1 τ τ' ∧ A.1 ≤ (zk_fa fs A).1 ∧ zk_N τ' (zk_fa fs A) ∧ zk_Hp B gh J τ' (zk_fa fs A) H
  | [], τ, A, _, hN, hH => ⟨τ, zk_ext_r τ, Nat.le_refl _, hN, hH⟩
  | f :: l, τ, A, hf, hN, hH => by
    have h1 := hf f List.mem_cons_self
    obtain ⟨τ1, a1, a2, a3, a4, -, -⟩ := zk_addo_ok (p := f.1) (k := f.2.1) (zk_Rs_h hH (zk_fresh_ok (md := 1) hN h1.1 h1.2 (Int.one_dvd _)))
    obtain ⟨τ2, b1, b2, b3, b4⟩ := zk_fa_ok (fs := l) (fun f' h' => hf f' (List.mem_cons_of_mem _ h')) a3 a4
    exact ⟨τ2, zk_ext_t a2 a1 b1, Nat.le_trans a2 b2, b3, b4⟩
def zk_ra (ov0 : List (Nat × Nat × Bool × zk_I)) : List (Nat × Nat × Int) → zk_A → zk_A
  | [], A => A
  | f :: l, A => zk_ra ov0 l (match zk_og ov0 f.1 f.2.1, zk_og A.2.2.1 f.1 f.2.1 with
    | some a0, some a1 => (A.1, A.2.1, A.2.2.1, A.2.2.2.1, (3, a1, (a0.1, a0.2 + f.2.2), (0, 0)) :: A.2.2.2.2)
    | _, _ => A)
theorem zk_ra_ok {B : zk_B} {gh : zp_H → Int} {J : zp_H → Prop} {H0 H : zp_H} {τ : Nat → Int} {ov0 : List (Nat × Nat × Bool × zk_I)} {n0 : Nat} (h0 : ∀ q ∈ ov0, q.2.2.2.1 ≤ n0 ∧ zk_fv gh H0 q.1 q.2.1 = zk_ev τ q.2.2.2) : ∀ {fs : List (Nat × Nat × Int)} {A : zk_A}, n0 ≤ A.1 → (∀ f ∈ fs, zk_fv gh H0 f.1 f.2.1 + f.2.2 ≤ zk_fv gh H f.1 f.2.1) → zk_N τ A → zk_Hp B gh J τ A H → (zk_ra ov0 fs A).1 = A.1 ∧ zk_N τ (zk_ra ov0 fs A) ∧ zk_Hp B gh J τ (zk_ra ov0 fs A) H
  | [], A, _, _, hN, hH => ⟨rfl, hN, hH⟩
  | f :: l, A, hn, hf, hN, hH => by
    unfold zk_ra
    have hf' := fun f' h' => hf f' (List.mem_cons_of_mem f h')
    split
    · rename_i a0 a1 g0 g1
      obtain ⟨e0, x1, x2, x3, x4⟩ := zk_og_m g0
      obtain ⟨e1, y1, y2, y3, y4⟩ := zk_og_m g1
      obtain ⟨u1, u2⟩ := h0 e0 x1
      obtain ⟨v1, v2⟩ := hH.2.2.1 e1 y1
      rw [x2, x3, x4] at u2
      rw [y2, y3, y4] at v2
      rw [x4] at u1
      rw [y4] at v1
      have h9 := hf f List.mem_cons_self
      refine zk_ra_ok h0 (A := (A.1, A.2.1, A.2.2.1, A.2.2.2.1, (3, a1, (a0.1, a0.2 + f.2.2), (0, 0)) :: A.2.2.2.2)) hn hf' ⟨hN.1, fun q hq => ?_⟩ hH
      rcases List.mem_cons.mp hq with rfl | hq
      · refine ⟨v1, Nat.le_trans u1 hn, Nat.zero_le _, ?_⟩
        show zk_ev τ (a0.1, a0.2 + f.2.2) ≤ zk_ev τ a1
        rw [zk_ev_off]
        omega
      · exact hN.2 q hq
    · exact zk_ra_ok h0 hn hf' hN hH
def zk_rt (A : zk_A) (o : Option zk_P ⊕ Nat) : zk_A × zk_XV := match o with
  | .inl none => (A, .inl none)
  | .inl (some (.inl r)) => ((zk_fresh A r.1 r.2 1).1, .inl (some (.inl (zk_fresh A r.1 r.2 1).2)))
  | .inl (some (.inr z)) => (A, .inl (some (.inr z)))
  | .inr e => (A, .inr e)
theorem zk_rt_ok {B : zk_B} {gh : zp_H → Int} {J : zp_H → Prop} {H : zp_H} {τ : Nat → Int} {A : zk_A} {o : Option zk_P ⊕ Nat} {X : Option zp_V ⊕ Nat} (hN : zk_N τ A) (hH : zk_Hp B gh J τ A H) (h : zk_rv o X) : ∃ τ', zk_ext A.1 τ τ' ∧ A.1 ≤ (zk_rt A o).1.1 ∧ zk_N τ' (zk_rt A o).1 ∧ zk_Hp B gh J τ' (zk_rt A o).1 H ∧ zk_gX τ' (zk_rt A o).1.1 (zk_rt A o).2 X := by
  match o, X, h with
  | .inl none, .inl none, _ => exact ⟨τ, zk_ext_r τ, Nat.le_refl _, hN, hH, trivial⟩
  | .inl (some (.inl r)), .inl (some (.inl x)), h =>
    have h : zk_in x.toInt r := h
    obtain ⟨τ1, a1, a2, a3, a4, a5, a6⟩ := zk_Rs_h hH (zk_fresh_ok (md := 1) hN h.1 h.2 (Int.one_dvd _))
    exact ⟨τ1, a1, a2, a3, a4, a5, a6⟩
  | .inl (some (.inr none)), .inl (some (.inr (.inl y))), _ => exact ⟨τ, zk_ext_r τ, Nat.le_refl _, hN, hH, trivial⟩
  | .inl (some (.inr (some r))), .inl (some (.inr (.inr r'))), h => exact ⟨τ, zk_ext_r τ, Nat.le_refl _, hN, hH, h⟩
  | .inr e, .inr e', h => exact ⟨τ, zk_ext_r τ, Nat.le_refl _, hN, hH, h⟩
/-- the state behind an outcome -/
def zk_so (s : zk_T) (o : zk_Oc) (A : zk_A) : zk_A × zk_XV := zk_rt (zk_ra A.2.2.1 o.2.2 (zk_fa o.2.1 (zk_bh s.2.2.2.1 s.2.2.2.2.1 A))) o.1
theorem zk_so_ok {B : zk_B} {gh : zp_H → Int} {J : zp_H → Prop} {fz : Nat → Nat → Bool} {H : zp_H} {τ : Nat → Int} {A : zk_A} {s : zk_T} {o : zk_Oc} {X : zp_X} (hw : zk_W B gh J fz) (hN : zk_N τ A) (hH : zk_Hp B gh J τ A H) (hB : zk_Bs B gh J X.2) (hF : zk_Fr gh s.2.2.2.1 s.2.2.2.2.1 H X.2) (ho : zk_oc gh H o X) : ∃ τ', zk_ext A.1 τ τ' ∧ A.1 ≤ (zk_so s o A).1.1 ∧ zk_N τ' (zk_so s o A).1 ∧ zk_Hp B gh J τ' (zk_so s o A).1 X.2 ∧ zk_gX τ' (zk_so s o A).1.1 (zk_so s o A).2 X.1 := by
  obtain ⟨a1, a2⟩ := zk_bh_ok hw hN hH hB hF
  obtain ⟨τ1, b1, b2, b3, b4⟩ := zk_fa_ok (fs := o.2.1) ho.2.1 a1 a2
  have b1 : zk_ext A.1 τ τ1 := b1
  have b2 : A.1 ≤ (zk_fa o.2.1 (zk_bh s.2.2.2.1 s.2.2.2.2.1 A)).1 := b2
  obtain ⟨c1, c2, c3⟩ := zk_ra_ok (H0 := H) (ov0 := A.2.2.1) (n0 := A.1) (fun q hq => ⟨(hH.2.2.1 q hq).1, by rw [zk_ev_x (hH.2.2.1 q hq).1 b1]; exact (hH.2.2.1 q hq).2⟩) (fs := o.2.2) b2 ho.2.2 b3 b4
  obtain ⟨τ2, d1, d2, d3, d4, d5⟩ := zk_rt_ok c2 c3 ho.1
  rw [c1] at d1 d2
  exact ⟨τ2, zk_ext_t b2 b1 d1, Nat.le_trans b2 d2, d3, d4, d5⟩
theorem zk_Fr_w {gh : zp_H → Int} {mods mods' : List (Nat × Nat)} {am am' : List Nat} {H H' : zp_H} (h1 : mods'.all (fun q => zk_inm mods q.1 q.2) = true) (h2 : am'.all (fun q => zk_ina am q) = true) (h : zk_Fr gh mods' am' H H') : zk_Fr gh mods am H H' := by
  refine ⟨h.1, ?_⟩
  intro p k g1 g2
  refine h.2 p k ?_ ?_
  · cases hb : zk_inm mods' p k with
    | false => rfl
    | true =>
      obtain ⟨q, q1, q2⟩ := List.any_eq_true.mp hb
      obtain ⟨q3, q4⟩ := Bool.and_eq_true_iff.mp q2
      have h9 := List.all_eq_true.mp h1 q q1
      rw [za_beq q3, za_beq q4, g1] at h9
      cases h9
  · cases hb : zk_ina am' p with
    | false => rfl
    | true =>
      obtain ⟨q, q1, q2⟩ := List.any_eq_true.mp hb
      have h9 := List.all_eq_true.mp h2 q q1
      rw [za_beq q2, g2] at h9
      cases h9
