/-! ===== the law, from its start to its end ===== -/
def zd_lf (h : List za_O) (p k : Nat) : Option Int64 := match h[p]? with
  | some (.inl (_, fs)) => match fs[k]? with
    | some (.inr (.inl o)) => o
    | _ => none
  | _ => none
theorem zd_lf_ok {E : za_E} {ads : List Nat} {h : List za_O} {ws : va_W} (hF : za_F2 (fun o (q : Nat × va_E) => za_gO E ads o q.2) h ws) {p k : Nat} {u : Int64} (hc : zd_lf h p k = some u) : zd_lng ws p k = u := by
  unfold zd_lf at hc
  split at hc
  · rename_i ci fs hp
    split at hc
    · rename_i o hk
      obtain ⟨⟨ad, x⟩, x1, x2⟩ := za_F2_get hF hp
      match x, x2, x1 with
      | .inr (ck, vs), x2, x1 =>
        obtain ⟨w, w1, y, rfl, w3⟩ := za_F2_get x2.2 hk
        have hI : zd_lng ws p k = y := by
          unfold zd_lng
          rw [x1]
          show (match vs[k]? with
            | some (.long x) => x
            | _ => 0) = y
          rw [w1]
        rw [hI]
        exact w3 u hc
    · cases hc
  · cases hc
def zd_eql (o : Option Int64) : Bool := match o with
  | some u => decide (u = 0)
  | none => false
theorem zd_eql_t {o : Option Int64} (h : zd_eql o = true) : o = some 0 := by
  cases o with
  | none => cases h
  | some u => rw [of_decide_eq_true (show decide (u = 0) = true from h)]
def zd_x (S : za_S) : Bool := (([((2 : Nat), (0 : Nat), ((6 : Int), (6 : Int))), ((72 : Nat), (1 : Nat), ((6 : Int), (6 : Int))), ((2 : Nat), (1 : Nat), ((6 : Int), (6 : Int))), ((72 : Nat), (2 : Nat), ((6 : Int), (6 : Int))), ((2 : Nat), (7 : Nat), ((0 : Int), (0 : Int))), ((72 : Nat), (6 : Nat), ((0 : Int), (0 : Int))), ((2 : Nat), (12 : Nat), ((0 : Int), (0 : Int))), ((72 : Nat), (7 : Nat), ((0 : Int), (0 : Int))), ((2 : Nat), (16 : Nat), ((0 : Int), (0 : Int))), ((72 : Nat), (8 : Nat), ((0 : Int), (0 : Int))), ((2 : Nat), (9 : Nat), ((0 : Int), (0 : Int))), ((72 : Nat), (9 : Nat), ((0 : Int), (0 : Int))), ((2 : Nat), (10 : Nat), ((2 : Int), (2 : Int))), ((72 : Nat), (10 : Nat), ((2 : Int), (2 : Int))), ((2 : Nat), (11 : Nat), ((5 : Int), (5 : Int))), ((72 : Nat), (11 : Nat), ((5 : Int), (5 : Int))), ((72 : Nat), (3 : Nat), ((0 : Int), (0 : Int))), ((13 : Nat), (0 : Nat), ((0 : Int), (0 : Int))), ((13 : Nat), (7 : Nat), ((0 : Int), (0 : Int))), ((72 : Nat), (5 : Nat), ((0 : Int), (0 : Int))), ((72 : Nat), (62 : Nat), ((0 : Int), (0 : Int))), ((0 : Nat), (10 : Nat), ((0 : Int), (0 : Int))), ((72 : Nat), (80 : Nat), ((0 : Int), (0 : Int))), ((0 : Nat), (3 : Nat), ((0 : Int), (0 : Int))), ((0 : Nat), (4 : Nat), ((0 : Int), (0 : Int)))].all (fun q => zd_in (zd_c S.2.2.2.1 q.1 q.2.1) q.2.2)).and (((zd_eql (zd_lf S.2.2.2.1 2 3)).and (zd_eql (zd_lf S.2.2.2.1 72 12))).and ((List.range 64).all (fun i => (zd_in (zd_a S.2.2.2.1 4 i) (-1, -1)).and (zd_in (zd_a S.2.2.2.1 73 i) (-1, -1)))))).and ((zd_in (zd_a S.2.2.2.1 82 0) (0, 0)).and (zd_in (zd_a S.2.2.2.1 82 1) (0, 0)))
def zd_ax (o : Option za_S) : Bool := match o with
  | some S => zd_x S
  | none => false
theorem zd_runx : zd_ax (zd_go (za_call0 100000 60) 13 zd_S0) = true := by decide +kernel
def zz_At (p : Program) (s : State) (m : MethodId) (meth : Method) (c : Code) (b L : Nat) (xs : Nat → Int32) : Prop :=
  p.tables.exec = Jvm.exec ∧ c.code = code ∧ meth.sig.returnType = ret ∧ c.maxLocals = 8 ∧ s.vm.findClass RL = some m.cls ∧ (∀ w ∈ lw_tbl, w.before #[Value.ref b] s = true) ∧ va_X b L xs s s.heap ∧ b < s.heap.size ∧ meth.locks = false ∧ (Jvm.Cond.and given_1 narrow_1).before #[Value.ref b] s = true ∧ meth.name = yL_law.name ∧ c.exceptionTable.toList = tableOf []
def zz_Q (_ : Array Value) (s : State) (o : Outcome) (t : State) : Prop := o = .returned (some (.int 1)) ∧ Framed s o t [] 601024 7293033
def zz_Z (below : List Frame) (a : Array Value) (s : State) : State → Prop := fun t => ∃ o, t.status = .running ∧ Ended t below o ∧ zz_Q a s o t
set_option maxHeartbeats 4000000 in
theorem zz_start {p : Program} {e : Env} {s : State} {m : MethodId} {below : List Frame} {meth : Method} {c : Code} (l : Launch) (hl : l.stackTraces = false) {b L : Nat} {xs : Nat → Int32} (hL : L ≤ 3072) (C0 : zz_At p s m meth c b L xs) : W p l e room_1 s m #[Value.ref b] below meth c s.heap [] 0 0 (zz_Z below #[Value.ref b] s) (entryFrame m ([Value.ref b] : List Value).toArray 8) := by
  obtain ⟨hx, hb, hr, hml, hown, hts, hX, hbl, hlocks, hgv, hnm, htab⟩ := C0
  obtain ⟨E, e1, e2, e3, K⟩ := zy_K0 hl hts hX hbl hgv
  obtain ⟨sa, sv, hSK⟩ := zS_of e3 hts hgv
  have hstr := zS_strOK K hSK
  have X : za_Cx p l room_1 s m #[Value.ref b] meth c E L s 60 zL := ⟨hx, hb, hml, hr, hlocks, hnm, hown, htab, K, State.WarmedH.refl s, ⟨by rw [e3]; exact Nat.le_refl _, fun q _ => by rw [e3]⟩, zd_L, by decide, by decide, rfl, rfl⟩
  have hrun := zd_run
  cases hgo : zd_go (za_call0 100000 60) 13 zd_S0 with
  | none => rw [hgo] at hrun; cases hrun
  | some S =>
    rw [hgo] at hrun
    have hxx := zd_runx
    rw [hgo] at hxx
    have hxx : zd_x S = true := hxx
    have hfin : zd_fin S = true := hrun
    obtain ⟨f1, hfin⟩ := Bool.and_eq_true_iff.mp hfin
    obtain ⟨f2, hfin⟩ := Bool.and_eq_true_iff.mp hfin
    obtain ⟨f3, hfin⟩ := Bool.and_eq_true_iff.mp hfin
    obtain ⟨f4, hfin⟩ := Bool.and_eq_true_iff.mp hfin
    obtain ⟨f5, f6⟩ := Bool.and_eq_true_iff.mp hfin
    obtain ⟨pc, lvA, stA, hA, ρA, cs, sl⟩ := S
    have g1 : pc = 23 := za_beq f1
    have g2 : lvA = zd_lv := of_decide_eq_true f2
    have g3 : stA = [] := by
      cases stA with
      | nil => rfl
      | cons v l9 => cases f3
    have g5 : cs ≤ 500000 := za_ble f5
    have g6 : sl ≤ 7000000 := za_ble f6
    have g4 : zd_ck hA = true := f4
    clear f1 f2 f3 f4 f5 f6 hfin hrun
    subst g1
    subst g2
    subst g3
    have hk : za_G p l e room_1 s m #[Value.ref b] below meth c (zz_Z below #[Value.ref b] s) E (za_nL zL) [b] (23, zd_lv, [], hA, ρA, cs, sl) := by
      intro ads H locs ls stk Mm
      obtain ⟨h1, h2, h3, ⟨lc, hlc, h4⟩, h5, h6⟩ := Mm
      obtain ⟨ws, w1, w2⟩ := zd_W h5 (Bool.and_eq_true_iff.mp g4).1
      have hI := zd_ck_ok w2 g4
      obtain ⟨hxx, hx82⟩ := Bool.and_eq_true_iff.mp hxx
      obtain ⟨hx0, hx1⟩ := Bool.and_eq_true_iff.mp hx82
      have y0 := zd_ina_ok w2 hx0
      have y1 := zd_ina_ok w2 hx1
      have y0 : (0 : Int) ≤ (zd_int ws 82 0).toInt ∧ (zd_int ws 82 0).toInt ≤ 0 := y0
      have y1 : (0 : Int) ≤ (zd_int ws 82 1).toInt ∧ (zd_int ws 82 1).toInt ≤ 0 := y1
      obtain ⟨hxf, hxx⟩ := Bool.and_eq_true_iff.mp hxx
      obtain ⟨hxl, hxa⟩ := Bool.and_eq_true_iff.mp hxx
      obtain ⟨hxl, hxm⟩ := Bool.and_eq_true_iff.mp hxl
      have l1 : zd_lng ws 2 3 = 0 := zd_lf_ok w2 (zd_eql_t hxl)
      have l2 : zd_lng ws 72 12 = 0 := zd_lf_ok w2 (zd_eql_t hxm)
      have x0 : (6 : Int) ≤ (zd_int ws 2 0).toInt ∧ (zd_int ws 2 0).toInt ≤ (6 : Int) := zd_in_ok w2 (List.all_eq_true.mp hxf _ (List.mem_of_getElem? (i := 0) rfl))
      have x1 : (6 : Int) ≤ (zd_int ws 72 1).toInt ∧ (zd_int ws 72 1).toInt ≤ (6 : Int) := zd_in_ok w2 (List.all_eq_true.mp hxf _ (List.mem_of_getElem? (i := 1) rfl))
      have x2 : (6 : Int) ≤ (zd_int ws 2 1).toInt ∧ (zd_int ws 2 1).toInt ≤ (6 : Int) := zd_in_ok w2 (List.all_eq_true.mp hxf _ (List.mem_of_getElem? (i := 2) rfl))
      have x3 : (6 : Int) ≤ (zd_int ws 72 2).toInt ∧ (zd_int ws 72 2).toInt ≤ (6 : Int) := zd_in_ok w2 (List.all_eq_true.mp hxf _ (List.mem_of_getElem? (i := 3) rfl))
      have x4 : (0 : Int) ≤ (zd_int ws 2 7).toInt ∧ (zd_int ws 2 7).toInt ≤ (0 : Int) := zd_in_ok w2 (List.all_eq_true.mp hxf _ (List.mem_of_getElem? (i := 4) rfl))
      have x5 : (0 : Int) ≤ (zd_int ws 72 6).toInt ∧ (zd_int ws 72 6).toInt ≤ (0 : Int) := zd_in_ok w2 (List.all_eq_true.mp hxf _ (List.mem_of_getElem? (i := 5) rfl))
      have x6 : (0 : Int) ≤ (zd_int ws 2 12).toInt ∧ (zd_int ws 2 12).toInt ≤ (0 : Int) := zd_in_ok w2 (List.all_eq_true.mp hxf _ (List.mem_of_getElem? (i := 6) rfl))
      have x7 : (0 : Int) ≤ (zd_int ws 72 7).toInt ∧ (zd_int ws 72 7).toInt ≤ (0 : Int) := zd_in_ok w2 (List.all_eq_true.mp hxf _ (List.mem_of_getElem? (i := 7) rfl))
      have x8 : (0 : Int) ≤ (zd_int ws 2 16).toInt ∧ (zd_int ws 2 16).toInt ≤ (0 : Int) := zd_in_ok w2 (List.all_eq_true.mp hxf _ (List.mem_of_getElem? (i := 8) rfl))
      have x9 : (0 : Int) ≤ (zd_int ws 72 8).toInt ∧ (zd_int ws 72 8).toInt ≤ (0 : Int) := zd_in_ok w2 (List.all_eq_true.mp hxf _ (List.mem_of_getElem? (i := 9) rfl))
      have x10 : (0 : Int) ≤ (zd_int ws 2 9).toInt ∧ (zd_int ws 2 9).toInt ≤ (0 : Int) := zd_in_ok w2 (List.all_eq_true.mp hxf _ (List.mem_of_getElem? (i := 10) rfl))
      have x11 : (0 : Int) ≤ (zd_int ws 72 9).toInt ∧ (zd_int ws 72 9).toInt ≤ (0 : Int) := zd_in_ok w2 (List.all_eq_true.mp hxf _ (List.mem_of_getElem? (i := 11) rfl))
      have x12 : (2 : Int) ≤ (zd_int ws 2 10).toInt ∧ (zd_int ws 2 10).toInt ≤ (2 : Int) := zd_in_ok w2 (List.all_eq_true.mp hxf _ (List.mem_of_getElem? (i := 12) rfl))
      have x13 : (2 : Int) ≤ (zd_int ws 72 10).toInt ∧ (zd_int ws 72 10).toInt ≤ (2 : Int) := zd_in_ok w2 (List.all_eq_true.mp hxf _ (List.mem_of_getElem? (i := 13) rfl))
      have x14 : (5 : Int) ≤ (zd_int ws 2 11).toInt ∧ (zd_int ws 2 11).toInt ≤ (5 : Int) := zd_in_ok w2 (List.all_eq_true.mp hxf _ (List.mem_of_getElem? (i := 14) rfl))
      have x15 : (5 : Int) ≤ (zd_int ws 72 11).toInt ∧ (zd_int ws 72 11).toInt ≤ (5 : Int) := zd_in_ok w2 (List.all_eq_true.mp hxf _ (List.mem_of_getElem? (i := 15) rfl))
      have x16 : (0 : Int) ≤ (zd_int ws 72 3).toInt ∧ (zd_int ws 72 3).toInt ≤ (0 : Int) := zd_in_ok w2 (List.all_eq_true.mp hxf _ (List.mem_of_getElem? (i := 16) rfl))
      have x17 : (0 : Int) ≤ (zd_int ws 13 0).toInt ∧ (zd_int ws 13 0).toInt ≤ (0 : Int) := zd_in_ok w2 (List.all_eq_true.mp hxf _ (List.mem_of_getElem? (i := 17) rfl))
      have x18 : (0 : Int) ≤ (zd_int ws 13 7).toInt ∧ (zd_int ws 13 7).toInt ≤ (0 : Int) := zd_in_ok w2 (List.all_eq_true.mp hxf _ (List.mem_of_getElem? (i := 18) rfl))
      have x19 : (0 : Int) ≤ (zd_int ws 72 5).toInt ∧ (zd_int ws 72 5).toInt ≤ (0 : Int) := zd_in_ok w2 (List.all_eq_true.mp hxf _ (List.mem_of_getElem? (i := 19) rfl))
      have x20 : (0 : Int) ≤ (zd_int ws 72 62).toInt ∧ (zd_int ws 72 62).toInt ≤ (0 : Int) := zd_in_ok w2 (List.all_eq_true.mp hxf _ (List.mem_of_getElem? (i := 20) rfl))
      have x21 : (0 : Int) ≤ (zd_int ws 0 10).toInt ∧ (zd_int ws 0 10).toInt ≤ (0 : Int) := zd_in_ok w2 (List.all_eq_true.mp hxf _ (List.mem_of_getElem? (i := 21) rfl))
      have x22 : (0 : Int) ≤ (zd_int ws 72 80).toInt ∧ (zd_int ws 72 80).toInt ≤ (0 : Int) := zd_in_ok w2 (List.all_eq_true.mp hxf _ (List.mem_of_getElem? (i := 22) rfl))
      have x23 : (0 : Int) ≤ (zd_int ws 0 3).toInt ∧ (zd_int ws 0 3).toInt ≤ (0 : Int) := zd_in_ok w2 (List.all_eq_true.mp hxf _ (List.mem_of_getElem? (i := 23) rfl))
      have x24 : (0 : Int) ≤ (zd_int ws 0 4).toInt ∧ (zd_int ws 0 4).toInt ≤ (0 : Int) := zd_in_ok w2 (List.all_eq_true.mp hxf _ (List.mem_of_getElem? (i := 24) rfl))
      have xa : ∀ i, i < 64 → zd_int ws 4 i = zd_int ws 73 i := fun i hi => by
        obtain ⟨b1, b2⟩ := Bool.and_eq_true_iff.mp (List.all_eq_true.mp hxa i (List.mem_range.mpr hi))
        have b1 := zd_ina_ok w2 b1
        have b2 := zd_ina_ok w2 b2
        have b1 : (-1 : Int) ≤ (zd_int ws 4 i).toInt ∧ (zd_int ws 4 i).toInt ≤ -1 := b1
        have b2 : (-1 : Int) ≤ (zd_int ws 73 i).toInt ∧ (zd_int ws 73 i).toInt ≤ -1 := b2
        exact Int32.toInt_inj.mp (by omega)
      have hE : yGs 0 (zd_H ws hA) := ⟨Or.inl rfl, (List.forall_mem_cons.mpr ⟨(Int32.toInt_inj.mp (by show (zd_int ws 2 0).toInt = (zd_int ws 72 1).toInt; omega)), (List.forall_mem_cons.mpr ⟨(Int32.toInt_inj.mp (by show (zd_int ws 2 1).toInt = (zd_int ws 72 2).toInt; omega)), (List.forall_mem_cons.mpr ⟨(Int32.toInt_inj.mp (by show (zd_int ws 2 7).toInt = (zd_int ws 72 6).toInt; omega)), (List.forall_mem_cons.mpr ⟨(Int32.toInt_inj.mp (by show (zd_int ws 2 12).toInt = (zd_int ws 72 7).toInt; omega)), (List.forall_mem_cons.mpr ⟨(Int32.toInt_inj.mp (by show (zd_int ws 2 16).toInt = (zd_int ws 72 8).toInt; omega)), (List.forall_mem_cons.mpr ⟨(Int32.toInt_inj.mp (by show (zd_int ws 2 9).toInt = (zd_int ws 72 9).toInt; omega)), (List.forall_mem_cons.mpr ⟨(Int32.toInt_inj.mp (by show (zd_int ws 2 10).toInt = (zd_int ws 72 10).toInt; omega)), (List.forall_mem_cons.mpr ⟨(Int32.toInt_inj.mp (by show (zd_int ws 2 11).toInt = (zd_int ws 72 11).toInt; omega)), (fun _ h => absurd h List.not_mem_nil)⟩)⟩)⟩)⟩)⟩)⟩)⟩)⟩), l1.trans l2.symm, by
        show (yBC (zd_lng ws 72 12)).toInt = (zd_int ws 72 3).toInt
        rw [l2, show (yBC 0).toInt = 0 by decide +kernel]
        omega, xa, fun g w hg _ => by
        have hg : (g : Int) < (zd_int ws 72 6).toInt := hg
        omega, fun p hp => by
        have hp : (p : Int) < (zd_int ws 72 7).toInt := hp
        omega, fun r hr => by
        have hr : (r : Int) < (zd_int ws 72 8).toInt := hr
        omega⟩
      have hK : yGc 0 (zd_H ws hA) := ⟨⟨(0, 0, fun _ _ => 0, fun _ _ _ => 0, fun _ _ => 0), ⟨Nat.zero_le _, Nat.zero_le _, fun s hs => absurd hs (Nat.not_lt_zero _), fun k hk => absurd hk (Nat.not_lt_zero _)⟩, ⟨by show (zd_int ws 13 0).toInt = 0; omega, by show (zd_int ws 13 7).toInt = 0; omega, fun s w hs => absurd hs (Nat.not_lt_zero _), fun s j w hs => absurd hs (Nat.not_lt_zero _), fun k w hk => absurd hk (Nat.not_lt_zero _)⟩, ⟨by show (zd_int ws 72 5).toInt = 0; omega, by show (zd_int ws 72 62).toInt = 0; omega, fun s w hs => absurd hs (Nat.not_lt_zero _), fun s j w hs => absurd hs (Nat.not_lt_zero _), fun k w hk => absurd hk (Nat.not_lt_zero _)⟩⟩, Int32.toInt_inj.mp (by show (zd_int ws 0 10).toInt = (zd_int ws 72 80).toInt; omega), fun hn => absurd (show (zd_int ws 0 10).toInt = 0 by omega) hn, Int32.toInt_inj.mp (by show (zd_int ws 0 3).toInt = (zd_int ws 82 0).toInt; omega), Int32.toInt_inj.mp (by show (zd_int ws 0 4).toInt = (zd_int ws 82 1).toInt; omega), fun s hs => by
        have hs : (s : Int) < (zd_int ws 72 5).toInt := hs
        omega, fun hn => absurd (show (zd_int ws 72 80).toInt = 0 by omega) hn, fun p hp => by
        have hp : (p : Int) < (zd_int ws 72 7).toInt := hp
        omega⟩
      obtain ⟨⟨i4, v4⟩, lc4, rfl, ⟨k4, x4, y4, z4⟩, h4⟩ := za_F2_cons h4
      obtain ⟨⟨i3, v3⟩, lc3, rfl, ⟨k3, y3⟩, h4⟩ := za_F2_cons h4
      obtain ⟨⟨i2, v2⟩, lc2, rfl, ⟨k2, y2⟩, h4⟩ := za_F2_cons h4
      obtain ⟨⟨i1, v1⟩, lc1, rfl, ⟨k1, y1⟩, h4⟩ := za_F2_cons h4
      obtain ⟨⟨i0, v0⟩, lc0, rfl, ⟨k0, y0⟩, h4⟩ := za_F2_cons h4
      have hnil := za_F2_nil h4
      subst hnil
      have y4 : v4 = .int x4 := y4
      have z4 : (0 : Int) ≤ x4.toInt ∧ x4.toInt ≤ (0 : Int) := z4
      have hsafe := zv_loop (L := L) (σ := za_σ E) (d := 0) hL 512 (zd_H ws hA) [(4, .inl x4), (3, .inr (.inr (some 105))), (2, .inr (.inr (some 73))), (1, .inr (.inr (some 1))), (0, .inr (.inr (some 0)))] x4 0 0 cs sl ⟨⟨hI, fun k hk => absurd hk (Nat.not_lt_zero _), hE⟩, hK⟩ rfl rfl rfl rfl rfl (by omega) (by omega) (by omega) (by omega)
      obtain ⟨X0, n, r1, r2⟩ := hsafe
      have r2 : ∃ H1, X0 = (.inl (some (.inl 1)), H1) := r2
      obtain ⟨H1, rfl⟩ := r2
      have hG := zy_run2 (below := below) (e := e) (ads0 := [b]) X hstr (zy_all2 K hstr 60) n _ _ ⟨by show cs ≤ 601024; omega, by show sl ≤ 7293033; omega⟩ r1 ads H locs ls stk ⟨h1, by
        have h3 := za_F2_nil h3
        subst h3
        exact trivial, ⟨_, hlc, ⟨k4, y4⟩, ⟨k3, y3⟩, ⟨k2, y2⟩, ⟨k1, y1⟩, ⟨k0, y0⟩, trivial⟩, w1, h6⟩
      intro T hT XT
      obtain ⟨t, a1, o, b1, b2, b3⟩ := hG T hT XT
      refine ⟨t, a1, o, b1, b2, ?_⟩
      rcases b3 with ⟨⟨v, ads9, w, m1, rfl, m3, m4, m5, m6⟩, L9, hF, hfree⟩ | ⟨q, -, E9, ce, L9, ⟨ex, ads9, m1, -⟩, -⟩
      · cases m1
        match w, m3, hF with
        | some w, m3, hF =>
          have m3 : w = .int 1 := m3
          subst m3
          refine ⟨rfl, ⟨_, rfl⟩, hF.2.1, hF.2.2.weaken (fun y hy hlt => ?_) (Nat.le_refl _) (Nat.le_refl _)⟩
          have h8 : (za_H0 E).size ≤ y.base := hfree y hy
          rw [e3] at h8
          exact absurd hlt (Nat.not_lt.mpr h8)
        | none, m3, _ => exact m3.elim
      · cases m1
    have hG := zd_go_ok (below := below) (e := e) (ads0 := [b]) X (zg_all0 K 60) hgo hk [b] s.heap [] ((lg_sl [Value.ref b] ++ List.replicate (8 - (lg_sl [Value.ref b]).length) Slot.unset).toArray) [] ⟨List.prefix_rfl, fun j q hq => by
      have hq : ([] : za_R)[j]? = some q := hq
      simp at hq, trivial, ⟨lv_args 0 [Value.ref b], lv_entry [Value.ref b] (by show 1 ≤ 8; decide), ⟨⟨rfl, ⟨b, rfl, rfl⟩⟩, trivial⟩⟩, ⟨[], by rw [e2]; rfl, trivial, fun k q h => by simp at h, ⟨fun i j p q h => by simp at h, fun k q h => by simp at h⟩⟩, ⟨Nat.le_refl _, fun _ _ _ => rfl, fun z hz => absurd hz List.not_mem_nil⟩⟩
    rw [lg_entry_eq]
    exact hG
def zz_P (b : Addr) (xs : List Int32) (args : Array Value) (s : State) : Prop := args = #[.ref b] ∧ s.IntsAt b xs ∧ xs.length ≤ 3072 ∧ (Jvm.Cond.and given_1 narrow_1).before args s = true
set_option maxHeartbeats 4000000 in
theorem zz_walk (l : Launch) (hl : l.stackTraces = false) (b : Addr) (xs : List Int32) : MetFree l x (headSpec (Jvm.Cond.code x code maxLocals ret :: tables_1) room_1) (zz_P b xs) (fun _ _ _ _ _ => True) zz_Q := by
  refine MetFree.of_bodyS (code := code) (maxLocals := maxLocals) (ret := ret) (by decide) ?_ ?_
  · intro args s m h hn
    obtain ⟨meth, c, h1, h2, h3, h4, h5, h6, -, -⟩ := Cond.code_spec hn (atoms_spec (ws := Jvm.Cond.code x code maxLocals ret :: tables_1) h _ List.mem_cons_self)
    exact ⟨meth, c, h1, h2, h3, h4, h5, h6⟩
  · intro p e s m args below meth c s₁ B hml0 hP _
    obtain ⟨rfl, hx, hbd, hgv⟩ := hP
    obtain ⟨scr, harrAt, hlist, hof, hsmall⟩ := hx
    obtain ⟨hcb, hkn, -, -⟩ := State.arrayAt?_spec harrAt
    have hown : s.vm.findClass RL = some m.cls := findClass_of_methodNamed B.named
    have hts0 : ∀ c ∈ (Jvm.Cond.code x code maxLocals ret :: tables_1), c.before #[Value.ref b] s = true := atoms_spec (ws := Jvm.Cond.code x code maxLocals ret :: tables_1) B.pre
    have hts : ∀ w ∈ lw_tbl, w.before #[Value.ref b] s = true := k2_hts_sels lw_privs (fun w hw => hts0 w (List.mem_cons_of_mem _ hw)) lw_privs_ok
    have hml : c.maxLocals = 8 := B.maxLocals_eq (hts0 _ List.mem_cons_self)
    have htab : c.exceptionTable.toList = tableOf [] := by
      obtain ⟨meth9, c9, h1, h2, -, -, -, -, h7, -⟩ := Cond.code_spec B.named (hts0 _ List.mem_cons_self)
      cases Option.some.inj (h1.symm.trans B.method)
      cases Option.some.inj (h2.symm.trans (Stand.of_body B).code)
      rw [Array.isEmpty_iff.mp h7]
      rfl
    have X₀ : Stand p l e room_1 s m #[Value.ref b] below meth c s₁ [] 0 0 := Stand.of_body B
    have hh0 : s₁.heap = s.heap := by rw [B.state]; rfl
    have hsz : scr.slots.size = xs.length := by rw [← Array.length_toList, hlist, List.length_map]
    have hval : ∀ j : Nat, j < xs.length → scr.slots[j]? = some (.int (xs.getD j 0)) := fun j hj => by
      rw [← Array.getElem?_toList, hlist]
      simp [hj]
    have hbl : b < s.heap.size := (Array.getElem?_eq_some_iff.mp hcb).1
    have hX : va_X b xs.length (fun j => xs.getD j 0) s s.heap := ⟨scr, hcb, hof, hkn, hsz, hval⟩
    have K : W p l e room_1 s m #[Value.ref b] below meth c s₁.heap [] 0 0 (zz_Z below #[Value.ref b] s) (entryFrame m ([Value.ref b] : List Value).toArray 8) := by
      rw [hh0]
      exact zz_start l hl hbd ⟨B.exec, B.bytes, B.returns, hml, hown, hts, hX, hbl, B.notSynchronized, hgv, (name_of_methodNamed B.named B.method).1, htab⟩
    obtain ⟨t, a1, o, b1, b2, b3⟩ := K s₁ rfl X₀
    exact ⟨t, o, a1, b1, b2, b3⟩
theorem zz_pre {args : Array Value} {s : State} (h : (Jvm.Cond.and given_1 narrow_1).before args s = true) (hr : rest_1_c.before args s = true) : ∃ (b : Addr) (xs : List Int32), zz_P b xs args s := by
  have hs := flat_of_before _ h
  have hq := flat_of_before _ hr
  have hc : (Cond.count 1).before args s = true := hs _ (by decide +kernel)
  have harr : (Cond.arrayOf (.arg 0) .int).before args s = true := hs _ (by decide +kernel)
  have hle : (Cond.le (.length (.arg 0)) (.int 3072)).before args s = true := hs _ (by decide +kernel)
  have hlen : (Cond.isInt (.length (.arg 0))).before args s = true := hq _ (by decide +kernel)
  have hall : (Cond.all (.arg 0) (.isInt (.elem (.arg 0) (.index 0)))).before args s = true := hq _ (by decide +kernel)
  obtain ⟨b, xs, hb, hx⟩ := State.ints_of_pre rfl harr hlen hall
  have hsm : xs.length < 2 ^ 31 := hx.choose_spec.2.2.2
  have hev : (Term.length (.arg 0)).eval args s none [] s = some (.int xs.length.toInt32) := hx.length_eval hb
  have hv := Cond.le_ints hev (show (Term.int 3072).eval args s none [] s = some (.int 3072) from rfl)
  have hd : xs.length.toInt32 ≤ 3072 := by
    simpa [Cond.before, Cond.holds, hv] using hle
  have hN : xs.length ≤ 3072 := (Int32.ofNat_le_ofNat hsm (by decide)).mp (show Int32.ofNat xs.length ≤ Int32.ofNat 3072 from hd)
  exact ⟨b, xs, Cond.one_arg hc (show args[0]? = some (.ref b) from hb), hx, hN, h⟩
theorem zz_comes (l : Launch) (hl : l.stackTraces = false) : Comes l x (Jvm.Cond.code x code maxLocals ret :: tables_1) room_1 (fun tb e args s => Calls_1 tb e args s ∧ rest_1 tb e args s ∧ Pre_1 tb e args s)
    (fun _ _ args s o t => zz_Q args s o t) := by
  intro p e ha hc hk s m args below hf hfit hheap happ hpre
  obtain ⟨b, xs, hP⟩ := zz_pre hpre.2.2 hpre.2.1
  obtain ⟨k, o, h1, h2, h3, hQ⟩ := zz_walk l hl b xs p e ha hc hk s m args below hf ((Spec.applies_iff_loose hf).mp happ).1 hP trivial
  exact ⟨k, o, h1, h2, h3, hQ⟩
theorem zz_frame {s t : State} {o : Outcome} {args : Array Value} (h : Framed s o t [] 601024 7293033) :
    Framed s o t (fieldLocs frame_1_writes args s ++ arrayLocs frame_1_arrays args s ++ staticLocs frame_1_statics s) 601024 7293033 := h
theorem zz_flag {l : Launch} (h : l.flags = flags0) : l.stackTraces = false := by
  unfold Launch.stackTraces
  rw [h]
  decide +kernel
theorem zz_limb (L : Cond) (hL : ∀ (args : Array Value) (s t : State), L.after args s (.returned (some (.int 1))) t = true) :
    ArmFor flags0 classFile x code maxLocals ret World_1 tables_1 room_1 Calls_1 rest_1 Pre_1
      (fun tb e a s o t => postC L tb e a s o t ∧ Framed s o t (fieldLocs frame_1_writes a s ++ arrayLocs frame_1_arrays a s ++ staticLocs frame_1_statics s) 601024 7293033) := by
  intro l hfl _ _ p e ha hc hk s m args below hf hfit hheap happ hpre
  obtain ⟨k, o, h1, h2, h3, rfl, hF⟩ := zz_comes l (zz_flag hfl) p e ha hc hk s m args below hf hfit hheap happ hpre
  exact ⟨k, _, h1, h2, h3, hL args s _, zz_frame hF⟩
theorem i_vc : Claimed_1_1 ∧ Claimed_1_2 := ⟨zz_limb limb_1_1 (fun args s t => by simp [limb_1_1, Cond.after, Cond.holds, Cond.value]), zz_limb limb_1_2 (fun args s t => Cond.after_iff.mpr (by
  first | (rw [show limb_1_2 = Cond.eq .result (.int 1) from rfl, Cond.eq_ints (x := 1) (y := 1) rfl rfl]; simp; done) | (simp [limb_1_2, Cond.value, Term.eval]; done)))⟩
