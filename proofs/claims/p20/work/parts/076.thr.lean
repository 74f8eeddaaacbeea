section
/-! ===== throw new E(text), where E's own constructor has its own link ===== -/
set_option maxHeartbeats 1000000 in
theorem zt_ctor {p : Program} {l : Launch} {e : Env} {R : Room} {s : State} {m₀ : MethodId} {args : Array Value} {below : List Frame} {meth : Method} {c : Code} {W : State} {locs : List Loc} {cells slots : Nat}
    (X : Stand p l e R s m₀ args below meth c W locs cells slots) (hexec : p.tables.exec = Jvm.exec) (htr : e.platform.stackTraces = false) {own cls : String} {names : List String} {ic ix : Nat} {rx : ByteArray}
    (x0 : decode rx 0 = .ok (.aload_n 0, 1)) (x1 : decode rx 1 = .ok (.aload_n 1, 1)) (x2 : decode rx 2 = .ok (.invokespecial ix, 3)) (x5 : decode rx 5 = .ok (.return_, 1))
    (hown : s.vm.findClass own = some m₀.cls) (hcls : Bundle.fit cls = true) (hnames : ∀ n ∈ names, Bundle.fit n = true)
    (h : ∀ a ∈ Bundle.ownAtomsX own ic cls ix rx names, a.before args s = true)
    (hlocs : ∀ x ∈ locs, ∀ cell, s.heap[x.base]? = some cell → cell.vm.isStatics = false)
    {a : Addr} {cX : ClassId} {kX : Class} (hfoundX : s.vm.findClass cls = some cX) (hkX : s.vm.classes[cX]? = some kX) (hcell : W.heap[a]? = some (freshCell cX kX)) (hnew : s.heap.size ≤ a)
    {msg : Value} (hmsg : msg.isRef = true)
    {g : JFrame} (hg : g.method = m₀) (hsize : g.locals.size = c.maxLocals) (hlocked : g.locked = none) (hentered : g.entered = []) {rest : List Value} (hstack : g.stack = msg :: .ref a :: .ref a :: rest)
    (hd6 : decode c.code g.pc = .ok (.invokespecial ic, 3)) (hd9 : decode c.code (g.pc + 3) = .ok (.athrow, 1)) (hout : ∀ x ∈ c.exceptionTable.toList, covers x (g.pc + 3) = false)
    (hRframes : names.length + 3 < R.frames) (hRlocals : 2 * g.monitorRoom + ((Value.ref a :: rest).map fun v => v.category).sum + (13 * (names.length + 1) + 42) ≤ R.locals) (hlocks : meth.locks = false) :
    ∃ U : State, Steps p.tables e below (W.setTop g) U ∧ U.status = .running ∧ Ended U below (.threw a) ∧ s.WarmedH U.vm ∧ s.sameButNew ({ U with vm := s.vm } : State) locs cells slots ∧
      ∃ ce, U.heap[a]? = some ce ∧ s.vm.findClass cls = some ce.cls ∧ ce.vm = .none := by
  have hmem : ∀ x : Cond, x ∈ Bundle.chainSAtomsX cls ix rx names → x ∈ Bundle.ownAtomsX own ic cls ix rx names := fun x hx => by simp [Bundle.ownAtomsX, hx]
  have hpl : e.platform.magicAccessors = ({} : Platform).magicAccessors := by rw [X.admits.platform]
  obtain ⟨T, Z0, L, -, Y⟩ := ThrowableC.of_atoms (args := args) (by rw [X.admits.platform]) (by rw [X.admits.platform]) hpl (fun x hx => h x (by simp [Bundle.ownAtomsX, hx]))
  obtain ⟨Z, M, LZ, LM, hnZ⟩ := Init0T.ofS_atoms (args := args) hpl L Y (fun x hx => h x (by simp [Bundle.ownAtomsX, hx]))
  obtain ⟨P1, Ps, hlen, L1, hL, hP1m, hlink1, hlink⟩ := Bundle.chainSX (args := args) hpl hnZ x0 x1 x2 x5 names cls hcls hnames (fun x hx => h x (hmem x hx))
  have hfound : s.vm.findClass cls = some P1.m.cls := findClass_of_methodNamed hP1m
  cases Option.some.inj (hfoundX.symm.trans hfound)
  obtain ⟨c1, kX', hc1, hk, hord, -, -, hn6⟩ := Cond.instantiable_spec (show (Cond.instantiable cls 6).holds args s none s [] = true from h _ (by simp [Bundle.ownAtomsX]))
  cases Option.some.inj (hc1.symm.trans hfound)
  cases Option.some.inj (hkX.symm.trans hk)
  have hsel : ∀ {t : MethodName} {f : MethodId}, s.methodNamed? t = some f → Cond.selects cls t t ∈ Bundle.ownAtomsX own ic cls ix rx names → s.methodFound? t.cls t.name t.desc = some f → selectMethod e.platform s.vm P1.m.cls f = .method f := by
    intro t f hf hin hff
    obtain ⟨c2, r2, m2, q1, q2, q3, q4, -⟩ := Cond.selects_spec (show (Cond.selects cls t t).holds args s none s [] = true from h _ hin)
    cases Option.some.inj (q1.symm.trans hfound)
    cases Option.some.inj (q2.symm.trans hff)
    cases Option.some.inj (q3.symm.trans hf)
    rw [Launch.admits_selectMethod X.admits]; exact q4
  have hsel0 : selectMethod e.platform s.vm P1.m.cls T.fill0 = .method T.fill0 := hsel Y.fill0 (by simp [Bundle.ownAtomsX]) (State.methodFound?_of_named Y.fill0 (by decide))
  have hselF : selectMethod e.platform s.vm P1.m.cls T.fill = .method T.fill := hsel Y.fill (by simp [Bundle.ownAtomsX]) (State.methodFound?_of_named Y.fill (by decide))
  obtain ⟨cellS0, hcS0, hiss⟩ := Y.statics
  obtain ⟨u0, hu0⟩ := Cond.staticRefV Y.unassigned L.unassignedStatic L.statics hcS0 hiss (h (.isRef (.static Bundle.tN "UNASSIGNED_STACK" Bundle.steD)) (by simp [Bundle.ownAtomsX]))
  obtain ⟨sen, hsen⟩ := Cond.staticRefV Y.sentinel L.sentinelStatic L.statics hcS0 hiss (h (.isRef (.static Bundle.tN "SUPPRESSED_SENTINEL" Bundle.listD)) (by simp [Bundle.ownAtomsX]))
  obtain ⟨ci198, i198, fB, hk198, hg198, ha198, hsB, -, hnB, htB, hffB⟩ := Cond.ownField (t := .object "java/lang/Object") Y.found L.cls (by decide +kernel) (h (.fieldLink Bundle.tN 198 Bundle.tN "backtrace" "Ljava/lang/Object;") (by simp [Bundle.ownAtomsX])) (h (.lays Bundle.tN Bundle.tN "backtrace" "Ljava/lang/Object;") (by simp [Bundle.ownAtomsX])) e.platform hpl
  obtain ⟨cellS, hcS', heS, -, hkeep⟩ := X.same.2.2.2.2.2 T.aS cellS0 hcS0
  have hcellS : W.heap[T.aS]? = some cellS := hcS'
  have hout' : ∀ i, (⟨T.aS, i⟩ : Loc) ∉ locs := fun i hmem => by
    have := hlocs _ hmem cellS0 hcS0
    rw [hiss] at this; cases this
  have hknownS : cellS.vm ≠ .unknown := by
    rw [heS]; intro hu
    rw [show cellS0.vm = .unknown from hu] at hiss
    cases hiss
  have hneS : T.aS ≠ a := Nat.ne_of_lt (Nat.lt_of_lt_of_le (Array.getElem?_eq_some_iff.mp hcS0).1 hnew)
  obtain ⟨iM, hffM⟩ := Y.msg
  obtain ⟨tyC, dC, hdC, hdnC⟩ := Cond.laysAt hfound hk Y.cause (h (.lays cls Bundle.tN "cause" "Ljava/lang/Throwable;") (by simp [Bundle.ownAtomsX]))
  obtain ⟨tyS, dS, hdS, hdnS⟩ := Cond.laysAt hfound hk Y.stack (h (.lays cls Bundle.tN "stackTrace" Bundle.steD) (by simp [Bundle.ownAtomsX]))
  obtain ⟨tyP, dP, hdP, hdnP⟩ := Cond.laysAt hfound hk Y.supp (h (.lays cls Bundle.tN "suppressedExceptions" Bundle.listD) (by simp [Bundle.ownAtomsX]))
  obtain ⟨tyM, dM, hdM, hdnM⟩ := Cond.laysAt hfound hk hffM (h (.lays cls Bundle.tN "detailMessage" "Ljava/lang/String;") (by simp [Bundle.ownAtomsX]))
  obtain ⟨tyB, dB, hdB, hdnB⟩ := Cond.laysAt hfound hk hffB (h (.lays cls Bundle.tN "backtrace" "Ljava/lang/Object;") (by simp [Bundle.ownAtomsX]))
  have bC := Cond.laysApart hdB hdC hdnB hdnC (by rw [hnB, Y.causeName]; decide)
  have bS := Cond.laysApart hdB hdS hdnB hdnS (by rw [hnB, Y.stackName]; decide)
  have bP := Cond.laysApart hdB hdP hdnB hdnP (by rw [hnB, Y.suppName]; decide)
  have hskip : SkipFacts T e.platform s (fun u => u) u0 ((preparedCellV T.toThrowableT (freshCell P1.m.cls kX) a u0 sen).withEntry W.cur) :=
    ⟨{ ci198 := ci198, i198 := i198, fBack := fB }, ⟨hk198, hg198, ha198, hsB⟩, by
      have := fresh_default (c := P1.m.cls) tyB
      rw [htB] at this
      simpa [preparedCellV, Cell.setSlot, Cell.withEntry, Array.getElem?_setIfInBounds, bC, bS, bP, bC.symm, bS.symm, bP.symm, defaultValue] using this, fun _ _ => rfl⟩
  obtain ⟨tm, methC, cdC, kC, vm₁, hnC, -, -, -, -, -, -, -, hW₁, st1⟩ := Steps.initColdS (tb := p.tables) (e := e) (below := below) (s := s) (U := W) X.here hexec X.warmed hpl hown (t := Bundle.initS cls) rfl rfl (Bundle.fit_spec hcls).2
    (h (.methodLink own ic (Bundle.initS cls)) (by simp [Bundle.ownAtomsX])) (h (.instanceMethod (Bundle.initS cls)) (hmem _ (by cases names <;> simp [Bundle.chainSAtomsX, Bundle.passSAtoms]))) (bytes := rx) (maxL := 2) (h (.code (Bundle.initS cls) rx 2 none) (hmem _ (by cases names <;> simp [Bundle.chainSAtomsX, Bundle.passSAtoms])))
    (f := g) hg (a := a) (msg := msg) (rest := .ref a :: rest) hstack hd6
  cases Option.some.inj (hnC.symm.trans hP1m)
  have X₁ := X.noted hW₁
  obtain ⟨vm₂, X₂, st2⟩ := X₁.ctorMessageOffV hexec (g := { g with stack := .ref a :: rest }) hg hsize T L Z LZ M LM (P1 :: Ps)
    (fun P hP => by rcases List.mem_cons.mp hP with rfl | hP; exact L1; exact hL P hP) ⟨hlink1, hlink⟩ (u0 := u0) (sen := sen) (self := a) hmsg (cell := freshCell P1.m.cls kX) (cellS := cellS)
    hcell (fun _ => by simp) (by simp) rfl rfl hsel0 hselF hcellS hneS hknownS (by rw [hkeep _ (hout' _)]; exact hu0) (by rw [hkeep _ (hout' _)]; exact hsen)
    (Takes.of_laid hk hord tyC (by rw [Y.causeType]; rfl)) (Takes.of_laid hk hord tyS (by rw [Y.stackType]; exact fits_refV_array _ u0)) (Takes.of_laid hk hord tyP (by rw [Y.suppType]; exact fits_refV_object _ sen))
    (Takes.of_laid hk hord tyM (by rw [Y.msgType]; exact fits_refV_object _ ⟨msg, hmsg⟩)) Y.objLocals hskip htr [] hd6
    (by simp only [List.length_cons, hlen]; omega) (by simp only [List.length_cons, hlen]; exact hRlocals)
  obtain ⟨hwalk, hrun, hended, hWU, hsame⟩ := X₂.athrowLeaves hexec (g := { g with stack := .ref a :: rest, pc := g.pc + 3 }) hg hlocked hentered hout (a := a) (rest := rest) rfl hd9
  have hlt : a < ((W.setVm vm₁).setVm vm₂).heap.size := (Array.getElem?_eq_some_iff.mp hcell).1
  have hU := heapAt_setCell_self (s := (W.setVm vm₁).setVm vm₂) (plainBareV T.toThrowableT (freshCell P1.m.cls kX) a u0 sen msg) hlt
  refine ⟨_, st1 _ (fun acts => ?_), hrun, hended, hWU, hsame.weaken (fun y hy hlt' => ?_) (Nat.le_refl _) (Nat.le_refl _), _, hU, hfound, rfl⟩
  · rw [doInvoke_state]
    exact st2 _ hwalk
  · rcases List.mem_append.mp hy with h1 | h1
    · exact h1
    · exfalso
      have hb : y.base = a := by
        simp only [List.mem_cons, List.not_mem_nil, or_false] at h1
        rcases h1 with rfl | rfl | rfl | rfl | rfl <;> rfl
      rw [hb] at hlt'
      exact Nat.not_lt.mpr hnew hlt'
set_option maxHeartbeats 1000000 in
/-- new; dup; ldc or ldc_w; invokespecial; athrow -/
theorem zt_throw {p : Program} {l : Launch} {e : Env} {R : Room} {s : State} {m : MethodId} {args : Array Value} {below : List Frame} {meth : Method} {c : Code} {H : Heap} {locs : List Loc} {cells slots : Nat} {free : Addr → Prop} {ls : Array Slot} {rest : List Value} {Qc : Array Value → State → Outcome → State → Prop} {XC : String → State → State → Prop}
    {cc : ByteArray} {pc pq : Nat} (hexec : p.tables.exec = Jvm.exec) (hb : c.code = cc) (hl : l.stackTraces = false) {own cls text : String} {names : List String} {ik is ic mc ms sa ix : Nat} {rx : ByteArray} {A : Nat → Prop}
    (x0 : decode rx 0 = .ok (.aload_n 0, 1)) (x1 : decode rx 1 = .ok (.aload_n 1, 1)) (x2 : decode rx 2 = .ok (.invokespecial ix, 3)) (x5 : decode rx 5 = .ok (.return_, 1))
    (hown : s.vm.findClass own = some m.cls) (hcls : Bundle.fit cls = true) (hnames : ∀ n ∈ names, Bundle.fit n = true)
    (hk : (Cond.classLink own ik cls).before args s = true) (hini : (Cond.initialized cls).before args s = true) (hstr : vk_R own is text sa s) (hat : ∀ w ∈ (Bundle.ownAtomsX own ic cls ix rx names).filter vx_no, w.before args s = true)
    (hgood : ∀ w ∈ Cond.classLink own ik cls :: Cond.initialized cls :: (Bundle.ownAtomsX own ic cls ix rx names).filter vx_no, vx_ot w = true)
    (hU : vx_Zq Bundle.tN "UNASSIGNED_STACK" Bundle.steD A s s.heap) (hN : vx_Zq Bundle.tN "SUPPRESSED_SENTINEL" Bundle.listD A s s.heap) (hS : va_S A s.heap H locs) (hsize : ls.size = c.maxLocals)
    (d0 : decode cc pc = .ok (.new ik, 3)) (d3 : decode cc (pc + 3) = .ok (.dup, 1)) (d4 : (decode cc (pc + 4) = .ok (.ldc is, 2) ∧ pq = pc + 6) ∨ (decode cc (pc + 4) = .ok (.ldc_w is, 3) ∧ pq = pc + 7)) (d6 : decode cc pq = .ok (.invokespecial ic, 3)) (d9 : decode cc (pq + 3) = .ok (.athrow, 1))
    (hout : ∀ x ∈ c.exceptionTable.toList, covers x (pq + 3) = false)
    (hRframes : names.length + 3 < R.frames) (hRlocals : (rest.map fun v => v.category).sum + (13 * (names.length + 1) + 43) ≤ R.locals) (hRcells : cells + 1 ≤ R.cells) (hRslots : slots + 6 ≤ R.slots) (hlocks : meth.locks = false)
    (hx : ∀ t : State, s.vm.Alike t.vm → H.size ≤ t.heap.size → (∀ q : Nat, q < H.size → t.heap[q]? = H[q]?) → XC cls s t)
    (hf : ∀ z ∈ locs, free z.base) (hc : cells + 1 ≤ mc) (hs : slots + 6 ≤ ms) :
    W p l e R s m args below meth c H locs cells slots (vx_MQ below Qc XC args s mc ms free) (F0 m pc ls rest) := by
  intro T hT X
  have htr : e.platform.stackTraces = false := (show e.platform.stackTraces = l.stackTraces by rw [X.admits.platform]).trans hl
  have Y := vx_rebase X (R' := { frames := R.frames, locals := R.locals, cells := 1, slots := 6 }) (Nat.le_refl _) (Nat.le_refl _) hRcells hRslots
  obtain ⟨s', hA⟩ : ∃ z, z = (T.setVm s.vm).setFrames (.invoking m args :: below) := ⟨_, rfl⟩
  rw [← hA] at Y
  have hvm : s'.vm = s.vm := by rw [hA]; rfl
  have hhp : s'.heap = H := by rw [hA]; exact hT
  have hW0 : s.WarmedH s'.vm := by rw [hvm]; exact State.WarmedH.refl s
  have hU' : vx_Zq Bundle.tN "UNASSIGNED_STACK" Bundle.steD A s' s'.heap := by rw [hhp]; exact vx_Zq.moved hW0.alike (hU.kept hS.2.1)
  have hN' : vx_Zq Bundle.tN "SUPPRESSED_SENTINEL" Bundle.listD A s' s'.heap := by rw [hhp]; exact vx_Zq.moved hW0.alike (hN.kept hS.2.1)
  have h : ∀ w ∈ Bundle.ownAtomsX own ic cls ix rx names, w.before args s' = true := vx_own (fun w hw => vx_ot_at hW0 hvm.symm (hgood w (List.mem_cons_of_mem _ (List.mem_cons_of_mem _ hw))) (hat w hw)) (vx_isRefq hU'.1) (vx_isRefq hN'.1) hU'.2.word hN'.2.word
  have hown' : s'.vm.findClass own = some m.cls := by rw [hvm]; exact hown
  obtain ⟨vm₁, cX, kX, hfX, hkX, -, -, X₁, st1⟩ := Y.newCold hexec (own := own) (C := cls) (index := ik) (n := 6) hown' (vx_ot_at hW0 hvm.symm (hgood _ List.mem_cons_self) hk) (h _ (by simp [Bundle.ownAtomsX])) (vx_ot_at hW0 hvm.symm (hgood _ (List.mem_cons_of_mem _ List.mem_cons_self)) hini)
    (g := F0 m pc ls rest) rfl (by rw [hb]; exact d0) (Nat.le_refl _) (Nat.le_refl _)
  generalize hT1 : (T.setVm vm₁).pushCell { cls := cX, slots := kX.instanceTypes.map defaultValue, vm := .none } = T1 at X₁ st1
  have hcat : (Value.ref T.heap.size).category = 1 := rfl
  have hcellA : T1.heap[T.heap.size]? = some (freshCell cX kX) := by rw [← hT1]; exact State.heap_pushCell_size _ _
  have d3' : decode c.code (pc + 3) = .ok (.dup, 1) := by rw [hb]; exact d3
  have hstr' : vk_R own is text sa s' := vk_R.warm hW0 hstr
  obtain ⟨U, hsteps, hrun, hend, hW, hsame, ce, hce, hcl9, hvm9⟩ := zt_ctor X₁ hexec htr x0 x1 x2 x5 hown' hcls hnames h (fun x hx => nomatch hx) hfX hkX hcellA (by rw [hhp, hT]; exact Nat.le_refl _) (msg := .ref sa) rfl
    (g := { method := m, pc := pq, locals := ls, stack := .ref sa :: .ref T.heap.size :: .ref T.heap.size :: rest, locked := none }) rfl hsize rfl rfl (rest := rest) rfl
    (by rw [hb]; exact d6) (by rw [hb]; exact d9) hout hRframes (by simp only [List.map_cons, List.sum_cons, hcat]; omega) hlocks
  obtain ⟨f1, f2⟩ := vx_frame hsame
  rw [hhp] at f1 f2
  have hWs : s.WarmedH U.vm := State.WarmedH.trans hW0 hW
  have hcl : s.vm.findClass cls = some ce.cls := by rw [← hvm]; exact hcl9
  have hall : s.sameButNew ({ U with vm := s.vm } : State) locs mc ms := by
    subst hA
    obtain ⟨e1, e2⟩ := hsame
    rw [State.setFrames_setFrames] at e1
    have h2 : (T.setVm s.vm).sameButNew ({ U with vm := s.vm } : State) [] (0 + 1) (0 + 6) := ⟨e1, e2⟩
    have h3 := X.same.trans h2
    rw [List.append_nil] at h3
    exact h3.mono hc hs
  refine ⟨U, ?_, .threw T.heap.size, hrun, hend, Or.inr ⟨T.heap.size, rfl, cls, ce, locs, hx U hWs.alike f1 (fun q hq => f2 q hq (fun z hz => nomatch hz)), hce, hvm9, hcl, hWs, hall, hf⟩⟩
  refine st1 _ ?_
  show Steps p.tables e below (T1.setTop { method := m, pc := pc + 3, locals := ls, stack := .ref T.heap.size :: rest, locked := none }) _
  jvm_step X₁.here [X₁.here.top, hexec, d3', Value.category]
  rcases d4 with ⟨d4, rfl⟩ | ⟨d4, rfl⟩
  · exact X₁.ldcString hexec (own := own) (text := text) (index := is) (a := sa) hown' hstr'.1 hstr'.2
      (g := { method := m, pc := pc + 4, locals := ls, stack := .ref T.heap.size :: .ref T.heap.size :: rest, locked := none }) rfl (by rw [hb]; exact d4) _ hsteps
  · exact X₁.ldcStringW hexec (own := own) (text := text) (index := is) (a := sa) hown' hstr'.1 hstr'.2
      (g := { method := m, pc := pc + 4, locals := ls, stack := .ref T.heap.size :: .ref T.heap.size :: rest, locked := none }) rfl (by rw [hb]; exact d4) _ hsteps
end
section
section ZN
variable {p : Program} {l : Launch} {e : Env} {R : Room} {s : State} {m : MethodId} {args : Array Value} {below : List Frame} {meth : Method} {c : Code} {Q : State → Prop} {E : za_E} {nL : Nat} {ads0 : List Nat} {cc : ByteArray} {pc : Nat}
theorem za_gO_mono {ads ads' : List Nat} (h : ads <+: ads') {o : za_O} {x : va_E} (hg : za_gO E ads o x) : za_gO E ads' o x := by
  match o, x, hg with
  | .inl (ci, fs), .inr (cj, vs), hg => exact ⟨hg.1, za_F2_mono (fun _ _ => za_gV_mono h) hg.2⟩
  | .inr (.inl (t, n, d, ups)), .inl (cA, n', .inl f), hg => exact hg
  | .inr (.inr (n, d, ups)), .inl (cA, n', .inr (.inl f)), hg => exact hg
/-- one object more -/
theorem za_add1 {ads : List Nat} {h : List za_O} {H1 : Heap} {ws : va_W} {q : Nat} {x : va_E} {o : za_O} (e1 : ads = za_b E :: ws.map (·.1)) (e2 : za_F2 (fun o (q : Nat × va_E) => za_gO E ads o q.2) h ws) (e3 : va_P (za_D E) vwCl (ws ++ [(q, x)]) H1) (e4 : va_D (za_A E) (ws ++ [(q, x)])) (ho : za_gO E (ads ++ [q]) o x) :
    za_Wd E (ads ++ [q]) (h ++ [o]) H1 ∧ (ads ++ [q])[h.length + 1]? = some q := by
  have hl : h.length = ws.length := za_F2_len e2
  refine ⟨⟨ws ++ [(q, x)], by rw [e1]; simp, za_F2_app (za_F2_mono (fun _ _ => za_gO_mono (List.prefix_append _ _)) e2) ⟨ho, trivial⟩, e3, e4⟩, ?_⟩
  rw [e1, hl]
  simp
theorem za_lv_mono {ads ads' : List Nat} (h : ads <+: ads') {lv : za_LV} {ls : Array Slot} (hl : ∃ lc, lv_has ls nL lc ∧ za_F2 (za_gP (za_σ E) ads) lv lc) : ∃ lc, lv_has ls nL lc ∧ za_F2 (za_gP (za_σ E) ads') lv lc := by
  obtain ⟨lc, h1, h2⟩ := hl
  exact ⟨lc, h1, za_F2_mono (fun _ _ => za_gP_mono h) h2⟩
def za_gty (ty : FieldType) : Bool := match ty with
  | .int | .boolean | .long | .object _ | .array _ => true
  | _ => false
theorem za_df_ok {ads : List Nat} {σ : Nat → Int32} {ty : FieldType} (h : za_gty ty = true) : za_gV σ ads (za_df ty) (defaultValue ty) := by
  match ty, h with
  | .int, _ => exact ⟨0, rfl, by constructor <;> decide⟩
  | .boolean, _ => exact ⟨0, rfl, by constructor <;> decide⟩
  | .long, _ => exact ⟨0, rfl, fun c hc => by cases hc; rfl⟩
  | .object _, _ => rfl
  | .array _, _ => rfl
def za_dfs (ci : Nat) : Nat → List Value
  | 0 => []
  | k + 1 => za_dfs ci k ++ [defaultValue (za_tyX ci k)]
theorem za_dfs_len (ci : Nat) : ∀ n, (za_dfs ci n).length = n
  | 0 => rfl
  | n + 1 => by
    show (za_dfs ci n ++ [defaultValue (za_tyX ci n)]).length = n + 1
    rw [List.length_append, za_dfs_len ci n]; rfl
theorem za_dfs_at (ci : Nat) : ∀ n j, j < n → (za_dfs ci n)[j]? = some (defaultValue (za_tyX ci j))
  | 0, j, h => by omega
  | n + 1, j, h => by
    show (za_dfs ci n ++ [defaultValue (za_tyX ci n)])[j]? = _
    by_cases e9 : j < n
    · rw [List.getElem?_append_left (by rw [za_dfs_len]; exact e9)]
      exact za_dfs_at ci n j e9
    · have e8 : j = n := by omega
      subst e8
      rw [List.getElem?_append_right (by rw [za_dfs_len]; exact Nat.le_refl _), za_dfs_len, Nat.sub_self]
      rfl
theorem za_fs_ok {ads : List Nat} {σ : Nat → Int32} (ci : Nat) : ∀ n, (∀ k, k < n → za_gty (za_tyX ci k) = true) → za_F2 (za_gV σ ads) (za_fs ci n) (za_dfs ci n)
  | 0, _ => trivial
  | n + 1, h => za_F2_app (za_fs_ok ci n (fun k hk => h k (by omega))) ⟨za_df_ok (h n (by omega)), trivial⟩
theorem zc_gty : ∀ ci, ci < 13 → ∀ k, k < za_nX ci → za_gty (za_tyX ci k) = true := by decide +kernel
theorem zs_newo {lv : za_LV} {t : za_T} {st : List za_V} {Z : List za_S × List za_X} {r : Option za_row} {mc ms : Nat}
    (rule : ∀ {ci k : Nat} {z : Int}, r = some (5, ci, k, z) → ci < 13 ∧ ∀ {H : Heap} {locs : List Loc} {cells slots : Nat} {ls : Array Slot} {rest : List Value} {ws : va_W}, va_P (za_D E) vwCl ws H → va_D (za_A E) ws → va_S (za_A E) s.heap H locs → cells + 1 ≤ mc → slots + za_nX ci ≤ ms →
      (∀ (q : Nat) (H1 : Heap), va_P (za_D E) vwCl (ws ++ [(q, .inr (ci, za_dfs ci (za_nX ci)))]) H1 → va_D (za_A E) (ws ++ [(q, .inr (ci, za_dfs ci (za_nX ci)))]) → va_S (za_A E) s.heap H1 locs → W p l e R s m args below meth c H1 locs (cells + 1) (slots + za_nX ci) Q (F0 m (pc + 3) ls (.ref q :: rest))) → W p l e R s m args below meth c H locs cells slots Q (F0 m pc ls rest))
    (h : za_newo mc ms r pc lv st t = some Z) (hk : ∀ S ∈ Z.1, za_G p l e R s m args below meth c Q E nL ads0 S) : za_G p l e R s m args below meth c Q E nL ads0 (pc, lv, st, t) := by
  intro ads H locs ls stk M
  obtain ⟨h1, h2, h3, h4, h5, h6⟩ := M
  unfold za_newo at h
  split at h
  · rename_i ci k z
    obtain ⟨hm, h⟩ := za_bif h
    obtain ⟨hs, h⟩ := za_bif h
    obtain ⟨hci, rule⟩ := rule rfl
    obtain ⟨ws, e1, e2, e3, e4⟩ := h5
    refine rule e3 e4 h6 (za_blt hm) (za_ble hs) (fun q H1 g1 g2 g3 => ?_)
    have hp : ads <+: ads ++ [q] := List.prefix_append _ _
    obtain ⟨w1, w2⟩ := za_add1 (o := .inl (ci, za_fs ci (za_nX ci))) e1 e2 g1 g2 ⟨rfl, za_fs_ok ci _ (zc_gty ci hci)⟩
    exact zs_go h hk (ads ++ [q]) H1 locs ls (.ref q :: stk) ⟨h1.trans hp, h2, ⟨⟨q, rfl, w2⟩, za_F2_mono (fun _ _ => za_gV_mono hp) h3⟩, za_lv_mono hp h4, w1, g3⟩
  · cases h
theorem zs_newa {lv : za_LV} {t : za_T} {st : List za_V} {Z : List za_S × List za_X} {ty : ArrayType} {mc ms : Nat}
    (rule : ∀ {ft : FieldType} {k : Nat} {cA : ClassId} (a0 : vp_A), newarray.typeOf ty = ft → (za_tys E)[k]? = some (cA, ft) → (∀ cB : ClassId, vp_cell cB a0 = arrV cB a0.1 (fun _ => defaultValue ft)) → ∀ {H : Heap} {locs : List Loc} {cells slots : Nat} {ls : Array Slot} {rest : List Value} {ws : va_W} {n : Int32}, va_P (za_D E) vwCl ws H → va_D (za_A E) ws → va_S (za_A E) s.heap H locs → ¬ n < 0 → n.toNatClampNeg = a0.1 → a0.1 ≤ 100000 → cells + 1 ≤ mc → slots + a0.1 ≤ ms →
      (∀ (q : Nat) (H1 : Heap), va_P (za_D E) vwCl (ws ++ [(q, .inl (cA, a0))]) H1 → va_D (za_A E) (ws ++ [(q, .inl (cA, a0))]) → va_S (za_A E) s.heap H1 locs → W p l e R s m args below meth c H1 locs (cells + 1) (slots + a0.1) Q (F0 m (pc + 2) ls (.ref q :: rest))) → W p l e R s m args below meth c H locs cells slots Q (F0 m pc ls (.int n :: rest)))
    (h : za_newa mc ms ty pc lv st t = some Z) (hk : ∀ S ∈ Z.1, za_G p l e R s m args below meth c Q E nL ads0 S) : za_G p l e R s m args below meth c Q E nL ads0 (pc, lv, st, t) := by
  intro ads H locs ls stk M
  obtain ⟨h1, h2, h3, h4, h5, h6⟩ := M
  unfold za_newa at h
  split at h
  · rename_i i rest
    split at h
    · rename_i c9 hc
      obtain ⟨hz, h⟩ := za_bif h
      obtain ⟨hm, h⟩ := za_bif h
      obtain ⟨hs, h⟩ := za_bif h
      obtain ⟨_, stk1, rfl, ⟨x, rfl, hx⟩, q1⟩ := za_F2_cons h3
      obtain ⟨f1, f2⟩ := za_clamp (za_k_ok h2 hx hc)
      obtain ⟨ws, e1, e2, e3, e4⟩ := h5
      cases ty with
      | int =>
        refine rule (k := 0) (c9, .inl (fun _ => 0)) rfl rfl (fun _ => rfl) e3 e4 h6 f2 f1 (za_ble hz) (za_blt hm) (za_ble hs) (fun q H1 g1 g2 g3 => ?_)
        have hp : ads <+: ads ++ [q] := List.prefix_append _ _
        obtain ⟨w1, w2⟩ := za_add1 (o := .inr (.inl (0, c9, (0, 0, 0), []))) e1 e2 g1 g2 ⟨rfl, by decide, rfl, fun j hj => (show (0:Int) ≤ (0:Int32).toInt ∧ (0:Int32).toInt ≤ (0:Int) by decide)⟩
        exact zs_go h hk (ads ++ [q]) H1 locs ls (.ref q :: stk1) ⟨h1.trans hp, h2, ⟨⟨q, rfl, w2⟩, za_F2_mono (fun _ _ => za_gV_mono hp) q1⟩, za_lv_mono hp h4, w1, g3⟩
      | byte =>
        refine rule (k := 1) (c9, .inl (fun _ => 0)) rfl rfl (fun _ => rfl) e3 e4 h6 f2 f1 (za_ble hz) (za_blt hm) (za_ble hs) (fun q H1 g1 g2 g3 => ?_)
        have hp : ads <+: ads ++ [q] := List.prefix_append _ _
        obtain ⟨w1, w2⟩ := za_add1 (o := .inr (.inl (1, c9, (0, 0, 0), []))) e1 e2 g1 g2 ⟨rfl, by decide, rfl, fun j hj => (show (0:Int) ≤ (0:Int32).toInt ∧ (0:Int32).toInt ≤ (0:Int) by decide)⟩
        exact zs_go h hk (ads ++ [q]) H1 locs ls (.ref q :: stk1) ⟨h1.trans hp, h2, ⟨⟨q, rfl, w2⟩, za_F2_mono (fun _ _ => za_gV_mono hp) q1⟩, za_lv_mono hp h4, w1, g3⟩
      | boolean =>
        refine rule (k := 2) (c9, .inl (fun _ => 0)) rfl rfl (fun _ => rfl) e3 e4 h6 f2 f1 (za_ble hz) (za_blt hm) (za_ble hs) (fun q H1 g1 g2 g3 => ?_)
        have hp : ads <+: ads ++ [q] := List.prefix_append _ _
        obtain ⟨w1, w2⟩ := za_add1 (o := .inr (.inl (2, c9, (0, 0, 0), []))) e1 e2 g1 g2 ⟨rfl, by decide, rfl, fun j hj => (show (0:Int) ≤ (0:Int32).toInt ∧ (0:Int32).toInt ≤ (0:Int) by decide)⟩
        exact zs_go h hk (ads ++ [q]) H1 locs ls (.ref q :: stk1) ⟨h1.trans hp, h2, ⟨⟨q, rfl, w2⟩, za_F2_mono (fun _ _ => za_gV_mono hp) q1⟩, za_lv_mono hp h4, w1, g3⟩
      | long =>
        refine rule (k := 3) (c9, .inr (.inl (fun _ => 0))) rfl rfl (fun _ => rfl) e3 e4 h6 f2 f1 (za_ble hz) (za_blt hm) (za_ble hs) (fun q H1 g1 g2 g3 => ?_)
        have hp : ads <+: ads ++ [q] := List.prefix_append _ _
        obtain ⟨w1, w2⟩ := za_add1 (o := .inr (.inr (c9, some 0, []))) e1 e2 g1 g2 ⟨rfl, rfl, fun j hj d hd => by cases hd; rfl⟩
        exact zs_go h hk (ads ++ [q]) H1 locs ls (.ref q :: stk1) ⟨h1.trans hp, h2, ⟨⟨q, rfl, w2⟩, za_F2_mono (fun _ _ => za_gV_mono hp) q1⟩, za_lv_mono hp h4, w1, g3⟩
      | _ => cases h
    · cases h
  · cases h
theorem za_cpy_at {d d' : za_I} {u u' : List (Nat × za_I)} {sp dp : Nat} : ∀ (n i : Nat), za_at d' (za_cpy d u d' u' sp dp n) i = if dp ≤ i ∧ i < dp + n then za_at d u (sp + (i - dp)) else za_at d' u' i
  | 0, i => by rw [if_neg (by omega)]; rfl
  | n + 1, i => by
    show za_at d' (za_wr d' (za_cpy d u d' u' sp dp n) (dp + n) (za_at d u (sp + n))) i = _
    by_cases e9 : i = dp + n
    · subst e9
      rw [za_wr_self, if_pos (by omega)]
      congr 1
      omega
    · rw [za_wr_ne _ _ _ e9, za_cpy_at n i]
      by_cases e8 : dp ≤ i ∧ i < dp + n
      · rw [if_pos e8, if_pos (by omega)]
      · rw [if_neg e8, if_neg (by omega)]
theorem za_wt_ok {ads : List Nat} {σ : Nat → Int32} : ∀ {l : List za_V} {m : List Value}, za_F2 (za_gV σ ads) l m → (m.map fun v => v.category).sum = za_wt l
  | [], [], _ => rfl
  | v :: l, w :: m, h => by
    rw [List.map_cons, List.sum_cons, za_cat_ok h.1, za_wt_ok h.2]
    rfl
  | [], _ :: _, hp => hp.elim
  | _ :: _, [], hp => hp.elim
theorem zs_acp {lv : za_LV} {t : za_T} {st : List za_V} {Z : List za_S × List za_X}
    (rule : ∀ {H : Heap} {locs : List Loc} {cells slots : Nat} {ls : Array Slot} {rest : List Value} {ws : va_W} {q0 q1 a0 a n0 n1 : Nat} {f g : Nat → Int32} {sp dp n : Int32}, ls.size = nL → va_P (za_D E) vwCl ws H → va_D (za_A E) ws → va_S (za_A E) s.heap H locs → ws[q0]? = some (a0, .inl (za_tc E 0, n0, .inl f)) → ws[q1]? = some (a, .inl (za_tc E 0, n1, .inl g)) → ¬ sp < 0 → ¬ dp < 0 → ¬ n < 0 → sp.toNatClampNeg + n.toNatClampNeg ≤ n0 → dp.toNatClampNeg + n.toNatClampNeg ≤ n1 → (rest.map fun v => v.category).sum ≤ 8 →
      (∀ (H1 : Heap) (locs1 : List Loc), va_P (za_D E) vwCl (ws.set q1 (a, .inl (za_tc E 0, n1, .inl (va_cpy f g sp.toNatClampNeg dp.toNatClampNeg n.toNatClampNeg)))) H1 → va_D (za_A E) (ws.set q1 (a, .inl (za_tc E 0, n1, .inl (va_cpy f g sp.toNatClampNeg dp.toNatClampNeg n.toNatClampNeg)))) → va_S (za_A E) s.heap H1 locs1 → W p l e R s m args below meth c H1 locs1 cells slots Q (F0 m (pc + 3) ls rest)) → W p l e R s m args below meth c H locs cells slots Q (F0 m pc ls (.int n :: .int dp :: .ref a :: .int sp :: .ref a0 :: rest)))
    (h : za_acp pc lv st t = some Z) (hk : ∀ S ∈ Z.1, za_G p l e R s m args below meth c Q E nL ads0 S) : za_G p l e R s m args below meth c Q E nL ads0 (pc, lv, st, t) := by
  intro ads H locs ls stk M
  obtain ⟨h1, h2, h3, h4, h5, h6⟩ := M
  unfold za_acp at h
  split at h
  · rename_i cn dp r1 sp r0 rest
    split at h
    · rename_i n0 d0 u0 n1 d1 u1 c9 d9 s9 o0 o1 k1 k2 k3
      obtain ⟨b1, h⟩ := za_bif h
      obtain ⟨b2, h⟩ := za_bif h
      obtain ⟨b3, h⟩ := za_bif h
      obtain ⟨_, stk1, rfl, ⟨xn, rfl, hxn⟩, q1⟩ := za_F2_cons h3
      obtain ⟨_, stk2, rfl, ⟨xd, rfl, hxd⟩, q2⟩ := za_F2_cons q1
      obtain ⟨_, stk3, rfl, ⟨a, rfl, ha⟩, q3⟩ := za_F2_cons q2
      obtain ⟨_, stk4, rfl, ⟨xs, rfl, hxs⟩, q4⟩ := za_F2_cons q3
      obtain ⟨_, stk5, rfl, ⟨a0, rfl, ha0⟩, q5⟩ := za_F2_cons q4
      obtain ⟨cn1, cn2⟩ := za_clamp (za_k_ok h2 hxn k1)
      obtain ⟨cd1, cd2⟩ := za_clamp (za_k_ok h2 hxd k2)
      obtain ⟨cs1, cs2⟩ := za_clamp (za_k_ok h2 hxs k3)
      obtain ⟨ws, x0, e1, e2, e3, e4, e5, e6⟩ := za_obj h5 ha0 o0
      obtain ⟨f, rfl, ht, e7⟩ := za_gO_i e6
      obtain ⟨z, z1, z2⟩ := za_F2_get e2 o1
      obtain ⟨g, z3, _, e8⟩ := za_gO_i z2
      have z4 : ws[r1]? = some (a, .inl (za_tc E 0, n1, .inl g)) := by
        rw [e1, List.getElem?_cons_succ, List.getElem?_map, z1] at ha
        have e9 : z.1 = a := Option.some.inj ha
        rw [z1, ← e9, ← z3]
      refine rule h4.choose_spec.1.1 e3 e4 h6 e5 z4 cs2 cd2 cn2 (by rw [cs1, cn1]; exact za_ble b1) (by rw [cd1, cn1]; exact za_ble b2) (by rw [za_wt_ok q5]; exact za_ble b3) (fun H1 locs1 g1 g2 g3 => ?_)
      refine zs_go h hk ads H1 locs1 ls stk5 ⟨h1, h2, q5, h4, za_set e1 e2 z4 (o := .inr (.inl (0, n1, d1, za_cpy d0 u0 d1 u1 s9 d9 c9))) ?_ g1 g2, g3⟩
      refine ⟨rfl, by decide, rfl, fun j hj => ?_⟩
      rw [za_cpy_at, cs1, cd1, cn1]
      have b1 := za_ble b1
      unfold va_cpy
      by_cases e9 : d9 ≤ j ∧ j < d9 + c9
      · rw [if_pos e9, if_pos e9]
        exact e7 _ (by omega)
      · rw [if_neg e9, if_neg e9]
        exact e8 j hj
    · cases h
  · cases h
end ZN
end
section
/-! ===== an exception that a method of the law catches: its table searched, its class linked on the way ===== -/
section ZX
variable {p : Program} {l : Launch} {e : Env} {R : Room} {s : State} {m : MethodId} {args : Array Value} {below : List Frame} {meth : Method} {c : Code} {Q : State → Prop} {locs : List Loc} {cells slots : Nat}
theorem zh_row {Q9 : Handler → Pre} {E9 : CtlPost} {d9 : Bool} {acts : List Action} {S : State} {f : JFrame} {a : Addr} {x : ExceptionTableEntry} {t : List ExceptionTableEntry} {k : ClassId} {cell : Cell} (hx : covers x f.pc = true) (h0 : x.catchType ≠ 0)
    (hl : S.vm.ClassLinks e.platform f.method.cls x.catchType k) (hcell : S.heap[a]? = some cell) (hobj : ∀ z, cell.vm ≠ .statics z) (hk : ∃ z, S.vm.classes[cell.cls]? = some z) (hc : ∃ z, S.vm.classes[k]? = some z) :
    wp (findHandler.go f a (x :: t)) Q9 E9 e d9 acts S ↔ if S.vm.assignable cell.cls k = true then Q9 (.found x.handlerPc) d9 acts (S.setVm (S.vm.noted f.method.cls x.catchType (.cls k))) else wp (findHandler.go f a t) Q9 E9 e d9 acts (S.setVm (S.vm.noted f.method.cls x.catchType (.cls k))) := by
  simp only [covers] at hx
  obtain ⟨ha, ht⟩ := (resolveClass_links e.toSetting hl).op (op := VmOp.resolveClass f.method.cls x.catchType) rfl
  have hal : S.vm.Alike (S.vm.noted f.method.cls x.catchType (.cls k)) := (Vm.Alike.refl S.vm).noted _ _ _
  obtain ⟨k1, hk1⟩ := hk
  obtain ⟨k2, hk2⟩ := hc
  obtain ⟨k1', hk1', -⟩ := hal.2.2 _ _ hk1
  obtain ⟨k2', hk2', -⟩ := hal.2.2 _ _ hk2
  cases hb : S.vm.assignable cell.cls k with
  | true =>
    have hb' : (S.vm.noted f.method.cls x.catchType (.cls k)).assignable cell.cls k = true := by rw [hal.assignable]; exact hb
    simp [findHandler.go, hx, h0, ha, ht, hcell, hobj, hk1', hk2', hb', VmOp.dirties, VmOp.acts]
  | false =>
    have hb' : (S.vm.noted f.method.cls x.catchType (.cls k)).assignable cell.cls k = false := by rw [hal.assignable]; exact hb
    simp [findHandler.go, hx, h0, ha, ht, hcell, hobj, hk1', hk2', hb', VmOp.dirties, VmOp.acts]
/-- the words of the catching method's class: each catch type links to its exception; which exception is of which class -/
def zh_ok (s : State) (args : Array Value) (own : String) (cp : Nat → Option za_row) : Prop :=
  (∀ (ct ex a : Nat) (z : Int), cp ct = some (6, ex, a, z) → ex < 2 ∧ (Cond.classLink own ct (za_exn ex)).before args s = true) ∧ (∀ ex, ex < 2 → ∀ k, s.vm.findClass (za_exn ex) = some k → s.vm.assignable k k = true) ∧ ∀ ex ex', ex < 2 → ex' < 2 → ex' ≠ ex → va_Nc (za_exn ex) (za_exn ex') s
theorem zh_go {own : String} {cp : Nat → Option za_row} {f : JFrame} {a : Addr} {cell : Cell} {ex : Nat} (hpl : e.platform.magicAccessors = ({} : Platform).magicAccessors) (hown : s.vm.findClass own = some f.method.cls) (hk : zh_ok s args own cp) (hex : ex < 2) (hcl : s.vm.findClass (za_exn ex) = some cell.cls) (hobj : ∀ z, cell.vm ≠ .statics z) :
    ∀ (hh : List (Nat × Nat × Nat × Nat)) (hp : Nat) (S : State), za_hnd cp f.pc ex hh = some (some hp) → s.WarmedH S.vm → S.heap[a]? = some cell →
      ∃ vm', s.WarmedH vm' ∧ ∀ (Q9 : Handler → Pre) (E9 : CtlPost) (d9 : Bool) (acts : List Action), wp (findHandler.go f a (tableOf hh)) Q9 E9 e d9 acts S ↔ Q9 (.found hp) d9 acts (S.setVm vm')
  | [], hp, S, h, _, _ => by cases h
  | (a1, b1, h1, ct) :: hh, hp, S, h, hW, hcell => by
    have htab : tableOf ((a1, b1, h1, ct) :: hh) = ⟨a1, b1, h1, ct⟩ :: tableOf hh := rfl
    unfold za_hnd at h
    by_cases hcov : a1 ≤ f.pc ∧ f.pc < b1
    · have e1 : Nat.ble a1 f.pc = true := Nat.ble_eq.mpr hcov.1
      have e2 : Nat.blt f.pc b1 = true := Nat.ble_eq.mpr hcov.2
      simp only [e1, e2, cond_true] at h
      have hx : covers ⟨a1, b1, h1, ct⟩ f.pc = true := by simp [covers, hcov.1, hcov.2]
      split at h
      · rename_i ex' _ _ hct
        obtain ⟨h0, h⟩ := za_bifn h
        have h0 : ct ≠ 0 := fun z => by rw [z] at h0; cases h0
        obtain ⟨hex', hlink⟩ := hk.1 _ _ _ _ hct
        obtain ⟨k2, hk2, hlk⟩ := Cond.classLink_spec hown hlink e.platform hpl
        obtain ⟨dk, _, _, kt, hd, _, _, _, _, hkt, _, hopen⟩ := hlk.here
        obtain ⟨kt', hkt', -⟩ := hW.alike.2.2 _ _ hkt
        obtain ⟨k0, hk0, -⟩ := Vm.findClass_spec hcl
        obtain ⟨k0', hk0', -⟩ := hW.alike.2.2 _ _ hk0
        have hW' : s.WarmedH (S.vm.noted f.method.cls ct (.cls k2)) := hW.noted hd hopen (State.rightAt_cls hlk)
        cases hb : Nat.beq ex' ex with
        | true =>
          have hee := za_beq hb
          subst hee
          simp only [hb, cond_true, Option.some.injEq] at h
          subst h
          have hsame : k2 = cell.cls := Option.some.inj (hk2.symm.trans hcl)
          subst hsame
          refine ⟨_, hW', fun Q9 E9 d9 acts => ?_⟩
          rw [htab, zh_row (x := ⟨a1, b1, h1, ct⟩) hx h0 (hW.classLinks hlk) hcell hobj ⟨k0', hk0'⟩ ⟨kt', hkt'⟩, if_pos (by rw [hW.alike.assignable]; exact hk.2.1 _ hex _ hcl)]
        | false =>
          simp only [hb, cond_false] at h
          have hne : ex' ≠ ex := fun z => by rw [z] at hb; simp at hb
          split at h
          · rename_i hp' hrec
            simp only [Option.some.injEq] at h
            subst h
            obtain ⟨c8, t8, n1, n2, n3⟩ := hk.2.2 ex ex' hex hex' hne
            have e3 : c8 = cell.cls := Option.some.inj (n1.symm.trans hcl)
            have e4 : t8 = k2 := Option.some.inj (n2.symm.trans hk2)
            subst e3; subst e4
            obtain ⟨vm', w1, w2⟩ := zh_go hpl hown hk hex hcl hobj hh hp' (S.setVm (S.vm.noted f.method.cls ct (.cls t8))) hrec hW' hcell
            refine ⟨vm', w1, fun Q9 E9 d9 acts => ?_⟩
            rw [htab, zh_row (x := ⟨a1, b1, h1, ct⟩) hx h0 (hW.classLinks hlk) hcell hobj ⟨k0', hk0'⟩ ⟨kt', hkt'⟩, if_neg (by rw [hW.alike.assignable, n3]; decide)]
            exact w2 Q9 E9 d9 acts
          · cases h
      · cases h
    · have hx : covers ⟨a1, b1, h1, ct⟩ f.pc = false := by
        simp only [covers, Bool.and_eq_false_iff, decide_eq_false_iff_not]
        by_cases z : a1 ≤ f.pc
        · exact Or.inr (fun w => hcov ⟨z, w⟩)
        · exact Or.inl z
      have h : za_hnd cp f.pc ex hh = some (some hp) := by
        cases e1 : Nat.ble a1 f.pc with
        | false => simp only [e1, cond_false] at h; exact h
        | true =>
          cases e2 : Nat.blt f.pc b1 with
          | false => simp only [e1, e2, cond_true, cond_false] at h; exact h
          | true => exact absurd ⟨za_ble e1, za_blt e2⟩ hcov
      obtain ⟨vm', w1, w2⟩ := zh_go hpl hown hk hex hcl hobj hh hp S h hW hcell
      refine ⟨vm', w1, fun Q9 E9 d9 acts => ?_⟩
      rw [htab, _root_.Jvm.W.findHandler_go_skip hx]
      exact w2 Q9 E9 d9 acts
theorem zh_catch {own : String} {cp : Nat → Option za_row} {hh : List (Nat × Nat × Nat × Nat)} {ex hp q pc : Nat} {H : Heap} {ce : Cell} {ls : Array Slot} {rest : List Value} (hown : s.vm.findClass own = some m.cls) (htab : c.exceptionTable.toList = tableOf hh) (hk : zh_ok s args own cp) (hex : ex < 2) (hhnd : za_hnd cp pc ex hh = some (some hp))
    (hcell : H[q]? = some ce) (hv : ce.vm = .none) (hcl : s.vm.findClass (za_exn ex) = some ce.cls) (kk : W p l e R s m args below meth c H locs cells slots Q (F0 m hp ls [.ref q])) : vx_W p l e R s m args below meth c H locs cells slots Q (F0 m pc ls rest) q := by
  intro T hT X
  have hpl : e.platform.magicAccessors = ({} : Platform).magicAccessors := by rw [X.admits.platform]
  have hobj : ∀ z, ce.vm ≠ .statics z := fun z h => by rw [hv] at h; cases h
  obtain ⟨vm', hW', hfind⟩ := zh_go (e := e) (f := F0 m pc ls rest) (a := q) hpl hown hk hex hcl hobj hh hp ((T.setTop (F0 m pc ls rest)).pushFrame (.throwing q)) hhnd X.warmed (by show T.heap[q]? = some ce; rw [hT]; exact hcell)
  have hf : ∀ (Q9 : Handler → Pre) (E9 : CtlPost) (d9 : Bool) (acts : List Action), wp (findHandler (F0 m pc ls rest) q) Q9 E9 e d9 acts ((T.setTop (F0 m pc ls rest)).pushFrame (.throwing q)) ↔ Q9 (.found hp) d9 acts (((T.setTop (F0 m pc ls rest)).pushFrame (.throwing q)).setVm vm') := by
    intro Q9 E9 d9 acts
    rw [_root_.Jvm.W.findHandler_eq (f := F0 m pc ls rest) (s := (T.setTop (F0 m pc ls rest)).pushFrame (.throwing q)) (meth := meth) (code := c) X.method' X.code, htab]
    exact hfind Q9 E9 d9 acts
  have hstep : ∀ r : List Frame, (stepThrowing e ((T.setTop (F0 m pc ls rest)).pushFrame (.throwing q)) q (.java (F0 m pc ls rest) :: r)).1 = (((T.setTop (F0 m pc ls rest)).pushFrame (.throwing q)).setVm vm').setFrames (.java (F0 m hp ls [.ref q]) :: r) := by
    intro r
    simp only [stepThrowing, searchFrame, vmDo]
    generalize hr : Sem.go _ e false [] _ = res
    obtain ⟨as, rfl, ha⟩ := Sem.eq_ok_of hr (a := Handler.found hp) (s' := ((T.setTop (F0 m pc ls rest)).pushFrame (.throwing q)).setVm vm') (acts' := []) (by simp [hf _ _ _ _])
    rfl
  obtain ⟨t2, a1, b1⟩ := kk (T.setVm vm') hT (X.noted hW')
  refine ⟨t2, ?_, b1⟩
  have hA : At T (F0 m pc ls rest).method c below := X.here
  obtain ⟨hgo, hw⟩ := hA.throwing q
  refine Steps.head hgo hw ?_
  rw [stepThread_throwing (frames_entered hA.top _), hstep]
  obtain ⟨g₀, hg⟩ := Option.isSome_iff_exists.mp hA.top
  obtain ⟨r, hr⟩ := State.topJava?_eq_some.mp hg
  have hr' : (T.setVm vm').frames = .java g₀ :: r := hr
  rw [State.setTop_of_frames _ hr'] at a1
  have h9 : ∀ (u : State) (F G : List Frame), ((u.setFrames F).setVm vm').setFrames G = (u.setVm vm').setFrames G := by
    intro u F G
    show ((u.setVm vm').setFrames F).setFrames G = _
    rw [State.setFrames_setFrames]
  rw [hr, List.tail_cons, State.pushFrame, h9, State.setTop_of_frames _ hr, h9]
  exact a1
end ZX
end
section
/-! ===== a method's contract out of its run: returns, throws, calls ===== -/
def za_Bl (E : za_E) (H : Heap) : Prop := (za_H0 E).size ≤ H.size ∧ ∀ q : Nat, q < (za_H0 E).size → H[q]? = (za_H0 E)[q]?
def za_gW (σ : Nat → Int32) (ads : List Nat) (v : Option za_V) (w : Option Value) : Prop := match v, w with
  | none, none => True
  | some v, some w => za_gV σ ads v w
  | _, _ => False
def za_Qc (E : za_E) (ads0 : List Nat) (outs : List za_X) : Array Value → State → Outcome → State → Prop := fun _ _ o t => ∃ (v : Option za_V) (h : List za_O) (ρ : za_R) (ads : List Nat) (w : Option Value), ((.inl v, h, ρ) : za_X) ∈ outs ∧ o = .returned w ∧ za_gW (za_σ E) ads v w ∧ ads0 <+: ads ∧ za_ok (za_σ E) ρ ∧ za_Wd E ads h t.heap ∧ za_Bl E t.heap
def za_XC (E : za_E) (ads0 : List Nat) (outs : List za_X) : String → State → State → Prop := fun nm _ t => ∃ (ex : Nat) (h : List za_O) (ρ : za_R) (ads : List Nat), ((.inr ex, h, ρ) : za_X) ∈ outs ∧ ex < 2 ∧ nm = za_exn ex ∧ ads0 <+: ads ∧ za_ok (za_σ E) ρ ∧ za_Wd E ads h t.heap ∧ za_Bl E t.heap
def za_Pc (E : za_E) (s0 : State) (ads : List Nat) (as : List za_V) (h : List za_O) (ρ : za_R) : Array Value → State → Prop := fun a U => ∃ vs : List Value, a = vs.toArray ∧ za_F2 (za_gV (za_σ E) ads) as vs ∧ za_ok (za_σ E) ρ ∧ za_Wd E ads h U.heap ∧ s0.WarmedH U.vm ∧ za_Bl E U.heap
theorem za_Pc_blind {E : za_E} {s0 : State} {ads : List Nat} {as : List za_V} {h : List za_O} {ρ : za_R} : FrameBlind (za_Pc E s0 ads as h ρ) := fun _ _ _ _ q => q
/-- a method's room at a depth -/
def za_rm (d : Nat) (Y : za_MI) : Room := { frames := d + 8, cells := za_mc Y, slots := za_ms Y, locals := 64 * d + 200 }
section ZR
variable {p : Program} {l : Launch} {e : Env} {R : Room} {s : State} {m : MethodId} {args : Array Value} {below : List Frame} {meth : Method} {c : Code} {E : za_E} {nL : Nat} {ads0 : List Nat} {cc : ByteArray} {pc : Nat}
theorem za_Bl_S {H : Heap} {locs : List Loc} (h0 : za_Bl E s.heap) (hS : va_S (za_A E) s.heap H locs) : za_Bl E H :=
  ⟨Nat.le_trans h0.1 hS.1, fun q hq => (hS.2.1 q (Nat.lt_of_lt_of_le hq h0.1) (Nat.not_le.mpr hq)).trans (h0.2 q hq)⟩
theorem zs_iret {lv : za_LV} {t : za_T} {st : List za_V} {Z : List za_S × List za_X} {mc ms : Nat} {rt : Option FieldType} {outs : List za_X} (hx : p.tables.exec = Jvm.exec) (hb : c.code = cc) (hr : meth.sig.returnType = rt) (hlocks : meth.locks = false) (h0 : za_Bl E s.heap) (hdg : decode cc pc = .ok (.ireturn, 1))
    (h : za_iret mc ms rt st t = some Z) (ho : ∀ x ∈ Z.2, x ∈ outs) : za_G p l e R s m args below meth c (vx_MQ below (za_Qc E ads0 outs) (za_XC E ads0 outs) args s mc ms (za_A E)) E nL ads0 (pc, lv, st, t) := by
  intro ads H locs ls stk M
  obtain ⟨h1, h2, h3, h4, h5, h6⟩ := M
  unfold za_iret at h
  split at h
  · rename_i a
    obtain ⟨g1, h⟩ := za_bif h
    obtain ⟨g2, h⟩ := za_bif h
    obtain ⟨w, stk1, rfl, w2, q1⟩ := za_F2_cons h3
    have e1 := za_F2_nil q1
    subst e1
    obtain ⟨x, rfl, hx9⟩ := id w2
    cases h
    exact W.widen (za_ble g1) (za_ble g2) (vx_ret (W.iret hx hb hr (fun t9 ht _ => ⟨_, _, _, ads, _, ho _ List.mem_cons_self, rfl, w2, h1, h2, by rw [ht]; exact h5, by rw [ht]; exact za_Bl_S h0 h6⟩) (fun q hq => h6.2.2 q hq) hdg hlocks))
  · rename_i a
    obtain ⟨g1, h⟩ := za_bif h
    obtain ⟨g2, h⟩ := za_bif h
    obtain ⟨g3, h⟩ := za_bif h
    obtain ⟨w, stk1, rfl, w2, q1⟩ := za_F2_cons h3
    have e1 := za_F2_nil q1
    subst e1
    obtain ⟨x, rfl, hx9⟩ := id w2
    have hn := (za_fit_ok h2 w2 g3).1
    cases h
    exact W.widen (za_ble g1) (za_ble g2) (vx_ret (W.zret hx hb hr hn (fun t9 ht _ => ⟨_, _, _, ads, _, ho _ List.mem_cons_self, rfl, w2, h1, h2, by rw [ht]; exact h5, by rw [ht]; exact za_Bl_S h0 h6⟩) (fun q hq => h6.2.2 q hq) hdg hlocks))
  · cases h
theorem zs_lret {lv : za_LV} {t : za_T} {st : List za_V} {Z : List za_S × List za_X} {mc ms : Nat} {rt : Option FieldType} {outs : List za_X} (hx : p.tables.exec = Jvm.exec) (hb : c.code = cc) (hr : meth.sig.returnType = rt) (hlocks : meth.locks = false) (h0 : za_Bl E s.heap) (hdg : decode cc pc = .ok (.lreturn, 1))
    (h : za_lret mc ms rt st t = some Z) (ho : ∀ x ∈ Z.2, x ∈ outs) : za_G p l e R s m args below meth c (vx_MQ below (za_Qc E ads0 outs) (za_XC E ads0 outs) args s mc ms (za_A E)) E nL ads0 (pc, lv, st, t) := by
  intro ads H locs ls stk M
  obtain ⟨h1, h2, h3, h4, h5, h6⟩ := M
  unfold za_lret at h
  split at h
  · rename_i a
    obtain ⟨g1, h⟩ := za_bif h
    obtain ⟨g2, h⟩ := za_bif h
    obtain ⟨w, stk1, rfl, w2, q1⟩ := za_F2_cons h3
    have e1 := za_F2_nil q1
    subst e1
    obtain ⟨x, rfl, hx9⟩ := id w2
    cases h
    exact W.widen (za_ble g1) (za_ble g2) (vx_ret (W.lret hx hb hr (fun t9 ht _ => ⟨_, _, _, ads, _, ho _ List.mem_cons_self, rfl, w2, h1, h2, by rw [ht]; exact h5, by rw [ht]; exact za_Bl_S h0 h6⟩) (fun q hq => h6.2.2 q hq) hdg hlocks))
  · cases h
theorem zs_vret {lv : za_LV} {t : za_T} {st : List za_V} {Z : List za_S × List za_X} {mc ms : Nat} {rt : Option FieldType} {outs : List za_X} (hx : p.tables.exec = Jvm.exec) (hb : c.code = cc) (hr : meth.sig.returnType = rt) (hlocks : meth.locks = false) (h0 : za_Bl E s.heap) (hdg : decode cc pc = .ok (.return_, 1))
    (h : za_vret mc ms rt st t = some Z) (ho : ∀ x ∈ Z.2, x ∈ outs) : za_G p l e R s m args below meth c (vx_MQ below (za_Qc E ads0 outs) (za_XC E ads0 outs) args s mc ms (za_A E)) E nL ads0 (pc, lv, st, t) := by
  intro ads H locs ls stk M
  obtain ⟨h1, h2, h3, h4, h5, h6⟩ := M
  unfold za_vret at h
  split at h
  · obtain ⟨g1, h⟩ := za_bif h
    obtain ⟨g2, h⟩ := za_bif h
    have e1 := za_F2_nil h3
    subst e1
    cases h
    exact W.widen (za_ble g1) (za_ble g2) (vx_ret (W.vret hx hb hr (fun t9 ht _ => ⟨none, _, _, ads, none, ho _ List.mem_cons_self, rfl, trivial, h1, h2, by rw [ht]; exact h5, by rw [ht]; exact za_Bl_S h0 h6⟩) (fun q hq => h6.2.2 q hq) hdg hlocks))
  · cases h
/-! behind a call -/
theorem za_cat2_mem {f : za_X → za_N} : ∀ {xs : List za_X} {Z : List za_S × List za_X}, za_cat2 f xs = some Z → ∀ {x : za_X}, x ∈ xs → ∃ z, f x = some z ∧ (∀ S ∈ z.1, S ∈ Z.1) ∧ ∀ y ∈ z.2, y ∈ Z.2
  | [], _, _, _, hx => absurd hx List.not_mem_nil
  | y :: xs, Z, h, x, hx => by
    unfold za_cat2 at h
    split at h
    · rename_i a b ha hb
      cases h
      rcases List.mem_cons.mp hx with rfl | hx
      · exact ⟨a, ha, fun S hS => List.mem_append_left _ hS, fun S hS => List.mem_append_left _ hS⟩
      · obtain ⟨z, z1, z2, z3⟩ := za_cat2_mem hb hx
        exact ⟨z, z1, fun S hS => List.mem_append_right _ (z2 S hS), fun S hS => List.mem_append_right _ (z3 S hS)⟩
    · cases h
theorem za_hnd_out {cp : Nat → Option za_row} {ex : Nat} : ∀ {hh : List (Nat × Nat × Nat × Nat)}, za_hnd cp pc ex hh = some none → ∀ x ∈ tableOf hh, covers x pc = false
  | [], _, x, hx => absurd hx List.not_mem_nil
  | (a1, b1, h1, ct) :: hh, h, x, hx => by
    have htab : tableOf ((a1, b1, h1, ct) :: hh) = ⟨a1, b1, h1, ct⟩ :: tableOf hh := rfl
    rw [htab] at hx
    unfold za_hnd at h
    by_cases hcov : a1 ≤ pc ∧ pc < b1
    · have e1 : Nat.ble a1 pc = true := Nat.ble_eq.mpr hcov.1
      have e2 : Nat.blt pc b1 = true := Nat.ble_eq.mpr hcov.2
      simp only [e1, e2, cond_true] at h
      split at h
      · obtain ⟨h0, h⟩ := za_bifn h
        cases hb : Nat.beq _ ex with
        | true => rw [hb] at h; cases h
        | false =>
          rw [hb] at h
          simp only [cond_false] at h
          split at h
          · cases h
          · cases h
      · cases h
    · have h : za_hnd cp pc ex hh = some none := by
        cases e1 : Nat.ble a1 pc with
        | false => simp only [e1, cond_false] at h; exact h
        | true =>
          cases e2 : Nat.blt pc b1 with
          | false => simp only [e1, e2, cond_true, cond_false] at h; exact h
          | true => exact absurd ⟨za_ble e1, za_blt e2⟩ hcov
      rcases List.mem_cons.mp hx with rfl | hx
      · simp only [covers, Bool.and_eq_false_iff, decide_eq_false_iff_not]
        by_cases z : a1 ≤ pc
        · exact Or.inr (fun w => hcov ⟨z, w⟩)
        · exact Or.inl z
      · exact za_hnd_out h x hx
theorem za_gW_st {σ : Nat → Int32} {ads : List Nat} {v : Option za_V} {w : Option Value} {rest : List za_V} {rst : List Value} (h : za_gW σ ads v w) (hr : za_F2 (za_gV σ ads) rest rst) : za_F2 (za_gV σ ads) (v.toList ++ rest) (w.toList ++ rst) := by
  match v, w, h with
  | none, none, _ => exact hr
  | some v, some w, h => exact ⟨h, hr⟩
theorem zs_aft {M : za_MI} {own : String} {lv : za_LV} {rest : List za_V} {Z : List za_S × List za_X} {xs outs : List za_X} {cp : Nat → Option za_row} {a9 : Array Value} {mcY msY cells slots : Nat} {ads : List Nat} {H : Heap} {locs : List Loc} {ls : Array Slot} {stk rst : List Value}
    (hx : p.tables.exec = Jvm.exec) (hb : c.code = M.2.1) (hown : s.vm.findClass own = some m.cls) (hlocks : meth.locks = false) (h0 : za_Bl E s.heap) (htab : c.exceptionTable.toList = tableOf (za_hh M)) (hzk : zh_ok s args own cp) (hdec : (za_is M).all (za_dok M.2.1) = true) (hcs : cells + mcY ≤ za_mc M) (hsl : slots + msY ≤ za_ms M)
    (hr : vx_Run p l e R s m args below meth c H locs cells slots mcY msY (F0 m pc ls stk) rst (za_Qc E ads xs a9) (za_XC E ads xs) (za_A E))
    (hcat : za_cat2 (za_aft M cp pc lv rest (cells + mcY) (slots + msY)) xs = some Z)
    (hk : ∀ S ∈ Z.1, za_G p l e R s m args below meth c (vx_MQ below (za_Qc E ads0 outs) (za_XC E ads0 outs) args s (za_mc M) (za_ms M) (za_A E)) E (za_nL M) ads0 S) (ho : ∀ x ∈ Z.2, x ∈ outs)
    (h1 : ads0 <+: ads) (h3 : za_F2 (za_gV (za_σ E) ads) rest rst) (h4 : ∃ lc, lv_has ls (za_nL M) lc ∧ za_F2 (za_gP (za_σ E) ads) lv lc) (h6 : va_S (za_A E) s.heap H locs) :
    W p l e R s m args below meth c H locs cells slots (vx_MQ below (za_Qc E ads0 outs) (za_XC E ads0 outs) args s (za_mc M) (za_ms M) (za_A E)) (F0 m pc ls stk) := by
  intro T hT X
  rcases hr T hT X with ⟨v, st₀, t9, T', L9, g0, X', hL, e1, e2, hq, st⟩ | ⟨q, st₀, t9, T', L9, nm, ce, g0, X', hL, e1, e2, hx9, hce, hcv, hcl, st⟩
  · obtain ⟨v9, h9, ρ9, ads9, w9, m1, m2, m3, m4, m5, m6, m7⟩ := hq
    cases m2
    have hS : va_S (za_A E) s.heap T'.heap (locs ++ L9) := by
      refine ⟨X'.same.2.1, fun q hq1 hq2 => ?_, fun z hz => ?_⟩
      · have hq3 : q < (za_H0 E).size := Nat.not_le.mp hq2
        rw [e1, m7.2 q hq3, h0.2 q hq3]
      · rcases List.mem_append.mp hz with z1 | z1
        · exact h6.2.2 z z1
        · exact hL z z1
    obtain ⟨z, z1, z2, -⟩ := za_cat2_mem hcat m1
    have hG : za_G p l e R s m args below meth c (vx_MQ below (za_Qc E ads0 outs) (za_XC E ads0 outs) args s (za_mc M) (za_ms M) (za_A E)) E (za_nL M) ads0 (pc + 3, lv, v9.toList ++ rest, h9, ρ9, cells + mcY, slots + msY) := by
      cases v9 with
      | none => cases z1; exact hk _ (z2 _ List.mem_cons_self)
      | some v9 => cases z1; exact hk _ (z2 _ List.mem_cons_self)
    obtain ⟨t2, a1, b1⟩ := hG ads9 T'.heap (locs ++ L9) ls (v.toList ++ rst) ⟨h1.trans m4, m5, za_gW_st m3 (za_F2_mono (fun _ _ => za_gV_mono m4) h3), za_lv_mono m4 h4, by rw [e1]; exact m6, hS⟩ T' rfl X'
    exact ⟨t2, st t2 a1, b1⟩
  · obtain ⟨ex, h9, ρ9, ads9, m1, mex, m2, m4, m5, m6, m7⟩ := hx9
    subst m2
    have hS : va_S (za_A E) s.heap T'.heap (locs ++ L9) := by
      refine ⟨X'.same.2.1, fun q hq1 hq2 => ?_, fun z hz => ?_⟩
      · have hq3 : q < (za_H0 E).size := Nat.not_le.mp hq2
        rw [e1, m7.2 q hq3, h0.2 q hq3]
      · rcases List.mem_append.mp hz with z1 | z1
        · exact h6.2.2 z z1
        · exact hL z z1
    obtain ⟨z, z1, z2, z3⟩ := za_cat2_mem hcat m1
    have z1 : (match za_hnd cp pc ex (za_hh M) with
      | none => none
      | some none => some ([], [(.inr ex, h9, ρ9)])
      | some (some hp) => match za_fe (za_is M) hp with
        | some (.astore_n k) => bif Nat.blt k.val (za_nL M) then some ([(hp + 1, lv.filter (fun q => !(q.1 == k.val) && !(q.1 + 1 == k.val && za_cat q.2 == 2)), [], h9, ρ9, cells + mcY, slots + msY)], []) else none
        | some (.astore k) => bif Nat.blt k (za_nL M) then some ([(hp + 2, lv.filter (fun q => !(q.1 == k) && !(q.1 + 1 == k && za_cat q.2 == 2)), [], h9, ρ9, cells + mcY, slots + msY)], []) else none
        | _ => none : za_N) = some z := z1
    have hce9 : T'.heap[q]? = some ce := by rw [e1]; exact hce
    split at z1
    · cases z1
    · rename_i hhnd
      cases z1
      have hV : vx_W p l e R s m args below meth c T'.heap (locs ++ L9) (cells + mcY) (slots + msY) (vx_MQ below (za_Qc E ads0 outs) (za_XC E ads0 outs) args s (za_mc M) (za_ms M) (za_A E)) (F0 m pc ls rst) q :=
        vx_out (fun x hx => za_hnd_out hhnd x (by rw [← htab]; exact hx)) hlocks hce9 hcv hcl (fun t8 ht _ => ⟨ex, h9, ρ9, ads9, ho _ (z3 _ List.mem_cons_self), mex, rfl, h1.trans m4, m5, by rw [ht, e1]; exact m6, by rw [ht, e1]; exact m7⟩) (fun z hz => hS.2.2 z hz) hcs hsl
      obtain ⟨t2, a1, b1⟩ := hV T' rfl X'
      exact ⟨t2, st.trans a1, b1⟩
    · rename_i hp hhnd
      have h4 := za_lv_mono m4 h4
      obtain ⟨lc, l1, l2⟩ := h4
      have hV : vx_W p l e R s m args below meth c T'.heap (locs ++ L9) (cells + mcY) (slots + msY) (vx_MQ below (za_Qc E ads0 outs) (za_XC E ads0 outs) args s (za_mc M) (za_ms M) (za_A E)) (F0 m pc ls rst) q := by
        refine zh_catch hown htab hzk mex hhnd hce9 hcv hcl ?_
        split at z1
        · rename_i k hfe
          obtain ⟨g1, z1⟩ := za_bif z1
          cases z1
          refine lv_astore_n hx hb (za_fe_1 hdec hfe rfl) rfl l1 (za_blt g1) rfl (fun ls' h4 => ?_)
          exact hk _ (z2 _ List.mem_cons_self) ads9 T'.heap (locs ++ L9) ls' [] ⟨h1.trans m4, m5, trivial, ⟨_, ⟨h4.1, h4.2.1, fun z hz => h4.2.2 z (List.mem_cons_of_mem _ hz)⟩, za_F2_filter (fun a b hab => by rw [hab.1, za_cat_ok hab.2]) l2⟩, by rw [e1]; exact m6, hS⟩
        · rename_i k hfe
          obtain ⟨g1, z1⟩ := za_bif z1
          cases z1
          refine lv_astore hx hb (za_fe_1 hdec hfe rfl) l1 (za_blt g1) rfl (fun ls' h4 => ?_)
          exact hk _ (z2 _ List.mem_cons_self) ads9 T'.heap (locs ++ L9) ls' [] ⟨h1.trans m4, m5, trivial, ⟨_, ⟨h4.1, h4.2.1, fun z hz => h4.2.2 z (List.mem_cons_of_mem _ hz)⟩, za_F2_filter (fun a b hab => by rw [hab.1, za_cat_ok hab.2]) l2⟩, by rw [e1]; exact m6, hS⟩
        · cases z1
      obtain ⟨t2, a1, b1⟩ := hV T' rfl X'
      exact ⟨t2, st.trans a1, b1⟩
theorem zr_of {H : Heap} {locs : List Loc} {cells slots mc ms : Nat} {g : JFrame} {rest : List Value} {Qa : State → Outcome → State → Prop} {XC : String → State → State → Prop} {free : Addr → Prop} (h : va_Run p l e R s m args below meth c H locs cells slots mc ms g rest Qa free) : vx_Run p l e R s m args below meth c H locs cells slots mc ms g rest Qa XC free := fun T hT X => Or.inl (h T hT X)
theorem za_nox_ok : ∀ {xs : List za_X}, za_nox xs = true → ∀ {ex : Nat} {h : List za_O} {ρ : za_R}, ((.inr ex, h, ρ) : za_X) ∉ xs
  | [], _, _, _, _ => List.not_mem_nil
  | (.inl v, y) :: xs, hn, ex, h, ρ => fun hm => by
    rcases List.mem_cons.mp hm with z | z
    · cases z
    · exact za_nox_ok (xs := xs) hn z
  | (.inr v, y) :: xs, hn, ex, h, ρ => by cases hn
theorem zo_met {y : MethodName} {ws : List Cond} {rm : Room} {Pc : Array Value → State → Prop} {xs : List za_X} {ads : List Nat} {mc ms : Nat} {free : Addr → Prop} (h : vx_Met l y ws rm Pc (za_Qc E ads xs) (za_XC E ads xs) mc ms free) (hn : za_nox xs = true) : Met l y ws rm Pc (za_Qc E ads xs) mc ms free := by
  intro p e h1 h2 h3 s m args below h4 h5 h6 h7
  obtain ⟨n, o, k1, k2, k3, k4⟩ := h p e h1 h2 h3 s m args below h4 h5 h6 h7
  refine ⟨n, o, k1, k2, k3, ?_⟩
  rcases k4 with k4 | ⟨q, -, E9, ce, L9, ⟨ex, h9, ρ9, ads9, m1, -⟩, -⟩
  · exact k4
  · exact absurd m1 (za_nox_ok hn)
end ZR
end
section
/-! ===== all instructions; a method's contract by its run; the depth ===== -/
/-- what holds at the law's start -/
def za_K0 (l : Launch) (E : za_E) (L : Nat) (s0 : State) : Prop :=
  l.stackTraces = false ∧ za_H0 E = s0.heap ∧ (∀ w ∈ za_wd, w.before #[] s0 = true) ∧ (∀ w ∈ za_nw, va_Nw w s0) ∧ va_K (za_D E) vwCl (za_tys E) s0 ∧ va_X (za_b E) L (za_σ E) s0 s0.heap ∧ za_b E < s0.heap.size ∧
  vx_Zq Bundle.tN "UNASSIGNED_STACK" Bundle.steD (za_A E) s0 s0.heap ∧ vx_Zq Bundle.tN "SUPPRESSED_SENTINEL" Bundle.listD (za_A E) s0 s0.heap ∧ (∀ ex, ex < 2 → va_Nw (.castable (za_exn ex) (za_exn ex)) s0) ∧ (∀ ex ex', ex < 2 → ex' < 2 → ex' ≠ ex → va_Nc (za_exn ex) (za_exn ex') s0) ∧ ∀ k ∈ za_sk, ∃ (tx : String) (sa : Nat), vk_R RX11 k tx sa s0
/-- what holds at a method's start -/
def za_Cx (p : Program) (l : Launch) (R : Room) (s : State) (m : MethodId) (args : Array Value) (meth : Method) (c : Code) (E : za_E) (L : Nat) (s0 : State) (d : Nat) (M : za_MI) : Prop :=
  p.tables.exec = Jvm.exec ∧ c.code = M.2.1 ∧ c.maxLocals = za_nL M ∧ meth.sig.returnType = za_rt M ∧ meth.locks = false ∧ meth.name = M.1.name ∧ s.vm.findClass (za_ow (za_cl M)) = some m.cls ∧ c.exceptionTable.toList = tableOf (za_hh M) ∧ za_K0 l E L s0 ∧ s0.WarmedH s.vm ∧ za_Bl E s.heap ∧ (za_is M).all (za_dok M.2.1) = true ∧ d + 9 ≤ R.frames ∧ 64 * d + 259 ≤ R.locals ∧ R.cells = za_mc M ∧ R.slots = za_ms M
/-- the callees' contracts -/
def za_IH (l : Launch) (E : za_E) (s0 : State) (d : Nat) (call : za_CF) : Prop := ∀ (j : Nat) (Y : za_MI) (as : List za_V) (h : List za_O) (ρ : za_R) (xs : List za_X) (ads : List Nat), za_MT j = some Y → call j as h ρ = some xs → vx_Met l Y.1 [za_word Y] (za_rm d Y) (za_Pc E s0 ads as h ρ) (za_Qc E ads xs) (za_XC E ads xs) (za_mc Y) (za_ms Y) (za_A E)
section ZM
variable {p : Program} {l : Launch} {e : Env} {R : Room} {s s0 : State} {m : MethodId} {args : Array Value} {below : List Frame} {meth : Method} {c : Code} {E : za_E} {ads0 : List Nat} {pc L d : Nat} {M : za_MI} {call : za_CF} {outs : List za_X} {lv : za_LV} {st : List za_V} {t : za_T} {Z : List za_S × List za_X}
theorem zk_w (K : za_K0 l E L s0) (hW : s0.WarmedH s.vm) {a9 : Array Value} : ∀ w ∈ za_wd, w.before a9 s = true := fun w hw => word_at hW (good_of_word (List.mem_filter.mp hw).2) (K.2.2.1 w hw)
theorem zk_zh (K : za_K0 l E L s0) (hW : s0.WarmedH s.vm) (cl9 : Nat) {a9 : Array Value} : zh_ok s a9 (za_ow cl9) (za_CP cl9) := by
  refine ⟨fun ct ex a z h => ?_, fun ex hex k hk => ?_, fun ex ex' h1 h2 h3 => (K.2.2.2.2.2.2.2.2.2.2.1 ex ex' h1 h2 h3).moved hW.alike⟩
  · obtain ⟨h1, h2⟩ := zc_row h
    exact ⟨za_blt h2, zk_w K hW _ (h1 _ List.mem_cons_self)⟩
  · obtain ⟨k1, k2, e1, e2, e3⟩ := Cond.castable_spec (va_Nw.use (A := #[]) rfl ((K.2.2.2.2.2.2.2.2.2.1 ex hex).warmC hW))
    have h1 : k1 = k := Option.some.inj (e1.symm.trans hk)
    have h2 : k2 = k := Option.some.inj (e2.symm.trans hk)
    subst h1; subst h2
    exact e3
theorem zk_K (K : za_K0 l E L s0) (hW : s0.WarmedH s.vm) : va_K (za_D E) vwCl (za_tys E) s := va_K.moved hW.alike K.2.2.2.2.1
theorem zb_0 {ci k : Nat} {z : Int} (h : za_side (0, ci, k, z) = true) : ∃ q, vwCl[ci]? = some q ∧ Nat.blt k q.2.2 = true ∧ (if z = 0 then false else true) = (q.2.1 k).2.2.2 ∧ (q.2.1 k).1 = q.1 := by
  change (match vwCl[ci]? with | some q => (Nat.blt k q.2.2 && decide ((if z = 0 then false else true) = (q.2.1 k).2.2.2) && decide ((q.2.1 k).1 = q.1)) | none => false) = true at h
  cases hq : vwCl[ci]? with
  | none => rw [hq] at h; cases h
  | some q =>
    rw [hq] at h
    simp only [Bool.and_eq_true, decide_eq_true_eq] at h
    exact ⟨q, rfl, h.1.1, h.1.2, h.2⟩
theorem zb_5 {ci k : Nat} {z : Int} (h : za_side (5, ci, k, z) = true) : ∃ q, vwCl[ci]? = some q := by
  change (match vwCl[ci]? with | some _ => true | none => false) = true at h
  cases hq : vwCl[ci]? with
  | none => rw [hq] at h; cases h
  | some q => exact ⟨q, rfl⟩
theorem zg_getf {k : Nat} (X : za_Cx p l R s m args meth c E L s0 d M) (hdg : decode M.2.1 pc = .ok (.getfield k, 3)) (h : za_getf (za_CP (za_cl M) k) pc lv st t = some Z) (hk : ∀ S ∈ Z.1, za_G p l e R s m args below meth c (vx_MQ below (za_Qc E ads0 outs) (za_XC E ads0 outs) args s (za_mc M) (za_ms M) (za_A E)) E (za_nL M) ads0 S) : za_G p l e R s m args below meth c (vx_MQ below (za_Qc E ads0 outs) (za_XC E ads0 outs) args s (za_mc M) (za_ms M) (za_A E)) E (za_nL M) ads0 (pc, lv, st, t) := by
  obtain ⟨hx, hb, hml, hr, hlocks, hnm, hown, htab, K, hW, h0, hdec, hRf, hRl, hRc, hRs⟩ := X
  refine zs_getf (fun {ci} {k9} {z} hrow => ?_) h hk
  intro H locs cells slots ls rest ws q a vs v hP he hv kk
  obtain ⟨w1, w2⟩ := zc_row hrow
  obtain ⟨q9, hq9, g1, g2, g3⟩ := zb_0 w2
  obtain ⟨f1, f2, f3, f4, f5⟩ := zc_cls hq9
  have hl := w1 (Cond.fieldLink (za_ow (za_cl M)) k (q9.2.1 k9).1 (q9.2.1 k9).2.1 (q9.2.1 k9).2.2.1) (by simp [za_need, za_wC, hq9])
  exact va_get hx hb (zk_w K hW) f1 hown (zk_K K hW) hP q he hq9 k9 (za_blt g1) (zk_w K hW _ hl) (fun x hx => hx) hv hdg kk
theorem zg_putf {k : Nat} (X : za_Cx p l R s m args meth c E L s0 d M) (hdg : decode M.2.1 pc = .ok (.putfield k, 3)) (h : za_putf (za_CP (za_cl M) k) (za_cl M) (za_ini M) pc lv st t = some Z) (hk : ∀ S ∈ Z.1, za_G p l e R s m args below meth c (vx_MQ below (za_Qc E ads0 outs) (za_XC E ads0 outs) args s (za_mc M) (za_ms M) (za_A E)) E (za_nL M) ads0 S) : za_G p l e R s m args below meth c (vx_MQ below (za_Qc E ads0 outs) (za_XC E ads0 outs) args s (za_mc M) (za_ms M) (za_A E)) E (za_nL M) ads0 (pc, lv, st, t) := by
  obtain ⟨hx, hb, hml, hr, hlocks, hnm, hown, htab, K, hW, h0, hdec, hRf, hRl, hRc, hRs⟩ := X
  refine zs_putf (fun {ci} {k9} {z} hrow hz => ?_) h hk
  intro H locs cells slots ls rest ws q a vs v hP hD hS he hlen hn hf kk
  obtain ⟨w1, w2⟩ := zc_row hrow
  obtain ⟨q9, hq9, g1, g2, g3⟩ := zb_0 w2
  obtain ⟨f1, f2, f3, f4, f5⟩ := zc_cls hq9
  have hl := w1 (Cond.fieldLink (za_ow (za_cl M)) k (q9.2.1 k9).1 (q9.2.1 k9).2.1 (q9.2.1 k9).2.2.1) (by simp [za_need, za_wC, hq9])
  by_cases hz0 : z = 0
  · exact va_put hx hb (zk_w K hW) f1 (za_tyX ci) f2 f3 hown (zk_K K hW) hP hD hS q he hq9 k9 (za_blt g1) (zk_w K hW _ hl) (fun x hx => hx) (by rw [← g2, if_pos hz0]) (f2 k9 (za_blt g1)) hn hf hlen hdg kk
  · rcases hz with hz | ⟨hz1, hz2⟩
    · exact absurd hz hz0
    · have hin : meth.name = "<init>" := by rw [hnm]; exact of_decide_eq_true hz1
      exact va_putF hx hb (zk_w K hW) f1 (za_tyX ci) f2 f3 hown (zk_K K hW) hP hD hS q he hq9 k9 (za_blt g1) (zk_w K hW _ hl) (fun x hx => hx) (by rw [← g2, if_neg hz0]) hin (by rw [g3, f5, hz2]) (f2 k9 (za_blt g1)) hn hf hlen hdg kk
theorem zg_newo {k : Nat} (X : za_Cx p l R s m args meth c E L s0 d M) (hdg : decode M.2.1 pc = .ok (.new k, 3)) (h : za_newo (za_mc M) (za_ms M) (za_CP (za_cl M) k) pc lv st t = some Z) (hk : ∀ S ∈ Z.1, za_G p l e R s m args below meth c (vx_MQ below (za_Qc E ads0 outs) (za_XC E ads0 outs) args s (za_mc M) (za_ms M) (za_A E)) E (za_nL M) ads0 S) : za_G p l e R s m args below meth c (vx_MQ below (za_Qc E ads0 outs) (za_XC E ads0 outs) args s (za_mc M) (za_ms M) (za_A E)) E (za_nL M) ads0 (pc, lv, st, t) := by
  obtain ⟨hx, hb, hml, hr, hlocks, hnm, hown, htab, K, hW, h0, hdec, hRf, hRl, hRc, hRs⟩ := X
  refine zs_newo (fun {ci} {k9} {z} hrow => ?_) h hk
  obtain ⟨w1, w2⟩ := zc_row hrow
  obtain ⟨q9, hq9⟩ := zb_5 w2
  obtain ⟨f1, f2, f3, f4, f5⟩ := zc_cls hq9
  refine ⟨by have := (List.getElem?_eq_some_iff.mp hq9).1; simpa using this, ?_⟩
  intro H locs cells slots ls rest ws hP hD hS hc hs kk
  have hl1 := w1 (Cond.classLink (za_ow (za_cl M)) k q9.1) (by simp [za_need, za_wC, hq9])
  have hl2 := w1 (Cond.instantiable q9.1 q9.2.2) (by simp [za_need, za_wC, hq9])
  have hl3 := w1 (Cond.initialized q9.1) (by simp [za_need, za_wC, hq9])
  rw [← f4] at hs kk
  refine va_new (fs := za_dfs ci q9.2.2) hx hb (zk_w K hW) f1 (za_tyX ci) f2 hown (zk_w K hW _ hl1) (zk_w K hW _ hl2) (zk_w K hW _ hl3) (zk_K K hW) hP hD hS (fun q hq => Nat.le_trans h0.1 hq) hq9 (fun j hj => ?_) (by rw [hRc]; exact hc) (by rw [hRs]; exact hs) hdg kk
  show _ = (za_dfs ci q9.2.2).getD j .null
  rw [List.getD_eq_getElem?_getD, za_dfs_at ci _ j hj]
  rfl
theorem zg_newa {ty : ArrayType} (X : za_Cx p l R s m args meth c E L s0 d M) (hdg : decode M.2.1 pc = .ok (.newarray ty, 2)) (h : za_newa (za_mc M) (za_ms M) ty pc lv st t = some Z) (hk : ∀ S ∈ Z.1, za_G p l e R s m args below meth c (vx_MQ below (za_Qc E ads0 outs) (za_XC E ads0 outs) args s (za_mc M) (za_ms M) (za_A E)) E (za_nL M) ads0 S) : za_G p l e R s m args below meth c (vx_MQ below (za_Qc E ads0 outs) (za_XC E ads0 outs) args s (za_mc M) (za_ms M) (za_A E)) E (za_nL M) ads0 (pc, lv, st, t) := by
  obtain ⟨hx, hb, hml, hr, hlocks, hnm, hown, htab, K, hW, h0, hdec, hRf, hRl, hRc, hRs⟩ := X
  refine zs_newa (fun {ft} {k} {cA} a0 hty htk hcell => ?_) h hk
  intro H locs cells slots ls rest ws n hP hD hS hn hN hle hc hs kk
  have hK := zk_K K hW
  have harr : (Cond.arrayClass ft).before args s = true ∧ a0.1 * componentBytes ft ≤ 536870912 ∧ ∀ cB : ClassId, va_RA s cB ft → cB = cA := by
    have h9 := (hK.2 k (cA, ft) htk).2
    match k, htk with
    | 0, htk =>
      cases htk
      exact ⟨zk_w K hW _ zx_arI, Nat.le_trans (Nat.mul_le_mul_right _ hle) (by decide), fun cB hB => Option.some.inj (Eq.trans (Eq.symm hB) h9)⟩
    | 1, htk =>
      cases htk
      exact ⟨zk_w K hW _ zx_arB, Nat.le_trans (Nat.mul_le_mul_right _ hle) (by decide), fun cB hB => Option.some.inj (Eq.trans (Eq.symm hB) h9)⟩
    | 2, htk =>
      cases htk
      exact ⟨zk_w K hW _ zx_arZ, Nat.le_trans (Nat.mul_le_mul_right _ hle) (by decide), fun cB hB => Option.some.inj (Eq.trans (Eq.symm hB) h9)⟩
    | 3, htk =>
      cases htk
      exact ⟨zk_w K hW _ zx_arJ, Nat.le_trans (Nat.mul_le_mul_right _ hle) (by decide), fun cB hB => Option.some.inj (Eq.trans (Eq.symm hB) h9)⟩
    | _ + 4, htk => cases htk
  obtain ⟨ha1, ha2, ha3⟩ := harr
  refine va_newa (a0 := a0) hx hb (by rw [hty]; exact ha1) hty hK hP hD hS (fun q hq => Nat.le_trans h0.1 hq) hcell hn hN ha2 (by rw [hRc]; exact hc) (by rw [hRs]; exact hs) hdg (fun q cB H1 g1 g2 g3 g4 => ?_)
  have hB : va_RA s cB ft := (g1.2 4 (cB, ft) rfl).2
  have e9 := ha3 cB hB
  subst e9
  exact kk q H1 g2 g3 g4
theorem zg_ild {bt : Bool} {i : Instr} (hi : i = if bt then .baload else .iaload) (X : za_Cx p l R s m args meth c E L s0 d M) (hdg : decode M.2.1 pc = .ok (i, 1)) (h : za_ild bt L pc lv st t = some Z) (hk : ∀ S ∈ Z.1, za_G p l e R s m args below meth c (vx_MQ below (za_Qc E ads0 outs) (za_XC E ads0 outs) args s (za_mc M) (za_ms M) (za_A E)) E (za_nL M) ads0 S) : za_G p l e R s m args below meth c (vx_MQ below (za_Qc E ads0 outs) (za_XC E ads0 outs) args s (za_mc M) (za_ms M) (za_A E)) E (za_nL M) ads0 (pc, lv, st, t) := by
  obtain ⟨hx, hb, hml, hr, hlocks, hnm, hown, htab, K, hW, h0, hdec, hRf, hRl, hRc, hRs⟩ := X
  have hK := zk_K K hW
  refine zs_ild (fun hbt => ?_) (fun {tt} htt hiff => ?_) h hk
  · intro H locs cells slots ls rest j hS hin kk
    subst hbt
    subst hi
    have hX : va_X (za_b E) L (za_σ E) s s.heap := (K.2.2.2.2.2.1.moved hW.alike).kept (by rw [h0.2 _ (by rw [K.2.1]; exact K.2.2.2.2.2.2.1), K.2.1])
    have hlt : za_b E < (za_H0 E).size := by rw [K.2.1]; exact K.2.2.2.2.2.2.1
    exact va_sld hx hb hX (Nat.lt_of_lt_of_le hlt h0.1) (Nat.not_le.mpr hlt) hS hin hdg kk
  · intro H locs cells slots ls rest ws q a n f j hP he hin kk
    match tt, htt, hiff, he with
    | 0, _, hiff, he =>
      have hbt := hiff.mpr rfl
      subst hbt; subst hi
      exact va_iald hx hb hK hP q 0 he rfl hin hdg kk
    | 1, _, hiff, he =>
      have hbt : bt = true := by cases bt with | true => rfl | false => exact absurd (hiff.mp rfl) (by decide)
      subst hbt; subst hi
      exact va_bald hx hb hK hP q 1 he rfl hin hdg kk
    | 2, _, hiff, he =>
      have hbt : bt = true := by cases bt with | true => rfl | false => exact absurd (hiff.mp rfl) (by decide)
      subst hbt; subst hi
      exact va_zald hx hb hK hP q 2 he rfl hin hdg kk
    | _ + 3, htt, _, _ => omega
theorem zg_ist {bt : Bool} {i : Instr} (hi : i = if bt then .bastore else .iastore) (X : za_Cx p l R s m args meth c E L s0 d M) (hdg : decode M.2.1 pc = .ok (i, 1)) (h : za_ist bt pc lv st t = some Z) (hk : ∀ S ∈ Z.1, za_G p l e R s m args below meth c (vx_MQ below (za_Qc E ads0 outs) (za_XC E ads0 outs) args s (za_mc M) (za_ms M) (za_A E)) E (za_nL M) ads0 S) : za_G p l e R s m args below meth c (vx_MQ below (za_Qc E ads0 outs) (za_XC E ads0 outs) args s (za_mc M) (za_ms M) (za_A E)) E (za_nL M) ads0 (pc, lv, st, t) := by
  obtain ⟨hx, hb, hml, hr, hlocks, hnm, hown, htab, K, hW, h0, hdec, hRf, hRl, hRc, hRs⟩ := X
  have hK := zk_K K hW
  refine zs_ist (fun {tt} htt hiff => ?_) h hk
  intro H locs cells slots ls rest ws q a n f j x hP hD hS he hin kk
  match tt, htt, hiff, he, kk with
  | 0, _, hiff, he, kk =>
    have hbt := hiff.mpr rfl
    subst hbt; subst hi
    exact va_iast hx hb hK hP hD hS q 0 he rfl hin hdg kk
  | 1, _, hiff, he, kk =>
    have hbt : bt = true := by cases bt with | true => rfl | false => exact absurd (hiff.mp rfl) (by decide)
    subst hbt; subst hi
    exact va_bast hx hb hK hP hD hS q 1 he rfl hin hdg kk
  | 2, _, hiff, he, kk =>
    have hbt : bt = true := by cases bt with | true => rfl | false => exact absurd (hiff.mp rfl) (by decide)
    subst hbt; subst hi
    exact va_zast hx hb hK hP hD hS q 2 he rfl hin hdg kk
  | _ + 3, htt, _, _, _ => omega
theorem zg_alen (X : za_Cx p l R s m args meth c E L s0 d M) (hdg : decode M.2.1 pc = .ok (.arraylength, 1)) (h : za_alen L pc lv st t = some Z) (hk : ∀ S ∈ Z.1, za_G p l e R s m args below meth c (vx_MQ below (za_Qc E ads0 outs) (za_XC E ads0 outs) args s (za_mc M) (za_ms M) (za_A E)) E (za_nL M) ads0 S) : za_G p l e R s m args below meth c (vx_MQ below (za_Qc E ads0 outs) (za_XC E ads0 outs) args s (za_mc M) (za_ms M) (za_A E)) E (za_nL M) ads0 (pc, lv, st, t) := by
  obtain ⟨hx, hb, hml, hr, hlocks, hnm, hown, htab, K, hW, h0, hdec, hRf, hRl, hRc, hRs⟩ := X
  have hK := zk_K K hW
  refine zs_alen ?_ ?_ h hk
  · intro H locs cells slots ls rest hS kk
    have hX : va_X (za_b E) L (za_σ E) s s.heap := (K.2.2.2.2.2.1.moved hW.alike).kept (by rw [h0.2 _ (by rw [K.2.1]; exact K.2.2.2.2.2.2.1), K.2.1])
    have hlt : za_b E < (za_H0 E).size := by rw [K.2.1]; exact K.2.2.2.2.2.2.1
    exact va_slen hx hb hX (Nat.lt_of_lt_of_le hlt h0.1) (Nat.not_le.mpr hlt) hS hdg kk
  · intro k ty cA H locs cells slots ls rest ws q a x htk hP he kk
    exact va_alen hx hb hK hP q k he htk rfl hdg kk
theorem zg_acp {k : Nat} {j9 k9 : Nat} {z9 : Int} (X : za_Cx p l R s m args meth c E L s0 d M) (hrow : za_CP (za_cl M) k = some (14, j9, k9, z9)) (hdg : decode M.2.1 pc = .ok (.invokestatic k, 3)) (h : za_acp pc lv st t = some Z) (hk : ∀ S ∈ Z.1, za_G p l e R s m args below meth c (vx_MQ below (za_Qc E ads0 outs) (za_XC E ads0 outs) args s (za_mc M) (za_ms M) (za_A E)) E (za_nL M) ads0 S) : za_G p l e R s m args below meth c (vx_MQ below (za_Qc E ads0 outs) (za_XC E ads0 outs) args s (za_mc M) (za_ms M) (za_A E)) E (za_nL M) ads0 (pc, lv, st, t) := by
  obtain ⟨hx, hb, hml, hr, hlocks, hnm, hown, htab, K, hW, h0, hdec, hRf, hRl, hRc, hRs⟩ := X
  have hK := zk_K K hW
  refine zs_acp ?_ h hk
  intro H locs cells slots ls rest ws q0 q1 a0 a n0 n1 f g sp dp n hsz hP hD hS he0 he1 c1 c2 c3 c4 c5 c6 kk
  obtain ⟨w1, -⟩ := zc_row hrow
  have l1 := w1 (Cond.methodLink (za_ow (za_cl M)) k arraycopyName) (by simp [za_need])
  have l2 := w1 (Cond.native arraycopyName) (by simp [za_need])
  have l3 := w1 (Cond.static arraycopyName) (by simp [za_need])
  have l4 := w1 (Cond.initialized "java/lang/System") (by simp [za_need])
  have hnw : nativeFrameWords "java/lang/System" "arraycopy" 5 = 7 := by decide +kernel
  exact va_copyi (tys := za_tys E) hx hb (hml.trans hsz.symm) hown (zk_w K hW _ l1) (zk_w K hW _ l2) (zk_w K hW _ l3) (zk_w K hW _ l4) hK hP hD hS q0 q1 0 0 (ty := .int) he0 he1 rfl rfl rfl c1 c2 c3 c4 c5 (fun _ _ => rfl) (by omega) (by rw [hnw]; omega) hdg kk
/-- throw new E(text) -/
theorem zg_thr {ik : Nat} {ex j9 : Nat} {z9 : Int} (X : za_Cx p l R s m args meth c E L s0 d M) (hhe : za_hh M = []) (hrow : za_CP (za_cl M) ik = some (6, ex, j9, z9)) (hdg : decode M.2.1 pc = .ok (.new ik, 3)) (h : za_thr (za_mc M) (za_ms M) (za_is M) (za_CP (za_cl M)) ex pc st t = some Z) (ho : ∀ x ∈ Z.2, x ∈ outs) : za_G p l e R s m args below meth c (vx_MQ below (za_Qc E ads0 outs) (za_XC E ads0 outs) args s (za_mc M) (za_ms M) (za_A E)) E (za_nL M) ads0 (pc, lv, st, t) := by
  obtain ⟨hx, hb, hml, hr, hlocks, hnm, hown, htab, K, hW, h0, hdec, hRf, hRl, hRc, hRs⟩ := X
  intro ads H locs ls stk Mm
  obtain ⟨h1, h2, h3, h4, h5, h6⟩ := Mm
  obtain ⟨w1, w2⟩ := zc_row hrow
  have hex : ex < 2 := za_blt w2
  have l1 := zk_w K hW (a9 := args) _ (w1 _ List.mem_cons_self)
  have l2 := zk_w K hW (a9 := args) _ (w1 _ (List.mem_cons_of_mem _ List.mem_cons_self))
  have hH0 : s0.heap = za_H0 E := K.2.1.symm
  have hqk : ∀ a : Nat, a < s0.heap.size → ¬ za_A E a → s.heap[a]? = s0.heap[a]? := fun a ha _ => by rw [hH0] at ha ⊢; exact h0.2 a ha
  have hU : vx_Zq Bundle.tN "UNASSIGNED_STACK" Bundle.steD (za_A E) s s.heap := (K.2.2.2.2.2.2.2.1.kept hqk).moved hW.alike
  have hN : vx_Zq Bundle.tN "SUPPRESSED_SENTINEL" Bundle.listD (za_A E) s s.heap := (K.2.2.2.2.2.2.2.2.1.kept hqk).moved hW.alike
  have hat : ∀ w ∈ za_atX ex, w.before args s = true := by
    intro w hw
    by_cases g : goodWord w = true
    · exact zk_w K hW w (List.mem_filter.mpr ⟨zx_at ex hex w (List.mem_filter.mpr ⟨hw, g⟩), g⟩)
    · have hz := zx_no ex hex w (List.mem_filter.mpr ⟨hw, by simpa using g⟩)
      have hi := (List.mem_filter.mp hz).2
      exact va_Nw.use (zn_on hi) (zn_warm hi hW (K.2.2.2.1 w hz))
  have hgood : ∀ w ∈ Cond.classLink RX11 ik (za_exn ex) :: Cond.initialized (za_exn ex) :: za_atX ex, vx_ot w = true := by
    intro w hw
    rcases List.mem_cons.mp hw with rfl | hw
    · rfl
    · rcases List.mem_cons.mp hw with rfl | hw
      · rfl
      · exact zx_ot ex hex w hw
  have hout : ∀ (k : Nat), ∀ x ∈ c.exceptionTable.toList, covers x k = false := fun k x hx => by rw [htab, hhe] at hx; exact absurd hx List.not_mem_nil
  have hsz : ls.size = c.maxLocals := by
    obtain ⟨lc, l9, -⟩ := h4
    exact l9.1.trans hml.symm
  have hX9 : ∀ t9 : State, s.vm.Alike t9.vm → H.size ≤ t9.heap.size → (∀ q : Nat, q < H.size → t9.heap[q]? = H[q]?) → ((.inr ex, t.1, t.2.1) : za_X) ∈ outs → za_XC E ads0 outs (za_exn ex) s t9 := by
    intro t9 _ hs9 hq9 hmem
    refine ⟨ex, t.1, t.2.1, ads, hmem, hex, rfl, h1, h2, ?_, ?_⟩
    · obtain ⟨ws, e1, e2, e3, e4⟩ := h5
      exact ⟨ws, e1, e2, e3.kept (fun k q hk => hq9 q.1 (e3 k q hk).lt), e4⟩
    · have hB := za_Bl_S h0 h6
      exact ⟨Nat.le_trans hB.1 hs9, fun q hq => (hq9 q (Nat.lt_of_lt_of_le hq hB.1)).trans (hB.2 q hq)⟩
  unfold za_thr at h
  split at h
  · rename_i is f3 f4
    split at h
    · rename_i ic f6 f9
      split at h
      · rename_i r1 r2 r3 ex' r4 r5 c1 c2
        obtain ⟨g1, h⟩ := za_bif h
        obtain ⟨g2, h⟩ := za_bif h
        obtain ⟨g3, h⟩ := za_bif h
        obtain ⟨g4, h⟩ := za_bif h
        have g1 := za_beq g1
        subst g1
        cases h
        have x1 := zc_xr c2
        have x2 := zc_xr c1
        simp only [za_xok, Bool.and_eq_true, Bool.or_eq_true] at x1
        have hc11 : za_cl M = 11 := za_beq x1.1
        have hic : ic = za_icx ex' := by
          rcases x1.2 with z | z
          · rw [za_beq z.1, za_beq z.2]; rfl
          · rw [za_beq z.1, za_beq z.2]; rfl
        rw [hc11] at hown l1 x2
        have hsk : is ∈ za_sk := by
          simp only [za_xok] at x2
          simpa using x2
        obtain ⟨tx, sa, hstr⟩ := K.2.2.2.2.2.2.2.2.2.2.2 is hsk
        subst hic
        exact zt_throw (pq := pc + 6) hx hb K.1 (zx_d0 _ hex) (zx_d1 _ hex) (zx_d2 _ hex) (zx_d5 _ hex) hown (zx_fit _ hex) zx_fitn l1 l2 (vk_R.warm hW hstr) hat hgood hU hN h6 hsz hdg (za_fe_1 hdec f3 rfl) (Or.inl ⟨za_fe_1 hdec f4 rfl, rfl⟩) (za_fe_1 hdec f6 rfl) (za_fe_1 hdec f9 rfl) (hout _) (by show 2 + 3 < R.frames; omega) (by rw [za_wt_ok h3]; have := za_ble g2; show za_wt st + (13 * (2 + 1) + 43) ≤ R.locals; omega) (by rw [hRc]; exact za_blt g3) (by rw [hRs]; exact za_ble g4) hlocks (fun t9 a1 a2 a3 => hX9 t9 a1 a2 a3 (ho _ List.mem_cons_self)) (fun z hz => h6.2.2 z hz) (za_blt g3) (za_ble g4)
      · cases h
    · cases h
  · rename_i is f3 f4
    split at h
    · rename_i ic f6 f9
      split at h
      · rename_i r1 r2 r3 ex' r4 r5 c1 c2
        obtain ⟨g1, h⟩ := za_bif h
        obtain ⟨g2, h⟩ := za_bif h
        obtain ⟨g3, h⟩ := za_bif h
        obtain ⟨g4, h⟩ := za_bif h
        have g1 := za_beq g1
        subst g1
        cases h
        have x1 := zc_xr c2
        have x2 := zc_xr c1
        simp only [za_xok, Bool.and_eq_true, Bool.or_eq_true] at x1
        have hc11 : za_cl M = 11 := za_beq x1.1
        have hic : ic = za_icx ex' := by
          rcases x1.2 with z | z
          · rw [za_beq z.1, za_beq z.2]; rfl
          · rw [za_beq z.1, za_beq z.2]; rfl
        rw [hc11] at hown l1 x2
        have hsk : is ∈ za_sk := by
          simp only [za_xok] at x2
          simpa using x2
        obtain ⟨tx, sa, hstr⟩ := K.2.2.2.2.2.2.2.2.2.2.2 is hsk
        subst hic
        exact zt_throw (pq := pc + 7) hx hb K.1 (zx_d0 _ hex) (zx_d1 _ hex) (zx_d2 _ hex) (zx_d5 _ hex) hown (zx_fit _ hex) zx_fitn l1 l2 (vk_R.warm hW hstr) hat hgood hU hN h6 hsz hdg (za_fe_1 hdec f3 rfl) (Or.inr ⟨za_fe_1 hdec f4 rfl, rfl⟩) (za_fe_1 hdec f6 rfl) (za_fe_1 hdec f9 rfl) (hout _) (by show 2 + 3 < R.frames; omega) (by rw [za_wt_ok h3]; have := za_ble g2; show za_wt st + (13 * (2 + 1) + 43) ≤ R.locals; omega) (by rw [hRc]; exact za_blt g3) (by rw [hRs]; exact za_ble g4) hlocks (fun t9 a1 a2 a3 => hX9 t9 a1 a2 a3 (ho _ List.mem_cons_self)) (fun z hz => h6.2.2 z hz) (za_blt g3) (za_ble g4)
      · cases h
    · cases h
  · cases h
end ZM
end
section
/-! ===== calls ===== -/
section ZI
variable {p : Program} {l : Launch} {e : Env} {R : Room} {s s0 : State} {m : MethodId} {args : Array Value} {below : List Frame} {meth : Method} {c : Code} {E : za_E} {ads0 : List Nat} {pc L d : Nat} {M : za_MI} {call : za_CF} {outs : List za_X} {lv : za_LV} {st : List za_V} {t : za_T} {Z : List za_S × List za_X}
theorem zb_Y {j : Nat} {f : za_MI → Bool} {Y : za_MI} (h : za_sY j f = true) (hj : za_MT j = some Y) : f Y = true := by
  unfold za_sY at h
  rw [hj] at h
  exact h
theorem zj_ok {j : Nat} {Y : za_MI} (hj : za_MT j = some Y) : plainFor Y.1 = true ∧ za_ow (za_cl Y) = Y.1.cls ∧ za_nL Y ≤ 40 ∧ Y.1.cls ≠ "java/lang/invoke/MethodHandle" ∧ Y.1.cls ≠ "java/lang/invoke/VarHandle" := by
  have h := zm_s Y (zm_all hj)
  unfold za_mok at h
  simp only [Bool.and_eq_true, decide_eq_true_eq] at h
  exact ⟨h.1.1.1.1, h.1.1.1.2, za_ble h.1.1.2, h.1.2, h.2⟩
theorem zj_np {Y : za_MI} {n : Nat} (h : za_np Y n = true) : ∀ sig, parseMethodDescriptor Y.1.desc = some sig → n = sig.parameters.length := by
  intro sig hs
  unfold za_np at h
  have h := of_decide_eq_true h
  rw [hs] at h
  exact (Option.some.inj h).symm
theorem zj_ws (K : za_K0 l E L s0) (hW : s0.WarmedH s.vm) {j : Nat} {Y : za_MI} (hj : za_MT j = some Y) : ∀ w ∈ [za_word Y], ∀ (a' : Array Value) (U : State), s.WarmedH U.vm → w.before a' U = true := by
  intro w hw a' U hU
  cases List.mem_singleton.mp hw
  exact zk_w K (State.WarmedH.trans hW hU) _ (zm_w Y (zm_all hj) _ List.mem_cons_self)
theorem zj_ini (K : za_K0 l E L s0) (hW : s0.WarmedH s.vm) {j : Nat} {Y : za_MI} (hj : za_MT j = some Y) {a9 : Array Value} : (Cond.initialized Y.1.cls).before a9 s = true := zk_w K hW _ (zm_w Y (zm_all hj) _ (List.mem_cons_of_mem _ List.mem_cons_self))
theorem zj_code {Y : za_MI} (h : za_hh Y = []) : za_word Y = .code Y.1 Y.2.1 (za_nL Y) (za_rt Y) := by
  unfold za_word
  rw [h]
theorem zj_with {Y : za_MI} (h : za_hh Y ≠ []) : za_word Y = .codeWith Y.1 Y.2.1 (za_nL Y) (za_rt Y) (za_hh Y) := by
  unfold za_word
  split
  · rename_i h9; exact absurd h9 h
  · rfl
theorem zj_rm (X : za_Cx p l R s m args meth c E L s0 d M) {j : Nat} {Y : za_MI} (hj : za_MT j = some Y) : (za_rm d Y).cells = za_mc Y ∧ (za_rm d Y).slots = za_ms Y ∧ (za_rm d Y).frames + 1 ≤ R.frames ∧ 8 + (za_nL Y + 11) + (za_rm d Y).locals ≤ R.locals := by
  obtain ⟨hx, hb, hml, hr, hlocks, hnm, hown, htab, K, hW, h0, hdec, hRf, hRl, hRc, hRs⟩ := X
  have h9 := (zj_ok hj).2.2.1
  refine ⟨rfl, rfl, ?_, ?_⟩
  · show d + 8 + 1 ≤ R.frames
    omega
  · show 8 + (za_nL Y + 11) + (64 * d + 200) ≤ R.locals
    omega
theorem zj_CB (X : za_Cx p l R s m args meth c E L s0 d M) {j n k : Nat} {Y : za_MI} (hj : za_MT j = some Y) (hh : za_hh Y = []) (hn : za_np Y n = true) (hl : (Cond.methodLink (za_ow (za_cl M)) k Y.1).before args s = true) : CallB R s args (za_ow (za_cl M)) k Y.1 Y.2.1 (za_nL Y) (za_rt Y) [za_word Y] (za_rm d Y) (za_mc Y) (za_ms Y) n := by
  obtain ⟨r1, r2, r3, r4⟩ := zj_rm X hj
  obtain ⟨-, -, -, -, -, -, -, -, K, hW, -⟩ := X
  obtain ⟨-, -, -, o4, o5⟩ := zj_ok hj
  have hws := zj_ws K hW hj
  refine ⟨r1, r2, r3, r4, hws, ?_, ?_, zj_ini K hW hj, ⟨o4, o5⟩, zj_np hn, hl⟩
  · rw [zj_code hh]; exact List.mem_cons_self
  · rw [← zj_code hh]; exact hws _ List.mem_cons_self args s (State.WarmedH.refl s)
theorem zj_CN (X : za_Cx p l R s m args meth c E L s0 d M) {j n k : Nat} {Y : za_MI} (hj : za_MT j = some Y) (hh : za_hh Y = []) (hn : za_np Y n = true) (hl : (Cond.methodLinkNest (za_ow (za_cl M)) k Y.1 RX11).before args s = true) : va_CN R s args (za_ow (za_cl M)) k Y.1 RX11 Y.2.1 (za_nL Y) (za_rt Y) [za_word Y] (za_rm d Y) (za_mc Y) (za_ms Y) n := by
  obtain ⟨r1, r2, r3, r4⟩ := zj_rm X hj
  obtain ⟨-, -, -, -, -, -, -, -, K, hW, -⟩ := X
  obtain ⟨-, -, -, o4, o5⟩ := zj_ok hj
  have hws := zj_ws K hW hj
  refine ⟨⟨r1, r2, r3, r4, hws, ?_⟩, ?_, zj_ini K hW hj, ⟨o4, o5⟩, zj_np hn, hl⟩
  · rw [zj_code hh]; exact List.mem_cons_self
  · rw [← zj_code hh]; exact hws _ List.mem_cons_self args s (State.WarmedH.refl s)
theorem zj_CSW (X : za_Cx p l R s m args meth c E L s0 d M) {j n k : Nat} {Y : za_MI} (hj : za_MT j = some Y) (hh : za_hh Y ≠ []) (hn : za_np Y n = true) (hl : (Cond.methodLink (za_ow (za_cl M)) k Y.1).before args s = true) (hst : (Cond.static Y.1).before args s = true) : vx_CSW R s args (za_ow (za_cl M)) k Y.1 Y.2.1 (za_nL Y) (za_rt Y) (za_hh Y) [za_word Y] (za_rm d Y) (za_mc Y) (za_ms Y) n := by
  obtain ⟨r1, r2, r3, r4⟩ := zj_rm X hj
  obtain ⟨-, -, -, -, -, -, -, -, K, hW, -⟩ := X
  obtain ⟨-, -, -, o4, o5⟩ := zj_ok hj
  have hws := zj_ws K hW hj
  refine ⟨⟨r1, r2, r3, r4, hws, ?_⟩, ?_, zj_ini K hW hj, ⟨o4, o5⟩, zj_np hn, hl, hst⟩
  · rw [zj_with hh]; exact List.mem_cons_self
  · rw [← zj_with hh]; exact hws _ List.mem_cons_self args s (State.WarmedH.refl s)
theorem zj_fix (X : za_Cx p l R s m args meth c E L s0 d M) : CallFix p m c M.2.1 (za_nL M) s args [] (za_ow (za_cl M)) := by
  obtain ⟨hx, hb, hml, hr, hlocks, hnm, hown, htab, K, hW, h0, hdec, hRf, hRl, hRc, hRs⟩ := X
  exact ⟨hx, hb, hml, hown, fun w hw => absurd hw List.not_mem_nil⟩
theorem zs_inv {nx : Bool} {Y : za_MI} {j k : Nat} (X : za_Cx p l R s m args meth c E L s0 d M) (IH : za_IH l E s0 d call) (hj : za_MT j = some Y)
    (rule : ∀ {H : Heap} {locs : List Loc} {cells slots : Nat} {ls : Array Slot} {as : List za_V} {As rst : List Value} {xs : List za_X} {ads : List Nat}, as = (st.take k).reverse → cells + za_mc Y ≤ R.cells ∧ slots + za_ms Y ≤ R.slots → vx_Met l Y.1 [za_word Y] (za_rm d Y) (za_Pc E s0 ads as t.1 t.2.1) (za_Qc E ads xs) (za_XC E ads xs) (za_mc Y) (za_ms Y) (za_A E) → (nx = true → za_nox xs = true) → (∀ U : State, U.heap = H → s.WarmedH U.vm → za_Pc E s0 ads as t.1 t.2.1 As.toArray U) → za_F2 (za_gV (za_σ E) ads) as As → za_Wd E ads t.1 H → k ≤ st.length → ls.size = za_nL M → (rst.map fun v => v.category).sum ≤ 8 →
      vx_Run p l e R s m args below meth c H locs cells slots (za_mc Y) (za_ms Y) (F0 m pc ls (As.reverse ++ rst)) rst (za_Qc E ads xs As.toArray) (za_XC E ads xs) (za_A E))
    (h : za_inv nx M (za_CP (za_cl M)) Y call j k pc lv st t = some Z) (hk : ∀ S ∈ Z.1, za_G p l e R s m args below meth c (vx_MQ below (za_Qc E ads0 outs) (za_XC E ads0 outs) args s (za_mc M) (za_ms M) (za_A E)) E (za_nL M) ads0 S) (ho : ∀ x ∈ Z.2, x ∈ outs) : za_G p l e R s m args below meth c (vx_MQ below (za_Qc E ads0 outs) (za_XC E ads0 outs) args s (za_mc M) (za_ms M) (za_A E)) E (za_nL M) ads0 (pc, lv, st, t) := by
  obtain ⟨hx, hb, hml, hr, hlocks, hnm, hown, htab, K, hW, h0, hdec, hRf, hRl, hRc, hRs⟩ := X
  unfold za_inv at h
  obtain ⟨g1, h⟩ := za_bif h
  obtain ⟨g2, h⟩ := za_bif h
  obtain ⟨g3, h⟩ := za_bif h
  obtain ⟨g4, h⟩ := za_bif h
  split at h
  · cases h
  · rename_i xs hc
    obtain ⟨g5, h⟩ := za_bif h
    intro ads H locs ls stk Mm
    obtain ⟨h1, h2, h3, h4, h5, h6⟩ := Mm
    obtain ⟨As, rst, e9, s1, s2⟩ : ∃ As rst, stk = As.reverse ++ rst ∧ za_F2 (za_gV (za_σ E) ads) (st.take k).reverse As ∧ za_F2 (za_gV (za_σ E) ads) (st.drop k) rst :=
      ⟨(stk.take k).reverse, stk.drop k, by simp, za_F2_rev (za_F2_split k h3).1, (za_F2_split k h3).2⟩
    subst e9
    have hsz : ls.size = za_nL M := by
      obtain ⟨lc, l9, -⟩ := h4
      exact l9.1
    have hB := za_Bl_S h0 h6
    have hnx : nx = true → za_nox xs = true := by
      intro hn
      rw [hn] at g5
      exact g5
    have hrun := rule (H := H) (locs := locs) (cells := t.2.2.1) (slots := t.2.2.2) (ls := ls) (rst := rst) rfl ⟨by rw [hRc]; exact za_ble g3, by rw [hRs]; exact za_ble g4⟩ (IH j Y _ _ _ xs ads hj hc) hnx (fun U hU hWU => ⟨As, rfl, s1, h2, by rw [hU]; exact h5, State.WarmedH.trans hW hWU, by rw [hU]; exact hB⟩) s1 h5 (za_ble g1) hsz (by rw [za_wt_ok s2]; exact za_ble g2)
    exact zs_aft hx hb hown hlocks h0 htab (zk_zh K hW _) hdec (za_ble g3) (za_ble g4) hrun h hk ho h1 s2 h4 h6
theorem zl_rev {α : Type} {st : List α} {k : Nat} {v : α} (h : st[k]? = some v) : (st.take (k + 1)).reverse = v :: (st.take k).reverse := by
  rw [List.take_succ, h]
  simp
theorem zl_rf {k : Nat} (h : za_isRf st k = true) : ∃ q, st[k]? = some (.inr (.inr (some (q + 1)))) := by
  unfold za_isRf at h
  split at h
  · rename_i q hq; exact ⟨q, hq⟩
  · cases h
theorem zl_rk {k own : Nat} {hp : List za_O} (h : za_isRk st k hp own = true) : ∃ q fs, st[k]? = some (.inr (.inr (some (q + 1)))) ∧ hp[q]? = some (.inl (own, fs)) := by
  unfold za_isRk at h
  split at h
  · rename_i q hq
    split at h
    · rename_i ci fs h9
      have h := za_beq h
      subst h
      exact ⟨q, fs, hq, h9⟩
    · cases h
  · cases h
theorem zl_len {k n : Nat} {ads : List Nat} {As : List Value} (hA : za_F2 (za_gV (za_σ E) ads) (st.take k).reverse As) (hk : k ≤ st.length) : As.length = k := by
  rw [← za_F2_len hA]
  simp only [List.length_reverse, List.length_take]
  omega
theorem zg_virt {k : Nat} (X : za_Cx p l R s m args meth c E L s0 d M) (IH : za_IH l E s0 d call) (hdg : decode M.2.1 pc = .ok (.invokevirtual k, 3)) (h : za_virt M (za_CP (za_cl M)) za_MT call (za_CP (za_cl M) k) pc lv st t = some Z) (hk : ∀ S ∈ Z.1, za_G p l e R s m args below meth c (vx_MQ below (za_Qc E ads0 outs) (za_XC E ads0 outs) args s (za_mc M) (za_ms M) (za_A E)) E (za_nL M) ads0 S) (ho : ∀ x ∈ Z.2, x ∈ outs) : za_G p l e R s m args below meth c (vx_MQ below (za_Qc E ads0 outs) (za_XC E ads0 outs) args s (za_mc M) (za_ms M) (za_A E)) E (za_nL M) ads0 (pc, lv, st, t) := by
  have hfix := zj_fix X
  obtain ⟨-, -, -, -, -, -, -, -, K, hW, -⟩ := id X
  have hK := zk_K K hW
  have recv : ∀ {j n : Nat} {z : Int} {Y : za_MI}, za_isRk st n t.1 (za_cl Y) = true → (vwCl[za_cl Y]?).map (fun q => q.1) = some Y.1.cls → ∀ {ads : List Nat} {As : List Value} {H : Heap}, za_F2 (za_gV (za_σ E) ads) (st.take (n + 1)).reverse As → za_Wd E ads t.1 H → n + 1 ≤ st.length → ∃ b Bs, As = .ref b :: Bs ∧ Bs.length = n ∧ ∃ cellB : Cell, H[b]? = some cellB ∧ cellB.vm.isStatics = false ∧ s.vm.findClass Y.1.cls = some cellB.cls := by
    intro j n z Y hrk hcl ads As H hA hw hle
    obtain ⟨q, fs, e1, e2⟩ := zl_rk hrk
    rw [zl_rev e1] at hA
    obtain ⟨_, Bs, rfl, ⟨b, rfl, hb⟩, hB⟩ := za_F2_cons hA
    obtain ⟨ws, x, f1, f2, f3, f4, f5, f6⟩ := za_obj hw hb e2
    obtain ⟨vs, rfl, -⟩ := za_gO_o f6
    refine ⟨b, Bs, rfl, zl_len (n := n) hB (by omega), ?_⟩
    cases hq : vwCl[za_cl Y]? with
    | none => rw [hq] at hcl; cases hcl
    | some q9 =>
      rw [hq] at hcl
      have hcl : q9.1 = Y.1.cls := Option.some.inj hcl
      rw [← hcl]
      exact va_recv hK f3 hq f5
  unfold za_virt at h
  split at h
  · rename_i j n z hrow
    obtain ⟨w1, w2⟩ := zc_row hrow
    split at h
    · rename_i Y hj
      obtain ⟨hrk, h⟩ := za_bif h
      have hs := zb_Y (show za_sY j _ = true from w2) hj
      simp only [Bool.and_eq_true, decide_eq_true_eq] at hs
      obtain ⟨⟨s1, s2⟩, s3⟩ := hs
      have l1 := zk_w K hW (a9 := args) _ (w1 (Cond.methodLink (za_ow (za_cl M)) k Y.1) (by simp [za_need, za_wY, hj]))
      have l2 := zk_w K hW (a9 := args) _ (w1 (Cond.instanceMethod Y.1) (by simp [za_need, za_wY, hj]))
      have l3 := zk_w K hW (a9 := args) _ (w1 (Cond.selects Y.1.cls Y.1 Y.1) (by simp [za_need, za_wY, hj]))
      refine zs_inv X IH hj ?_ h hk ho
      intro H locs cells slots ls as As rst xs ads has hf hM hnx hPc hA hw hle hsz h8
      subst has
      obtain ⟨b, Bs, rfl, hlen, hcell⟩ := recv (j := j) (z := z) hrk s2 hA hw hle
      exact vx_runV hfix hM ⟨zj_CB X hj s3 s1 l1, l2, l3⟩ ⟨za_Pc_blind, hcell, hPc⟩ rfl hlen hsz (by show (Value.ref b :: Bs).reverse ++ rst = _; simp) (by show 2 * 0 + _ ≤ 8; omega) hdg hf
    · cases h
  · rename_i j n z hrow
    obtain ⟨w1, w2⟩ := zc_row hrow
    split at h
    · rename_i Y hj
      obtain ⟨hrk, h⟩ := za_bif h
      have hs := zb_Y (show za_sY j _ = true from w2) hj
      simp only [Bool.and_eq_true, decide_eq_true_eq] at hs
      obtain ⟨⟨s1, s2⟩, s3⟩ := hs
      have l1 := va_Nw.use (A := args) rfl (((K.2.2.2.1 _ (zc_nest hrow (Cond.methodLinkNest (za_ow (za_cl M)) k Y.1 RX11) (by simp [za_nneed, za_wY, hj])))).warmM hW)
      have l2 := zk_w K hW (a9 := args) _ (w1 (Cond.instanceMethod Y.1) (by simp [za_need, za_wY, hj]))
      have l3 := zk_w K hW (a9 := args) _ (w1 (Cond.selects Y.1.cls Y.1 Y.1) (by simp [za_need, za_wY, hj]))
      refine zs_inv X IH hj ?_ h hk ho
      intro H locs cells slots ls as As rst xs ads has hf hM hnx hPc hA hw hle hsz h8
      subst has
      obtain ⟨b, Bs, rfl, hlen, hcell⟩ := recv (j := j) (z := z) hrk s2 hA hw hle
      exact zr_of (va_runVN hfix (zo_met hM (hnx rfl)) ⟨zj_CN X hj s3 s1 l1, l2, l3⟩ ⟨za_Pc_blind, hcell, hPc⟩ rfl hlen hsz (by show (Value.ref b :: Bs).reverse ++ rst = _; simp) (by show 2 * 0 + _ ≤ 8; omega) hdg hf)
    · cases h
  · cases h
theorem zg_stat {k : Nat} (X : za_Cx p l R s m args meth c E L s0 d M) (IH : za_IH l E s0 d call) (hdg : decode M.2.1 pc = .ok (.invokestatic k, 3)) (h : za_stat M (za_CP (za_cl M)) za_MT call (za_CP (za_cl M) k) pc lv st t = some Z) (hk : ∀ S ∈ Z.1, za_G p l e R s m args below meth c (vx_MQ below (za_Qc E ads0 outs) (za_XC E ads0 outs) args s (za_mc M) (za_ms M) (za_A E)) E (za_nL M) ads0 S) (ho : ∀ x ∈ Z.2, x ∈ outs) : za_G p l e R s m args below meth c (vx_MQ below (za_Qc E ads0 outs) (za_XC E ads0 outs) args s (za_mc M) (za_ms M) (za_A E)) E (za_nL M) ads0 (pc, lv, st, t) := by
  have hfix := zj_fix X
  obtain ⟨-, -, -, -, -, -, -, -, K, hW, -⟩ := id X
  unfold za_stat at h
  split at h
  · rename_i j n z hrow
    obtain ⟨w1, w2⟩ := zc_row hrow
    split at h
    · rename_i Y hj
      have s1 := zb_Y (show za_sY j _ = true from w2) hj
      have l1 := zk_w K hW (a9 := args) _ (w1 (Cond.methodLink (za_ow (za_cl M)) k Y.1) (by simp [za_need, za_wY, hj]))
      have l2 := zk_w K hW (a9 := args) _ (w1 (Cond.static Y.1) (by simp [za_need, za_wY, hj]))
      refine zs_inv X IH hj ?_ h hk ho
      intro H locs cells slots ls as As rst xs ads has hf hM hnx hPc hA hw hle hsz h8
      subst has
      by_cases hh : za_hh Y = []
      · exact vx_runS hfix hM ⟨zj_CB X hj hh s1 l1, l2⟩ ⟨za_Pc_blind, hPc⟩ rfl (zl_len (n := n) hA hle) hsz rfl (by show 2 * 0 + _ ≤ 8; omega) hdg hf
      · exact vx_runSX hfix hM (zj_CSW X hj hh s1 l1 l2) ⟨za_Pc_blind, hPc⟩ rfl (zl_len (n := n) hA hle) hsz rfl (by show 2 * 0 + _ ≤ 8; omega) hdg hf
    · cases h
  · rename_i j n z hrow
    obtain ⟨w1, w2⟩ := zc_row hrow
    split at h
    · rename_i Y hj
      have hs := zb_Y (show za_sY j _ = true from w2) hj
      simp only [Bool.and_eq_true, decide_eq_true_eq] at hs
      obtain ⟨s1, s3⟩ := hs
      have l1 := va_Nw.use (A := args) rfl (((K.2.2.2.1 _ (zc_nest hrow (Cond.methodLinkNest (za_ow (za_cl M)) k Y.1 RX11) (by simp [za_nneed, za_wY, hj])))).warmM hW)
      have l2 := zk_w K hW (a9 := args) _ (w1 (Cond.static Y.1) (by simp [za_need, za_wY, hj]))
      refine zs_inv X IH hj ?_ h hk ho
      intro H locs cells slots ls as As rst xs ads has hf hM hnx hPc hA hw hle hsz h8
      subst has
      exact zr_of (va_runSN hfix (zo_met hM (hnx rfl)) ⟨zj_CN X hj s3 s1 l1, l2, trivial⟩ ⟨za_Pc_blind, hPc⟩ rfl (zl_len (n := n) hA hle) hsz rfl (by show 2 * 0 + _ ≤ 8; omega) hdg hf)
    · cases h
  · rename_i j n z hrow
    exact zg_acp X hrow hdg h hk
  · cases h
theorem zg_spec {k : Nat} (X : za_Cx p l R s m args meth c E L s0 d M) (IH : za_IH l E s0 d call) (hdg : decode M.2.1 pc = .ok (.invokespecial k, 3)) (h : za_spec M (za_CP (za_cl M)) za_MT call (za_CP (za_cl M) k) pc lv st t = some Z) (hk : ∀ S ∈ Z.1, za_G p l e R s m args below meth c (vx_MQ below (za_Qc E ads0 outs) (za_XC E ads0 outs) args s (za_mc M) (za_ms M) (za_A E)) E (za_nL M) ads0 S) (ho : ∀ x ∈ Z.2, x ∈ outs) : za_G p l e R s m args below meth c (vx_MQ below (za_Qc E ads0 outs) (za_XC E ads0 outs) args s (za_mc M) (za_ms M) (za_A E)) E (za_nL M) ads0 (pc, lv, st, t) := by
  have hfix := zj_fix X
  obtain ⟨hx, hb, hml, -, -, -, hown, -, K, hW, -, -, hRf, hRl, -⟩ := id X
  have recv : ∀ {n : Nat}, za_isRf st n = true → ∀ {ads : List Nat} {As : List Value}, za_F2 (za_gV (za_σ E) ads) (st.take (n + 1)).reverse As → n + 1 ≤ st.length → ∃ b Bs, As = .ref b :: Bs ∧ Bs.length = n := by
    intro n hrf ads As hA hle
    obtain ⟨q, e1⟩ := zl_rf hrf
    rw [zl_rev e1] at hA
    obtain ⟨_, Bs, rfl, ⟨b, rfl, hb⟩, hB⟩ := za_F2_cons hA
    exact ⟨b, Bs, rfl, zl_len (n := n) hB (by omega)⟩
  unfold za_spec at h
  split at h
  · rename_i j n z hrow
    obtain ⟨w1, w2⟩ := zc_row hrow
    split at h
    · rename_i Y hj
      obtain ⟨hrk, h⟩ := za_bif h
      have hs := zb_Y (show za_sY j _ = true from w2) hj
      simp only [Bool.and_eq_true, decide_eq_true_eq] at hs
      obtain ⟨⟨⟨s1, s2⟩, s3⟩, s4⟩ := hs
      have l1 := zk_w K hW (a9 := args) _ (w1 (Cond.methodLink (za_ow (za_cl M)) k Y.1) (by simp [za_need, za_wY, hj]))
      have l2 := zk_w K hW (a9 := args) _ (w1 (Cond.instanceMethod Y.1) (by simp [za_need, za_wY, hj]))
      refine zs_inv X IH hj ?_ h hk ho
      intro H locs cells slots ls as As rst xs ads has hf hM hnx hPc hA hw hle hsz h8
      subst has
      obtain ⟨b, Bs, rfl, hlen⟩ := recv hrk hA hle
      have hcb := zj_CB X hj s4 s1 l1
      rw [s3] at hcb
      exact zr_of (va_runI hfix (zo_met hM (hnx rfl)) ⟨hcb, s2, l2⟩ ⟨za_Pc_blind, hPc⟩ rfl hlen hsz (by show (Value.ref b :: Bs).reverse ++ rst = _; simp) (by show 2 * 0 + _ ≤ 8; omega) hdg hf)
    · cases h
  · rename_i j n z hrow
    obtain ⟨w1, w2⟩ := zc_row hrow
    split at h
    · rename_i Y hj
      obtain ⟨hrk, h⟩ := za_bif h
      have hs := zb_Y (show za_sY j _ = true from w2) hj
      simp only [Bool.and_eq_true, decide_eq_true_eq] at hs
      obtain ⟨⟨⟨s1, s2⟩, s3⟩, s4⟩ := hs
      have l1 := va_Nw.use (A := args) rfl (((K.2.2.2.1 _ (zc_nest hrow (Cond.methodLinkNest (za_ow (za_cl M)) k Y.1 RX11) (by simp [za_nneed, za_wY, hj])))).warmM hW)
      have l2 := zk_w K hW (a9 := args) _ (w1 (Cond.instanceMethod Y.1) (by simp [za_need, za_wY, hj]))
      refine zs_inv X IH hj ?_ h hk ho
      intro H locs cells slots ls as As rst xs ads has hf hM hnx hPc hA hw hle hsz h8
      subst has
      obtain ⟨b, Bs, rfl, hlen⟩ := recv hrk hA hle
      have hcb := zj_CN X hj s4 s1 l1
      rw [s3] at hcb
      exact zr_of (va_runIN hfix (zo_met hM (hnx rfl)) ⟨hcb, s2, l2⟩ ⟨za_Pc_blind, hPc⟩ rfl hlen hsz (by show (Value.ref b :: Bs).reverse ++ rst = _; simp) (by show 2 * 0 + _ ≤ 8; omega) hdg hf)
    · cases h
  · rename_i j n z hrow
    obtain ⟨w1, -⟩ := zc_row hrow
    split at h
    · rename_i q rest
      obtain ⟨g1, h⟩ := za_bif h
      intro ads H locs ls stk Mm
      obtain ⟨h1, h2, h3, h4, h5, h6⟩ := Mm
      obtain ⟨_, stk1, rfl, ⟨a, rfl, ha⟩, q1⟩ := za_F2_cons h3
      have l1 := zk_w K hW (a9 := args) _ (w1 (Cond.methodLink (za_ow (za_cl M)) k objectInit) (by simp [za_need]))
      have l2 := zk_w K hW (a9 := args) _ (w1 (Cond.instanceMethod objectInit) (by simp [za_need]))
      have l3 := zk_w K hW (a9 := args) _ (w1 (Cond.code objectInit ⟨#[0xb1]⟩ 1 none) (by simp [za_need]))
      have hsz : ls.size = c.maxLocals := by
        obtain ⟨lc, l9, -⟩ := h4
        exact l9.1.trans hml.symm
      have hw9 := za_wt_ok q1
      have g1 := za_ble g1
      exact W.objInit hx hb hown l1 l2 l3 (g := F0 m pc ls (.ref a :: stk1)) rfl hsz rfl hdg (by omega) (by show 2 * 0 + _ + 12 ≤ R.locals; omega) (zs_go h hk ads H locs ls stk1 ⟨h1, h2, q1, h4, h5, h6⟩)
    · cases h
  · cases h
end ZI
end
