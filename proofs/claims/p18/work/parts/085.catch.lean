/-! ===== an exception that a method of the law catches: its table searched, its class linked on the way ===== -/
section ZX
variable {p : Program} {l : Launch} {e : Env} {R : Room} {s : State} {m : MethodId} {args : Array Value} {below : List Frame} {meth : Method} {c : Code} {Q : State → Prop} {locs : List Loc} {cells slots : Nat}
theorem zh_row {Q9 : Handler → Pre} {E9 : CtlPost} {d9 : Bool} {acts : List Action} {S : State} {f : JFrame} {a : Addr} {x : ExceptionTableEntry} {t : List ExceptionTableEntry} {k : ClassId} {cell : Cell} (hx : covers x f.pc = true) (h0 : x.catchType ≠ 0)
    (hl : S.vm.ClassLinks e.platform f.method.cls x.catchType k) (hcell : S.heap[a]? = some cell) (hobj : ∀ z, cell.vm ≠ .statics z) (hk : ∃ z, S.vm.classes[cell.cls]? = some z) (hc : ∃ z, S.vm.classes[k]? = some z) :
    wp (findHandler.go f a (x :: t)) Q9 E9 e d9 acts S ↔ if S.vm.assignable cell.cls k = true then Q9 (.found x.handlerPc) d9 acts (S.setVm (S.vm.noted f.method.cls x.catchType (.cls k))) else wp (findHandler.go f a t) Q9 E9 e d9 acts (S.setVm (S.vm.noted f.method.cls x.catchType (.cls k))) := by
  simp only [covers] at hx
  obtain ⟨ha, ht⟩ := (resolveClass_links e.toSetting hl).op (op := VmOp.resolveClass f.method.cls x.catchType) rfl
  have hal : S.vm.Alike (S.vm.noted f.method.cls x.catchType (.cls k)) := (Vm.Alike.refl S.vm).noted _ _ _
  obtain ⟨k1, hk1⟩ := hk
  obtain ⟨k2, hk2⟩ := hc
  obtain ⟨k1', hk1', -⟩ := hal.2.2 _ _ hk1
  obtain ⟨k2', hk2', -⟩ := hal.2.2 _ _ hk2
  cases hb : S.vm.assignable cell.cls k with
  | true =>
    have hb' : (S.vm.noted f.method.cls x.catchType (.cls k)).assignable cell.cls k = true := by rw [hal.assignable]; exact hb
    simp [findHandler.go, hx, h0, ha, ht, hcell, hobj, hk1', hk2', hb', VmOp.dirties, VmOp.acts]
  | false =>
    have hb' : (S.vm.noted f.method.cls x.catchType (.cls k)).assignable cell.cls k = false := by rw [hal.assignable]; exact hb
    simp [findHandler.go, hx, h0, ha, ht, hcell, hobj, hk1', hk2', hb', VmOp.dirties, VmOp.acts]
/-- the words of the catching method's class: each catch type links to its exception; which exception is of which class -/
def zh_ok (s : State) (args : Array Value) (own : String) (cp : Nat → Option za_row) : Prop :=
  (∀ (ct ex a : Nat) (z : Int), cp ct = some (6, ex, a, z) → ex < 2 ∧ (Cond.classLink own ct (za_exn ex)).before args s = true) ∧ (∀ ex, ex < 2 → ∀ k, s.vm.findClass (za_exn ex) = some k → s.vm.assignable k k = true) ∧ ∀ ex ex', ex < 2 → ex' < 2 → ex' ≠ ex → va_Nc (za_exn ex) (za_exn ex') s
theorem zh_go {own : String} {cp : Nat → Option za_row} {f : JFrame} {a : Addr} {cell : Cell} {ex : Nat} (hpl : e.platform.magicAccessors = ({} : Platform).magicAccessors) (hown : s.vm.findClass own = some f.method.cls) (hk : zh_ok s args own cp) (hex : ex < 2) (hcl : s.vm.findClass (za_exn ex) = some cell.cls) (hobj : ∀ z, cell.vm ≠ .statics z) :
    ∀ (hh : List (Nat × Nat × Nat × Nat)) (hp : Nat) (S : State), za_hnd cp f.pc ex hh = some (some hp) → s.WarmedH S.vm → S.heap[a]? = some cell →
      ∃ vm', s.WarmedH vm' ∧ ∀ (Q9 : Handler → Pre) (E9 : CtlPost) (d9 : Bool) (acts : List Action), wp (findHandler.go f a (tableOf hh)) Q9 E9 e d9 acts S ↔ Q9 (.found hp) d9 acts (S.setVm vm')
  | [], hp, S, h, _, _ => by cases h
  | (a1, b1, h1, ct) :: hh, hp, S, h, hW, hcell => by
    have htab : tableOf ((a1, b1, h1, ct) :: hh) = ⟨a1, b1, h1, ct⟩ :: tableOf hh := rfl
    unfold za_hnd at h
    by_cases hcov : a1 ≤ f.pc ∧ f.pc < b1
    · have e1 : Nat.ble a1 f.pc = true := Nat.ble_eq.mpr hcov.1
      have e2 : Nat.blt f.pc b1 = true := Nat.ble_eq.mpr hcov.2
      simp only [e1, e2, cond_true] at h
      have hx : covers ⟨a1, b1, h1, ct⟩ f.pc = true := by simp [covers, hcov.1, hcov.2]
      split at h
      · rename_i ex' _ _ hct
        obtain ⟨h0, h⟩ := za_bifn h
        have h0 : ct ≠ 0 := fun z => by rw [z] at h0; cases h0
        obtain ⟨hex', hlink⟩ := hk.1 _ _ _ _ hct
        obtain ⟨k2, hk2, hlk⟩ := Cond.classLink_spec hown hlink e.platform hpl
        obtain ⟨dk, _, _, kt, hd, _, _, _, _, hkt, _, hopen⟩ := hlk.here
        obtain ⟨kt', hkt', -⟩ := hW.alike.2.2 _ _ hkt
        obtain ⟨k0, hk0, -⟩ := Vm.findClass_spec hcl
        obtain ⟨k0', hk0', -⟩ := hW.alike.2.2 _ _ hk0
        have hW' : s.WarmedH (S.vm.noted f.method.cls ct (.cls k2)) := hW.noted hd hopen (State.rightAt_cls hlk)
        cases hb : Nat.beq ex' ex with
        | true =>
          have hee := za_beq hb
          subst hee
          simp only [hb, cond_true, Option.some.injEq] at h
          subst h
          have hsame : k2 = cell.cls := Option.some.inj (hk2.symm.trans hcl)
          subst hsame
          refine ⟨_, hW', fun Q9 E9 d9 acts => ?_⟩
          rw [htab, zh_row (x := ⟨a1, b1, h1, ct⟩) hx h0 (hW.classLinks hlk) hcell hobj ⟨k0', hk0'⟩ ⟨kt', hkt'⟩, if_pos (by rw [hW.alike.assignable]; exact hk.2.1 _ hex _ hcl)]
        | false =>
          simp only [hb, cond_false] at h
          have hne : ex' ≠ ex := fun z => by rw [z] at hb; simp at hb
          split at h
          · rename_i hp' hrec
            simp only [Option.some.injEq] at h
            subst h
            obtain ⟨c8, t8, n1, n2, n3⟩ := hk.2.2 ex ex' hex hex' hne
            have e3 : c8 = cell.cls := Option.some.inj (n1.symm.trans hcl)
            have e4 : t8 = k2 := Option.some.inj (n2.symm.trans hk2)
            subst e3; subst e4
            obtain ⟨vm', w1, w2⟩ := zh_go hpl hown hk hex hcl hobj hh hp' (S.setVm (S.vm.noted f.method.cls ct (.cls t8))) hrec hW' hcell
            refine ⟨vm', w1, fun Q9 E9 d9 acts => ?_⟩
            rw [htab, zh_row (x := ⟨a1, b1, h1, ct⟩) hx h0 (hW.classLinks hlk) hcell hobj ⟨k0', hk0'⟩ ⟨kt', hkt'⟩, if_neg (by rw [hW.alike.assignable, n3]; decide)]
            exact w2 Q9 E9 d9 acts
          · cases h
      · cases h
    · have hx : covers ⟨a1, b1, h1, ct⟩ f.pc = false := by
        simp only [covers, Bool.and_eq_false_iff, decide_eq_false_iff_not]
        by_cases z : a1 ≤ f.pc
        · exact Or.inr (fun w => hcov ⟨z, w⟩)
        · exact Or.inl z
      have h : za_hnd cp f.pc ex hh = some (some hp) := by
        cases e1 : Nat.ble a1 f.pc with
        | false => simp only [e1, cond_false] at h; exact h
        | true =>
          cases e2 : Nat.blt f.pc b1 with
          | false => simp only [e1, e2, cond_true, cond_false] at h; exact h
          | true => exact absurd ⟨za_ble e1, za_blt e2⟩ hcov
      obtain ⟨vm', w1, w2⟩ := zh_go hpl hown hk hex hcl hobj hh hp S h hW hcell
      refine ⟨vm', w1, fun Q9 E9 d9 acts => ?_⟩
      rw [htab, _root_.Jvm.W.findHandler_go_skip hx]
      exact w2 Q9 E9 d9 acts
theorem zh_catch {own : String} {cp : Nat → Option za_row} {hh : List (Nat × Nat × Nat × Nat)} {ex hp q pc : Nat} {H : Heap} {ce : Cell} {ls : Array Slot} {rest : List Value} (hown : s.vm.findClass own = some m.cls) (htab : c.exceptionTable.toList = tableOf hh) (hk : zh_ok s args own cp) (hex : ex < 2) (hhnd : za_hnd cp pc ex hh = some (some hp))
    (hcell : H[q]? = some ce) (hv : ce.vm = .none) (hcl : s.vm.findClass (za_exn ex) = some ce.cls) (kk : W p l e R s m args below meth c H locs cells slots Q (F0 m hp ls [.ref q])) : vx_W p l e R s m args below meth c H locs cells slots Q (F0 m pc ls rest) q := by
  intro T hT X
  have hpl : e.platform.magicAccessors = ({} : Platform).magicAccessors := by rw [X.admits.platform]
  have hobj : ∀ z, ce.vm ≠ .statics z := fun z h => by rw [hv] at h; cases h
  obtain ⟨vm', hW', hfind⟩ := zh_go (e := e) (f := F0 m pc ls rest) (a := q) hpl hown hk hex hcl hobj hh hp ((T.setTop (F0 m pc ls rest)).pushFrame (.throwing q)) hhnd X.warmed (by show T.heap[q]? = some ce; rw [hT]; exact hcell)
  have hf : ∀ (Q9 : Handler → Pre) (E9 : CtlPost) (d9 : Bool) (acts : List Action), wp (findHandler (F0 m pc ls rest) q) Q9 E9 e d9 acts ((T.setTop (F0 m pc ls rest)).pushFrame (.throwing q)) ↔ Q9 (.found hp) d9 acts (((T.setTop (F0 m pc ls rest)).pushFrame (.throwing q)).setVm vm') := by
    intro Q9 E9 d9 acts
    rw [_root_.Jvm.W.findHandler_eq (f := F0 m pc ls rest) (s := (T.setTop (F0 m pc ls rest)).pushFrame (.throwing q)) (meth := meth) (code := c) X.method' X.code, htab]
    exact hfind Q9 E9 d9 acts
  have hstep : ∀ r : List Frame, (stepThrowing e ((T.setTop (F0 m pc ls rest)).pushFrame (.throwing q)) q (.java (F0 m pc ls rest) :: r)).1 = (((T.setTop (F0 m pc ls rest)).pushFrame (.throwing q)).setVm vm').setFrames (.java (F0 m hp ls [.ref q]) :: r) := by
    intro r
    simp only [stepThrowing, searchFrame, vmDo]
    generalize hr : Sem.go _ e false [] _ = res
    obtain ⟨as, rfl, ha⟩ := Sem.eq_ok_of hr (a := Handler.found hp) (s' := ((T.setTop (F0 m pc ls rest)).pushFrame (.throwing q)).setVm vm') (acts' := []) (by simp [hf _ _ _ _])
    rfl
  obtain ⟨t2, a1, b1⟩ := kk (T.setVm vm') hT (X.noted hW')
  refine ⟨t2, ?_, b1⟩
  have hA : At T (F0 m pc ls rest).method c below := X.here
  obtain ⟨hgo, hw⟩ := hA.throwing q
  refine Steps.head hgo hw ?_
  rw [stepThread_throwing (frames_entered hA.top _), hstep]
  obtain ⟨g₀, hg⟩ := Option.isSome_iff_exists.mp hA.top
  obtain ⟨r, hr⟩ := State.topJava?_eq_some.mp hg
  have hr' : (T.setVm vm').frames = .java g₀ :: r := hr
  rw [State.setTop_of_frames _ hr'] at a1
  have h9 : ∀ (u : State) (F G : List Frame), ((u.setFrames F).setVm vm').setFrames G = (u.setVm vm').setFrames G := by
    intro u F G
    show ((u.setVm vm').setFrames F).setFrames G = _
    rw [State.setFrames_setFrames]
  rw [hr, List.tail_cons, State.pushFrame, h9, State.setTop_of_frames _ hr, h9]
  exact a1
end ZX
