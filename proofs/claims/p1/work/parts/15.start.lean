/-! ===== the law's start ===== -/
def zy_tx : List (Nat × String) := [(112, "the tape has not so many bytes"), (176, "no such count"), (187, "no such cell"), (212, "no such mark"), (268, "no such number of marks"), (286, "no such slates"), (308, "no such slate was studied"), (313, "no such reach"), (345, "both are one slate"), (363, "no such slate"), (365, "no such pilot"), (367, "no such what")]
theorem zy_k : za_sk = zy_tx.map (·.1) := rfl
theorem zy_t : ∀ q ∈ zy_tx, Cond.stringRef RX11 q.1 q.2 ∈ lw_tbl := by decide +kernel
theorem zy_e : ∀ q ∈ zy_tx, Cond.exactly (.string RX11 q.1) "java/lang/String" ∈ flatC (Jvm.Cond.and given_1 narrow_1) := by decide +kernel
theorem zy_i : vwCl.all (fun q => decide (Cond.instantiable q.1 q.2.2 ∈ lw_tbl)) = true := by decide +kernel
theorem zy_l1 : Cond.laysStatic Bundle.tN "UNASSIGNED_STACK" Bundle.steD ∈ lw_tbl := by decide +kernel
theorem zy_l2 : Cond.laysStatic Bundle.tN "SUPPRESSED_SENTINEL" Bundle.listD ∈ lw_tbl := by decide +kernel
theorem zy_l3 : Cond.initialized Bundle.tN ∈ lw_tbl := by decide +kernel
theorem zy_r1 : Cond.isRef (.static Bundle.tN "UNASSIGNED_STACK" Bundle.steD) ∈ flatC (Jvm.Cond.and given_1 narrow_1) := by decide +kernel
theorem zy_r2 : Cond.isRef (.static Bundle.tN "SUPPRESSED_SENTINEL" Bundle.listD) ∈ flatC (Jvm.Cond.and given_1 narrow_1) := by decide +kernel
theorem zy_n1 : Cond.not (.castable (za_exn 0) (za_exn 1)) ∈ flatC (Jvm.Cond.and given_1 narrow_1) := by decide +kernel
theorem zy_n2 : Cond.not (.castable (za_exn 1) (za_exn 0)) ∈ flatC (Jvm.Cond.and given_1 narrow_1) := by decide +kernel
theorem zy_c0 : Cond.castable (za_exn 0) (za_exn 0) ∈ lw_tbl := by decide +kernel
theorem zy_c1 : Cond.castable (za_exn 1) (za_exn 1) ∈ lw_tbl := by decide +kernel
theorem zy_D {args : Array Value} {s : State} (hts : ∀ w ∈ lw_tbl, w.before args s = true) : ∃ D : va_G, ∀ (c : Nat) (q : vw_C), vwCl[c]? = some q → u_Kn s q.1 q.2.1 q.2.2 (D.1 c) (D.2 c) := by
  have h : ∀ c : Nat, ∃ z : ClassId × (Nat → Nat), ∀ q : vw_C, vwCl[c]? = some q → u_Kn s q.1 q.2.1 q.2.2 z.1 z.2 := by
    intro c
    cases hq : vwCl[c]? with
    | none => exact ⟨(0, fun _ => 0), fun q h => by cases h⟩
    | some q =>
      have hi := of_decide_eq_true (List.all_eq_true.mp zy_i q (List.mem_of_getElem? hq))
      obtain ⟨cC, iS, hk⟩ := u_known hts (fun w hw => (List.mem_filter.mp ((zc_cls hq).1 w hw)).1) (hts _ hi)
      exact ⟨(cC, iS), fun q' h' => by cases h'; exact hk⟩
  exact ⟨(fun c => (h c).choose.1, fun c => (h c).choose.2), fun c q hq => (h c).choose_spec q hq⟩
theorem zy_K0 {l : Launch} {s : State} {b L : Nat} {xs : Nat → Int32} (hl : l.stackTraces = false) (hts : ∀ w ∈ lw_tbl, w.before #[Value.ref b] s = true) (hX : va_X b L xs s s.heap) (hb : b < s.heap.size) (hgv : (Jvm.Cond.and given_1 narrow_1).before #[Value.ref b] s = true) : ∃ E : za_E, za_σ E = xs ∧ za_b E = b ∧ za_H0 E = s.heap ∧ za_K0 l E L s := by
  have hs := flat_of_before _ hgv
  obtain ⟨D, hD⟩ := zy_D hts
  have hwd : ∀ w ∈ za_wd, w.before #[Value.ref b] s = true := fun w hw => hts w (List.mem_filter.mp hw).1
  obtain ⟨cI, kI, oI, i1, i2, i3⟩ := Cond.arrayClass_spec (show (Cond.arrayClass .int).holds #[Value.ref b] s none s [] = true from hwd _ zx_arI)
  obtain ⟨cB, kB, oB, b1, b2, b3⟩ := Cond.arrayClass_spec (show (Cond.arrayClass .byte).holds #[Value.ref b] s none s [] = true from hwd _ zx_arB)
  obtain ⟨cZ, kZ, oZ, z1, z2, z3⟩ := Cond.arrayClass_spec (show (Cond.arrayClass .boolean).holds #[Value.ref b] s none s [] = true from hwd _ zx_arZ)
  obtain ⟨cJ, kJ, oJ, j1, j2, j3⟩ := Cond.arrayClass_spec (show (Cond.arrayClass .long).holds #[Value.ref b] s none s [] = true from hwd _ zx_arJ)
  have hA : ∀ a : Nat, a < s.heap.size → ¬ (s.heap.size ≤ a) := fun a h => Nat.not_le.mpr h
  refine ⟨(xs, b, D, (cI, cB, cZ, cJ), s.heap), rfl, rfl, rfl, hl, rfl, ?_, ?_, ⟨hD, ?_⟩, hX, hb, ?_, ?_, ?_, ?_, ?_⟩
  · intro w hw
    exact word_at (State.WarmedH.refl s) (good_of_word (List.mem_filter.mp hw).2) (hwd w hw)
  · intro w hw
    exact va_Nw.of (zn_on (List.mem_filter.mp hw).2) (hts w (List.mem_filter.mp hw).1)
  · intro k q hk
    match k, hk with
    | 0, hk => cases hk; exact ⟨fun n z => ⟨fun k h => (by cases h), kI, i2, oI, i3⟩, i1⟩
    | 1, hk => cases hk; exact ⟨fun n z => ⟨fun k h => (by cases h), kB, b2, oB, b3⟩, b1⟩
    | 2, hk => cases hk; exact ⟨fun n z => ⟨fun k h => (by cases h), kZ, z2, oZ, z3⟩, z1⟩
    | 3, hk => cases hk; exact ⟨fun n z => ⟨fun k h => (by cases h), kJ, j2, oJ, j3⟩, j1⟩
    | _ + 4, hk => cases hk
  · exact vx_Zqof (hts _ zy_l1) (hts _ zy_l3) (hs _ zy_r1) hA
  · exact vx_Zqof (hts _ zy_l2) (hts _ zy_l3) (hs _ zy_r2) hA
  · intro ex hex
    match ex, hex with
    | 0, _ => exact va_Nw.of rfl (hts _ zy_c0)
    | 1, _ => exact va_Nw.of rfl (hts _ zy_c1)
    | _ + 2, hex => omega
  · intro ex ex' h1 h2 h3
    match ex, ex', h1, h2, h3 with
    | 0, 1, _, _, _ => exact va_Nc.of (hs _ zy_n1)
    | 1, 0, _, _, _ => exact va_Nc.of (hs _ zy_n2)
    | 0, 0, _, _, h3 => exact absurd rfl h3
    | 1, 1, _, _, h3 => exact absurd rfl h3
    | _ + 2, _, h1, _, _ => omega
    | _, _ + 2, _, h2, _ => omega
  · intro k hk
    rw [zy_k] at hk
    obtain ⟨q, hq, rfl⟩ := List.mem_map.mp hk
    obtain ⟨a, c, cA, kA, q1, -⟩ := Cond.exactly_spec (args := #[Value.ref b]) (first := s) (o := none) (s := s) (idx := []) (t := .string RX11 q.1) (cls := "java/lang/String") (hs _ (zy_e q hq))
    exact ⟨q.2, a, vk_R.of (A := #[Value.ref b]) (hts _ (zy_t q hq)) q1⟩
/-! the law's own walk -/
def zw_At (p : Program) (s : State) (m : MethodId) (meth : Method) (c : Code) (b L : Nat) (xs : Nat → Int32) : Prop :=
  p.tables.exec = Jvm.exec ∧ c.code = code ∧ meth.sig.returnType = ret ∧ c.maxLocals = 8 ∧ s.vm.findClass RL = some m.cls ∧ (∀ w ∈ lw_tbl, w.before #[Value.ref b] s = true) ∧ va_X b L xs s s.heap ∧ b < s.heap.size ∧ meth.locks = false ∧ (Jvm.Cond.and given_1 narrow_1).before #[Value.ref b] s = true ∧ meth.name = yL_law.name ∧ c.exceptionTable.toList = tableOf []
def zw_Q (_ : Array Value) (s : State) (o : Outcome) (t : State) : Prop := o = .returned (some (.int 1)) ∧ Framed s o t [] 600002 7302231
def zw_Z (below : List Frame) (a : Array Value) (s : State) : State → Prop := fun t => ∃ o, t.status = .running ∧ Ended t below o ∧ zw_Q a s o t
theorem zw_fin {outs : List za_X} (h : outs.all za_fin1 = true) {v : Option za_V} {hp : List za_O} {ρ : za_R} (hm : ((.inl v, hp, ρ) : za_X) ∈ outs) : ∃ a, v = some (.inl a) ∧ za_k ρ a = some 1 := by
  have h9 := List.all_eq_true.mp h _ hm
  unfold za_fin1 at h9
  split at h9
  · rename_i a9 b9 ρ9 heq
    split at h9
    · rename_i c9 hc9
      have h8 := za_ieq_t h9
      subst h8
      cases heq
      exact ⟨a9, rfl, hc9⟩
    · cases h9
  · cases h9
theorem zw_nox {outs : List za_X} (h : outs.all za_fin1 = true) {ex : Nat} {hp : List za_O} {ρ : za_R} : ((.inr ex, hp, ρ) : za_X) ∉ outs := by
  intro hm
  have h9 := List.all_eq_true.mp h _ hm
  cases h9
