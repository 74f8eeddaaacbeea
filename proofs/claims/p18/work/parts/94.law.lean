/-! ===== the law's start ===== -/
def zy_tx : List (Nat × String) := [(112, "the tape has not so many bytes"), (176, "no such count"), (187, "no such cell"), (212, "no such mark"), (268, "no such number of marks"), (286, "no such slates"), (308, "no such slate was studied"), (313, "no such reach"), (345, "both are one slate"), (363, "no such slate"), (365, "no such pilot"), (367, "no such what")]
theorem zy_k : za_sk = zy_tx.map (·.1) := rfl
theorem zy_t : ∀ q ∈ zy_tx, Cond.stringRef RX11 q.1 q.2 ∈ lw_tbl := by decide +kernel
theorem zy_e : ∀ q ∈ zy_tx, Cond.exactly (.string RX11 q.1) "java/lang/String" ∈ flatC (Jvm.Cond.and given_1 narrow_1) := by decide +kernel
theorem zy_i : vwCl.all (fun q => decide (Cond.instantiable q.1 q.2.2 ∈ lw_tbl)) = true := by decide +kernel
theorem zy_l1 : Cond.laysStatic Bundle.tN "UNASSIGNED_STACK" Bundle.steD ∈ lw_tbl := by decide +kernel
theorem zy_l2 : Cond.laysStatic Bundle.tN "SUPPRESSED_SENTINEL" Bundle.listD ∈ lw_tbl := by decide +kernel
theorem zy_l3 : Cond.initialized Bundle.tN ∈ lw_tbl := by decide +kernel
theorem zy_r1 : Cond.isRef (.static Bundle.tN "UNASSIGNED_STACK" Bundle.steD) ∈ flatC (Jvm.Cond.and given_1 narrow_1) := by decide +kernel
theorem zy_r2 : Cond.isRef (.static Bundle.tN "SUPPRESSED_SENTINEL" Bundle.listD) ∈ flatC (Jvm.Cond.and given_1 narrow_1) := by decide +kernel
theorem zy_n1 : Cond.not (.castable (za_exn 0) (za_exn 1)) ∈ flatC (Jvm.Cond.and given_1 narrow_1) := by decide +kernel
theorem zy_n2 : Cond.not (.castable (za_exn 1) (za_exn 0)) ∈ flatC (Jvm.Cond.and given_1 narrow_1) := by decide +kernel
theorem zy_c0 : Cond.castable (za_exn 0) (za_exn 0) ∈ lw_tbl := by decide +kernel
theorem zy_c1 : Cond.castable (za_exn 1) (za_exn 1) ∈ lw_tbl := by decide +kernel
theorem zy_D {args : Array Value} {s : State} (hts : ∀ w ∈ lw_tbl, w.before args s = true) : ∃ D : va_G, ∀ (c : Nat) (q : vw_C), vwCl[c]? = some q → u_Kn s q.1 q.2.1 q.2.2 (D.1 c) (D.2 c) := by
  have h : ∀ c : Nat, ∃ z : ClassId × (Nat → Nat), ∀ q : vw_C, vwCl[c]? = some q → u_Kn s q.1 q.2.1 q.2.2 z.1 z.2 := by
    intro c
    cases hq : vwCl[c]? with
    | none => exact ⟨(0, fun _ => 0), fun q h => by cases h⟩
    | some q =>
      have hi := of_decide_eq_true (List.all_eq_true.mp zy_i q (List.mem_of_getElem? hq))
      obtain ⟨cC, iS, hk⟩ := u_known hts (fun w hw => (List.mem_filter.mp ((zc_cls hq).1 w hw)).1) (hts _ hi)
      exact ⟨(cC, iS), fun q' h' => by cases h'; exact hk⟩
  exact ⟨(fun c => (h c).choose.1, fun c => (h c).choose.2), fun c q hq => (h c).choose_spec q hq⟩
theorem zy_K0 {l : Launch} {s : State} {b L : Nat} {xs : Nat → Int32} (hl : l.stackTraces = false) (hts : ∀ w ∈ lw_tbl, w.before #[Value.ref b] s = true) (hX : va_X b L xs s s.heap) (hb : b < s.heap.size) (hgv : (Jvm.Cond.and given_1 narrow_1).before #[Value.ref b] s = true) : ∃ E : za_E, za_σ E = xs ∧ za_b E = b ∧ za_H0 E = s.heap ∧ za_K0 l E L s := by
  have hs := flat_of_before _ hgv
  obtain ⟨D, hD⟩ := zy_D hts
  have hwd : ∀ w ∈ za_wd, w.before #[Value.ref b] s = true := fun w hw => hts w (List.mem_filter.mp hw).1
  obtain ⟨cI, kI, oI, i1, i2, i3⟩ := Cond.arrayClass_spec (show (Cond.arrayClass .int).holds #[Value.ref b] s none s [] = true from hwd _ zx_arI)
  obtain ⟨cB, kB, oB, b1, b2, b3⟩ := Cond.arrayClass_spec (show (Cond.arrayClass .byte).holds #[Value.ref b] s none s [] = true from hwd _ zx_arB)
  obtain ⟨cZ, kZ, oZ, z1, z2, z3⟩ := Cond.arrayClass_spec (show (Cond.arrayClass .boolean).holds #[Value.ref b] s none s [] = true from hwd _ zx_arZ)
  obtain ⟨cJ, kJ, oJ, j1, j2, j3⟩ := Cond.arrayClass_spec (show (Cond.arrayClass .long).holds #[Value.ref b] s none s [] = true from hwd _ zx_arJ)
  have hA : ∀ a : Nat, a < s.heap.size → ¬ (s.heap.size ≤ a) := fun a h => Nat.not_le.mpr h
  refine ⟨(xs, b, D, (cI, cB, cZ, cJ), s.heap), rfl, rfl, rfl, hl, rfl, ?_, ?_, ⟨hD, ?_⟩, hX, hb, ?_, ?_, ?_, ?_, ?_⟩
  · intro w hw
    exact word_at (State.WarmedH.refl s) (good_of_word (List.mem_filter.mp hw).2) (hwd w hw)
  · intro w hw
    exact va_Nw.of (zn_on (List.mem_filter.mp hw).2) (hts w (List.mem_filter.mp hw).1)
  · intro k q hk
    match k, hk with
    | 0, hk => cases hk; exact ⟨fun n z => ⟨fun k h => (by cases h), kI, i2, oI, i3⟩, i1⟩
    | 1, hk => cases hk; exact ⟨fun n z => ⟨fun k h => (by cases h), kB, b2, oB, b3⟩, b1⟩
    | 2, hk => cases hk; exact ⟨fun n z => ⟨fun k h => (by cases h), kZ, z2, oZ, z3⟩, z1⟩
    | 3, hk => cases hk; exact ⟨fun n z => ⟨fun k h => (by cases h), kJ, j2, oJ, j3⟩, j1⟩
    | _ + 4, hk => cases hk
  · exact vx_Zqof (hts _ zy_l1) (hts _ zy_l3) (hs _ zy_r1) hA
  · exact vx_Zqof (hts _ zy_l2) (hts _ zy_l3) (hs _ zy_r2) hA
  · intro ex hex
    match ex, hex with
    | 0, _ => exact va_Nw.of rfl (hts _ zy_c0)
    | 1, _ => exact va_Nw.of rfl (hts _ zy_c1)
    | _ + 2, hex => omega
  · intro ex ex' h1 h2 h3
    match ex, ex', h1, h2, h3 with
    | 0, 1, _, _, _ => exact va_Nc.of (hs _ zy_n1)
    | 1, 0, _, _, _ => exact va_Nc.of (hs _ zy_n2)
    | 0, 0, _, _, h3 => exact absurd rfl h3
    | 1, 1, _, _, h3 => exact absurd rfl h3
    | _ + 2, _, h1, _, _ => omega
    | _, _ + 2, _, h2, _ => omega
  · intro k hk
    rw [zy_k] at hk
    obtain ⟨q, hq, rfl⟩ := List.mem_map.mp hk
    obtain ⟨a, c, cA, kA, q1, -⟩ := Cond.exactly_spec (args := #[Value.ref b]) (first := s) (o := none) (s := s) (idx := []) (t := .string RX11 q.1) (cls := "java/lang/String") (hs _ (zy_e q hq))
    exact ⟨q.2, a, vk_R.of (A := #[Value.ref b]) (hts _ (zy_t q hq)) q1⟩
/-! the constant of the reader -/
def zS_tx : String := "north east south west x y hour tide or and not go sea rock current slate hand school goal pilot rule "
def zS_tm : Term := .string RX9 56
def zS_va : Term := .field zS_tm "java/lang/String" "value" "[B"
theorem zS_c1 : Cond.exactly zS_tm "java/lang/String" ∈ flatC (Jvm.Cond.and given_1 narrow_1) := by decide +kernel
theorem zS_c2 : Cond.eq (.field zS_tm "java/lang/String" "coder" "B") (.int 0) ∈ flatC (Jvm.Cond.and given_1 narrow_1) := by decide +kernel
theorem zS_c3 : Cond.arrayOf zS_va .byte ∈ flatC (Jvm.Cond.and given_1 narrow_1) := by decide +kernel
theorem zS_c4 : Cond.eq (.length zS_va) (.int (Int32.ofNat 101)) ∈ flatC (Jvm.Cond.and given_1 narrow_1) := by decide +kernel
theorem zS_c5 : (List.range 101).all (fun j => decide (Cond.eq (.elem zS_va (.int (Int32.ofNat j))) (.int (zS_by.getD j 0)) ∈ flatC (Jvm.Cond.and given_1 narrow_1))) = true := by decide +kernel
theorem zS_c6 : Cond.eq (.static RJ0 "COMPACT_STRINGS" "Z") (.int 1) ∈ flatC (Jvm.Cond.and given_1 narrow_1) := by decide +kernel
theorem zS_c7 : Cond.isRef (.static RJ3 "SIOOBE_FORMATTER" "Ljava/util/function/BiFunction;") ∈ flatC (Jvm.Cond.and given_1 narrow_1) := by decide +kernel
theorem zS_c8 : Cond.stringRef RX9 56 zS_tx ∈ lw_tbl := by decide +kernel
theorem zS_c9 : ∀ w ∈ [Cond.laysStatic RJ0 "COMPACT_STRINGS" "Z", Cond.initialized RJ0, Cond.laysStatic RJ3 "SIOOBE_FORMATTER" "Ljava/util/function/BiFunction;", Cond.initialized RJ3], w ∈ lw_tbl := by decide +kernel
theorem zS_of {E : za_E} {s : State} {b : Nat} (hE : za_H0 E = s.heap) (hts : ∀ w ∈ lw_tbl, w.before #[Value.ref b] s = true) (hgv : (Jvm.Cond.and given_1 narrow_1).before #[Value.ref b] s = true) : ∃ a v, zS_K E s a v := by
  have hs := flat_of_before _ hgv
  have hA : ∀ a : Nat, a < s.heap.size → ¬ za_A E a := by
    intro a ha h9
    have h9 : (za_H0 E).size ≤ a := h9
    rw [hE] at h9
    omega
  obtain ⟨adK, adV, hS, hev⟩ := vk_Sof (args := #[Value.ref b]) (s := s) (N := 1) (tm := fun _ => zS_tm) (len := [101]) (byt := [zS_by]) (A := za_A E)
    (fun i hi => by
      obtain rfl : i = 0 := by omega
      decide)
    (fun i hi => hs _ zS_c1) (fun i hi => hs _ zS_c2) (fun i hi => hs _ zS_c3)
    (fun i hi => by
      obtain rfl : i = 0 := by omega
      exact hs _ zS_c4)
    (fun i hi j hj => by
      obtain rfl : i = 0 := by omega
      have hj : j < 101 := hj
      exact hs _ (of_decide_eq_true (List.all_eq_true.mp zS_c5 j (List.mem_range.mpr hj))))
    (fun i j hi hj hij => absurd (show i = j by omega) hij) hA
  obtain ⟨o1, o2, o3, o4⟩ := hS.1 0 (by decide)
  refine ⟨adK 0, adV 0, ?_, ?_, o1, o2, o3, o4, zS_tx, vk_R.of (A := #[Value.ref b]) (hts _ zS_c8) (hev 0 (by decide))⟩
  · exact va_Zof (hts _ (zS_c9 _ List.mem_cons_self)) (hts _ (zS_c9 _ (List.mem_cons_of_mem _ List.mem_cons_self))) (va_eqt (hs _ zS_c6)) hA
  · exact va_Zqof (hts _ (zS_c9 _ (List.mem_cons_of_mem _ (List.mem_cons_of_mem _ List.mem_cons_self)))) (hts _ (zS_c9 _ (List.mem_cons_of_mem _ (List.mem_cons_of_mem _ (List.mem_cons_of_mem _ List.mem_cons_self))))) (hs _ zS_c7) hA
