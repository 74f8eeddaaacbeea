theorem zv_all (L : Nat) (hL : L ≤ 6) (x : Int32) : ∃ lo hi : Int, lo ≤ x.toInt ∧ x.toInt ≤ hi ∧ za_all (za_law L lo hi) = true := by
  obtain ⟨x1, x2⟩ := za_int x
  match L, hL with
  | 0, _ => exact ⟨_, _, x1, x2, zv_0⟩
  | 1, _ => exact ⟨_, _, x1, x2, zv_1⟩
  | 2, _ => exact ⟨_, _, x1, x2, zv_2⟩
  | 3, _ => exact ⟨_, _, x1, x2, zv_3⟩
  | 4, _ => exact ⟨_, _, x1, x2, zv_4⟩
  | 5, _ => exact ⟨_, _, x1, x2, zv_5⟩
  | 6, _ =>
    by_cases h1 : x.toInt < 0
    · exact ⟨_, _, x1, by omega, zv_6a⟩
    · by_cases h2 : x.toInt = 0
      · exact ⟨_, _, by omega, by omega, zv_6b⟩
      · exact ⟨_, _, by omega, x2, zv_6c⟩
  | _ + 7, h => exact absurd h (by omega)
set_option maxHeartbeats 4000000 in
theorem zw_start {p : Program} {e : Env} {s : State} {m : MethodId} {below : List Frame} {meth : Method} {c : Code} (l : Launch) (hl : l.stackTraces = false) {b L : Nat} {xs : Nat → Int32} (hL : L ≤ 6) (C0 : zw_At p s m meth c b L xs) : W p l e room_1 s m #[Value.ref b] below meth c s.heap [] 0 0 (zw_Z below #[Value.ref b] s) (entryFrame m ([Value.ref b] : List Value).toArray 8) := by
  obtain ⟨hx, hb, hr, hml, hown, hts, hX, hbl, hlocks, hgv, hnm, htab⟩ := C0
  obtain ⟨E, e1, e2, e3, K⟩ := zy_K0 hl hts hX hbl hgv
  obtain ⟨lo, hi, g1, g2, g3⟩ := zv_all L hL (xs 1)
  cases hrun : za_law L lo hi with
  | none => rw [hrun] at g3; cases g3
  | some outs =>
    rw [hrun] at g3
    have hfin : outs.all za_fin1 = true := g3
    have X : za_Cx p l room_1 s m #[Value.ref b] meth c E L s 12 zL := ⟨hx, hb, hml, hr, hlocks, hnm, hown, htab, K, State.WarmedH.refl s, ⟨by rw [e3]; exact Nat.le_refl _, fun q _ => by rw [e3]⟩, zd_L, by decide, by decide, rfl, rfl⟩
    have hok : za_ok (za_σ E) [(-2147483648, 2147483647), (lo, hi), (-2147483648, 2147483647), (-2147483648, 2147483647), (-2147483648, 2147483647), (-2147483648, 2147483647)] := by
      intro j q hq
      match j, hq with
      | 0, hq => cases hq; exact za_int _
      | 1, hq => cases hq; rw [e1]; exact ⟨g1, g2⟩
      | 2, hq => cases hq; exact za_int _
      | 3, hq => cases hq; exact za_int _
      | 4, hq => cases hq; exact za_int _
      | 5, hq => cases hq; exact za_int _
      | _ + 6, hq => cases hq
    have hWd : za_Wd E [b] [] s.heap := ⟨[], by rw [e2]; rfl, trivial, fun k q h => by simp at h, ⟨fun i j p q h => by simp at h, fun k q h => by simp at h⟩⟩
    have hlv : za_F2 (za_gP (za_σ E) [b]) [(0, .inr (.inr (some 0)))] (lv_args 0 [Value.ref b]) := ⟨⟨rfl, ⟨b, rfl, rfl⟩⟩, trivial⟩
    have hrun' : za_run (za_stepF L zL za_tL (za_CP (za_cl zL)) za_MTf (za_callG L 100000 12)) 100000 [(0, [(0, .inr (.inr (some 0)))], [], [], [(-2147483648, 2147483647), (lo, hi), (-2147483648, 2147483647), (-2147483648, 2147483647), (-2147483648, 2147483647), (-2147483648, 2147483647)], 0, 0)] [] = some outs := hrun
    have hG := zg_run (below := below) (e := e) (ads0 := [b]) X (zg_allG K 12) ze_L hrun' _ List.mem_cons_self [b] s.heap [] ((lg_sl [Value.ref b] ++ List.replicate (8 - (lg_sl [Value.ref b]).length) Slot.unset).toArray) [] ⟨List.prefix_rfl, hok, trivial, ⟨lv_args 0 [Value.ref b], lv_entry [Value.ref b] (by show 1 ≤ 8; decide), hlv⟩, hWd, ⟨Nat.le_refl _, fun _ _ _ => rfl, fun z hz => absurd hz List.not_mem_nil⟩⟩
    rw [lg_entry_eq]
    intro T hT XT
    obtain ⟨t, a1, o, b1, b2, b3⟩ := hG T hT XT
    refine ⟨t, a1, o, b1, b2, ?_⟩
    rcases b3 with ⟨⟨v, hp, ρ, ads, w, m1, rfl, m3, m4, m5, -⟩, L9, hF, hfree⟩ | ⟨q, -, E9, ce, L9, ⟨ex, h9, ρ9, ads9, m1, -⟩, -⟩
    · obtain ⟨a, rfl, hk⟩ := zw_fin hfin m1
      match w, m3, hF with
      | some w, m3, hF =>
        obtain ⟨x9, rfl, hx9⟩ := m3
        have hx1 := za_k_of m5 hx9 hk
        subst hx1
        refine ⟨rfl, ⟨_, rfl⟩, hF.2.1, hF.2.2.weaken (fun y hy hlt => ?_) (Nat.le_refl _) (Nat.le_refl _)⟩
        have h8 : (za_H0 E).size ≤ y.base := hfree y hy
        rw [e3] at h8
        exact absurd hlt (Nat.not_lt.mpr h8)
      | none, m3, _ => exact m3.elim
    · exact absurd m1 (zw_nox hfin)
def zw_P (b : Addr) (xs : List Int32) (args : Array Value) (s : State) : Prop := args = #[.ref b] ∧ s.IntsAt b xs ∧ xs.length ≤ 6 ∧ (Jvm.Cond.and given_1 narrow_1).before args s = true
set_option maxHeartbeats 4000000 in
theorem zw_walk (l : Launch) (hl : l.stackTraces = false) (b : Addr) (xs : List Int32) : MetFree l x (headSpec (Jvm.Cond.code x code maxLocals ret :: tables_1) room_1) (zw_P b xs) (fun _ _ _ _ _ => True) zw_Q := by
  refine MetFree.of_bodyS (code := code) (maxLocals := maxLocals) (ret := ret) (by decide) ?_ ?_
  · intro args s m h hn
    obtain ⟨meth, c, h1, h2, h3, h4, h5, h6, -, -⟩ := Cond.code_spec hn (atoms_spec (ws := Jvm.Cond.code x code maxLocals ret :: tables_1) h _ List.mem_cons_self)
    exact ⟨meth, c, h1, h2, h3, h4, h5, h6⟩
  · intro p e s m args below meth c s₁ B hml0 hP _
    obtain ⟨rfl, hx, hbd, hgv⟩ := hP
    obtain ⟨scr, harrAt, hlist, hof, hsmall⟩ := hx
    obtain ⟨hcb, hkn, -, -⟩ := State.arrayAt?_spec harrAt
    have hown : s.vm.findClass RL = some m.cls := findClass_of_methodNamed B.named
    have hts0 : ∀ c ∈ (Jvm.Cond.code x code maxLocals ret :: tables_1), c.before #[Value.ref b] s = true := atoms_spec (ws := Jvm.Cond.code x code maxLocals ret :: tables_1) B.pre
    have hts : ∀ w ∈ lw_tbl, w.before #[Value.ref b] s = true := k2_hts_sels lw_privs (fun w hw => hts0 w (List.mem_cons_of_mem _ hw)) lw_privs_ok
    have hml : c.maxLocals = 8 := B.maxLocals_eq (hts0 _ List.mem_cons_self)
    have htab : c.exceptionTable.toList = tableOf [] := by
      obtain ⟨meth9, c9, h1, h2, -, -, -, -, h7, -⟩ := Cond.code_spec B.named (hts0 _ List.mem_cons_self)
      cases Option.some.inj (h1.symm.trans B.method)
      cases Option.some.inj (h2.symm.trans (Stand.of_body B).code)
      rw [Array.isEmpty_iff.mp h7]
      rfl
    have X₀ : Stand p l e room_1 s m #[Value.ref b] below meth c s₁ [] 0 0 := Stand.of_body B
    have hh0 : s₁.heap = s.heap := by rw [B.state]; rfl
    have hsz : scr.slots.size = xs.length := by rw [← Array.length_toList, hlist, List.length_map]
    have hval : ∀ j : Nat, j < xs.length → scr.slots[j]? = some (.int (xs.getD j 0)) := fun j hj => by
      rw [← Array.getElem?_toList, hlist]
      simp [hj]
    have hbl : b < s.heap.size := (Array.getElem?_eq_some_iff.mp hcb).1
    have hX : va_X b xs.length (fun j => xs.getD j 0) s s.heap := ⟨scr, hcb, hof, hkn, hsz, hval⟩
    have K : W p l e room_1 s m #[Value.ref b] below meth c s₁.heap [] 0 0 (zw_Z below #[Value.ref b] s) (entryFrame m ([Value.ref b] : List Value).toArray 8) := by
      rw [hh0]
      exact zw_start l hl hbd ⟨B.exec, B.bytes, B.returns, hml, hown, hts, hX, hbl, B.notSynchronized, hgv, (name_of_methodNamed B.named B.method).1, htab⟩
    obtain ⟨t, a1, o, b1, b2, b3⟩ := K s₁ rfl X₀
    exact ⟨t, o, a1, b1, b2, b3⟩
theorem zw_pre {args : Array Value} {s : State} (h : (Jvm.Cond.and given_1 narrow_1).before args s = true) (hr : rest_1_c.before args s = true) : ∃ (b : Addr) (xs : List Int32), zw_P b xs args s := by
  have hs := flat_of_before _ h
  have hq := flat_of_before _ hr
  have hc : (Cond.count 1).before args s = true := hs _ (by decide +kernel)
  have harr : (Cond.arrayOf (.arg 0) .int).before args s = true := hs _ (by decide +kernel)
  have hle : (Cond.le (.length (.arg 0)) (.int 6)).before args s = true := hs _ (by decide +kernel)
  have hlen : (Cond.isInt (.length (.arg 0))).before args s = true := hq _ (by decide +kernel)
  have hall : (Cond.all (.arg 0) (.isInt (.elem (.arg 0) (.index 0)))).before args s = true := hq _ (by decide +kernel)
  obtain ⟨b, xs, hb, hx⟩ := State.ints_of_pre rfl harr hlen hall
  have hsm : xs.length < 2 ^ 31 := hx.choose_spec.2.2.2
  have hev : (Term.length (.arg 0)).eval args s none [] s = some (.int xs.length.toInt32) := hx.length_eval hb
  have hv := Cond.le_ints hev (show (Term.int 6).eval args s none [] s = some (.int 6) from rfl)
  have hd : xs.length.toInt32 ≤ 6 := by
    simpa [Cond.before, Cond.holds, hv] using hle
  have hN : xs.length ≤ 6 := (Int32.ofNat_le_ofNat hsm (by decide)).mp (show Int32.ofNat xs.length ≤ Int32.ofNat 6 from hd)
  exact ⟨b, xs, Cond.one_arg hc (show args[0]? = some (.ref b) from hb), hx, hN, h⟩
theorem zw_comes (l : Launch) (hl : l.stackTraces = false) : Comes l x (Jvm.Cond.code x code maxLocals ret :: tables_1) room_1 (fun tb e args s => Calls_1 tb e args s ∧ rest_1 tb e args s ∧ Pre_1 tb e args s)
    (fun _ _ args s o t => zw_Q args s o t) := by
  intro p e ha hc hk s m args below hf hfit hheap happ hpre
  obtain ⟨b, xs, hP⟩ := zw_pre hpre.2.2 hpre.2.1
  obtain ⟨k, o, h1, h2, h3, hQ⟩ := zw_walk l hl b xs p e ha hc hk s m args below hf ((Spec.applies_iff_loose hf).mp happ).1 hP trivial
  exact ⟨k, o, h1, h2, h3, hQ⟩
theorem zw_frame {s t : State} {o : Outcome} {args : Array Value} (h : Framed s o t [] 600002 7302231) :
    Framed s o t (fieldLocs frame_1_writes args s ++ arrayLocs frame_1_arrays args s ++ staticLocs frame_1_statics s) 600002 7302231 := h
theorem zw_flag {l : Launch} (h : l.flags = flags0) : l.stackTraces = false := by
  unfold Launch.stackTraces
  rw [h]
  decide +kernel
theorem zw_limb (L : Cond) (hL : ∀ (args : Array Value) (s t : State), L.after args s (.returned (some (.int 1))) t = true) :
    ArmFor flags0 classFile x code maxLocals ret World_1 tables_1 room_1 Calls_1 rest_1 Pre_1
      (fun tb e a s o t => postC L tb e a s o t ∧ Framed s o t (fieldLocs frame_1_writes a s ++ arrayLocs frame_1_arrays a s ++ staticLocs frame_1_statics s) 600002 7302231) := by
  intro l hfl _ _ p e ha hc hk s m args below hf hfit hheap happ hpre
  obtain ⟨k, o, h1, h2, h3, rfl, hF⟩ := zw_comes l (zw_flag hfl) p e ha hc hk s m args below hf hfit hheap happ hpre
  exact ⟨k, _, h1, h2, h3, hL args s _, zw_frame hF⟩
theorem i_vc : Claimed_1_1 ∧ Claimed_1_2 := ⟨zw_limb limb_1_1 (fun args s t => by simp [limb_1_1, Cond.after, Cond.holds, Cond.value]), zw_limb limb_1_2 (fun args s t => Cond.after_iff.mpr (by
  first | (rw [show limb_1_2 = Cond.eq .result (.int 1) from rfl, Cond.eq_ints (x := 1) (y := 1) rfl rfl]; simp; done) | (simp [limb_1_2, Cond.value, Term.eval]; done)))⟩
