/-! ===== a method's contract by its run; the depth ===== -/
theorem zl_sl : ∀ {σ : Nat → Int32} {ads : List Nat} {as : List za_V} {vs : List Value}, za_F2 (za_gV σ ads) as vs → (lg_sl vs).length = za_wt as
  | _, _, [], [], _ => rfl
  | _, _, v :: as, w :: vs, h => by
    have h1 := zl_sl h.2
    have h2 := za_cat_ok h.1
    have h3 : lg_sl (w :: vs) = (if w.category = 2 then [Slot.val w, Slot.second] else [Slot.val w]) ++ lg_sl vs := rfl
    have h4 : za_wt (v :: as) = za_cat v + za_wt as := rfl
    rw [h3, h4, List.length_append, h1, ← h2]
    cases w <;> rfl
  | _, _, [], _ :: _, h => h.elim
  | _, _, _ :: _, [], h => h.elim
theorem zl_args : ∀ {σ : Nat → Int32} {ads : List Nat} {as : List za_V} {vs : List Value} (i : Nat), za_F2 (za_gV σ ads) as vs → za_F2 (za_gP σ ads) (za_args i as) (lv_args i vs)
  | _, _, [], [], _, _ => trivial
  | _, _, v :: as, w :: vs, i, h => by
    have h2 := za_cat_ok h.1
    refine ⟨⟨rfl, h.1⟩, ?_⟩
    rw [h2]
    exact zl_args _ h.2
  | _, _, [], _ :: _, _, h => h.elim
  | _, _, _ :: _, [], _, h => h.elim
theorem zj_spec {Y : za_MI} {args : Array Value} {s : State} {m : MethodId} (h : (za_word Y).before args s = true) (hn : s.methodNamed? Y.1 = some m) : ∃ meth c, s.vm.method? m = some meth ∧ meth.code = some c ∧ c.code = Y.2.1 ∧ c.maxLocals = za_nL Y ∧ meth.sig.returnType = za_rt Y ∧ meth.locks = false ∧ c.exceptionTable.toList = tableOf (za_hh Y) := by
  by_cases hh : za_hh Y = []
  · rw [zj_code hh] at h
    obtain ⟨meth, c, h1, h2, h3, h4, h5, h6, h7, -⟩ := Cond.code_spec hn h
    exact ⟨meth, c, h1, h2, h3, h4, h5, h6, by rw [Array.isEmpty_iff.mp h7, hh]; rfl⟩
  · rw [zj_with hh] at h
    obtain ⟨m9, meth, c, hn9, h1, h2, h3, h4, h6, h5, h7, -⟩ := Cond.codeWith_spec h
    cases Option.some.inj (hn9.symm.trans hn)
    exact ⟨meth, c, h1, h2, h3, h4, h5, h7, by rw [← h6, table_eq]⟩
/-! the same run where the script is never read: it doesn't matter how long the script is -/
def za_grd (i : Instr) (st : List za_V) : Bool := match i with
  | .iaload => false
  | .baload => false
  | .arraylength => match st with
    | .inr (.inr (some (_ + 1))) :: _ => true
    | _ => false
  | _ => true
theorem za_grd_ok {L : Nat} {M : za_MI} {cp : Nat → Option za_row} {MT : Nat → Option za_MI} {call : za_CF} {i : Instr} {pc : Nat} {lv : za_LV} {st : List za_V} {t : za_T} (h : za_grd i st = true) : za_ins 0 M cp MT call i pc lv st t = za_ins L M cp MT call i pc lv st t := by
  cases i with
  | iaload => cases h
  | baload => cases h
  | arraylength =>
    match st, h with
    | .inr (.inr (some (q + 1))) :: rest, _ => rfl
  | if_icmp cnd o => cases cnd <;> rfl
  | ifCond cnd o => cases cnd <;> rfl
  | _ => rfl
def za_step0 (M : za_MI) (T : za_TT) (cp : Nat → Option za_row) (MT : Nat → Option za_MI) (call : za_CF) (S : za_S) : za_N := match S with
  | (pc, lv, st, t) => match za_f3 T pc with
    | some i => bif za_grd i st then za_ins 0 M cp MT call i pc lv st t else none
    | none => none
theorem za_step0_ok {L : Nat} {M : za_MI} {T : za_TT} {cp : Nat → Option za_row} {MT : Nat → Option za_MI} {call : za_CF} {S : za_S} {Z : List za_S × List za_X} (h : za_step0 M T cp MT call S = some Z) : za_stepF L M T cp MT call S = some Z := by
  obtain ⟨pc, lv, st, t⟩ := S
  unfold za_step0 at h
  unfold za_stepF
  dsimp only at h ⊢
  split at h
  · rename_i i hfe
    obtain ⟨g1, h⟩ := za_bif h
    rw [hfe]
    rw [za_grd_ok (L := L) g1] at h
    exact h
  · cases h
def za_call0 (fuel : Nat) : Nat → za_CF
  | 0, _, _, _, _ => none
  | d + 1, j, as, h, ρ => match za_MTf j, za_TTf j with
    | some M, some T => bif Nat.ble (za_wt as) (za_nL M) then za_run (za_step0 M T (za_CP (za_cl M)) za_MTf (za_call0 fuel d)) fuel [(0, za_args 0 as, [], h, ρ, 0, 0)] [] else none
    | _, _ => none
theorem za_run_m {f g : za_S → za_N} (hfg : ∀ S Z, f S = some Z → g S = some Z) : ∀ {n : Nat} {wk : List za_S} {acc xs : List za_X}, za_run f n wk acc = some xs → za_run g n wk acc = some xs
  | 0, _, _, _, h => by cases h
  | n + 1, [], acc, xs, h => h
  | n + 1, S :: wk, acc, xs, h => by
    unfold za_run at h ⊢
    split at h
    · cases h
    · rename_i ss ys hs
      rw [hfg S _ hs]
      exact za_run_m hfg h
theorem zg_met {l : Launch} {E : za_E} {s0 : State} {L d fuel : Nat} {call : za_CF} {Y : za_MI} {as : List za_V} {h : List za_O} {ρ : za_R} {xs : List za_X} {ads : List Nat} {T : za_TT} (hT : za_fl T = za_is Y) (K : za_K0 l E L s0) (IH : za_IH l E s0 d call) (hpl : plainFor Y.1 = true) (how : za_ow (za_cl Y) = Y.1.cls) (hdec : (za_is Y).all (za_dok Y.2.1) = true) (hwt : za_wt as ≤ za_nL Y) (hrun : za_run (za_stepF L Y T (za_CP (za_cl Y)) za_MTf call) fuel [(0, za_args 0 as, [], h, ρ, 0, 0)] [] = some xs) :
    vx_Met l Y.1 [za_word Y] (za_rm (d + 1) Y) (za_Pc E s0 ads as h ρ) (za_Qc E ads xs) (za_XC E ads xs) (za_mc Y) (za_ms Y) (za_A E) := by
  refine MetFree.of_bodySF (code := Y.2.1) (maxLocals := za_nL Y) (ret := za_rt Y) hpl ?_ ?_
  · intro args s m h hn
    obtain ⟨meth, c, h1, h2, h3, h4, h5, h6, -⟩ := zj_spec (atoms_spec (ws := [za_word Y]) h _ List.mem_cons_self) hn
    exact ⟨meth, c, h1, h2, h3, h4, h5, h6⟩
  · intro p e s m args below meth c s₁ B hml hP _
    have hh0 : s₁.heap = s.heap := by rw [B.state]; rfl
    obtain ⟨vs, rfl, hA, hok, hWd, hW, hBl⟩ := hP
    have htab : c.exceptionTable.toList = tableOf (za_hh Y) := by
      obtain ⟨meth9, c9, h1, h2, -, -, -, -, h7⟩ := zj_spec (atoms_spec (ws := [za_word Y]) B.pre _ List.mem_cons_self) B.named
      cases Option.some.inj (h1.symm.trans B.method)
      cases Option.some.inj (h2.symm.trans (Stand.of_body B).code)
      exact h7
    have X : za_Cx p l (headSpec [za_word Y] (za_rm (d + 1) Y)).room s m vs.toArray meth c E L s0 d Y := ⟨B.exec, B.bytes, hml, B.returns, B.notSynchronized, (name_of_methodNamed B.named B.method).1, by rw [how]; exact findClass_of_methodNamed B.named, htab, K, hW, hBl, hdec, by show d + 9 ≤ d + 1 + 8; omega, by show 64 * d + 259 ≤ 64 * (d + 1) + 200; omega, rfl, rfl⟩
    have hG := zg_run (below := below) (e := e) (ads0 := ads) X IH hT hrun _ List.mem_cons_self ads s.heap [] ((lg_sl vs ++ List.replicate (za_nL Y - (lg_sl vs).length) Slot.unset).toArray) [] ⟨List.prefix_rfl, hok, trivial, ⟨lv_args 0 vs, lv_entry vs (by rw [zl_sl hA]; exact hwt), zl_args 0 hA⟩, hWd, ⟨Nat.le_refl _, fun _ _ _ => rfl, fun z hz => absurd hz List.not_mem_nil⟩⟩
    rw [lg_entry_eq]
    obtain ⟨t, a1, o, b1, b2, b3⟩ := hG s₁ hh0 (Stand.of_body B)
    exact ⟨t, o, a1, b1, b2, b3⟩
theorem zg_all0 {l : Launch} {E : za_E} {s0 : State} {L fuel : Nat} (K : za_K0 l E L s0) : ∀ d : Nat, za_IH l E s0 d (za_call0 fuel d)
  | 0 => by
    intro j Y as h ρ xs ads hj hc
    cases hc
  | d + 1 => by
    intro j Y as h ρ xs ads hj hc
    unfold za_call0 at hc
    split at hc
    · rename_i M T hM hT
      rw [ze_M, hj] at hM
      cases hM
      obtain ⟨g1, hc⟩ := za_bif hc
      obtain ⟨o1, o2, -⟩ := zj_ok hj
      exact zg_met (L := L) (ze_flat hj hT) K (zg_all0 K d) o1 o2 (zm_d _ (zm_all hj)) (za_ble g1) (za_run_m (fun S Z h => za_step0_ok h) hc)
    · cases hc
