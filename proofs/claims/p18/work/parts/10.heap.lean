/-! ===== all instructions; a method's contract by its run; the depth ===== -/
/-- what holds at the law's start -/
def za_K0 (l : Launch) (E : za_E) (L : Nat) (s0 : State) : Prop :=
  l.stackTraces = false ∧ za_H0 E = s0.heap ∧ (∀ w ∈ za_wd, w.before #[] s0 = true) ∧ (∀ w ∈ za_nw, va_Nw w s0) ∧ va_K (za_D E) vwCl (za_tys E) s0 ∧ va_X (za_b E) L (za_σ E) s0 s0.heap ∧ za_b E < s0.heap.size ∧
  vx_Zq Bundle.tN "UNASSIGNED_STACK" Bundle.steD (za_A E) s0 s0.heap ∧ vx_Zq Bundle.tN "SUPPRESSED_SENTINEL" Bundle.listD (za_A E) s0 s0.heap ∧ (∀ ex, ex < 2 → va_Nw (.castable (za_exn ex) (za_exn ex)) s0) ∧ (∀ ex ex', ex < 2 → ex' < 2 → ex' ≠ ex → va_Nc (za_exn ex) (za_exn ex') s0) ∧ ∀ k ∈ za_sk, ∃ (tx : String) (sa : Nat), vk_R RX11 k tx sa s0
/-- what holds at a method's start -/
def za_Cx (p : Program) (l : Launch) (R : Room) (s : State) (m : MethodId) (args : Array Value) (meth : Method) (c : Code) (E : za_E) (L : Nat) (s0 : State) (d : Nat) (M : za_MI) : Prop :=
  p.tables.exec = Jvm.exec ∧ c.code = M.2.1 ∧ c.maxLocals = za_nL M ∧ meth.sig.returnType = za_rt M ∧ meth.locks = false ∧ meth.name = M.1.name ∧ s.vm.findClass (za_ow (za_cl M)) = some m.cls ∧ c.exceptionTable.toList = tableOf (za_hh M) ∧ za_K0 l E L s0 ∧ s0.WarmedH s.vm ∧ za_Bl E s.heap ∧ (za_is M).all (za_dok M.2.1) = true ∧ d + 9 ≤ R.frames ∧ 64 * d + 259 ≤ R.locals ∧ R.cells = za_mc M ∧ R.slots = za_ms M
/-- the callees' contracts -/
def za_IH (l : Launch) (E : za_E) (s0 : State) (d : Nat) (call : za_CF) : Prop := ∀ (j : Nat) (Y : za_MI) (as : List za_V) (h : List za_O) (ρ : za_R) (xs : List za_X) (ads : List Nat), za_MT j = some Y → call j as h ρ = some xs → vx_Met l Y.1 [za_word Y] (za_rm d Y) (za_Pc E s0 ads as h ρ) (za_Qc E ads xs) (za_XC E ads xs) (za_mc Y) (za_ms Y) (za_A E)
section ZM
variable {p : Program} {l : Launch} {e : Env} {R : Room} {s s0 : State} {m : MethodId} {args : Array Value} {below : List Frame} {meth : Method} {c : Code} {E : za_E} {ads0 : List Nat} {pc L d : Nat} {M : za_MI} {call : za_CF} {outs : List za_X} {lv : za_LV} {st : List za_V} {t : za_T} {Z : List za_S × List za_X}
theorem zk_w (K : za_K0 l E L s0) (hW : s0.WarmedH s.vm) {a9 : Array Value} : ∀ w ∈ za_wd, w.before a9 s = true := fun w hw => word_at hW (good_of_word (List.mem_filter.mp hw).2) (K.2.2.1 w hw)
theorem zk_zh (K : za_K0 l E L s0) (hW : s0.WarmedH s.vm) (cl9 : Nat) {a9 : Array Value} : zh_ok s a9 (za_ow cl9) (za_CP cl9) := by
  refine ⟨fun ct ex a z h => ?_, fun ex hex k hk => ?_, fun ex ex' h1 h2 h3 => (K.2.2.2.2.2.2.2.2.2.2.1 ex ex' h1 h2 h3).moved hW.alike⟩
  · obtain ⟨h1, h2⟩ := zc_row h
    exact ⟨za_blt h2, zk_w K hW _ (h1 _ List.mem_cons_self)⟩
  · obtain ⟨k1, k2, e1, e2, e3⟩ := Cond.castable_spec (va_Nw.use (A := #[]) rfl ((K.2.2.2.2.2.2.2.2.2.1 ex hex).warmC hW))
    have h1 : k1 = k := Option.some.inj (e1.symm.trans hk)
    have h2 : k2 = k := Option.some.inj (e2.symm.trans hk)
    subst h1; subst h2
    exact e3
theorem zk_K (K : za_K0 l E L s0) (hW : s0.WarmedH s.vm) : va_K (za_D E) vwCl (za_tys E) s := va_K.moved hW.alike K.2.2.2.2.1
theorem zb_0 {ci k : Nat} {z : Int} (h : za_side (0, ci, k, z) = true) : ∃ q, vwCl[ci]? = some q ∧ Nat.blt k q.2.2 = true ∧ (if z = 0 then false else true) = (q.2.1 k).2.2.2 ∧ (q.2.1 k).1 = q.1 := by
  change (match vwCl[ci]? with | some q => (Nat.blt k q.2.2 && decide ((if z = 0 then false else true) = (q.2.1 k).2.2.2) && decide ((q.2.1 k).1 = q.1)) | none => false) = true at h
  cases hq : vwCl[ci]? with
  | none => rw [hq] at h; cases h
  | some q =>
    rw [hq] at h
    simp only [Bool.and_eq_true, decide_eq_true_eq] at h
    exact ⟨q, rfl, h.1.1, h.1.2, h.2⟩
theorem zb_5 {ci k : Nat} {z : Int} (h : za_side (5, ci, k, z) = true) : ∃ q, vwCl[ci]? = some q := by
  change (match vwCl[ci]? with | some _ => true | none => false) = true at h
  cases hq : vwCl[ci]? with
  | none => rw [hq] at h; cases h
  | some q => exact ⟨q, rfl⟩
theorem zc_nX {ci : Nat} {q : vw_C} (h : vwCl[ci]? = some q) : q = (za_ow ci, q.2.1, za_nX ci) := by
  obtain ⟨-, -, -, h1, h2⟩ := zc_cls h
  rw [← h1, ← h2]
theorem zg_getf {k : Nat} (X : za_Cx p l R s m args meth c E L s0 d M) (hdg : decode M.2.1 pc = .ok (.getfield k, 3)) (h : za_getf (za_CP (za_cl M) k) pc lv st t = some Z) (hk : ∀ S ∈ Z.1, za_G p l e R s m args below meth c (vx_MQ below (za_Qc E ads0 outs) (za_XC E ads0 outs) args s (za_mc M) (za_ms M) (za_A E)) E (za_nL M) ads0 S) : za_G p l e R s m args below meth c (vx_MQ below (za_Qc E ads0 outs) (za_XC E ads0 outs) args s (za_mc M) (za_ms M) (za_A E)) E (za_nL M) ads0 (pc, lv, st, t) := by
  obtain ⟨hx, hb, hml, hr, hlocks, hnm, hown, htab, K, hW, h0, hdec, hRf, hRl, hRc, hRs⟩ := X
  refine zs_getf (fun {ci} {k9} {z} hrow => ?_) h hk
  intro H locs cells slots ls rest ws q a vs v hP he hv kk
  obtain ⟨w1, w2⟩ := zc_row hrow
  obtain ⟨q9, hq9, g1, g2, g3⟩ := zb_0 w2
  obtain ⟨f1, f2, f3, f4, f5⟩ := zc_cls hq9
  have hl := w1 (Cond.fieldLink (za_ow (za_cl M)) k (q9.2.1 k9).1 (q9.2.1 k9).2.1 (q9.2.1 k9).2.2.1) (by simp [za_need, za_wC, hq9])
  exact va_get hx hb (zk_w K hW) f1 hown (zk_K K hW) hP q he hq9 k9 (za_blt g1) (zk_w K hW _ hl) (fun x hx => hx) hv hdg kk
theorem zg_putf {k : Nat} (X : za_Cx p l R s m args meth c E L s0 d M) (hdg : decode M.2.1 pc = .ok (.putfield k, 3)) (h : za_putf (za_CP (za_cl M) k) (za_cl M) (za_ini M) pc lv st t = some Z) (hk : ∀ S ∈ Z.1, za_G p l e R s m args below meth c (vx_MQ below (za_Qc E ads0 outs) (za_XC E ads0 outs) args s (za_mc M) (za_ms M) (za_A E)) E (za_nL M) ads0 S) : za_G p l e R s m args below meth c (vx_MQ below (za_Qc E ads0 outs) (za_XC E ads0 outs) args s (za_mc M) (za_ms M) (za_A E)) E (za_nL M) ads0 (pc, lv, st, t) := by
  obtain ⟨hx, hb, hml, hr, hlocks, hnm, hown, htab, K, hW, h0, hdec, hRf, hRl, hRc, hRs⟩ := X
  refine zs_putf (fun {ci} {k9} {z} hrow hz => ?_) h hk
  intro H locs cells slots ls rest ws q a vs v hP hD hS he hlen hn hf kk
  obtain ⟨w1, w2⟩ := zc_row hrow
  obtain ⟨q9, hq9, g1, g2, g3⟩ := zb_0 w2
  obtain ⟨f1, f2, f3, f4, f5⟩ := zc_cls hq9
  have hl := w1 (Cond.fieldLink (za_ow (za_cl M)) k (q9.2.1 k9).1 (q9.2.1 k9).2.1 (q9.2.1 k9).2.2.1) (by simp [za_need, za_wC, hq9])
  by_cases hz0 : z = 0
  · exact va_put hx hb (zk_w K hW) f1 (za_tyX ci) f2 f3 hown (zk_K K hW) hP hD hS q he hq9 k9 (za_blt g1) (zk_w K hW _ hl) (fun x hx => hx) (by rw [← g2, if_pos hz0]) (f2 k9 (za_blt g1)) hn hf hlen hdg kk
  · rcases hz with hz | ⟨hz1, hz2⟩
    · exact absurd hz hz0
    · have hin : meth.name = "<init>" := by rw [hnm]; exact of_decide_eq_true hz1
      exact va_putF hx hb (zk_w K hW) f1 (za_tyX ci) f2 f3 hown (zk_K K hW) hP hD hS q he hq9 k9 (za_blt g1) (zk_w K hW _ hl) (fun x hx => hx) (by rw [← g2, if_neg hz0]) hin (by rw [g3, f5, hz2]) (f2 k9 (za_blt g1)) hn hf hlen hdg kk
theorem zg_newo {k : Nat} (X : za_Cx p l R s m args meth c E L s0 d M) (hdg : decode M.2.1 pc = .ok (.new k, 3)) (h : za_newo (za_mc M) (za_ms M) (za_CP (za_cl M) k) pc lv st t = some Z) (hk : ∀ S ∈ Z.1, za_G p l e R s m args below meth c (vx_MQ below (za_Qc E ads0 outs) (za_XC E ads0 outs) args s (za_mc M) (za_ms M) (za_A E)) E (za_nL M) ads0 S) : za_G p l e R s m args below meth c (vx_MQ below (za_Qc E ads0 outs) (za_XC E ads0 outs) args s (za_mc M) (za_ms M) (za_A E)) E (za_nL M) ads0 (pc, lv, st, t) := by
  obtain ⟨hx, hb, hml, hr, hlocks, hnm, hown, htab, K, hW, h0, hdec, hRf, hRl, hRc, hRs⟩ := X
  refine zs_newo (fun {ci} {k9} {z} hrow => ?_) h hk
  obtain ⟨w1, w2⟩ := zc_row hrow
  obtain ⟨q9, hq9⟩ := zb_5 w2
  obtain ⟨f1, f2, f3, f4, f5⟩ := zc_cls hq9
  refine ⟨by have := (List.getElem?_eq_some_iff.mp hq9).1; simpa using this, ?_⟩
  intro H locs cells slots ls rest ws hP hD hS hc hs kk
  have hl1 := w1 (Cond.classLink (za_ow (za_cl M)) k q9.1) (by simp [za_need, za_wC, hq9])
  have hl2 := w1 (Cond.instantiable q9.1 q9.2.2) (by simp [za_need, za_wC, hq9])
  have hl3 := w1 (Cond.initialized q9.1) (by simp [za_need, za_wC, hq9])
  rw [← f4] at hs kk
  refine va_new (fs := za_dfs ci q9.2.2) hx hb (zk_w K hW) f1 (za_tyX ci) f2 hown (zk_w K hW _ hl1) (zk_w K hW _ hl2) (zk_w K hW _ hl3) (zk_K K hW) hP hD hS (fun q hq => Nat.le_trans h0.1 hq) hq9 (fun j hj => ?_) (by rw [hRc]; exact hc) (by rw [hRs]; exact hs) hdg kk
  show _ = (za_dfs ci q9.2.2).getD j .null
  rw [List.getD_eq_getElem?_getD, za_dfs_at ci _ j hj]
  rfl
theorem zg_newa {ty : ArrayType} (X : za_Cx p l R s m args meth c E L s0 d M) (hdg : decode M.2.1 pc = .ok (.newarray ty, 2)) (h : za_newa (za_mc M) (za_ms M) ty pc lv st t = some Z) (hk : ∀ S ∈ Z.1, za_G p l e R s m args below meth c (vx_MQ below (za_Qc E ads0 outs) (za_XC E ads0 outs) args s (za_mc M) (za_ms M) (za_A E)) E (za_nL M) ads0 S) : za_G p l e R s m args below meth c (vx_MQ below (za_Qc E ads0 outs) (za_XC E ads0 outs) args s (za_mc M) (za_ms M) (za_A E)) E (za_nL M) ads0 (pc, lv, st, t) := by
  obtain ⟨hx, hb, hml, hr, hlocks, hnm, hown, htab, K, hW, h0, hdec, hRf, hRl, hRc, hRs⟩ := X
  refine zs_newa (fun {ft} {k} {cA} a0 hty htk hcell => ?_) h hk
  intro H locs cells slots ls rest ws n hP hD hS hn hN hle hc hs kk
  have hK := zk_K K hW
  have harr : (Cond.arrayClass ft).before args s = true ∧ a0.1 * componentBytes ft ≤ 536870912 ∧ ∀ cB : ClassId, va_RA s cB ft → cB = cA := by
    have h9 := (hK.2 k (cA, ft) htk).2
    match k, htk with
    | 0, htk =>
      cases htk
      exact ⟨zk_w K hW _ zx_arI, Nat.le_trans (Nat.mul_le_mul_right _ hle) (by decide), fun cB hB => Option.some.inj (Eq.trans (Eq.symm hB) h9)⟩
    | 1, htk =>
      cases htk
      exact ⟨zk_w K hW _ zx_arB, Nat.le_trans (Nat.mul_le_mul_right _ hle) (by decide), fun cB hB => Option.some.inj (Eq.trans (Eq.symm hB) h9)⟩
    | 2, htk =>
      cases htk
      exact ⟨zk_w K hW _ zx_arZ, Nat.le_trans (Nat.mul_le_mul_right _ hle) (by decide), fun cB hB => Option.some.inj (Eq.trans (Eq.symm hB) h9)⟩
    | 3, htk =>
      cases htk
      exact ⟨zk_w K hW _ zx_arJ, Nat.le_trans (Nat.mul_le_mul_right _ hle) (by decide), fun cB hB => Option.some.inj (Eq.trans (Eq.symm hB) h9)⟩
    | _ + 4, htk => cases htk
  obtain ⟨ha1, ha2, ha3⟩ := harr
  refine va_newa (a0 := a0) hx hb (by rw [hty]; exact ha1) hty hK hP hD hS (fun q hq => Nat.le_trans h0.1 hq) hcell hn hN ha2 (by rw [hRc]; exact hc) (by rw [hRs]; exact hs) hdg (fun q cB H1 g1 g2 g3 g4 => ?_)
  have hB : va_RA s cB ft := (g1.2 4 (cB, ft) rfl).2
  have e9 := ha3 cB hB
  subst e9
  exact kk q H1 g2 g3 g4
theorem zg_ild {bt : Bool} {i : Instr} (hi : i = if bt then .baload else .iaload) (X : za_Cx p l R s m args meth c E L s0 d M) (hdg : decode M.2.1 pc = .ok (i, 1)) (h : za_ild bt L pc lv st t = some Z) (hk : ∀ S ∈ Z.1, za_G p l e R s m args below meth c (vx_MQ below (za_Qc E ads0 outs) (za_XC E ads0 outs) args s (za_mc M) (za_ms M) (za_A E)) E (za_nL M) ads0 S) : za_G p l e R s m args below meth c (vx_MQ below (za_Qc E ads0 outs) (za_XC E ads0 outs) args s (za_mc M) (za_ms M) (za_A E)) E (za_nL M) ads0 (pc, lv, st, t) := by
  obtain ⟨hx, hb, hml, hr, hlocks, hnm, hown, htab, K, hW, h0, hdec, hRf, hRl, hRc, hRs⟩ := X
  have hK := zk_K K hW
  refine zs_ild (fun hbt => ?_) (fun {tt} htt hiff => ?_) h hk
  · intro H locs cells slots ls rest j hS hin kk
    subst hbt
    subst hi
    have hX : va_X (za_b E) L (za_σ E) s s.heap := (K.2.2.2.2.2.1.moved hW.alike).kept (by rw [h0.2 _ (by rw [K.2.1]; exact K.2.2.2.2.2.2.1), K.2.1])
    have hlt : za_b E < (za_H0 E).size := by rw [K.2.1]; exact K.2.2.2.2.2.2.1
    exact va_sld hx hb hX (Nat.lt_of_lt_of_le hlt h0.1) (Nat.not_le.mpr hlt) hS hin hdg kk
  · intro H locs cells slots ls rest ws q a n f j hP he hin kk
    match tt, htt, hiff, he with
    | 0, _, hiff, he =>
      have hbt := hiff.mpr rfl
      subst hbt; subst hi
      exact va_iald hx hb hK hP q 0 he rfl hin hdg kk
    | 1, _, hiff, he =>
      have hbt : bt = true := by cases bt with | true => rfl | false => exact absurd (hiff.mp rfl) (by decide)
      subst hbt; subst hi
      exact va_bald hx hb hK hP q 1 he rfl hin hdg kk
    | 2, _, hiff, he =>
      have hbt : bt = true := by cases bt with | true => rfl | false => exact absurd (hiff.mp rfl) (by decide)
      subst hbt; subst hi
      exact va_zald hx hb hK hP q 2 he rfl hin hdg kk
    | _ + 3, htt, _, _ => omega
theorem zg_ist {bt : Bool} {i : Instr} (hi : i = if bt then .bastore else .iastore) (X : za_Cx p l R s m args meth c E L s0 d M) (hdg : decode M.2.1 pc = .ok (i, 1)) (h : za_ist bt pc lv st t = some Z) (hk : ∀ S ∈ Z.1, za_G p l e R s m args below meth c (vx_MQ below (za_Qc E ads0 outs) (za_XC E ads0 outs) args s (za_mc M) (za_ms M) (za_A E)) E (za_nL M) ads0 S) : za_G p l e R s m args below meth c (vx_MQ below (za_Qc E ads0 outs) (za_XC E ads0 outs) args s (za_mc M) (za_ms M) (za_A E)) E (za_nL M) ads0 (pc, lv, st, t) := by
  obtain ⟨hx, hb, hml, hr, hlocks, hnm, hown, htab, K, hW, h0, hdec, hRf, hRl, hRc, hRs⟩ := X
  have hK := zk_K K hW
  refine zs_ist (fun {tt} htt hiff => ?_) h hk
  intro H locs cells slots ls rest ws q a n f j x hP hD hS he hin kk
  match tt, htt, hiff, he, kk with
  | 0, _, hiff, he, kk =>
    have hbt := hiff.mpr rfl
    subst hbt; subst hi
    exact va_iast hx hb hK hP hD hS q 0 he rfl hin hdg kk
  | 1, _, hiff, he, kk =>
    have hbt : bt = true := by cases bt with | true => rfl | false => exact absurd (hiff.mp rfl) (by decide)
    subst hbt; subst hi
    exact va_bast hx hb hK hP hD hS q 1 he rfl hin hdg kk
  | 2, _, hiff, he, kk =>
    have hbt : bt = true := by cases bt with | true => rfl | false => exact absurd (hiff.mp rfl) (by decide)
    subst hbt; subst hi
    exact va_zast hx hb hK hP hD hS q 2 he rfl hin hdg kk
  | _ + 3, htt, _, _, _ => omega
theorem zg_alen (X : za_Cx p l R s m args meth c E L s0 d M) (hdg : decode M.2.1 pc = .ok (.arraylength, 1)) (h : za_alen L pc lv st t = some Z) (hk : ∀ S ∈ Z.1, za_G p l e R s m args below meth c (vx_MQ below (za_Qc E ads0 outs) (za_XC E ads0 outs) args s (za_mc M) (za_ms M) (za_A E)) E (za_nL M) ads0 S) : za_G p l e R s m args below meth c (vx_MQ below (za_Qc E ads0 outs) (za_XC E ads0 outs) args s (za_mc M) (za_ms M) (za_A E)) E (za_nL M) ads0 (pc, lv, st, t) := by
  obtain ⟨hx, hb, hml, hr, hlocks, hnm, hown, htab, K, hW, h0, hdec, hRf, hRl, hRc, hRs⟩ := X
  have hK := zk_K K hW
  refine zs_alen ?_ ?_ h hk
  · intro H locs cells slots ls rest hS kk
    have hX : va_X (za_b E) L (za_σ E) s s.heap := (K.2.2.2.2.2.1.moved hW.alike).kept (by rw [h0.2 _ (by rw [K.2.1]; exact K.2.2.2.2.2.2.1), K.2.1])
    have hlt : za_b E < (za_H0 E).size := by rw [K.2.1]; exact K.2.2.2.2.2.2.1
    exact va_slen hx hb hX (Nat.lt_of_lt_of_le hlt h0.1) (Nat.not_le.mpr hlt) hS hdg kk
  · intro k ty cA H locs cells slots ls rest ws q a x htk hP he kk
    exact va_alen hx hb hK hP q k he htk rfl hdg kk
theorem zg_acp {k : Nat} {j9 k9 : Nat} {z9 : Int} (X : za_Cx p l R s m args meth c E L s0 d M) (hrow : za_CP (za_cl M) k = some (14, j9, k9, z9)) (hdg : decode M.2.1 pc = .ok (.invokestatic k, 3)) (h : za_acp pc lv st t = some Z) (hk : ∀ S ∈ Z.1, za_G p l e R s m args below meth c (vx_MQ below (za_Qc E ads0 outs) (za_XC E ads0 outs) args s (za_mc M) (za_ms M) (za_A E)) E (za_nL M) ads0 S) : za_G p l e R s m args below meth c (vx_MQ below (za_Qc E ads0 outs) (za_XC E ads0 outs) args s (za_mc M) (za_ms M) (za_A E)) E (za_nL M) ads0 (pc, lv, st, t) := by
  obtain ⟨hx, hb, hml, hr, hlocks, hnm, hown, htab, K, hW, h0, hdec, hRf, hRl, hRc, hRs⟩ := X
  have hK := zk_K K hW
  refine zs_acp ?_ h hk
  intro H locs cells slots ls rest ws q0 q1 a0 a n0 n1 f g sp dp n hsz hP hD hS he0 he1 c1 c2 c3 c4 c5 c6 kk
  obtain ⟨w1, -⟩ := zc_row hrow
  have l1 := w1 (Cond.methodLink (za_ow (za_cl M)) k arraycopyName) (by simp [za_need])
  have l2 := w1 (Cond.native arraycopyName) (by simp [za_need])
  have l3 := w1 (Cond.static arraycopyName) (by simp [za_need])
  have l4 := w1 (Cond.initialized "java/lang/System") (by simp [za_need])
  have hnw : nativeFrameWords "java/lang/System" "arraycopy" 5 = 7 := by decide +kernel
  exact va_copyi (tys := za_tys E) hx hb (hml.trans hsz.symm) hown (zk_w K hW _ l1) (zk_w K hW _ l2) (zk_w K hW _ l3) (zk_w K hW _ l4) hK hP hD hS q0 q1 0 0 (ty := .int) he0 he1 rfl rfl rfl c1 c2 c3 c4 c5 (fun _ _ => rfl) (by omega) (by rw [hnw]; omega) hdg kk
/-- throw new E(text) -/
theorem zg_thr {ik : Nat} {ex j9 : Nat} {z9 : Int} (X : za_Cx p l R s m args meth c E L s0 d M) (hhe : za_hh M = []) (hrow : za_CP (za_cl M) ik = some (6, ex, j9, z9)) (hdg : decode M.2.1 pc = .ok (.new ik, 3)) (h : za_thr (za_mc M) (za_ms M) (za_is M) (za_CP (za_cl M)) ex pc st t = some Z) (ho : ∀ x ∈ Z.2, x ∈ outs) : za_G p l e R s m args below meth c (vx_MQ below (za_Qc E ads0 outs) (za_XC E ads0 outs) args s (za_mc M) (za_ms M) (za_A E)) E (za_nL M) ads0 (pc, lv, st, t) := by
  obtain ⟨hx, hb, hml, hr, hlocks, hnm, hown, htab, K, hW, h0, hdec, hRf, hRl, hRc, hRs⟩ := X
  intro ads H locs ls stk Mm
  obtain ⟨h1, h2, h3, h4, h5, h6⟩ := Mm
  obtain ⟨w1, w2⟩ := zc_row hrow
  have hex : ex < 2 := za_blt w2
  have l1 := zk_w K hW (a9 := args) _ (w1 _ List.mem_cons_self)
  have l2 := zk_w K hW (a9 := args) _ (w1 _ (List.mem_cons_of_mem _ List.mem_cons_self))
  have hH0 : s0.heap = za_H0 E := K.2.1.symm
  have hqk : ∀ a : Nat, a < s0.heap.size → ¬ za_A E a → s.heap[a]? = s0.heap[a]? := fun a ha _ => by rw [hH0] at ha ⊢; exact h0.2 a ha
  have hU : vx_Zq Bundle.tN "UNASSIGNED_STACK" Bundle.steD (za_A E) s s.heap := (K.2.2.2.2.2.2.2.1.kept hqk).moved hW.alike
  have hN : vx_Zq Bundle.tN "SUPPRESSED_SENTINEL" Bundle.listD (za_A E) s s.heap := (K.2.2.2.2.2.2.2.2.1.kept hqk).moved hW.alike
  have hat : ∀ w ∈ za_atX ex, w.before args s = true := by
    intro w hw
    by_cases g : goodWord w = true
    · exact zk_w K hW w (List.mem_filter.mpr ⟨zx_at ex hex w (List.mem_filter.mpr ⟨hw, g⟩), g⟩)
    · have hz := zx_no ex hex w (List.mem_filter.mpr ⟨hw, by simpa using g⟩)
      have hi := (List.mem_filter.mp hz).2
      exact va_Nw.use (zn_on hi) (zn_warm hi hW (K.2.2.2.1 w hz))
  have hgood : ∀ w ∈ Cond.classLink RX11 ik (za_exn ex) :: Cond.initialized (za_exn ex) :: za_atX ex, vx_ot w = true := by
    intro w hw
    rcases List.mem_cons.mp hw with rfl | hw
    · rfl
    · rcases List.mem_cons.mp hw with rfl | hw
      · rfl
      · exact zx_ot ex hex w hw
  have hout : ∀ (k : Nat), ∀ x ∈ c.exceptionTable.toList, covers x k = false := fun k x hx => by rw [htab, hhe] at hx; exact absurd hx List.not_mem_nil
  have hsz : ls.size = c.maxLocals := by
    obtain ⟨lc, l9, -⟩ := h4
    exact l9.1.trans hml.symm
  have hX9 : ∀ t9 : State, s.vm.Alike t9.vm → H.size ≤ t9.heap.size → (∀ q : Nat, q < H.size → t9.heap[q]? = H[q]?) → ((.inr ex, t.1, t.2.1) : za_X) ∈ outs → za_XC E ads0 outs (za_exn ex) s t9 := by
    intro t9 _ hs9 hq9 hmem
    refine ⟨ex, t.1, t.2.1, ads, hmem, hex, rfl, h1, h2, ?_, ?_⟩
    · obtain ⟨ws, e1, e2, e3, e4⟩ := h5
      exact ⟨ws, e1, e2, e3.kept (fun k q hk => hq9 q.1 (e3 k q hk).lt), e4⟩
    · have hB := za_Bl_S h0 h6
      exact ⟨Nat.le_trans hB.1 hs9, fun q hq => (hq9 q (Nat.lt_of_lt_of_le hq hB.1)).trans (hB.2 q hq)⟩
  unfold za_thr at h
  split at h
  · rename_i is f3 f4
    split at h
    · rename_i ic f6 f9
      split at h
      · rename_i r1 r2 r3 ex' r4 r5 c1 c2
        obtain ⟨g1, h⟩ := za_bif h
        obtain ⟨g2, h⟩ := za_bif h
        obtain ⟨g3, h⟩ := za_bif h
        obtain ⟨g4, h⟩ := za_bif h
        have g1 := za_beq g1
        subst g1
        cases h
        have x1 := zc_xr c2
        have x2 := zc_xr c1
        simp only [za_xok, Bool.and_eq_true, Bool.or_eq_true] at x1
        have hc11 : za_cl M = 11 := za_beq x1.1
        have hic : ic = za_icx ex' := by
          rcases x1.2 with z | z
          · rw [za_beq z.1, za_beq z.2]; rfl
          · rw [za_beq z.1, za_beq z.2]; rfl
        rw [hc11] at hown l1 x2
        have hsk : is ∈ za_sk := by
          simp only [za_xok] at x2
          simpa using x2
        obtain ⟨tx, sa, hstr⟩ := K.2.2.2.2.2.2.2.2.2.2.2 is hsk
        subst hic
        exact zt_throw (pq := pc + 6) hx hb K.1 (zx_d0 _ hex) (zx_d1 _ hex) (zx_d2 _ hex) (zx_d5 _ hex) hown (zx_fit _ hex) zx_fitn l1 l2 (vk_R.warm hW hstr) hat hgood hU hN h6 hsz hdg (za_fe_1 hdec f3 rfl) (Or.inl ⟨za_fe_1 hdec f4 rfl, rfl⟩) (za_fe_1 hdec f6 rfl) (za_fe_1 hdec f9 rfl) (hout _) (by show 2 + 3 < R.frames; omega) (by rw [za_wt_ok h3]; have := za_ble g2; show za_wt st + (13 * (2 + 1) + 43) ≤ R.locals; omega) (by rw [hRc]; exact za_blt g3) (by rw [hRs]; exact za_ble g4) hlocks (fun t9 a1 a2 a3 => hX9 t9 a1 a2 a3 (ho _ List.mem_cons_self)) (fun z hz => h6.2.2 z hz) (za_blt g3) (za_ble g4)
      · cases h
    · cases h
  · rename_i is f3 f4
    split at h
    · rename_i ic f6 f9
      split at h
      · rename_i r1 r2 r3 ex' r4 r5 c1 c2
        obtain ⟨g1, h⟩ := za_bif h
        obtain ⟨g2, h⟩ := za_bif h
        obtain ⟨g3, h⟩ := za_bif h
        obtain ⟨g4, h⟩ := za_bif h
        have g1 := za_beq g1
        subst g1
        cases h
        have x1 := zc_xr c2
        have x2 := zc_xr c1
        simp only [za_xok, Bool.and_eq_true, Bool.or_eq_true] at x1
        have hc11 : za_cl M = 11 := za_beq x1.1
        have hic : ic = za_icx ex' := by
          rcases x1.2 with z | z
          · rw [za_beq z.1, za_beq z.2]; rfl
          · rw [za_beq z.1, za_beq z.2]; rfl
        rw [hc11] at hown l1 x2
        have hsk : is ∈ za_sk := by
          simp only [za_xok] at x2
          simpa using x2
        obtain ⟨tx, sa, hstr⟩ := K.2.2.2.2.2.2.2.2.2.2.2 is hsk
        subst hic
        exact zt_throw (pq := pc + 7) hx hb K.1 (zx_d0 _ hex) (zx_d1 _ hex) (zx_d2 _ hex) (zx_d5 _ hex) hown (zx_fit _ hex) zx_fitn l1 l2 (vk_R.warm hW hstr) hat hgood hU hN h6 hsz hdg (za_fe_1 hdec f3 rfl) (Or.inr ⟨za_fe_1 hdec f4 rfl, rfl⟩) (za_fe_1 hdec f6 rfl) (za_fe_1 hdec f9 rfl) (hout _) (by show 2 + 3 < R.frames; omega) (by rw [za_wt_ok h3]; have := za_ble g2; show za_wt st + (13 * (2 + 1) + 43) ≤ R.locals; omega) (by rw [hRc]; exact za_blt g3) (by rw [hRs]; exact za_ble g4) hlocks (fun t9 a1 a2 a3 => hX9 t9 a1 a2 a3 (ho _ List.mem_cons_self)) (fun z hz => h6.2.2 z hz) (za_blt g3) (za_ble g4)
      · cases h
    · cases h
  · cases h
end ZM
