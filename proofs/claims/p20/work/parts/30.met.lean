section
/-! ===== the exact interpreter is sound: ends, calls, a method's contract ===== -/
def zp_gW (ads : List Nat) (v : Option zp_V) (w : Option Value) : Prop := match v, w with
  | none, none => True
  | some v, some w => zp_gV ads v w
  | _, _ => False
def zp_Qc (E : za_E) (ads0 : List Nat) (X : zp_X) : Array Value → State → Outcome → State → Prop := fun _ _ o t => ∃ (v : Option zp_V) (ads : List Nat) (w : Option Value), X.1 = .inl v ∧ o = .returned w ∧ zp_gW ads v w ∧ ads0 <+: ads ∧ zp_Wd E ads X.2 t.heap ∧ za_Bl E t.heap
def zp_XC (E : za_E) (ads0 : List Nat) (X : zp_X) : String → State → State → Prop := fun nm _ t => ∃ (ex : Nat) (ads : List Nat), X.1 = .inr ex ∧ ex < 2 ∧ nm = za_exn ex ∧ ads0 <+: ads ∧ zp_Wd E ads X.2 t.heap ∧ za_Bl E t.heap
def zp_Pc (E : za_E) (s0 : State) (ads : List Nat) (as : List zp_V) (h : zp_H) : Array Value → State → Prop := fun a U => ∃ vs : List Value, a = vs.toArray ∧ za_F2 (zp_gV ads) as vs ∧ zp_Wd E ads h U.heap ∧ s0.WarmedH U.vm ∧ za_Bl E U.heap
theorem zp_Pc_blind {E : za_E} {s0 : State} {ads : List Nat} {as : List zp_V} {h : zp_H} : FrameBlind (zp_Pc E s0 ads as h) := fun _ _ _ _ q => q
/-- the callees' contracts -/
def zp_IH (l : Launch) (E : za_E) (s0 : State) (d : Nat) (C : zp_C) : Prop := ∀ (j : Nat) (Y : za_MI) (as : List zp_V) (h : zp_H) (X : zp_X) (ads : List Nat), za_MT j = some Y → C j as h X → vx_Met l Y.1 [za_word Y] (za_rm d Y) (zp_Pc E s0 ads as h) (zp_Qc E ads X) (zp_XC E ads X) (za_mc Y) (za_ms Y) (za_A E)
theorem zp_gW_st {ads : List Nat} {v : Option zp_V} {w : Option Value} {rest : List zp_V} {rst : List Value} (h : zp_gW ads v w) (hr : za_F2 (zp_gV ads) rest rst) : za_F2 (zp_gV ads) (v.toList ++ rest) (w.toList ++ rst) := by
  match v, w, h with
  | none, none, _ => exact hr
  | some v, some w, h => exact ⟨h, hr⟩
theorem zp_lv_mono {ads ads' : List Nat} (h : ads <+: ads') {ls : Array Slot} {nL : Nat} {lv : zp_LV} (hl : ∃ lc, lv_has ls nL lc ∧ za_F2 (zp_gP ads) lv lc) : ∃ lc, lv_has ls nL lc ∧ za_F2 (zp_gP ads') lv lc := by
  obtain ⟨lc, l1, l2⟩ := hl
  exact ⟨lc, l1, za_F2_mono (fun a b hab => ⟨hab.1, zp_gV_mono h hab.2⟩) l2⟩
section ZY
variable {p : Program} {l : Launch} {e : Env} {R : Room} {s s0 : State} {m : MethodId} {args : Array Value} {below : List Frame} {meth : Method} {c : Code} {E : za_E} {ads0 : List Nat} {pc L d : Nat} {M : za_MI} {C : zp_C} {lv : zp_LV} {t : zp_T} {st : List zp_V} {X0 : zp_X}
theorem zy_iret (X : za_Cx p l R s m args meth c E L s0 d M) (hdg : decode M.2.1 pc = .ok (.ireturn, 1))
    (h : zp_iret (za_mc M) (za_ms M) (za_rt M) st t = some X0) : zp_G p l e R s m args below meth c (vx_MQ below (zp_Qc E ads0 X0) (zp_XC E ads0 X0) args s (za_mc M) (za_ms M) (za_A E)) E (za_nL M) ads0 (pc, lv, st, t) := by
  obtain ⟨hx, hb, hml, hr, hlocks, hnm, hown, htab, K, hW, h0, hdec, hRf, hRl, hRc, hRs⟩ := X
  intro ads H locs ls stk Mm
  obtain ⟨h1, h3, h4, h5, h6⟩ := Mm
  unfold zp_iret at h
  split at h
  · rename_i a hrt
    split at h
    · rename_i g
      obtain ⟨_, stk1, rfl, rfl, q1⟩ := za_F2_cons h3
      have e1 := za_F2_nil q1
      subst e1
      cases h
      exact W.widen g.1 g.2 (vx_ret (W.iret hx hb (hr.trans hrt) (fun t9 ht _ => ⟨_, ads, _, rfl, rfl, show zp_gW ads (some (.inl a)) (some (.int a)) from rfl, h1, by rw [ht]; exact h5, by rw [ht]; exact za_Bl_S h0 h6⟩) (fun q hq => h6.2.2 q hq) hdg hlocks))
    · cases h
  · rename_i a hrt
    split at h
    · rename_i g
      obtain ⟨_, stk1, rfl, rfl, q1⟩ := za_F2_cons h3
      have e1 := za_F2_nil q1
      subst e1
      have hn : narrow .boolean (.int a) = .int a := by
        rcases g.2 with rfl | rfl
        · rfl
        · rfl
      cases h
      exact W.widen g.1.1 g.1.2 (vx_ret (W.zret hx hb (hr.trans hrt) hn (fun t9 ht _ => ⟨_, ads, _, rfl, rfl, show zp_gW ads (some (.inl a)) (some (.int a)) from rfl, h1, by rw [ht]; exact h5, by rw [ht]; exact za_Bl_S h0 h6⟩) (fun q hq => h6.2.2 q hq) hdg hlocks))
    · cases h
  · cases h
theorem zy_lret (X : za_Cx p l R s m args meth c E L s0 d M) (hdg : decode M.2.1 pc = .ok (.lreturn, 1))
    (h : zp_lret (za_mc M) (za_ms M) (za_rt M) st t = some X0) : zp_G p l e R s m args below meth c (vx_MQ below (zp_Qc E ads0 X0) (zp_XC E ads0 X0) args s (za_mc M) (za_ms M) (za_A E)) E (za_nL M) ads0 (pc, lv, st, t) := by
  obtain ⟨hx, hb, hml, hr, hlocks, hnm, hown, htab, K, hW, h0, hdec, hRf, hRl, hRc, hRs⟩ := X
  intro ads H locs ls stk Mm
  obtain ⟨h1, h3, h4, h5, h6⟩ := Mm
  unfold zp_lret at h
  split at h
  · rename_i a hrt
    split at h
    · rename_i g
      obtain ⟨_, stk1, rfl, rfl, q1⟩ := za_F2_cons h3
      have e1 := za_F2_nil q1
      subst e1
      cases h
      exact W.widen g.1 g.2 (vx_ret (W.lret hx hb (hr.trans hrt) (fun t9 ht _ => ⟨_, ads, _, rfl, rfl, show zp_gW ads (some (.inr (.inl a))) (some (.long a)) from rfl, h1, by rw [ht]; exact h5, by rw [ht]; exact za_Bl_S h0 h6⟩) (fun q hq => h6.2.2 q hq) hdg hlocks))
    · cases h
  · cases h
theorem zy_vret (X : za_Cx p l R s m args meth c E L s0 d M) (hdg : decode M.2.1 pc = .ok (.return_, 1))
    (h : zp_vret (za_mc M) (za_ms M) (za_rt M) st t = some X0) : zp_G p l e R s m args below meth c (vx_MQ below (zp_Qc E ads0 X0) (zp_XC E ads0 X0) args s (za_mc M) (za_ms M) (za_A E)) E (za_nL M) ads0 (pc, lv, st, t) := by
  obtain ⟨hx, hb, hml, hr, hlocks, hnm, hown, htab, K, hW, h0, hdec, hRf, hRl, hRc, hRs⟩ := X
  intro ads H locs ls stk Mm
  obtain ⟨h1, h3, h4, h5, h6⟩ := Mm
  unfold zp_vret at h
  split at h
  · rename_i hrt
    split at h
    · rename_i g
      have e1 := za_F2_nil h3
      subst e1
      cases h
      exact W.widen g.1 g.2 (vx_ret (W.vret hx hb (hr.trans hrt) (fun t9 ht _ => ⟨none, ads, none, rfl, rfl, trivial, h1, by rw [ht]; exact h5, by rw [ht]; exact za_Bl_S h0 h6⟩) (fun q hq => h6.2.2 q hq) hdg hlocks))
    · cases h
  · cases h
/-- throw new E(text) -/
theorem zy_thr {ik : Nat} {ex j9 : Nat} {z9 : Int} (X : za_Cx p l R s m args meth c E L s0 d M) (hhe : za_hh M = []) (hrow : za_CP (za_cl M) ik = some (6, ex, j9, z9)) (hdg : decode M.2.1 pc = .ok (.new ik, 3)) (h : zp_thr (za_mc M) (za_ms M) (za_is M) (za_CP (za_cl M)) ex pc st t = some X0) : zp_G p l e R s m args below meth c (vx_MQ below (zp_Qc E ads0 X0) (zp_XC E ads0 X0) args s (za_mc M) (za_ms M) (za_A E)) E (za_nL M) ads0 (pc, lv, st, t) := by
  obtain ⟨hx, hb, hml, hr, hlocks, hnm, hown, htab, K, hW, h0, hdec, hRf, hRl, hRc, hRs⟩ := X
  intro ads H locs ls stk Mm
  obtain ⟨h1, h3, h4, h5, h6⟩ := Mm
  obtain ⟨w1, w2⟩ := zc_row hrow
  have hex : ex < 2 := za_blt w2
  have l1 := zk_w K hW (a9 := args) _ (w1 _ List.mem_cons_self)
  have l2 := zk_w K hW (a9 := args) _ (w1 _ (List.mem_cons_of_mem _ List.mem_cons_self))
  have hH0 : s0.heap = za_H0 E := K.2.1.symm
  have hqk : ∀ a : Nat, a < s0.heap.size → ¬ za_A E a → s.heap[a]? = s0.heap[a]? := fun a ha _ => by rw [hH0] at ha ⊢; exact h0.2 a ha
  have hU : vx_Zq Bundle.tN "UNASSIGNED_STACK" Bundle.steD (za_A E) s s.heap := (K.2.2.2.2.2.2.2.1.kept hqk).moved hW.alike
  have hN : vx_Zq Bundle.tN "SUPPRESSED_SENTINEL" Bundle.listD (za_A E) s s.heap := (K.2.2.2.2.2.2.2.2.1.kept hqk).moved hW.alike
  have hat : ∀ w ∈ za_atX ex, w.before args s = true := by
    intro w hw
    by_cases g : goodWord w = true
    · exact zk_w K hW w (List.mem_filter.mpr ⟨zx_at ex hex w (List.mem_filter.mpr ⟨hw, g⟩), g⟩)
    · have hz := zx_no ex hex w (List.mem_filter.mpr ⟨hw, by simpa using g⟩)
      have hi := (List.mem_filter.mp hz).2
      exact va_Nw.use (zn_on hi) (zn_warm hi hW (K.2.2.2.1 w hz))
  have hgood : ∀ w ∈ Cond.classLink RX11 ik (za_exn ex) :: Cond.initialized (za_exn ex) :: za_atX ex, vx_ot w = true := by
    intro w hw
    rcases List.mem_cons.mp hw with rfl | hw
    · rfl
    · rcases List.mem_cons.mp hw with rfl | hw
      · rfl
      · exact zx_ot ex hex w hw
  have hout : ∀ (k : Nat), ∀ x ∈ c.exceptionTable.toList, covers x k = false := fun k x hx => by rw [htab, hhe] at hx; exact absurd hx List.not_mem_nil
  have hsz : ls.size = c.maxLocals := by
    obtain ⟨lc, l9, -⟩ := h4
    exact l9.1.trans hml.symm
  have hX9 : ∀ t9 : State, s.vm.Alike t9.vm → H.size ≤ t9.heap.size → (∀ q : Nat, q < H.size → t9.heap[q]? = H[q]?) → X0 = (.inr ex, t.1) → zp_XC E ads0 X0 (za_exn ex) s t9 := by
    intro t9 _ hs9 hq9 hmem
    subst hmem
    refine ⟨ex, ads, rfl, hex, rfl, h1, ?_, ?_⟩
    · obtain ⟨ws, e1, e2, e3, e4, e5⟩ := h5
      exact ⟨ws, e1, e2, e3, e4.kept (fun k q hk => hq9 q.1 (e4 k q hk).lt), e5⟩
    · have hB := za_Bl_S h0 h6
      exact ⟨Nat.le_trans hB.1 hs9, fun q hq => (hq9 q (Nat.lt_of_lt_of_le hq hB.1)).trans (hB.2 q hq)⟩
  unfold zp_thr at h
  split at h
  · rename_i is f3 f4
    split at h
    · rename_i ic f6 f9
      split at h
      · rename_i r1 r2 r3 ex' r4 r5 c1 c2
        split at h
        · rename_i hc
          obtain ⟨g1, g2, g3, g4⟩ := hc
          subst g1
          cases h
          have x1 := zc_xr c2
          have x2 := zc_xr c1
          simp only [za_xok, Bool.and_eq_true, Bool.or_eq_true] at x1
          have hc11 : za_cl M = 11 := za_beq x1.1
          have hic : ic = za_icx ex' := by
            rcases x1.2 with z | z
            · rw [za_beq z.1, za_beq z.2]; rfl
            · rw [za_beq z.1, za_beq z.2]; rfl
          rw [hc11] at hown l1 x2
          have hsk : is ∈ za_sk := by
            simp only [za_xok] at x2
            simpa using x2
          obtain ⟨tx, sa, hstr⟩ := K.2.2.2.2.2.2.2.2.2.2.2 is hsk
          subst hic
          exact zt_throw (pq := pc + 6) hx hb K.1 (zx_d0 _ hex) (zx_d1 _ hex) (zx_d2 _ hex) (zx_d5 _ hex) hown (zx_fit _ hex) zx_fitn l1 l2 (vk_R.warm hW hstr) hat hgood hU hN h6 hsz hdg (za_fe_1 hdec f3 rfl) (Or.inl ⟨za_fe_1 hdec f4 rfl, rfl⟩) (za_fe_1 hdec f6 rfl) (za_fe_1 hdec f9 rfl) (hout _) (by show 2 + 3 < R.frames; omega) (by rw [zp_wt_ok h3]; show zp_wt st + (13 * (2 + 1) + 43) ≤ R.locals; omega) (by rw [hRc]; exact g3) (by rw [hRs]; exact g4) hlocks (fun t9 a1 a2 a3 => hX9 t9 a1 a2 a3 rfl) (fun z hz => h6.2.2 z hz) g3 g4
        · cases h
      · cases h
    · cases h
  · rename_i is f3 f4
    split at h
    · rename_i ic f6 f9
      split at h
      · rename_i r1 r2 r3 ex' r4 r5 c1 c2
        split at h
        · rename_i hc
          obtain ⟨g1, g2, g3, g4⟩ := hc
          subst g1
          cases h
          have x1 := zc_xr c2
          have x2 := zc_xr c1
          simp only [za_xok, Bool.and_eq_true, Bool.or_eq_true] at x1
          have hc11 : za_cl M = 11 := za_beq x1.1
          have hic : ic = za_icx ex' := by
            rcases x1.2 with z | z
            · rw [za_beq z.1, za_beq z.2]; rfl
            · rw [za_beq z.1, za_beq z.2]; rfl
          rw [hc11] at hown l1 x2
          have hsk : is ∈ za_sk := by
            simp only [za_xok] at x2
            simpa using x2
          obtain ⟨tx, sa, hstr⟩ := K.2.2.2.2.2.2.2.2.2.2.2 is hsk
          subst hic
          exact zt_throw (pq := pc + 7) hx hb K.1 (zx_d0 _ hex) (zx_d1 _ hex) (zx_d2 _ hex) (zx_d5 _ hex) hown (zx_fit _ hex) zx_fitn l1 l2 (vk_R.warm hW hstr) hat hgood hU hN h6 hsz hdg (za_fe_1 hdec f3 rfl) (Or.inr ⟨za_fe_1 hdec f4 rfl, rfl⟩) (za_fe_1 hdec f6 rfl) (za_fe_1 hdec f9 rfl) (hout _) (by show 2 + 3 < R.frames; omega) (by rw [zp_wt_ok h3]; show zp_wt st + (13 * (2 + 1) + 43) ≤ R.locals; omega) (by rw [hRc]; exact g3) (by rw [hRs]; exact g4) hlocks (fun t9 a1 a2 a3 => hX9 t9 a1 a2 a3 rfl) (fun z hz => h6.2.2 z hz) g3 g4
        · cases h
      · cases h
    · cases h
  · cases h
theorem zy_end {i : Instr} (X : za_Cx p l R s m args meth c E L s0 d M) (hmm : (pc, i) ∈ za_is M) (h : zp_end M (za_CP (za_cl M)) i pc st t = some X0) : zp_G p l e R s m args below meth c (vx_MQ below (zp_Qc E ads0 X0) (zp_XC E ads0 X0) args s (za_mc M) (za_ms M) (za_A E)) E (za_nL M) ads0 (pc, lv, st, t) := by
  obtain ⟨len, hd0, hln⟩ := za_dok_ok (q := (pc, i)) (List.all_eq_true.mp X.2.2.2.2.2.2.2.2.2.2.2.1 _ hmm)
  have hd : za_sw i = false → decode M.2.1 pc = .ok (i, za_ln i) := fun z => by
    rcases hln with h9 | h9
    · rw [show za_sw i = true from h9] at z; cases z
    · rw [show len = za_ln i from h9] at hd0; exact hd0
  unfold zp_end at h
  split at h
  · exact zy_iret X (hd rfl) h
  · exact zy_lret X (hd rfl) h
  · exact zy_vret X (hd rfl) h
  · split at h
    · rename_i k ex j9 z9 hrow hhe
      exact zy_thr X hhe hrow (hd rfl) h
    · cases h
  · cases h
/-! behind a call -/
theorem zy_aft {own : String} {rest : List zp_V} {X1 : zp_X} {cp : Nat → Option za_row} {a9 : Array Value} {mcY msY cells slots : Nat} {ads : List Nat} {H : Heap} {locs : List Loc} {ls : Array Slot} {stk rst : List Value}
    (hx : p.tables.exec = Jvm.exec) (hb : c.code = M.2.1) (hown : s.vm.findClass own = some m.cls) (hlocks : meth.locks = false) (h0 : za_Bl E s.heap) (htab : c.exceptionTable.toList = tableOf (za_hh M)) (hzk : zh_ok s args own cp) (hdec : (za_is M).all (za_dok M.2.1) = true) (hcs : cells + mcY ≤ za_mc M) (hsl : slots + msY ≤ za_ms M)
    (hr : vx_Run p l e R s m args below meth c H locs cells slots mcY msY (F0 m pc ls stk) rst (zp_Qc E ads X1 a9) (zp_XC E ads X1) (za_A E))
    (hK1 : zp_K1 (fun S X => zp_G p l e R s m args below meth c (vx_MQ below (zp_Qc E ads0 X) (zp_XC E ads0 X) args s (za_mc M) (za_ms M) (za_A E)) E (za_nL M) ads0 S) (zp_aft M cp pc lv rest (cells + mcY) (slots + msY) X1) X0)
    (h1 : ads0 <+: ads) (h3 : za_F2 (zp_gV ads) rest rst) (h4 : ∃ lc, lv_has ls (za_nL M) lc ∧ za_F2 (zp_gP ads) lv lc) (h6 : va_S (za_A E) s.heap H locs) :
    W p l e R s m args below meth c H locs cells slots (vx_MQ below (zp_Qc E ads0 X0) (zp_XC E ads0 X0) args s (za_mc M) (za_ms M) (za_A E)) (F0 m pc ls stk) := by
  intro T hT X
  rcases hr T hT X with ⟨v, st₀, t9, T', L9, g0, X', hL, e1, e2, hq, st⟩ | ⟨q, st₀, t9, T', L9, nm, ce, g0, X', hL, e1, e2, hx9, hce, hcv, hcl, st⟩
  · obtain ⟨v9, ads9, w9, m1, m2, m3, m4, m6, m7⟩ := hq
    cases m2
    have hS : va_S (za_A E) s.heap T'.heap (locs ++ L9) := by
      refine ⟨X'.same.2.1, fun q hq1 hq2 => ?_, fun z hz => ?_⟩
      · have hq3 : q < (za_H0 E).size := Nat.not_le.mp hq2
        rw [e1, m7.2 q hq3, h0.2 q hq3]
      · rcases List.mem_append.mp hz with z1 | z1
        · exact h6.2.2 z z1
        · exact hL z z1
    obtain ⟨xo, xh⟩ := X1
    have m1 : xo = .inl v9 := m1
    subst m1
    have hG : zp_G p l e R s m args below meth c (vx_MQ below (zp_Qc E ads0 X0) (zp_XC E ads0 X0) args s (za_mc M) (za_ms M) (za_A E)) E (za_nL M) ads0 (pc + 3, lv, v9.toList ++ rest, xh, cells + mcY, slots + msY) := by
      cases v9 with
      | none => exact hK1
      | some v9 => exact hK1
    obtain ⟨t2, a1, b1⟩ := hG ads9 T'.heap (locs ++ L9) ls (v.toList ++ rst) ⟨h1.trans m4, zp_gW_st m3 (za_F2_mono (fun _ _ => zp_gV_mono m4) h3), zp_lv_mono m4 h4, by rw [e1]; exact m6, hS⟩ T' rfl X'
    exact ⟨t2, st t2 a1, b1⟩
  · obtain ⟨ex, ads9, m1, mex, m2, m4, m6, m7⟩ := hx9
    subst m2
    have hS : va_S (za_A E) s.heap T'.heap (locs ++ L9) := by
      refine ⟨X'.same.2.1, fun q hq1 hq2 => ?_, fun z hz => ?_⟩
      · have hq3 : q < (za_H0 E).size := Nat.not_le.mp hq2
        rw [e1, m7.2 q hq3, h0.2 q hq3]
      · rcases List.mem_append.mp hz with z1 | z1
        · exact h6.2.2 z z1
        · exact hL z z1
    obtain ⟨xo, xh⟩ := X1
    have m1 : xo = .inr ex := m1
    subst m1
    have z1 : zp_K1 (fun S X => zp_G p l e R s m args below meth c (vx_MQ below (zp_Qc E ads0 X) (zp_XC E ads0 X) args s (za_mc M) (za_ms M) (za_A E)) E (za_nL M) ads0 S) (match za_hnd cp pc ex (za_hh M) with
      | none => none
      | some none => some (.inr (.inr ex, xh))
      | some (some hp) => match za_fe (za_is M) hp with
        | some (.astore_n k) => bif Nat.blt k.val (za_nL M) then some (.inl (hp + 1, zp_fl lv k.val, [], xh, cells + mcY, slots + msY)) else none
        | some (.astore k) => bif Nat.blt k (za_nL M) then some (.inl (hp + 2, zp_fl lv k, [], xh, cells + mcY, slots + msY)) else none
        | _ => none) X0 := hK1
    have hce9 : T'.heap[q]? = some ce := by rw [e1]; exact hce
    split at z1
    · exact z1.elim
    · rename_i hhnd
      have z1 : ((.inr ex, xh) : zp_X) = X0 := z1
      subst z1
      have hV : vx_W p l e R s m args below meth c T'.heap (locs ++ L9) (cells + mcY) (slots + msY) (vx_MQ below (zp_Qc E ads0 (.inr ex, xh)) (zp_XC E ads0 (.inr ex, xh)) args s (za_mc M) (za_ms M) (za_A E)) (F0 m pc ls rst) q :=
        vx_out (fun x hx => za_hnd_out hhnd x (by rw [← htab]; exact hx)) hlocks hce9 hcv hcl (fun t8 ht _ => ⟨ex, ads9, rfl, mex, rfl, h1.trans m4, by rw [ht, e1]; exact m6, by rw [ht, e1]; exact m7⟩) (fun z hz => hS.2.2 z hz) hcs hsl
      obtain ⟨t2, a1, b1⟩ := hV T' rfl X'
      exact ⟨t2, st.trans a1, b1⟩
    · rename_i hp hhnd
      have h4 := zp_lv_mono m4 h4
      obtain ⟨lc, l1, l2⟩ := h4
      have hV : vx_W p l e R s m args below meth c T'.heap (locs ++ L9) (cells + mcY) (slots + msY) (vx_MQ below (zp_Qc E ads0 X0) (zp_XC E ads0 X0) args s (za_mc M) (za_ms M) (za_A E)) (F0 m pc ls rst) q := by
        refine zh_catch hown htab hzk mex hhnd hce9 hcv hcl ?_
        split at z1
        · rename_i k hfe
          cases g1 : Nat.blt k.val (za_nL M) with
          | false => rw [g1] at z1; exact z1.elim
          | true =>
            rw [g1] at z1
            refine lv_astore_n hx hb (za_fe_1 hdec hfe rfl) rfl l1 (za_blt g1) rfl (fun ls' h4 => ?_)
            exact z1 ads9 T'.heap (locs ++ L9) ls' [] ⟨h1.trans m4, trivial, ⟨_, ⟨h4.1, h4.2.1, fun z hz => h4.2.2 z (List.mem_cons_of_mem _ hz)⟩, za_F2_filter (fun a b hab => by rw [hab.1, zp_cat_ok hab.2]) l2⟩, by rw [e1]; exact m6, hS⟩
        · rename_i k hfe
          cases g1 : Nat.blt k (za_nL M) with
          | false => rw [g1] at z1; exact z1.elim
          | true =>
            rw [g1] at z1
            refine lv_astore hx hb (za_fe_1 hdec hfe rfl) l1 (za_blt g1) rfl (fun ls' h4 => ?_)
            exact z1 ads9 T'.heap (locs ++ L9) ls' [] ⟨h1.trans m4, trivial, ⟨_, ⟨h4.1, h4.2.1, fun z hz => h4.2.2 z (List.mem_cons_of_mem _ hz)⟩, za_F2_filter (fun a b hab => by rw [hab.1, zp_cat_ok hab.2]) l2⟩, by rw [e1]; exact m6, hS⟩
        · exact z1.elim
      obtain ⟨t2, a1, b1⟩ := hV T' rfl X'
      exact ⟨t2, st.trans a1, b1⟩
theorem zy_met0 {y : MethodName} {ws : List Cond} {rm : Room} {Pc : Array Value → State → Prop} {X1 : zp_X} {ads : List Nat} {mc ms : Nat} {free : Addr → Prop} (h : vx_Met l y ws rm Pc (zp_Qc E ads X1) (zp_XC E ads X1) mc ms free) (hn : zp_nox X1) : Met l y ws rm Pc (zp_Qc E ads X1) mc ms free := by
  intro p e h1 h2 h3 s m args below h4 h5 h6 h7
  obtain ⟨n, o, k1, k2, k3, k4⟩ := h p e h1 h2 h3 s m args below h4 h5 h6 h7
  refine ⟨n, o, k1, k2, k3, ?_⟩
  rcases k4 with k4 | ⟨q, -, E9, ce, L9, ⟨ex, ads9, m1, -⟩, -⟩
  · exact k4
  · unfold zp_nox at hn
    rw [m1] at hn
    exact hn.elim
theorem zy_len {k : Nat} {ads : List Nat} {As : List Value} (hA : za_F2 (zp_gV ads) (st.take k).reverse As) (hk : k ≤ st.length) : As.length = k := by
  rw [← za_F2_len hA]
  simp only [List.length_reverse, List.length_take]
  omega
theorem zy_rk {k own : Nat} {hp : zp_H} (h : zp_isRk st k hp own = true) : ∃ q, st[k]? = some (.inr (.inr (some (q + 1)))) ∧ hp.1[q]? = some (.inl own) := by
  unfold zp_isRk at h
  split at h
  · rename_i q hq
    split at h
    · rename_i ci h9
      have h := za_beq h
      subst h
      exact ⟨q, hq, h9⟩
    · cases h
  · cases h
theorem zy_inv {nx : Bool} {Y : za_MI} {j k : Nat} {X1 : zp_X} (X : za_Cx p l R s m args meth c E L s0 d M) (IH : zp_IH l E s0 d C) (hj : za_MT j = some Y)
    (rule : ∀ {H : Heap} {locs : List Loc} {cells slots : Nat} {ls : Array Slot} {as : List zp_V} {As rst : List Value} {ads : List Nat}, as = (st.take k).reverse → cells + za_mc Y ≤ R.cells ∧ slots + za_ms Y ≤ R.slots → vx_Met l Y.1 [za_word Y] (za_rm d Y) (zp_Pc E s0 ads as t.1) (zp_Qc E ads X1) (zp_XC E ads X1) (za_mc Y) (za_ms Y) (za_A E) → (nx = true → zp_nox X1) → (∀ U : State, U.heap = H → s.WarmedH U.vm → zp_Pc E s0 ads as t.1 As.toArray U) → za_F2 (zp_gV ads) as As → zp_Wd E ads t.1 H → k ≤ st.length → ls.size = za_nL M → (rst.map fun v => v.category).sum ≤ 8 →
      vx_Run p l e R s m args below meth c H locs cells slots (za_mc Y) (za_ms Y) (F0 m pc ls (As.reverse ++ rst)) rst (zp_Qc E ads X1 As.toArray) (zp_XC E ads X1) (za_A E))
    (hp : zp_pre M Y k st t) (hC : C j (st.take k).reverse t.1 X1) (hnx : nx = true → zp_nox X1)
    (hK1 : zp_K1 (fun S X => zp_G p l e R s m args below meth c (vx_MQ below (zp_Qc E ads0 X) (zp_XC E ads0 X) args s (za_mc M) (za_ms M) (za_A E)) E (za_nL M) ads0 S) (zp_aft M (za_CP (za_cl M)) pc lv (st.drop k) (t.2.1 + za_mc Y) (t.2.2 + za_ms Y) X1) X0) : zp_G p l e R s m args below meth c (vx_MQ below (zp_Qc E ads0 X0) (zp_XC E ads0 X0) args s (za_mc M) (za_ms M) (za_A E)) E (za_nL M) ads0 (pc, lv, st, t) := by
  obtain ⟨hx, hb, hml, hr, hlocks, hnm, hown, htab, K, hW, h0, hdec, hRf, hRl, hRc, hRs⟩ := X
  obtain ⟨g1, g2, g3, g4⟩ := hp
  intro ads H locs ls stk Mm
  obtain ⟨h1, h3, h4, h5, h6⟩ := Mm
  obtain ⟨As, rst, e9, s1, s2⟩ : ∃ As rst, stk = As.reverse ++ rst ∧ za_F2 (zp_gV ads) (st.take k).reverse As ∧ za_F2 (zp_gV ads) (st.drop k) rst :=
    ⟨(stk.take k).reverse, stk.drop k, by simp, za_F2_rev (za_F2_split k h3).1, (za_F2_split k h3).2⟩
  subst e9
  have hsz : ls.size = za_nL M := by
    obtain ⟨lc, l9, -⟩ := h4
    exact l9.1
  have hB := za_Bl_S h0 h6
  have hrun := rule (H := H) (locs := locs) (cells := t.2.1) (slots := t.2.2) (ls := ls) (rst := rst) rfl ⟨by rw [hRc]; exact g3, by rw [hRs]; exact g4⟩ (IH j Y _ _ X1 ads hj hC) hnx (fun U hU hWU => ⟨As, rfl, s1, by rw [hU]; exact h5, State.WarmedH.trans hW hWU, by rw [hU]; exact hB⟩) s1 h5 g1 hsz (by rw [zp_wt_ok s2]; exact g2)
  exact zy_aft hx hb hown hlocks h0 htab (zk_zh K hW _) hdec g3 g4 hrun hK1 h1 s2 h4 h6
theorem zy_call {i : Instr} {nx : Bool} {Y : za_MI} {j k : Nat} {X1 : zp_X} (X : za_Cx p l R s m args meth c E L s0 d M) (IH : zp_IH l E s0 d C) (hmm : (pc, i) ∈ za_is M) (h : zp_cl (za_CP (za_cl M)) i st t = some (nx, j, k, Y)) (hp : zp_pre M Y k st t) (hC : C j (st.take k).reverse t.1 X1) (hnx : nx = true → zp_nox X1)
    (hK1 : zp_K1 (fun S X => zp_G p l e R s m args below meth c (vx_MQ below (zp_Qc E ads0 X) (zp_XC E ads0 X) args s (za_mc M) (za_ms M) (za_A E)) E (za_nL M) ads0 S) (zp_aft M (za_CP (za_cl M)) pc lv (st.drop k) (t.2.1 + za_mc Y) (t.2.2 + za_ms Y) X1) X0) : zp_G p l e R s m args below meth c (vx_MQ below (zp_Qc E ads0 X0) (zp_XC E ads0 X0) args s (za_mc M) (za_ms M) (za_A E)) E (za_nL M) ads0 (pc, lv, st, t) := by
  obtain ⟨len, hd0, hln⟩ := za_dok_ok (q := (pc, i)) (List.all_eq_true.mp X.2.2.2.2.2.2.2.2.2.2.2.1 _ hmm)
  have hd : za_sw i = false → decode M.2.1 pc = .ok (i, za_ln i) := fun z => by
    rcases hln with h9 | h9
    · rw [show za_sw i = true from h9] at z; cases z
    · rw [show len = za_ln i from h9] at hd0; exact hd0
  have hfix := zj_fix X
  obtain ⟨-, -, -, -, -, -, -, -, K, hW, -⟩ := id X
  have hK := zk_K K hW
  have recv : ∀ {n : Nat} {Y : za_MI}, zp_isRk st n t.1 (za_cl Y) = true → (vwCl[za_cl Y]?).map (fun q => q.1) = some Y.1.cls → ∀ {ads : List Nat} {As : List Value} {H : Heap}, za_F2 (zp_gV ads) (st.take (n + 1)).reverse As → zp_Wd E ads t.1 H → n + 1 ≤ st.length → ∃ b Bs, As = .ref b :: Bs ∧ Bs.length = n ∧ ∃ cellB : Cell, H[b]? = some cellB ∧ cellB.vm.isStatics = false ∧ s.vm.findClass Y.1.cls = some cellB.cls := by
    intro n Y hrk hcl ads As H hA hw hle
    obtain ⟨q, e1, e2⟩ := zy_rk hrk
    rw [zl_rev e1] at hA
    obtain ⟨_, Bs, rfl, ⟨b, rfl, hb⟩, hB⟩ := za_F2_cons hA
    obtain ⟨ws, x, f1, f2, f3, f4, f5, f6, f7⟩ := zp_obj hw hb e2
    match x, f6, f7 with
    | .inr (cj, vs), f6, f7 =>
      obtain ⟨rfl, -, -⟩ := f7
      refine ⟨b, Bs, rfl, zy_len hB (by omega), ?_⟩
      cases hq : vwCl[za_cl Y]? with
      | none => rw [hq] at hcl; cases hcl
      | some q9 =>
        rw [hq] at hcl
        have hcl : q9.1 = Y.1.cls := Option.some.inj hcl
        rw [← hcl]
        exact va_recv hK f4 hq f6
  unfold zp_cl at h
  split at h
  · rename_i k9
    split at h
    · rename_i j9 n z hrow
      obtain ⟨w1, w2⟩ := zc_row hrow
      split at h
      · rename_i Y9 hj
        obtain ⟨hrk, h⟩ := za_bif h
        cases h
        have hs := zb_Y (show za_sY j _ = true from w2) hj
        simp only [Bool.and_eq_true, decide_eq_true_eq] at hs
        obtain ⟨⟨s1, s2⟩, s3⟩ := hs
        have l1 := zk_w K hW (a9 := args) _ (w1 (Cond.methodLink (za_ow (za_cl M)) k9 Y.1) (by simp [za_need, za_wY, hj]))
        have l2 := zk_w K hW (a9 := args) _ (w1 (Cond.instanceMethod Y.1) (by simp [za_need, za_wY, hj]))
        have l3 := zk_w K hW (a9 := args) _ (w1 (Cond.selects Y.1.cls Y.1 Y.1) (by simp [za_need, za_wY, hj]))
        refine zy_inv X IH hj ?_ hp hC hnx hK1
        intro H locs cells slots ls as As rst ads has hf hM hnx hPc hA hw hle hsz h8
        subst has
        obtain ⟨b, Bs, rfl, hlen, hcell⟩ := recv hrk s2 hA hw hle
        exact vx_runV hfix hM ⟨zj_CB X hj s3 s1 l1, l2, l3⟩ ⟨zp_Pc_blind, hcell, hPc⟩ rfl hlen hsz (by show (Value.ref b :: Bs).reverse ++ rst = _; simp) (by show 2 * 0 + _ ≤ 8; omega) (hd rfl) hf
      · cases h
    · rename_i j9 n z hrow
      obtain ⟨w1, w2⟩ := zc_row hrow
      split at h
      · rename_i Y9 hj
        obtain ⟨hrk, h⟩ := za_bif h
        cases h
        have hs := zb_Y (show za_sY j _ = true from w2) hj
        simp only [Bool.and_eq_true, decide_eq_true_eq] at hs
        obtain ⟨⟨s1, s2⟩, s3⟩ := hs
        have l1 := va_Nw.use (A := args) rfl (((K.2.2.2.1 _ (zc_nest hrow (Cond.methodLinkNest (za_ow (za_cl M)) k9 Y.1 RX11) (by simp [za_nneed, za_wY, hj])))).warmM hW)
        have l2 := zk_w K hW (a9 := args) _ (w1 (Cond.instanceMethod Y.1) (by simp [za_need, za_wY, hj]))
        have l3 := zk_w K hW (a9 := args) _ (w1 (Cond.selects Y.1.cls Y.1 Y.1) (by simp [za_need, za_wY, hj]))
        refine zy_inv X IH hj ?_ hp hC hnx hK1
        intro H locs cells slots ls as As rst ads has hf hM hnx hPc hA hw hle hsz h8
        subst has
        obtain ⟨b, Bs, rfl, hlen, hcell⟩ := recv hrk s2 hA hw hle
        exact zr_of (va_runVN hfix (zy_met0 hM (hnx rfl)) ⟨zj_CN X hj s3 s1 l1, l2, l3⟩ ⟨zp_Pc_blind, hcell, hPc⟩ rfl hlen hsz (by show (Value.ref b :: Bs).reverse ++ rst = _; simp) (by show 2 * 0 + _ ≤ 8; omega) (hd rfl) hf)
      · cases h
    · cases h
  · rename_i k9
    split at h
    · rename_i j9 n z hrow
      obtain ⟨w1, w2⟩ := zc_row hrow
      split at h
      · rename_i Y9 hj
        cases h
        have s1 := zb_Y (show za_sY j _ = true from w2) hj
        have l1 := zk_w K hW (a9 := args) _ (w1 (Cond.methodLink (za_ow (za_cl M)) k9 Y.1) (by simp [za_need, za_wY, hj]))
        have l2 := zk_w K hW (a9 := args) _ (w1 (Cond.static Y.1) (by simp [za_need, za_wY, hj]))
        refine zy_inv X IH hj ?_ hp hC hnx hK1
        intro H locs cells slots ls as As rst ads has hf hM hnx hPc hA hw hle hsz h8
        subst has
        by_cases hh : za_hh Y = []
        · exact vx_runS hfix hM ⟨zj_CB X hj hh s1 l1, l2⟩ ⟨zp_Pc_blind, hPc⟩ rfl (zy_len hA hle) hsz rfl (by show 2 * 0 + _ ≤ 8; omega) (hd rfl) hf
        · exact vx_runSX hfix hM (zj_CSW X hj hh s1 l1 l2) ⟨zp_Pc_blind, hPc⟩ rfl (zy_len hA hle) hsz rfl (by show 2 * 0 + _ ≤ 8; omega) (hd rfl) hf
      · cases h
    · rename_i j9 n z hrow
      obtain ⟨w1, w2⟩ := zc_row hrow
      split at h
      · rename_i Y9 hj
        cases h
        have hs := zb_Y (show za_sY j _ = true from w2) hj
        simp only [Bool.and_eq_true, decide_eq_true_eq] at hs
        obtain ⟨s1, s3⟩ := hs
        have l1 := va_Nw.use (A := args) rfl (((K.2.2.2.1 _ (zc_nest hrow (Cond.methodLinkNest (za_ow (za_cl M)) k9 Y.1 RX11) (by simp [za_nneed, za_wY, hj])))).warmM hW)
        have l2 := zk_w K hW (a9 := args) _ (w1 (Cond.static Y.1) (by simp [za_need, za_wY, hj]))
        refine zy_inv X IH hj ?_ hp hC hnx hK1
        intro H locs cells slots ls as As rst ads has hf hM hnx hPc hA hw hle hsz h8
        subst has
        exact zr_of (va_runSN hfix (zy_met0 hM (hnx rfl)) ⟨zj_CN X hj s3 s1 l1, l2, trivial⟩ ⟨zp_Pc_blind, hPc⟩ rfl (zy_len hA hle) hsz rfl (by show 2 * 0 + _ ≤ 8; omega) (hd rfl) hf)
      · cases h
    · cases h
  · cases h
/-! the run -/
end ZY
theorem zp_sl : ∀ {ads : List Nat} {as : List zp_V} {vs : List Value}, za_F2 (zp_gV ads) as vs → (lg_sl vs).length = zp_wt as
  | _, [], [], _ => rfl
  | _, v :: as, w :: vs, h => by
    have h1 := zp_sl h.2
    have h2 := zp_cat_ok h.1
    have h3 : lg_sl (w :: vs) = (if w.category = 2 then [Slot.val w, Slot.second] else [Slot.val w]) ++ lg_sl vs := rfl
    have h4 : zp_wt (v :: as) = zp_cat v + zp_wt as := rfl
    rw [h3, h4, List.length_append, h1, ← h2]
    cases w <;> rfl
  | _, [], _ :: _, h => h.elim
  | _, _ :: _, [], h => h.elim
theorem zp_args_ok : ∀ {ads : List Nat} {as : List zp_V} {vs : List Value} (i : Nat), za_F2 (zp_gV ads) as vs → za_F2 (zp_gP ads) (zp_args i as) (lv_args i vs)
  | _, [], [], _, _ => trivial
  | _, v :: as, w :: vs, i, h => by
    have h2 := zp_cat_ok h.1
    refine ⟨⟨rfl, h.1⟩, ?_⟩
    rw [h2]
    exact zp_args_ok _ h.2
  | _, [], _ :: _, _, h => h.elim
  | _, _ :: _, [], _, h => h.elim
theorem zy_spec {Y : za_MI} {args : Array Value} {s : State} {m : MethodId} (h : (za_word Y).before args s = true) (hn : s.methodNamed? Y.1 = some m) : ∃ meth c, s.vm.method? m = some meth ∧ meth.code = some c ∧ c.code = Y.2.1 ∧ c.maxLocals = za_nL Y ∧ meth.sig.returnType = za_rt Y ∧ meth.locks = false ∧ c.exceptionTable.toList = tableOf (za_hh Y) := by
  by_cases hh : za_hh Y = []
  · rw [zj_code hh] at h
    obtain ⟨meth, c, h1, h2, h3, h4, h5, h6, h7, -⟩ := Cond.code_spec hn h
    exact ⟨meth, c, h1, h2, h3, h4, h5, h6, by rw [Array.isEmpty_iff.mp h7, hh]; rfl⟩
  · rw [zj_with hh] at h
    obtain ⟨m9, meth, c, hn9, h1, h2, h3, h4, h6, h5, h7, -⟩ := Cond.codeWith_spec h
    cases Option.some.inj (hn9.symm.trans hn)
    exact ⟨meth, c, h1, h2, h3, h4, h5, h7, by rw [← h6, table_eq]⟩
end
section
/-! ===== the abstract executor: values, facts ===== -/
/-- (0, c): the number c; (j + 1, c): the j-th unknown and c -/
abbrev zk_I : Type := Nat × Int
/-- a number; none: a long; some r: a reference -/
abbrev zk_V : Type := zk_I ⊕ Option (Option Nat)
/-- least, most, isn't 0, what divides it -/
abbrev zk_E : Type := Int × Int × Bool × Nat
/-- how many unknowns; their ranges; fields (place, slot, written, value); array places; sums -/
abbrev zk_A : Type := Nat × List (Nat × zk_E) × List (Nat × Nat × Bool × zk_I) × List (Nat × zk_I × zk_I) × List (Nat × zk_I × zk_I × zk_I)
/-- shape, references, fields' ranges, arrays' ranges (modulus, ranges), conditions, what the ghost reads -/
abbrev zk_B : Type := List zp_K × (Nat → Nat → Option (Option Nat)) × (Nat → Nat → Option (Int × Int)) × (Nat → Nat × List (Int × Int)) × List (Nat × Nat × Int × Nat × Int × Int) × (Nat → Nat → Bool)
def zk_ev (τ : Nat → Int) (a : zk_I) : Int := match a.1 with
  | 0 => a.2
  | j + 1 => τ j + a.2
def zk_ok (t : Int) (e : zk_E) : Prop := e.1 ≤ t ∧ t ≤ e.2.1 ∧ (e.2.2.1 = true → t ≠ 0) ∧ ((e.2.2.2 : Int) ∣ t)
def zk_mo (τ : Nat → Int) (q : Nat × zk_I × zk_I × zk_I) : Prop := match q.1 with
  | 0 => zk_ev τ q.2.2.2 = zk_ev τ q.2.1 + zk_ev τ q.2.2.1 ∧ -2147483648 ≤ zk_ev τ q.2.2.2 ∧ zk_ev τ q.2.2.2 ≤ 2147483647
  | 1 => zk_ev τ q.2.2.2 = zk_ev τ q.2.1 - zk_ev τ q.2.2.1 ∧ -2147483648 ≤ zk_ev τ q.2.2.2 ∧ zk_ev τ q.2.2.2 ≤ 2147483647
  | 2 => zk_ev τ q.2.2.2 = (Int32.ofInt (zk_ev τ q.2.1) &&& Int32.ofInt (zk_ev τ q.2.2.1)).toInt
  | _ => zk_ev τ q.2.2.1 ≤ zk_ev τ q.2.1
/-- a field's number, or the ghost's -/
def zk_fv (gh : zp_H → Int) (H : zp_H) (p k : Nat) : Int := if p = 72 ∧ k = 100 then gh H else (H.2.1 p k).toInt
def zk_in (x : Int) (r : Int × Int) : Prop := r.1 ≤ x ∧ x ≤ r.2
/-- the numbers' part -/
def zk_N (τ : Nat → Int) (A : zk_A) : Prop := (∀ q ∈ A.2.1, q.1 < A.1 ∧ zk_ok (τ q.1) q.2) ∧ (∀ q ∈ A.2.2.2.2, q.2.1.1 ≤ A.1 ∧ q.2.2.1.1 ≤ A.1 ∧ q.2.2.2.1 ≤ A.1 ∧ zk_mo τ q)
/-- the heap's part -/
def zk_Hp (B : zk_B) (gh : zp_H → Int) (J : zp_H → Prop) (τ : Nat → Int) (A : zk_A) (H : zp_H) : Prop :=
  H.1 = B.1 ∧ (∀ p k r, B.2.1 p k = some r → H.2.2.2 p k = r) ∧
  (∀ q ∈ A.2.2.1, q.2.2.2.1 ≤ A.1 ∧ zk_fv gh H q.1 q.2.1 = zk_ev τ q.2.2.2) ∧
  (∀ q ∈ A.2.2.2.1, q.2.1.1 ≤ A.1 ∧ q.2.2.1 ≤ A.1 ∧ 0 ≤ zk_ev τ q.2.1 ∧ (H.2.1 q.1 (zk_ev τ q.2.1).toNat).toInt = zk_ev τ q.2.2) ∧
  (∀ p k r, B.2.2.1 p k = some r → (∃ q ∈ A.2.2.1, q.1 = p ∧ q.2.1 = k) ∨ zk_in (zk_fv gh H p k) r) ∧
  (∀ (p t n i : Nat) (r : Int × Int), B.1[p]? = some (.inr (t, n)) → i < n → (B.2.2.2.1 p).2[i % (B.2.2.2.1 p).1]? = some r → zk_in (H.2.1 p i).toInt r) ∧
  (∀ c ∈ B.2.2.2.2.1, (∃ q ∈ A.2.2.1, q.1 = c.1 ∧ (q.2.1 = c.2.1 ∨ q.2.1 = c.2.2.2.1) ∧ q.2.2.1 = true) ∨ (zk_fv gh H c.1 c.2.1 = c.2.2.1 → zk_in (zk_fv gh H c.1 c.2.2.2.1) c.2.2.2.2)) ∧
  J H
def zk_gV (τ : Nat → Int) (n : Nat) (a : zk_V) (v : zp_V) : Prop := match a, v with
  | .inl i, .inl x => i.1 ≤ n ∧ x.toInt = zk_ev τ i
  | .inr none, .inr (.inl _) => True
  | .inr (some r), .inr (.inr r') => r' = r
  | _, _ => False
def zk_ext (n : Nat) (τ τ' : Nat → Int) : Prop := ∀ j, j < n → τ' j = τ j
theorem zk_ext_r {n : Nat} (τ : Nat → Int) : zk_ext n τ τ := fun _ _ => rfl
theorem zk_ext_t {n n' : Nat} {τ τ' τ'' : Nat → Int} (hn : n ≤ n') (h1 : zk_ext n τ τ') (h2 : zk_ext n' τ' τ'') : zk_ext n τ τ'' := fun j hj => (h2 j (Nat.lt_of_lt_of_le hj hn)).trans (h1 j hj)
theorem zk_ev_x {n : Nat} {τ τ' : Nat → Int} {a : zk_I} (ha : a.1 ≤ n) (h : zk_ext n τ τ') : zk_ev τ' a = zk_ev τ a := by
  obtain ⟨k, c⟩ := a
  cases k with
  | zero => rfl
  | succ j =>
    show τ' j + c = τ j + c
    rw [h j ha]
theorem zk_gV_x {n n' : Nat} {τ τ' : Nat → Int} (hn : n ≤ n') (h : zk_ext n τ τ') {a : zk_V} {v : zp_V} (hv : zk_gV τ n a v) : zk_gV τ' n' a v := by
  match a, v, hv with
  | .inl i, .inl x, hv => exact ⟨Nat.le_trans hv.1 hn, by rw [zk_ev_x hv.1 h]; exact hv.2⟩
  | .inr none, .inr (.inl _), _ => trivial
  | .inr (some r), .inr (.inr r'), hv => exact hv
theorem zk_mo_x {n : Nat} {τ τ' : Nat → Int} (h : zk_ext n τ τ') {q : Nat × zk_I × zk_I × zk_I} (h1 : q.2.1.1 ≤ n) (h2 : q.2.2.1.1 ≤ n) (h3 : q.2.2.2.1 ≤ n) (hq : zk_mo τ q) : zk_mo τ' q := by
  unfold zk_mo at hq ⊢
  rw [zk_ev_x h1 h, zk_ev_x h2 h, zk_ev_x h3 h]
  exact hq
theorem zk_N_x {τ τ' : Nat → Int} {A : zk_A} (h : zk_ext A.1 τ τ') (hN : zk_N τ A) : zk_N τ' A :=
  ⟨fun q hq => ⟨(hN.1 q hq).1, by rw [h _ (hN.1 q hq).1]; exact (hN.1 q hq).2⟩, fun q hq => by
    obtain ⟨h1, h2, h3, h4⟩ := hN.2 q hq
    exact ⟨h1, h2, h3, zk_mo_x h h1 h2 h3 h4⟩⟩
/-! a new unknown -/
def zk_up (τ : Nat → Int) (n : Nat) (z : Int) : Nat → Int := fun j => if j = n then z else τ j
theorem zk_up_x (τ : Nat → Int) (n : Nat) (z : Int) : zk_ext n τ (zk_up τ n z) := fun j hj => by
  unfold zk_up
  rw [if_neg (Nat.ne_of_lt hj)]
def zk_new (A : zk_A) (e : zk_E) : zk_A := (A.1 + 1, (A.1, e) :: A.2.1, A.2.2)
theorem zk_new_N {τ : Nat → Int} {A : zk_A} {e : zk_E} {z : Int} (hN : zk_N τ A) (hz : zk_ok z e) : zk_N (zk_up τ A.1 z) (zk_new A e) := by
  have h9 := zk_N_x (zk_up_x τ A.1 z) hN
  refine ⟨fun q hq => ?_, fun q hq => ?_⟩
  · rcases List.mem_cons.mp hq with rfl | hq
    · exact ⟨Nat.lt_succ_self _, by unfold zk_up; rw [if_pos rfl]; exact hz⟩
    · exact ⟨Nat.lt_succ_of_lt (h9.1 q hq).1, (h9.1 q hq).2⟩
  · obtain ⟨h1, h2, h3, h4⟩ := h9.2 q hq
    exact ⟨Nat.le_succ_of_le h1, Nat.le_succ_of_le h2, Nat.le_succ_of_le h3, h4⟩
section KA
variable {B : zk_B} {gh : zp_H → Int} {J : zp_H → Prop} {τ τ' : Nat → Int} {A A' : zk_A} {H : zp_H}
/-- the heap's part looks at fields and array places alone -/
theorem zk_Hp_x (hn : A.1 ≤ A'.1) (ho : A'.2.2.1 = A.2.2.1) (ha : A'.2.2.2.1 = A.2.2.2.1) (h : zk_ext A.1 τ τ') (hH : zk_Hp B gh J τ A H) : zk_Hp B gh J τ' A' H := by
  obtain ⟨h1, h2, h3, h4, h5, h6, h7, h8⟩ := hH
  refine ⟨h1, h2, ?_, ?_, ?_, h6, ?_, h8⟩
  · rw [ho]
    intro q hq
    obtain ⟨g1, g2⟩ := h3 q hq
    exact ⟨Nat.le_trans g1 hn, by rw [zk_ev_x g1 h]; exact g2⟩
  · rw [ha]
    intro q hq
    obtain ⟨g1, g2, g3, g4⟩ := h4 q hq
    exact ⟨Nat.le_trans g1 hn, Nat.le_trans g2 hn, by rw [zk_ev_x g1 h]; exact g3, by rw [zk_ev_x g1 h, zk_ev_x g2 h]; exact g4⟩
  · rw [ho]; exact h5
  · rw [ho]; exact h7
end KA
/-! ranges -/
def zk_lk : List (Nat × zk_E) → Nat → Option zk_E
  | [], _ => none
  | q :: l, j => bif Nat.beq q.1 j then some q.2 else zk_lk l j
theorem zk_lk_m : ∀ {l : List (Nat × zk_E)} {j : Nat} {e : zk_E}, zk_lk l j = some e → (j, e) ∈ l
  | [], _, _, h => by cases h
  | q :: l, j, e, h => by
    unfold zk_lk at h
    cases hb : Nat.beq q.1 j with
    | true =>
      rw [hb] at h
      have e1 := za_beq hb
      cases h
      rw [← e1]
      exact List.mem_cons_self
    | false =>
      rw [hb] at h
      exact List.mem_cons_of_mem _ (zk_lk_m h)
def zk_rg (A : zk_A) (a : zk_I) : Option (Int × Int) := match a.1 with
  | 0 => some (a.2, a.2)
  | j + 1 => match zk_lk A.2.1 j with
    | some e => some (e.1 + a.2, e.2.1 + a.2)
    | none => none
theorem zk_rg_ok {τ : Nat → Int} {A : zk_A} {a : zk_I} {r : Int × Int} (hN : zk_N τ A) (h : zk_rg A a = some r) : zk_in (zk_ev τ a) r := by
  obtain ⟨k, c⟩ := a
  unfold zk_rg at h
  cases k with
  | zero =>
    cases h
    exact ⟨Int.le_refl _, Int.le_refl _⟩
  | succ j =>
    dsimp only at h
    split at h
    · rename_i e he
      cases h
      obtain ⟨-, g1, g2, -⟩ := hN.1 _ (zk_lk_m he)
      have g1 : e.1 ≤ τ j := g1
      have g2 : τ j ≤ e.2.1 := g2
      show e.1 + c ≤ τ j + c ∧ τ j + c ≤ e.2.1 + c
      omega
    · cases h
/-- what divides it -/
def zk_md (A : zk_A) (a : zk_I) : Nat := match a.1 with
  | 0 => a.2.natAbs
  | j + 1 => match zk_lk A.2.1 j with
    | some e => Nat.gcd e.2.2.2 a.2.natAbs
    | none => 1
theorem zk_md_ok {τ : Nat → Int} {A : zk_A} {a : zk_I} (hN : zk_N τ A) : ((zk_md A a : Nat) : Int) ∣ zk_ev τ a := by
  obtain ⟨k, c⟩ := a
  unfold zk_md
  cases k with
  | zero => exact Int.natAbs_dvd.mpr (Int.dvd_refl _)
  | succ j =>
    dsimp only
    split
    · rename_i e he
      obtain ⟨-, -, -, -, g4⟩ := hN.1 _ (zk_lk_m he)
      have h1 : ((Nat.gcd e.2.2.2 c.natAbs : Nat) : Int) ∣ τ j := Int.dvd_trans (Int.natCast_dvd_natCast.mpr (Nat.gcd_dvd_left _ _)) g4
      have h2 : ((Nat.gcd e.2.2.2 c.natAbs : Nat) : Int) ∣ c := Int.dvd_trans (Int.natCast_dvd_natCast.mpr (Nat.gcd_dvd_right _ _)) (Int.natAbs_dvd.mpr (Int.dvd_refl _))
      exact Int.dvd_add h1 h2
    · exact Int.one_dvd _
/-- a new unknown, or a number if it can be but one -/
def zk_fresh (A : zk_A) (lo hi : Int) (md : Nat) : zk_A × zk_I := bif za_ieq lo hi then (A, (0, lo)) else (zk_new A (lo, hi, false, md), (A.1 + 1, 0))
end
section
/-! ===== numbers: bounds of what the machine reckons ===== -/
theorem zn_t (x : Int32) : x.toInt = if 2 * x.toBitVec.toNat < 2 ^ 32 then (x.toBitVec.toNat : Int) else (x.toBitVec.toNat : Int) - ((2 ^ 32 : Nat) : Int) := BitVec.toInt_eq_toNat_cond x.toBitVec
theorem zn_nn {x : Int32} (h : 0 ≤ x.toInt) : x.toInt = (x.toBitVec.toNat : Int) ∧ x.toBitVec.toNat < 2147483648 := by
  have h1 := zn_t x
  have h2 := x.toBitVec.isLt
  split at h1
  · exact ⟨h1, by omega⟩
  · omega
theorem zn_of {x : Int32} (h : x.toBitVec.toNat < 2147483648) : x.toInt = (x.toBitVec.toNat : Int) := by
  have h1 := zn_t x
  split at h1
  · exact h1
  · omega
theorem zn_andR (x : Int32) {y : Int32} (h : 0 ≤ y.toInt) : 0 ≤ (x &&& y).toInt ∧ (x &&& y).toInt ≤ y.toInt := by
  obtain ⟨h1, h2⟩ := zn_nn h
  have h3 : (x &&& y).toBitVec.toNat = x.toBitVec.toNat &&& y.toBitVec.toNat := by
    rw [Int32.toBitVec_and, BitVec.toNat_and]
  have h4 : x.toBitVec.toNat &&& y.toBitVec.toNat ≤ y.toBitVec.toNat := Nat.and_le_right
  have h5 := zn_of (x := x &&& y) (by omega)
  omega
theorem zn_andL {x : Int32} (y : Int32) (h : 0 ≤ x.toInt) : 0 ≤ (x &&& y).toInt ∧ (x &&& y).toInt ≤ x.toInt := by
  obtain ⟨h1, h2⟩ := zn_nn h
  have h3 : (x &&& y).toBitVec.toNat = x.toBitVec.toNat &&& y.toBitVec.toNat := by
    rw [Int32.toBitVec_and, BitVec.toNat_and]
  have h4 : x.toBitVec.toNat &&& y.toBitVec.toNat ≤ x.toBitVec.toNat := Nat.and_le_left
  have h5 := zn_of (x := x &&& y) (by omega)
  omega
theorem zn_or {x y : Int32} {k : Nat} (hk : k ≤ 31) (h1 : 0 ≤ x.toInt) (h2 : 0 ≤ y.toInt) (h3 : x.toInt < ((2 ^ k : Nat) : Int)) (h4 : y.toInt < ((2 ^ k : Nat) : Int)) : 0 ≤ (x ||| y).toInt ∧ (x ||| y).toInt < ((2 ^ k : Nat) : Int) := by
  obtain ⟨a1, a2⟩ := zn_nn h1
  obtain ⟨b1, b2⟩ := zn_nn h2
  have h5 : (x ||| y).toBitVec.toNat = x.toBitVec.toNat ||| y.toBitVec.toNat := by
    rw [Int32.toBitVec_or, BitVec.toNat_or]
  have h6 : x.toBitVec.toNat ||| y.toBitVec.toNat < 2 ^ k := Nat.or_lt_two_pow (by omega) (by omega)
  have h7 : 2 ^ k ≤ 2 ^ 31 := Nat.pow_le_pow_right (by decide) hk
  have h8 := zn_of (x := x ||| y) (by omega)
  omega
theorem zn_shl0 : ∀ c : Fin 31, ((1 : Int32) <<< (Int32.ofNat c.val &&& 31)).toInt = ((2 ^ c.val : Nat) : Int) := by decide +kernel
theorem zn_shl {y : Int32} (h1 : 0 ≤ y.toInt) (h2 : y.toInt ≤ 30) : ((1 : Int32) <<< (y &&& 31)).toInt = ((2 ^ y.toInt.toNat : Nat) : Int) := by
  have h3 : y = Int32.ofNat y.toInt.toNat := by
    apply Int32.toInt_inj.mp
    rw [Int32.toInt_ofNat_of_lt (by omega)]
    omega
  have h4 := zn_shl0 ⟨y.toInt.toNat, by omega⟩
  rw [← h3] at h4
  exact h4
theorem zn_add {x y : Int32} (h1 : -2147483648 ≤ x.toInt + y.toInt) (h2 : x.toInt + y.toInt ≤ 2147483647) : (x + y).toInt = x.toInt + y.toInt := by
  rw [Int32.toInt_add]
  exact za_bmod h1 h2
theorem zn_sub {x y : Int32} (h1 : -2147483648 ≤ x.toInt - y.toInt) (h2 : x.toInt - y.toInt ≤ 2147483647) : (x - y).toInt = x.toInt - y.toInt := by
  rw [Int32.toInt_sub]
  exact za_bmod h1 h2
theorem zn_mul {x y : Int32} (h1 : -2147483648 ≤ x.toInt * y.toInt) (h2 : x.toInt * y.toInt ≤ 2147483647) : (x * y).toInt = x.toInt * y.toInt := by
  rw [Int32.toInt_mul]
  exact za_bmod h1 h2
theorem zn_neg {x : Int32} (h1 : -2147483647 ≤ x.toInt) : (-x).toInt = 0 - x.toInt := by
  have h2 := za_int x
  rw [Int32.toInt_neg, za_bmod (by omega) (by omega)]
  omega
theorem zn_div {x y : Int32} (h1 : 0 ≤ x.toInt) (h2 : 0 < y.toInt) : (x / y).toInt = x.toInt / y.toInt ∧ 0 ≤ x.toInt / y.toInt ∧ x.toInt / y.toInt ≤ x.toInt := by
  have h3 : 0 ≤ x.toInt / y.toInt := Int.ediv_nonneg h1 (by omega)
  have h4 : x.toInt / y.toInt ≤ x.toInt := Int.ediv_le_self _ h1
  have h5 := za_int x
  refine ⟨?_, h3, h4⟩
  rw [Int32.toInt_div, Int.tdiv_eq_ediv_of_nonneg h1]
  exact za_bmod (by omega) (by omega)
theorem zn_rem {x y : Int32} (h1 : 0 ≤ x.toInt) (h2 : 0 < y.toInt) : 0 ≤ (x - x / y * y).toInt ∧ (x - x / y * y).toInt ≤ x.toInt ∧ (x - x / y * y).toInt < y.toInt := by
  obtain ⟨g1, g2, g3⟩ := zn_div h1 h2
  have h5 := za_int x
  have h6 : x.toInt / y.toInt * y.toInt ≤ x.toInt := Int.ediv_mul_le _ (by omega)
  have h7 : x.toInt < (x.toInt / y.toInt + 1) * y.toInt := Int.lt_ediv_add_one_mul_self _ h2
  have h8 : 0 ≤ x.toInt / y.toInt * y.toInt := Int.mul_nonneg g2 (by omega)
  rw [Int.add_mul, Int.one_mul] at h7
  have h9 : (x / y * y).toInt = x.toInt / y.toInt * y.toInt := by
    rw [zn_mul (by rw [g1]; omega) (by rw [g1]; omega), g1]
  have h10 : (x - x / y * y).toInt = x.toInt - x.toInt / y.toInt * y.toInt := by
    rw [zn_sub (by rw [h9]; omega) (by rw [h9]; omega), h9]
  omega
theorem zn_i2b (x : Int32) : -128 ≤ x.toInt8.toInt32.toInt ∧ x.toInt8.toInt32.toInt ≤ 127 := by
  rw [Int8.toInt_toInt32]
  have h1 := Int8.le_toInt x.toInt8
  have h2 := Int8.toInt_lt x.toInt8
  omega
theorem zn_i2b' {x : Int32} (h1 : -128 ≤ x.toInt) (h2 : x.toInt ≤ 127) : x.toInt8.toInt32 = x := by
  apply Int32.toInt_inj.mp
  rw [Int8.toInt_toInt32, Int32.toInt_toInt8]
  rw [Int.bmod_def]
  omega
/-! ===== reckoning on what is known of numbers ===== -/
def zk_Rs (τ : Nat → Int) (A : zk_A) (z : Int) (q : zk_A × zk_I) : Prop := ∃ τ', zk_ext A.1 τ τ' ∧ A.1 ≤ q.1.1 ∧ zk_N τ' q.1 ∧ q.1.2.2.1 = A.2.2.1 ∧ q.1.2.2.2.1 = A.2.2.2.1 ∧ q.2.1 ≤ q.1.1 ∧ z = zk_ev τ' q.2
section KN
variable {τ : Nat → Int} {A : zk_A} {z : Int} {a b r : zk_I} {x y : Int32} {q : zk_A × zk_I}
theorem zk_Rs_s (hN : zk_N τ A) (hr : r.1 ≤ A.1) (hz : z = zk_ev τ r) : zk_Rs τ A z (A, r) := ⟨τ, zk_ext_r τ, Nat.le_refl _, hN, rfl, rfl, hr, hz⟩
theorem zk_fresh_ok {lo hi : Int} {md : Nat} (hN : zk_N τ A) (h1 : lo ≤ z) (h2 : z ≤ hi) (h3 : (md : Int) ∣ z) : zk_Rs τ A z (zk_fresh A lo hi md) := by
  unfold zk_fresh
  cases h : za_ieq lo hi with
  | true =>
    have e := za_ieq_t h
    exact zk_Rs_s hN (Nat.zero_le _) (by show z = lo; omega)
  | false =>
    refine ⟨zk_up τ A.1 z, zk_up_x τ A.1 z, Nat.le_succ _, zk_new_N hN ⟨h1, h2, (fun h => Bool.noConfusion h), h3⟩, rfl, rfl, Nat.le_refl _, ?_⟩
    show z = zk_up τ A.1 z A.1 + 0
    unfold zk_up
    rw [if_pos rfl]
    omega
def zk_full (A : zk_A) : zk_A × zk_I := zk_fresh A (-2147483648) 2147483647 1
theorem zk_full_ok (hN : zk_N τ A) (x : Int32) : zk_Rs τ A x.toInt (zk_full A) := by
  have h := za_int x
  exact zk_fresh_ok hN h.1 h.2 (Int.one_dvd _)
def zk_memo (q : zk_A × zk_I) (op : Nat) (a b : zk_I) : zk_A × zk_I := ((q.1.1, q.1.2.1, q.1.2.2.1, q.1.2.2.2.1, (op, a, b, q.2) :: q.1.2.2.2.2), q.2)
theorem zk_memo_ok {op : Nat} (h : zk_Rs τ A z q) (ha : a.1 ≤ A.1) (hb : b.1 ≤ A.1) (hm : ∀ τ', zk_ext A.1 τ τ' → z = zk_ev τ' q.2 → zk_mo τ' (op, a, b, q.2)) : zk_Rs τ A z (zk_memo q op a b) := by
  obtain ⟨τ', h1, h2, h3, h4, h5, h6, h7⟩ := h
  refine ⟨τ', h1, h2, ⟨h3.1, fun m hmm => ?_⟩, h4, h5, h6, h7⟩
  rcases List.mem_cons.mp hmm with rfl | hmm
  · exact ⟨Nat.le_trans ha h2, Nat.le_trans hb h2, h6, hm τ' h1 h7⟩
  · exact h3.2 m hmm
def zk_eqI (a b : zk_I) : Bool := bif Nat.beq a.1 b.1 then za_ieq a.2 b.2 else false
theorem zk_eqI_t (h : zk_eqI a b = true) : a = b := by
  unfold zk_eqI at h
  cases h1 : Nat.beq a.1 b.1 with
  | false => rw [h1] at h; cases h
  | true =>
    rw [h1] at h
    exact Prod.ext (za_beq h1) (za_ieq_t h)
def zk_look (op : Nat) (a b : zk_I) : List (Nat × zk_I × zk_I × zk_I) → Option zk_I
  | [] => none
  | q :: l => bif Nat.beq q.1 op then bif zk_eqI q.2.1 a then bif zk_eqI q.2.2.1 b then some q.2.2.2 else zk_look op a b l else zk_look op a b l else zk_look op a b l
theorem zk_look_m {op : Nat} : ∀ {l : List (Nat × zk_I × zk_I × zk_I)}, zk_look op a b l = some r → (op, a, b, r) ∈ l
  | [], h => by cases h
  | q :: l, h => by
    unfold zk_look at h
    cases h1 : Nat.beq q.1 op with
    | false => rw [h1] at h; exact List.mem_cons_of_mem _ (zk_look_m h)
    | true =>
      cases h2 : zk_eqI q.2.1 a with
      | false => rw [h1, h2] at h; exact List.mem_cons_of_mem _ (zk_look_m h)
      | true =>
        cases h3 : zk_eqI q.2.2.1 b with
        | false => rw [h1, h2, h3] at h; exact List.mem_cons_of_mem _ (zk_look_m h)
        | true =>
          rw [h1, h2, h3] at h
          cases h
          have e1 := za_beq h1
          have e2 := zk_eqI_t h2
          have e3 := zk_eqI_t h3
          rw [← e1, ← e2, ← e3]
          exact List.mem_cons_self
theorem zk_ev_off (τ : Nat → Int) (a : zk_I) (c : Int) : zk_ev τ (a.1, a.2 + c) = zk_ev τ a + c := by
  obtain ⟨k, d⟩ := a
  cases k with
  | zero => rfl
  | succ j =>
    show τ j + (d + c) = τ j + d + c
    omega
theorem zk_ev_0 {τ : Nat → Int} (h : Nat.beq a.1 0 = true) : zk_ev τ a = a.2 := by
  have e := za_beq h
  obtain ⟨k, d⟩ := a
  have e : k = 0 := e
  subst e
  rfl
def zk_add (A : zk_A) (a b : zk_I) : Option (zk_A × zk_I) := match zk_rg A a, zk_rg A b with
  | some (la, ha), some (lb, hb) =>
    bif (Nat.beq b.1 0).and (za_in (la + b.2) (ha + b.2)) then some (A, (a.1, a.2 + b.2))
    else bif (Nat.beq a.1 0).and (za_in (lb + a.2) (hb + a.2)) then some (A, (b.1, b.2 + a.2))
    else match zk_look 0 a b A.2.2.2.2 with
      | some r => some (A, r)
      | none => bif za_in (la + lb) (ha + hb) then some (zk_memo (zk_fresh A (la + lb) (ha + hb) (Nat.gcd (zk_md A a) (zk_md A b))) 0 a b) else some (zk_full A)
  | _, _ => none
theorem zk_add_ok (hN : zk_N τ A) (ha : a.1 ≤ A.1) (hb : b.1 ≤ A.1) (hx : x.toInt = zk_ev τ a) (hy : y.toInt = zk_ev τ b) (h : zk_add A a b = some q) : zk_Rs τ A (x + y).toInt q := by
  unfold zk_add at h
  split at h
  · rename_i la h1 lb h2 g1 g2
    have r1 := zk_rg_ok hN g1
    have r2 := zk_rg_ok hN g2
    unfold zk_in at r1 r2
    dsimp only at r1 r2
    cases c1 : (Nat.beq b.1 0).and (za_in (la + b.2) (h1 + b.2)) with
    | true =>
      rw [c1] at h
      cases h
      obtain ⟨c2, c3⟩ := Bool.and_eq_true_iff.mp c1
      have e1 := zk_ev_0 (τ := τ) c2
      have e2 := za_in_t c3
      refine zk_Rs_s hN ha ?_
      rw [zk_ev_off, zn_add (by omega) (by omega)]
      omega
    | false =>
      rw [c1] at h
      cases c4 : (Nat.beq a.1 0).and (za_in (lb + a.2) (h2 + a.2)) with
      | true =>
        rw [c4] at h
        cases h
        obtain ⟨c2, c3⟩ := Bool.and_eq_true_iff.mp c4
        have e1 := zk_ev_0 (τ := τ) c2
        have e2 := za_in_t c3
        refine zk_Rs_s hN hb ?_
        rw [zk_ev_off, zn_add (by omega) (by omega)]
        omega
      | false =>
        rw [c4] at h
        simp only [cond_false] at h
        split at h
        · rename_i r hr
          cases h
          obtain ⟨-, -, m3, m4, m5, m6⟩ := hN.2 _ (zk_look_m hr)
          have m4 : zk_ev τ r = zk_ev τ a + zk_ev τ b := m4
          refine zk_Rs_s hN m3 ?_
          dsimp only at m5 m6
          rw [zn_add (by omega) (by omega)]
          omega
        · cases c5 : za_in (la + lb) (h1 + h2) with
          | true =>
            rw [c5] at h
            cases h
            have e2 := za_in_t c5
            have e3 : (x + y).toInt = zk_ev τ a + zk_ev τ b := by rw [zn_add (by omega) (by omega)]; omega
            refine zk_memo_ok (zk_fresh_ok hN (by omega) (by omega) ?_) ha hb (fun τ' hτ hz => ?_)
            · rw [e3]
              exact Int.dvd_add (Int.dvd_trans (Int.natCast_dvd_natCast.mpr (Nat.gcd_dvd_left _ _)) (zk_md_ok hN)) (Int.dvd_trans (Int.natCast_dvd_natCast.mpr (Nat.gcd_dvd_right _ _)) (zk_md_ok hN))
            · have f1 := zk_ev_x ha hτ
              have f2 := zk_ev_x hb hτ
              generalize zk_fresh A (la + lb) (h1 + h2) (Nat.gcd (zk_md A a) (zk_md A b)) = q9 at hz
              show zk_ev τ' q9.2 = zk_ev τ' a + zk_ev τ' b ∧ -2147483648 ≤ zk_ev τ' q9.2 ∧ zk_ev τ' q9.2 ≤ 2147483647
              exact ⟨by omega, by omega, by omega⟩
          | false =>
            rw [c5] at h
            cases h
            exact zk_full_ok hN _
  · cases h
def zk_sub (A : zk_A) (a b : zk_I) : Option (zk_A × zk_I) := match zk_rg A a, zk_rg A b with
  | some (la, ha), some (lb, hb) =>
    bif (Nat.beq b.1 0).and (za_in (la - b.2) (ha - b.2)) then some (A, (a.1, a.2 + -b.2))
    else bif (Nat.beq a.1 b.1).and (za_in (a.2 - b.2) (a.2 - b.2)) then some (A, (0, a.2 - b.2))
    else match zk_look 1 a b A.2.2.2.2 with
      | some r => some (A, r)
      | none => bif za_in (la - hb) (ha - lb) then some (zk_memo (zk_fresh A (la - hb) (ha - lb) 1) 1 a b) else some (zk_full A)
  | _, _ => none
theorem zk_ev_d {τ : Nat → Int} (h : Nat.beq a.1 b.1 = true) : zk_ev τ a - zk_ev τ b = a.2 - b.2 := by
  have e := za_beq h
  obtain ⟨k, c⟩ := a
  obtain ⟨k', d⟩ := b
  have e : k = k' := e
  subst e
  cases k with
  | zero => rfl
  | succ j =>
    show τ j + c - (τ j + d) = c - d
    omega
theorem zk_sub_ok (hN : zk_N τ A) (ha : a.1 ≤ A.1) (hb : b.1 ≤ A.1) (hx : x.toInt = zk_ev τ a) (hy : y.toInt = zk_ev τ b) (h : zk_sub A a b = some q) : zk_Rs τ A (x - y).toInt q := by
  unfold zk_sub at h
  split at h
  · rename_i la h1 lb h2 g1 g2
    have r1 := zk_rg_ok hN g1
    have r2 := zk_rg_ok hN g2
    unfold zk_in at r1 r2
    dsimp only at r1 r2
    cases c1 : (Nat.beq b.1 0).and (za_in (la - b.2) (h1 - b.2)) with
    | true =>
      rw [c1] at h
      cases h
      obtain ⟨c2, c3⟩ := Bool.and_eq_true_iff.mp c1
      have e1 := zk_ev_0 (τ := τ) c2
      have e2 := za_in_t c3
      refine zk_Rs_s hN ha ?_
      rw [zk_ev_off, zn_sub (by omega) (by omega)]
      omega
    | false =>
      rw [c1] at h
      cases c4 : (Nat.beq a.1 b.1).and (za_in (a.2 - b.2) (a.2 - b.2)) with
      | true =>
        rw [c4] at h
        cases h
        obtain ⟨c2, c3⟩ := Bool.and_eq_true_iff.mp c4
        have e1 := zk_ev_d (τ := τ) c2
        have e2 := za_in_t c3
        refine zk_Rs_s hN (Nat.zero_le _) ?_
        show (x - y).toInt = a.2 - b.2
        rw [zn_sub (by omega) (by omega)]
        omega
      | false =>
        rw [c4] at h
        simp only [cond_false] at h
        split at h
        · rename_i r hr
          cases h
          obtain ⟨-, -, m3, m4, m5, m6⟩ := hN.2 _ (zk_look_m hr)
          have m4 : zk_ev τ r = zk_ev τ a - zk_ev τ b := m4
          refine zk_Rs_s hN m3 ?_
          dsimp only at m5 m6
          rw [zn_sub (by omega) (by omega)]
          omega
        · cases c5 : za_in (la - h2) (h1 - lb) with
          | true =>
            rw [c5] at h
            cases h
            have e2 := za_in_t c5
            have e3 : (x - y).toInt = zk_ev τ a - zk_ev τ b := by rw [zn_sub (by omega) (by omega)]; omega
            refine zk_memo_ok (zk_fresh_ok hN (by omega) (by omega) (Int.one_dvd _)) ha hb (fun τ' hτ hz => ?_)
            have f1 := zk_ev_x ha hτ
            have f2 := zk_ev_x hb hτ
            generalize zk_fresh A (la - h2) (h1 - lb) 1 = q9 at hz
            show zk_ev τ' q9.2 = zk_ev τ' a - zk_ev τ' b ∧ -2147483648 ≤ zk_ev τ' q9.2 ∧ zk_ev τ' q9.2 ≤ 2147483647
            exact ⟨by omega, by omega, by omega⟩
          | false =>
            rw [c5] at h
            cases h
            exact zk_full_ok hN _
  · cases h
def zk_mul (A : zk_A) (a b : zk_I) : Option (zk_A × zk_I) := match zk_rg A a, zk_rg A b with
  | some (la, ha), some (lb, hb) => bif (za_ile 0 la).and ((za_ile 0 lb).and (za_ile (ha * hb) 2147483647)) then some (zk_fresh A (la * lb) (ha * hb) (zk_md A a * zk_md A b)) else some (zk_full A)
  | _, _ => none
theorem zk_mul_ok (hN : zk_N τ A) (hx : x.toInt = zk_ev τ a) (hy : y.toInt = zk_ev τ b) (h : zk_mul A a b = some q) : zk_Rs τ A (x * y).toInt q := by
  unfold zk_mul at h
  split at h
  · rename_i la h1 lb h2 g1 g2
    have r1 := zk_rg_ok hN g1
    have r2 := zk_rg_ok hN g2
    unfold zk_in at r1 r2
    dsimp only at r1 r2
    cases c1 : (za_ile 0 la).and ((za_ile 0 lb).and (za_ile (h1 * h2) 2147483647)) with
    | true =>
      rw [c1] at h
      cases h
      obtain ⟨c2, c3⟩ := Bool.and_eq_true_iff.mp c1
      obtain ⟨c3, c4⟩ := Bool.and_eq_true_iff.mp c3
      have c2 := za_ile_t c2
      have c3 := za_ile_t c3
      have c4 := za_ile_t c4
      have e1 : la * lb ≤ zk_ev τ a * zk_ev τ b := Int.mul_le_mul r1.1 r2.1 c3 (by omega)
      have e2 : zk_ev τ a * zk_ev τ b ≤ h1 * h2 := Int.mul_le_mul r1.2 r2.2 (by omega) (by omega)
      have e3 : 0 ≤ la * lb := Int.mul_nonneg c2 c3
      have e4 : (x * y).toInt = zk_ev τ a * zk_ev τ b := by
        rw [zn_mul (by rw [hx, hy]; omega) (by rw [hx, hy]; omega), hx, hy]
      refine zk_fresh_ok hN (by omega) (by omega) ?_
      rw [e4, Int.natCast_mul]
      exact Int.mul_dvd_mul (zk_md_ok hN) (zk_md_ok hN)
    | false =>
      rw [c1] at h
      cases h
      exact zk_full_ok hN _
  · cases h
def zk_and (A : zk_A) (a b : zk_I) : Option (zk_A × zk_I) := match zk_rg A a, zk_rg A b with
  | some (la, ha), some (lb, hb) => match zk_look 2 a b A.2.2.2.2 with
    | some r => some (A, r)
    | none => bif za_ile 0 lb then bif za_ile 0 la then bif za_ile ha hb then some (zk_memo (zk_fresh A 0 ha 1) 2 a b) else some (zk_memo (zk_fresh A 0 hb 1) 2 a b) else some (zk_memo (zk_fresh A 0 hb 1) 2 a b)
      else bif za_ile 0 la then some (zk_memo (zk_fresh A 0 ha 1) 2 a b) else some (zk_memo (zk_full A) 2 a b)
  | _, _ => none
theorem zk_and_ok (hN : zk_N τ A) (ha : a.1 ≤ A.1) (hb : b.1 ≤ A.1) (hx : x.toInt = zk_ev τ a) (hy : y.toInt = zk_ev τ b) (h : zk_and A a b = some q) : zk_Rs τ A (x &&& y).toInt q := by
  have ex : Int32.ofInt (zk_ev τ a) = x := by rw [← hx]; exact Int32.ofInt_toInt x
  have ey : Int32.ofInt (zk_ev τ b) = y := by rw [← hy]; exact Int32.ofInt_toInt y
  have hm : ∀ {r : zk_I}, ∀ τ', zk_ext A.1 τ τ' → (x &&& y).toInt = zk_ev τ' r → zk_mo τ' (2, a, b, r) := by
    intro r τ' hτ hz
    show zk_ev τ' r = (Int32.ofInt (zk_ev τ' a) &&& Int32.ofInt (zk_ev τ' b)).toInt
    rw [zk_ev_x ha hτ, zk_ev_x hb hτ, ex, ey]
    exact hz.symm
  unfold zk_and at h
  split at h
  · rename_i la h1 lb h2 g1 g2
    have r1 := zk_rg_ok hN g1
    have r2 := zk_rg_ok hN g2
    unfold zk_in at r1 r2
    dsimp only at r1 r2
    split at h
    · rename_i r hr
      cases h
      obtain ⟨-, -, m3, m4⟩ := hN.2 _ (zk_look_m hr)
      have m4 : zk_ev τ r = (Int32.ofInt (zk_ev τ a) &&& Int32.ofInt (zk_ev τ b)).toInt := m4
      exact zk_Rs_s hN m3 (by rw [m4, ex, ey])
    · cases c1 : za_ile 0 lb with
      | true =>
        have c1' := za_ile_t c1
        have z1 := zn_andR x (y := y) (by omega)
        rw [c1] at h
        cases c2 : za_ile 0 la with
        | true =>
          have c2' := za_ile_t c2
          have z2 := zn_andL (x := x) y (by omega)
          rw [c2] at h
          cases c3 : za_ile h1 h2 with
          | true =>
            rw [c3] at h
            cases h
            exact zk_memo_ok (zk_fresh_ok hN (by omega) (by omega) (Int.one_dvd _)) ha hb hm
          | false =>
            rw [c3] at h
            cases h
            exact zk_memo_ok (zk_fresh_ok hN (by omega) (by omega) (Int.one_dvd _)) ha hb hm
        | false =>
          rw [c2] at h
          cases h
          exact zk_memo_ok (zk_fresh_ok hN (by omega) (by omega) (Int.one_dvd _)) ha hb hm
      | false =>
        rw [c1] at h
        cases c2 : za_ile 0 la with
        | true =>
          have c2' := za_ile_t c2
          have z2 := zn_andL (x := x) y (by omega)
          rw [c2] at h
          cases h
          exact zk_memo_ok (zk_fresh_ok hN (by omega) (by omega) (Int.one_dvd _)) ha hb hm
        | false =>
          rw [c2] at h
          cases h
          exact zk_memo_ok (zk_full_ok hN _) ha hb hm
  · cases h
def zk_or (A : zk_A) (a b : zk_I) : Option (zk_A × zk_I) := match zk_rg A a, zk_rg A b with
  | some (la, ha), some (lb, hb) => bif (za_ile 0 la).and (za_ile 0 lb) then bif (za_ile ha 255).and (za_ile hb 255) then some (zk_fresh A 0 255 1) else some (zk_full A) else some (zk_full A)
  | _, _ => none
theorem zk_or_ok (hN : zk_N τ A) (hx : x.toInt = zk_ev τ a) (hy : y.toInt = zk_ev τ b) (h : zk_or A a b = some q) : zk_Rs τ A (x ||| y).toInt q := by
  unfold zk_or at h
  split at h
  · rename_i la h1 lb h2 g1 g2
    have r1 := zk_rg_ok hN g1
    have r2 := zk_rg_ok hN g2
    unfold zk_in at r1 r2
    dsimp only at r1 r2
    cases c1 : (za_ile 0 la).and (za_ile 0 lb) with
    | true =>
      rw [c1] at h
      cases c2 : (za_ile h1 255).and (za_ile h2 255) with
      | true =>
        rw [c2] at h
        cases h
        obtain ⟨d1, d2⟩ := Bool.and_eq_true_iff.mp c1
        obtain ⟨d3, d4⟩ := Bool.and_eq_true_iff.mp c2
        have d1 := za_ile_t d1
        have d2 := za_ile_t d2
        have d3 := za_ile_t d3
        have d4 := za_ile_t d4
        have z := zn_or (x := x) (y := y) (k := 8) (by decide) (by omega) (by omega) (by omega) (by omega)
        exact zk_fresh_ok hN (by omega) (by omega) (Int.one_dvd _)
      | false =>
        rw [c2] at h
        cases h
        exact zk_full_ok hN _
    | false =>
      rw [c1] at h
      cases h
      exact zk_full_ok hN _
  · cases h
def zk_shl (A : zk_A) (a b : zk_I) : Option (zk_A × zk_I) := match zk_rg A b with
  | some (lb, hb) => bif (zk_eqI a (0, 1)).and ((za_ile 0 lb).and (za_ile hb 30)) then some (zk_fresh A ((2 ^ lb.toNat : Nat) : Int) ((2 ^ hb.toNat : Nat) : Int) 1) else some (zk_full A)
  | none => none
theorem zk_shl_ok (hN : zk_N τ A) (hx : x.toInt = zk_ev τ a) (hy : y.toInt = zk_ev τ b) (h : zk_shl A a b = some q) : zk_Rs τ A (x <<< (y &&& 31)).toInt q := by
  unfold zk_shl at h
  split at h
  · rename_i lb h2 g2
    have r2 := zk_rg_ok hN g2
    unfold zk_in at r2
    dsimp only at r2
    cases c1 : (zk_eqI a (0, 1)).and ((za_ile 0 lb).and (za_ile h2 30)) with
    | true =>
      rw [c1] at h
      cases h
      obtain ⟨d1, d2⟩ := Bool.and_eq_true_iff.mp c1
      obtain ⟨d2, d3⟩ := Bool.and_eq_true_iff.mp d2
      have d1 := zk_eqI_t d1
      have d2 := za_ile_t d2
      have d3 := za_ile_t d3
      subst d1
      have hx1 : x = 1 := Int32.toInt_inj.mp hx
      subst hx1
      rw [zn_shl (by omega) (by omega)]
      have e1 : 2 ^ lb.toNat ≤ 2 ^ y.toInt.toNat := Nat.pow_le_pow_right (by decide) (by omega)
      have e2 : 2 ^ y.toInt.toNat ≤ 2 ^ h2.toNat := Nat.pow_le_pow_right (by decide) (by omega)
      exact zk_fresh_ok hN (Int.ofNat_le.mpr e1) (Int.ofNat_le.mpr e2) (Int.one_dvd _)
    | false =>
      rw [c1] at h
      cases h
      exact zk_full_ok hN _
  · cases h
/-- can't it be 0? -/
def zk_nz (A : zk_A) (a : zk_I) : Bool := match zk_rg A a with
  | some (lo, hi) => bif za_ile 1 lo then true else bif za_ile hi (-1) then true else match a.1 with
    | 0 => false
    | j + 1 => bif za_ieq a.2 0 then match zk_lk A.2.1 j with
      | some e => e.2.2.1
      | none => false
      else false
  | none => false
theorem zk_nz_ok (hN : zk_N τ A) (h : zk_nz A a = true) : zk_ev τ a ≠ 0 := by
  unfold zk_nz at h
  split at h
  · rename_i lo hi g
    have r := zk_rg_ok hN g
    unfold zk_in at r
    dsimp only at r
    cases c1 : za_ile 1 lo with
    | true => have := za_ile_t c1; omega
    | false =>
      rw [c1] at h
      cases c2 : za_ile hi (-1) with
      | true => have := za_ile_t c2; omega
      | false =>
        rw [c2] at h
        simp only [cond_false] at h
        obtain ⟨k, c⟩ := a
        cases k with
        | zero => cases h
        | succ j =>
          dsimp only at h
          cases c3 : za_ieq c 0 with
          | false => rw [c3] at h; cases h
          | true =>
            rw [c3] at h
            have e3 := za_ieq_t c3
            simp only [cond_true] at h
            split at h
            · rename_i e he
              obtain ⟨-, -, -, g3, -⟩ := hN.1 _ (zk_lk_m he)
              have g3 := g3 h
              show τ j + c ≠ 0
              dsimp only at g3
              omega
            · cases h
  · cases h
def zk_div (A : zk_A) (a b : zk_I) : Option (zk_A × zk_I) := bif zk_nz A b then match zk_rg A a, zk_rg A b with
  | some (la, ha), some (lb, _) => bif (za_ile 0 la).and (za_ile 1 lb) then some (zk_fresh A 0 ha 1) else some (zk_full A)
  | _, _ => none
  else none
def zk_rem (A : zk_A) (a b : zk_I) : Option (zk_A × zk_I) := bif zk_nz A b then match zk_rg A a, zk_rg A b with
  | some (la, ha), some (lb, hb) => bif (za_ile 0 la).and (za_ile 1 lb) then some (zk_fresh A 0 (bif za_ile ha (hb - 1) then ha else hb - 1) 1) else some (zk_full A)
  | _, _ => none
  else none
theorem zk_div_ok (hN : zk_N τ A) (hx : x.toInt = zk_ev τ a) (hy : y.toInt = zk_ev τ b) (h : zk_div A a b = some q) : y ≠ 0 ∧ zk_Rs τ A (x / y).toInt q := by
  unfold zk_div at h
  obtain ⟨h0, h⟩ := za_bif h
  have n0 := zk_nz_ok hN h0
  refine ⟨fun z => n0 (by rw [← hy, z]; rfl), ?_⟩
  split at h
  · rename_i la h1 lb h2 g1 g2
    have r1 := zk_rg_ok hN g1
    have r2 := zk_rg_ok hN g2
    unfold zk_in at r1 r2
    dsimp only at r1 r2
    cases c1 : (za_ile 0 la).and (za_ile 1 lb) with
    | true =>
      rw [c1] at h
      cases h
      obtain ⟨d1, d2⟩ := Bool.and_eq_true_iff.mp c1
      have d1 := za_ile_t d1
      have d2 := za_ile_t d2
      obtain ⟨z1, z2, z3⟩ := zn_div (x := x) (y := y) (by omega) (by omega)
      exact zk_fresh_ok hN (by omega) (by omega) (Int.one_dvd _)
    | false =>
      rw [c1] at h
      cases h
      exact zk_full_ok hN _
  · cases h
theorem zk_rem_ok (hN : zk_N τ A) (hx : x.toInt = zk_ev τ a) (hy : y.toInt = zk_ev τ b) (h : zk_rem A a b = some q) : y ≠ 0 ∧ zk_Rs τ A (x - x / y * y).toInt q := by
  unfold zk_rem at h
  obtain ⟨h0, h⟩ := za_bif h
  have n0 := zk_nz_ok hN h0
  refine ⟨fun z => n0 (by rw [← hy, z]; rfl), ?_⟩
  split at h
  · rename_i la h1 lb h2 g1 g2
    have r1 := zk_rg_ok hN g1
    have r2 := zk_rg_ok hN g2
    unfold zk_in at r1 r2
    dsimp only at r1 r2
    cases c1 : (za_ile 0 la).and (za_ile 1 lb) with
    | true =>
      rw [c1] at h
      cases h
      obtain ⟨d1, d2⟩ := Bool.and_eq_true_iff.mp c1
      have d1 := za_ile_t d1
      have d2 := za_ile_t d2
      obtain ⟨z1, z2, z3⟩ := zn_rem (x := x) (y := y) (by omega) (by omega)
      refine zk_fresh_ok hN (by omega) ?_ (Int.one_dvd _)
      cases c3 : za_ile h1 (h2 - 1) with
      | true => show _ ≤ h1; omega
      | false => show _ ≤ h2 - 1; omega
    | false =>
      rw [c1] at h
      cases h
      exact zk_full_ok hN _
  · cases h
def zk_i2b (A : zk_A) (a : zk_I) : Option (zk_A × zk_I) := match zk_rg A a with
  | some (lo, hi) => bif (za_ile (-128) lo).and (za_ile hi 127) then some (A, a) else some (zk_fresh A (-128) 127 1)
  | none => none
theorem zk_i2b_ok (hN : zk_N τ A) (ha : a.1 ≤ A.1) (hx : x.toInt = zk_ev τ a) (h : zk_i2b A a = some q) : zk_Rs τ A x.toInt8.toInt32.toInt q := by
  unfold zk_i2b at h
  split at h
  · rename_i lo hi g
    have r := zk_rg_ok hN g
    unfold zk_in at r
    dsimp only at r
    cases c1 : (za_ile (-128) lo).and (za_ile hi 127) with
    | true =>
      rw [c1] at h
      cases h
      obtain ⟨d1, d2⟩ := Bool.and_eq_true_iff.mp c1
      have d1 := za_ile_t d1
      have d2 := za_ile_t d2
      rw [zn_i2b' (by omega) (by omega)]
      exact zk_Rs_s hN ha hx
    | false =>
      rw [c1] at h
      cases h
      have z := zn_i2b x
      exact zk_fresh_ok hN z.1 z.2 (Int.one_dvd _)
  · cases h
def zk_neg (A : zk_A) (a : zk_I) : Option (zk_A × zk_I) := match zk_rg A a with
  | some (lo, _) => bif za_ile (-2147483647) lo then zk_sub A (0, 0) a else some (zk_full A)
  | none => none
theorem zk_neg_ok (hN : zk_N τ A) (ha : a.1 ≤ A.1) (hx : x.toInt = zk_ev τ a) (h : zk_neg A a = some q) : zk_Rs τ A (-x).toInt q := by
  unfold zk_neg at h
  split at h
  · rename_i lo hi g
    have r := zk_rg_ok hN g
    unfold zk_in at r
    dsimp only at r
    cases c1 : za_ile (-2147483647) lo with
    | true =>
      rw [c1] at h
      have d1 := za_ile_t c1
      have z := zk_sub_ok (x := 0) (y := x) hN (Nat.zero_le _) ha rfl hx h
      have h9 := za_int x
      rw [zn_sub (by show _ ≤ 0 - x.toInt; omega) (by show 0 - x.toInt ≤ _; omega)] at z
      rw [zn_neg (by omega)]
      exact z
    | false =>
      rw [c1] at h
      cases h
      exact zk_full_ok hN _
  · cases h
end KN
end
section
/-! ===== what a branch tells ===== -/
def zk_Cut (τ : Nat → Int) (A : zk_A) (o : Option zk_A) : Prop := ∃ A', o = some A' ∧ zk_N τ A' ∧ A'.1 = A.1 ∧ A'.2.2 = A.2.2
section KC
variable {τ : Nat → Int} {A : zk_A} {a b r : zk_I}
theorem zk_Cut_s (hN : zk_N τ A) : zk_Cut τ A (some A) := ⟨A, rfl, hN, rfl, rfl⟩
theorem zk_Cut_b {o : Option zk_A} {f : zk_A → Option zk_A} (h : zk_Cut τ A o) (hf : ∀ A', zk_N τ A' → A'.1 = A.1 → A'.2.2 = A.2.2 → zk_Cut τ A' (f A')) : zk_Cut τ A (o.bind f) := by
  obtain ⟨A', rfl, h2, h3, h4⟩ := h
  obtain ⟨A'', g1, g2, g3, g4⟩ := hf A' h2 h3 h4
  exact ⟨A'', g1, g2, g3.trans h3, g4.trans h4⟩
def zk_max (a b : Int) : Int := bif za_ile a b then b else a
def zk_min (a b : Int) : Int := bif za_ile a b then a else b
theorem zk_max_le {a b c : Int} (h1 : a ≤ c) (h2 : b ≤ c) : zk_max a b ≤ c := by
  unfold zk_max
  cases za_ile a b with
  | true => exact h2
  | false => exact h1
theorem zk_le_min {a b c : Int} (h1 : c ≤ a) (h2 : c ≤ b) : c ≤ zk_min a b := by
  unfold zk_min
  cases za_ile a b with
  | true => exact h1
  | false => exact h2
/-- a lies in lo .. hi; none: it can't -/
def zk_nar (A : zk_A) (a : zk_I) (lo hi : Int) : Option zk_A := match a.1 with
  | 0 => bif za_ile lo a.2 then bif za_ile a.2 hi then some A else none else none
  | j + 1 => match zk_lk A.2.1 j with
    | none => some A
    | some e =>
      bif (za_ile (lo - a.2) e.1).and (za_ile e.2.1 (hi - a.2)) then some A else
      match zk_max e.1 (lo - a.2), zk_min e.2.1 (hi - a.2) with
      | l, h => match bif e.2.2.1.and (za_ieq l 0) then 1 else l, bif e.2.2.1.and (za_ieq h 0) then -1 else h with
        | l', h' => bif za_ile l' h' then some (A.1, (j, (l', h', e.2.2)) :: A.2.1, A.2.2) else none
theorem zk_nar_ok {lo hi : Int} (hN : zk_N τ A) (h1 : lo ≤ zk_ev τ a) (h2 : zk_ev τ a ≤ hi) : zk_Cut τ A (zk_nar A a lo hi) := by
  obtain ⟨k, c⟩ := a
  unfold zk_nar
  cases k with
  | zero =>
    have h1 : lo ≤ c := h1
    have h2 : c ≤ hi := h2
    show zk_Cut τ A (bif za_ile lo c then bif za_ile c hi then some A else none else none)
    rw [za_ile_i.mpr h1, za_ile_i.mpr h2]
    exact zk_Cut_s hN
  | succ j =>
    have h1 : lo ≤ τ j + c := h1
    have h2 : τ j + c ≤ hi := h2
    dsimp only
    split
    · exact zk_Cut_s hN
    · rename_i e he
      obtain ⟨g0, g1, g2, g3, g4⟩ := hN.1 _ (zk_lk_m he)
      have g0 : j < A.1 := g0
      have g1 : e.1 ≤ τ j := g1
      have g2 : τ j ≤ e.2.1 := g2
      have g3 : e.2.2.1 = true → τ j ≠ 0 := g3
      have g4 : (e.2.2.2 : Int) ∣ τ j := g4
      cases (za_ile (lo - c) e.1).and (za_ile e.2.1 (hi - c)) with
      | true => exact zk_Cut_s hN
      | false =>
        simp only [cond_false]
        have m1 : zk_max e.1 (lo - c) ≤ τ j := zk_max_le g1 (by omega)
        have m2 : τ j ≤ zk_min e.2.1 (hi - c) := zk_le_min g2 (by omega)
        generalize zk_max e.1 (lo - c) = l at m1 ⊢
        generalize zk_min e.2.1 (hi - c) = h at m2 ⊢
        have n1 : (bif e.2.2.1.and (za_ieq l 0) then 1 else l) ≤ τ j := by
          cases d : e.2.2.1.and (za_ieq l 0) with
          | false => exact m1
          | true =>
            obtain ⟨d1, d2⟩ := Bool.and_eq_true_iff.mp d
            have d2 := za_ieq_t d2
            have d1 := g3 d1
            show 1 ≤ τ j
            omega
        have n2 : τ j ≤ (bif e.2.2.1.and (za_ieq h 0) then -1 else h) := by
          cases d : e.2.2.1.and (za_ieq h 0) with
          | false => exact m2
          | true =>
            obtain ⟨d1, d2⟩ := Bool.and_eq_true_iff.mp d
            have d2 := za_ieq_t d2
            have d1 := g3 d1
            show τ j ≤ -1
            omega
        generalize (bif e.2.2.1.and (za_ieq l 0) then 1 else l) = l' at n1 ⊢
        generalize (bif e.2.2.1.and (za_ieq h 0) then -1 else h) = h' at n2 ⊢
        rw [za_ile_i.mpr (show l' ≤ h' by omega)]
        refine ⟨_, rfl, ⟨fun q hq => ?_, hN.2⟩, rfl, rfl⟩
        rcases List.mem_cons.mp hq with rfl | hq
        · exact ⟨g0, n1, n2, g3, g4⟩
        · exact hN.1 q hq
/-- a sum tells of its parts -/
def zk_pr1 (q : Nat × zk_I × zk_I × zk_I) (A : zk_A) : Option zk_A := match q with
  | (0, a, b, r) => match zk_rg A a, zk_rg A b with
    | some (la, ha), some (lb, hb) => (zk_nar A r (la + lb) (ha + hb)).bind fun A => match zk_rg A r with
      | some (lr, hr) => (zk_nar A a (lr - hb) (hr - lb)).bind fun A => zk_nar A b (lr - ha) (hr - la)
      | none => some A
    | _, _ => some A
  | (1, a, b, r) => match zk_rg A a, zk_rg A b with
    | some (la, ha), some (lb, hb) => (zk_nar A r (la - hb) (ha - lb)).bind fun A => match zk_rg A r with
      | some (lr, hr) => (zk_nar A a (lr + lb) (hr + hb)).bind fun A => zk_nar A b (la - hr) (ha - lr)
      | none => some A
    | _, _ => some A
  | _ => some A
theorem zk_pr1_ok {q : Nat × zk_I × zk_I × zk_I} (hN : zk_N τ A) (hq : zk_mo τ q) : zk_Cut τ A (zk_pr1 q A) := by
  unfold zk_pr1
  split
  · rename_i a b r
    have hq : zk_ev τ r = zk_ev τ a + zk_ev τ b := hq.1
    split
    · rename_i la ha lb hb g1 g2
      have r1 := zk_rg_ok hN g1
      have r2 := zk_rg_ok hN g2
      unfold zk_in at r1 r2
      dsimp only at r1 r2
      refine zk_Cut_b (zk_nar_ok hN (by omega) (by omega)) (fun A' n1 _ _ => ?_)
      split
      · rename_i lr hr g3
        have r3 := zk_rg_ok n1 g3
        unfold zk_in at r3
        dsimp only at r3
        exact zk_Cut_b (zk_nar_ok n1 (by omega) (by omega)) (fun A'' n2 _ _ => zk_nar_ok n2 (by omega) (by omega))
      · exact zk_Cut_s n1
    · exact zk_Cut_s hN
  · rename_i a b r
    have hq : zk_ev τ r = zk_ev τ a - zk_ev τ b := hq.1
    split
    · rename_i la ha lb hb g1 g2
      have r1 := zk_rg_ok hN g1
      have r2 := zk_rg_ok hN g2
      unfold zk_in at r1 r2
      dsimp only at r1 r2
      refine zk_Cut_b (zk_nar_ok hN (by omega) (by omega)) (fun A' n1 _ _ => ?_)
      split
      · rename_i lr hr g3
        have r3 := zk_rg_ok n1 g3
        unfold zk_in at r3
        dsimp only at r3
        exact zk_Cut_b (zk_nar_ok n1 (by omega) (by omega)) (fun A'' n2 _ _ => zk_nar_ok n2 (by omega) (by omega))
      · exact zk_Cut_s n1
    · exact zk_Cut_s hN
  · exact zk_Cut_s hN
def zk_prl : List (Nat × zk_I × zk_I × zk_I) → zk_A → Option zk_A
  | [], A => some A
  | q :: l, A => (zk_pr1 q A).bind fun A => zk_prl l A
theorem zk_prl_ok : ∀ {l : List (Nat × zk_I × zk_I × zk_I)} {A : zk_A}, zk_N τ A → (∀ q ∈ l, zk_mo τ q) → zk_Cut τ A (zk_prl l A)
  | [], _, hN, _ => zk_Cut_s hN
  | q :: l, _, hN, hq => zk_Cut_b (zk_pr1_ok hN (hq q List.mem_cons_self)) (fun _ n1 _ _ => zk_prl_ok n1 (fun q' h' => hq q' (List.mem_cons_of_mem _ h')))
def zk_prop (A : zk_A) : Option zk_A := zk_prl A.2.2.2.2 A
theorem zk_prop_ok (hN : zk_N τ A) : zk_Cut τ A (zk_prop A) := zk_prl_ok hN (fun q hq => (hN.2 q hq).2.2.2)
/-- a < b, or a ≤ b (e = 0) -/
def zk_lt (e : Int) (A : zk_A) (a b : zk_I) : Option zk_A := bif Nat.beq a.1 b.1 then bif za_ile (a.2 + e) b.2 then some A else none else match zk_rg A a, zk_rg A b with
  | some (la, _), some (_, hb) => ((zk_nar A a la (hb - e)).bind fun A => zk_nar A b (la + e) hb).bind zk_prop
  | _, _ => some A
theorem zk_lt_ok {e : Int} (hN : zk_N τ A) (h : zk_ev τ a + e ≤ zk_ev τ b) : zk_Cut τ A (zk_lt e A a b) := by
  unfold zk_lt
  cases c : Nat.beq a.1 b.1 with
  | true =>
    have h1 := zk_ev_d (τ := τ) c
    show zk_Cut τ A (bif za_ile (a.2 + e) b.2 then some A else none)
    rw [za_ile_i.mpr (show a.2 + e ≤ b.2 by omega)]
    exact zk_Cut_s hN
  | false =>
    simp only [cond_false]
    split
    · rename_i la ha lb hb g1 g2
      have r1 := zk_rg_ok hN g1
      have r2 := zk_rg_ok hN g2
      unfold zk_in at r1 r2
      dsimp only at r1 r2
      exact zk_Cut_b (zk_Cut_b (zk_nar_ok hN (by omega) (by omega)) (fun A' n1 _ _ => zk_nar_ok n1 (by omega) (by omega))) (fun A' n1 _ _ => zk_prop_ok n1)
    · exact zk_Cut_s hN
def zk_eq (A : zk_A) (a b : zk_I) : Option zk_A := bif Nat.beq a.1 b.1 then bif za_ieq a.2 b.2 then some A else none else match zk_rg A a, zk_rg A b with
  | some (la, ha), some (lb, hb) => ((zk_nar A a lb hb).bind fun A => zk_nar A b la ha).bind zk_prop
  | _, _ => some A
theorem zk_ieq_r (a : Int) : za_ieq a a = true := by
  cases h : za_ieq a a with
  | true => rfl
  | false => exact absurd rfl (za_ieq_f h)
theorem zk_eq_ok (hN : zk_N τ A) (h : zk_ev τ a = zk_ev τ b) : zk_Cut τ A (zk_eq A a b) := by
  unfold zk_eq
  cases c : Nat.beq a.1 b.1 with
  | true =>
    have h1 := zk_ev_d (τ := τ) c
    show zk_Cut τ A (bif za_ieq a.2 b.2 then some A else none)
    rw [show a.2 = b.2 by omega, zk_ieq_r]
    exact zk_Cut_s hN
  | false =>
    simp only [cond_false]
    split
    · rename_i la ha lb hb g1 g2
      have r1 := zk_rg_ok hN g1
      have r2 := zk_rg_ok hN g2
      unfold zk_in at r1 r2
      dsimp only at r1 r2
      exact zk_Cut_b (zk_Cut_b (zk_nar_ok hN (by omega) (by omega)) (fun A' n1 _ _ => zk_nar_ok n1 (by omega) (by omega))) (fun A' n1 _ _ => zk_prop_ok n1)
    · exact zk_Cut_s hN
/-- a isn't the number c -/
def zk_nec (A : zk_A) (a : zk_I) (c : Int) : Option zk_A := match zk_rg A a with
  | some (la, ha) => bif za_ieq la c then (zk_nar A a (la + 1) ha).bind zk_prop else bif za_ieq ha c then (zk_nar A a la (ha - 1)).bind zk_prop else match a.1 with
    | 0 => some A
    | j + 1 => bif za_ieq a.2 c then match zk_lk A.2.1 j with
      | some e => some (A.1, (j, (e.1, e.2.1, true, e.2.2.2)) :: A.2.1, A.2.2)
      | none => some A
      else some A
  | none => some A
theorem zk_nec_ok {c : Int} (hN : zk_N τ A) (h : zk_ev τ a ≠ c) : zk_Cut τ A (zk_nec A a c) := by
  unfold zk_nec
  split
  · rename_i la ha g1
    have r1 := zk_rg_ok hN g1
    unfold zk_in at r1
    dsimp only at r1
    cases c1 : za_ieq la c with
    | true =>
      have e1 := za_ieq_t c1
      exact zk_Cut_b (zk_nar_ok hN (by omega) (by omega)) (fun A' n1 _ _ => zk_prop_ok n1)
    | false =>
      simp only [cond_false]
      cases c2 : za_ieq ha c with
      | true =>
        have e1 := za_ieq_t c2
        exact zk_Cut_b (zk_nar_ok hN (by omega) (by omega)) (fun A' n1 _ _ => zk_prop_ok n1)
      | false =>
        simp only [cond_false]
        obtain ⟨k, d⟩ := a
        cases k with
        | zero => exact zk_Cut_s hN
        | succ j =>
          dsimp only
          cases c3 : za_ieq d c with
          | false => exact zk_Cut_s hN
          | true =>
            have e3 := za_ieq_t c3
            have h : τ j + d ≠ c := h
            simp only [cond_true]
            split
            · rename_i e he
              obtain ⟨g0, g2, g3, g4, g5⟩ := hN.1 _ (zk_lk_m he)
              refine ⟨_, rfl, ⟨fun q hq => ?_, hN.2⟩, rfl, rfl⟩
              rcases List.mem_cons.mp hq with rfl | hq
              · exact ⟨g0, g2, g3, (fun _ => by show τ j ≠ 0; omega), g5⟩
              · exact hN.1 q hq
            · exact zk_Cut_s hN
  · exact zk_Cut_s hN
def zk_ne (A : zk_A) (a b : zk_I) : Option zk_A := bif Nat.beq a.1 b.1 then bif za_ieq a.2 b.2 then none else some A else match b.1 with
  | 0 => zk_nec A a b.2
  | _ + 1 => match a.1 with
    | 0 => zk_nec A b a.2
    | _ + 1 => some A
theorem zk_ne_ok (hN : zk_N τ A) (h : zk_ev τ a ≠ zk_ev τ b) : zk_Cut τ A (zk_ne A a b) := by
  unfold zk_ne
  cases c : Nat.beq a.1 b.1 with
  | true =>
    have h1 := zk_ev_d (τ := τ) c
    show zk_Cut τ A (bif za_ieq a.2 b.2 then none else some A)
    cases d : za_ieq a.2 b.2 with
    | true => have := za_ieq_t d; omega
    | false => exact zk_Cut_s hN
  | false =>
    simp only [cond_false]
    obtain ⟨kb, cb⟩ := b
    cases kb with
    | zero => exact zk_nec_ok hN h
    | succ j =>
      obtain ⟨ka, ca⟩ := a
      cases ka with
      | zero => exact zk_nec_ok hN (fun z => h z.symm)
      | succ i => exact zk_Cut_s hN
end KC
end
section
/-! ===== the abstract executor: the heap ===== -/
/-- what is asked of the world's parameters: J looks at the frozen places alone, the ghost at its own -/
def zk_W (B : zk_B) (gh : zp_H → Int) (J : zp_H → Prop) (fz : Nat → Nat → Bool) : Prop :=
  (∀ H H' : zp_H, H'.1 = H.1 → (∀ p k, fz p k = true → H'.2.1 p k = H.2.1 p k ∧ H'.2.2.1 p k = H.2.2.1 p k) → J H → J H') ∧
  (∀ H H' : zp_H, (∀ p k, B.2.2.2.2.2 p k = true → H'.2.1 p k = H.2.1 p k ∧ H'.2.2.1 p k = H.2.2.1 p k) → gh H' = gh H) ∧
  (∀ H r, B.2.2.1 72 100 = some r → zk_in (gh H) r) ∧
  (∀ p k r, B.2.2.1 p k = some r → ∃ ci, B.1[p]? = some (.inl ci)) ∧
  (∀ c ∈ B.2.2.2.2.1, (∃ ci, B.1[c.1]? = some (.inl ci)) ∧ c.2.1 ≠ 100 ∧ c.2.2.2.1 ≠ 100) ∧
  (∀ p k, B.2.2.2.2.2 p k = true → ∃ ci, B.1[p]? = some (.inl ci)) ∧
  (∀ (p k t n : Nat), B.1[p]? = some (.inr (t, n)) → fz p k = fz p 0) ∧
  (∃ ci, B.1[72]? = some (.inl ci))
def zk_Rh (B : zk_B) (gh : zp_H → Int) (J : zp_H → Prop) (τ : Nat → Int) (A : zk_A) (H : zp_H) (z : Int) (q : zk_A × zk_I) : Prop := ∃ τ', zk_ext A.1 τ τ' ∧ A.1 ≤ q.1.1 ∧ zk_N τ' q.1 ∧ zk_Hp B gh J τ' q.1 H ∧ q.2.1 ≤ q.1.1 ∧ z = zk_ev τ' q.2
def zk_og : List (Nat × Nat × Bool × zk_I) → Nat → Nat → Option zk_I
  | [], _, _ => none
  | q :: l, p, k => bif (Nat.beq q.1 p).and (Nat.beq q.2.1 k) then some q.2.2.2 else zk_og l p k
def zk_dty (ov : List (Nat × Nat × Bool × zk_I)) (p k v : Nat) : Bool := ov.any (fun q => (Nat.beq q.1 p).and (q.2.2.1.and ((Nat.beq q.2.1 k).or (Nat.beq q.2.1 v))))
theorem zk_og_m {p k : Nat} {a : zk_I} : ∀ {l : List (Nat × Nat × Bool × zk_I)}, zk_og l p k = some a → ∃ q ∈ l, q.1 = p ∧ q.2.1 = k ∧ q.2.2.2 = a
  | [], h => by cases h
  | q :: l, h => by
    unfold zk_og at h
    cases hb : (Nat.beq q.1 p).and (Nat.beq q.2.1 k) with
    | true =>
      rw [hb] at h
      obtain ⟨h1, h2⟩ := Bool.and_eq_true_iff.mp hb
      cases h
      exact ⟨q, List.mem_cons_self, za_beq h1, za_beq h2, rfl⟩
    | false =>
      rw [hb] at h
      obtain ⟨q9, h1, h2⟩ := zk_og_m h
      exact ⟨q9, List.mem_cons_of_mem _ h1, h2⟩
theorem zk_og_n {p k : Nat} : ∀ {l : List (Nat × Nat × Bool × zk_I)}, zk_og l p k = none → ∀ q ∈ l, ¬ (q.1 = p ∧ q.2.1 = k)
  | [], _, q, hq => absurd hq List.not_mem_nil
  | x :: l, h, q, hq => by
    unfold zk_og at h
    cases hb : (Nat.beq x.1 p).and (Nat.beq x.2.1 k) with
    | true => rw [hb] at h; cases h
    | false =>
      rw [hb] at h
      rcases List.mem_cons.mp hq with rfl | hq
      · rintro ⟨rfl, rfl⟩
        rw [Nat.beq_refl, Nat.beq_refl] at hb
        cases hb
      · exact zk_og_n h q hq
theorem zk_dty_f {ov : List (Nat × Nat × Bool × zk_I)} {p k v : Nat} (h : zk_dty ov p k v = false) : ¬ ∃ q ∈ ov, q.1 = p ∧ (q.2.1 = k ∨ q.2.1 = v) ∧ q.2.2.1 = true := by
  rintro ⟨q, h1, rfl, h3, h4⟩
  have h9 : zk_dty ov q.1 k v = true := List.any_eq_true.mpr ⟨q, h1, by
    rw [h4, Nat.beq_refl]
    rcases h3 with rfl | rfl
    · rw [Nat.beq_refl]; rfl
    · rw [Nat.beq_refl]; simp⟩
  rw [h9] at h
  cases h
section KH
variable {B : zk_B} {gh : zp_H → Int} {J : zp_H → Prop} {fz : Nat → Nat → Bool} {τ : Nat → Int} {A : zk_A} {H : zp_H} {z : Int} {a b r : zk_I} {x y : Int32} {q : zk_A × zk_I} {p k : Nat}
theorem zk_Rs_h (hH : zk_Hp B gh J τ A H) (h : zk_Rs τ A z q) : zk_Rh B gh J τ A H z q := by
  obtain ⟨τ', h1, h2, h3, h4, h5, h6, h7⟩ := h
  exact ⟨τ', h1, h2, h3, zk_Hp_x h2 h4 h5 h1 hH, h6, h7⟩
/-- the conditions that tell of this field -/
def zk_cn (A : zk_A) (p k : Nat) : List (Nat × Nat × Int × Nat × Int × Int) → Int × Int → Int × Int
  | [], r => r
  | c :: l, r => zk_cn A p k l (bif (Nat.beq c.1 p).and (Nat.beq c.2.2.2.1 k) then bif zk_dty A.2.2.1 p c.2.1 k then r else match zk_og A.2.2.1 p c.2.1 with
      | some a => match zk_rg A a with
        | some (lo, hi) => bif (za_ieq lo c.2.2.1).and (za_ieq hi c.2.2.1) then (zk_max r.1 c.2.2.2.2.1, zk_min r.2 c.2.2.2.2.2) else r
        | none => r
      | none => r else r)
theorem zk_cn_ok (hN : zk_N τ A) (hH : zk_Hp B gh J τ A H) : ∀ {l : List (Nat × Nat × Int × Nat × Int × Int)} {r : Int × Int}, (∀ c ∈ l, c ∈ B.2.2.2.2.1) → zk_in (zk_fv gh H p k) r → zk_in (zk_fv gh H p k) (zk_cn A p k l r)
  | [], _, _, h => h
  | c :: l, r, hl, h => by
    unfold zk_cn
    refine zk_cn_ok hN hH (fun c' h' => hl c' (List.mem_cons_of_mem _ h')) ?_
    cases h1 : (Nat.beq c.1 p).and (Nat.beq c.2.2.2.1 k) with
    | false => exact h
    | true =>
      obtain ⟨e1, e2⟩ := Bool.and_eq_true_iff.mp h1
      have e1 := za_beq e1
      have e2 := za_beq e2
      simp only [cond_true]
      cases h2 : zk_dty A.2.2.1 p c.2.1 k with
      | true => exact h
      | false =>
        simp only [cond_false]
        split
        · rename_i a ha
          split
          · rename_i lo hi hr
            cases h3 : (za_ieq lo c.2.2.1).and (za_ieq hi c.2.2.1) with
            | false => exact h
            | true =>
              obtain ⟨f1, f2⟩ := Bool.and_eq_true_iff.mp h3
              have f1 := za_ieq_t f1
              have f2 := za_ieq_t f2
              obtain ⟨q, q1, q2, q3, q4⟩ := zk_og_m ha
              have g1 := (hH.2.2.1 q q1).2
              have g2 := zk_rg_ok hN hr
              unfold zk_in at g2
              dsimp only at g2
              rw [q2, q3, q4] at g1
              rcases hH.2.2.2.2.2.2.1 c (hl c List.mem_cons_self) with g3 | g3
              · rw [e1, e2] at g3
                exact absurd g3 (zk_dty_f h2)
              · rw [e1, e2] at g3
                have g4 := g3 (by omega)
                exact ⟨zk_max_le h.1 g4.1, zk_le_min h.2 g4.2⟩
          · exact h
        · exact h
def zk_addo (q : zk_A × zk_I) (p k : Nat) : zk_A × zk_I := ((q.1.1, q.1.2.1, (p, k, false, q.2) :: q.1.2.2.1, q.1.2.2.2), q.2)
theorem zk_addo_ok (h : zk_Rh B gh J τ A H (zk_fv gh H p k) q) : zk_Rh B gh J τ A H (zk_fv gh H p k) (zk_addo q p k) := by
  obtain ⟨τ', h1, h2, h3, h4, h5, h6⟩ := h
  refine ⟨τ', h1, h2, h3, ?_, h5, h6⟩
  obtain ⟨g1, g2, g3, g4, g5, g6, g7, g8⟩ := h4
  refine ⟨g1, g2, fun e he => ?_, g4, fun p' k' r' h' => ?_, g6, fun c hc => ?_, g8⟩
  · rcases List.mem_cons.mp he with rfl | he
    · exact ⟨h5, h6⟩
    · exact g3 e he
  · rcases g5 p' k' r' h' with ⟨e, he, h9⟩ | h9
    · exact Or.inl ⟨e, List.mem_cons_of_mem _ he, h9⟩
    · exact Or.inr h9
  · rcases g7 c hc with ⟨e, he, h9⟩ | h9
    · exact Or.inl ⟨e, List.mem_cons_of_mem _ he, h9⟩
    · exact Or.inr h9
/-- a field's number -/
def zk_getf (B : zk_B) (A : zk_A) (p k : Nat) : Option (zk_A × zk_I) := match zk_og A.2.2.1 p k with
  | some a => some (A, a)
  | none => match B.2.2.1 p k with
    | some r => match zk_cn A p k B.2.2.2.2.1 r with
      | (lo, hi) => some (zk_addo (zk_fresh A lo hi 1) p k)
    | none => bif (Nat.beq p 72).and (Nat.beq k 100) then none else some (zk_addo (zk_full A) p k)
theorem zk_getf_ok (hN : zk_N τ A) (hH : zk_Hp B gh J τ A H) (h : zk_getf B A p k = some q) : zk_Rh B gh J τ A H (zk_fv gh H p k) q := by
  unfold zk_getf at h
  split at h
  · rename_i a ha
    cases h
    obtain ⟨e, e1, e2, e3, e4⟩ := zk_og_m ha
    obtain ⟨g1, g2⟩ := hH.2.2.1 e e1
    rw [e2, e3, e4] at g2
    rw [e4] at g1
    exact ⟨τ, zk_ext_r τ, Nat.le_refl _, hN, hH, g1, g2⟩
  · rename_i ho
    split at h
    · rename_i r hr
      generalize hq : zk_cn A p k B.2.2.2.2.1 r = r' at h
      obtain ⟨lo, hi⟩ := r'
      cases h
      have h1 : zk_in (zk_fv gh H p k) r := by
        rcases hH.2.2.2.2.1 p k r hr with ⟨e, he, h9⟩ | h9
        · exact absurd h9 (zk_og_n ho e he)
        · exact h9
      have h2 := zk_cn_ok hN hH (fun c hc => hc) h1
      rw [hq] at h2
      exact zk_addo_ok (zk_Rs_h hH (zk_fresh_ok hN h2.1 h2.2 (Int.one_dvd _)))
    · cases hg : (Nat.beq p 72).and (Nat.beq k 100) with
      | true => rw [hg] at h; cases h
      | false =>
        rw [hg] at h
        cases h
        have e : zk_fv gh H p k = (H.2.1 p k).toInt := by
          unfold zk_fv
          rw [if_neg]
          rintro ⟨rfl, rfl⟩
          cases hg
        rw [e]
        refine e ▸ zk_addo_ok (zk_Rs_h hH ?_)
        rw [e]
        exact zk_full_ok hN _
end KH
end
