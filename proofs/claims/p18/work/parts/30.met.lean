/-! ===== the exact interpreter is sound: ends, calls, a method's contract ===== -/
def zp_gW (ads : List Nat) (v : Option zp_V) (w : Option Value) : Prop := match v, w with
  | none, none => True
  | some v, some w => zp_gV ads v w
  | _, _ => False
def zp_Qc (E : za_E) (ads0 : List Nat) (X : zp_X) : Array Value → State → Outcome → State → Prop := fun _ _ o t => ∃ (v : Option zp_V) (ads : List Nat) (w : Option Value), X.1 = .inl v ∧ o = .returned w ∧ zp_gW ads v w ∧ ads0 <+: ads ∧ zp_Wd E ads X.2 t.heap ∧ za_Bl E t.heap
def zp_XC (E : za_E) (ads0 : List Nat) (X : zp_X) : String → State → State → Prop := fun nm _ t => ∃ (ex : Nat) (ads : List Nat), X.1 = .inr ex ∧ ex < 2 ∧ nm = za_exn ex ∧ ads0 <+: ads ∧ zp_Wd E ads X.2 t.heap ∧ za_Bl E t.heap
def zp_Pc (E : za_E) (s0 : State) (ads : List Nat) (as : List zp_V) (h : zp_H) : Array Value → State → Prop := fun a U => ∃ vs : List Value, a = vs.toArray ∧ za_F2 (zp_gV ads) as vs ∧ zp_Wd E ads h U.heap ∧ s0.WarmedH U.vm ∧ za_Bl E U.heap
theorem zp_Pc_blind {E : za_E} {s0 : State} {ads : List Nat} {as : List zp_V} {h : zp_H} : FrameBlind (zp_Pc E s0 ads as h) := fun _ _ _ _ q => q
/-- the callees' contracts -/
def zp_IH (l : Launch) (E : za_E) (s0 : State) (d : Nat) (C : zp_C) : Prop := ∀ (j : Nat) (Y : za_MI) (as : List zp_V) (h : zp_H) (X : zp_X) (ads : List Nat), za_MT j = some Y → C j as h X → vx_Met l Y.1 [za_word Y] (za_rm d Y) (zp_Pc E s0 ads as h) (zp_Qc E ads X) (zp_XC E ads X) (za_mc Y) (za_ms Y) (za_A E)
theorem zp_gW_st {ads : List Nat} {v : Option zp_V} {w : Option Value} {rest : List zp_V} {rst : List Value} (h : zp_gW ads v w) (hr : za_F2 (zp_gV ads) rest rst) : za_F2 (zp_gV ads) (v.toList ++ rest) (w.toList ++ rst) := by
  match v, w, h with
  | none, none, _ => exact hr
  | some v, some w, h => exact ⟨h, hr⟩
theorem zp_lv_mono {ads ads' : List Nat} (h : ads <+: ads') {ls : Array Slot} {nL : Nat} {lv : zp_LV} (hl : ∃ lc, lv_has ls nL lc ∧ za_F2 (zp_gP ads) lv lc) : ∃ lc, lv_has ls nL lc ∧ za_F2 (zp_gP ads') lv lc := by
  obtain ⟨lc, l1, l2⟩ := hl
  exact ⟨lc, l1, za_F2_mono (fun a b hab => ⟨hab.1, zp_gV_mono h hab.2⟩) l2⟩
section ZY
variable {p : Program} {l : Launch} {e : Env} {R : Room} {s s0 : State} {m : MethodId} {args : Array Value} {below : List Frame} {meth : Method} {c : Code} {E : za_E} {ads0 : List Nat} {pc L d : Nat} {M : za_MI} {C : zp_C} {lv : zp_LV} {t : zp_T} {st : List zp_V} {X0 : zp_X}
theorem zy_iret (X : za_Cx p l R s m args meth c E L s0 d M) (hdg : decode M.2.1 pc = .ok (.ireturn, 1))
    (h : zp_iret (za_mc M) (za_ms M) (za_rt M) st t = some X0) : zp_G p l e R s m args below meth c (vx_MQ below (zp_Qc E ads0 X0) (zp_XC E ads0 X0) args s (za_mc M) (za_ms M) (za_A E)) E (za_nL M) ads0 (pc, lv, st, t) := by
  obtain ⟨hx, hb, hml, hr, hlocks, hnm, hown, htab, K, hW, h0, hdec, hRf, hRl, hRc, hRs⟩ := X
  intro ads H locs ls stk Mm
  obtain ⟨h1, h3, h4, h5, h6⟩ := Mm
  unfold zp_iret at h
  split at h
  · rename_i a hrt
    split at h
    · rename_i g
      obtain ⟨_, stk1, rfl, rfl, q1⟩ := za_F2_cons h3
      have e1 := za_F2_nil q1
      subst e1
      cases h
      exact W.widen g.1 g.2 (vx_ret (W.iret hx hb (hr.trans hrt) (fun t9 ht _ => ⟨_, ads, _, rfl, rfl, show zp_gW ads (some (.inl a)) (some (.int a)) from rfl, h1, by rw [ht]; exact h5, by rw [ht]; exact za_Bl_S h0 h6⟩) (fun q hq => h6.2.2 q hq) hdg hlocks))
    · cases h
  · rename_i a hrt
    split at h
    · rename_i g
      obtain ⟨_, stk1, rfl, rfl, q1⟩ := za_F2_cons h3
      have e1 := za_F2_nil q1
      subst e1
      have hn : narrow .boolean (.int a) = .int a := by
        rcases g.2 with rfl | rfl
        · rfl
        · rfl
      cases h
      exact W.widen g.1.1 g.1.2 (vx_ret (W.zret hx hb (hr.trans hrt) hn (fun t9 ht _ => ⟨_, ads, _, rfl, rfl, show zp_gW ads (some (.inl a)) (some (.int a)) from rfl, h1, by rw [ht]; exact h5, by rw [ht]; exact za_Bl_S h0 h6⟩) (fun q hq => h6.2.2 q hq) hdg hlocks))
    · cases h
  · cases h
theorem zy_lret (X : za_Cx p l R s m args meth c E L s0 d M) (hdg : decode M.2.1 pc = .ok (.lreturn, 1))
    (h : zp_lret (za_mc M) (za_ms M) (za_rt M) st t = some X0) : zp_G p l e R s m args below meth c (vx_MQ below (zp_Qc E ads0 X0) (zp_XC E ads0 X0) args s (za_mc M) (za_ms M) (za_A E)) E (za_nL M) ads0 (pc, lv, st, t) := by
  obtain ⟨hx, hb, hml, hr, hlocks, hnm, hown, htab, K, hW, h0, hdec, hRf, hRl, hRc, hRs⟩ := X
  intro ads H locs ls stk Mm
  obtain ⟨h1, h3, h4, h5, h6⟩ := Mm
  unfold zp_lret at h
  split at h
  · rename_i a hrt
    split at h
    · rename_i g
      obtain ⟨_, stk1, rfl, rfl, q1⟩ := za_F2_cons h3
      have e1 := za_F2_nil q1
      subst e1
      cases h
      exact W.widen g.1 g.2 (vx_ret (W.lret hx hb (hr.trans hrt) (fun t9 ht _ => ⟨_, ads, _, rfl, rfl, show zp_gW ads (some (.inr (.inl a))) (some (.long a)) from rfl, h1, by rw [ht]; exact h5, by rw [ht]; exact za_Bl_S h0 h6⟩) (fun q hq => h6.2.2 q hq) hdg hlocks))
    · cases h
  · cases h
theorem zy_vret (X : za_Cx p l R s m args meth c E L s0 d M) (hdg : decode M.2.1 pc = .ok (.return_, 1))
    (h : zp_vret (za_mc M) (za_ms M) (za_rt M) st t = some X0) : zp_G p l e R s m args below meth c (vx_MQ below (zp_Qc E ads0 X0) (zp_XC E ads0 X0) args s (za_mc M) (za_ms M) (za_A E)) E (za_nL M) ads0 (pc, lv, st, t) := by
  obtain ⟨hx, hb, hml, hr, hlocks, hnm, hown, htab, K, hW, h0, hdec, hRf, hRl, hRc, hRs⟩ := X
  intro ads H locs ls stk Mm
  obtain ⟨h1, h3, h4, h5, h6⟩ := Mm
  unfold zp_vret at h
  split at h
  · rename_i hrt
    split at h
    · rename_i g
      have e1 := za_F2_nil h3
      subst e1
      cases h
      exact W.widen g.1 g.2 (vx_ret (W.vret hx hb (hr.trans hrt) (fun t9 ht _ => ⟨none, ads, none, rfl, rfl, trivial, h1, by rw [ht]; exact h5, by rw [ht]; exact za_Bl_S h0 h6⟩) (fun q hq => h6.2.2 q hq) hdg hlocks))
    · cases h
  · cases h
/-- throw new E(text) -/
theorem zy_thr {ik : Nat} {ex j9 : Nat} {z9 : Int} (X : za_Cx p l R s m args meth c E L s0 d M) (hhe : za_hh M = []) (hrow : za_CP (za_cl M) ik = some (6, ex, j9, z9)) (hdg : decode M.2.1 pc = .ok (.new ik, 3)) (h : zp_thr (za_mc M) (za_ms M) (za_is M) (za_CP (za_cl M)) ex pc st t = some X0) : zp_G p l e R s m args below meth c (vx_MQ below (zp_Qc E ads0 X0) (zp_XC E ads0 X0) args s (za_mc M) (za_ms M) (za_A E)) E (za_nL M) ads0 (pc, lv, st, t) := by
  obtain ⟨hx, hb, hml, hr, hlocks, hnm, hown, htab, K, hW, h0, hdec, hRf, hRl, hRc, hRs⟩ := X
  intro ads H locs ls stk Mm
  obtain ⟨h1, h3, h4, h5, h6⟩ := Mm
  obtain ⟨w1, w2⟩ := zc_row hrow
  have hex : ex < 2 := za_blt w2
  have l1 := zk_w K hW (a9 := args) _ (w1 _ List.mem_cons_self)
  have l2 := zk_w K hW (a9 := args) _ (w1 _ (List.mem_cons_of_mem _ List.mem_cons_self))
  have hH0 : s0.heap = za_H0 E := K.2.1.symm
  have hqk : ∀ a : Nat, a < s0.heap.size → ¬ za_A E a → s.heap[a]? = s0.heap[a]? := fun a ha _ => by rw [hH0] at ha ⊢; exact h0.2 a ha
  have hU : vx_Zq Bundle.tN "UNASSIGNED_STACK" Bundle.steD (za_A E) s s.heap := (K.2.2.2.2.2.2.2.1.kept hqk).moved hW.alike
  have hN : vx_Zq Bundle.tN "SUPPRESSED_SENTINEL" Bundle.listD (za_A E) s s.heap := (K.2.2.2.2.2.2.2.2.1.kept hqk).moved hW.alike
  have hat : ∀ w ∈ za_atX ex, w.before args s = true := by
    intro w hw
    by_cases g : goodWord w = true
    · exact zk_w K hW w (List.mem_filter.mpr ⟨zx_at ex hex w (List.mem_filter.mpr ⟨hw, g⟩), g⟩)
    · have hz := zx_no ex hex w (List.mem_filter.mpr ⟨hw, by simpa using g⟩)
      have hi := (List.mem_filter.mp hz).2
      exact va_Nw.use (zn_on hi) (zn_warm hi hW (K.2.2.2.1 w hz))
  have hgood : ∀ w ∈ Cond.classLink RX11 ik (za_exn ex) :: Cond.initialized (za_exn ex) :: za_atX ex, vx_ot w = true := by
    intro w hw
    rcases List.mem_cons.mp hw with rfl | hw
    · rfl
    · rcases List.mem_cons.mp hw with rfl | hw
      · rfl
      · exact zx_ot ex hex w hw
  have hout : ∀ (k : Nat), ∀ x ∈ c.exceptionTable.toList, covers x k = false := fun k x hx => by rw [htab, hhe] at hx; exact absurd hx List.not_mem_nil
  have hsz : ls.size = c.maxLocals := by
    obtain ⟨lc, l9, -⟩ := h4
    exact l9.1.trans hml.symm
  have hX9 : ∀ t9 : State, s.vm.Alike t9.vm → H.size ≤ t9.heap.size → (∀ q : Nat, q < H.size → t9.heap[q]? = H[q]?) → X0 = (.inr ex, t.1) → zp_XC E ads0 X0 (za_exn ex) s t9 := by
    intro t9 _ hs9 hq9 hmem
    subst hmem
    refine ⟨ex, ads, rfl, hex, rfl, h1, ?_, ?_⟩
    · obtain ⟨ws, e1, e2, e3, e4, e5⟩ := h5
      exact ⟨ws, e1, e2, e3, e4.kept (fun k q hk => hq9 q.1 (e4 k q hk).lt), e5⟩
    · have hB := za_Bl_S h0 h6
      exact ⟨Nat.le_trans hB.1 hs9, fun q hq => (hq9 q (Nat.lt_of_lt_of_le hq hB.1)).trans (hB.2 q hq)⟩
  unfold zp_thr at h
  split at h
  · rename_i is f3 f4
    split at h
    · rename_i ic f6 f9
      split at h
      · rename_i r1 r2 r3 ex' r4 r5 c1 c2
        split at h
        · rename_i hc
          obtain ⟨g1, g2, g3, g4⟩ := hc
          subst g1
          cases h
          have x1 := zc_xr c2
          have x2 := zc_xr c1
          simp only [za_xok, Bool.and_eq_true, Bool.or_eq_true] at x1
          have hc11 : za_cl M = 11 := za_beq x1.1
          have hic : ic = za_icx ex' := by
            rcases x1.2 with z | z
            · rw [za_beq z.1, za_beq z.2]; rfl
            · rw [za_beq z.1, za_beq z.2]; rfl
          rw [hc11] at hown l1 x2
          have hsk : is ∈ za_sk := by
            simp only [za_xok] at x2
            simpa using x2
          obtain ⟨tx, sa, hstr⟩ := K.2.2.2.2.2.2.2.2.2.2.2 is hsk
          subst hic
          exact zt_throw (pq := pc + 6) hx hb K.1 (zx_d0 _ hex) (zx_d1 _ hex) (zx_d2 _ hex) (zx_d5 _ hex) hown (zx_fit _ hex) zx_fitn l1 l2 (vk_R.warm hW hstr) hat hgood hU hN h6 hsz hdg (za_fe_1 hdec f3 rfl) (Or.inl ⟨za_fe_1 hdec f4 rfl, rfl⟩) (za_fe_1 hdec f6 rfl) (za_fe_1 hdec f9 rfl) (hout _) (by show 2 + 3 < R.frames; omega) (by rw [zp_wt_ok h3]; show zp_wt st + (13 * (2 + 1) + 43) ≤ R.locals; omega) (by rw [hRc]; exact g3) (by rw [hRs]; exact g4) hlocks (fun t9 a1 a2 a3 => hX9 t9 a1 a2 a3 rfl) (fun z hz => h6.2.2 z hz) g3 g4
        · cases h
      · cases h
    · cases h
  · rename_i is f3 f4
    split at h
    · rename_i ic f6 f9
      split at h
      · rename_i r1 r2 r3 ex' r4 r5 c1 c2
        split at h
        · rename_i hc
          obtain ⟨g1, g2, g3, g4⟩ := hc
          subst g1
          cases h
          have x1 := zc_xr c2
          have x2 := zc_xr c1
          simp only [za_xok, Bool.and_eq_true, Bool.or_eq_true] at x1
          have hc11 : za_cl M = 11 := za_beq x1.1
          have hic : ic = za_icx ex' := by
            rcases x1.2 with z | z
            · rw [za_beq z.1, za_beq z.2]; rfl
            · rw [za_beq z.1, za_beq z.2]; rfl
          rw [hc11] at hown l1 x2
          have hsk : is ∈ za_sk := by
            simp only [za_xok] at x2
            simpa using x2
          obtain ⟨tx, sa, hstr⟩ := K.2.2.2.2.2.2.2.2.2.2.2 is hsk
          subst hic
          exact zt_throw (pq := pc + 7) hx hb K.1 (zx_d0 _ hex) (zx_d1 _ hex) (zx_d2 _ hex) (zx_d5 _ hex) hown (zx_fit _ hex) zx_fitn l1 l2 (vk_R.warm hW hstr) hat hgood hU hN h6 hsz hdg (za_fe_1 hdec f3 rfl) (Or.inr ⟨za_fe_1 hdec f4 rfl, rfl⟩) (za_fe_1 hdec f6 rfl) (za_fe_1 hdec f9 rfl) (hout _) (by show 2 + 3 < R.frames; omega) (by rw [zp_wt_ok h3]; show zp_wt st + (13 * (2 + 1) + 43) ≤ R.locals; omega) (by rw [hRc]; exact g3) (by rw [hRs]; exact g4) hlocks (fun t9 a1 a2 a3 => hX9 t9 a1 a2 a3 rfl) (fun z hz => h6.2.2 z hz) g3 g4
        · cases h
      · cases h
    · cases h
  · cases h
theorem zy_end {i : Instr} (X : za_Cx p l R s m args meth c E L s0 d M) (hmm : (pc, i) ∈ za_is M) (h : zp_end M (za_CP (za_cl M)) i pc st t = some X0) : zp_G p l e R s m args below meth c (vx_MQ below (zp_Qc E ads0 X0) (zp_XC E ads0 X0) args s (za_mc M) (za_ms M) (za_A E)) E (za_nL M) ads0 (pc, lv, st, t) := by
  obtain ⟨len, hd0, hln⟩ := za_dok_ok (q := (pc, i)) (List.all_eq_true.mp X.2.2.2.2.2.2.2.2.2.2.2.1 _ hmm)
  have hd : za_sw i = false → decode M.2.1 pc = .ok (i, za_ln i) := fun z => by
    rcases hln with h9 | h9
    · rw [show za_sw i = true from h9] at z; cases z
    · rw [show len = za_ln i from h9] at hd0; exact hd0
  unfold zp_end at h
  split at h
  · exact zy_iret X (hd rfl) h
  · exact zy_lret X (hd rfl) h
  · exact zy_vret X (hd rfl) h
  · split at h
    · rename_i k ex j9 z9 hrow hhe
      exact zy_thr X hhe hrow (hd rfl) h
    · cases h
  · cases h
/-! behind a call -/
theorem zy_aft {own : String} {rest : List zp_V} {X1 : zp_X} {cp : Nat → Option za_row} {a9 : Array Value} {mcY msY cells slots : Nat} {ads : List Nat} {H : Heap} {locs : List Loc} {ls : Array Slot} {stk rst : List Value}
    (hx : p.tables.exec = Jvm.exec) (hb : c.code = M.2.1) (hown : s.vm.findClass own = some m.cls) (hlocks : meth.locks = false) (h0 : za_Bl E s.heap) (htab : c.exceptionTable.toList = tableOf (za_hh M)) (hzk : zh_ok s args own cp) (hdec : (za_is M).all (za_dok M.2.1) = true) (hcs : cells + mcY ≤ za_mc M) (hsl : slots + msY ≤ za_ms M)
    (hr : vx_Run p l e R s m args below meth c H locs cells slots mcY msY (F0 m pc ls stk) rst (zp_Qc E ads X1 a9) (zp_XC E ads X1) (za_A E))
    (hK1 : zp_K1 (fun S X => zp_G p l e R s m args below meth c (vx_MQ below (zp_Qc E ads0 X) (zp_XC E ads0 X) args s (za_mc M) (za_ms M) (za_A E)) E (za_nL M) ads0 S) (zp_aft M cp pc lv rest (cells + mcY) (slots + msY) X1) X0)
    (h1 : ads0 <+: ads) (h3 : za_F2 (zp_gV ads) rest rst) (h4 : ∃ lc, lv_has ls (za_nL M) lc ∧ za_F2 (zp_gP ads) lv lc) (h6 : va_S (za_A E) s.heap H locs) :
    W p l e R s m args below meth c H locs cells slots (vx_MQ below (zp_Qc E ads0 X0) (zp_XC E ads0 X0) args s (za_mc M) (za_ms M) (za_A E)) (F0 m pc ls stk) := by
  intro T hT X
  rcases hr T hT X with ⟨v, st₀, t9, T', L9, g0, X', hL, e1, e2, hq, st⟩ | ⟨q, st₀, t9, T', L9, nm, ce, g0, X', hL, e1, e2, hx9, hce, hcv, hcl, st⟩
  · obtain ⟨v9, ads9, w9, m1, m2, m3, m4, m6, m7⟩ := hq
    cases m2
    have hS : va_S (za_A E) s.heap T'.heap (locs ++ L9) := by
      refine ⟨X'.same.2.1, fun q hq1 hq2 => ?_, fun z hz => ?_⟩
      · have hq3 : q < (za_H0 E).size := Nat.not_le.mp hq2
        rw [e1, m7.2 q hq3, h0.2 q hq3]
      · rcases List.mem_append.mp hz with z1 | z1
        · exact h6.2.2 z z1
        · exact hL z z1
    obtain ⟨xo, xh⟩ := X1
    have m1 : xo = .inl v9 := m1
    subst m1
    have hG : zp_G p l e R s m args below meth c (vx_MQ below (zp_Qc E ads0 X0) (zp_XC E ads0 X0) args s (za_mc M) (za_ms M) (za_A E)) E (za_nL M) ads0 (pc + 3, lv, v9.toList ++ rest, xh, cells + mcY, slots + msY) := by
      cases v9 with
      | none => exact hK1
      | some v9 => exact hK1
    obtain ⟨t2, a1, b1⟩ := hG ads9 T'.heap (locs ++ L9) ls (v.toList ++ rst) ⟨h1.trans m4, zp_gW_st m3 (za_F2_mono (fun _ _ => zp_gV_mono m4) h3), zp_lv_mono m4 h4, by rw [e1]; exact m6, hS⟩ T' rfl X'
    exact ⟨t2, st t2 a1, b1⟩
  · obtain ⟨ex, ads9, m1, mex, m2, m4, m6, m7⟩ := hx9
    subst m2
    have hS : va_S (za_A E) s.heap T'.heap (locs ++ L9) := by
      refine ⟨X'.same.2.1, fun q hq1 hq2 => ?_, fun z hz => ?_⟩
      · have hq3 : q < (za_H0 E).size := Nat.not_le.mp hq2
        rw [e1, m7.2 q hq3, h0.2 q hq3]
      · rcases List.mem_append.mp hz with z1 | z1
        · exact h6.2.2 z z1
        · exact hL z z1
    obtain ⟨xo, xh⟩ := X1
    have m1 : xo = .inr ex := m1
    subst m1
    have z1 : zp_K1 (fun S X => zp_G p l e R s m args below meth c (vx_MQ below (zp_Qc E ads0 X) (zp_XC E ads0 X) args s (za_mc M) (za_ms M) (za_A E)) E (za_nL M) ads0 S) (match za_hnd cp pc ex (za_hh M) with
      | none => none
      | some none => some (.inr (.inr ex, xh))
      | some (some hp) => match za_fe (za_is M) hp with
        | some (.astore_n k) => bif Nat.blt k.val (za_nL M) then some (.inl (hp + 1, zp_fl lv k.val, [], xh, cells + mcY, slots + msY)) else none
        | some (.astore k) => bif Nat.blt k (za_nL M) then some (.inl (hp + 2, zp_fl lv k, [], xh, cells + mcY, slots + msY)) else none
        | _ => none) X0 := hK1
    have hce9 : T'.heap[q]? = some ce := by rw [e1]; exact hce
    split at z1
    · exact z1.elim
    · rename_i hhnd
      have z1 : ((.inr ex, xh) : zp_X) = X0 := z1
      subst z1
      have hV : vx_W p l e R s m args below meth c T'.heap (locs ++ L9) (cells + mcY) (slots + msY) (vx_MQ below (zp_Qc E ads0 (.inr ex, xh)) (zp_XC E ads0 (.inr ex, xh)) args s (za_mc M) (za_ms M) (za_A E)) (F0 m pc ls rst) q :=
        vx_out (fun x hx => za_hnd_out hhnd x (by rw [← htab]; exact hx)) hlocks hce9 hcv hcl (fun t8 ht _ => ⟨ex, ads9, rfl, mex, rfl, h1.trans m4, by rw [ht, e1]; exact m6, by rw [ht, e1]; exact m7⟩) (fun z hz => hS.2.2 z hz) hcs hsl
      obtain ⟨t2, a1, b1⟩ := hV T' rfl X'
      exact ⟨t2, st.trans a1, b1⟩
    · rename_i hp hhnd
      have h4 := zp_lv_mono m4 h4
      obtain ⟨lc, l1, l2⟩ := h4
      have hV : vx_W p l e R s m args below meth c T'.heap (locs ++ L9) (cells + mcY) (slots + msY) (vx_MQ below (zp_Qc E ads0 X0) (zp_XC E ads0 X0) args s (za_mc M) (za_ms M) (za_A E)) (F0 m pc ls rst) q := by
        refine zh_catch hown htab hzk mex hhnd hce9 hcv hcl ?_
        split at z1
        · rename_i k hfe
          cases g1 : Nat.blt k.val (za_nL M) with
          | false => rw [g1] at z1; exact z1.elim
          | true =>
            rw [g1] at z1
            refine lv_astore_n hx hb (za_fe_1 hdec hfe rfl) rfl l1 (za_blt g1) rfl (fun ls' h4 => ?_)
            exact z1 ads9 T'.heap (locs ++ L9) ls' [] ⟨h1.trans m4, trivial, ⟨_, ⟨h4.1, h4.2.1, fun z hz => h4.2.2 z (List.mem_cons_of_mem _ hz)⟩, za_F2_filter (fun a b hab => by rw [hab.1, zp_cat_ok hab.2]) l2⟩, by rw [e1]; exact m6, hS⟩
        · rename_i k hfe
          cases g1 : Nat.blt k (za_nL M) with
          | false => rw [g1] at z1; exact z1.elim
          | true =>
            rw [g1] at z1
            refine lv_astore hx hb (za_fe_1 hdec hfe rfl) l1 (za_blt g1) rfl (fun ls' h4 => ?_)
            exact z1 ads9 T'.heap (locs ++ L9) ls' [] ⟨h1.trans m4, trivial, ⟨_, ⟨h4.1, h4.2.1, fun z hz => h4.2.2 z (List.mem_cons_of_mem _ hz)⟩, za_F2_filter (fun a b hab => by rw [hab.1, zp_cat_ok hab.2]) l2⟩, by rw [e1]; exact m6, hS⟩
        · exact z1.elim
      obtain ⟨t2, a1, b1⟩ := hV T' rfl X'
      exact ⟨t2, st.trans a1, b1⟩
theorem zy_met0 {y : MethodName} {ws : List Cond} {rm : Room} {Pc : Array Value → State → Prop} {X1 : zp_X} {ads : List Nat} {mc ms : Nat} {free : Addr → Prop} (h : vx_Met l y ws rm Pc (zp_Qc E ads X1) (zp_XC E ads X1) mc ms free) (hn : zp_nox X1) : Met l y ws rm Pc (zp_Qc E ads X1) mc ms free := by
  intro p e h1 h2 h3 s m args below h4 h5 h6 h7
  obtain ⟨n, o, k1, k2, k3, k4⟩ := h p e h1 h2 h3 s m args below h4 h5 h6 h7
  refine ⟨n, o, k1, k2, k3, ?_⟩
  rcases k4 with k4 | ⟨q, -, E9, ce, L9, ⟨ex, ads9, m1, -⟩, -⟩
  · exact k4
  · unfold zp_nox at hn
    rw [m1] at hn
    exact hn.elim
theorem zy_len {k : Nat} {ads : List Nat} {As : List Value} (hA : za_F2 (zp_gV ads) (st.take k).reverse As) (hk : k ≤ st.length) : As.length = k := by
  rw [← za_F2_len hA]
  simp only [List.length_reverse, List.length_take]
  omega
theorem zy_rk {k own : Nat} {hp : zp_H} (h : zp_isRk st k hp own = true) : ∃ q, st[k]? = some (.inr (.inr (some (q + 1)))) ∧ hp.1[q]? = some (.inl own) := by
  unfold zp_isRk at h
  split at h
  · rename_i q hq
    split at h
    · rename_i ci h9
      have h := za_beq h
      subst h
      exact ⟨q, hq, h9⟩
    · cases h
  · cases h
theorem zy_inv {nx : Bool} {Y : za_MI} {j k : Nat} {X1 : zp_X} (X : za_Cx p l R s m args meth c E L s0 d M) (IH : zp_IH l E s0 d C) (hj : za_MT j = some Y)
    (rule : ∀ {H : Heap} {locs : List Loc} {cells slots : Nat} {ls : Array Slot} {as : List zp_V} {As rst : List Value} {ads : List Nat}, as = (st.take k).reverse → cells + za_mc Y ≤ R.cells ∧ slots + za_ms Y ≤ R.slots → vx_Met l Y.1 [za_word Y] (za_rm d Y) (zp_Pc E s0 ads as t.1) (zp_Qc E ads X1) (zp_XC E ads X1) (za_mc Y) (za_ms Y) (za_A E) → (nx = true → zp_nox X1) → (∀ U : State, U.heap = H → s.WarmedH U.vm → zp_Pc E s0 ads as t.1 As.toArray U) → za_F2 (zp_gV ads) as As → zp_Wd E ads t.1 H → k ≤ st.length → ls.size = za_nL M → (rst.map fun v => v.category).sum ≤ 8 →
      vx_Run p l e R s m args below meth c H locs cells slots (za_mc Y) (za_ms Y) (F0 m pc ls (As.reverse ++ rst)) rst (zp_Qc E ads X1 As.toArray) (zp_XC E ads X1) (za_A E))
    (hp : zp_pre M Y k st t) (hC : C j (st.take k).reverse t.1 X1) (hnx : nx = true → zp_nox X1)
    (hK1 : zp_K1 (fun S X => zp_G p l e R s m args below meth c (vx_MQ below (zp_Qc E ads0 X) (zp_XC E ads0 X) args s (za_mc M) (za_ms M) (za_A E)) E (za_nL M) ads0 S) (zp_aft M (za_CP (za_cl M)) pc lv (st.drop k) (t.2.1 + za_mc Y) (t.2.2 + za_ms Y) X1) X0) : zp_G p l e R s m args below meth c (vx_MQ below (zp_Qc E ads0 X0) (zp_XC E ads0 X0) args s (za_mc M) (za_ms M) (za_A E)) E (za_nL M) ads0 (pc, lv, st, t) := by
  obtain ⟨hx, hb, hml, hr, hlocks, hnm, hown, htab, K, hW, h0, hdec, hRf, hRl, hRc, hRs⟩ := X
  obtain ⟨g1, g2, g3, g4⟩ := hp
  intro ads H locs ls stk Mm
  obtain ⟨h1, h3, h4, h5, h6⟩ := Mm
  obtain ⟨As, rst, e9, s1, s2⟩ : ∃ As rst, stk = As.reverse ++ rst ∧ za_F2 (zp_gV ads) (st.take k).reverse As ∧ za_F2 (zp_gV ads) (st.drop k) rst :=
    ⟨(stk.take k).reverse, stk.drop k, by simp, za_F2_rev (za_F2_split k h3).1, (za_F2_split k h3).2⟩
  subst e9
  have hsz : ls.size = za_nL M := by
    obtain ⟨lc, l9, -⟩ := h4
    exact l9.1
  have hB := za_Bl_S h0 h6
  have hrun := rule (H := H) (locs := locs) (cells := t.2.1) (slots := t.2.2) (ls := ls) (rst := rst) rfl ⟨by rw [hRc]; exact g3, by rw [hRs]; exact g4⟩ (IH j Y _ _ X1 ads hj hC) hnx (fun U hU hWU => ⟨As, rfl, s1, by rw [hU]; exact h5, State.WarmedH.trans hW hWU, by rw [hU]; exact hB⟩) s1 h5 g1 hsz (by rw [zp_wt_ok s2]; exact g2)
  exact zy_aft hx hb hown hlocks h0 htab (zk_zh K hW _) hdec g3 g4 hrun hK1 h1 s2 h4 h6
theorem zy_call {i : Instr} {nx : Bool} {Y : za_MI} {j k : Nat} {X1 : zp_X} (X : za_Cx p l R s m args meth c E L s0 d M) (IH : zp_IH l E s0 d C) (hmm : (pc, i) ∈ za_is M) (h : zp_cl (za_CP (za_cl M)) i st t = some (nx, j, k, Y)) (hp : zp_pre M Y k st t) (hC : C j (st.take k).reverse t.1 X1) (hnx : nx = true → zp_nox X1)
    (hK1 : zp_K1 (fun S X => zp_G p l e R s m args below meth c (vx_MQ below (zp_Qc E ads0 X) (zp_XC E ads0 X) args s (za_mc M) (za_ms M) (za_A E)) E (za_nL M) ads0 S) (zp_aft M (za_CP (za_cl M)) pc lv (st.drop k) (t.2.1 + za_mc Y) (t.2.2 + za_ms Y) X1) X0) : zp_G p l e R s m args below meth c (vx_MQ below (zp_Qc E ads0 X0) (zp_XC E ads0 X0) args s (za_mc M) (za_ms M) (za_A E)) E (za_nL M) ads0 (pc, lv, st, t) := by
  obtain ⟨len, hd0, hln⟩ := za_dok_ok (q := (pc, i)) (List.all_eq_true.mp X.2.2.2.2.2.2.2.2.2.2.2.1 _ hmm)
  have hd : za_sw i = false → decode M.2.1 pc = .ok (i, za_ln i) := fun z => by
    rcases hln with h9 | h9
    · rw [show za_sw i = true from h9] at z; cases z
    · rw [show len = za_ln i from h9] at hd0; exact hd0
  have hfix := zj_fix X
  obtain ⟨-, -, -, -, -, -, -, -, K, hW, -⟩ := id X
  have hK := zk_K K hW
  have recv : ∀ {n : Nat} {Y : za_MI}, zp_isRk st n t.1 (za_cl Y) = true → (vwCl[za_cl Y]?).map (fun q => q.1) = some Y.1.cls → ∀ {ads : List Nat} {As : List Value} {H : Heap}, za_F2 (zp_gV ads) (st.take (n + 1)).reverse As → zp_Wd E ads t.1 H → n + 1 ≤ st.length → ∃ b Bs, As = .ref b :: Bs ∧ Bs.length = n ∧ ∃ cellB : Cell, H[b]? = some cellB ∧ cellB.vm.isStatics = false ∧ s.vm.findClass Y.1.cls = some cellB.cls := by
    intro n Y hrk hcl ads As H hA hw hle
    obtain ⟨q, e1, e2⟩ := zy_rk hrk
    rw [zl_rev e1] at hA
    obtain ⟨_, Bs, rfl, ⟨b, rfl, hb⟩, hB⟩ := za_F2_cons hA
    obtain ⟨ws, x, f1, f2, f3, f4, f5, f6, f7⟩ := zp_obj hw hb e2
    match x, f6, f7 with
    | .inr (cj, vs), f6, f7 =>
      obtain ⟨rfl, -, -⟩ := f7
      refine ⟨b, Bs, rfl, zy_len hB (by omega), ?_⟩
      cases hq : vwCl[za_cl Y]? with
      | none => rw [hq] at hcl; cases hcl
      | some q9 =>
        rw [hq] at hcl
        have hcl : q9.1 = Y.1.cls := Option.some.inj hcl
        rw [← hcl]
        exact va_recv hK f4 hq f6
  unfold zp_cl at h
  split at h
  · rename_i k9
    split at h
    · rename_i j9 n z hrow
      obtain ⟨w1, w2⟩ := zc_row hrow
      split at h
      · rename_i Y9 hj
        obtain ⟨hrk, h⟩ := za_bif h
        cases h
        have hs := zb_Y (show za_sY j _ = true from w2) hj
        simp only [Bool.and_eq_true, decide_eq_true_eq] at hs
        obtain ⟨⟨s1, s2⟩, s3⟩ := hs
        have l1 := zk_w K hW (a9 := args) _ (w1 (Cond.methodLink (za_ow (za_cl M)) k9 Y.1) (by simp [za_need, za_wY, hj]))
        have l2 := zk_w K hW (a9 := args) _ (w1 (Cond.instanceMethod Y.1) (by simp [za_need, za_wY, hj]))
        have l3 := zk_w K hW (a9 := args) _ (w1 (Cond.selects Y.1.cls Y.1 Y.1) (by simp [za_need, za_wY, hj]))
        refine zy_inv X IH hj ?_ hp hC hnx hK1
        intro H locs cells slots ls as As rst ads has hf hM hnx hPc hA hw hle hsz h8
        subst has
        obtain ⟨b, Bs, rfl, hlen, hcell⟩ := recv hrk s2 hA hw hle
        exact vx_runV hfix hM ⟨zj_CB X hj s3 s1 l1, l2, l3⟩ ⟨zp_Pc_blind, hcell, hPc⟩ rfl hlen hsz (by show (Value.ref b :: Bs).reverse ++ rst = _; simp) (by show 2 * 0 + _ ≤ 8; omega) (hd rfl) hf
      · cases h
    · rename_i j9 n z hrow
      obtain ⟨w1, w2⟩ := zc_row hrow
      split at h
      · rename_i Y9 hj
        obtain ⟨hrk, h⟩ := za_bif h
        cases h
        have hs := zb_Y (show za_sY j _ = true from w2) hj
        simp only [Bool.and_eq_true, decide_eq_true_eq] at hs
        obtain ⟨⟨s1, s2⟩, s3⟩ := hs
        have l1 := va_Nw.use (A := args) rfl (((K.2.2.2.1 _ (zc_nest hrow (Cond.methodLinkNest (za_ow (za_cl M)) k9 Y.1 RX11) (by simp [za_nneed, za_wY, hj])))).warmM hW)
        have l2 := zk_w K hW (a9 := args) _ (w1 (Cond.instanceMethod Y.1) (by simp [za_need, za_wY, hj]))
        have l3 := zk_w K hW (a9 := args) _ (w1 (Cond.selects Y.1.cls Y.1 Y.1) (by simp [za_need, za_wY, hj]))
        refine zy_inv X IH hj ?_ hp hC hnx hK1
        intro H locs cells slots ls as As rst ads has hf hM hnx hPc hA hw hle hsz h8
        subst has
        obtain ⟨b, Bs, rfl, hlen, hcell⟩ := recv hrk s2 hA hw hle
        exact zr_of (va_runVN hfix (zy_met0 hM (hnx rfl)) ⟨zj_CN X hj s3 s1 l1, l2, l3⟩ ⟨zp_Pc_blind, hcell, hPc⟩ rfl hlen hsz (by show (Value.ref b :: Bs).reverse ++ rst = _; simp) (by show 2 * 0 + _ ≤ 8; omega) (hd rfl) hf)
      · cases h
    · cases h
  · rename_i k9
    split at h
    · rename_i j9 n z hrow
      obtain ⟨w1, w2⟩ := zc_row hrow
      split at h
      · rename_i Y9 hj
        cases h
        have s1 := zb_Y (show za_sY j _ = true from w2) hj
        have l1 := zk_w K hW (a9 := args) _ (w1 (Cond.methodLink (za_ow (za_cl M)) k9 Y.1) (by simp [za_need, za_wY, hj]))
        have l2 := zk_w K hW (a9 := args) _ (w1 (Cond.static Y.1) (by simp [za_need, za_wY, hj]))
        refine zy_inv X IH hj ?_ hp hC hnx hK1
        intro H locs cells slots ls as As rst ads has hf hM hnx hPc hA hw hle hsz h8
        subst has
        by_cases hh : za_hh Y = []
        · exact vx_runS hfix hM ⟨zj_CB X hj hh s1 l1, l2⟩ ⟨zp_Pc_blind, hPc⟩ rfl (zy_len hA hle) hsz rfl (by show 2 * 0 + _ ≤ 8; omega) (hd rfl) hf
        · exact vx_runSX hfix hM (zj_CSW X hj hh s1 l1 l2) ⟨zp_Pc_blind, hPc⟩ rfl (zy_len hA hle) hsz rfl (by show 2 * 0 + _ ≤ 8; omega) (hd rfl) hf
      · cases h
    · rename_i j9 n z hrow
      obtain ⟨w1, w2⟩ := zc_row hrow
      split at h
      · rename_i Y9 hj
        cases h
        have hs := zb_Y (show za_sY j _ = true from w2) hj
        simp only [Bool.and_eq_true, decide_eq_true_eq] at hs
        obtain ⟨s1, s3⟩ := hs
        have l1 := va_Nw.use (A := args) rfl (((K.2.2.2.1 _ (zc_nest hrow (Cond.methodLinkNest (za_ow (za_cl M)) k9 Y.1 RX11) (by simp [za_nneed, za_wY, hj])))).warmM hW)
        have l2 := zk_w K hW (a9 := args) _ (w1 (Cond.static Y.1) (by simp [za_need, za_wY, hj]))
        refine zy_inv X IH hj ?_ hp hC hnx hK1
        intro H locs cells slots ls as As rst ads has hf hM hnx hPc hA hw hle hsz h8
        subst has
        exact zr_of (va_runSN hfix (zy_met0 hM (hnx rfl)) ⟨zj_CN X hj s3 s1 l1, l2, trivial⟩ ⟨zp_Pc_blind, hPc⟩ rfl (zy_len hA hle) hsz rfl (by show 2 * 0 + _ ≤ 8; omega) (hd rfl) hf)
      · cases h
    · cases h
  · cases h
/-! the run -/
theorem zy_run (X : za_Cx p l R s m args meth c E L s0 d M) (hstr : zp_strOK l E L s0) (IH : zp_IH l E s0 d C) : ∀ (n : Nat) (S : zp_S) (X0 : zp_X), zp_RunN L (za_σ E) M C n S X0 → zp_G p l e R s m args below meth c (vx_MQ below (zp_Qc E ads0 X0) (zp_XC E ads0 X0) args s (za_mc M) (za_ms M) (za_A E)) E (za_nL M) ads0 S
  | 0, _, _, h => h.elim
  | n + 1, (pc, lv, st, t), X0, h => by
    obtain ⟨i, hi, h⟩ := h
    have hmm := za_fe_mem hi
    rcases h with ⟨S', h1, h2⟩ | h | ⟨nx, j, k, Y, X1, h1, h2, h3, h4, h5⟩
    · exact zy_ins X hstr hmm h1 (zy_run X hstr IH n S' X0 h2)
    · exact zy_end X hmm h
    · refine zy_call X IH hmm h1 h2 h3 h4 ?_
      generalize zp_aft M (za_CP (za_cl M)) pc lv (st.drop k) (t.2.1 + za_mc Y) (t.2.2 + za_ms Y) X1 = o at h5 ⊢
      match o, h5 with
      | some (.inl S'), h5 => exact zy_run X hstr IH n S' X0 h5
      | some (.inr X'), h5 => exact h5
end ZY
theorem zp_sl : ∀ {ads : List Nat} {as : List zp_V} {vs : List Value}, za_F2 (zp_gV ads) as vs → (lg_sl vs).length = zp_wt as
  | _, [], [], _ => rfl
  | _, v :: as, w :: vs, h => by
    have h1 := zp_sl h.2
    have h2 := zp_cat_ok h.1
    have h3 : lg_sl (w :: vs) = (if w.category = 2 then [Slot.val w, Slot.second] else [Slot.val w]) ++ lg_sl vs := rfl
    have h4 : zp_wt (v :: as) = zp_cat v + zp_wt as := rfl
    rw [h3, h4, List.length_append, h1, ← h2]
    cases w <;> rfl
  | _, [], _ :: _, h => h.elim
  | _, _ :: _, [], h => h.elim
theorem zp_args_ok : ∀ {ads : List Nat} {as : List zp_V} {vs : List Value} (i : Nat), za_F2 (zp_gV ads) as vs → za_F2 (zp_gP ads) (zp_args i as) (lv_args i vs)
  | _, [], [], _, _ => trivial
  | _, v :: as, w :: vs, i, h => by
    have h2 := zp_cat_ok h.1
    refine ⟨⟨rfl, h.1⟩, ?_⟩
    rw [h2]
    exact zp_args_ok _ h.2
  | _, [], _ :: _, _, h => h.elim
  | _, _ :: _, [], _, h => h.elim
theorem zy_spec {Y : za_MI} {args : Array Value} {s : State} {m : MethodId} (h : (za_word Y).before args s = true) (hn : s.methodNamed? Y.1 = some m) : ∃ meth c, s.vm.method? m = some meth ∧ meth.code = some c ∧ c.code = Y.2.1 ∧ c.maxLocals = za_nL Y ∧ meth.sig.returnType = za_rt Y ∧ meth.locks = false ∧ c.exceptionTable.toList = tableOf (za_hh Y) := by
  by_cases hh : za_hh Y = []
  · rw [zj_code hh] at h
    obtain ⟨meth, c, h1, h2, h3, h4, h5, h6, h7, -⟩ := Cond.code_spec hn h
    exact ⟨meth, c, h1, h2, h3, h4, h5, h6, by rw [Array.isEmpty_iff.mp h7, hh]; rfl⟩
  · rw [zj_with hh] at h
    obtain ⟨m9, meth, c, hn9, h1, h2, h3, h4, h6, h5, h7, -⟩ := Cond.codeWith_spec h
    cases Option.some.inj (hn9.symm.trans hn)
    exact ⟨meth, c, h1, h2, h3, h4, h5, h7, by rw [← h6, table_eq]⟩
theorem zy_met {l : Launch} {E : za_E} {s0 : State} {L d n : Nat} {C : zp_C} {Y : za_MI} {as : List zp_V} {h : zp_H} {X0 : zp_X} {ads : List Nat} (K : za_K0 l E L s0) (hstr : zp_strOK l E L s0) (IH : zp_IH l E s0 d C) (hpl : plainFor Y.1 = true) (how : za_ow (za_cl Y) = Y.1.cls) (hdec : (za_is Y).all (za_dok Y.2.1) = true) (hwt : zp_wt as ≤ za_nL Y) (hrun : zp_RunN L (za_σ E) Y C n (0, zp_args 0 as, [], h, 0, 0) X0) :
    vx_Met l Y.1 [za_word Y] (za_rm (d + 1) Y) (zp_Pc E s0 ads as h) (zp_Qc E ads X0) (zp_XC E ads X0) (za_mc Y) (za_ms Y) (za_A E) := by
  refine MetFree.of_bodySF (code := Y.2.1) (maxLocals := za_nL Y) (ret := za_rt Y) hpl ?_ ?_
  · intro args s m h hn
    obtain ⟨meth, c, h1, h2, h3, h4, h5, h6, -⟩ := zy_spec (atoms_spec (ws := [za_word Y]) h _ List.mem_cons_self) hn
    exact ⟨meth, c, h1, h2, h3, h4, h5, h6⟩
  · intro p e s m args below meth c s₁ B hml hP _
    have hh0 : s₁.heap = s.heap := by rw [B.state]; rfl
    obtain ⟨vs, rfl, hA, hWd, hW, hBl⟩ := hP
    have htab : c.exceptionTable.toList = tableOf (za_hh Y) := by
      obtain ⟨meth9, c9, h1, h2, -, -, -, -, h7⟩ := zy_spec (atoms_spec (ws := [za_word Y]) B.pre _ List.mem_cons_self) B.named
      cases Option.some.inj (h1.symm.trans B.method)
      cases Option.some.inj (h2.symm.trans (Stand.of_body B).code)
      exact h7
    have X : za_Cx p l (headSpec [za_word Y] (za_rm (d + 1) Y)).room s m vs.toArray meth c E L s0 d Y := ⟨B.exec, B.bytes, hml, B.returns, B.notSynchronized, (name_of_methodNamed B.named B.method).1, by rw [how]; exact findClass_of_methodNamed B.named, htab, K, hW, hBl, hdec, by show d + 9 ≤ d + 1 + 8; omega, by show 64 * d + 259 ≤ 64 * (d + 1) + 200; omega, rfl, rfl⟩
    have hG := zy_run (below := below) (e := e) (ads0 := ads) X hstr IH n _ X0 hrun ads s.heap [] ((lg_sl vs ++ List.replicate (za_nL Y - (lg_sl vs).length) Slot.unset).toArray) [] ⟨List.prefix_rfl, trivial, ⟨lv_args 0 vs, lv_entry vs (by rw [zp_sl hA]; exact hwt), zp_args_ok 0 hA⟩, hWd, ⟨Nat.le_refl _, fun _ _ _ => rfl, fun z hz => absurd hz List.not_mem_nil⟩⟩
    rw [lg_entry_eq]
    obtain ⟨t, a1, o, b1, b2, b3⟩ := hG s₁ hh0 (Stand.of_body B)
    exact ⟨t, o, a1, b1, b2, b3⟩
theorem zy_all {l : Launch} {E : za_E} {s0 : State} {L : Nat} (K : za_K0 l E L s0) (hstr : zp_strOK l E L s0) : ∀ d : Nat, zp_IH l E s0 d (zp_Call L (za_σ E) d)
  | 0 => fun _ _ _ _ _ _ _ hc => hc.elim
  | d + 1 => by
    intro j Y as h X ads hj hc
    obtain ⟨Y9, n, h1, h2, h3⟩ := hc
    cases Option.some.inj (h1.symm.trans hj)
    obtain ⟨o1, o2, -⟩ := zj_ok hj
    exact zy_met K hstr (zy_all K hstr d) o1 o2 (zm_d _ (zm_all hj)) h2 h3
