/-! ===== calls ===== -/
section ZI
variable {p : Program} {l : Launch} {e : Env} {R : Room} {s s0 : State} {m : MethodId} {args : Array Value} {below : List Frame} {meth : Method} {c : Code} {E : za_E} {ads0 : List Nat} {pc L d : Nat} {M : za_MI} {call : za_CF} {outs : List za_X} {lv : za_LV} {st : List za_V} {t : za_T} {Z : List za_S × List za_X}
theorem zb_Y {j : Nat} {f : za_MI → Bool} {Y : za_MI} (h : za_sY j f = true) (hj : za_MT j = some Y) : f Y = true := by
  unfold za_sY at h
  rw [hj] at h
  exact h
theorem zj_ok {j : Nat} {Y : za_MI} (hj : za_MT j = some Y) : plainFor Y.1 = true ∧ za_ow (za_cl Y) = Y.1.cls ∧ za_nL Y ≤ 40 ∧ Y.1.cls ≠ "java/lang/invoke/MethodHandle" ∧ Y.1.cls ≠ "java/lang/invoke/VarHandle" := by
  have h := zm_s Y (zm_all hj)
  unfold za_mok at h
  simp only [Bool.and_eq_true, decide_eq_true_eq] at h
  exact ⟨h.1.1.1.1, h.1.1.1.2, za_ble h.1.1.2, h.1.2, h.2⟩
theorem zj_np {Y : za_MI} {n : Nat} (h : za_np Y n = true) : ∀ sig, parseMethodDescriptor Y.1.desc = some sig → n = sig.parameters.length := by
  intro sig hs
  unfold za_np at h
  have h := of_decide_eq_true h
  rw [hs] at h
  exact (Option.some.inj h).symm
theorem zj_ws (K : za_K0 l E L s0) (hW : s0.WarmedH s.vm) {j : Nat} {Y : za_MI} (hj : za_MT j = some Y) : ∀ w ∈ [za_word Y], ∀ (a' : Array Value) (U : State), s.WarmedH U.vm → w.before a' U = true := by
  intro w hw a' U hU
  cases List.mem_singleton.mp hw
  exact zk_w K (State.WarmedH.trans hW hU) _ (zm_w Y (zm_all hj) _ List.mem_cons_self)
theorem zj_ini (K : za_K0 l E L s0) (hW : s0.WarmedH s.vm) {j : Nat} {Y : za_MI} (hj : za_MT j = some Y) {a9 : Array Value} : (Cond.initialized Y.1.cls).before a9 s = true := zk_w K hW _ (zm_w Y (zm_all hj) _ (List.mem_cons_of_mem _ List.mem_cons_self))
theorem zj_code {Y : za_MI} (h : za_hh Y = []) : za_word Y = .code Y.1 Y.2.1 (za_nL Y) (za_rt Y) := by
  unfold za_word
  rw [h]
theorem zj_with {Y : za_MI} (h : za_hh Y ≠ []) : za_word Y = .codeWith Y.1 Y.2.1 (za_nL Y) (za_rt Y) (za_hh Y) := by
  unfold za_word
  split
  · rename_i h9; exact absurd h9 h
  · rfl
theorem zj_rm (X : za_Cx p l R s m args meth c E L s0 d M) {j : Nat} {Y : za_MI} (hj : za_MT j = some Y) : (za_rm d Y).cells = za_mc Y ∧ (za_rm d Y).slots = za_ms Y ∧ (za_rm d Y).frames + 1 ≤ R.frames ∧ 8 + (za_nL Y + 11) + (za_rm d Y).locals ≤ R.locals := by
  obtain ⟨hx, hb, hml, hr, hlocks, hnm, hown, htab, K, hW, h0, hdec, hRf, hRl, hRc, hRs⟩ := X
  have h9 := (zj_ok hj).2.2.1
  refine ⟨rfl, rfl, ?_, ?_⟩
  · show d + 8 + 1 ≤ R.frames
    omega
  · show 8 + (za_nL Y + 11) + (64 * d + 200) ≤ R.locals
    omega
theorem zj_CB (X : za_Cx p l R s m args meth c E L s0 d M) {j n k : Nat} {Y : za_MI} (hj : za_MT j = some Y) (hh : za_hh Y = []) (hn : za_np Y n = true) (hl : (Cond.methodLink (za_ow (za_cl M)) k Y.1).before args s = true) : CallB R s args (za_ow (za_cl M)) k Y.1 Y.2.1 (za_nL Y) (za_rt Y) [za_word Y] (za_rm d Y) (za_mc Y) (za_ms Y) n := by
  obtain ⟨r1, r2, r3, r4⟩ := zj_rm X hj
  obtain ⟨-, -, -, -, -, -, -, -, K, hW, -⟩ := X
  obtain ⟨-, -, -, o4, o5⟩ := zj_ok hj
  have hws := zj_ws K hW hj
  refine ⟨r1, r2, r3, r4, hws, ?_, ?_, zj_ini K hW hj, ⟨o4, o5⟩, zj_np hn, hl⟩
  · rw [zj_code hh]; exact List.mem_cons_self
  · rw [← zj_code hh]; exact hws _ List.mem_cons_self args s (State.WarmedH.refl s)
theorem zj_CN (X : za_Cx p l R s m args meth c E L s0 d M) {j n k : Nat} {Y : za_MI} (hj : za_MT j = some Y) (hh : za_hh Y = []) (hn : za_np Y n = true) (hl : (Cond.methodLinkNest (za_ow (za_cl M)) k Y.1 RX11).before args s = true) : va_CN R s args (za_ow (za_cl M)) k Y.1 RX11 Y.2.1 (za_nL Y) (za_rt Y) [za_word Y] (za_rm d Y) (za_mc Y) (za_ms Y) n := by
  obtain ⟨r1, r2, r3, r4⟩ := zj_rm X hj
  obtain ⟨-, -, -, -, -, -, -, -, K, hW, -⟩ := X
  obtain ⟨-, -, -, o4, o5⟩ := zj_ok hj
  have hws := zj_ws K hW hj
  refine ⟨⟨r1, r2, r3, r4, hws, ?_⟩, ?_, zj_ini K hW hj, ⟨o4, o5⟩, zj_np hn, hl⟩
  · rw [zj_code hh]; exact List.mem_cons_self
  · rw [← zj_code hh]; exact hws _ List.mem_cons_self args s (State.WarmedH.refl s)
theorem zj_CSW (X : za_Cx p l R s m args meth c E L s0 d M) {j n k : Nat} {Y : za_MI} (hj : za_MT j = some Y) (hh : za_hh Y ≠ []) (hn : za_np Y n = true) (hl : (Cond.methodLink (za_ow (za_cl M)) k Y.1).before args s = true) (hst : (Cond.static Y.1).before args s = true) : vx_CSW R s args (za_ow (za_cl M)) k Y.1 Y.2.1 (za_nL Y) (za_rt Y) (za_hh Y) [za_word Y] (za_rm d Y) (za_mc Y) (za_ms Y) n := by
  obtain ⟨r1, r2, r3, r4⟩ := zj_rm X hj
  obtain ⟨-, -, -, -, -, -, -, -, K, hW, -⟩ := X
  obtain ⟨-, -, -, o4, o5⟩ := zj_ok hj
  have hws := zj_ws K hW hj
  refine ⟨⟨r1, r2, r3, r4, hws, ?_⟩, ?_, zj_ini K hW hj, ⟨o4, o5⟩, zj_np hn, hl, hst⟩
  · rw [zj_with hh]; exact List.mem_cons_self
  · rw [← zj_with hh]; exact hws _ List.mem_cons_self args s (State.WarmedH.refl s)
theorem zj_fix (X : za_Cx p l R s m args meth c E L s0 d M) : CallFix p m c M.2.1 (za_nL M) s args [] (za_ow (za_cl M)) := by
  obtain ⟨hx, hb, hml, hr, hlocks, hnm, hown, htab, K, hW, h0, hdec, hRf, hRl, hRc, hRs⟩ := X
  exact ⟨hx, hb, hml, hown, fun w hw => absurd hw List.not_mem_nil⟩
theorem zs_inv {nx : Bool} {Y : za_MI} {j k : Nat} (X : za_Cx p l R s m args meth c E L s0 d M) (IH : za_IH l E s0 d call) (hj : za_MT j = some Y)
    (rule : ∀ {H : Heap} {locs : List Loc} {cells slots : Nat} {ls : Array Slot} {as : List za_V} {As rst : List Value} {xs : List za_X} {ads : List Nat}, as = (st.take k).reverse → cells + za_mc Y ≤ R.cells ∧ slots + za_ms Y ≤ R.slots → vx_Met l Y.1 [za_word Y] (za_rm d Y) (za_Pc E s0 ads as t.1 t.2.1) (za_Qc E ads xs) (za_XC E ads xs) (za_mc Y) (za_ms Y) (za_A E) → (nx = true → za_nox xs = true) → (∀ U : State, U.heap = H → s.WarmedH U.vm → za_Pc E s0 ads as t.1 t.2.1 As.toArray U) → za_F2 (za_gV (za_σ E) ads) as As → za_Wd E ads t.1 H → k ≤ st.length → ls.size = za_nL M → (rst.map fun v => v.category).sum ≤ 8 →
      vx_Run p l e R s m args below meth c H locs cells slots (za_mc Y) (za_ms Y) (F0 m pc ls (As.reverse ++ rst)) rst (za_Qc E ads xs As.toArray) (za_XC E ads xs) (za_A E))
    (h : za_inv nx M (za_CP (za_cl M)) Y call j k pc lv st t = some Z) (hk : ∀ S ∈ Z.1, za_G p l e R s m args below meth c (vx_MQ below (za_Qc E ads0 outs) (za_XC E ads0 outs) args s (za_mc M) (za_ms M) (za_A E)) E (za_nL M) ads0 S) (ho : ∀ x ∈ Z.2, x ∈ outs) : za_G p l e R s m args below meth c (vx_MQ below (za_Qc E ads0 outs) (za_XC E ads0 outs) args s (za_mc M) (za_ms M) (za_A E)) E (za_nL M) ads0 (pc, lv, st, t) := by
  obtain ⟨hx, hb, hml, hr, hlocks, hnm, hown, htab, K, hW, h0, hdec, hRf, hRl, hRc, hRs⟩ := X
  unfold za_inv at h
  obtain ⟨g1, h⟩ := za_bif h
  obtain ⟨g2, h⟩ := za_bif h
  obtain ⟨g3, h⟩ := za_bif h
  obtain ⟨g4, h⟩ := za_bif h
  split at h
  · cases h
  · rename_i xs hc
    obtain ⟨g5, h⟩ := za_bif h
    intro ads H locs ls stk Mm
    obtain ⟨h1, h2, h3, h4, h5, h6⟩ := Mm
    obtain ⟨As, rst, e9, s1, s2⟩ : ∃ As rst, stk = As.reverse ++ rst ∧ za_F2 (za_gV (za_σ E) ads) (st.take k).reverse As ∧ za_F2 (za_gV (za_σ E) ads) (st.drop k) rst :=
      ⟨(stk.take k).reverse, stk.drop k, by simp, za_F2_rev (za_F2_split k h3).1, (za_F2_split k h3).2⟩
    subst e9
    have hsz : ls.size = za_nL M := by
      obtain ⟨lc, l9, -⟩ := h4
      exact l9.1
    have hB := za_Bl_S h0 h6
    have hnx : nx = true → za_nox xs = true := by
      intro hn
      rw [hn] at g5
      exact g5
    have hrun := rule (H := H) (locs := locs) (cells := t.2.2.1) (slots := t.2.2.2) (ls := ls) (rst := rst) rfl ⟨by rw [hRc]; exact za_ble g3, by rw [hRs]; exact za_ble g4⟩ (IH j Y _ _ _ xs ads hj hc) hnx (fun U hU hWU => ⟨As, rfl, s1, h2, by rw [hU]; exact h5, State.WarmedH.trans hW hWU, by rw [hU]; exact hB⟩) s1 h5 (za_ble g1) hsz (by rw [za_wt_ok s2]; exact za_ble g2)
    exact zs_aft hx hb hown hlocks h0 htab (zk_zh K hW _) hdec (za_ble g3) (za_ble g4) hrun h hk ho h1 s2 h4 h6
theorem zl_rev {α : Type} {st : List α} {k : Nat} {v : α} (h : st[k]? = some v) : (st.take (k + 1)).reverse = v :: (st.take k).reverse := by
  rw [List.take_succ, h]
  simp
theorem zl_rf {k : Nat} (h : za_isRf st k = true) : ∃ q, st[k]? = some (.inr (.inr (some (q + 1)))) := by
  unfold za_isRf at h
  split at h
  · rename_i q hq; exact ⟨q, hq⟩
  · cases h
theorem zl_rk {k own : Nat} {hp : List za_O} (h : za_isRk st k hp own = true) : ∃ q fs, st[k]? = some (.inr (.inr (some (q + 1)))) ∧ hp[q]? = some (.inl (own, fs)) := by
  unfold za_isRk at h
  split at h
  · rename_i q hq
    split at h
    · rename_i ci fs h9
      have h := za_beq h
      subst h
      exact ⟨q, fs, hq, h9⟩
    · cases h
  · cases h
theorem zl_len {k n : Nat} {ads : List Nat} {As : List Value} (hA : za_F2 (za_gV (za_σ E) ads) (st.take k).reverse As) (hk : k ≤ st.length) : As.length = k := by
  rw [← za_F2_len hA]
  simp only [List.length_reverse, List.length_take]
  omega
theorem zg_virt {k : Nat} (X : za_Cx p l R s m args meth c E L s0 d M) (IH : za_IH l E s0 d call) (hdg : decode M.2.1 pc = .ok (.invokevirtual k, 3)) (h : za_virt M (za_CP (za_cl M)) za_MT call (za_CP (za_cl M) k) pc lv st t = some Z) (hk : ∀ S ∈ Z.1, za_G p l e R s m args below meth c (vx_MQ below (za_Qc E ads0 outs) (za_XC E ads0 outs) args s (za_mc M) (za_ms M) (za_A E)) E (za_nL M) ads0 S) (ho : ∀ x ∈ Z.2, x ∈ outs) : za_G p l e R s m args below meth c (vx_MQ below (za_Qc E ads0 outs) (za_XC E ads0 outs) args s (za_mc M) (za_ms M) (za_A E)) E (za_nL M) ads0 (pc, lv, st, t) := by
  have hfix := zj_fix X
  obtain ⟨-, -, -, -, -, -, -, -, K, hW, -⟩ := id X
  have hK := zk_K K hW
  have recv : ∀ {j n : Nat} {z : Int} {Y : za_MI}, za_isRk st n t.1 (za_cl Y) = true → (vwCl[za_cl Y]?).map (fun q => q.1) = some Y.1.cls → ∀ {ads : List Nat} {As : List Value} {H : Heap}, za_F2 (za_gV (za_σ E) ads) (st.take (n + 1)).reverse As → za_Wd E ads t.1 H → n + 1 ≤ st.length → ∃ b Bs, As = .ref b :: Bs ∧ Bs.length = n ∧ ∃ cellB : Cell, H[b]? = some cellB ∧ cellB.vm.isStatics = false ∧ s.vm.findClass Y.1.cls = some cellB.cls := by
    intro j n z Y hrk hcl ads As H hA hw hle
    obtain ⟨q, fs, e1, e2⟩ := zl_rk hrk
    rw [zl_rev e1] at hA
    obtain ⟨_, Bs, rfl, ⟨b, rfl, hb⟩, hB⟩ := za_F2_cons hA
    obtain ⟨ws, x, f1, f2, f3, f4, f5, f6⟩ := za_obj hw hb e2
    obtain ⟨vs, rfl, -⟩ := za_gO_o f6
    refine ⟨b, Bs, rfl, zl_len (n := n) hB (by omega), ?_⟩
    cases hq : vwCl[za_cl Y]? with
    | none => rw [hq] at hcl; cases hcl
    | some q9 =>
      rw [hq] at hcl
      have hcl : q9.1 = Y.1.cls := Option.some.inj hcl
      rw [← hcl]
      exact va_recv hK f3 hq f5
  unfold za_virt at h
  split at h
  · rename_i j n z hrow
    obtain ⟨w1, w2⟩ := zc_row hrow
    split at h
    · rename_i Y hj
      obtain ⟨hrk, h⟩ := za_bif h
      have hs := zb_Y (show za_sY j _ = true from w2) hj
      simp only [Bool.and_eq_true, decide_eq_true_eq] at hs
      obtain ⟨⟨s1, s2⟩, s3⟩ := hs
      have l1 := zk_w K hW (a9 := args) _ (w1 (Cond.methodLink (za_ow (za_cl M)) k Y.1) (by simp [za_need, za_wY, hj]))
      have l2 := zk_w K hW (a9 := args) _ (w1 (Cond.instanceMethod Y.1) (by simp [za_need, za_wY, hj]))
      have l3 := zk_w K hW (a9 := args) _ (w1 (Cond.selects Y.1.cls Y.1 Y.1) (by simp [za_need, za_wY, hj]))
      refine zs_inv X IH hj ?_ h hk ho
      intro H locs cells slots ls as As rst xs ads has hf hM hnx hPc hA hw hle hsz h8
      subst has
      obtain ⟨b, Bs, rfl, hlen, hcell⟩ := recv (j := j) (z := z) hrk s2 hA hw hle
      exact vx_runV hfix hM ⟨zj_CB X hj s3 s1 l1, l2, l3⟩ ⟨za_Pc_blind, hcell, hPc⟩ rfl hlen hsz (by show (Value.ref b :: Bs).reverse ++ rst = _; simp) (by show 2 * 0 + _ ≤ 8; omega) hdg hf
    · cases h
  · rename_i j n z hrow
    obtain ⟨w1, w2⟩ := zc_row hrow
    split at h
    · rename_i Y hj
      obtain ⟨hrk, h⟩ := za_bif h
      have hs := zb_Y (show za_sY j _ = true from w2) hj
      simp only [Bool.and_eq_true, decide_eq_true_eq] at hs
      obtain ⟨⟨s1, s2⟩, s3⟩ := hs
      have l1 := va_Nw.use (A := args) rfl (((K.2.2.2.1 _ (zc_nest hrow (Cond.methodLinkNest (za_ow (za_cl M)) k Y.1 RX11) (by simp [za_nneed, za_wY, hj])))).warmM hW)
      have l2 := zk_w K hW (a9 := args) _ (w1 (Cond.instanceMethod Y.1) (by simp [za_need, za_wY, hj]))
      have l3 := zk_w K hW (a9 := args) _ (w1 (Cond.selects Y.1.cls Y.1 Y.1) (by simp [za_need, za_wY, hj]))
      refine zs_inv X IH hj ?_ h hk ho
      intro H locs cells slots ls as As rst xs ads has hf hM hnx hPc hA hw hle hsz h8
      subst has
      obtain ⟨b, Bs, rfl, hlen, hcell⟩ := recv (j := j) (z := z) hrk s2 hA hw hle
      exact zr_of (va_runVN hfix (zo_met hM (hnx rfl)) ⟨zj_CN X hj s3 s1 l1, l2, l3⟩ ⟨za_Pc_blind, hcell, hPc⟩ rfl hlen hsz (by show (Value.ref b :: Bs).reverse ++ rst = _; simp) (by show 2 * 0 + _ ≤ 8; omega) hdg hf)
    · cases h
  · cases h
theorem zg_stat {k : Nat} (X : za_Cx p l R s m args meth c E L s0 d M) (IH : za_IH l E s0 d call) (hdg : decode M.2.1 pc = .ok (.invokestatic k, 3)) (h : za_stat M (za_CP (za_cl M)) za_MT call (za_CP (za_cl M) k) pc lv st t = some Z) (hk : ∀ S ∈ Z.1, za_G p l e R s m args below meth c (vx_MQ below (za_Qc E ads0 outs) (za_XC E ads0 outs) args s (za_mc M) (za_ms M) (za_A E)) E (za_nL M) ads0 S) (ho : ∀ x ∈ Z.2, x ∈ outs) : za_G p l e R s m args below meth c (vx_MQ below (za_Qc E ads0 outs) (za_XC E ads0 outs) args s (za_mc M) (za_ms M) (za_A E)) E (za_nL M) ads0 (pc, lv, st, t) := by
  have hfix := zj_fix X
  obtain ⟨-, -, -, -, -, -, -, -, K, hW, -⟩ := id X
  unfold za_stat at h
  split at h
  · rename_i j n z hrow
    obtain ⟨w1, w2⟩ := zc_row hrow
    split at h
    · rename_i Y hj
      have s1 := zb_Y (show za_sY j _ = true from w2) hj
      have l1 := zk_w K hW (a9 := args) _ (w1 (Cond.methodLink (za_ow (za_cl M)) k Y.1) (by simp [za_need, za_wY, hj]))
      have l2 := zk_w K hW (a9 := args) _ (w1 (Cond.static Y.1) (by simp [za_need, za_wY, hj]))
      refine zs_inv X IH hj ?_ h hk ho
      intro H locs cells slots ls as As rst xs ads has hf hM hnx hPc hA hw hle hsz h8
      subst has
      by_cases hh : za_hh Y = []
      · exact vx_runS hfix hM ⟨zj_CB X hj hh s1 l1, l2⟩ ⟨za_Pc_blind, hPc⟩ rfl (zl_len (n := n) hA hle) hsz rfl (by show 2 * 0 + _ ≤ 8; omega) hdg hf
      · exact vx_runSX hfix hM (zj_CSW X hj hh s1 l1 l2) ⟨za_Pc_blind, hPc⟩ rfl (zl_len (n := n) hA hle) hsz rfl (by show 2 * 0 + _ ≤ 8; omega) hdg hf
    · cases h
  · rename_i j n z hrow
    obtain ⟨w1, w2⟩ := zc_row hrow
    split at h
    · rename_i Y hj
      have hs := zb_Y (show za_sY j _ = true from w2) hj
      simp only [Bool.and_eq_true, decide_eq_true_eq] at hs
      obtain ⟨s1, s3⟩ := hs
      have l1 := va_Nw.use (A := args) rfl (((K.2.2.2.1 _ (zc_nest hrow (Cond.methodLinkNest (za_ow (za_cl M)) k Y.1 RX11) (by simp [za_nneed, za_wY, hj])))).warmM hW)
      have l2 := zk_w K hW (a9 := args) _ (w1 (Cond.static Y.1) (by simp [za_need, za_wY, hj]))
      refine zs_inv X IH hj ?_ h hk ho
      intro H locs cells slots ls as As rst xs ads has hf hM hnx hPc hA hw hle hsz h8
      subst has
      exact zr_of (va_runSN hfix (zo_met hM (hnx rfl)) ⟨zj_CN X hj s3 s1 l1, l2, trivial⟩ ⟨za_Pc_blind, hPc⟩ rfl (zl_len (n := n) hA hle) hsz rfl (by show 2 * 0 + _ ≤ 8; omega) hdg hf)
    · cases h
  · rename_i j n z hrow
    exact zg_acp X hrow hdg h hk
  · cases h
theorem zg_spec {k : Nat} (X : za_Cx p l R s m args meth c E L s0 d M) (IH : za_IH l E s0 d call) (hdg : decode M.2.1 pc = .ok (.invokespecial k, 3)) (h : za_spec M (za_CP (za_cl M)) za_MT call (za_CP (za_cl M) k) pc lv st t = some Z) (hk : ∀ S ∈ Z.1, za_G p l e R s m args below meth c (vx_MQ below (za_Qc E ads0 outs) (za_XC E ads0 outs) args s (za_mc M) (za_ms M) (za_A E)) E (za_nL M) ads0 S) (ho : ∀ x ∈ Z.2, x ∈ outs) : za_G p l e R s m args below meth c (vx_MQ below (za_Qc E ads0 outs) (za_XC E ads0 outs) args s (za_mc M) (za_ms M) (za_A E)) E (za_nL M) ads0 (pc, lv, st, t) := by
  have hfix := zj_fix X
  obtain ⟨hx, hb, hml, -, -, -, hown, -, K, hW, -, -, hRf, hRl, -⟩ := id X
  have recv : ∀ {n : Nat}, za_isRf st n = true → ∀ {ads : List Nat} {As : List Value}, za_F2 (za_gV (za_σ E) ads) (st.take (n + 1)).reverse As → n + 1 ≤ st.length → ∃ b Bs, As = .ref b :: Bs ∧ Bs.length = n := by
    intro n hrf ads As hA hle
    obtain ⟨q, e1⟩ := zl_rf hrf
    rw [zl_rev e1] at hA
    obtain ⟨_, Bs, rfl, ⟨b, rfl, hb⟩, hB⟩ := za_F2_cons hA
    exact ⟨b, Bs, rfl, zl_len (n := n) hB (by omega)⟩
  unfold za_spec at h
  split at h
  · rename_i j n z hrow
    obtain ⟨w1, w2⟩ := zc_row hrow
    split at h
    · rename_i Y hj
      obtain ⟨hrk, h⟩ := za_bif h
      have hs := zb_Y (show za_sY j _ = true from w2) hj
      simp only [Bool.and_eq_true, decide_eq_true_eq] at hs
      obtain ⟨⟨⟨s1, s2⟩, s3⟩, s4⟩ := hs
      have l1 := zk_w K hW (a9 := args) _ (w1 (Cond.methodLink (za_ow (za_cl M)) k Y.1) (by simp [za_need, za_wY, hj]))
      have l2 := zk_w K hW (a9 := args) _ (w1 (Cond.instanceMethod Y.1) (by simp [za_need, za_wY, hj]))
      refine zs_inv X IH hj ?_ h hk ho
      intro H locs cells slots ls as As rst xs ads has hf hM hnx hPc hA hw hle hsz h8
      subst has
      obtain ⟨b, Bs, rfl, hlen⟩ := recv hrk hA hle
      have hcb := zj_CB X hj s4 s1 l1
      rw [s3] at hcb
      exact zr_of (va_runI hfix (zo_met hM (hnx rfl)) ⟨hcb, s2, l2⟩ ⟨za_Pc_blind, hPc⟩ rfl hlen hsz (by show (Value.ref b :: Bs).reverse ++ rst = _; simp) (by show 2 * 0 + _ ≤ 8; omega) hdg hf)
    · cases h
  · rename_i j n z hrow
    obtain ⟨w1, w2⟩ := zc_row hrow
    split at h
    · rename_i Y hj
      obtain ⟨hrk, h⟩ := za_bif h
      have hs := zb_Y (show za_sY j _ = true from w2) hj
      simp only [Bool.and_eq_true, decide_eq_true_eq] at hs
      obtain ⟨⟨⟨s1, s2⟩, s3⟩, s4⟩ := hs
      have l1 := va_Nw.use (A := args) rfl (((K.2.2.2.1 _ (zc_nest hrow (Cond.methodLinkNest (za_ow (za_cl M)) k Y.1 RX11) (by simp [za_nneed, za_wY, hj])))).warmM hW)
      have l2 := zk_w K hW (a9 := args) _ (w1 (Cond.instanceMethod Y.1) (by simp [za_need, za_wY, hj]))
      refine zs_inv X IH hj ?_ h hk ho
      intro H locs cells slots ls as As rst xs ads has hf hM hnx hPc hA hw hle hsz h8
      subst has
      obtain ⟨b, Bs, rfl, hlen⟩ := recv hrk hA hle
      have hcb := zj_CN X hj s4 s1 l1
      rw [s3] at hcb
      exact zr_of (va_runIN hfix (zo_met hM (hnx rfl)) ⟨hcb, s2, l2⟩ ⟨za_Pc_blind, hPc⟩ rfl hlen hsz (by show (Value.ref b :: Bs).reverse ++ rst = _; simp) (by show 2 * 0 + _ ≤ 8; omega) hdg hf)
    · cases h
  · rename_i j n z hrow
    obtain ⟨w1, -⟩ := zc_row hrow
    split at h
    · rename_i q rest
      obtain ⟨g1, h⟩ := za_bif h
      intro ads H locs ls stk Mm
      obtain ⟨h1, h2, h3, h4, h5, h6⟩ := Mm
      obtain ⟨_, stk1, rfl, ⟨a, rfl, ha⟩, q1⟩ := za_F2_cons h3
      have l1 := zk_w K hW (a9 := args) _ (w1 (Cond.methodLink (za_ow (za_cl M)) k objectInit) (by simp [za_need]))
      have l2 := zk_w K hW (a9 := args) _ (w1 (Cond.instanceMethod objectInit) (by simp [za_need]))
      have l3 := zk_w K hW (a9 := args) _ (w1 (Cond.code objectInit ⟨#[0xb1]⟩ 1 none) (by simp [za_need]))
      have hsz : ls.size = c.maxLocals := by
        obtain ⟨lc, l9, -⟩ := h4
        exact l9.1.trans hml.symm
      have hw9 := za_wt_ok q1
      have g1 := za_ble g1
      exact W.objInit hx hb hown l1 l2 l3 (g := F0 m pc ls (.ref a :: stk1)) rfl hsz rfl hdg (by omega) (by show 2 * 0 + _ + 12 ≤ R.locals; omega) (zs_go h hk ads H locs ls stk1 ⟨h1, h2, q1, h4, h5, h6⟩)
    · cases h
  · cases h
end ZI
