/-! ===== the law's start: objects are made, whatever is asked of the end ===== -/
section ZGQ
variable {p : Program} {l : Launch} {e : Env} {R : Room} {s s0 : State} {m : MethodId} {args : Array Value} {below : List Frame} {meth : Method} {c : Code} {E : za_E} {ads0 : List Nat} {pc L d : Nat} {M : za_MI} {call : za_CF} {lv : za_LV} {st : List za_V} {t : za_T} {Z : List za_S × List za_X} {Q : State → Prop}
theorem zG_newo {k : Nat} (X : za_Cx p l R s m args meth c E L s0 d M) (hdg : decode M.2.1 pc = .ok (.new k, 3)) (h : za_newo (za_mc M) (za_ms M) (za_CP (za_cl M) k) pc lv st t = some Z) (hk : ∀ S ∈ Z.1, za_G p l e R s m args below meth c Q E (za_nL M) ads0 S) : za_G p l e R s m args below meth c Q E (za_nL M) ads0 (pc, lv, st, t) := by
  obtain ⟨hx, hb, hml, hr, hlocks, hnm, hown, htab, K, hW, h0, hdec, hRf, hRl, hRc, hRs⟩ := X
  refine zs_newo (fun {ci} {k9} {z} hrow => ?_) h hk
  obtain ⟨w1, w2⟩ := zc_row hrow
  obtain ⟨q9, hq9⟩ := zb_5 w2
  obtain ⟨f1, f2, f3, f4, f5⟩ := zc_cls hq9
  refine ⟨by have := (List.getElem?_eq_some_iff.mp hq9).1; simpa using this, ?_⟩
  intro H locs cells slots ls rest ws hP hD hS hc hs kk
  have hl1 := w1 (Cond.classLink (za_ow (za_cl M)) k q9.1) (by simp [za_need, za_wC, hq9])
  have hl2 := w1 (Cond.instantiable q9.1 q9.2.2) (by simp [za_need, za_wC, hq9])
  have hl3 := w1 (Cond.initialized q9.1) (by simp [za_need, za_wC, hq9])
  rw [← f4] at hs kk
  refine va_new (fs := za_dfs ci q9.2.2) hx hb (zk_w K hW) f1 (za_tyX ci) f2 hown (zk_w K hW _ hl1) (zk_w K hW _ hl2) (zk_w K hW _ hl3) (zk_K K hW) hP hD hS (fun q hq => Nat.le_trans h0.1 hq) hq9 (fun j hj => ?_) (by rw [hRc]; exact hc) (by rw [hRs]; exact hs) hdg kk
  show _ = (za_dfs ci q9.2.2).getD j .null
  rw [List.getD_eq_getElem?_getD, za_dfs_at ci _ j hj]
  rfl
theorem zG_newa {ty : ArrayType} (X : za_Cx p l R s m args meth c E L s0 d M) (hdg : decode M.2.1 pc = .ok (.newarray ty, 2)) (h : za_newa (za_mc M) (za_ms M) ty pc lv st t = some Z) (hk : ∀ S ∈ Z.1, za_G p l e R s m args below meth c Q E (za_nL M) ads0 S) : za_G p l e R s m args below meth c Q E (za_nL M) ads0 (pc, lv, st, t) := by
  obtain ⟨hx, hb, hml, hr, hlocks, hnm, hown, htab, K, hW, h0, hdec, hRf, hRl, hRc, hRs⟩ := X
  refine zs_newa (fun {ft} {k} {cA} a0 hty htk hcell => ?_) h hk
  intro H locs cells slots ls rest ws n hP hD hS hn hN hle hc hs kk
  have hK := zk_K K hW
  have harr : (Cond.arrayClass ft).before args s = true ∧ a0.1 * componentBytes ft ≤ 536870912 ∧ ∀ cB : ClassId, va_RA s cB ft → cB = cA := by
    have h9 := (hK.2 k (cA, ft) htk).2
    match k, htk with
    | 0, htk =>
      cases htk
      exact ⟨zk_w K hW _ zx_arI, Nat.le_trans (Nat.mul_le_mul_right _ hle) (by decide), fun cB hB => Option.some.inj (Eq.trans (Eq.symm hB) h9)⟩
    | 1, htk =>
      cases htk
      exact ⟨zk_w K hW _ zx_arB, Nat.le_trans (Nat.mul_le_mul_right _ hle) (by decide), fun cB hB => Option.some.inj (Eq.trans (Eq.symm hB) h9)⟩
    | 2, htk =>
      cases htk
      exact ⟨zk_w K hW _ zx_arZ, Nat.le_trans (Nat.mul_le_mul_right _ hle) (by decide), fun cB hB => Option.some.inj (Eq.trans (Eq.symm hB) h9)⟩
    | 3, htk =>
      cases htk
      exact ⟨zk_w K hW _ zx_arJ, Nat.le_trans (Nat.mul_le_mul_right _ hle) (by decide), fun cB hB => Option.some.inj (Eq.trans (Eq.symm hB) h9)⟩
    | _ + 4, htk => cases htk
  obtain ⟨ha1, ha2, ha3⟩ := harr
  refine va_newa (a0 := a0) hx hb (by rw [hty]; exact ha1) hty hK hP hD hS (fun q hq => Nat.le_trans h0.1 hq) hcell hn hN ha2 (by rw [hRc]; exact hc) (by rw [hRs]; exact hs) hdg (fun q cB H1 g1 g2 g3 g4 => ?_)
  have hB : va_RA s cB ft := (g1.2 4 (cB, ft) rfl).2
  have e9 := ha3 cB hB
  subst e9
  exact kk q H1 g2 g3 g4
theorem zG_aft {rest : List za_V} {xs : List za_X} {cp : Nat → Option za_row} {a9 : Array Value} {mcY msY cells slots : Nat} {ads : List Nat} {H : Heap} {locs : List Loc} {ls : Array Slot} {stk rst : List Value}
    (h0 : za_Bl E s.heap) (hnx : za_nox xs = true)
    (hr : vx_Run p l e R s m args below meth c H locs cells slots mcY msY (F0 m pc ls stk) rst (za_Qc E ads xs a9) (za_XC E ads xs) (za_A E))
    (hcat : za_cat2 (za_aft M cp pc lv rest (cells + mcY) (slots + msY)) xs = some Z)
    (hk : ∀ S ∈ Z.1, za_G p l e R s m args below meth c Q E (za_nL M) ads0 S)
    (h1 : ads0 <+: ads) (h3 : za_F2 (za_gV (za_σ E) ads) rest rst) (h4 : ∃ lc, lv_has ls (za_nL M) lc ∧ za_F2 (za_gP (za_σ E) ads) lv lc) (h6 : va_S (za_A E) s.heap H locs) :
    W p l e R s m args below meth c H locs cells slots Q (F0 m pc ls stk) := by
  intro T hT X
  rcases hr T hT X with ⟨v, st₀, t9, T', L9, g0, X', hL, e1, e2, hq, st⟩ | ⟨q, st₀, t9, T', L9, nm, ce, g0, X', hL, e1, e2, hx9, hce, hcv, hcl, st⟩
  · obtain ⟨v9, h9, ρ9, ads9, w9, m1, m2, m3, m4, m5, m6, m7⟩ := hq
    cases m2
    have hS : va_S (za_A E) s.heap T'.heap (locs ++ L9) := by
      refine ⟨X'.same.2.1, fun q hq1 hq2 => ?_, fun z hz => ?_⟩
      · have hq3 : q < (za_H0 E).size := Nat.not_le.mp hq2
        rw [e1, m7.2 q hq3, h0.2 q hq3]
      · rcases List.mem_append.mp hz with z1 | z1
        · exact h6.2.2 z z1
        · exact hL z z1
    obtain ⟨z, z1, z2, -⟩ := za_cat2_mem hcat m1
    have hG : za_G p l e R s m args below meth c Q E (za_nL M) ads0 (pc + 3, lv, v9.toList ++ rest, h9, ρ9, cells + mcY, slots + msY) := by
      cases v9 with
      | none => cases z1; exact hk _ (z2 _ List.mem_cons_self)
      | some v9 => cases z1; exact hk _ (z2 _ List.mem_cons_self)
    obtain ⟨t2, a1, b1⟩ := hG ads9 T'.heap (locs ++ L9) ls (v.toList ++ rst) ⟨h1.trans m4, m5, za_gW_st m3 (za_F2_mono (fun _ _ => za_gV_mono m4) h3), za_lv_mono m4 h4, by rw [e1]; exact m6, hS⟩ T' rfl X'
    exact ⟨t2, st t2 a1, b1⟩
  · obtain ⟨ex, h9, ρ9, ads9, m1, mex, m2, m4, m5, m6, m7⟩ := hx9
    exact absurd m1 (za_nox_ok hnx)
theorem zG_inv {Y : za_MI} {j k : Nat} (X : za_Cx p l R s m args meth c E L s0 d M) (IH : za_IH l E s0 d call) (hj : za_MT j = some Y)
    (rule : ∀ {H : Heap} {locs : List Loc} {cells slots : Nat} {ls : Array Slot} {as : List za_V} {As rst : List Value} {xs : List za_X} {ads : List Nat}, as = (st.take k).reverse → cells + za_mc Y ≤ R.cells ∧ slots + za_ms Y ≤ R.slots → vx_Met l Y.1 [za_word Y] (za_rm d Y) (za_Pc E s0 ads as t.1 t.2.1) (za_Qc E ads xs) (za_XC E ads xs) (za_mc Y) (za_ms Y) (za_A E) → za_nox xs = true → (∀ U : State, U.heap = H → s.WarmedH U.vm → za_Pc E s0 ads as t.1 t.2.1 As.toArray U) → za_F2 (za_gV (za_σ E) ads) as As → za_Wd E ads t.1 H → k ≤ st.length → ls.size = za_nL M → (rst.map fun v => v.category).sum ≤ 8 →
      vx_Run p l e R s m args below meth c H locs cells slots (za_mc Y) (za_ms Y) (F0 m pc ls (As.reverse ++ rst)) rst (za_Qc E ads xs As.toArray) (za_XC E ads xs) (za_A E))
    (h : za_inv true M (za_CP (za_cl M)) Y call j k pc lv st t = some Z) (hk : ∀ S ∈ Z.1, za_G p l e R s m args below meth c Q E (za_nL M) ads0 S) : za_G p l e R s m args below meth c Q E (za_nL M) ads0 (pc, lv, st, t) := by
  obtain ⟨hx, hb, hml, hr, hlocks, hnm, hown, htab, K, hW, h0, hdec, hRf, hRl, hRc, hRs⟩ := X
  unfold za_inv at h
  obtain ⟨g1, h⟩ := za_bif h
  obtain ⟨g2, h⟩ := za_bif h
  obtain ⟨g3, h⟩ := za_bif h
  obtain ⟨g4, h⟩ := za_bif h
  split at h
  · cases h
  · rename_i xs hc
    obtain ⟨g5, h⟩ := za_bif h
    intro ads H locs ls stk Mm
    obtain ⟨h1, h2, h3, h4, h5, h6⟩ := Mm
    obtain ⟨As, rst, e9, s1, s2⟩ : ∃ As rst, stk = As.reverse ++ rst ∧ za_F2 (za_gV (za_σ E) ads) (st.take k).reverse As ∧ za_F2 (za_gV (za_σ E) ads) (st.drop k) rst :=
      ⟨(stk.take k).reverse, stk.drop k, by simp, za_F2_rev (za_F2_split k h3).1, (za_F2_split k h3).2⟩
    subst e9
    have hsz : ls.size = za_nL M := by
      obtain ⟨lc, l9, -⟩ := h4
      exact l9.1
    have hB := za_Bl_S h0 h6
    have hnx : za_nox xs = true := g5
    have hrun := rule (H := H) (locs := locs) (cells := t.2.2.1) (slots := t.2.2.2) (ls := ls) (rst := rst) rfl ⟨by rw [hRc]; exact za_ble g3, by rw [hRs]; exact za_ble g4⟩ (IH j Y _ _ _ xs ads hj hc) hnx (fun U hU hWU => ⟨As, rfl, s1, h2, by rw [hU]; exact h5, State.WarmedH.trans hW hWU, by rw [hU]; exact hB⟩) s1 h5 (za_ble g1) hsz (by rw [za_wt_ok s2]; exact za_ble g2)
    exact zG_aft h0 hnx hrun h hk h1 s2 h4 h6
theorem zG_spec {k : Nat} (X : za_Cx p l R s m args meth c E L s0 d M) (IH : za_IH l E s0 d call) (hdg : decode M.2.1 pc = .ok (.invokespecial k, 3)) (h : za_spec M (za_CP (za_cl M)) za_MT call (za_CP (za_cl M) k) pc lv st t = some Z) (hk : ∀ S ∈ Z.1, za_G p l e R s m args below meth c Q E (za_nL M) ads0 S) : za_G p l e R s m args below meth c Q E (za_nL M) ads0 (pc, lv, st, t) := by
  have hfix := zj_fix X
  obtain ⟨hx, hb, hml, -, -, -, hown, -, K, hW, -, -, hRf, hRl, -⟩ := id X
  have recv : ∀ {n : Nat}, za_isRf st n = true → ∀ {ads : List Nat} {As : List Value}, za_F2 (za_gV (za_σ E) ads) (st.take (n + 1)).reverse As → n + 1 ≤ st.length → ∃ b Bs, As = .ref b :: Bs ∧ Bs.length = n := by
    intro n hrf ads As hA hle
    obtain ⟨q, e1⟩ := zl_rf hrf
    rw [zl_rev e1] at hA
    obtain ⟨_, Bs, rfl, ⟨b, rfl, hb⟩, hB⟩ := za_F2_cons hA
    exact ⟨b, Bs, rfl, zl_len (n := n) hB (by omega)⟩
  unfold za_spec at h
  split at h
  · rename_i j n z hrow
    obtain ⟨w1, w2⟩ := zc_row hrow
    split at h
    · rename_i Y hj
      obtain ⟨hrk, h⟩ := za_bif h
      have hs := zb_Y (show za_sY j _ = true from w2) hj
      simp only [Bool.and_eq_true, decide_eq_true_eq] at hs
      obtain ⟨⟨⟨s1, s2⟩, s3⟩, s4⟩ := hs
      have l1 := zk_w K hW (a9 := args) _ (w1 (Cond.methodLink (za_ow (za_cl M)) k Y.1) (by simp [za_need, za_wY, hj]))
      have l2 := zk_w K hW (a9 := args) _ (w1 (Cond.instanceMethod Y.1) (by simp [za_need, za_wY, hj]))
      refine zG_inv X IH hj ?_ h hk
      intro H locs cells slots ls as As rst xs ads has hf hM hnx hPc hA hw hle hsz h8
      subst has
      obtain ⟨b, Bs, rfl, hlen⟩ := recv hrk hA hle
      have hcb := zj_CB X hj s4 s1 l1
      rw [s3] at hcb
      exact zr_of (va_runI hfix (zo_met hM hnx) ⟨hcb, s2, l2⟩ ⟨za_Pc_blind, hPc⟩ rfl hlen hsz (by show (Value.ref b :: Bs).reverse ++ rst = _; simp) (by show 2 * 0 + _ ≤ 8; omega) hdg hf)
    · cases h
  · rename_i j n z hrow
    obtain ⟨w1, w2⟩ := zc_row hrow
    split at h
    · rename_i Y hj
      obtain ⟨hrk, h⟩ := za_bif h
      have hs := zb_Y (show za_sY j _ = true from w2) hj
      simp only [Bool.and_eq_true, decide_eq_true_eq] at hs
      obtain ⟨⟨⟨s1, s2⟩, s3⟩, s4⟩ := hs
      have l1 := va_Nw.use (A := args) rfl (((K.2.2.2.1 _ (zc_nest hrow (Cond.methodLinkNest (za_ow (za_cl M)) k Y.1 RX11) (by simp [za_nneed, za_wY, hj])))).warmM hW)
      have l2 := zk_w K hW (a9 := args) _ (w1 (Cond.instanceMethod Y.1) (by simp [za_need, za_wY, hj]))
      refine zG_inv X IH hj ?_ h hk
      intro H locs cells slots ls as As rst xs ads has hf hM hnx hPc hA hw hle hsz h8
      subst has
      obtain ⟨b, Bs, rfl, hlen⟩ := recv hrk hA hle
      have hcb := zj_CN X hj s4 s1 l1
      rw [s3] at hcb
      exact zr_of (va_runIN hfix (zo_met hM hnx) ⟨hcb, s2, l2⟩ ⟨za_Pc_blind, hPc⟩ rfl hlen hsz (by show (Value.ref b :: Bs).reverse ++ rst = _; simp) (by show 2 * 0 + _ ≤ 8; omega) hdg hf)
    · cases h
  · rename_i j n z hrow
    obtain ⟨w1, -⟩ := zc_row hrow
    split at h
    · rename_i q rest
      obtain ⟨g1, h⟩ := za_bif h
      intro ads H locs ls stk Mm
      obtain ⟨h1, h2, h3, h4, h5, h6⟩ := Mm
      obtain ⟨_, stk1, rfl, ⟨a, rfl, ha⟩, q1⟩ := za_F2_cons h3
      have l1 := zk_w K hW (a9 := args) _ (w1 (Cond.methodLink (za_ow (za_cl M)) k objectInit) (by simp [za_need]))
      have l2 := zk_w K hW (a9 := args) _ (w1 (Cond.instanceMethod objectInit) (by simp [za_need]))
      have l3 := zk_w K hW (a9 := args) _ (w1 (Cond.code objectInit ⟨#[0xb1]⟩ 1 none) (by simp [za_need]))
      have hsz : ls.size = c.maxLocals := by
        obtain ⟨lc, l9, -⟩ := h4
        exact l9.1.trans hml.symm
      have hw9 := za_wt_ok q1
      have g1 := za_ble g1
      exact W.objInit hx hb hown l1 l2 l3 (g := F0 m pc ls (.ref a :: stk1)) rfl hsz rfl hdg (by omega) (by show 2 * 0 + _ + 12 ≤ R.locals; omega) (zs_go h hk ads H locs ls stk1 ⟨h1, h2, q1, h4, h5, h6⟩)
    · cases h
  · cases h
end ZGQ
