/-! ===== the exact interpreter is sound: every instruction that doesn't end ===== -/
/-- the text's length and letters, as the reader asks for them (shown in a part of its own) -/
def zp_strOK (l : Launch) (E : za_E) (L : Nat) (s0 : State) : Prop := ∀ (p : Program) (e : Env) (R : Room) (s : State) (m : MethodId) (args : Array Value) (below : List Frame) (meth : Method) (c : Code) (Q : State → Prop) (ads0 : List Nat) (d pc k : Nat) (M : za_MI) (lv : zp_LV) (st : List zp_V) (t : zp_T) (S9 : zp_S),
  za_Cx p l R s m args meth c E L s0 d M → decode M.2.1 pc = .ok (.ldc k, 2) → zp_str (za_cl M) k (za_is M) pc lv st t = some (.inl S9) → zp_G p l e R s m args below meth c Q E (za_nL M) ads0 S9 → zp_G p l e R s m args below meth c Q E (za_nL M) ads0 (pc, lv, st, t)
theorem zp_jmpE {o : Int} {pc : Nat} {lv : zp_LV} {st : List zp_V} {t : zp_T} {S9 : zp_S} (h : zp_jmp o pc lv st t = some (.inl S9)) : ∃ g : Nat, (pc : Int) + o = (g : Int) ∧ zp_go lv t g st = some (.inl S9) := by
  unfold zp_jmp at h
  split at h
  · rename_i g hg
    refine ⟨g, ?_, h⟩
    unfold zp_to at hg
    split at hg
    · rename_i g9 h9
      cases hg
      exact h9
    · cases hg
  · cases h
theorem zp_brE {b : Bool} {o : Int} {pc : Nat} {lv : zp_LV} {st : List zp_V} {t : zp_T} {S9 : zp_S} (h : zp_br b o pc lv st t = some (.inl S9)) : ∃ g : Nat, zp_to o pc = some g ∧ (pc : Int) + o = (g : Int) ∧ zp_go lv t (bif b then g else pc + 3) st = some (.inl S9) := by
  unfold zp_br at h
  split at h
  · rename_i g hg
    refine ⟨g, hg, ?_, h⟩
    unfold zp_to at hg
    split at hg
    · rename_i g9 h9
      cases hg
      exact h9
    · cases hg
  · cases h
theorem zx_isI {ads : List Nat} {v : zp_V} {w : Value} (hf : zp_isI v = true) (h : zp_gV ads v w) : ∃ x, w = .int x := by
  match v, hf, h with
  | .inl x, _, h => exact ⟨x, h⟩
theorem zx_isL {ads : List Nat} {v : zp_V} {w : Value} (hf : zp_isL v = true) (h : zp_gV ads v w) : ∃ x, w = .long x := by
  match v, hf, h with
  | .inr (.inl x), _, h => exact ⟨x, h⟩
theorem zx_isR {ads : List Nat} {v : zp_V} {w : Value} (hf : zp_isR v = true) (h : zp_gV ads v w) : ∃ a, w = .ref a := by
  match v, hf, h with
  | .inr (.inr (some k)), _, ⟨a, h, _⟩ => exact ⟨a, h⟩
theorem zp_wt_ok : ∀ {ads : List Nat} {st : List zp_V} {stk : List Value}, za_F2 (zp_gV ads) st stk → (stk.map fun v => v.category).sum = zp_wt st
  | _, [], [], _ => rfl
  | _, v :: st, w :: stk, h => by
    have h1 := zp_wt_ok h.2
    have h2 := zp_cat_ok h.1
    show w.category + (stk.map fun v => v.category).sum = zp_cat v + zp_wt st
    omega
  | _, [], _ :: _, h => h.elim
  | _, _ :: _, [], h => h.elim
theorem zp_by8 {k : Int} (h1 : -128 ≤ k) (h2 : k ≤ 127) : (Int8.ofInt k).toInt32 = Int32.ofInt k := by
  apply Int32.toInt_inj.mp
  rw [Int8.toInt_toInt32, Int8.toInt_ofInt, Int32.toInt_ofInt]
  have e1 : k.bmod Int8.size = k := by
    show k.bmod 256 = k
    rw [Int.bmod_def]; split <;> omega
  have e2 : k.bmod Int32.size = k := by
    show k.bmod 4294967296 = k
    rw [Int.bmod_def]; split <;> omega
  rw [e1, e2]
section ZV
variable {p : Program} {l : Launch} {e : Env} {R : Room} {s s0 : State} {m : MethodId} {args : Array Value} {below : List Frame} {meth : Method} {c : Code} {Q : State → Prop} {E : za_E} {nL : Nat} {ads0 : List Nat} {pc L d : Nat} {M : za_MI} {lv : zp_LV} {t : zp_T} {st : List zp_V} {S9 : zp_S}
theorem zy_if1 {f : Int32 → Bool} {P : Int32 → Prop} (hf : ∀ x, f x = true ↔ P x) {o : Int}
    (rule : ∀ {g : Nat} {H : Heap} {locs : List Loc} {cells slots : Nat} {ls : Array Slot} {rest : List Value} {x : Int32}, (pc : Int) + o = (g : Int) → (P x → W p l e R s m args below meth c H locs cells slots Q (F0 m g ls rest)) → (¬ P x → W p l e R s m args below meth c H locs cells slots Q (F0 m (pc + 3) ls rest)) → W p l e R s m args below meth c H locs cells slots Q (F0 m pc ls (.int x :: rest)))
    (h : zp_if1 f o pc lv st t = some (.inl S9)) (hk : zp_G p l e R s m args below meth c Q E nL ads0 S9) : zp_G p l e R s m args below meth c Q E nL ads0 (pc, lv, st, t) := by
  unfold zp_if1 at h
  split at h
  · rename_i x r
    obtain ⟨g, hg, -, h⟩ := zp_brE h
    refine zx_if1 (P := P) rule hg (fun hp => ?_) (fun hn => ?_)
    · rw [(hf x).mpr hp] at h
      exact zx_go h hk
    · rw [show f x = false from Bool.eq_false_iff.mpr (fun z => hn ((hf x).mp z))] at h
      exact zx_go h hk
  · cases h
theorem zy_if2 {f : Int32 → Int32 → Bool} {P : Int32 → Int32 → Prop} (hf : ∀ x y, f x y = true ↔ P x y) {o : Int}
    (rule : ∀ {g : Nat} {H : Heap} {locs : List Loc} {cells slots : Nat} {ls : Array Slot} {rest : List Value} {x z : Int32}, (pc : Int) + o = (g : Int) → (P x z → W p l e R s m args below meth c H locs cells slots Q (F0 m g ls rest)) → (¬ P x z → W p l e R s m args below meth c H locs cells slots Q (F0 m (pc + 3) ls rest)) → W p l e R s m args below meth c H locs cells slots Q (F0 m pc ls (.int z :: .int x :: rest)))
    (h : zp_if2 f o pc lv st t = some (.inl S9)) (hk : zp_G p l e R s m args below meth c Q E nL ads0 S9) : zp_G p l e R s m args below meth c Q E nL ads0 (pc, lv, st, t) := by
  unfold zp_if2 at h
  split at h
  · rename_i y x r
    obtain ⟨g, -, hg, h⟩ := zp_brE h
    refine zx_if2 (P := P) rule hg (fun hp => ?_) (fun hn => ?_)
    · rw [(hf x y).mpr hp] at h
      exact zx_go h hk
    · rw [show f x y = false from Bool.eq_false_iff.mpr (fun z => hn ((hf x y).mp z))] at h
      exact zx_go h hk
  · cases h
theorem zy_acp
    (rule : ∀ {H : Heap} {locs : List Loc} {cells slots : Nat} {ls : Array Slot} {rest : List Value} {ws : va_W} {q0 q1 a0 a n0 n1 : Nat} {f g : Nat → Int32} {sp dp n : Int32}, ls.size = nL → va_P (za_D E) vwCl ws H → va_D (za_A E) ws → va_S (za_A E) s.heap H locs → ws[q0]? = some (a0, .inl (za_tc E 0, n0, .inl f)) → ws[q1]? = some (a, .inl (za_tc E 0, n1, .inl g)) → ¬ sp < 0 → ¬ dp < 0 → ¬ n < 0 → sp.toNatClampNeg + n.toNatClampNeg ≤ n0 → dp.toNatClampNeg + n.toNatClampNeg ≤ n1 → (rest.map fun v => v.category).sum ≤ 8 →
      (∀ (H1 : Heap) (locs1 : List Loc), va_P (za_D E) vwCl (ws.set q1 (a, .inl (za_tc E 0, n1, .inl (va_cpy f g sp.toNatClampNeg dp.toNatClampNeg n.toNatClampNeg)))) H1 → va_D (za_A E) (ws.set q1 (a, .inl (za_tc E 0, n1, .inl (va_cpy f g sp.toNatClampNeg dp.toNatClampNeg n.toNatClampNeg)))) → va_S (za_A E) s.heap H1 locs1 → W p l e R s m args below meth c H1 locs1 cells slots Q (F0 m (pc + 3) ls rest)) → W p l e R s m args below meth c H locs cells slots Q (F0 m pc ls (.int n :: .int dp :: .ref a :: .int sp :: .ref a0 :: rest)))
    (h : zp_acp pc lv st t = some (.inl S9)) (hk : zp_G p l e R s m args below meth c Q E nL ads0 S9) : zp_G p l e R s m args below meth c Q E nL ads0 (pc, lv, st, t) := by
  intro ads H locs ls stk M
  obtain ⟨h1, h3, h4, h5, h6⟩ := M
  unfold zp_acp at h
  split at h
  · rename_i cn dp r1 sp r0 rest
    split at h
    · rename_i n0 n1 o0 o1
      split at h
      · rename_i hc
        obtain ⟨c1, c2, c3, c4, c5, c6⟩ := hc
        obtain ⟨_, stk1, rfl, rfl, q1⟩ := za_F2_cons h3
        obtain ⟨_, stk2, rfl, rfl, q2⟩ := za_F2_cons q1
        obtain ⟨_, stk3, rfl, ⟨a, rfl, ha⟩, q3⟩ := za_F2_cons q2
        obtain ⟨_, stk4, rfl, rfl, q4⟩ := za_F2_cons q3
        obtain ⟨_, stk5, rfl, ⟨a0, rfl, ha0⟩, q5⟩ := za_F2_cons q4
        have k0 : ∀ {x : Int32}, 0 ≤ x.toInt → x.toInt = Int.ofNat x.toInt.toNat := fun {x} hx => by
          show x.toInt = ((x.toInt.toNat : Nat) : Int)
          omega
        obtain ⟨cn1, cn2⟩ := za_clamp (k0 c1)
        obtain ⟨cd1, cd2⟩ := za_clamp (k0 c2)
        obtain ⟨cs1, cs2⟩ := za_clamp (k0 c3)
        obtain ⟨ws, x0, e1, e2, e3, e4, e5, e6, e7⟩ := zp_obj h5 ha0 o0
        have hx1 : ∃ x1, ws[r1]? = some (a, x1) := by
          rw [e1, List.getElem?_cons_succ, List.getElem?_map] at ha
          cases hx : ws[r1]? with
          | none => rw [hx] at ha; cases ha
          | some q =>
            rw [hx] at ha
            have e9 : q.1 = a := Option.some.inj ha
            exact ⟨q.2, by rw [← e9]⟩
        obtain ⟨x1, z4⟩ := hx1
        have e8 := e3 _ _ _ o1 z4
        match x0, e6, e7, x1, z4, e8 with
        | .inl (cA, n', .inl f), e6, e7, .inl (cB, n'', .inl g), z4, e8 =>
          obtain ⟨rfl, -, rfl, f4⟩ := e7
          obtain ⟨rfl, -, rfl, g4⟩ := e8
          refine rule h4.choose_spec.1.1 e4 e5 h6 e6 z4 cs2 cd2 cn2 (by rw [cs1, cn1]; omega) (by rw [cd1, cn1]; omega) (by rw [zp_wt_ok q5]; exact c6) (fun H1 locs1 g1 g2 g3 => ?_)
          refine zx_go h hk ads H1 locs1 ls stk5 ⟨h1, q5, h4, ?_, g3⟩
          refine zp_set e1 e2 e3 o1 z4 rfl ?_ (fun _ _ _ => rfl) (fun _ _ _ => rfl) g1 g2 ⟨rfl, by decide, rfl, fun j hj => ?_⟩
          · intro p9 hp9 k9
            show (if p9 = r1 then _ else _) = _
            rw [if_neg hp9]
          · show va_cpy f g sp.toNatClampNeg dp.toNatClampNeg cn.toNatClampNeg j = (if r1 = r1 then _ else _)
            rw [if_pos rfl, cs1, cd1, cn1]
            unfold va_cpy
            by_cases e9 : dp.toInt.toNat ≤ j ∧ j < dp.toInt.toNat + cn.toInt.toNat
            · rw [if_pos e9, if_pos e9]
              exact f4 _ (by omega)
            · rw [if_neg e9, if_neg e9]
              exact g4 j hj
        | .inl (cA, n', .inr (.inl f)), e6, e7, _, z4, e8 => exact absurd e7.2.1 (by omega)
        | .inl (cA, n', .inl f), e6, e7, .inl (cB, n'', .inr (.inl g)), z4, e8 => exact absurd e8.2.1 (by omega)
      · cases h
    · cases h
  · cases h
theorem zy_getf {k : Nat} (X : za_Cx p l R s m args meth c E L s0 d M) (hdg : decode M.2.1 pc = .ok (.getfield k, 3)) (h : zp_getf (za_CP (za_cl M) k) pc lv st t = some (.inl S9)) (hk : zp_G p l e R s m args below meth c Q E (za_nL M) ads0 S9) : zp_G p l e R s m args below meth c Q E (za_nL M) ads0 (pc, lv, st, t) := by
  obtain ⟨hx, hb, hml, hr, hlocks, hnm, hown, htab, K, hW, h0, hdec, hRf, hRl, hRc, hRs⟩ := X
  refine zx_getf (fun {ci} {k9} {z} hrow => ?_) h hk
  obtain ⟨w1, w2⟩ := zc_row hrow
  obtain ⟨q9, hq9, g1, g2, g3⟩ := zb_0 w2
  obtain ⟨f1, f2, f3, f4, f5⟩ := zc_cls hq9
  refine ⟨by rw [← f4]; exact za_blt g1, ?_⟩
  intro H locs cells slots ls rest ws q a vs v hP he hv kk
  have hl := w1 (Cond.fieldLink (za_ow (za_cl M)) k (q9.2.1 k9).1 (q9.2.1 k9).2.1 (q9.2.1 k9).2.2.1) (by simp [za_need, za_wC, hq9])
  exact va_get hx hb (zk_w K hW) f1 hown (zk_K K hW) hP q he hq9 k9 (za_blt g1) (zk_w K hW _ hl) (fun x hx => hx) hv hdg kk
theorem zy_putf {k : Nat} (X : za_Cx p l R s m args meth c E L s0 d M) (hdg : decode M.2.1 pc = .ok (.putfield k, 3)) (h : zp_putf (za_CP (za_cl M) k) (za_cl M) (za_ini M) pc lv st t = some (.inl S9)) (hk : zp_G p l e R s m args below meth c Q E (za_nL M) ads0 S9) : zp_G p l e R s m args below meth c Q E (za_nL M) ads0 (pc, lv, st, t) := by
  obtain ⟨hx, hb, hml, hr, hlocks, hnm, hown, htab, K, hW, h0, hdec, hRf, hRl, hRc, hRs⟩ := X
  refine zx_putf (fun {ci} {k9} {z} hrow hz => ?_) h hk
  intro H locs cells slots ls rest ws q a vs v hP hD hS he hlen hn hf kk
  obtain ⟨w1, w2⟩ := zc_row hrow
  obtain ⟨q9, hq9, g1, g2, g3⟩ := zb_0 w2
  obtain ⟨f1, f2, f3, f4, f5⟩ := zc_cls hq9
  have hl := w1 (Cond.fieldLink (za_ow (za_cl M)) k (q9.2.1 k9).1 (q9.2.1 k9).2.1 (q9.2.1 k9).2.2.1) (by simp [za_need, za_wC, hq9])
  by_cases hz0 : z = 0
  · exact va_put hx hb (zk_w K hW) f1 (za_tyX ci) f2 f3 hown (zk_K K hW) hP hD hS q he hq9 k9 (za_blt g1) (zk_w K hW _ hl) (fun x hx => hx) (by rw [← g2, if_pos hz0]) (f2 k9 (za_blt g1)) hn hf hlen hdg kk
  · rcases hz with hz | ⟨hz1, hz2⟩
    · exact absurd hz hz0
    · have hin : meth.name = "<init>" := by rw [hnm]; exact of_decide_eq_true hz1
      exact va_putF hx hb (zk_w K hW) f1 (za_tyX ci) f2 f3 hown (zk_K K hW) hP hD hS q he hq9 k9 (za_blt g1) (zk_w K hW _ hl) (fun x hx => hx) (by rw [← g2, if_neg hz0]) hin (by rw [g3, f5, hz2]) (f2 k9 (za_blt g1)) hn hf hlen hdg kk
theorem zy_ald {bt : Bool} {i : Instr} (hi : i = if bt then .baload else .iaload) (X : za_Cx p l R s m args meth c E L s0 d M) (hdg : decode M.2.1 pc = .ok (i, 1)) (h : zp_ald L (za_σ E) bt pc lv st t = some (.inl S9)) (hk : zp_G p l e R s m args below meth c Q E (za_nL M) ads0 S9) : zp_G p l e R s m args below meth c Q E (za_nL M) ads0 (pc, lv, st, t) := by
  obtain ⟨hx, hb, hml, hr, hlocks, hnm, hown, htab, K, hW, h0, hdec, hRf, hRl, hRc, hRs⟩ := X
  have hK := zk_K K hW
  refine zx_ald (fun hbt => ?_) (fun {tt} htt hiff => ?_) h hk
  · intro H locs cells slots ls rest j hS hin kk
    subst hbt
    subst hi
    have hX : va_X (za_b E) L (za_σ E) s s.heap := (K.2.2.2.2.2.1.moved hW.alike).kept (by rw [h0.2 _ (by rw [K.2.1]; exact K.2.2.2.2.2.2.1), K.2.1])
    have hlt : za_b E < (za_H0 E).size := by rw [K.2.1]; exact K.2.2.2.2.2.2.1
    exact va_sld hx hb hX (Nat.lt_of_lt_of_le hlt h0.1) (Nat.not_le.mpr hlt) hS hin hdg kk
  · intro H locs cells slots ls rest ws q a n f j hP he hin kk
    match tt, htt, hiff, he with
    | 0, _, hiff, he =>
      have hbt := hiff.mpr rfl
      subst hbt; subst hi
      exact va_iald hx hb hK hP q 0 he rfl hin hdg kk
    | 1, _, hiff, he =>
      have hbt : bt = true := by cases bt with | true => rfl | false => exact absurd (hiff.mp rfl) (by decide)
      subst hbt; subst hi
      exact va_bald hx hb hK hP q 1 he rfl hin hdg kk
    | 2, _, hiff, he =>
      have hbt : bt = true := by cases bt with | true => rfl | false => exact absurd (hiff.mp rfl) (by decide)
      subst hbt; subst hi
      exact va_zald hx hb hK hP q 2 he rfl hin hdg kk
    | _ + 3, htt, _, _ => omega
theorem zy_ast {bt : Bool} {i : Instr} (hi : i = if bt then .bastore else .iastore) (X : za_Cx p l R s m args meth c E L s0 d M) (hdg : decode M.2.1 pc = .ok (i, 1)) (h : zp_ast bt pc lv st t = some (.inl S9)) (hk : zp_G p l e R s m args below meth c Q E (za_nL M) ads0 S9) : zp_G p l e R s m args below meth c Q E (za_nL M) ads0 (pc, lv, st, t) := by
  obtain ⟨hx, hb, hml, hr, hlocks, hnm, hown, htab, K, hW, h0, hdec, hRf, hRl, hRc, hRs⟩ := X
  have hK := zk_K K hW
  refine zx_ast (fun {tt} htt hiff => ?_) h hk
  intro H locs cells slots ls rest ws q a n f j x hP hD hS he hin kk
  match tt, htt, hiff, he, kk with
  | 0, _, hiff, he, kk =>
    have hbt := hiff.mpr rfl
    subst hbt; subst hi
    exact va_iast hx hb hK hP hD hS q 0 he rfl hin hdg kk
  | 1, _, hiff, he, kk =>
    have hbt : bt = true := by cases bt with | true => rfl | false => exact absurd (hiff.mp rfl) (by decide)
    subst hbt; subst hi
    exact va_bast hx hb hK hP hD hS q 1 he rfl hin hdg kk
  | 2, _, hiff, he, kk =>
    have hbt : bt = true := by cases bt with | true => rfl | false => exact absurd (hiff.mp rfl) (by decide)
    subst hbt; subst hi
    exact va_zast hx hb hK hP hD hS q 2 he rfl hin hdg kk
  | _ + 3, htt, _, _, _ => omega
theorem zy_alen (X : za_Cx p l R s m args meth c E L s0 d M) (hdg : decode M.2.1 pc = .ok (.arraylength, 1)) (h : zp_alen L pc lv st t = some (.inl S9)) (hk : zp_G p l e R s m args below meth c Q E (za_nL M) ads0 S9) : zp_G p l e R s m args below meth c Q E (za_nL M) ads0 (pc, lv, st, t) := by
  obtain ⟨hx, hb, hml, hr, hlocks, hnm, hown, htab, K, hW, h0, hdec, hRf, hRl, hRc, hRs⟩ := X
  have hK := zk_K K hW
  refine zx_alen ?_ ?_ h hk
  · intro H locs cells slots ls rest hS kk
    have hX : va_X (za_b E) L (za_σ E) s s.heap := (K.2.2.2.2.2.1.moved hW.alike).kept (by rw [h0.2 _ (by rw [K.2.1]; exact K.2.2.2.2.2.2.1), K.2.1])
    have hlt : za_b E < (za_H0 E).size := by rw [K.2.1]; exact K.2.2.2.2.2.2.1
    exact va_slen hx hb hX (Nat.lt_of_lt_of_le hlt h0.1) (Nat.not_le.mpr hlt) hS hdg kk
  · intro k ty cA H locs cells slots ls rest ws q a x htk hP he kk
    exact va_alen hx hb hK hP q k he htk rfl hdg kk
theorem zy_lld (X : za_Cx p l R s m args meth c E L s0 d M) (hdg : decode M.2.1 pc = .ok (.laload, 1)) (h : zp_lld pc lv st t = some (.inl S9)) (hk : zp_G p l e R s m args below meth c Q E (za_nL M) ads0 S9) : zp_G p l e R s m args below meth c Q E (za_nL M) ads0 (pc, lv, st, t) := by
  obtain ⟨hx, hb, hml, hr, hlocks, hnm, hown, htab, K, hW, h0, hdec, hRf, hRl, hRc, hRs⟩ := X
  have hK := zk_K K hW
  refine zx_lld ?_ h hk
  intro H locs cells slots ls rest ws q a n f j hP he hin kk
  exact va_lald (tys := za_tys E) hx hb hK hP q 3 he rfl hin hdg kk
theorem zy_lst (X : za_Cx p l R s m args meth c E L s0 d M) (hdg : decode M.2.1 pc = .ok (.lastore, 1)) (h : zp_lst pc lv st t = some (.inl S9)) (hk : zp_G p l e R s m args below meth c Q E (za_nL M) ads0 S9) : zp_G p l e R s m args below meth c Q E (za_nL M) ads0 (pc, lv, st, t) := by
  obtain ⟨hx, hb, hml, hr, hlocks, hnm, hown, htab, K, hW, h0, hdec, hRf, hRl, hRc, hRs⟩ := X
  have hK := zk_K K hW
  refine zx_lst ?_ h hk
  intro H locs cells slots ls rest ws q a n f j x hP hD hS he hin kk
  exact va_last (tys := za_tys E) hx hb hK hP hD hS q 3 he rfl hin hdg kk
theorem zy_acpC {k : Nat} {j9 k9 : Nat} {z9 : Int} (X : za_Cx p l R s m args meth c E L s0 d M) (hrow : za_CP (za_cl M) k = some (14, j9, k9, z9)) (hdg : decode M.2.1 pc = .ok (.invokestatic k, 3)) (h : zp_acp pc lv st t = some (.inl S9)) (hk : zp_G p l e R s m args below meth c Q E (za_nL M) ads0 S9) : zp_G p l e R s m args below meth c Q E (za_nL M) ads0 (pc, lv, st, t) := by
  obtain ⟨hx, hb, hml, hr, hlocks, hnm, hown, htab, K, hW, h0, hdec, hRf, hRl, hRc, hRs⟩ := X
  have hK := zk_K K hW
  refine zy_acp ?_ h hk
  intro H locs cells slots ls rest ws q0 q1 a0 a n0 n1 f g sp dp n hsz hP hD hS he0 he1 c1 c2 c3 c4 c5 c6 kk
  obtain ⟨w1, -⟩ := zc_row hrow
  have l1 := w1 (Cond.methodLink (za_ow (za_cl M)) k arraycopyName) (by simp [za_need])
  have l2 := w1 (Cond.native arraycopyName) (by simp [za_need])
  have l3 := w1 (Cond.static arraycopyName) (by simp [za_need])
  have l4 := w1 (Cond.initialized "java/lang/System") (by simp [za_need])
  have hnw : nativeFrameWords "java/lang/System" "arraycopy" 5 = 7 := by decide +kernel
  exact va_copyi (tys := za_tys E) hx hb (hml.trans hsz.symm) hown (zk_w K hW _ l1) (zk_w K hW _ l2) (zk_w K hW _ l3) (zk_w K hW _ l4) hK hP hD hS q0 q1 0 0 (ty := .int) he0 he1 rfl rfl rfl c1 c2 c3 c4 c5 (fun _ _ => rfl) (by omega) (by rw [hnw]; omega) hdg kk
theorem zy_ldc {k n : Nat} (X : za_Cx p l R s m args meth c E L s0 d M) (rule : ∀ {v : Int32} {H : Heap} {locs : List Loc} {cells slots : Nat} {ls : Array Slot} {rest : List Value}, (Cond.constant (za_ow (za_cl M)) k v).before args s = true → W p l e R s m args below meth c H locs cells slots Q (F0 m (pc + n) ls (.int v :: rest)) → W p l e R s m args below meth c H locs cells slots Q (F0 m pc ls rest))
    (h : zp_ldc n (za_CP (za_cl M) k) pc lv st t = some (.inl S9)) (hk : zp_G p l e R s m args below meth c Q E (za_nL M) ads0 S9) : zp_G p l e R s m args below meth c Q E (za_nL M) ads0 (pc, lv, st, t) := by
  obtain ⟨hx, hb, hml, hr, hlocks, hnm, hown, htab, K, hW, h0, hdec, hRf, hRl, hRc, hRs⟩ := X
  unfold zp_ldc at h
  split at h
  · rename_i j9 k9 v hrow
    obtain ⟨w1, -⟩ := zc_row hrow
    exact zx_push (v := .inl (Int32.ofInt v)) (w := .int (Int32.ofInt v)) (fun _ => rfl) (fun kk => rule (zk_w K hW _ (w1 _ (by simp [za_need]))) kk) (zx_go h hk)
  · cases h
theorem zy_ldc2 {k : Nat} (X : za_Cx p l R s m args meth c E L s0 d M) (hdg : decode M.2.1 pc = .ok (.ldc2_w k, 3)) (h : zp_ldc2 (za_CP (za_cl M) k) pc lv st t = some (.inl S9)) (hk : zp_G p l e R s m args below meth c Q E (za_nL M) ads0 S9) : zp_G p l e R s m args below meth c Q E (za_nL M) ads0 (pc, lv, st, t) := by
  obtain ⟨hx, hb, hml, hr, hlocks, hnm, hown, htab, K, hW, h0, hdec, hRf, hRl, hRc, hRs⟩ := X
  unfold zp_ldc2 at h
  split at h
  · rename_i j9 k9 v hrow
    obtain ⟨w1, -⟩ := zc_row hrow
    exact zx_push (v := .inr (.inl (Int64.ofInt v))) (w := .long (Int64.ofInt v)) (fun _ => rfl) (fun kk => lv_ldc2 hx hb hown (zk_w K hW _ (w1 _ (by simp [za_need]))) hdg kk) (zx_go h hk)
  · cases h
end ZV
