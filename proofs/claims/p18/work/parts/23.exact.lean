/-! ===== locals, array reads, fields ===== -/
def zp_isI (v : zp_V) : Bool := match v with
  | .inl _ => true
  | _ => false
def zp_isL (v : zp_V) : Bool := match v with
  | .inr (.inl _) => true
  | _ => false
def zp_isR (v : zp_V) : Bool := match v with
  | .inr (.inr (some _)) => true
  | _ => false
def zp_load (k i : Nat) (f : zp_V → Bool) (pc : Nat) (lv : zp_LV) (st : List zp_V) (t : zp_T) : zp_N := match zp_get lv i with
  | some v => bif f v then zp_go lv t (pc + k) (v :: st) else none
  | none => none
def zp_stor1 (k i nL : Nat) (f : zp_V → Bool) (pc : Nat) (lv : zp_LV) (st : List zp_V) (t : zp_T) : zp_N := match st with
  | v :: r => bif f v then bif Nat.blt i nL then zp_go (zp_st1 lv i v) t (pc + k) r else none else none
  | _ => none
def zp_stor2 (k i nL : Nat) (pc : Nat) (lv : zp_LV) (st : List zp_V) (t : zp_T) : zp_N := match st with
  | .inr (.inl v) :: r => bif Nat.blt (i + 1) nL then zp_go (zp_st2 lv i (.inr (.inl v))) t (pc + k) r else none
  | _ => none
theorem zp_get_ok {ads : List Nat} {i : Nat} {v : zp_V} : ∀ {lv : zp_LV} {lc : List (Nat × Value)}, za_F2 (zp_gP ads) lv lc → zp_get lv i = some v → ∃ w, (i, w) ∈ lc ∧ zp_gV ads v w
  | [], [], _, h => by cases h
  | q :: l, r :: m, hp, h => by
    unfold zp_get at h
    cases hb : Nat.beq q.1 i with
    | true =>
      rw [hb] at h
      have e := za_beq hb
      cases h
      exact ⟨r.2, by rw [← e, hp.1.1]; exact List.mem_cons_self, hp.1.2⟩
    | false =>
      rw [hb] at h
      obtain ⟨w, h1, h2⟩ := zp_get_ok hp.2 h
      exact ⟨w, List.mem_cons_of_mem _ h1, h2⟩
  | [], _ :: _, hp, _ => hp.elim
  | _ :: _, [], hp, _ => hp.elim
theorem zp_st1_ok {ads : List Nat} {i : Nat} {v : zp_V} {w : Value} {lv : zp_LV} {lc : List (Nat × Value)} (h : za_F2 (zp_gP ads) lv lc) (hv : zp_gV ads v w) : za_F2 (zp_gP ads) (zp_st1 lv i v) ((i, w) :: lc.filter (fun q => !(q.1 == i) && !(q.1 + 1 == i && q.2.category == 2))) :=
  ⟨⟨rfl, hv⟩, za_F2_filter (fun a b hab => by rw [hab.1, zp_cat_ok hab.2]) h⟩
theorem zp_st2_ok {ads : List Nat} {i : Nat} {v : zp_V} {w : Value} {lv : zp_LV} {lc : List (Nat × Value)} (h : za_F2 (zp_gP ads) lv lc) (hv : zp_gV ads v w) : za_F2 (zp_gP ads) (zp_st2 lv i v) ((i, w) :: lc.filter (fun q => !(q.1 == i) && (!(q.1 == i + 1) && !(q.1 + 1 == i && q.2.category == 2)))) :=
  ⟨⟨rfl, hv⟩, za_F2_filter (fun a b hab => by rw [hab.1, zp_cat_ok hab.2]) h⟩
section ZL
variable {p : Program} {l : Launch} {e : Env} {R : Room} {s : State} {m : MethodId} {args : Array Value} {below : List Frame} {meth : Method} {c : Code} {Q : State → Prop} {E : za_E} {nL : Nat} {ads0 : List Nat} {pc : Nat} {lv : zp_LV} {t : zp_T} {st : List zp_V} {S9 : zp_S}
theorem zx_load {k i : Nat} {f : zp_V → Bool}
    (rule : ∀ {H : Heap} {locs : List Loc} {cells slots : Nat} {ls : Array Slot} {rest : List Value} {ads : List Nat} {v : zp_V} {w : Value}, f v = true → zp_gV ads v w → ls[i]? = some (.val w) → W p l e R s m args below meth c H locs cells slots Q (F0 m (pc + k) ls (w :: rest)) → W p l e R s m args below meth c H locs cells slots Q (F0 m pc ls rest))
    (h : zp_load k i f pc lv st t = some (.inl S9)) (hk : zp_G p l e R s m args below meth c Q E nL ads0 S9) : zp_G p l e R s m args below meth c Q E nL ads0 (pc, lv, st, t) := by
  intro ads H locs ls stk M
  obtain ⟨h1, h3, ⟨lc, l1, l2⟩, h5, h6⟩ := M
  unfold zp_load at h
  split at h
  · rename_i v hv
    obtain ⟨hf, h⟩ := za_bif h
    obtain ⟨w, w1, w2⟩ := zp_get_ok l2 hv
    exact rule hf w2 (l1.2.2 _ w1) (zx_go h hk ads H locs ls (w :: stk) ⟨h1, ⟨w2, h3⟩, ⟨lc, l1, l2⟩, h5, h6⟩)
  · cases h
theorem zx_stor1 {k i : Nat} {f : zp_V → Bool}
    (rule : ∀ {H : Heap} {locs : List Loc} {cells slots : Nat} {ls : Array Slot} {rest : List Value} {ads : List Nat} {v : zp_V} {w : Value} {lc : List (Nat × Value)}, f v = true → zp_gV ads v w → lv_has ls nL lc → i < nL → (∀ ls' : Array Slot, lv_has ls' nL ((i, w) :: lc.filter (fun q => !(q.1 == i) && !(q.1 + 1 == i && q.2.category == 2))) → W p l e R s m args below meth c H locs cells slots Q (F0 m (pc + k) ls' rest)) → W p l e R s m args below meth c H locs cells slots Q (F0 m pc ls (w :: rest)))
    (h : zp_stor1 k i nL f pc lv st t = some (.inl S9)) (hk : zp_G p l e R s m args below meth c Q E nL ads0 S9) : zp_G p l e R s m args below meth c Q E nL ads0 (pc, lv, st, t) := by
  intro ads H locs ls stk M
  obtain ⟨h1, h3, ⟨lc, l1, l2⟩, h5, h6⟩ := M
  unfold zp_stor1 at h
  split at h
  · rename_i v r
    obtain ⟨hf, h⟩ := za_bif h
    obtain ⟨hi, h⟩ := za_bif h
    obtain ⟨w, stk1, rfl, hw, q1⟩ := za_F2_cons h3
    exact rule hf hw l1 (za_blt hi) (fun ls' l1' => zx_go h hk ads H locs ls' stk1 ⟨h1, q1, ⟨_, l1', zp_st1_ok l2 hw⟩, h5, h6⟩)
  · cases h
theorem zx_stor2 {k i : Nat}
    (rule : ∀ {H : Heap} {locs : List Loc} {cells slots : Nat} {ls : Array Slot} {rest : List Value} {x : Int64} {lc : List (Nat × Value)}, lv_has ls nL lc → i + 1 < nL → (∀ ls' : Array Slot, lv_has ls' nL ((i, Value.long x) :: lc.filter (fun q => !(q.1 == i) && (!(q.1 == i + 1) && !(q.1 + 1 == i && q.2.category == 2)))) → W p l e R s m args below meth c H locs cells slots Q (F0 m (pc + k) ls' rest)) → W p l e R s m args below meth c H locs cells slots Q (F0 m pc ls (.long x :: rest)))
    (h : zp_stor2 k i nL pc lv st t = some (.inl S9)) (hk : zp_G p l e R s m args below meth c Q E nL ads0 S9) : zp_G p l e R s m args below meth c Q E nL ads0 (pc, lv, st, t) := by
  intro ads H locs ls stk M
  obtain ⟨h1, h3, ⟨lc, l1, l2⟩, h5, h6⟩ := M
  unfold zp_stor2 at h
  split at h
  · rename_i v r
    obtain ⟨hi, h⟩ := za_bif h
    obtain ⟨w, stk1, rfl, hw, q1⟩ := za_F2_cons h3
    have hw' : w = .long v := hw
    subst hw'
    exact rule l1 (za_blt hi) (fun ls' l1' => zx_go h hk ads H locs ls' stk1 ⟨h1, q1, ⟨_, l1', zp_st2_ok (w := .long v) l2 rfl⟩, h5, h6⟩)
  · cases h
theorem zx_ald {L : Nat} {b : Bool}
    (ruleS : b = false → ∀ {H : Heap} {locs : List Loc} {cells slots : Nat} {ls : Array Slot} {rest : List Value} {i : Int32}, va_S (za_A E) s.heap H locs → vp_in i L → W p l e R s m args below meth c H locs cells slots Q (F0 m (pc + 1) ls (.int (za_σ E i.toNatClampNeg) :: rest)) → W p l e R s m args below meth c H locs cells slots Q (F0 m pc ls (.int i :: .ref (za_b E) :: rest)))
    (rule : ∀ {tt : Nat}, tt < 3 → (b = false ↔ tt = 0) → ∀ {H : Heap} {locs : List Loc} {cells slots : Nat} {ls : Array Slot} {rest : List Value} {ws : va_W} {q a n : Nat} {f : Nat → Int32} {i : Int32}, va_P (za_D E) vwCl ws H → ws[q]? = some (a, .inl (za_tc E tt, n, .inl f)) → vp_in i n → W p l e R s m args below meth c H locs cells slots Q (F0 m (pc + 1) ls (.int (f i.toNatClampNeg) :: rest)) → W p l e R s m args below meth c H locs cells slots Q (F0 m pc ls (.int i :: .ref a :: rest)))
    (h : zp_ald L (za_σ E) b pc lv st t = some (.inl S9)) (hk : zp_G p l e R s m args below meth c Q E nL ads0 S9) : zp_G p l e R s m args below meth c Q E nL ads0 (pc, lv, st, t) := by
  intro ads H locs ls stk M
  obtain ⟨h1, h3, h4, h5, h6⟩ := M
  unfold zp_ald at h
  split at h
  · rename_i i rest
    split at h
    · rename_i hc
      obtain ⟨c1, c3, c4⟩ := hc
      obtain ⟨k1, k2, k3⟩ := zp_ix c3 c4
      obtain ⟨_, stk1, rfl, rfl, q1⟩ := za_F2_cons h3
      obtain ⟨_, stk2, rfl, ⟨a, rfl, ha⟩, q2⟩ := za_F2_cons q1
      have hab : a = za_b E := by
        obtain ⟨ws, e1, -⟩ := h5
        rw [e1] at ha
        exact (Option.some.inj ha).symm
      subst hab
      refine ruleS c1 h6 k1 (zx_go h hk ads H locs ls (_ :: stk2) ⟨h1, ⟨?_, q2⟩, h4, h5, h6⟩)
      rw [k2]
      rfl
    · cases h
  · rename_i i q rest
    split at h
    · rename_i ty n ho
      split at h
      · rename_i hc
        obtain ⟨c1, c2, c3, c4⟩ := hc
        obtain ⟨k1, k2, k3⟩ := zp_ix c3 c4
        obtain ⟨_, stk1, rfl, rfl, q1⟩ := za_F2_cons h3
        obtain ⟨_, stk2, rfl, ⟨a, rfl, ha⟩, q2⟩ := za_F2_cons q1
        obtain ⟨ws, x9, e1, e2, e3, e4, e5, e6, e7⟩ := zp_obj h5 ha ho
        match x9, e6, e7 with
        | .inl (cA, n', .inl f), e6, e7 =>
          obtain ⟨rfl, -, rfl, f4⟩ := e7
          refine rule c2 c1 e4 e6 k1 (zx_go h hk ads H locs ls (_ :: stk2) ⟨h1, ⟨?_, q2⟩, h4, h5, h6⟩)
          rw [k2, f4 _ k3]
          rfl
        | .inl (cA, n', .inr (.inl f)), e6, e7 => exact absurd e7.2.1 (by omega)
      · cases h
    · cases h
  · cases h
theorem zx_alen {L : Nat}
    (ruleS : ∀ {H : Heap} {locs : List Loc} {cells slots : Nat} {ls : Array Slot} {rest : List Value}, va_S (za_A E) s.heap H locs → W p l e R s m args below meth c H locs cells slots Q (F0 m (pc + 1) ls (.int (Int32.ofNat L) :: rest)) → W p l e R s m args below meth c H locs cells slots Q (F0 m pc ls (.ref (za_b E) :: rest)))
    (rule : ∀ {k : Nat} {ty : FieldType} {cA : ClassId} {H : Heap} {locs : List Loc} {cells slots : Nat} {ls : Array Slot} {rest : List Value} {ws : va_W} {q a : Nat} {x : vp_A}, (za_tys E)[k]? = some (cA, ty) → va_P (za_D E) vwCl ws H → ws[q]? = some (a, .inl (cA, x)) → W p l e R s m args below meth c H locs cells slots Q (F0 m (pc + 1) ls (.int (Int32.ofNat x.1) :: rest)) → W p l e R s m args below meth c H locs cells slots Q (F0 m pc ls (.ref a :: rest)))
    (h : zp_alen L pc lv st t = some (.inl S9)) (hk : zp_G p l e R s m args below meth c Q E nL ads0 S9) : zp_G p l e R s m args below meth c Q E nL ads0 (pc, lv, st, t) := by
  intro ads H locs ls stk M
  obtain ⟨h1, h3, h4, h5, h6⟩ := M
  unfold zp_alen at h
  split at h
  · rename_i rest
    obtain ⟨_, stk1, rfl, ⟨a, rfl, ha⟩, q1⟩ := za_F2_cons h3
    have hab : a = za_b E := by
      obtain ⟨ws, e1, -⟩ := h5
      rw [e1] at ha
      exact (Option.some.inj ha).symm
    subst hab
    exact ruleS h6 (zx_go h hk ads H locs ls (_ :: stk1) ⟨h1, ⟨rfl, q1⟩, h4, h5, h6⟩)
  · rename_i q rest
    split at h
    · rename_i ty n ho
      obtain ⟨_, stk1, rfl, ⟨a, rfl, ha⟩, q1⟩ := za_F2_cons h3
      obtain ⟨ws, x9, e1, e2, e3, e4, e5, e6, e7⟩ := zp_obj h5 ha ho
      match x9, e6, e7 with
      | .inl (cA, n', .inl f), e6, e7 =>
        obtain ⟨rfl, ht, rfl, f4⟩ := e7
        exact rule (za_tys_tc ht) e4 e6 (zx_go h hk ads H locs ls (_ :: stk1) ⟨h1, ⟨rfl, q1⟩, h4, h5, h6⟩)
      | .inl (cA, n', .inr (.inl f)), e6, e7 =>
        obtain ⟨rfl, ht, rfl, f4⟩ := e7
        exact rule (k := 3) rfl e4 e6 (zx_go h hk ads H locs ls (_ :: stk1) ⟨h1, ⟨rfl, q1⟩, h4, h5, h6⟩)
    · cases h
  · cases h
end ZL
