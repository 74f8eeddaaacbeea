/-! ===== iinc, goto, switches, conversions ===== -/
section ZU
variable {p : Program} {l : Launch} {e : Env} {R : Room} {s : State} {m : MethodId} {args : Array Value} {below : List Frame} {meth : Method} {c : Code} {Q : State → Prop} {E : za_E} {nL : Nat} {ads0 : List Nat} {pc : Nat} {lv : zp_LV} {t : zp_T} {st : List zp_V}
theorem zx_goto {o : Int} {g : Nat}
    (rule : ∀ {g : Nat} {H : Heap} {locs : List Loc} {cells slots : Nat} {ls : Array Slot} {rest : List Value}, (pc : Int) + o = (g : Int) → W p l e R s m args below meth c H locs cells slots Q (F0 m g ls rest) → W p l e R s m args below meth c H locs cells slots Q (F0 m pc ls rest))
    (hg : (pc : Int) + o = (g : Int)) (hk : zp_G p l e R s m args below meth c Q E nL ads0 (g, lv, st, t)) : zp_G p l e R s m args below meth c Q E nL ads0 (pc, lv, st, t) :=
  zx_st (st' := st) (fun {H locs cells slots ls ads stk} h => ⟨stk, h, rule hg⟩) hk
theorem zx_unI {x : Int32} (g : Int32 → Int32)
    (rule : ∀ {H : Heap} {locs : List Loc} {cells slots : Nat} {ls : Array Slot} {rest : List Value} {x : Int32}, W p l e R s m args below meth c H locs cells slots Q (F0 m (pc + 1) ls (.int (g x) :: rest)) → W p l e R s m args below meth c H locs cells slots Q (F0 m pc ls (.int x :: rest)))
    (hk : zp_G p l e R s m args below meth c Q E nL ads0 (pc + 1, lv, .inl (g x) :: st, t)) : zp_G p l e R s m args below meth c Q E nL ads0 (pc, lv, .inl x :: st, t) :=
  zx_st (fun {H locs cells slots ls ads stk} h => by
    obtain ⟨_, r, rfl, rfl, q1⟩ := za_F2_cons h
    exact ⟨_ :: r, ⟨rfl, q1⟩, rule⟩) hk
theorem zx_lcmp {x y : Int64}
    (rule : ∀ {H : Heap} {locs : List Loc} {cells slots : Nat} {ls : Array Slot} {rest : List Value} {x y : Int64}, W p l e R s m args below meth c H locs cells slots Q (F0 m (pc + 1) ls (.int (lg_cmp x y) :: rest)) → W p l e R s m args below meth c H locs cells slots Q (F0 m pc ls (.long y :: .long x :: rest)))
    (hk : zp_G p l e R s m args below meth c Q E nL ads0 (pc + 1, lv, .inl (lg_cmp x y) :: st, t)) : zp_G p l e R s m args below meth c Q E nL ads0 (pc, lv, .inr (.inl y) :: .inr (.inl x) :: st, t) :=
  zx_st (fun {H locs cells slots ls ads stk} h => by
    obtain ⟨_, r, rfl, rfl, q1⟩ := za_F2_cons h
    obtain ⟨_, r2, rfl, rfl, q2⟩ := za_F2_cons q1
    exact ⟨_ :: r2, ⟨rfl, q2⟩, rule⟩) hk
theorem zx_tswIn {lo hi off : Int} {offs : Array Int} {x : Int32} {g : Nat}
    (rule : ∀ {g : Nat} {off : Int} {H : Heap} {locs : List Loc} {cells slots : Nat} {ls : Array Slot} {rest : List Value} {x : Int32}, ¬ x.toInt < lo → ¬ hi < x.toInt → offs[(x.toInt - lo).toNat]? = some off → (pc : Int) + off = (g : Int) → W p l e R s m args below meth c H locs cells slots Q (F0 m g ls rest) → W p l e R s m args below meth c H locs cells slots Q (F0 m pc ls (.int x :: rest)))
    (h1 : ¬ x.toInt < lo) (h2 : ¬ hi < x.toInt) (ho : offs[(x.toInt - lo).toNat]? = some off) (hg : (pc : Int) + off = (g : Int)) (hk : zp_G p l e R s m args below meth c Q E nL ads0 (g, lv, st, t)) : zp_G p l e R s m args below meth c Q E nL ads0 (pc, lv, .inl x :: st, t) :=
  zx_st (fun {H locs cells slots ls ads stk} h => by
    obtain ⟨_, r, rfl, rfl, q1⟩ := za_F2_cons h
    exact ⟨r, q1, rule h1 h2 ho hg⟩) hk
theorem zx_tswOut {lo hi dflt : Int} {x : Int32} {g : Nat}
    (rule : ∀ {g : Nat} {H : Heap} {locs : List Loc} {cells slots : Nat} {ls : Array Slot} {rest : List Value} {x : Int32}, x.toInt < lo ∨ hi < x.toInt → (pc : Int) + dflt = (g : Int) → W p l e R s m args below meth c H locs cells slots Q (F0 m g ls rest) → W p l e R s m args below meth c H locs cells slots Q (F0 m pc ls (.int x :: rest)))
    (h1 : x.toInt < lo ∨ hi < x.toInt) (hg : (pc : Int) + dflt = (g : Int)) (hk : zp_G p l e R s m args below meth c Q E nL ads0 (g, lv, st, t)) : zp_G p l e R s m args below meth c Q E nL ads0 (pc, lv, .inl x :: st, t) :=
  zx_st (fun {H locs cells slots ls ads stk} h => by
    obtain ⟨_, r, rfl, rfl, q1⟩ := za_F2_cons h
    exact ⟨r, q1, rule h1 hg⟩) hk
theorem zx_lsw {dflt off : Int} {ps : Array (Int × Int)} {x : Int32} {g : Nat}
    (rule : ∀ {g : Nat} {off : Int} {H : Heap} {locs : List Loc} {cells slots : Nat} {ls : Array Slot} {rest : List Value} {x : Int32}, Op.lookupswitch.offset ps.toList dflt x.toInt = off → (pc : Int) + off = (g : Int) → W p l e R s m args below meth c H locs cells slots Q (F0 m g ls rest) → W p l e R s m args below meth c H locs cells slots Q (F0 m pc ls (.int x :: rest)))
    (ho : Op.lookupswitch.offset ps.toList dflt x.toInt = off) (hg : (pc : Int) + off = (g : Int)) (hk : zp_G p l e R s m args below meth c Q E nL ads0 (g, lv, st, t)) : zp_G p l e R s m args below meth c Q E nL ads0 (pc, lv, .inl x :: st, t) :=
  zx_st (fun {H locs cells slots ls ads stk} h => by
    obtain ⟨_, r, rfl, rfl, q1⟩ := za_F2_cons h
    exact ⟨r, q1, rule ho hg⟩) hk
theorem zx_iinc {i : Nat} {d : Int} {x : Int32} (hv : zp_get lv i = some (.inl x)) (hi : i < nL)
    (rule : ∀ {H : Heap} {locs : List Loc} {cells slots : Nat} {ls : Array Slot} {rest : List Value} {x : Int32} {k : Nat} {lc : List (Nat × Value)}, lv_has ls nL lc → lc[k]? = some (i, .int x) → i < nL → (∀ ls' : Array Slot, lv_has ls' nL ((i, Value.int (x + Int32.ofInt d)) :: lc.filter (fun q => !(q.1 == i) && !(q.1 + 1 == i && q.2.category == 2))) → W p l e R s m args below meth c H locs cells slots Q (F0 m (pc + 3) ls' rest)) → W p l e R s m args below meth c H locs cells slots Q (F0 m pc ls rest))
    (hk : zp_G p l e R s m args below meth c Q E nL ads0 (pc + 3, zp_st1 lv i (.inl (x + Int32.ofInt d)), st, t)) : zp_G p l e R s m args below meth c Q E nL ads0 (pc, lv, st, t) := by
  intro ads H locs ls stk M
  obtain ⟨h1, h3, ⟨lc, l1, l2⟩, h5, h6⟩ := M
  obtain ⟨w, w1, w2⟩ := zp_get_ok l2 hv
  have hw : w = .int x := w2
  subst hw
  obtain ⟨k, hk9⟩ := List.getElem?_of_mem w1
  exact rule l1 hk9 hi (fun ls' l1' => hk ads H locs ls' stk ⟨h1, h3, ⟨_, l1', zp_st1_ok (w := .int (x + Int32.ofInt d)) l2 rfl⟩, h5, h6⟩)
end ZU
