section ZH
variable {p : Program} {l : Launch} {e : Env} {R : Room} {s : State} {m : MethodId} {args : Array Value} {below : List Frame} {meth : Method} {c : Code} {Q : State → Prop} {E : za_E} {nL : Nat} {ads0 : List Nat} {cc : ByteArray} {pc : Nat}
theorem za_tab_ok {lv : za_LV} {st : List za_V} {t : za_T} {a : za_I} {r1 r2 : Int} : ∀ {offs : List Int} {v : Int} {l9 : List za_S}, za_tab pc lv st t a r1 r2 v offs = some l9 → ∀ {k : Nat} {off : Int}, offs[k]? = some off → r1 ≤ v + k → v + k ≤ r2 → ∃ g : Nat, (pc : Int) + off = (g : Int) ∧ (g, lv, st, t.1, za_cut t.2.1 a (v + k) (v + k), t.2.2) ∈ l9
  | [], v, l9, h, k, off, hk, h1, h2 => by simp at hk
  | o :: offs, v, l9, h, k, off, hk, h1, h2 => by
    unfold za_tab at h
    split at h
    · cases h
    · rename_i l8 hl
      cases k with
      | zero =>
        simp only [List.getElem?_cons_zero, Option.some.injEq] at hk
        subst hk
        have e1 : za_ile r1 v = true := za_ile_i.mpr (by omega)
        have e2 : za_ile v r2 = true := za_ile_i.mpr (by omega)
        simp only [e1, e2, cond_true] at h
        split at h
        · rename_i g hg
          cases h
          refine ⟨g, za_tg_ok hg, ?_⟩
          have e3 : v + ((0 : Nat) : Int) = v := by omega
          rw [e3]
          exact List.mem_cons_self
        · cases h
      | succ k =>
        simp only [List.getElem?_cons_succ] at hk
        obtain ⟨g, hg, hm⟩ := za_tab_ok hl hk (by omega) (by omega)
        have e3 : v + 1 + (k : Int) = v + ((k + 1 : Nat) : Int) := by omega
        rw [e3] at hm
        refine ⟨g, hg, ?_⟩
        cases e1 : za_ile r1 v with
        | false =>
          simp only [e1, cond_false, Option.some.injEq] at h
          subst h
          exact hm
        | true =>
          cases e2 : za_ile v r2 with
          | false =>
            simp only [e1, e2, cond_true, cond_false, Option.some.injEq] at h
            subst h
            exact hm
          | true =>
            simp only [e1, e2, cond_true] at h
            split at h
            · cases h
              exact List.mem_cons_of_mem _ hm
            · cases h
theorem zs_tsw {lv : za_LV} {t : za_T} {dflt lo hi : Int} {offs : Array Int} {st : List za_V} {Z : List za_S × List za_X}
    (ruleIn : ∀ {g : Nat} {off : Int} {H : Heap} {locs : List Loc} {cells slots : Nat} {ls : Array Slot} {rest : List Value} {x : Int32}, ¬ x.toInt < lo → ¬ hi < x.toInt → offs[(x.toInt - lo).toNat]? = some off → (pc : Int) + off = (g : Int) → W p l e R s m args below meth c H locs cells slots Q (F0 m g ls rest) → W p l e R s m args below meth c H locs cells slots Q (F0 m pc ls (.int x :: rest)))
    (ruleOut : ∀ {g : Nat} {H : Heap} {locs : List Loc} {cells slots : Nat} {ls : Array Slot} {rest : List Value} {x : Int32}, x.toInt < lo ∨ hi < x.toInt → (pc : Int) + dflt = (g : Int) → W p l e R s m args below meth c H locs cells slots Q (F0 m g ls rest) → W p l e R s m args below meth c H locs cells slots Q (F0 m pc ls (.int x :: rest)))
    (h : za_tsw dflt lo hi offs pc lv st t = some Z) (hk : ∀ S ∈ Z.1, za_G p l e R s m args below meth c Q E nL ads0 S) : za_G p l e R s m args below meth c Q E nL ads0 (pc, lv, st, t) := by
  intro ads H locs ls stk M
  obtain ⟨h1, h2, h3, h4, h5, h6⟩ := M
  unfold za_tsw at h
  split at h
  · rename_i a rest
    obtain ⟨_, stk1, rfl, ⟨x, rfl, hx⟩, q1⟩ := za_F2_cons h3
    have hr := za_rg_ok h2 hx
    dsimp only at h2
    generalize hq : za_rg t.2.1 a = q at h
    have hr : q.1 ≤ x.toInt ∧ x.toInt ≤ q.2 := by rw [← hq]; exact hr
    obtain ⟨r1, r2⟩ := q
    dsimp only at h hr
    split at h
    · rename_i g l9 hg hl
      obtain ⟨hsz, h⟩ := za_bif h
      have hsz := za_ieq_t hsz
      cases h
      by_cases c1 : x.toInt < lo
      · have e1 : za_ile lo r1 = false := by
          cases hz : za_ile lo r1 with
          | false => rfl
          | true => have := za_ile_t hz; omega
        refine ruleOut (Or.inl c1) (za_tg_ok hg) (hk (g, lv, rest, t.1, za_cut t.2.1 a r1 (lo - 1), t.2.2) ?_ ads H locs ls stk1 ⟨h1, za_cut_ok h2 hx (by omega) (by omega), q1, h4, h5, h6⟩)
        simp [e1]
      · by_cases c2 : hi < x.toInt
        · have e1 : za_ile r2 hi = false := by
            cases hz : za_ile r2 hi with
            | false => rfl
            | true => have := za_ile_t hz; omega
          refine ruleOut (Or.inr c2) (za_tg_ok hg) (hk (g, lv, rest, t.1, za_cut t.2.1 a (hi + 1) r2, t.2.2) ?_ ads H locs ls stk1 ⟨h1, za_cut_ok h2 hx (by omega) (by omega), q1, h4, h5, h6⟩)
          simp [e1]
        · have hlt : (x.toInt - lo).toNat < offs.toList.length := by omega
          have ho : offs.toList[(x.toInt - lo).toNat]? = some offs.toList[(x.toInt - lo).toNat] := List.getElem?_eq_getElem hlt
          have e4 : lo + (((x.toInt - lo).toNat : Nat) : Int) = x.toInt := by omega
          obtain ⟨g', hg', hm⟩ := za_tab_ok hl ho (by omega) (by omega)
          rw [e4] at hm
          exact ruleIn c1 c2 (by rw [← Array.getElem?_toList]; exact ho) hg' (hk _ (List.mem_append_right _ (List.mem_append_right _ hm)) ads H locs ls stk1 ⟨h1, za_cut_ok h2 hx (by omega) (by omega), q1, h4, h5, h6⟩)
    · cases h
  · cases h
theorem zs_lsw {lv : za_LV} {t : za_T} {dflt : Int} {ps : Array (Int × Int)} {st : List za_V} {Z : List za_S × List za_X}
    (rule : ∀ {g : Nat} {off : Int} {H : Heap} {locs : List Loc} {cells slots : Nat} {ls : Array Slot} {rest : List Value} {x : Int32}, (ps.toList.zip (ps.toList.drop 1)).all (fun (a, next) => a.1 < next.1) = true → Op.lookupswitch.offset ps.toList dflt x.toInt = off → (pc : Int) + off = (g : Int) → W p l e R s m args below meth c H locs cells slots Q (F0 m g ls rest) → W p l e R s m args below meth c H locs cells slots Q (F0 m pc ls (.int x :: rest)))
    (h : za_lsw dflt ps pc lv st t = some Z) (hk : ∀ S ∈ Z.1, za_G p l e R s m args below meth c Q E nL ads0 S) : za_G p l e R s m args below meth c Q E nL ads0 (pc, lv, st, t) := by
  intro ads H locs ls stk M
  obtain ⟨h1, h2, h3, h4, h5, h6⟩ := M
  unfold za_lsw at h
  split at h
  · rename_i a rest
    split at h
    · rename_i d hd
      split at h
      · rename_i g hg
        obtain ⟨ha, h⟩ := za_bif h
        obtain ⟨_, stk1, rfl, ⟨x, rfl, hx⟩, q1⟩ := za_F2_cons h3
        exact rule ha rfl (by rw [za_k_ok h2 hx hd]; exact za_tg_ok hg) (zs_go h hk ads H locs ls stk1 ⟨h1, h2, q1, h4, h5, h6⟩)
      · cases h
    · cases h
  · cases h
/-- the object that a reference names -/
theorem za_obj {ads : List Nat} {h : List za_O} {H : Heap} (hw : za_Wd E ads h H) {q : Nat} {a : Nat} (ha : ads[q + 1]? = some a) {o : za_O} (ho : h[q]? = some o) :
    ∃ (ws : va_W) (x : va_E), ads = za_b E :: ws.map (·.1) ∧ za_F2 (fun o (q : Nat × va_E) => za_gO E ads o q.2) h ws ∧ va_P (za_D E) vwCl ws H ∧ va_D (za_A E) ws ∧ ws[q]? = some (a, x) ∧ za_gO E ads o x := by
  obtain ⟨ws, e1, e2, e3, e4⟩ := hw
  obtain ⟨z, z1, z2⟩ := za_F2_get e2 ho
  refine ⟨ws, z.2, e1, e2, e3, e4, ?_, z2⟩
  have e5 : (ws.map (·.1))[q]? = some a := by
    rw [e1, List.getElem?_cons_succ] at ha
    exact ha
  rw [List.getElem?_map, z1] at e5
  have e6 : z.1 = a := Option.some.inj e5
  rw [← e6]
  exact z1
theorem za_gO_o {ads : List Nat} {ci : Nat} {fs : List za_V} {x : va_E} (h : za_gO E ads (.inl (ci, fs)) x) : ∃ vs, x = .inr (ci, vs) ∧ za_F2 (za_gV (za_σ E) ads) fs vs := by
  match x, h with
  | .inr (cj, vs), h => exact ⟨vs, by rw [h.1], h.2⟩
theorem za_gO_i {ads : List Nat} {t n : Nat} {d : za_I} {ups : List (Nat × za_I)} {x : va_E} (h : za_gO E ads (.inr (.inl (t, n, d, ups))) x) : ∃ f : Nat → Int32, x = .inl (za_tc E t, n, .inl f) ∧ t < 3 ∧ ∀ i, i < n → za_gI (za_σ E) (za_at d ups i) (f i) := by
  match x, h with
  | .inl (cA, n', .inl f), h => exact ⟨f, by rw [h.1, h.2.2.1], h.2.1, h.2.2.2⟩
theorem za_gO_l {ads : List Nat} {n : Nat} {d : Option Int64} {ups : List (Nat × Option Int64)} {x : va_E} (h : za_gO E ads (.inr (.inr (n, d, ups))) x) : ∃ f : Nat → Int64, x = .inl (E.2.2.2.1.2.2.2, n, .inr (.inl f)) ∧ ∀ i, i < n → za_gL (za_at d ups i) (f i) := by
  match x, h with
  | .inl (cA, n', .inr (.inl f)), h => exact ⟨f, by rw [h.1, h.2.1], h.2.2⟩
theorem za_set {ads : List Nat} {h : List za_O} {H1 : Heap} {ws : va_W} {q a : Nat} {x y : va_E} {o : za_O} (e1 : ads = za_b E :: ws.map (·.1)) (e2 : za_F2 (fun o (q : Nat × va_E) => za_gO E ads o q.2) h ws) (hx : ws[q]? = some (a, x)) (hy : za_gO E ads o y) (e3 : va_P (za_D E) vwCl (ws.set q (a, y)) H1) (e4 : va_D (za_A E) (ws.set q (a, y))) : za_Wd E ads (h.set q o) H1 := by
  refine ⟨ws.set q (a, y), ?_, za_F2_set e2 q hy, e3, e4⟩
  rw [List.map_set]
  have e5 : (ws.map (·.1))[q]? = some a := by rw [List.getElem?_map, hx]; rfl
  rw [e1]
  congr 1
  apply List.ext_getElem?
  intro i
  by_cases hi : q = i
  · subst hi
    rw [List.getElem?_set_self (by simpa using (List.getElem?_eq_some_iff.mp hx).1)]
    exact e5
  · rw [List.getElem?_set_ne hi]
theorem zs_getf {lv : za_LV} {t : za_T} {st : List za_V} {Z : List za_S × List za_X} {r : Option za_row}
    (rule : ∀ {ci k : Nat} {z : Int}, r = some (0, ci, k, z) → ∀ {H : Heap} {locs : List Loc} {cells slots : Nat} {ls : Array Slot} {rest : List Value} {ws : va_W} {q a : Nat} {vs : List Value} {v : Value}, va_P (za_D E) vwCl ws H → ws[q]? = some (a, .inr (ci, vs)) → vs[k]? = some v → W p l e R s m args below meth c H locs cells slots Q (F0 m (pc + 3) ls (v :: rest)) → W p l e R s m args below meth c H locs cells slots Q (F0 m pc ls (.ref a :: rest)))
    (h : za_getf r pc lv st t = some Z) (hk : ∀ S ∈ Z.1, za_G p l e R s m args below meth c Q E nL ads0 S) : za_G p l e R s m args below meth c Q E nL ads0 (pc, lv, st, t) := by
  intro ads H locs ls stk M
  obtain ⟨h1, h2, h3, h4, h5, h6⟩ := M
  unfold za_getf at h
  split at h
  · rename_i ci k z q rest
    split at h
    · rename_i cj fs ho
      split at h
      · rename_i v hv
        obtain ⟨hc, hg⟩ := za_bif h
        have hc := za_beq hc
        subst hc
        obtain ⟨_, stk1, rfl, ⟨a, rfl, ha⟩, q1⟩ := za_F2_cons h3
        obtain ⟨ws, x, e1, e2, e3, e4, e5, e6⟩ := za_obj h5 ha ho
        obtain ⟨vs, rfl, e7⟩ := za_gO_o e6
        obtain ⟨w, w1, w2⟩ := za_F2_get e7 hv
        exact rule rfl e3 e5 w1 (zs_go hg hk ads H locs ls (w :: stk1) ⟨h1, h2, ⟨w2, q1⟩, h4, h5, h6⟩)
      · cases h
    · cases h
  · cases h
theorem za_fit_ok {ads : List Nat} {ρ : za_R} {ty : FieldType} {v : za_V} {w : Value} (hρ : za_ok (za_σ E) ρ) (hv : za_gV (za_σ E) ads v w) (h : za_fit ρ ty v = true) : narrow ty w = w ∧ fits ty w = true := by
  unfold za_fit at h
  split at h
  · obtain ⟨x, rfl, hx⟩ := hv
    exact ⟨rfl, rfl⟩
  · rename_i i
    obtain ⟨x, rfl, hx⟩ := hv
    have hr := za_rg_ok hρ hx
    generalize za_rg ρ i = q at h hr
    obtain ⟨a, b⟩ := q
    dsimp only at h hr
    have h9 : za_ile 0 a = true ∧ za_ile b 1 = true := by
      cases hz : za_ile 0 a with
      | false => rw [hz] at h; cases h
      | true => rw [hz] at h; exact ⟨rfl, h⟩
    have h8 := za_ile_t h9.1
    have h7 := za_ile_t h9.2
    have h6 : x = 0 ∨ x = 1 := by
      rcases (show x.toInt = 0 ∨ x.toInt = 1 by omega) with z | z
      · exact Or.inl (Int32.toInt_inj.mp (by rw [z]; decide))
      · exact Or.inr (Int32.toInt_inj.mp (by rw [z]; decide))
    rcases h6 with rfl | rfl
    · exact ⟨by decide, by decide⟩
    · exact ⟨by decide, by decide⟩
  · obtain ⟨x, rfl, hx⟩ := hv
    exact ⟨rfl, rfl⟩
  · rename_i n o
    cases o with
    | none => rw [show w = .null from hv]; exact ⟨rfl, rfl⟩
    | some k => obtain ⟨x, rfl, hx⟩ := hv; exact ⟨rfl, rfl⟩
  · rename_i n o
    cases o with
    | none => rw [show w = .null from hv]; exact ⟨rfl, rfl⟩
    | some k => obtain ⟨x, rfl, hx⟩ := hv; exact ⟨rfl, rfl⟩
  · cases h
theorem zs_putf {lv : za_LV} {t : za_T} {st : List za_V} {Z : List za_S × List za_X} {r : Option za_row} {own : Nat} {ini : Bool}
    (rule : ∀ {ci k : Nat} {z : Int}, r = some (0, ci, k, z) → (z = 0 ∨ (ini = true ∧ ci = own)) → ∀ {H : Heap} {locs : List Loc} {cells slots : Nat} {ls : Array Slot} {rest : List Value} {ws : va_W} {q a : Nat} {vs : List Value} {v : Value}, va_P (za_D E) vwCl ws H → va_D (za_A E) ws → va_S (za_A E) s.heap H locs → ws[q]? = some (a, .inr (ci, vs)) → k < vs.length → narrow (za_tyX ci k) v = v → fits (za_tyX ci k) v = true →
      (∀ (H1 : Heap) (locs1 : List Loc), va_P (za_D E) vwCl (ws.set q (a, .inr (ci, vs.set k v))) H1 → va_D (za_A E) (ws.set q (a, .inr (ci, vs.set k v))) → va_S (za_A E) s.heap H1 locs1 → W p l e R s m args below meth c H1 locs1 cells slots Q (F0 m (pc + 3) ls rest)) → W p l e R s m args below meth c H locs cells slots Q (F0 m pc ls (v :: .ref a :: rest)))
    (h : za_putf r own ini pc lv st t = some Z) (hk : ∀ S ∈ Z.1, za_G p l e R s m args below meth c Q E nL ads0 S) : za_G p l e R s m args below meth c Q E nL ads0 (pc, lv, st, t) := by
  intro ads H locs ls stk M
  obtain ⟨h1, h2, h3, h4, h5, h6⟩ := M
  unfold za_putf at h
  split at h
  · rename_i ci k z v q rest
    split at h
    · rename_i cj fs ho
      obtain ⟨hc, h⟩ := za_bif h
      obtain ⟨hl, h⟩ := za_bif h
      obtain ⟨hf, h⟩ := za_bif h
      have hc := za_beq hc
      subst hc
      have key : (z = 0 ∨ (ini = true ∧ cj = own)) ∧ za_go lv (t.1.set q (.inl (cj, fs.set k v)), t.2) (pc + 3) rest = some Z := by
        cases hz : za_ieq z 0 with
        | true =>
          rw [hz] at h
          exact ⟨Or.inl (za_ieq_t hz), h⟩
        | false =>
          rw [hz] at h
          obtain ⟨g1, h⟩ := za_bif h
          obtain ⟨g2, h⟩ := za_bif h
          exact ⟨Or.inr ⟨g1, za_beq g2⟩, h⟩
      obtain ⟨kz, h⟩ := key
      obtain ⟨w, stk1, rfl, w2, q1⟩ := za_F2_cons h3
      obtain ⟨_, stk2, rfl, ⟨a, rfl, ha⟩, q2⟩ := za_F2_cons q1
      obtain ⟨ws, x, e1, e2, e3, e4, e5, e6⟩ := za_obj h5 ha ho
      obtain ⟨vs, rfl, e7⟩ := za_gO_o e6
      obtain ⟨f1, f2⟩ := za_fit_ok h2 w2 hf
      refine rule rfl kz e3 e4 h6 e5 (by rw [← za_F2_len e7]; exact za_blt hl) f1 f2 (fun H1 locs1 g1 g2 g3 => ?_)
      exact zs_go h hk ads H1 locs1 ls stk2 ⟨h1, h2, q2, h4, za_set e1 e2 e5 (o := .inl (cj, fs.set k v)) (show za_gO E ads (.inl (cj, fs.set k v)) (.inr (cj, vs.set k w)) from ⟨rfl, za_F2_set e7 k w2⟩) g1 g2, g3⟩
    · cases h
  · cases h
theorem za_clamp {x : Int32} {c9 : Nat} (h : x.toInt = Int.ofNat c9) : x.toNatClampNeg = c9 ∧ ¬ x < 0 := by
  constructor
  · show x.toInt.toNat = c9
    rw [h]; rfl
  · rw [Int32.lt_iff_toInt_lt, h]
    show ¬ (Int.ofNat c9 < (0 : Int32).toInt)
    rw [show (0 : Int32).toInt = 0 by decide]
    have : (0 : Int) ≤ Int.ofNat c9 := Int.natCast_nonneg _
    omega
theorem za_vin {x : Int32} {c9 n : Nat} (h : x.toInt = Int.ofNat c9) (hn : c9 < n) : vp_in x n := by
  intro z
  obtain ⟨e1, e2⟩ := za_clamp h
  rcases z with z | z
  · exact e2 z
  · rw [e1] at z; omega
theorem za_tys_tc {t : Nat} (h : t < 3) : (za_tys E)[t]? = some (za_tc E t, match t with | 0 => .int | 1 => .byte | _ => .boolean) := by
  match t, h with
  | 0, _ => rfl
  | 1, _ => rfl
  | 2, _ => rfl
  | _ + 3, h => omega
theorem zs_ild {lv : za_LV} {t : za_T} {st : List za_V} {Z : List za_S × List za_X} {bt : Bool} {L : Nat}
    (ruleS : bt = false → ∀ {H : Heap} {locs : List Loc} {cells slots : Nat} {ls : Array Slot} {rest : List Value} {i : Int32}, va_S (za_A E) s.heap H locs → vp_in i L → W p l e R s m args below meth c H locs cells slots Q (F0 m (pc + 1) ls (.int (za_σ E i.toNatClampNeg) :: rest)) → W p l e R s m args below meth c H locs cells slots Q (F0 m pc ls (.int i :: .ref (za_b E) :: rest)))
    (rule : ∀ {tt : Nat}, tt < 3 → (bt = false ↔ tt = 0) → ∀ {H : Heap} {locs : List Loc} {cells slots : Nat} {ls : Array Slot} {rest : List Value} {ws : va_W} {q a n : Nat} {f : Nat → Int32} {i : Int32}, va_P (za_D E) vwCl ws H → ws[q]? = some (a, .inl (za_tc E tt, n, .inl f)) → vp_in i n → W p l e R s m args below meth c H locs cells slots Q (F0 m (pc + 1) ls (.int (f i.toNatClampNeg) :: rest)) → W p l e R s m args below meth c H locs cells slots Q (F0 m pc ls (.int i :: .ref a :: rest)))
    (h : za_ild bt L pc lv st t = some Z) (hk : ∀ S ∈ Z.1, za_G p l e R s m args below meth c Q E nL ads0 S) : za_G p l e R s m args below meth c Q E nL ads0 (pc, lv, st, t) := by
  intro ads H locs ls stk M
  obtain ⟨h1, h2, h3, h4, h5, h6⟩ := M
  unfold za_ild at h
  split at h
  · rename_i i rest
    split at h
    · rename_i c9 hc
      obtain ⟨hb, h⟩ := za_bifn h
      obtain ⟨hl, h⟩ := za_bif h
      obtain ⟨_, stk1, rfl, ⟨x, rfl, hx⟩, q1⟩ := za_F2_cons h3
      obtain ⟨_, stk2, rfl, ⟨a, rfl, ha⟩, q2⟩ := za_F2_cons q1
      have hxc := za_k_ok h2 hx hc
      have hab : a = za_b E := by
        obtain ⟨ws, e1, -⟩ := h5
        rw [e1] at ha
        exact (Option.some.inj ha).symm
      subst hab
      refine ruleS hb h6 (za_vin hxc (za_blt hl)) (zs_go h hk ads H locs ls (_ :: stk2) ⟨h1, h2, ⟨⟨_, rfl, ?_⟩, q2⟩, h4, h5, h6⟩)
      show za_σ E x.toNatClampNeg = za_σ E c9
      rw [(za_clamp hxc).1]
    · cases h
  · rename_i i q rest
    split at h
    · rename_i ty n d ups ho
      obtain ⟨hb, h⟩ := za_bif h
      split at h
      · rename_i a9 b9 hrg
        obtain ⟨hab, h⟩ := za_bif h
        obtain ⟨hbm, h⟩ := za_bif h
        obtain ⟨_, stk3, rfl, ⟨x, rfl, hx⟩, q3⟩ := za_F2_cons h3
        obtain ⟨_, stk4, rfl, ⟨a, rfl, ha⟩, q4⟩ := za_F2_cons q3
        have hr := za_rg_ok h2 hx
        rw [show za_rg (pc, lv, Sum.inl i :: Sum.inr (Sum.inr (some (q + 1))) :: rest, t).2.2.2.2.1 i = (Int.ofNat a9, Int.ofNat b9) from hrg] at hr
        have hr1 : (a9 : Int) ≤ x.toInt := hr.1
        have hr2 : x.toInt ≤ (b9 : Int) := hr.2
        have hxc : x.toInt = Int.ofNat x.toInt.toNat := by
          show x.toInt = ((x.toInt.toNat : Nat) : Int)
          omega
        have hbm := za_blt hbm
        obtain ⟨ws, y, e1, e2, e3, e4, e5, e6⟩ := za_obj h5 ha ho
        obtain ⟨f, rfl, ht, e7⟩ := za_gO_i e6
        refine rule ht ?_ e3 e5 (za_vin hxc (by omega)) (zs_go h hk ads H locs ls (_ :: stk4) ⟨h1, h2, ⟨⟨_, rfl, ?_⟩, q4⟩, h4, h5, h6⟩)
        · cases bt with
          | false =>
            simp only [Bool.false_xor] at hb
            exact ⟨fun _ => za_beq hb, fun _ => rfl⟩
          | true =>
            simp only [Bool.true_xor, Bool.not_eq_true'] at hb
            exact ⟨fun z => (by cases z), fun z => (by rw [z] at hb; cases hb)⟩
        · rw [(za_clamp hxc).1]
          have hab := za_ble hab
          exact za_rd_ok h2 e7 a9 (b9 - a9) _ (by omega) (by omega) (by omega)
      · cases h
    · cases h
  · cases h
theorem za_wr_ok {σ : Nat → Int32} {d : za_I} {ups : List (Nat × za_I)} {f : Nat → Int32} {n k : Nat} {v : za_I} {x : Int32} (h : ∀ i, i < n → za_gI σ (za_at d ups i) (f i)) (hv : za_gI σ v x) : ∀ i, i < n → za_gI σ (za_at d (za_wr d ups k v) i) (upd f k x i) := by
  intro i hi
  by_cases e9 : i = k
  · subst e9
    rw [za_wr_self]
    simpa [upd] using hv
  · rw [za_wr_ne _ _ _ e9]
    simpa [upd, e9] using h i hi
theorem za_nar_ok {σ : Nat → Int32} {ρ : za_R} {ty : Nat} {v : za_I} {x : Int32} (hρ : za_ok σ ρ) (hv : za_gI σ v x) : za_gI σ (za_nar ρ ty v) (match ty with | 0 => x | 1 => vp_nar .byte x | _ => vp_nar .boolean x) := by
  match ty with
  | 0 => exact hv
  | 1 => exact za_u1_ok _ hρ hv
  | _ + 2 => exact za_u1_ok _ hρ hv
theorem zs_ist {lv : za_LV} {t : za_T} {st : List za_V} {Z : List za_S × List za_X} {bt : Bool}
    (rule : ∀ {tt : Nat}, tt < 3 → (bt = false ↔ tt = 0) → ∀ {H : Heap} {locs : List Loc} {cells slots : Nat} {ls : Array Slot} {rest : List Value} {ws : va_W} {q a n : Nat} {f : Nat → Int32} {i x : Int32}, va_P (za_D E) vwCl ws H → va_D (za_A E) ws → va_S (za_A E) s.heap H locs → ws[q]? = some (a, .inl (za_tc E tt, n, .inl f)) → vp_in i n →
      (∀ (H1 : Heap) (locs1 : List Loc), va_P (za_D E) vwCl (ws.set q (a, .inl (za_tc E tt, n, .inl (upd f i.toNatClampNeg (match tt with | 0 => x | 1 => vp_nar .byte x | _ => vp_nar .boolean x))))) H1 → va_D (za_A E) (ws.set q (a, .inl (za_tc E tt, n, .inl (upd f i.toNatClampNeg (match tt with | 0 => x | 1 => vp_nar .byte x | _ => vp_nar .boolean x))))) → va_S (za_A E) s.heap H1 locs1 → W p l e R s m args below meth c H1 locs1 cells slots Q (F0 m (pc + 1) ls rest)) → W p l e R s m args below meth c H locs cells slots Q (F0 m pc ls (.int x :: .int i :: .ref a :: rest)))
    (h : za_ist bt pc lv st t = some Z) (hk : ∀ S ∈ Z.1, za_G p l e R s m args below meth c Q E nL ads0 S) : za_G p l e R s m args below meth c Q E nL ads0 (pc, lv, st, t) := by
  intro ads H locs ls stk M
  obtain ⟨h1, h2, h3, h4, h5, h6⟩ := M
  unfold za_ist at h
  split at h
  · rename_i v i q rest
    split at h
    · rename_i ty n d ups c9 ho hc
      obtain ⟨hb, h⟩ := za_bif h
      obtain ⟨hl, h⟩ := za_bif h
      obtain ⟨_, stk1, rfl, ⟨y, rfl, hy⟩, q1⟩ := za_F2_cons h3
      obtain ⟨_, stk2, rfl, ⟨x, rfl, hx⟩, q2⟩ := za_F2_cons q1
      obtain ⟨_, stk3, rfl, ⟨a, rfl, ha⟩, q3⟩ := za_F2_cons q2
      have hxc := za_k_ok h2 hx hc
      obtain ⟨ws, z, e1, e2, e3, e4, e5, e6⟩ := za_obj h5 ha ho
      obtain ⟨f, rfl, ht, e7⟩ := za_gO_i e6
      refine rule (x := y) ht ?_ e3 e4 h6 e5 (za_vin hxc (za_blt hl)) (fun H1 locs1 g1 g2 g3 => ?_)
      · cases bt with
        | false =>
          simp only [Bool.false_xor] at hb
          exact ⟨fun _ => za_beq hb, fun _ => rfl⟩
        | true =>
          simp only [Bool.true_xor, Bool.not_eq_true'] at hb
          exact ⟨fun z => (by cases z), fun z => (by rw [z] at hb; cases hb)⟩
      · refine zs_go h hk ads H1 locs1 ls stk3 ⟨h1, h2, q3, h4, za_set e1 e2 e5 (o := .inr (.inl (ty, n, d, za_wr d ups c9 (za_nar t.2.1 ty v)))) ?_ g1 g2, g3⟩
        refine ⟨rfl, ht, rfl, ?_⟩
        rw [(za_clamp hxc).1]
        exact za_wr_ok e7 (za_nar_ok h2 hy)
    · cases h
  · cases h
theorem zs_lld {lv : za_LV} {t : za_T} {st : List za_V} {Z : List za_S × List za_X}
    (rule : ∀ {H : Heap} {locs : List Loc} {cells slots : Nat} {ls : Array Slot} {rest : List Value} {ws : va_W} {q a n : Nat} {f : Nat → Int64} {i : Int32}, va_P (za_D E) vwCl ws H → ws[q]? = some (a, .inl (E.2.2.2.1.2.2.2, n, .inr (.inl f))) → vp_in i n → W p l e R s m args below meth c H locs cells slots Q (F0 m (pc + 1) ls (.long (f i.toNatClampNeg) :: rest)) → W p l e R s m args below meth c H locs cells slots Q (F0 m pc ls (.int i :: .ref a :: rest)))
    (h : za_lld pc lv st t = some Z) (hk : ∀ S ∈ Z.1, za_G p l e R s m args below meth c Q E nL ads0 S) : za_G p l e R s m args below meth c Q E nL ads0 (pc, lv, st, t) := by
  intro ads H locs ls stk M
  obtain ⟨h1, h2, h3, h4, h5, h6⟩ := M
  unfold za_lld at h
  split at h
  · rename_i i q rest
    split at h
    · rename_i n d ups c9 ho hc
      obtain ⟨hl, h⟩ := za_bif h
      obtain ⟨_, stk1, rfl, ⟨x, rfl, hx⟩, q1⟩ := za_F2_cons h3
      obtain ⟨_, stk2, rfl, ⟨a, rfl, ha⟩, q2⟩ := za_F2_cons q1
      have hxc := za_k_ok h2 hx hc
      obtain ⟨ws, z, e1, e2, e3, e4, e5, e6⟩ := za_obj h5 ha ho
      obtain ⟨f, rfl, e7⟩ := za_gO_l e6
      refine rule e3 e5 (za_vin hxc (za_blt hl)) (zs_go h hk ads H locs ls (_ :: stk2) ⟨h1, h2, ⟨⟨_, rfl, ?_⟩, q2⟩, h4, h5, h6⟩)
      rw [(za_clamp hxc).1]
      exact e7 c9 (za_blt hl)
    · cases h
  · cases h
theorem zs_lst {lv : za_LV} {t : za_T} {st : List za_V} {Z : List za_S × List za_X}
    (rule : ∀ {H : Heap} {locs : List Loc} {cells slots : Nat} {ls : Array Slot} {rest : List Value} {ws : va_W} {q a n : Nat} {f : Nat → Int64} {i : Int32} {x : Int64}, va_P (za_D E) vwCl ws H → va_D (za_A E) ws → va_S (za_A E) s.heap H locs → ws[q]? = some (a, .inl (E.2.2.2.1.2.2.2, n, .inr (.inl f))) → vp_in i n →
      (∀ (H1 : Heap) (locs1 : List Loc), va_P (za_D E) vwCl (ws.set q (a, .inl (E.2.2.2.1.2.2.2, n, .inr (.inl (vp_updL f i.toNatClampNeg x))))) H1 → va_D (za_A E) (ws.set q (a, .inl (E.2.2.2.1.2.2.2, n, .inr (.inl (vp_updL f i.toNatClampNeg x))))) → va_S (za_A E) s.heap H1 locs1 → W p l e R s m args below meth c H1 locs1 cells slots Q (F0 m (pc + 1) ls rest)) → W p l e R s m args below meth c H locs cells slots Q (F0 m pc ls (.long x :: .int i :: .ref a :: rest)))
    (h : za_lst pc lv st t = some Z) (hk : ∀ S ∈ Z.1, za_G p l e R s m args below meth c Q E nL ads0 S) : za_G p l e R s m args below meth c Q E nL ads0 (pc, lv, st, t) := by
  intro ads H locs ls stk M
  obtain ⟨h1, h2, h3, h4, h5, h6⟩ := M
  unfold za_lst at h
  split at h
  · rename_i v i q rest
    split at h
    · rename_i n d ups c9 ho hc
      obtain ⟨hl, h⟩ := za_bif h
      obtain ⟨_, stk1, rfl, ⟨y, rfl, hy⟩, q1⟩ := za_F2_cons h3
      obtain ⟨_, stk2, rfl, ⟨x, rfl, hx⟩, q2⟩ := za_F2_cons q1
      obtain ⟨_, stk3, rfl, ⟨a, rfl, ha⟩, q3⟩ := za_F2_cons q2
      have hxc := za_k_ok h2 hx hc
      obtain ⟨ws, z, e1, e2, e3, e4, e5, e6⟩ := za_obj h5 ha ho
      obtain ⟨f, rfl, e7⟩ := za_gO_l e6
      refine rule (x := y) e3 e4 h6 e5 (za_vin hxc (za_blt hl)) (fun H1 locs1 g1 g2 g3 => ?_)
      refine zs_go h hk ads H1 locs1 ls stk3 ⟨h1, h2, q3, h4, za_set e1 e2 e5 (o := .inr (.inr (n, d, za_wr d ups c9 v))) ?_ g1 g2, g3⟩
      refine ⟨rfl, rfl, ?_⟩
      rw [(za_clamp hxc).1]
      intro j hj
      by_cases e9 : j = c9
      · subst e9
        rw [za_wr_self]
        simpa [vp_updL] using hy
      · rw [za_wr_ne _ _ _ e9]
        simpa [vp_updL, e9] using e7 j hj
    · cases h
  · cases h
theorem za_n_len {n : Nat} (h : n < 100000) : (Int32.ofNat n).toInt = (n : Int) := by
  rw [Int32.toInt_ofNat']
  exact za_bmod (by omega) (by omega)
theorem zs_alen {lv : za_LV} {t : za_T} {st : List za_V} {Z : List za_S × List za_X} {L : Nat}
    (ruleS : ∀ {H : Heap} {locs : List Loc} {cells slots : Nat} {ls : Array Slot} {rest : List Value}, va_S (za_A E) s.heap H locs → W p l e R s m args below meth c H locs cells slots Q (F0 m (pc + 1) ls (.int (Int32.ofNat L) :: rest)) → W p l e R s m args below meth c H locs cells slots Q (F0 m pc ls (.ref (za_b E) :: rest)))
    (rule : ∀ {k : Nat} {ty : FieldType} {cA : ClassId} {H : Heap} {locs : List Loc} {cells slots : Nat} {ls : Array Slot} {rest : List Value} {ws : va_W} {q a : Nat} {x : vp_A}, (za_tys E)[k]? = some (cA, ty) → va_P (za_D E) vwCl ws H → ws[q]? = some (a, .inl (cA, x)) → W p l e R s m args below meth c H locs cells slots Q (F0 m (pc + 1) ls (.int (Int32.ofNat x.1) :: rest)) → W p l e R s m args below meth c H locs cells slots Q (F0 m pc ls (.ref a :: rest)))
    (h : za_alen L pc lv st t = some Z) (hk : ∀ S ∈ Z.1, za_G p l e R s m args below meth c Q E nL ads0 S) : za_G p l e R s m args below meth c Q E nL ads0 (pc, lv, st, t) := by
  intro ads H locs ls stk M
  obtain ⟨h1, h2, h3, h4, h5, h6⟩ := M
  unfold za_alen at h
  split at h
  · rename_i rest
    obtain ⟨hl, h⟩ := za_bif h
    obtain ⟨_, stk1, rfl, ⟨a, rfl, ha⟩, q1⟩ := za_F2_cons h3
    have hab : a = za_b E := by
      obtain ⟨ws, e1, -⟩ := h5
      rw [e1] at ha
      exact (Option.some.inj ha).symm
    subst hab
    exact ruleS h6 (zs_go h hk ads H locs ls (_ :: stk1) ⟨h1, h2, ⟨⟨_, rfl, za_n_ok _ (za_n_len (za_blt hl))⟩, q1⟩, h4, h5, h6⟩)
  · rename_i q rest
    obtain ⟨_, stk2, rfl, ⟨a, rfl, ha⟩, q2⟩ := za_F2_cons h3
    split at h
    · rename_i ty n d ups ho
      obtain ⟨hl, h⟩ := za_bif h
      obtain ⟨ws, z, e1, e2, e3, e4, e5, e6⟩ := za_obj h5 ha ho
      obtain ⟨f, rfl, ht, e7⟩ := za_gO_i e6
      exact rule (za_tys_tc ht) e3 e5 (zs_go h hk ads H locs ls (_ :: stk2) ⟨h1, h2, ⟨⟨_, rfl, za_n_ok _ (za_n_len (za_blt hl))⟩, q2⟩, h4, h5, h6⟩)
    · rename_i n d ups ho
      obtain ⟨hl, h⟩ := za_bif h
      obtain ⟨ws, z, e1, e2, e3, e4, e5, e6⟩ := za_obj h5 ha ho
      obtain ⟨f, rfl, e7⟩ := za_gO_l e6
      exact rule (k := 3) rfl e3 e5 (zs_go h hk ads H locs ls (_ :: stk2) ⟨h1, h2, ⟨⟨_, rfl, za_n_ok _ (za_n_len (za_blt hl))⟩, q2⟩, h4, h5, h6⟩)
    · cases h
  · cases h
end ZH
