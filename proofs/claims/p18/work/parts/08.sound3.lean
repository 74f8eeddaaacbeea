section ZN
variable {p : Program} {l : Launch} {e : Env} {R : Room} {s : State} {m : MethodId} {args : Array Value} {below : List Frame} {meth : Method} {c : Code} {Q : State → Prop} {E : za_E} {nL : Nat} {ads0 : List Nat} {cc : ByteArray} {pc : Nat}
theorem za_gO_mono {ads ads' : List Nat} (h : ads <+: ads') {o : za_O} {x : va_E} (hg : za_gO E ads o x) : za_gO E ads' o x := by
  match o, x, hg with
  | .inl (ci, fs), .inr (cj, vs), hg => exact ⟨hg.1, za_F2_mono (fun _ _ => za_gV_mono h) hg.2⟩
  | .inr (.inl (t, n, d, ups)), .inl (cA, n', .inl f), hg => exact hg
  | .inr (.inr (n, d, ups)), .inl (cA, n', .inr (.inl f)), hg => exact hg
/-- one object more -/
theorem za_add1 {ads : List Nat} {h : List za_O} {H1 : Heap} {ws : va_W} {q : Nat} {x : va_E} {o : za_O} (e1 : ads = za_b E :: ws.map (·.1)) (e2 : za_F2 (fun o (q : Nat × va_E) => za_gO E ads o q.2) h ws) (e3 : va_P (za_D E) vwCl (ws ++ [(q, x)]) H1) (e4 : va_D (za_A E) (ws ++ [(q, x)])) (ho : za_gO E (ads ++ [q]) o x) :
    za_Wd E (ads ++ [q]) (h ++ [o]) H1 ∧ (ads ++ [q])[h.length + 1]? = some q := by
  have hl : h.length = ws.length := za_F2_len e2
  refine ⟨⟨ws ++ [(q, x)], by rw [e1]; simp, za_F2_app (za_F2_mono (fun _ _ => za_gO_mono (List.prefix_append _ _)) e2) ⟨ho, trivial⟩, e3, e4⟩, ?_⟩
  rw [e1, hl]
  simp
theorem za_lv_mono {ads ads' : List Nat} (h : ads <+: ads') {lv : za_LV} {ls : Array Slot} (hl : ∃ lc, lv_has ls nL lc ∧ za_F2 (za_gP (za_σ E) ads) lv lc) : ∃ lc, lv_has ls nL lc ∧ za_F2 (za_gP (za_σ E) ads') lv lc := by
  obtain ⟨lc, h1, h2⟩ := hl
  exact ⟨lc, h1, za_F2_mono (fun _ _ => za_gP_mono h) h2⟩
def za_gty (ty : FieldType) : Bool := match ty with
  | .int | .boolean | .long | .object _ | .array _ => true
  | _ => false
theorem za_df_ok {ads : List Nat} {σ : Nat → Int32} {ty : FieldType} (h : za_gty ty = true) : za_gV σ ads (za_df ty) (defaultValue ty) := by
  match ty, h with
  | .int, _ => exact ⟨0, rfl, by constructor <;> decide⟩
  | .boolean, _ => exact ⟨0, rfl, by constructor <;> decide⟩
  | .long, _ => exact ⟨0, rfl, fun c hc => by cases hc; rfl⟩
  | .object _, _ => rfl
  | .array _, _ => rfl
def za_dfs (ci : Nat) : Nat → List Value
  | 0 => []
  | k + 1 => za_dfs ci k ++ [defaultValue (za_tyX ci k)]
theorem za_dfs_len (ci : Nat) : ∀ n, (za_dfs ci n).length = n
  | 0 => rfl
  | n + 1 => by
    show (za_dfs ci n ++ [defaultValue (za_tyX ci n)]).length = n + 1
    rw [List.length_append, za_dfs_len ci n]; rfl
theorem za_dfs_at (ci : Nat) : ∀ n j, j < n → (za_dfs ci n)[j]? = some (defaultValue (za_tyX ci j))
  | 0, j, h => by omega
  | n + 1, j, h => by
    show (za_dfs ci n ++ [defaultValue (za_tyX ci n)])[j]? = _
    by_cases e9 : j < n
    · rw [List.getElem?_append_left (by rw [za_dfs_len]; exact e9)]
      exact za_dfs_at ci n j e9
    · have e8 : j = n := by omega
      subst e8
      rw [List.getElem?_append_right (by rw [za_dfs_len]; exact Nat.le_refl _), za_dfs_len, Nat.sub_self]
      rfl
theorem za_fs_ok {ads : List Nat} {σ : Nat → Int32} (ci : Nat) : ∀ n, (∀ k, k < n → za_gty (za_tyX ci k) = true) → za_F2 (za_gV σ ads) (za_fs ci n) (za_dfs ci n)
  | 0, _ => trivial
  | n + 1, h => za_F2_app (za_fs_ok ci n (fun k hk => h k (by omega))) ⟨za_df_ok (h n (by omega)), trivial⟩
theorem zc_gty : ∀ ci, ci < 13 → ∀ k, k < za_nX ci → za_gty (za_tyX ci k) = true := by decide +kernel
theorem zs_newo {lv : za_LV} {t : za_T} {st : List za_V} {Z : List za_S × List za_X} {r : Option za_row} {mc ms : Nat}
    (rule : ∀ {ci k : Nat} {z : Int}, r = some (5, ci, k, z) → ci < 13 ∧ ∀ {H : Heap} {locs : List Loc} {cells slots : Nat} {ls : Array Slot} {rest : List Value} {ws : va_W}, va_P (za_D E) vwCl ws H → va_D (za_A E) ws → va_S (za_A E) s.heap H locs → cells + 1 ≤ mc → slots + za_nX ci ≤ ms →
      (∀ (q : Nat) (H1 : Heap), va_P (za_D E) vwCl (ws ++ [(q, .inr (ci, za_dfs ci (za_nX ci)))]) H1 → va_D (za_A E) (ws ++ [(q, .inr (ci, za_dfs ci (za_nX ci)))]) → va_S (za_A E) s.heap H1 locs → W p l e R s m args below meth c H1 locs (cells + 1) (slots + za_nX ci) Q (F0 m (pc + 3) ls (.ref q :: rest))) → W p l e R s m args below meth c H locs cells slots Q (F0 m pc ls rest))
    (h : za_newo mc ms r pc lv st t = some Z) (hk : ∀ S ∈ Z.1, za_G p l e R s m args below meth c Q E nL ads0 S) : za_G p l e R s m args below meth c Q E nL ads0 (pc, lv, st, t) := by
  intro ads H locs ls stk M
  obtain ⟨h1, h2, h3, h4, h5, h6⟩ := M
  unfold za_newo at h
  split at h
  · rename_i ci k z
    obtain ⟨hm, h⟩ := za_bif h
    obtain ⟨hs, h⟩ := za_bif h
    obtain ⟨hci, rule⟩ := rule rfl
    obtain ⟨ws, e1, e2, e3, e4⟩ := h5
    refine rule e3 e4 h6 (za_blt hm) (za_ble hs) (fun q H1 g1 g2 g3 => ?_)
    have hp : ads <+: ads ++ [q] := List.prefix_append _ _
    obtain ⟨w1, w2⟩ := za_add1 (o := .inl (ci, za_fs ci (za_nX ci))) e1 e2 g1 g2 ⟨rfl, za_fs_ok ci _ (zc_gty ci hci)⟩
    exact zs_go h hk (ads ++ [q]) H1 locs ls (.ref q :: stk) ⟨h1.trans hp, h2, ⟨⟨q, rfl, w2⟩, za_F2_mono (fun _ _ => za_gV_mono hp) h3⟩, za_lv_mono hp h4, w1, g3⟩
  · cases h
theorem zs_newa {lv : za_LV} {t : za_T} {st : List za_V} {Z : List za_S × List za_X} {ty : ArrayType} {mc ms : Nat}
    (rule : ∀ {ft : FieldType} {k : Nat} {cA : ClassId} (a0 : vp_A), newarray.typeOf ty = ft → (za_tys E)[k]? = some (cA, ft) → (∀ cB : ClassId, vp_cell cB a0 = arrV cB a0.1 (fun _ => defaultValue ft)) → ∀ {H : Heap} {locs : List Loc} {cells slots : Nat} {ls : Array Slot} {rest : List Value} {ws : va_W} {n : Int32}, va_P (za_D E) vwCl ws H → va_D (za_A E) ws → va_S (za_A E) s.heap H locs → ¬ n < 0 → n.toNatClampNeg = a0.1 → a0.1 ≤ 100000 → cells + 1 ≤ mc → slots + a0.1 ≤ ms →
      (∀ (q : Nat) (H1 : Heap), va_P (za_D E) vwCl (ws ++ [(q, .inl (cA, a0))]) H1 → va_D (za_A E) (ws ++ [(q, .inl (cA, a0))]) → va_S (za_A E) s.heap H1 locs → W p l e R s m args below meth c H1 locs (cells + 1) (slots + a0.1) Q (F0 m (pc + 2) ls (.ref q :: rest))) → W p l e R s m args below meth c H locs cells slots Q (F0 m pc ls (.int n :: rest)))
    (h : za_newa mc ms ty pc lv st t = some Z) (hk : ∀ S ∈ Z.1, za_G p l e R s m args below meth c Q E nL ads0 S) : za_G p l e R s m args below meth c Q E nL ads0 (pc, lv, st, t) := by
  intro ads H locs ls stk M
  obtain ⟨h1, h2, h3, h4, h5, h6⟩ := M
  unfold za_newa at h
  split at h
  · rename_i i rest
    split at h
    · rename_i c9 hc
      obtain ⟨hz, h⟩ := za_bif h
      obtain ⟨hm, h⟩ := za_bif h
      obtain ⟨hs, h⟩ := za_bif h
      obtain ⟨_, stk1, rfl, ⟨x, rfl, hx⟩, q1⟩ := za_F2_cons h3
      obtain ⟨f1, f2⟩ := za_clamp (za_k_ok h2 hx hc)
      obtain ⟨ws, e1, e2, e3, e4⟩ := h5
      cases ty with
      | int =>
        refine rule (k := 0) (c9, .inl (fun _ => 0)) rfl rfl (fun _ => rfl) e3 e4 h6 f2 f1 (za_ble hz) (za_blt hm) (za_ble hs) (fun q H1 g1 g2 g3 => ?_)
        have hp : ads <+: ads ++ [q] := List.prefix_append _ _
        obtain ⟨w1, w2⟩ := za_add1 (o := .inr (.inl (0, c9, (0, 0, 0), []))) e1 e2 g1 g2 ⟨rfl, by decide, rfl, fun j hj => (show (0:Int) ≤ (0:Int32).toInt ∧ (0:Int32).toInt ≤ (0:Int) by decide)⟩
        exact zs_go h hk (ads ++ [q]) H1 locs ls (.ref q :: stk1) ⟨h1.trans hp, h2, ⟨⟨q, rfl, w2⟩, za_F2_mono (fun _ _ => za_gV_mono hp) q1⟩, za_lv_mono hp h4, w1, g3⟩
      | byte =>
        refine rule (k := 1) (c9, .inl (fun _ => 0)) rfl rfl (fun _ => rfl) e3 e4 h6 f2 f1 (za_ble hz) (za_blt hm) (za_ble hs) (fun q H1 g1 g2 g3 => ?_)
        have hp : ads <+: ads ++ [q] := List.prefix_append _ _
        obtain ⟨w1, w2⟩ := za_add1 (o := .inr (.inl (1, c9, (0, 0, 0), []))) e1 e2 g1 g2 ⟨rfl, by decide, rfl, fun j hj => (show (0:Int) ≤ (0:Int32).toInt ∧ (0:Int32).toInt ≤ (0:Int) by decide)⟩
        exact zs_go h hk (ads ++ [q]) H1 locs ls (.ref q :: stk1) ⟨h1.trans hp, h2, ⟨⟨q, rfl, w2⟩, za_F2_mono (fun _ _ => za_gV_mono hp) q1⟩, za_lv_mono hp h4, w1, g3⟩
      | boolean =>
        refine rule (k := 2) (c9, .inl (fun _ => 0)) rfl rfl (fun _ => rfl) e3 e4 h6 f2 f1 (za_ble hz) (za_blt hm) (za_ble hs) (fun q H1 g1 g2 g3 => ?_)
        have hp : ads <+: ads ++ [q] := List.prefix_append _ _
        obtain ⟨w1, w2⟩ := za_add1 (o := .inr (.inl (2, c9, (0, 0, 0), []))) e1 e2 g1 g2 ⟨rfl, by decide, rfl, fun j hj => (show (0:Int) ≤ (0:Int32).toInt ∧ (0:Int32).toInt ≤ (0:Int) by decide)⟩
        exact zs_go h hk (ads ++ [q]) H1 locs ls (.ref q :: stk1) ⟨h1.trans hp, h2, ⟨⟨q, rfl, w2⟩, za_F2_mono (fun _ _ => za_gV_mono hp) q1⟩, za_lv_mono hp h4, w1, g3⟩
      | long =>
        refine rule (k := 3) (c9, .inr (.inl (fun _ => 0))) rfl rfl (fun _ => rfl) e3 e4 h6 f2 f1 (za_ble hz) (za_blt hm) (za_ble hs) (fun q H1 g1 g2 g3 => ?_)
        have hp : ads <+: ads ++ [q] := List.prefix_append _ _
        obtain ⟨w1, w2⟩ := za_add1 (o := .inr (.inr (c9, some 0, []))) e1 e2 g1 g2 ⟨rfl, rfl, fun j hj d hd => by cases hd; rfl⟩
        exact zs_go h hk (ads ++ [q]) H1 locs ls (.ref q :: stk1) ⟨h1.trans hp, h2, ⟨⟨q, rfl, w2⟩, za_F2_mono (fun _ _ => za_gV_mono hp) q1⟩, za_lv_mono hp h4, w1, g3⟩
      | _ => cases h
    · cases h
  · cases h
theorem za_cpy_at {d d' : za_I} {u u' : List (Nat × za_I)} {sp dp : Nat} : ∀ (n i : Nat), za_at d' (za_cpy d u d' u' sp dp n) i = if dp ≤ i ∧ i < dp + n then za_at d u (sp + (i - dp)) else za_at d' u' i
  | 0, i => by rw [if_neg (by omega)]; rfl
  | n + 1, i => by
    show za_at d' (za_wr d' (za_cpy d u d' u' sp dp n) (dp + n) (za_at d u (sp + n))) i = _
    by_cases e9 : i = dp + n
    · subst e9
      rw [za_wr_self, if_pos (by omega)]
      congr 1
      omega
    · rw [za_wr_ne _ _ _ e9, za_cpy_at n i]
      by_cases e8 : dp ≤ i ∧ i < dp + n
      · rw [if_pos e8, if_pos (by omega)]
      · rw [if_neg e8, if_neg (by omega)]
theorem za_wt_ok {ads : List Nat} {σ : Nat → Int32} : ∀ {l : List za_V} {m : List Value}, za_F2 (za_gV σ ads) l m → (m.map fun v => v.category).sum = za_wt l
  | [], [], _ => rfl
  | v :: l, w :: m, h => by
    rw [List.map_cons, List.sum_cons, za_cat_ok h.1, za_wt_ok h.2]
    rfl
  | [], _ :: _, hp => hp.elim
  | _ :: _, [], hp => hp.elim
theorem zs_acp {lv : za_LV} {t : za_T} {st : List za_V} {Z : List za_S × List za_X}
    (rule : ∀ {H : Heap} {locs : List Loc} {cells slots : Nat} {ls : Array Slot} {rest : List Value} {ws : va_W} {q0 q1 a0 a n0 n1 : Nat} {f g : Nat → Int32} {sp dp n : Int32}, ls.size = nL → va_P (za_D E) vwCl ws H → va_D (za_A E) ws → va_S (za_A E) s.heap H locs → ws[q0]? = some (a0, .inl (za_tc E 0, n0, .inl f)) → ws[q1]? = some (a, .inl (za_tc E 0, n1, .inl g)) → ¬ sp < 0 → ¬ dp < 0 → ¬ n < 0 → sp.toNatClampNeg + n.toNatClampNeg ≤ n0 → dp.toNatClampNeg + n.toNatClampNeg ≤ n1 → (rest.map fun v => v.category).sum ≤ 8 →
      (∀ (H1 : Heap) (locs1 : List Loc), va_P (za_D E) vwCl (ws.set q1 (a, .inl (za_tc E 0, n1, .inl (va_cpy f g sp.toNatClampNeg dp.toNatClampNeg n.toNatClampNeg)))) H1 → va_D (za_A E) (ws.set q1 (a, .inl (za_tc E 0, n1, .inl (va_cpy f g sp.toNatClampNeg dp.toNatClampNeg n.toNatClampNeg)))) → va_S (za_A E) s.heap H1 locs1 → W p l e R s m args below meth c H1 locs1 cells slots Q (F0 m (pc + 3) ls rest)) → W p l e R s m args below meth c H locs cells slots Q (F0 m pc ls (.int n :: .int dp :: .ref a :: .int sp :: .ref a0 :: rest)))
    (h : za_acp pc lv st t = some Z) (hk : ∀ S ∈ Z.1, za_G p l e R s m args below meth c Q E nL ads0 S) : za_G p l e R s m args below meth c Q E nL ads0 (pc, lv, st, t) := by
  intro ads H locs ls stk M
  obtain ⟨h1, h2, h3, h4, h5, h6⟩ := M
  unfold za_acp at h
  split at h
  · rename_i cn dp r1 sp r0 rest
    split at h
    · rename_i n0 d0 u0 n1 d1 u1 c9 d9 s9 o0 o1 k1 k2 k3
      obtain ⟨b1, h⟩ := za_bif h
      obtain ⟨b2, h⟩ := za_bif h
      obtain ⟨b3, h⟩ := za_bif h
      obtain ⟨_, stk1, rfl, ⟨xn, rfl, hxn⟩, q1⟩ := za_F2_cons h3
      obtain ⟨_, stk2, rfl, ⟨xd, rfl, hxd⟩, q2⟩ := za_F2_cons q1
      obtain ⟨_, stk3, rfl, ⟨a, rfl, ha⟩, q3⟩ := za_F2_cons q2
      obtain ⟨_, stk4, rfl, ⟨xs, rfl, hxs⟩, q4⟩ := za_F2_cons q3
      obtain ⟨_, stk5, rfl, ⟨a0, rfl, ha0⟩, q5⟩ := za_F2_cons q4
      obtain ⟨cn1, cn2⟩ := za_clamp (za_k_ok h2 hxn k1)
      obtain ⟨cd1, cd2⟩ := za_clamp (za_k_ok h2 hxd k2)
      obtain ⟨cs1, cs2⟩ := za_clamp (za_k_ok h2 hxs k3)
      obtain ⟨ws, x0, e1, e2, e3, e4, e5, e6⟩ := za_obj h5 ha0 o0
      obtain ⟨f, rfl, ht, e7⟩ := za_gO_i e6
      obtain ⟨z, z1, z2⟩ := za_F2_get e2 o1
      obtain ⟨g, z3, _, e8⟩ := za_gO_i z2
      have z4 : ws[r1]? = some (a, .inl (za_tc E 0, n1, .inl g)) := by
        rw [e1, List.getElem?_cons_succ, List.getElem?_map, z1] at ha
        have e9 : z.1 = a := Option.some.inj ha
        rw [z1, ← e9, ← z3]
      refine rule h4.choose_spec.1.1 e3 e4 h6 e5 z4 cs2 cd2 cn2 (by rw [cs1, cn1]; exact za_ble b1) (by rw [cd1, cn1]; exact za_ble b2) (by rw [za_wt_ok q5]; exact za_ble b3) (fun H1 locs1 g1 g2 g3 => ?_)
      refine zs_go h hk ads H1 locs1 ls stk5 ⟨h1, h2, q5, h4, za_set e1 e2 z4 (o := .inr (.inl (0, n1, d1, za_cpy d0 u0 d1 u1 s9 d9 c9))) ?_ g1 g2, g3⟩
      refine ⟨rfl, by decide, rfl, fun j hj => ?_⟩
      rw [za_cpy_at, cs1, cd1, cn1]
      have b1 := za_ble b1
      unfold va_cpy
      by_cases e9 : d9 ≤ j ∧ j < d9 + c9
      · rw [if_pos e9, if_pos e9]
        exact e7 _ (by omega)
      · rw [if_neg e9, if_neg e9]
        exact e8 j hj
    · cases h
  · cases h
end ZN
