/-! ===== the law's start: where it stands at its loop's head ===== -/
def zd_one (r : za_N) : Option za_S := match r with
  | some ([S], []) => some S
  | _ => none
theorem zd_one_t {r : za_N} {S : za_S} (h : zd_one r = some S) : r = some ([S], []) := by
  unfold zd_one at h
  split at h
  · cases h
    rfl
  · cases h
def zd_st (call : za_CF) (S : za_S) : Option za_S := match S with
  | (pc, lv, st, t) => match za_fe (za_is zL) pc with
    | some (.new k) => zd_one (za_newo (za_mc zL) (za_ms zL) (za_CP (za_cl zL) k) pc lv st t)
    | some .dup => zd_one (za_dup pc lv st t)
    | some (.invokespecial k) => zd_one (za_spec zL (za_CP (za_cl zL)) za_MT call (za_CP (za_cl zL) k) pc lv st t)
    | some (.astore_n k) => zd_one (za_stor1 1 k (za_nL zL) za_isR pc lv st t)
    | some (.iconst k) => zd_one (za_cst k 1 pc lv st t)
    | some (.newarray ty) => zd_one (za_newa (za_mc zL) (za_ms zL) ty pc lv st t)
    | some (.istore k) => zd_one (za_stor1 2 k (za_nL zL) za_isI pc lv st t)
    | _ => none
section ZDS
variable {p : Program} {l : Launch} {e : Env} {R : Room} {s s0 : State} {m : MethodId} {args : Array Value} {below : List Frame} {meth : Method} {c : Code} {E : za_E} {ads0 : List Nat} {L d : Nat} {call : za_CF} {Q : State → Prop}
theorem zd_st_ok {S S' : za_S} (X : za_Cx p l R s m args meth c E L s0 d zL) (IH : za_IH l E s0 d call) (h : zd_st call S = some S') (hk : za_G p l e R s m args below meth c Q E (za_nL zL) ads0 S') : za_G p l e R s m args below meth c Q E (za_nL zL) ads0 S := by
  obtain ⟨hx, hb, hml, hr, hlocks, hnm, hown, htab, K, hW, h0, hdec, hRf, hRl, hRc, hRs⟩ := id X
  obtain ⟨pc, lv, st, t⟩ := S
  have hk' : ∀ S ∈ ([S'], ([] : List za_X)).1, za_G p l e R s m args below meth c Q E (za_nL zL) ads0 S := by
    intro S hS
    rw [List.mem_singleton.mp hS]
    exact hk
  unfold zd_st at h
  dsimp only at h
  split at h
  · rename_i k hfe
    exact zG_newo X (za_fe_1 hdec hfe rfl) (zd_one_t h) hk'
  · rename_i hfe
    exact zs_dup (fun h1 kk => lv_dup hx hb (za_fe_1 hdec hfe rfl) h1 kk) (zd_one_t h) hk'
  · rename_i k hfe
    exact zG_spec X IH (za_fe_1 hdec hfe rfl) (zd_one_t h) hk'
  · rename_i k hfe
    exact zs_storA (fun h1 h2 kk => lv_astore_n hx hb (za_fe_1 hdec hfe rfl) rfl h1 h2 rfl kk) (zd_one_t h) hk'
  · rename_i k hfe
    exact zs_cst (fun _ _ h3 kk => lv_iconst hx hb (za_fe_1 hdec hfe rfl) h3.symm kk) (zd_one_t h) hk'
  · rename_i ty hfe
    exact zG_newa X (za_fe_1 hdec hfe rfl) (zd_one_t h) hk'
  · rename_i k hfe
    exact zs_storI (fun h1 h2 kk => lv_istore hx hb (za_fe_1 hdec hfe rfl) h1 h2 rfl kk) (zd_one_t h) hk'
  · cases h
def zd_go (call : za_CF) : Nat → za_S → Option za_S
  | 0, S => some S
  | n + 1, S => match zd_st call S with
    | some S' => zd_go call n S'
    | none => none
theorem zd_go_ok (X : za_Cx p l R s m args meth c E L s0 d zL) (IH : za_IH l E s0 d call) : ∀ {n : Nat} {S S' : za_S}, zd_go call n S = some S' → za_G p l e R s m args below meth c Q E (za_nL zL) ads0 S' → za_G p l e R s m args below meth c Q E (za_nL zL) ads0 S
  | 0, S, S', h, hk => by
    cases h
    exact hk
  | n + 1, S, S', h, hk => by
    unfold zd_go at h
    split at h
    · rename_i S1 h1
      exact zd_st_ok X IH h1 (zd_go_ok X IH h hk)
    · cases h
end ZDS
/-! the heap in exact words -/
def zd_kd (ty : FieldType) : Nat := match ty with
  | .long => 1
  | .object _ => 2
  | .array _ => 2
  | _ => 0
theorem zd_k0 {H : zp_H} {p k : Nat} {ty : FieldType} (h : zd_kd ty = 0) : zp_fv H p ty k = .inl (H.2.1 p k) := by
  cases ty <;> first | rfl | cases h
theorem zd_k1 {H : zp_H} {p k : Nat} {ty : FieldType} (h : zd_kd ty = 1) : zp_fv H p ty k = .inr (.inl (H.2.2.1 p k)) := by
  cases ty <;> first | rfl | cases h
theorem zd_k2 {H : zp_H} {p k : Nat} {ty : FieldType} (h : zd_kd ty = 2) : zp_fv H p ty k = .inr (.inr (H.2.2.2 p k)) := by
  cases ty <;> first | rfl | cases h
def zd_vk (v : za_V) : Nat := match v with
  | .inl _ => 0
  | .inr (.inl _) => 1
  | .inr (.inr _) => 2
def zd_fok (ci : Nat) : Nat → List za_V → Bool
  | _, [] => true
  | k, v :: l => (Nat.beq (zd_kd (za_tyX ci k)) (zd_vk v)).and (zd_fok ci (k + 1) l)
theorem zd_fok_t {ci : Nat} : ∀ {l : List za_V} {k j : Nat} {v : za_V}, zd_fok ci k l = true → l[j]? = some v → zd_kd (za_tyX ci (k + j)) = zd_vk v
  | [], _, _, _, _, h => by simp at h
  | w :: l, k, 0, v, h, hj => by
    have e : w = v := Option.some.inj hj
    subst e
    exact za_beq (Bool.and_eq_true_iff.mp h).1
  | w :: l, k, j + 1, v, h, hj => by
    have e := zd_fok_t (k := k + 1) (j := j) (Bool.and_eq_true_iff.mp h).2 (show l[j]? = some v from hj)
    rw [show k + (j + 1) = k + 1 + j by omega]
    exact e
def zd_ook (o : za_O) (K : zp_K) : Bool := match o, K with
  | .inl (ci, fs), .inl cj => (Nat.beq ci cj).and ((Nat.beq fs.length (za_nX ci)).and (zd_fok ci 0 fs))
  | .inr (.inl (t, n, _, _)), .inr (t', n') => (Nat.beq t t').and ((Nat.blt t 3).and (Nat.beq n n'))
  | .inr (.inr (n, _, _)), .inr (t', n') => (Nat.beq t' 3).and (Nat.beq n n')
  | _, _ => false
def zd_hok : List za_O → List zp_K → Bool
  | [], [] => true
  | o :: l, K :: m => (zd_ook o K).and (zd_hok l m)
  | _, _ => false
theorem zd_hok_t : ∀ {h : List za_O} {sh : List zp_K}, zd_hok h sh = true → h.length = sh.length ∧ ∀ (p : Nat) (o : zp_K), sh[p]? = some o → ∃ a, h[p]? = some a ∧ zd_ook a o = true
  | [], [], _ => ⟨rfl, fun p o h => by simp at h⟩
  | a :: l, K :: m, hh => by
    obtain ⟨h1, h2⟩ := Bool.and_eq_true_iff.mp hh
    obtain ⟨g1, g2⟩ := zd_hok_t h2
    refine ⟨by simp [g1], fun p o hp => ?_⟩
    cases p with
    | zero =>
      have e : K = o := Option.some.inj hp
      subst e
      exact ⟨a, rfl, h1⟩
    | succ p => exact g2 p o hp
  | [], _ :: _, h => by cases h
  | _ :: _, [], h => by cases h
def zd_int (ws : va_W) (p k : Nat) : Int32 := match ws[p]? with
  | some (_, .inr (_, vs)) => match vs[k]? with
    | some (.int x) => x
    | _ => 0
  | some (_, .inl (_, _, .inl f)) => f k
  | _ => 0
def zd_lng (ws : va_W) (p k : Nat) : Int64 := match ws[p]? with
  | some (_, .inr (_, vs)) => match vs[k]? with
    | some (.long x) => x
    | _ => 0
  | some (_, .inl (_, _, .inr (.inl f))) => f k
  | _ => 0
def zd_ref (h : List za_O) (p k : Nat) : Option Nat := match h[p]? with
  | some (.inl (_, fs)) => match fs[k]? with
    | some (.inr (.inr r)) => r
    | _ => none
  | _ => none
def zd_H (ws : va_W) (h : List za_O) : zp_H := (zB_sh, zd_int ws, zd_lng ws, zd_ref h)
theorem zd_F2g {α β : Type} {P : α → β → Prop} : ∀ {l : List α} {m : List β}, za_F2 P l m → ∀ {k : Nat} {b : β}, m[k]? = some b → ∃ a, l[k]? = some a ∧ P a b
  | [], [], _, k, b, h => by simp at h
  | x :: l, y :: m, hp, 0, b, h => by
    have e : y = b := Option.some.inj h
    subst e
    exact ⟨x, rfl, hp.1⟩
  | x :: l, y :: m, hp, k + 1, b, h => zd_F2g hp.2 (show m[k]? = some b from h)
  | [], _ :: _, hp, _, _, _ => hp.elim
  | _ :: _, [], hp, _, _, _ => hp.elim
theorem zd_W {E : za_E} {ads : List Nat} {h : List za_O} {Hp : Heap} (hW : za_Wd E ads h Hp) (hc : zd_hok h zB_sh = true) : ∃ ws : va_W, zp_Wd E ads (zd_H ws h) Hp ∧ za_F2 (fun o (q : Nat × va_E) => za_gO E ads o q.2) h ws := by
  obtain ⟨ws, e1, e2, e3, e4⟩ := hW
  obtain ⟨g1, g2⟩ := zd_hok_t hc
  refine ⟨ws, ⟨ws, e1, ?_, ?_, e3, e4⟩, e2⟩
  · rw [← za_F2_len e2]
    exact g1
  · intro p o x hp hx
    obtain ⟨a, a1, a2⟩ := g2 p o hp
    obtain ⟨a', b1, b2⟩ := zd_F2g e2 hx
    have ea : a' = a := Option.some.inj (b1.symm.trans a1)
    subst ea
    obtain ⟨ad, x⟩ := x
    match a', o, x, a2, b2, hx, a1 with
    | .inl (ci, fs), .inl cj, .inr (ck, vs), a2, b2, hx, a1 =>
      obtain ⟨c1, c2⟩ := Bool.and_eq_true_iff.mp a2
      obtain ⟨c2, c3⟩ := Bool.and_eq_true_iff.mp c2
      obtain ⟨d1, d2⟩ := b2
      have c1 := za_beq c1
      have c2 := za_beq c2
      subst c1
      subst d1
      refine ⟨rfl, by rw [← za_F2_len d2]; exact c2, fun k w hw => ?_⟩
      obtain ⟨v, v1, v2⟩ := zd_F2g d2 hw
      have ht := zd_fok_t c3 v1
      rw [Nat.zero_add] at ht
      have hI : zd_int ws p k = (match vs[k]? with
        | some (.int x) => x
        | _ => 0) := by
        unfold zd_int
        rw [hx]
      have hLg : zd_lng ws p k = (match vs[k]? with
        | some (.long x) => x
        | _ => 0) := by
        unfold zd_lng
        rw [hx]
      have hRf : zd_ref h p k = (match fs[k]? with
        | some (.inr (.inr r)) => r
        | _ => none) := by
        unfold zd_ref
        rw [a1]
      match v, v2, ht, v1 with
      | .inl i, v2, ht, v1 =>
        obtain ⟨y, rfl, v3⟩ := v2
        rw [zd_k0 ht]
        show Value.int y = .int (zd_int ws p k)
        rw [hI, hw]
      | .inr (.inl i), v2, ht, v1 =>
        obtain ⟨y, rfl, v3⟩ := v2
        rw [zd_k1 ht]
        show Value.long y = .long (zd_lng ws p k)
        rw [hLg, hw]
      | .inr (.inr none), v2, ht, v1 =>
        rw [zd_k2 ht]
        have e9 : zd_ref h p k = none := by rw [hRf, v1]
        show zp_gV ads (.inr (.inr (zd_ref h p k))) w
        rw [e9]
        exact v2
      | .inr (.inr (some r)), v2, ht, v1 =>
        rw [zd_k2 ht]
        have e9 : zd_ref h p k = some r := by rw [hRf, v1]
        show zp_gV ads (.inr (.inr (zd_ref h p k))) w
        rw [e9]
        exact v2
    | .inr (.inl (t, n, d, ups)), .inr (t', n'), .inl (cA, n9, .inl f), a2, b2, hx, a1 =>
      obtain ⟨c1, c2⟩ := Bool.and_eq_true_iff.mp a2
      obtain ⟨c2, c3⟩ := Bool.and_eq_true_iff.mp c2
      obtain ⟨d1, d2, d3, d4⟩ := b2
      have c1 := za_beq c1
      have c3 := za_beq c3
      subst c1 c3 d1
      refine ⟨rfl, d2, d3, fun i hi => ?_⟩
      show f i = zd_int ws p i
      unfold zd_int
      rw [hx]
    | .inr (.inr (n, d, ups)), .inr (t', n'), .inl (cA, n9, .inr (.inl f)), a2, b2, hx, a1 =>
      obtain ⟨c1, c2⟩ := Bool.and_eq_true_iff.mp a2
      obtain ⟨d1, d2, d3⟩ := b2
      have c1 := za_beq c1
      have c2 := za_beq c2
      subst c1 c2 d1
      refine ⟨rfl, rfl, d2, fun i hi => ?_⟩
      show f i = zd_lng ws p i
      unfold zd_lng
      rw [hx]
/-! what is known of its numbers -/
def zd_c (h : List za_O) (p k : Nat) : Option (Int × Int) := match h[p]? with
  | some (.inl (_, fs)) => match fs[k]? with
    | some (.inl (0, lo, hi)) => some (lo, hi)
    | _ => none
  | _ => none
theorem zd_c_ok {E : za_E} {ads : List Nat} {h : List za_O} {ws : va_W} (hF : za_F2 (fun o (q : Nat × va_E) => za_gO E ads o q.2) h ws) {p k : Nat} {lo hi : Int} (hc : zd_c h p k = some (lo, hi)) : lo ≤ (zd_int ws p k).toInt ∧ (zd_int ws p k).toInt ≤ hi := by
  unfold zd_c at hc
  split at hc
  · rename_i ci fs hp
    split at hc
    · rename_i lo' hi' hk
      cases hc
      obtain ⟨⟨ad, x⟩, x1, x2⟩ := za_F2_get hF hp
      match x, x2, x1 with
      | .inr (ck, vs), x2, x1 =>
        obtain ⟨w, w1, y, rfl, w3⟩ := za_F2_get x2.2 hk
        have hI : zd_int ws p k = y := by
          unfold zd_int
          rw [x1]
          show (match vs[k]? with
            | some (.int x) => x
            | _ => 0) = y
          rw [w1]
        rw [hI]
        exact w3
    · cases hc
  · cases hc
def zd_a (h : List za_O) (p i : Nat) : Option (Int × Int) := match h[p]? with
  | some (.inr (.inl (_, n, d, ups))) => bif Nat.blt i n then match za_at d ups i with
    | (0, lo, hi) => some (lo, hi)
    | _ => none else none
  | _ => none
theorem zd_a_ok {E : za_E} {ads : List Nat} {h : List za_O} {ws : va_W} (hF : za_F2 (fun o (q : Nat × va_E) => za_gO E ads o q.2) h ws) {p i : Nat} {lo hi : Int} (hc : zd_a h p i = some (lo, hi)) : lo ≤ (zd_int ws p i).toInt ∧ (zd_int ws p i).toInt ≤ hi := by
  unfold zd_a at hc
  split at hc
  · rename_i t n d ups hp
    obtain ⟨g1, hc⟩ := za_bif hc
    have g1 := za_blt g1
    obtain ⟨⟨ad, x⟩, x1, x2⟩ := za_F2_get hF hp
    match x, x2, x1 with
    | .inl (cA, n9, .inl f), x2, x1 =>
      have w3 := x2.2.2.2 i g1
      have hI : zd_int ws p i = f i := by
        unfold zd_int
        rw [x1]
      rw [hI]
      split at hc
      · rename_i lo' hi' ha
        cases hc
        rw [ha] at w3
        exact w3
      · cases hc
  · cases hc
def zd_l (h : List za_O) (p i : Nat) : Option Int64 := match h[p]? with
  | some (.inr (.inr (n, d, ups))) => bif Nat.blt i n then za_at d ups i else none
  | _ => none
theorem zd_l_ok {E : za_E} {ads : List Nat} {h : List za_O} {ws : va_W} (hF : za_F2 (fun o (q : Nat × va_E) => za_gO E ads o q.2) h ws) {p i : Nat} {u : Int64} (hc : zd_l h p i = some u) : zd_lng ws p i = u := by
  unfold zd_l at hc
  split at hc
  · rename_i n d ups hp
    obtain ⟨g1, hc⟩ := za_bif hc
    have g1 := za_blt g1
    obtain ⟨⟨ad, x⟩, x1, x2⟩ := za_F2_get hF hp
    match x, x2, x1 with
    | .inl (cA, n9, .inr (.inl f)), x2, x1 =>
      have w3 := x2.2.2 i g1 u hc
      have hI : zd_lng ws p i = f i := by
        unfold zd_lng
        rw [x1]
      rw [hI]
      exact w3
  · cases hc
/-! the checks -/
def zd_in (o : Option (Int × Int)) (r : Int × Int) : Bool := match o with
  | some (lo, hi) => (za_ile r.1 lo).and (za_ile hi r.2)
  | none => false
def zd_fck (fr : List (Nat × List (Nat × Int × Int))) (h : List za_O) : Bool := fr.all (fun q => q.2.all (fun f => (Nat.beq f.1 100).or (zd_in (zd_c h q.1 f.1) f.2)))
def zd_ack (ar : List (Nat × Nat × List (Int × Int))) (h : List za_O) : Bool := ar.all (fun q => match zB_sh[q.1]? with
  | some (.inr (_, n)) => (List.range n).all (fun i => match (zB_al ar q.1).2[i % (zB_al ar q.1).1]? with
    | some r => zd_in (zd_a h q.1 i) r
    | none => true)
  | _ => false)
def zd_eqr (a b : Option Nat) : Bool := match a, b with
  | none, none => true
  | some x, some y => Nat.beq x y
  | _, _ => false
theorem zd_eqr_t : ∀ {a b : Option Nat}, zd_eqr a b = true → a = b
  | none, none, _ => rfl
  | some x, some y, h => by rw [za_beq (show Nat.beq x y = true from h)]
  | none, some _, h => by cases h
  | some _, none, h => by cases h
def zd_rck (h : List za_O) : Bool := (zB_rf.all (fun q => q.2.all (fun f => zd_eqr (zd_ref h q.1 f.1) f.2))).and ((zB_cr 0).all (fun f => zd_eqr (zd_ref h 0 f.1) f.2))
def zd_i6 : Int32 := Int32.ofNat 6
def zd_qck (h : List za_O) (a : Nat) : Bool := (List.range 4).all (fun k => match zd_l h a k with
  | some u => decide (u = zq_o zd_i6 zd_i6 (zq_col zd_i6 zd_i6) k)
  | none => false)
def zd_ck (h : List za_O) : Bool := (zd_hok h zB_sh).and ((zd_fck zB_fr h).and ((zd_fck zR_fr h).and ((zd_ack zB_ar h).and ((zd_ack zR_ar h).and ((zd_rck h).and ((zd_qck h 3).and ((zd_qck h 23).and ((zd_in (zd_c h 2 0) (6, 6)).and ((zd_in (zd_c h 22 0) (6, 6)).and ((zd_in (zd_c h 52 4) (0, 2)).and ((zd_in (zd_c h 72 8) (0, 0)).and ((zd_in (zd_c h 72 62) (0, 0)).and ((zd_in (zd_c h 72 81) (0, 0)).and ((zd_in (zd_c h 0 1) (0, 0)).and ((zd_in (zd_c h 72 22) (0, 0)).and ((zd_in (zd_c h 2 1) (6, 6)).and (zd_in (zd_c h 22 1) (6, 6))))))))))))))))))
theorem zd_in_ok {E : za_E} {ads : List Nat} {h : List za_O} {ws : va_W} (hF : za_F2 (fun o (q : Nat × va_E) => za_gO E ads o q.2) h ws) {p k : Nat} {r : Int × Int} (hc : zd_in (zd_c h p k) r = true) : r.1 ≤ (zd_int ws p k).toInt ∧ (zd_int ws p k).toInt ≤ r.2 := by
  unfold zd_in at hc
  split at hc
  · rename_i lo hi h1
    obtain ⟨a, b⟩ := Bool.and_eq_true_iff.mp hc
    obtain ⟨c, d⟩ := zd_c_ok hF h1
    exact ⟨Int.le_trans (za_ile_t a) c, Int.le_trans d (za_ile_t b)⟩
  · cases hc
theorem zd_ina_ok {E : za_E} {ads : List Nat} {h : List za_O} {ws : va_W} (hF : za_F2 (fun o (q : Nat × va_E) => za_gO E ads o q.2) h ws) {p k : Nat} {r : Int × Int} (hc : zd_in (zd_a h p k) r = true) : r.1 ≤ (zd_int ws p k).toInt ∧ (zd_int ws p k).toInt ≤ r.2 := by
  unfold zd_in at hc
  split at hc
  · rename_i lo hi h1
    obtain ⟨a, b⟩ := Bool.and_eq_true_iff.mp hc
    obtain ⟨c, d⟩ := zd_a_ok hF h1
    exact ⟨Int.le_trans (za_ile_t a) c, Int.le_trans d (za_ile_t b)⟩
  · cases hc
theorem zd_l1 {α : Type} {k : Nat} {r : α} : ∀ {l : List (Nat × α)}, zB_l2.zB_l1 l k = some r → ∃ f ∈ l, f.1 = k ∧ f.2 = r
  | [], h => by cases h
  | q :: l, h => by
    unfold zB_l2.zB_l1 at h
    cases hb : Nat.beq q.1 k with
    | true =>
      rw [hb] at h
      cases h
      exact ⟨q, List.mem_cons_self, za_beq hb, rfl⟩
    | false =>
      rw [hb] at h
      obtain ⟨q', h1, h2⟩ := zd_l1 h
      exact ⟨q', List.mem_cons_of_mem _ h1, h2⟩
theorem zd_l2 {α : Type} {p k : Nat} {r : α} : ∀ {l : List (Nat × List (Nat × α))}, zB_l2 l p k = some r → ∃ q ∈ l, q.1 = p ∧ ∃ f ∈ q.2, f.1 = k ∧ f.2 = r
  | [], h => by cases h
  | q :: l, h => by
    unfold zB_l2 at h
    cases hb : Nat.beq q.1 p with
    | true =>
      rw [hb] at h
      exact ⟨q, List.mem_cons_self, za_beq hb, zd_l1 h⟩
    | false =>
      rw [hb] at h
      obtain ⟨q', h1, h2⟩ := zd_l2 h
      exact ⟨q', List.mem_cons_of_mem _ h1, h2⟩
theorem zd_al {p : Nat} : ∀ (l : List (Nat × Nat × List (Int × Int))), (∃ q ∈ l, q.1 = p) ∨ zB_al l p = (1, [(-2147483648, 2147483647)])
  | [] => Or.inr rfl
  | q :: l => by
    cases hb : Nat.beq q.1 p with
    | true => exact Or.inl ⟨q, List.mem_cons_self, za_beq hb⟩
    | false =>
      rcases zd_al (p := p) l with ⟨q', h1, h2⟩ | h1
      · exact Or.inl ⟨q', List.mem_cons_of_mem _ h1, h2⟩
      · refine Or.inr ?_
        unfold zB_al
        rw [hb]
        exact h1
section ZDC
variable {E : za_E} {ads : List Nat} {h : List za_O} {ws : va_W}
theorem zd_fck_ok (hF : za_F2 (fun o (q : Nat × va_E) => za_gO E ads o q.2) h ws) {fr : List (Nat × List (Nat × Int × Int))} (hc : zd_fck fr h = true) {p k : Nat} {r : Int × Int} (hr : zB_l2 fr p k = some r) (hk : k ≠ 100) : r.1 ≤ (zd_int ws p k).toInt ∧ (zd_int ws p k).toInt ≤ r.2 := by
  obtain ⟨q, q1, rfl, f, f1, rfl, rfl⟩ := zd_l2 hr
  have h1 := List.all_eq_true.mp (List.all_eq_true.mp hc q q1) f f1
  rcases Bool.or_eq_true_iff.mp h1 with h2 | h2
  · exact absurd (za_beq h2) hk
  · exact zd_in_ok hF h2
theorem zd_ack_ok (hF : za_F2 (fun o (q : Nat × va_E) => za_gO E ads o q.2) h ws) {ar : List (Nat × Nat × List (Int × Int))} (hc : zd_ack ar h = true) {p t n i : Nat} {r : Int × Int} (hp : zB_sh[p]? = some (.inr (t, n))) (hi : i < n) (hr : (zB_al ar p).2[i % (zB_al ar p).1]? = some r) : zk_in (zd_int ws p i).toInt r := by
  rcases zd_al (p := p) ar with ⟨q, q1, rfl⟩ | h1
  · have h2 := List.all_eq_true.mp hc q q1
    rw [hp] at h2
    have h3 := List.all_eq_true.mp h2 i (List.mem_range.mpr hi)
    rw [hr] at h3
    exact zd_ina_ok hF h3
  · exact zI_full h1 hr
theorem zd_rck_ok (hc : zd_rck h = true) : ∀ p k r, zB_r 0 p k = some r → zd_ref h p k = r := by
  obtain ⟨c1, c2⟩ := Bool.and_eq_true_iff.mp hc
  have base : ∀ {p k : Nat} {r : Option Nat}, zB_l2 zB_rf p k = some r → zd_ref h p k = r := by
    intro p k r hr
    obtain ⟨q, q1, rfl, f, f1, rfl, rfl⟩ := zd_l2 hr
    exact zd_eqr_t (List.all_eq_true.mp (List.all_eq_true.mp c1 q q1) f f1)
  intro p k r hr
  unfold zB_r at hr
  cases hp : Nat.beq p 0 with
  | false =>
    rw [hp] at hr
    exact base hr
  | true =>
    have e := za_beq hp
    subst e
    rw [hp] at hr
    simp only [cond_true] at hr
    cases h1 : zB_l2.zB_l1 (zB_cr 0) k with
    | none =>
      rw [h1] at hr
      exact base hr
    | some r1 =>
      rw [h1] at hr
      cases hr
      obtain ⟨f, f1, rfl, rfl⟩ := zd_l1 h1
      exact zd_eqr_t (List.all_eq_true.mp c2 f f1)
theorem zd_qck_ok (hF : za_F2 (fun o (q : Nat × va_E) => za_gO E ads o q.2) h ws) {p a : Nat} (hc : zd_qck h a = true) (h0 : zd_in (zd_c h p 0) (6, 6) = true) (h9 : zd_in (zd_c h p 1) (6, 6) = true) : zQ p a (zd_H ws h) := by
  have e0 := zd_in_ok hF h0
  have e0 : (6 : Int) ≤ (zd_int ws p 0).toInt ∧ (zd_int ws p 0).toInt ≤ (6 : Int) := e0
  have e1 : zd_int ws p 0 = zd_i6 := Int32.toInt_inj.mp (by
    have : zd_i6.toInt = 6 := by decide
    omega)
  have e9 := zd_in_ok hF h9
  have e9 : (6 : Int) ≤ (zd_int ws p 1).toInt ∧ (zd_int ws p 1).toInt ≤ (6 : Int) := e9
  have e3 : zd_int ws p 1 = zd_i6 := Int32.toInt_inj.mp (by
    have : zd_i6.toInt = 6 := by decide
    omega)
  have e2 : ∀ k, k < 4 → zd_lng ws a k = zq_o zd_i6 zd_i6 (zq_col zd_i6 zd_i6) k := by
    intro k k1
    have h1 := List.all_eq_true.mp hc k (List.mem_range.mpr k1)
    split at h1
    · rename_i u hu
      rw [zd_l_ok hF hu]
      exact of_decide_eq_true h1
    · cases h1
  refine ⟨?_, fun k hk => ?_⟩
  rotate_left
  · show zd_lng ws a k = zq_o (zd_int ws p 0) (zd_int ws p 1) (zq_col (zd_int ws p 0) (zd_int ws p 1)) k
    rw [e1, e3]
    exact e2 k hk
  intro k c k1 k2 k3 k4
  show 0 ≤ zq_n k c.toInt (zd_int ws p 0).toInt ∧ zq_n k c.toInt (zd_int ws p 0).toInt ≤ 63
  rw [e1]
  refine zq_ok (h := zd_i6) (by decide) (by decide) k1 k2 k3 ?_
  have k4 : zq_b (zd_lng ws a k) c ≠ 0 := k4
  rw [e2 k k1] at k4
  exact k4
theorem zd_ck_ok (hF : za_F2 (fun o (q : Nat × va_E) => za_gO E ads o q.2) h ws) (hc : zd_ck h = true) : zI 0 0 (zd_H ws h) := by
  unfold zd_ck at hc
  obtain ⟨-, hc⟩ := Bool.and_eq_true_iff.mp hc
  obtain ⟨cb, hc⟩ := Bool.and_eq_true_iff.mp hc
  obtain ⟨cr, hc⟩ := Bool.and_eq_true_iff.mp hc
  obtain ⟨ab, hc⟩ := Bool.and_eq_true_iff.mp hc
  obtain ⟨ar, hc⟩ := Bool.and_eq_true_iff.mp hc
  obtain ⟨rc, hc⟩ := Bool.and_eq_true_iff.mp hc
  obtain ⟨q3, hc⟩ := Bool.and_eq_true_iff.mp hc
  obtain ⟨q23, hc⟩ := Bool.and_eq_true_iff.mp hc
  obtain ⟨w2, hc⟩ := Bool.and_eq_true_iff.mp hc
  obtain ⟨w22, hc⟩ := Bool.and_eq_true_iff.mp hc
  obtain ⟨c52, hc⟩ := Bool.and_eq_true_iff.mp hc
  obtain ⟨c8, hc⟩ := Bool.and_eq_true_iff.mp hc
  obtain ⟨c62, hc⟩ := Bool.and_eq_true_iff.mp hc
  obtain ⟨c81, hc⟩ := Bool.and_eq_true_iff.mp hc
  obtain ⟨c01, c22⟩ := Bool.and_eq_true_iff.mp hc
  obtain ⟨c22, c61⟩ := Bool.and_eq_true_iff.mp c22
  obtain ⟨c61, c62'⟩ := Bool.and_eq_true_iff.mp c61
  have c52 : (0 : Int) ≤ (zd_int ws 52 4).toInt ∧ (zd_int ws 52 4).toInt ≤ (2 : Int) := zd_in_ok hF c52
  have c8 : (0 : Int) ≤ (zd_int ws 72 8).toInt ∧ (zd_int ws 72 8).toInt ≤ (0 : Int) := zd_in_ok hF c8
  have c62 : (0 : Int) ≤ (zd_int ws 72 62).toInt ∧ (zd_int ws 72 62).toInt ≤ (0 : Int) := zd_in_ok hF c62
  have c81 : (0 : Int) ≤ (zd_int ws 72 81).toInt ∧ (zd_int ws 72 81).toInt ≤ (0 : Int) := zd_in_ok hF c81
  have c01 : (0 : Int) ≤ (zd_int ws 0 1).toInt ∧ (zd_int ws 0 1).toInt ≤ (0 : Int) := zd_in_ok hF c01
  have c22 : (0 : Int) ≤ (zd_int ws 72 22).toInt ∧ (zd_int ws 72 22).toInt ≤ (0 : Int) := zd_in_ok hF c22
  have hfv : ∀ p k, ¬ (p = 72 ∧ k = 100) → zk_fv zg (zd_H ws h) p k = (zd_int ws p k).toInt := by
    intro p k hn
    unfold zk_fv
    rw [if_neg hn]
    rfl
  have hrf := zd_rck_ok rc
  have hB : zk_Bs (zB_c 0) zg zJc (zd_H ws h) := by
    refine ⟨rfl, hrf, fun q hq => absurd hq List.not_mem_nil, fun q hq => absurd hq List.not_mem_nil, fun p k r hr => Or.inr ?_, fun p t n i r hp hi hr => zd_ack_ok hF ab hp hi hr, fun c hc => Or.inr ?_, zd_qck_ok hF q3 w2 c61, zd_qck_ok hF q23 w22 c62'⟩
    · have hr : zB_l2 zB_fr p k = some r := hr
      have hk : k ≠ 100 := by
        rintro rfl
        obtain ⟨q, q1, q2, f, f1, f2, f3⟩ := zd_l2 hr
        have t : zB_fr.all (fun q => q.2.all (fun f => (Nat.beq f.1 100).not)) = true := by decide +kernel
        have t1 := List.all_eq_true.mp (List.all_eq_true.mp t q q1) f f1
        rw [f2] at t1
        cases t1
      rw [hfv p k (fun h9 => hk h9.2)]
      exact zd_fck_ok hF cb hr hk
    · have hc : c ∈ zB_cd := hc
      unfold zB_cd at hc
      rcases List.mem_cons.mp hc with rfl | hc
      · intro h9
        rw [hfv 52 4 (by decide)] at h9
        have h9 : (zd_int ws 52 4).toInt = 3 := h9
        omega
      · exact absurd hc List.not_mem_nil
  have hZ : zk_Bs z0R zg zJ (zd_H ws h) := by
    have har : ∀ (p t n i : Nat) (r : Int × Int), z0R.1[p]? = some (.inr (t, n)) → i < n → (z0R.2.2.2.1 p).2[i % (z0R.2.2.2.1 p).1]? = some r → zk_in ((zd_H ws h).2.1 p i).toInt r := fun p t n i r hp hi hr => zd_ack_ok hF ar hp hi hr
    refine ⟨rfl, (zB_Bc hB).2.1, fun q hq => absurd hq List.not_mem_nil, fun q hq => absurd hq List.not_mem_nil, fun p k r hr => Or.inr ?_, har, fun c hc => absurd hc List.not_mem_nil, ?_, ?_, ?_⟩
    · by_cases hk : p = 72 ∧ k = 100
      · obtain ⟨rfl, rfl⟩ := hk
        have e : r = (-1, 20) := (Option.some.inj hr).symm
        rw [e]
        unfold zk_fv
        rw [if_pos ⟨rfl, rfl⟩]
        exact zg_in _
      · rw [hfv p k hk]
        have hr : zB_l2 zR_fr p k = some r := hr
        refine zd_fck_ok hF cr hr ?_
        intro h9
        apply hk
        refine ⟨?_, h9⟩
        cases hb : Nat.beq 72 p with
        | true => exact (za_beq hb).symm
        | false =>
          unfold zR_fr zB_l2 at hr
          rw [hb] at hr
          cases hr
    · intro r hr
      have hr : (r : Int) < (zd_int ws 72 8).toInt := hr
      omega
    · intro s hs
      have e : ((zd_H ws h).2.1 72 62).toInt.toNat = 0 := by
        show (zd_int ws 72 62).toInt.toNat = 0
        omega
      rw [e]
      have b := har 74 0 32 (4 * s + 2) (0, 8) rfl (by omega) (by
        show (zB_al zR_ar 74).2[(4 * s + 2) % (zB_al zR_ar 74).1]? = some (0, 8)
        rw [show (zB_al zR_ar 74) = (4, [(0, 63), ((-2147483648), 2147483647), (0, 8), (0, 255)]) from rfl]
        show ([(0, 63), ((-2147483648), 2147483647), (0, 8), (0, 255)] : List (Int × Int))[(4 * s + 2) % 4]? = _
        rw [show (4 * s + 2) % 4 = 2 by omega]
        rfl)
      exact b.1
    · intro s hs
      have e : ((zd_H ws h).2.1 72 81).toInt.toNat = 0 := by
        show (zd_int ws 72 81).toInt.toNat = 0
        omega
      rw [e]
      have b := har 101 0 32 (4 * s + 2) (0, 8) rfl (by omega) (by
        show (zB_al zR_ar 101).2[(4 * s + 2) % (zB_al zR_ar 101).1]? = some (0, 8)
        rw [show (zB_al zR_ar 101) = (4, [(0, 63), ((-2147483648), 2147483647), (0, 8), (0, 255)]) from rfl]
        show ([(0, 63), ((-2147483648), 2147483647), (0, 8), (0, 255)] : List (Int × Int))[(4 * s + 2) % 4]? = _
        rw [show (4 * s + 2) % 4 = 2 by omega]
        rfl)
      exact b.1
  exact ⟨hB, hZ, by show (zd_int ws 0 1).toInt = ((20 * 0 : Nat) : Int); omega, by show (zd_int ws 72 22).toInt = ((20 * 0 : Nat) : Int); omega, by decide, by decide⟩
end ZDC
