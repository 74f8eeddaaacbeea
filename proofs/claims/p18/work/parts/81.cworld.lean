/-! ===== the class's world: the ways of the waters stay within the sea ===== -/
/-- is this bit set? as the program asks -/
def zq_b (g : Int64) (c : Int32) : Int := (lg_cmp (za_ushr0 g c &&& Int64.ofNat 1) (Int64.ofNat 0)).toInt
def zq_n (k : Nat) (c w : Int) : Int := match k with
  | 0 => c - w
  | 1 => c + 1
  | 2 => c + w
  | _ => c - 1
/-- the leftmost cells of the rows -/
def zq_lp (w : Int32) : Nat → Int32 → Int64 → Int64
  | 0, _, u => u
  | n + 1, y, u => zq_lp w n (y + Int32.ofInt 1) (u ||| za_shl0 (Int64.ofNat 1) (w * y))
def zq_all (w h : Int32) : Int64 := za_ushr0 (Int64.ofInt (-1)) (Int32.ofInt 64 - w * h)
def zq_o (w h : Int32) (col : Int64) (k : Nat) : Int64 := match k with
  | 0 => zq_all w h &&& za_shl0 (zq_all w h) w
  | 1 => zq_all w h &&& (za_shl0 col (w - Int32.ofInt 1) ^^^ Int64.ofInt (-1))
  | 2 => za_ushr0 (zq_all w h) w
  | _ => zq_all w h &&& (col ^^^ Int64.ofInt (-1))
def zq_col (w h : Int32) : Int64 := zq_lp w h.toInt.toNat (Int32.ofInt 0) (Int64.ofNat 0)
def zQ (p a : Nat) (H : zp_H) : Prop := (∀ (k : Nat) (c : Int32), k < 4 → 0 ≤ c.toInt → c.toInt ≤ 63 → zq_b (H.2.2.1 a k) c ≠ 0 → 0 ≤ zq_n k c.toInt (H.2.1 p 0).toInt ∧ zq_n k c.toInt (H.2.1 p 0).toInt ≤ 63) ∧ ∀ k, k < 4 → H.2.2.1 a k = zq_o (H.2.1 p 0) (H.2.1 p 1) (zq_col (H.2.1 p 0) (H.2.1 p 1)) k
def zJc (H : zp_H) : Prop := zQ 2 3 H ∧ zQ 22 23 H
theorem zQ_c {p a : Nat} {H H' : zp_H} (h0 : H'.2.1 p 0 = H.2.1 p 0) (h1 : H'.2.1 p 1 = H.2.1 p 1) (ha : ∀ k, H'.2.2.1 a k = H.2.2.1 a k) (h : zQ p a H) : zQ p a H' := by
  refine ⟨fun k c k1 k2 k3 => ?_, fun k hk => ?_⟩
  · rw [h0, ha k]
    exact h.1 k c k1 k2 k3
  · rw [h0, h1, ha k]
    exact h.2 k hk
theorem zJc_c {H H' : zp_H} (h : ∀ p k, zB_fz p k = true → H'.2.1 p k = H.2.1 p k ∧ H'.2.2.1 p k = H.2.2.1 p k) (hJ : zJc H) : zJc H' := ⟨zQ_c (h 2 0 rfl).1 (h 2 1 rfl).1 (fun k => (h 3 k rfl).2) hJ.1, zQ_c (h 22 0 rfl).1 (h 22 1 rfl).1 (fun k => (h 23 k rfl).2) hJ.2⟩
theorem zB_l2_m {α : Type} {p k : Nat} {r : α} : ∀ {l : List (Nat × List (Nat × α))}, zB_l2 l p k = some r → ∃ q ∈ l, q.1 = p
  | [], h => by cases h
  | q :: l, h => by
    unfold zB_l2 at h
    cases hb : Nat.beq q.1 p with
    | true => exact ⟨q, List.mem_cons_self, za_beq hb⟩
    | false =>
      rw [hb] at h
      obtain ⟨q', h1, h2⟩ := zB_l2_m h
      exact ⟨q', List.mem_cons_of_mem _ h1, h2⟩
theorem zR_o_t {p : Nat} (h : zR_o p = true) : ∃ ci, zB_sh[p]? = some (.inl ci) := by
  unfold zR_o at h
  split at h
  · rename_i ci hc
    exact ⟨ci, hc⟩
  · cases h
theorem zB_fr_o {p k : Nat} {r : Int × Int} (h : zB_l2 zB_fr p k = some r) : ∃ ci, zB_sh[p]? = some (.inl ci) := by
  obtain ⟨q, h1, h2⟩ := zB_l2_m h
  have h3 : zB_fr.all (fun q => zR_o q.1) = true := by decide +kernel
  have h4 := List.all_eq_true.mp h3 q h1
  rw [h2] at h4
  exact zR_o_t h4
theorem zg_k {H H' : zp_H} (h : ∀ p k, zB_gk p k = true → H'.2.1 p k = H.2.1 p k ∧ H'.2.2.1 p k = H.2.2.1 p k) : zg H' = zg H := by
  have a1 := (h 72 28 rfl).1
  have a2 := (h 72 30 rfl).1
  have a3 := (h 72 33 rfl).2
  unfold zg
  rw [a1, a2, a3]
theorem zB_W : zk_W zB zg zJc zB_fz := by
  refine ⟨fun H H' _ h hJ => zJc_c h hJ, fun H H' h => zg_k h, ?_, ?_, ?_, ?_, ?_, ⟨12, rfl⟩⟩
  · intro H r hr
    have hr : (none : Option (Int × Int)) = some r := hr
    cases hr
  · intro p k r hr
    exact zB_fr_o hr
  · intro c hc
    have hc : c ∈ zB_cd := hc
    unfold zB_cd at hc
    rcases List.mem_cons.mp hc with rfl | hc
    · exact ⟨⟨9, rfl⟩, by decide, by decide⟩
    · exact absurd hc List.not_mem_nil
  · intro p k h
    have h : (Nat.beq p 72).and _ = true := h
    have e := za_beq (Bool.and_eq_true_iff.mp h).1
    subst e
    exact ⟨12, rfl⟩
  · intro p k t n hp
    have hp : zB_sh[p]? = some (.inr (t, n)) := hp
    unfold zB_fz
    have hk : ∀ k, zk_inm zB_fl p k = false := by
      intro k
      cases hb : zk_inm zB_fl p k with
      | false => rfl
      | true =>
        obtain ⟨q, q1, q2⟩ := List.any_eq_true.mp hb
        have q3 := za_beq (Bool.and_eq_true_iff.mp q2).1
        have h3 : zB_fl.all (fun q => zR_o q.1) = true := by decide +kernel
        have h4 := List.all_eq_true.mp h3 q q1
        obtain ⟨ci, h5⟩ := zR_o_t h4
        rw [q3, hp] at h5
        cases h5
    rw [hk k, hk 0]
/-! what always holds, without the condition -/
def zB0 : zk_B := (zB_sh, zB_l2 zB_rf, zB_l2 zB_fr, zB_al zB_ar, [], zB_gk)
theorem zB_dn {H : zp_H} (h : zk_Bs zB zg zJc H) : zk_Bs zB0 zg zJc H := ⟨h.1, h.2.1, h.2.2.1, h.2.2.2.1, h.2.2.2.2.1, h.2.2.2.2.2.1, fun c hc => absurd hc List.not_mem_nil, h.2.2.2.2.2.2.2⟩
theorem zB_up {H : zp_H} (h : zk_Bs zB0 zg zJc H) (hc : (H.2.1 52 4).toInt = 3 → 0 ≤ (H.2.1 52 5).toInt ∧ (H.2.1 52 5).toInt ≤ 21) : zk_Bs zB zg zJc H := by
  refine ⟨h.1, h.2.1, h.2.2.1, h.2.2.2.1, h.2.2.2.2.1, h.2.2.2.2.2.1, fun c hm => Or.inr ?_, h.2.2.2.2.2.2.2⟩
  have hm : c ∈ zB_cd := hm
  unfold zB_cd at hm
  rcases List.mem_cons.mp hm with rfl | hm
  · exact fun h9 => hc h9
  · exact absurd hm List.not_mem_nil
theorem zB_cn {H : zp_H} (h : zk_Bs zB zg zJc H) : (H.2.1 52 4).toInt = 3 → 0 ≤ (H.2.1 52 5).toInt ∧ (H.2.1 52 5).toInt ≤ 21 := by
  intro h9
  have a := h.2.2.2.2.2.2.1 (52, 4, 3, 5, 0, 21) List.mem_cons_self
  rcases a with ⟨q, q1, _⟩ | a
  · exact absurd q1 List.not_mem_nil
  exact a h9
theorem zB_fr1 {H : zp_H} (h : zk_Bs zB0 zg zJc H) {p k : Nat} {r : Int × Int} (hr : zB_l2 zB_fr p k = some r) : r.1 ≤ (H.2.1 p k).toInt ∧ (H.2.1 p k).toInt ≤ r.2 := by
  rcases h.2.2.2.2.1 p k r hr with ⟨q, q1, _⟩ | h9
  · exact absurd q1 List.not_mem_nil
  · have e : zk_fv zg H p k = (H.2.1 p k).toInt := by
      unfold zk_fv
      rw [if_neg]
      rintro ⟨rfl, rfl⟩
      cases hr
    rw [e] at h9
    exact h9
theorem zB_ar1 {H : zp_H} (h : zk_Bs zB0 zg zJc H) {p t n i : Nat} {r : Int × Int} (hp : zB_sh[p]? = some (.inr (t, n))) (hi : i < n) (hr : (zB_al zB_ar p).2[i % (zB_al zB_ar p).1]? = some r) : r.1 ≤ (H.2.1 p i).toInt ∧ (H.2.1 p i).toInt ≤ r.2 := h.2.2.2.2.2.1 p t n i r hp hi hr
/-- a number is written into a field -/
theorem zB_putf {H : zp_H} (h : zk_Bs zB0 zg zJc H) {p k : Nat} {x : Int32} (ho : zR_o p = true) (hr : ∀ r, zB_l2 zB_fr p k = some r → r.1 ≤ x.toInt ∧ x.toInt ≤ r.2) (hJ : zJc (zw_I H p k x)) : zk_Bs zB0 zg zJc (zw_I H p k x) := by
  refine ⟨h.1, h.2.1, fun q hq => absurd hq List.not_mem_nil, fun q hq => absurd hq List.not_mem_nil, fun p' j r hr' => Or.inr ?_, fun p' t n i r hp hi hr' => ?_, fun c hc => absurd hc List.not_mem_nil, hJ⟩
  · have h9 := zB_fr1 h hr'
    have e0 : zk_fv zg (zw_I H p k x) p' j = ((zw_I H p k x).2.1 p' j).toInt := by
      unfold zk_fv
      rw [if_neg]
      rintro ⟨rfl, rfl⟩
      cases hr'
    rw [e0]
    by_cases h2 : p' = p ∧ j = k
    · obtain ⟨e1, e2⟩ := h2
      subst e1 e2
      rw [zw_eq]
      exact hr r hr'
    · have e : (zw_I H p k x).2.1 p' j = H.2.1 p' j := zp_u_ne h2
      rw [e]
      exact h9
  · have e : (zw_I H p k x).2.1 p' i = H.2.1 p' i := zp_u_ne (fun h9 => by
      have hp : zB_sh[p']? = some (.inr (t, n)) := hp
      obtain ⟨ci, h5⟩ := zR_o_t ho
      rw [h9.1, h5] at hp
      cases hp)
    rw [e]
    exact h.2.2.2.2.2.1 p' t n i r hp hi hr'
/-- a long is written -/
theorem zB_putl {H : zp_H} (h : zk_Bs zB0 zg zJc H) {p k : Nat} {u : Int64} (hJ : zJc (zw_J H p k u)) : zk_Bs zB0 zg zJc (zw_J H p k u) := by
  refine ⟨h.1, h.2.1, fun q hq => absurd hq List.not_mem_nil, fun q hq => absurd hq List.not_mem_nil, fun p' j r hr' => Or.inr ?_, h.2.2.2.2.2.1, fun c hc => absurd hc List.not_mem_nil, hJ⟩
  have h9 := zB_fr1 h hr'
  have e0 : zk_fv zg (zw_J H p k u) p' j = (H.2.1 p' j).toInt := by
    unfold zk_fv
    rw [if_neg]
    · rfl
    rintro ⟨rfl, rfl⟩
    cases hr'
  rw [e0]
  exact h9
theorem zJc_I {H : zp_H} {p j : Nat} {x : Int32} (hf : zB_fz p j = false) (h : zJc H) : zJc (zw_I H p j x) := by
  refine zJc_c (fun q k hq => ⟨zp_u_ne (fun h9 => ?_), rfl⟩) h
  rw [h9.1, h9.2, hf] at hq
  cases hq
theorem zB_Wd {H : zp_H} (h : zk_Bs zB0 zg zJc H) : zw_W H := ⟨h.1, h.2.1⟩
theorem zk_Fr_J {mods : List (Nat × Nat)} {am : List Nat} {H0 H : zp_H} {p k : Nat} {u : Int64} (h : zk_Fr zg mods am H0 H) (hm : (zk_inm mods p k).or (zk_ina am p) = true) (hg : zB_gk p k = false) : zk_Fr zg mods am H0 (zw_J H p k u) := by
  refine ⟨h.1, fun q j h1 h2 => ?_⟩
  have hne : ¬ (q = p ∧ j = k) := by
    rintro ⟨rfl, rfl⟩
    rw [h1, h2] at hm
    cases hm
  refine ⟨?_, (zp_u_ne hne).trans (h.2 q j h1 h2).2⟩
  rw [← (h.2 q j h1 h2).1]
  unfold zk_fv
  by_cases h9 : q = 72 ∧ j = 100
  · rw [if_pos h9, if_pos h9]
    refine zg_k (fun p' k' h' => ⟨rfl, zp_u_ne ?_⟩)
    rintro ⟨rfl, rfl⟩
    rw [hg] at h'
    cases h'
  · rw [if_neg h9, if_neg h9]
    rfl
section WX
variable {L : Nat} {σ : Nat → Int32} {P : zp_X → Prop} {M Y : za_MI} {fs : List zs_F} {d : Nat} {pc pc' : Nat} {lv lv' : zp_LV} {st st' : List zp_V} {H H1 : zp_H} {c : Nat × Nat} {x y : Int32} {u v : Int64} {a b : Int} {i : Instr}
theorem zw_csx {k j n : Nat} {z : Int} (hi : za_fe (za_is M) pc = some (.invokestatic k)) (hr : za_CP (za_cl M) k = some (12, j, n, z)) (hY : za_MT j = some Y) : za_fe (za_is M) pc = some (.invokestatic k) ∧ zp_cl (za_CP (za_cl M)) (.invokestatic k) st (H, c) = some (true, j, n, Y) := by
  refine ⟨hi, ?_⟩
  show (match za_CP (za_cl M) k with
    | some (2, j, n, _) => match za_MT j with
      | some Y => some (false, j, n, Y)
      | none => none
    | some (12, j, n, _) => match za_MT j with
      | some Y => some (true, j, n, Y)
      | none => none
    | _ => none) = _
  rw [hr]
  show (match za_MT j with
      | some Y => some (true, j, n, Y)
      | none => none) = _
  rw [hY]
theorem zw_cvx {k j n q : Nat} {z : Int} (W : H.1 = zB_sh) (hi : za_fe (za_is M) pc = some (.invokevirtual k)) (hr : za_CP (za_cl M) k = some (11, j, n, z)) (hY : za_MT j = some Y) (hq : st[n]? = some (.inr (.inr (some (q + 1))))) (hs : zB_sh[q]? = some (.inl (za_cl Y))) : za_fe (za_is M) pc = some (.invokevirtual k) ∧ zp_cl (za_CP (za_cl M)) (.invokevirtual k) st (H, c) = some (true, j, n + 1, Y) := by
  refine ⟨hi, ?_⟩
  have e : zp_isRk st n H (za_cl Y) = true := by
    unfold zp_isRk
    rw [hq]
    show (match H.1[q]? with
      | some (.inl ci) => Nat.beq ci (za_cl Y)
      | _ => false) = true
    rw [W, hs]
    exact Nat.beq_refl _
  show (match za_CP (za_cl M) k with
    | some (1, j, n, _) => match za_MT j with
      | some Y => bif zp_isRk st n H (za_cl Y) then some (false, j, n + 1, Y) else none
      | none => none
    | some (11, j, n, _) => match za_MT j with
      | some Y => bif zp_isRk st n H (za_cl Y) then some (true, j, n + 1, Y) else none
      | none => none
    | _ => none) = _
  rw [hr]
  show (match za_MT j with
      | some Y => bif zp_isRk st n H (za_cl Y) then some (true, j, n + 1, Y) else none
      | none => none) = _
  rw [hY]
  show (bif zp_isRk st n H (za_cl Y) then some (true, j, n + 1, Y) else none) = _
  rw [e]
  rfl
/-- it returns a value, and never throws -/
theorem zw_cx {k j : Nat} {as : List zp_V} {w : zp_V} (h : za_fe (za_is M) pc = some i ∧ zp_cl (za_CP (za_cl M)) i st (H, c) = some (true, j, k, Y)) (hp : zw_pb M Y k st c = true) (ha : (st.take k).reverse = as) (hst : st.drop k = st') (hc : (c.1 + za_mc Y, c.2 + za_ms Y) = c) (hpc : pc + 3 = pc') (hC : zp_Call L σ d j as H (.inl (some w), H1)) (hS : zs_Safe L σ P M fs d (pc', lv, w :: st', H1, c)) : zs_Safe L σ P M fs d (pc, lv, st, H, c) := by
  subst ha hst hpc
  refine zs_sum (S := (pc, lv, st, H, c)) h.1 h.2 (zw_pb_ok hp) hC (fun _ => trivial) (Or.inl ⟨(pc + 3, lv, w :: st.drop k, H1, c), ?_, hS⟩)
  show some (Sum.inl (pc + 3, lv, w :: st.drop k, H1, (c.1 + za_mc Y, c.2 + za_ms Y))) = _
  rw [hc]
theorem zw_cnx {k j : Nat} {as : List zp_V} (h : za_fe (za_is M) pc = some i ∧ zp_cl (za_CP (za_cl M)) i st (H, c) = some (true, j, k, Y)) (hp : zw_pb M Y k st c = true) (ha : (st.take k).reverse = as) (hst : st.drop k = st') (hc : (c.1 + za_mc Y, c.2 + za_ms Y) = c) (hpc : pc + 3 = pc') (hC : zp_Call L σ d j as H (.inl none, H1)) (hS : zs_Safe L σ P M fs d (pc', lv, st', H1, c)) : zs_Safe L σ P M fs d (pc, lv, st, H, c) := by
  subst ha hst hpc
  refine zs_sum (S := (pc, lv, st, H, c)) h.1 h.2 (zw_pb_ok hp) hC (fun _ => trivial) (Or.inl ⟨(pc + 3, lv, st.drop k, H1, c), ?_, hS⟩)
  show some (Sum.inl (pc + 3, lv, st.drop k, H1, (c.1 + za_mc Y, c.2 + za_ms Y))) = _
  rw [hc]
/-- a letter of the words that are known -/
theorem zw_ch {k : Nat} {i2 : Fin 4} (hi : za_fe (za_is M) pc = some (.ldc 56)) (hcl : za_cl M = 9) (hwt : Nat.ble (zp_wt st) 8 = true) (h2 : za_fe (za_is M) (pc + 2) = some (.iload_n i2)) (h3 : za_fe (za_is M) (pc + 3) = some (.invokevirtual 63)) (hk : i2.val = k) (hv : zp_get lv k = some (.inl x)) (hx : 0 ≤ x.toInt ∧ x.toInt < 101) (hp : pc + 6 = pc') (hS : zs_Safe L σ P M fs d (pc', lv, .inl (Int32.ofNat (zp_spell.getD x.toInt.toNat 0)) :: st, H, c)) : zs_Safe L σ P M fs d (pc, lv, st, H, c) := by
  refine zs_step (S := (pc, lv, st, H, c)) (S' := (pc', lv, .inl (Int32.ofNat (zp_spell.getD x.toInt.toNat 0)) :: st, H, c)) hi ?_ hS
  show zp_str (za_cl M) 56 (za_is M) pc lv st (H, c) = _
  subst hk
  unfold zp_str
  rw [hcl, hwt, h2, h3]
  show (match (some (Instr.invokevirtual 63) : Option Instr), zp_get lv i2.val with
      | some (.invokevirtual j), some (.inl x) => bif Nat.beq j 63 then if 0 ≤ x.toInt ∧ x.toInt < ((zp_spell.length : Nat) : Int) then zp_go lv (H, c) (pc + 6) (.inl (Int32.ofNat (zp_spell.getD x.toInt.toNat 0)) :: st) else none else none
      | _, _ => none) = _
  rw [hv]
  show (if 0 ≤ x.toInt ∧ x.toInt < ((zp_spell.length : Nat) : Int) then _ else _) = _
  have e : ((zp_spell.length : Nat) : Int) = 101 := rfl
  rw [e, if_pos hx, ← hp]
  rfl
end WX
