/-! ===== the checker: summaries, loops ===== -/
/-- what a value is like: a number in a range; a long; a reference -/
abbrev zk_P : Type := (Int × Int) ⊕ Option (Option Nat)
/-- an outcome: what is returned or thrown; fields' ranges; fields that are no less than before -/
abbrev zk_Oc : Type := (Option zk_P ⊕ Nat) × List (Nat × Nat × Int × Int) × List (Nat × Nat × Int)
/-- a summary: method, arguments, fields before; what may change: fields, arrays; outcomes; its depth -/
abbrev zk_T : Type := Nat × List zk_P × List (Nat × Nat × Int × Int) × List (Nat × Nat) × List Nat × List zk_Oc × Nat
def zk_pv (p : zk_P) (v : zp_V) : Prop := match p, v with
  | .inl r, .inl x => zk_in x.toInt r
  | .inr none, .inr (.inl _) => True
  | .inr (some r), .inr (.inr r') => r' = r
  | _, _ => False
def zk_rv (o : Option zk_P ⊕ Nat) (x : Option zp_V ⊕ Nat) : Prop := match o, x with
  | .inl none, .inl none => True
  | .inl (some p), .inl (some v) => zk_pv p v
  | .inr e, .inr e' => e' = e
  | _, _ => False
def zk_oc (gh : zp_H → Int) (H : zp_H) (o : zk_Oc) (X : zp_X) : Prop := zk_rv o.1 X.1 ∧ (∀ f ∈ o.2.1, zk_in (zk_fv gh X.2 f.1 f.2.1) f.2.2) ∧ ∀ f ∈ o.2.2, zk_fv gh H f.1 f.2.1 + f.2.2 ≤ zk_fv gh X.2 f.1 f.2.1
def zk_PX (B : zk_B) (gh : zp_H → Int) (J : zp_H → Prop) (mods : List (Nat × Nat)) (am : List Nat) (outs : List zk_Oc) (H0 : zp_H) (X : zp_X) : Prop := zk_Bs B gh J X.2 ∧ zk_Fr gh mods am H0 X.2 ∧ ∃ o ∈ outs, zk_oc gh H0 o X
def zk_Ct (L : Nat) (σ : Nat → Int32) (B : zk_B) (gh : zp_H → Int) (J : zp_H → Prop) (e : zk_T) : Prop := ∀ d, e.2.2.2.2.2.2 ≤ d → ∀ (as : List zp_V) (H : zp_H), za_F2 zk_pv e.2.1 as → zk_Bs B gh J H → (∀ f ∈ e.2.2.1, zk_in (zk_fv gh H f.1 f.2.1) f.2.2) → ∃ X, zp_Call L σ d e.1 as H X ∧ zk_PX B gh J e.2.2.2.1 e.2.2.2.2.1 e.2.2.2.2.2.1 H X
/-! frames -/
abbrev zk_F1 : Type := Bool × za_MI × Nat × zk_LV × List zk_V × Nat × Nat
def zk_gF (τ : Nat → Int) (n : Nat) (a : zk_F1) (c : zs_F) : Prop := a.1 = c.1 ∧ a.2.1 = c.2.1 ∧ a.2.2.1 = c.2.2.1 ∧ zk_L τ n a.2.2.2.1 c.2.2.2.1 ∧ za_F2 (zk_gV τ n) a.2.2.2.2.1 c.2.2.2.2.1 ∧ a.2.2.2.2.2 = c.2.2.2.2.2
theorem zk_gF_x {n n' : Nat} {τ τ' : Nat → Int} (hn : n ≤ n') (h : zk_ext n τ τ') {fs : List zk_F1} {fc : List zs_F} (hf : za_F2 (zk_gF τ n) fs fc) : za_F2 (zk_gF τ' n') fs fc := za_F2_mono (fun _ _ ⟨h1, h2, h3, h4, h5, h6⟩ => ⟨h1, h2, h3, zk_lv_x hn h h4, zk_st_x hn h h5, h6⟩) hf
def zk_bot (M : za_MI) : List zk_F1 → za_MI
  | [] => M
  | f :: fs => zk_bot f.2.1 fs
/-! loops -/
/-- what changes in a loop: a local or a field; its range; it never falls -/
abbrev zk_It : Type := (Nat ⊕ (Nat × Nat)) × Int × Int × Bool
/-- a loop's head: place; what changes; locals, fields that are forgotten; which of them counts, upwards? -/
abbrev zk_An : Type := Nat × List zk_It × List Nat × List (Nat × Nat) × Nat × Bool
/-- a loop that runs: its head; numbers, locals, stack as it was entered; what changes, as it was; cells, slots -/
abbrev zk_Lp : Type := zk_An × zk_A × zk_LV × List zk_V × List zk_I × Nat × Nat
def zk_ia (A : zk_A) (lv : zk_LV) (it : zk_It) : Option zk_I := match it.1 with
  | .inl i => match zk_get lv i with
    | some (.inl a) => some a
    | _ => none
  | .inr (p, k) => zk_og A.2.2.1 p k
def zk_ias (A : zk_A) (lv : zk_LV) : List zk_It → Option (List zk_I)
  | [] => some []
  | it :: l => match zk_ia A lv it, zk_ias A lv l with
    | some a, some as => some (a :: as)
    | _, _ => none
def zk_rI : Nat → List zk_It → List (Nat × zk_E)
  | _, [] => []
  | n, it :: l => (n, (it.2.1, it.2.2.1, false, 1)) :: zk_rI (n + 1) l
def zk_oI : Nat → List zk_It → List (Nat × Nat × Bool × zk_I)
  | _, [] => []
  | n, it :: l => match it.1 with
    | .inl _ => zk_oI (n + 1) l
    | .inr (p, k) => (p, k, false, (n + 1, 0)) :: zk_oI (n + 1) l
def zk_lI : Nat → List zk_It → zk_LV
  | _, [] => []
  | n, it :: l => match it.1 with
    | .inl i => (i, .inl (n + 1, 0)) :: zk_lI (n + 1) l
    | .inr _ => zk_lI (n + 1) l
def zk_mI : Nat → List zk_It → List zk_I → List (Nat × zk_I × zk_I × zk_I)
  | n, it :: l, a :: as => bif it.2.2.2 then (3, (n + 1, 0), a, (0, 0)) :: zk_mI (n + 1) l as else zk_mI (n + 1) l as
  | _, _, _ => []
/-- the unknowns of what changes have its values -/
def zk_iv (gh : zp_H → Int) (H : zp_H) (lc : zp_LV) (τ : Nat → Int) : Nat → List zk_It → Prop
  | _, [] => True
  | n, it :: l => (it.2.1 ≤ τ n ∧ τ n ≤ it.2.2.1) ∧ (match it.1 with
    | .inl i => ∃ x : Int32, zp_get lc i = some (.inl x) ∧ x.toInt = τ n
    | .inr (p, k) => zk_fv gh H p k = τ n) ∧ zk_iv gh H lc τ (n + 1) l
def zk_mv (τ : Nat → Int) : Nat → List zk_It → List zk_I → Prop
  | n, it :: l, a :: as => (it.2.2.2 = true → zk_ev τ a ≤ τ n) ∧ zk_mv τ (n + 1) l as
  | _, _, _ => True
section KT
variable {B : zk_B} {gh : zp_H → Int} {J : zp_H → Prop} {τ τ0 : Nat → Int} {A : zk_A} {H : zp_H} {lv : zk_LV} {lc : zp_LV}
theorem zk_ia_ok {it : zk_It} {a : zk_I} (hH : zk_Hp B gh J τ A H) (hl : zk_L τ A.1 lv lc) (h : zk_ia A lv it = some a) : a.1 ≤ A.1 ∧ (match it.1 with
    | .inl i => ∃ x : Int32, zp_get lc i = some (.inl x) ∧ x.toInt = zk_ev τ a
    | .inr (p, k) => zk_fv gh H p k = zk_ev τ a) := by
  obtain ⟨k9, r9⟩ := it
  unfold zk_ia at h
  match k9, h with
  | .inl i, h =>
    dsimp only at h
    split at h
    · rename_i a9 ha
      cases h
      obtain ⟨w, w1, w2⟩ := hl _ _ ha
      obtain ⟨x, rfl, x1, x2⟩ := zk_gI_v w2
      exact ⟨x1, x, w1, x2⟩
    · cases h
  | .inr (p, k), h =>
    obtain ⟨e, e1, e2, e3, e4⟩ := zk_og_m h
    obtain ⟨g1, g2⟩ := hH.2.2.1 e e1
    rw [e2, e3, e4] at g2
    rw [e4] at g1
    exact ⟨g1, g2⟩
/-- the state fits what changes -/
def zk_mts (A : zk_A) (lv : zk_LV) : List zk_It → List zk_I → Bool
  | [], [] => true
  | it :: l, a0 :: as => match zk_ia A lv it with
    | some a => (zk_sub1 A a (it.2.1, it.2.2.1)).and ((bif it.2.2.2 then zk_geq A 6 a a0 else true).and (zk_mts A lv l as))
    | none => false
  | _, _ => false
theorem zk_mts_ok {n0 : Nat} (hN : zk_N τ A) (hH : zk_Hp B gh J τ A H) (hl : zk_L τ A.1 lv lc) (hx : zk_ext n0 τ0 τ) : ∀ {its : List zk_It} {as : List zk_I} (n : Nat) (τ1 : Nat → Int), zk_mts A lv its as = true → (∀ a ∈ as, a.1 ≤ n0) → n0 ≤ n → zk_ext n0 τ0 τ1 → ∃ τ2, zk_ext n τ1 τ2 ∧ zk_iv gh H lc τ2 n its ∧ zk_mv τ2 n its as
  | [], [], n, τ1, _, _, _, _ => ⟨τ1, zk_ext_r τ1, trivial, trivial⟩
  | it :: l, a0 :: as, n, τ1, h, ha, hn, h1 => by
    unfold zk_mts at h
    split at h
    · rename_i a hia
      obtain ⟨g1, h⟩ := Bool.and_eq_true_iff.mp h
      obtain ⟨g2, h⟩ := Bool.and_eq_true_iff.mp h
      obtain ⟨i1, i2⟩ := zk_ia_ok hH hl hia
      have hr := zk_sub1_ok hN g1
      obtain ⟨τ2, k1, k2, k3⟩ := zk_mts_ok hN hH hl hx (n + 1) (zk_up τ1 n (zk_ev τ a)) h (fun a9 h9 => ha a9 (List.mem_cons_of_mem _ h9)) (Nat.le_succ_of_le hn) (zk_ext_t hn h1 (zk_up_x τ1 n _))
      have e : τ2 n = zk_ev τ a := by
        rw [k1 n (Nat.lt_succ_self _)]
        unfold zk_up
        rw [if_pos rfl]
      have k0 : zk_ext n τ1 τ2 := zk_ext_t (Nat.le_succ n) (zk_up_x τ1 n (zk_ev τ a)) k1
      refine ⟨τ2, k0, ⟨?_, ?_, k2⟩, ?_, k3⟩
      · rw [e]; exact hr
      · rw [e]
        exact i2
      · intro hm
        rw [hm] at g2
        have g3 := zk_geq_ok hN g2
        have ha0 := ha a0 List.mem_cons_self
        rw [e, zk_ev_x ha0 (zk_ext_t hn h1 k0), ← zk_ev_x ha0 hx]
        exact g3
    · cases h
  | [], _ :: _, _, _, h, _, _, _ => by cases h
  | _ :: _, [], _, _, h, _, _, _ => by cases h
theorem zk_rI_ok : ∀ {its : List zk_It} {n : Nat}, zk_iv gh H lc τ n its → ∀ q ∈ zk_rI n its, (n ≤ q.1 ∧ q.1 < n + its.length) ∧ zk_ok (τ q.1) q.2
  | [], _, _, q, hq => absurd hq List.not_mem_nil
  | it :: l, n, h, q, hq => by
    rcases List.mem_cons.mp hq with rfl | hq
    · exact ⟨⟨Nat.le_refl _, by show n < n + (l.length + 1); omega⟩, h.1.1, h.1.2, (fun z => Bool.noConfusion z), Int.one_dvd _⟩
    · obtain ⟨⟨g1, g2⟩, g3⟩ := zk_rI_ok h.2.2 q hq
      exact ⟨⟨by omega, by show q.1 < n + (l.length + 1); omega⟩, g3⟩
theorem zk_oI_ok : ∀ {its : List zk_It} {n : Nat}, zk_iv gh H lc τ n its → ∀ q ∈ zk_oI n its, q.2.2.2.1 ≤ n + its.length ∧ zk_fv gh H q.1 q.2.1 = zk_ev τ q.2.2.2 ∧ q.2.2.1 = false
  | [], _, _, q, hq => absurd hq List.not_mem_nil
  | (.inl i, r) :: l, n, h, q, hq => by
    obtain ⟨g1, g2⟩ := zk_oI_ok h.2.2 q hq
    exact ⟨by show _ ≤ n + (l.length + 1); omega, g2⟩
  | (.inr (p, k), r) :: l, n, h, q, hq => by
    rcases List.mem_cons.mp hq with rfl | hq
    · refine ⟨by show n + 1 ≤ n + (l.length + 1); omega, ?_, rfl⟩
      show zk_fv gh H p k = τ n + 0
      rw [h.2.1]
      omega
    · obtain ⟨g1, g2⟩ := zk_oI_ok h.2.2 q hq
      exact ⟨by show _ ≤ n + (l.length + 1); omega, g2⟩
theorem zk_lI_ok {i : Nat} {v : zk_V} {rest : zk_LV} {m : Nat} : ∀ {its : List zk_It} {n : Nat}, zk_iv gh H lc τ n its → n + its.length ≤ m → zk_L τ m rest lc → zk_get (zk_lI n its ++ rest) i = some v → ∃ w, zp_get lc i = some w ∧ zk_gV τ m v w
  | [], _, _, _, hr, h => hr i v h
  | (.inl j, r) :: l, n, hv, hm, hr, h => by
    have hm : n + (l.length + 1) ≤ m := hm
    have h : zk_get ((j, .inl (n + 1, 0)) :: (zk_lI (n + 1) l ++ rest)) i = some v := h
    unfold zk_get at h
    cases hb : Nat.beq j i with
    | true =>
      rw [hb] at h
      cases h
      have e := za_beq hb
      subst e
      obtain ⟨x, x1, x2⟩ := hv.2.1
      refine ⟨.inl x, x1, ?_, ?_⟩
      · show n + 1 ≤ m
        omega
      · show x.toInt = τ n + 0
        omega
    | false =>
      rw [hb] at h
      exact zk_lI_ok hv.2.2 (by omega) hr h
  | (.inr q, r) :: l, n, hv, hm, hr, h => by
    have hm : n + (l.length + 1) ≤ m := hm
    exact zk_lI_ok (its := l) (n := n + 1) hv.2.2 (by omega) hr h
theorem zk_mI_ok {m : Nat} : ∀ {its : List zk_It} {as : List zk_I} {n : Nat}, zk_mv τ n its as → n + its.length ≤ m → (∀ a ∈ as, a.1 ≤ m) → ∀ q ∈ zk_mI n its as, q.2.1.1 ≤ m ∧ q.2.2.1.1 ≤ m ∧ q.2.2.2.1 ≤ m ∧ zk_mo τ q
  | [], _, _, _, _, _, q, hq => by
    unfold zk_mI at hq
    exact absurd hq List.not_mem_nil
  | _ :: _, [], _, _, _, _, q, hq => by
    unfold zk_mI at hq
    exact absurd hq List.not_mem_nil
  | it :: l, a :: as, n, h, hm, ha, q, hq => by
    have hm : n + (l.length + 1) ≤ m := hm
    have hr := fun q9 h9 => zk_mI_ok (n := n + 1) h.2 (by omega) (fun a9 h8 => ha a9 (List.mem_cons_of_mem _ h8)) q9 h9
    unfold zk_mI at hq
    cases hb : it.2.2.2 with
    | false => rw [hb] at hq; exact hr q hq
    | true =>
      rw [hb] at hq
      rcases List.mem_cons.mp hq with rfl | hq
      · refine ⟨by show n + 1 ≤ m; omega, ha a List.mem_cons_self, Nat.zero_le _, ?_⟩
        show zk_ev τ a ≤ τ n + 0
        have := h.1 hb
        omega
      · exact hr q hq
end KT
