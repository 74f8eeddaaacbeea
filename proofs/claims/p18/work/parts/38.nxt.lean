/-! ===== the abstract executor: one instruction; runs with frames below ===== -/
section KL
variable {B : zk_B} {gh : zp_H → Int} {J : zp_H → Prop} {fz : Nat → Nat → Bool} {τ : Nat → Int} {A : zk_A} {t : zp_T} {mods : List (Nat × Nat)} {am : List Nat} {pc : Nat} {lv : zk_LV} {st : List zk_V} {lc : zp_LV} {sc : List zp_V} {o : zk_O} {L : Nat} {σ : Nat → Int32} {M : za_MI} {cp : Nat → Option za_row} {i : Instr}
theorem zk_opt_m {pc' : Nat} {A' : zk_A} {o : Option zk_A} (h : o = some A') : (A', pc', lv, st) ∈ zk_opt pc' lv st o := by
  subst h
  exact List.mem_cons_self
theorem zk_lwl_ok {a : zk_I} {x : Int32} {dflt : Int} (hN : zk_N τ A) (hH : zk_Hp B gh J τ A t.1) (hl : zk_L τ A.1 lv lc) (hs : za_F2 (zk_gV τ A.1) st sc) (hx : x.toInt = zk_ev τ a) : ∀ {ps : List (Int × Int)} {A1 : Option zk_A} {l : List zk_O}, zk_Cut τ A A1 → zk_lwl A a dflt pc lv st ps A1 = some l → zk_Sts B gh J mods am τ A t (zp_jmp (Op.lookupswitch.offset ps dflt x.toInt) pc lc sc t) l
  | [], A1, l, hc, h => by
    unfold zk_lwl at h
    split at h
    · rename_i g hg
      cases h
      obtain ⟨A', e1, hS⟩ := zk_cut_St (pc' := g) (mods := mods) (am := am) hH hl hs hc
      show zk_Sts B gh J mods am τ A t (zp_jmp dflt pc lc sc t) _
      unfold zp_jmp
      rw [hg]
      exact ⟨_, zk_opt_m e1, hS⟩
    · cases h
  | (v, off) :: ps, A1, l, hc, h => by
    unfold zk_lwl at h
    split at h
    · rename_i l' g h1 h2
      cases h
      rw [Op.lookupswitch.offset_cons]
      by_cases hv : v = x.toInt
      · rw [if_pos hv]
        obtain ⟨A', e1, hS⟩ := zk_cut_St (pc' := g) (mods := mods) (am := am) hH hl hs (zk_eq_ok (a := a) (b := (0, v)) hN (by show zk_ev τ a = v; omega))
        unfold zp_jmp
        rw [h2]
        exact ⟨_, List.mem_append_left _ (zk_opt_m e1), hS⟩
      · rw [if_neg hv]
        obtain ⟨o, o1, o2⟩ := zk_lwl_ok hN hH hl hs hx (zk_Cut_b hc (fun A' n1 _ _ => zk_ne_ok (a := a) (b := (0, v)) n1 (by show zk_ev τ a ≠ v; omega))) h1
        exact ⟨o, List.mem_append_right _ o1, o2⟩
    · cases h
theorem zk_lsw_ok {dflt : Int} {ps : Array (Int × Int)} {l : List zk_O} (hN : zk_N τ A) (hH : zk_Hp B gh J τ A t.1) (hl : zk_L τ A.1 lv lc) (hs : za_F2 (zk_gV τ A.1) st sc) (h : zk_lsw dflt ps A pc lv st = some l) : zk_Sts B gh J mods am τ A t (zp_lsw dflt ps pc lc sc t) l := by
  unfold zk_lsw at h
  split at h
  · rename_i a r
    obtain ⟨_, s1, rfl, v1, q1⟩ := za_F2_cons hs
    obtain ⟨x, rfl, x1, x2⟩ := zk_gI_v v1
    obtain ⟨h1, h⟩ := za_bif h
    unfold zp_lsw
    dsimp only
    rw [h1]
    exact zk_lwl_ok hN hH hl q1 x2 (zk_Cut_s hN) h
  · cases h
def zk_nxt (B : zk_B) (fz : Nat → Nat → Bool) (mods : List (Nat × Nat)) (am : List Nat) (M : za_MI) (cp : Nat → Option za_row) (i : Instr) (A : zk_A) (pc : Nat) (lv : zk_LV) (st : List zk_V) : Option (List zk_O) := match i with
  | .ifCond .eq o => zk_if1 0 o A pc lv st
  | .ifCond .ne o => zk_if1 1 o A pc lv st
  | .ifCond .lt o => zk_if1 2 o A pc lv st
  | .ifCond .ge o => zk_if1 3 o A pc lv st
  | .ifCond .gt o => zk_if1 4 o A pc lv st
  | .ifCond .le o => zk_if1 5 o A pc lv st
  | .if_icmp .eq o => zk_if2 0 o A pc lv st
  | .if_icmp .ne o => zk_if2 1 o A pc lv st
  | .if_icmp .lt o => zk_if2 2 o A pc lv st
  | .if_icmp .ge o => zk_if2 3 o A pc lv st
  | .if_icmp .gt o => zk_if2 4 o A pc lv st
  | .if_icmp .le o => zk_if2 5 o A pc lv st
  | .tableswitch d lo hi os => zk_tsw d lo hi os A pc lv st
  | .lookupswitch d ps => zk_lsw d ps A pc lv st
  | i => match zk_ins B fz mods am M cp i A pc lv st with
    | some o => some [o]
    | none => none
theorem zk_nxt_ok {l : List zk_O} (hw : zk_W B gh J fz) (hN : zk_N τ A) (hH : zk_Hp B gh J τ A t.1) (hl : zk_L τ A.1 lv lc) (hs : za_F2 (zk_gV τ A.1) st sc) (h : zk_nxt B fz mods am M cp i A pc lv st = some l) : zk_Sts B gh J mods am τ A t (zp_ins L σ M cp i pc lc sc t) l := by
  unfold zk_nxt at h
  split at h
  · exact zk_if1_ok (c := 0) (fun x => by rw [zp_d, zk_eqi]; exact Iff.rfl) hN hH hl hs h
  · exact zk_if1_ok (c := 1) (fun x => by rw [zp_d, zk_eqi]; exact Iff.rfl) hN hH hl hs h
  · exact zk_if1_ok (c := 2) (fun x => by rw [zp_d, zk_lti]; exact Iff.rfl) hN hH hl hs h
  · exact zk_if1_ok (c := 3) (fun x => by rw [zp_d, zk_lei]; exact Iff.rfl) hN hH hl hs h
  · exact zk_if1_ok (c := 4) (fun x => by rw [zp_d, zk_lti]; exact Iff.rfl) hN hH hl hs h
  · exact zk_if1_ok (c := 5) (fun x => by rw [zp_d, zk_lei]; exact Iff.rfl) hN hH hl hs h
  · exact zk_if2_ok (c := 0) (fun x y => by rw [zp_d, zk_eqi]; exact Iff.rfl) hN hH hl hs h
  · exact zk_if2_ok (c := 1) (fun x y => by rw [zp_d, zk_eqi]; exact Iff.rfl) hN hH hl hs h
  · exact zk_if2_ok (c := 2) (fun x y => by rw [zp_d, zk_lti]; exact Iff.rfl) hN hH hl hs h
  · exact zk_if2_ok (c := 3) (fun x y => by rw [zp_d, zk_lei]; exact Iff.rfl) hN hH hl hs h
  · exact zk_if2_ok (c := 4) (fun x y => by rw [zp_d, zk_lti]; exact Iff.rfl) hN hH hl hs h
  · exact zk_if2_ok (c := 5) (fun x y => by rw [zp_d, zk_lei]; exact Iff.rfl) hN hH hl hs h
  · exact zk_tsw_ok hN hH hl hs h
  · exact zk_lsw_ok hN hH hl hs h
  · split at h
    · rename_i o ho
      cases h
      exact ⟨o, List.mem_cons_self, zk_ins_ok hw hN hH hl hs ho⟩
    · cases h
end KL
/-! runs with frames below -/
/-- must it not throw; method, place of the call, locals, the rest of the stack, cells, slots -/
abbrev zs_F : Type := Bool × za_MI × Nat × zp_LV × List zp_V × Nat × Nat
def zs_K (L : Nat) (σ : Nat → Int32) (P : zp_X → Prop) : List zs_F → Nat → zp_X → Prop
  | [], _, X => P X
  | f :: fs, d, X => (f.1 = true → zp_nox X) ∧ ((∃ S1 X1 n, zp_aft f.2.1 (za_CP (za_cl f.2.1)) f.2.2.1 f.2.2.2.1 f.2.2.2.2.1 f.2.2.2.2.2.1 f.2.2.2.2.2.2 X = some (.inl S1) ∧ zp_RunN L σ f.2.1 (zp_Call L σ d) n S1 X1 ∧ zs_K L σ P fs (d + 1) X1) ∨
    ∃ X1, zp_aft f.2.1 (za_CP (za_cl f.2.1)) f.2.2.1 f.2.2.2.1 f.2.2.2.2.1 f.2.2.2.2.2.1 f.2.2.2.2.2.2 X = some (.inr X1) ∧ zs_K L σ P fs (d + 1) X1)
/-- it ends, and then the frames below do, and P holds -/
def zs_Safe (L : Nat) (σ : Nat → Int32) (P : zp_X → Prop) (M : za_MI) (fs : List zs_F) (d : Nat) (S : zp_S) : Prop := ∃ X n, zp_RunN L σ M (zp_Call L σ d) n S X ∧ zs_K L σ P fs (d + 1) X
section KS
variable {L : Nat} {σ : Nat → Int32} {P : zp_X → Prop} {M Y : za_MI} {fs : List zs_F} {d : Nat} {S S' : zp_S} {X X1 : zp_X} {i : Instr} {nx : Bool} {j k : Nat}
theorem zs_step (hi : za_fe (za_is M) S.1 = some i) (h : zp_ins L σ M (za_CP (za_cl M)) i S.1 S.2.1 S.2.2.1 S.2.2.2 = some (.inl S')) (hS : zs_Safe L σ P M fs d S') : zs_Safe L σ P M fs d S := by
  obtain ⟨X, n, h1, h2⟩ := hS
  exact ⟨X, n + 1, ⟨i, hi, Or.inl ⟨S', h, h1⟩⟩, h2⟩
theorem zs_end (hi : za_fe (za_is M) S.1 = some i) (h : zp_end M (za_CP (za_cl M)) i S.1 S.2.2.1 S.2.2.2 = some X) (hK : zs_K L σ P fs (d + 1) X) : zs_Safe L σ P M fs d S :=
  ⟨X, 1, ⟨i, hi, Or.inr (Or.inl h)⟩, hK⟩
theorem zs_Kcons {f : zs_F} {X : zp_X} {S1 : zp_S} (hn : f.1 = true → zp_nox X) (ha : zp_aft f.2.1 (za_CP (za_cl f.2.1)) f.2.2.1 f.2.2.2.1 f.2.2.2.2.1 f.2.2.2.2.2.1 f.2.2.2.2.2.2 X = some (.inl S1)) (hS : zs_Safe L σ P f.2.1 fs d S1) : zs_K L σ P (f :: fs) d X := by
  obtain ⟨X1, n, h1, h2⟩ := hS
  exact ⟨hn, Or.inl ⟨S1, X1, n, ha, h1, h2⟩⟩
theorem zs_inl (hi : za_fe (za_is M) S.1 = some i) (hj : za_MT j = some Y) (h : zp_cl (za_CP (za_cl M)) i S.2.2.1 S.2.2.2 = some (nx, j, k, Y)) (hp : zp_pre M Y k S.2.2.1 S.2.2.2) (hwt : zp_wt (S.2.2.1.take k).reverse ≤ za_nL Y)
    (hS : zs_Safe L σ P Y ((nx, M, S.1, S.2.1, S.2.2.1.drop k, S.2.2.2.2.1 + za_mc Y, S.2.2.2.2.2 + za_ms Y) :: fs) d (0, zp_args 0 (S.2.2.1.take k).reverse, [], S.2.2.2.1, 0, 0)) : zs_Safe L σ P M fs (d + 1) S := by
  obtain ⟨X1, n, h1, hn, h2⟩ := hS
  have hC : zp_Call L σ (d + 1) j (S.2.2.1.take k).reverse S.2.2.2.1 X1 := ⟨Y, n, hj, hwt, h1⟩
  rcases h2 with ⟨S1, X2, n2, g1, g2, g3⟩ | ⟨X2, g1, g2⟩
  · exact ⟨X2, n2 + 1, ⟨i, hi, Or.inr (Or.inr ⟨nx, j, k, Y, X1, h, hp, hC, hn, by
      have g1 : zp_aft M (za_CP (za_cl M)) S.1 S.2.1 (S.2.2.1.drop k) (S.2.2.2.2.1 + za_mc Y) (S.2.2.2.2.2 + za_ms Y) X1 = some (.inl S1) := g1
      rw [g1]
      exact g2⟩)⟩, g3⟩
  · exact ⟨X2, 1, ⟨i, hi, Or.inr (Or.inr ⟨nx, j, k, Y, X1, h, hp, hC, hn, by
      have g1 : zp_aft M (za_CP (za_cl M)) S.1 S.2.1 (S.2.2.1.drop k) (S.2.2.2.2.1 + za_mc Y) (S.2.2.2.2.2 + za_ms Y) X1 = some (.inr X2) := g1
      rw [g1]
      exact rfl⟩)⟩, g2⟩
theorem zs_sum (hi : za_fe (za_is M) S.1 = some i) (h : zp_cl (za_CP (za_cl M)) i S.2.2.1 S.2.2.2 = some (nx, j, k, Y)) (hp : zp_pre M Y k S.2.2.1 S.2.2.2) (hC : zp_Call L σ d j (S.2.2.1.take k).reverse S.2.2.2.1 X1) (hn : nx = true → zp_nox X1)
    (hS : (∃ S1, zp_aft M (za_CP (za_cl M)) S.1 S.2.1 (S.2.2.1.drop k) (S.2.2.2.2.1 + za_mc Y) (S.2.2.2.2.2 + za_ms Y) X1 = some (.inl S1) ∧ zs_Safe L σ P M fs d S1) ∨ ∃ X2, zp_aft M (za_CP (za_cl M)) S.1 S.2.1 (S.2.2.1.drop k) (S.2.2.2.2.1 + za_mc Y) (S.2.2.2.2.2 + za_ms Y) X1 = some (.inr X2) ∧ zs_K L σ P fs (d + 1) X2) : zs_Safe L σ P M fs d S := by
  rcases hS with ⟨S1, g1, X2, n2, g2, g3⟩ | ⟨X2, g1, g2⟩
  · exact ⟨X2, n2 + 1, ⟨i, hi, Or.inr (Or.inr ⟨nx, j, k, Y, X1, h, hp, hC, hn, by rw [g1]; exact g2⟩)⟩, g3⟩
  · exact ⟨X2, 1, ⟨i, hi, Or.inr (Or.inr ⟨nx, j, k, Y, X1, h, hp, hC, hn, by rw [g1]; exact rfl⟩)⟩, g2⟩
end KS
/-! deeper is no harm -/
theorem zp_Stp_m {L : Nat} {σ : Nat → Int32} {M : za_MI} {C C' : zp_C} {R R' : zp_S → zp_X → Prop} (hC : ∀ j as h X, C j as h X → C' j as h X) (hR : ∀ S X, R S X → R' S X) {S : zp_S} {X : zp_X} (h : zp_Stp L σ M C R S X) : zp_Stp L σ M C' R' S X := by
  obtain ⟨i, hi, h⟩ := h
  refine ⟨i, hi, ?_⟩
  rcases h with ⟨S', h1, h2⟩ | h | ⟨nx, j, k, Y, X1, h1, h2, h3, h4, h5⟩
  · exact Or.inl ⟨S', h1, hR _ _ h2⟩
  · exact Or.inr (Or.inl h)
  · refine Or.inr (Or.inr ⟨nx, j, k, Y, X1, h1, h2, hC _ _ _ _ h3, h4, ?_⟩)
    generalize zp_aft M (za_CP (za_cl M)) S.1 S.2.1 (S.2.2.1.drop k) (S.2.2.2.2.1 + za_mc Y) (S.2.2.2.2.2 + za_ms Y) X1 = o at h5 ⊢
    match o, h5 with
    | some (.inl S'), h5 => exact hR _ _ h5
    | some (.inr X'), h5 => exact h5
theorem zp_RunN_m {L : Nat} {σ : Nat → Int32} {M : za_MI} {C C' : zp_C} (hC : ∀ j as h X, C j as h X → C' j as h X) : ∀ {n : Nat} {S : zp_S} {X : zp_X}, zp_RunN L σ M C n S X → zp_RunN L σ M C' n S X
  | 0, _, _, h => h
  | _ + 1, _, _, h => zp_Stp_m hC (fun _ _ h9 => zp_RunN_m hC h9) h
theorem zp_Call_m {L : Nat} {σ : Nat → Int32} : ∀ {d : Nat} {j : Nat} {as : List zp_V} {h : zp_H} {X : zp_X}, zp_Call L σ d j as h X → zp_Call L σ (d + 1) j as h X
  | 0, _, _, _, _, h => h.elim
  | _ + 1, _, _, _, _, ⟨Y, n, h1, h2, h3⟩ => ⟨Y, n, h1, h2, zp_RunN_m (fun _ _ _ _ h9 => zp_Call_m h9) h3⟩
theorem zp_Call_le {L : Nat} {σ : Nat → Int32} {d d' : Nat} (hd : d ≤ d') {j : Nat} {as : List zp_V} {h : zp_H} {X : zp_X} (hc : zp_Call L σ d j as h X) : zp_Call L σ d' j as h X := by
  induction hd with
  | refl => exact hc
  | step _ ih => exact zp_Call_m ih
