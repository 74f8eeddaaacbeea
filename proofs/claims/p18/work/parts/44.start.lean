/-! ===== a summary holds, if the checker says so ===== -/
def zk_sa : List zk_P → zk_A → zk_A × List zk_V
  | [], A => (A, [])
  | .inl r :: l, A => ((zk_sa l (zk_fresh A r.1 r.2 1).1).1, .inl (zk_fresh A r.1 r.2 1).2 :: (zk_sa l (zk_fresh A r.1 r.2 1).1).2)
  | .inr x :: l, A => ((zk_sa l A).1, .inr x :: (zk_sa l A).2)
def zk_in1 (A : zk_A) : List (Nat × Nat × Int) → List (Nat × Nat × Nat)
  | [] => []
  | f :: l => match zk_og A.2.2.1 f.1 f.2.1 with
    | some (j + 1, 0) => (f.1, f.2.1, j) :: zk_in1 A l
    | _ => zk_in1 A l
def zk_rls (outs : List zk_Oc) : List (Nat × Nat × Int) := outs.flatMap (fun o => o.2.2)
def zk_chk (B : zk_B) (fz : Nat → Nat → Bool) (T : List zk_T) (an : List zk_An) (fuel : Nat) (e : zk_T) : Bool := match za_MT e.1 with
  | none => false
  | some M => match zk_sa e.2.1 zk_A0 with
    | (A1, vs) => match zk_ens B ((zk_rls e.2.2.2.2.2.1).map (fun f => (.inr (f.1, f.2.1), 0, 0, false))) (zk_fa e.2.2.1 A1) with
      | none => false
      | some A2 => (Nat.blt 0 e.2.2.2.2.2.2).and ((Nat.ble (zk_wtA vs) (za_nL M)).and (zk_ck B fz T e.2.2.2.1 e.2.2.2.2.1 e.2.2.2.2.2.1 e.2.2.2.2.2.2 (zk_in1 A2 (zk_rls e.2.2.2.2.2.1)) an fuel A2 M 0 (zk_args 0 vs) [] 0 0 [] []))
section KZ
variable {L : Nat} {σ : Nat → Int32} {B : zk_B} {gh : zp_H → Int} {J : zp_H → Prop} {fz : Nat → Nat → Bool}
theorem zk_sa_ok {H : zp_H} : ∀ {ps : List zk_P} {as : List zp_V} {τ : Nat → Int} {A : zk_A}, za_F2 zk_pv ps as → zk_N τ A → zk_Hp B gh J τ A H → ∃ τ', zk_ext A.1 τ τ' ∧ A.1 ≤ (zk_sa ps A).1.1 ∧ zk_N τ' (zk_sa ps A).1 ∧ zk_Hp B gh J τ' (zk_sa ps A).1 H ∧ za_F2 (zk_gV τ' (zk_sa ps A).1.1) (zk_sa ps A).2 as
  | [], [], τ, A, _, hN, hH => ⟨τ, zk_ext_r τ, Nat.le_refl _, hN, hH, trivial⟩
  | .inl r :: ps, .inl x :: as, τ, A, h, hN, hH => by
    have h1 : zk_in x.toInt r := h.1
    obtain ⟨τ1, a1, a2, a3, a4, a5, a6⟩ := zk_Rs_h hH (zk_fresh_ok (md := 1) hN h1.1 h1.2 (Int.one_dvd _))
    obtain ⟨τ2, b1, b2, b3, b4, b5⟩ := zk_sa_ok h.2 a3 a4
    exact ⟨τ2, zk_ext_t a2 a1 b1, Nat.le_trans a2 b2, b3, b4, zk_gV_x b2 b1 (a := .inl (zk_fresh A r.1 r.2 1).2) (v := .inl x) ⟨a5, a6⟩, b5⟩
  | .inr none :: ps, .inr (.inl x) :: as, τ, A, h, hN, hH => by
    obtain ⟨τ2, b1, b2, b3, b4, b5⟩ := zk_sa_ok h.2 hN hH
    exact ⟨τ2, b1, b2, b3, b4, trivial, b5⟩
  | .inr (some r) :: ps, .inr (.inr x) :: as, τ, A, h, hN, hH => by
    obtain ⟨τ2, b1, b2, b3, b4, b5⟩ := zk_sa_ok h.2 hN hH
    exact ⟨τ2, b1, b2, b3, b4, h.1, b5⟩
  | .inl _ :: _, .inr _ :: _, _, _, h, _, _ => h.1.elim
  | .inr none :: _, .inl _ :: _, _, _, h, _, _ => h.1.elim
  | .inr (some _) :: _, .inl _ :: _, _, _, h, _, _ => h.1.elim
  | .inr none :: _, .inr (.inr _) :: _, _, _, h, _, _ => h.1.elim
  | .inr (some _) :: _, .inr (.inl _) :: _, _, _, h, _, _ => h.1.elim
  | [], _ :: _, _, _, h, _, _ => h.elim
  | _ :: _, [], _, _, h, _, _ => h.elim
theorem zk_in1_ok {A : zk_A} {τ : Nat → Int} {H : zp_H} (hH : zk_Hp B gh J τ A H) : ∀ {l : List (Nat × Nat × Int)}, ∀ q ∈ zk_in1 A l, q.2.2 < A.1 ∧ τ q.2.2 = zk_fv gh H q.1 q.2.1
  | [], q, hq => absurd hq List.not_mem_nil
  | f :: l, q, hq => by
    unfold zk_in1 at hq
    split at hq
    · rename_i j hj
      rcases List.mem_cons.mp hq with rfl | hq
      · obtain ⟨e, e1, e2, e3, e4⟩ := zk_og_m hj
        obtain ⟨g1, g2⟩ := hH.2.2.1 e e1
        rw [e2, e3, e4] at g2
        rw [e4] at g1
        have g2 : zk_fv gh H f.1 f.2.1 = τ j + 0 := g2
        exact ⟨g1, by show τ j = zk_fv gh H f.1 f.2.1; omega⟩
      · exact zk_in1_ok hH q hq
    · exact zk_in1_ok hH q hq
theorem zk_chk_ok {T : List zk_T} {an : List zk_An} {fuel : Nat} {e : zk_T} (hw : zk_W B gh J fz) (hT : ∀ s ∈ T, zk_Ct L σ B gh J s) (h : zk_chk B fz T an fuel e = true) : zk_Ct L σ B gh J e := by
  intro d hd as H hargs hB hpre
  unfold zk_chk at h
  split at h
  · cases h
  · rename_i M hM
    generalize hsa : zk_sa e.2.1 zk_A0 = sa at h
    obtain ⟨A1, vs⟩ := sa
    dsimp only at h
    split at h
    · cases h
    · rename_i A2 hA2
      obtain ⟨h1, h⟩ := Bool.and_eq_true_iff.mp h
      obtain ⟨h2, h⟩ := Bool.and_eq_true_iff.mp h
      have h1 := za_blt h1
      have hN0 : zk_N (fun _ => 0) zk_A0 := ⟨fun q hq => absurd hq List.not_mem_nil, fun q hq => absurd hq List.not_mem_nil⟩
      obtain ⟨τ1, a1, a2, a3, a4, a5⟩ := zk_sa_ok hargs hN0 hB
      rw [hsa] at a2 a3 a4 a5
      obtain ⟨τ2, b1, b2, b3, b4⟩ := zk_fa_ok (fs := e.2.2.1) hpre a3 a4
      obtain ⟨τ3, c1, c2, c3, c4⟩ := zk_ens_ok b3 b4 hA2
      have hv := zk_st_x c2 c1 (zk_st_x b2 b1 a5)
      obtain ⟨d0, rfl⟩ : ∃ d0, d = d0 + 1 := ⟨d - 1, by omega⟩
      have hG := zk_ck_ok (L := L) (σ := σ) (M0 := M) (D := d0 + 1) (H0 := H) (τi := τ3) (ni := A2.1) hw (zk_in1_ok c4) hT hd fuel _ _ _ _ _ _ _ _ _ h
      obtain ⟨X, n, x1, x2⟩ := hG τ3 (zp_args 0 as) [] H [] d0 c3 c4 (zk_args_ok 0 hv) trivial trivial (zk_Fr_r H) (Nat.le_refl _) (zk_ext_r τ3) rfl rfl (fun lp hlp => absurd hlp List.not_mem_nil)
      exact ⟨X, ⟨M, n, hM, by rw [zk_wtA_ok hv]; exact za_ble h2, x1⟩, x2⟩
end KZ
