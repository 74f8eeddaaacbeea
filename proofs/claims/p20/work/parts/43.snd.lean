section
/-! ===== the checker is sound ===== -/
def zk_ens (B : zk_B) : List zk_It → zk_A → Option zk_A
  | [], A => some A
  | it :: l, A => match it.1 with
    | .inl _ => zk_ens B l A
    | .inr (p, k) => match zk_getf B A p k with
      | some q => zk_ens B l q.1
      | none => none
def zk_fan (pc : Nat) : List zk_An → Option zk_An
  | [] => none
  | a :: l => bif Nat.beq a.1 pc then some a else zk_fan pc l
def zk_flp (pc : Nat) : List zk_Lp → Option zk_Lp
  | [] => none
  | a :: l => bif Nat.beq a.1.1 pc then some a else zk_flp pc l
def zk_ck (B : zk_B) (fz : Nat → Nat → Bool) (T : List zk_T) (mods : List (Nat × Nat)) (am : List Nat) (outs : List zk_Oc) (lev : Nat) (ini : List (Nat × Nat × Nat)) (an : List zk_An) : Nat → zk_Rc
  | 0 => fun _ _ _ _ _ _ _ _ _ => false
  | f + 1 => fun A M pc lv st cs sl fs lps => match fs with
    | _ :: _ => zk_g1 B fz T mods am outs lev ini (zk_ck B fz T mods am outs lev ini an f) A M pc lv st cs sl fs lps
    | [] => match zk_fan pc an with
      | none => zk_g1 B fz T mods am outs lev ini (zk_ck B fz T mods am outs lev ini an f) A M pc lv st cs sl [] lps
      | some a => match zk_flp pc lps with
        | some lp => match zk_ens B lp.1.2.1 A with
          | some A' => ((zk_mtc B lp A' lv st).and ((zk_me lp A' lv).and ((Nat.beq cs lp.2.2.2.2.2.1).and (Nat.beq sl lp.2.2.2.2.2.2)))).or (zk_g1 B fz T mods am outs lev ini (zk_ck B fz T mods am outs lev ini an f) A M pc lv st cs sl [] lps)
          | none => false
        | none => match zk_ens B a.2.1 A with
          | some A' => match zk_ias A' lv a.2.1 with
            | some as => (zk_u1 lv).and ((zk_mtc B (a, A', lv, st, as, cs, sl) A' lv st).and (zk_g1 B fz T mods am outs lev ini (zk_ck B fz T mods am outs lev ini an f) (zk_tA (a, A', lv, st, as, cs, sl)) M pc (zk_tL (a, A', lv, st, as, cs, sl)) st cs sl [] ((a, A', lv, st, as, cs, sl) :: lps)))
            | none => false
          | none => false
section KY
variable {L : Nat} {σ : Nat → Int32} {B : zk_B} {gh : zp_H → Int} {J : zp_H → Prop} {fz : Nat → Nat → Bool} {T : List zk_T} {mods : List (Nat × Nat)} {am : List Nat} {outs : List zk_Oc} {lev : Nat} {ini : List (Nat × Nat × Nat)} {an : List zk_An} {M0 : za_MI} {D : Nat} {H0 : zp_H} {τi : Nat → Int} {ni : Nat}
theorem zk_ens_ok {H : zp_H} : ∀ {its : List zk_It} {τ : Nat → Int} {A A' : zk_A}, zk_N τ A → zk_Hp B gh J τ A H → zk_ens B its A = some A' → ∃ τ', zk_ext A.1 τ τ' ∧ A.1 ≤ A'.1 ∧ zk_N τ' A' ∧ zk_Hp B gh J τ' A' H
  | [], τ, A, A', hN, hH, h => by
    cases h
    exact ⟨τ, zk_ext_r τ, Nat.le_refl _, hN, hH⟩
  | (.inl i, r) :: l, τ, A, A', hN, hH, h => zk_ens_ok (its := l) hN hH h
  | (.inr (p, k), r) :: l, τ, A, A', hN, hH, h => by
    unfold zk_ens at h
    dsimp only at h
    split at h
    · rename_i q hq
      obtain ⟨τ1, a1, a2, a3, a4, -, -⟩ := zk_getf_ok hN hH hq
      obtain ⟨τ2, b1, b2, b3, b4⟩ := zk_ens_ok a3 a4 h
      exact ⟨τ2, zk_ext_t a2 a1 b1, Nat.le_trans a2 b2, b3, b4⟩
    · cases h
theorem zk_bt1_of {M : za_MI} {fs : List zk_F1} (h : zk_bot M fs = M0) : zk_bt1 M0 fs := by
  cases fs with
  | nil => trivial
  | cons f fs => exact h
theorem zk_g1_ok {rec : zk_Rc} (hw : zk_W B gh J fz) (hini : ∀ q ∈ ini, q.2.2 < ni ∧ τi q.2.2 = zk_fv gh H0 q.1 q.2.1) (hT : ∀ s ∈ T, zk_Ct L σ B gh J s) (hlev : lev ≤ D) (hrec : ∀ A M pc lv st cs sl fs lps, rec A M pc lv st cs sl fs lps = true → zk_Gd L σ B gh J mods am outs M0 D H0 τi ni A M pc lv st cs sl fs lps) {A : zk_A} {M : za_MI} {pc : Nat} {lv : zk_LV} {st : List zk_V} {cs sl : Nat} {fs : List zk_F1} {lps : List zk_Lp} (h : zk_g1 B fz T mods am outs lev ini rec A M pc lv st cs sl fs lps = true) : zk_Gd L σ B gh J mods am outs M0 D H0 τi ni A M pc lv st cs sl fs lps := by
  intro τ lc sc H fc d hN hH hl hs hf hF hni hx hd hb hL
  unfold zk_g1 at h
  split at h
  · cases h
  · rename_i i hi
    split at h
    · rename_i l hn
      obtain ⟨o, o1, τ', lc', sc', H', e1, e2, e3, e4, e5, e6, e7, e8⟩ := zk_nxt_ok (t := (H, cs, sl)) (L := L) (σ := σ) hw hN hH hl hs hn
      have h9 := List.all_eq_true.mp h o o1
      refine zs_step (S := (pc, lc, sc, H, cs, sl)) hi e1 ?_
      exact hrec _ _ _ _ _ _ _ _ _ h9 τ' lc' sc' H' fc d e4 e5 e6 e7 (zk_gF_x e3 e2 hf) (zk_Fr_t hF e8) (Nat.le_trans hni e3) (zk_ext_t hni hx e2) hd hb (zk_HL_x e3 e2 hL)
    · split at h
      · rename_i x hxe
        obtain ⟨X, e1, e2, e3⟩ := zk_endI_ok (t := (H, cs, sl)) hN hs hxe
        refine zs_end (S := (pc, lc, sc, H, cs, sl)) hi e1 ?_
        exact zk_ret_ok hini hrec hN hH hF hni hx hL e2 e3 h hf (by omega) (zk_bt1_of hb)
      · split at h
        · cases h
        · rename_i nx j k Y hc
          obtain ⟨e1, e2⟩ := zk_clA_ok (t := (H, cs, sl)) hH.1 hs hc
          cases hp : (Nat.ble k st.length).and ((Nat.ble (st.drop k).length 4).and ((Nat.ble (cs + za_mc Y) (za_mc M)).and (Nat.ble (sl + za_ms Y) (za_ms M)))) with
          | false => rw [hp] at h; cases h
          | true =>
            rw [hp] at h
            simp only [cond_true] at h
            obtain ⟨p1, hp⟩ := Bool.and_eq_true_iff.mp hp
            obtain ⟨p2, hp⟩ := Bool.and_eq_true_iff.mp hp
            obtain ⟨p3, p4⟩ := Bool.and_eq_true_iff.mp hp
            have hsp := za_F2_split k hs
            have p2 := za_ble p2
            have hwt := zk_wt4 hsp.2
            have hpre : zp_pre M Y k sc (H, cs, sl) := ⟨by rw [← za_F2_len hs]; exact za_ble p1, by omega, za_ble p3, za_ble p4⟩
            have hargs := za_F2_rev hsp.1
            have hbb : zk_bot M fs = M0 := hb
            split at h
            · rename_i s hfd
              obtain ⟨s1, s2, s3⟩ := zk_fd_ok hfd
              obtain ⟨h1, h⟩ := Bool.and_eq_true_iff.mp h
              obtain ⟨h2, h⟩ := Bool.and_eq_true_iff.mp h
              obtain ⟨h3, h⟩ := Bool.and_eq_true_iff.mp h
              obtain ⟨h4, h⟩ := Bool.and_eq_true_iff.mp h
              obtain ⟨h5, h⟩ := Bool.and_eq_true_iff.mp h
              have h3 := za_ble h3
              obtain ⟨X, x1, x2, x3, o, o1, o2⟩ := hT s s1 d (by omega) _ H (zk_amB_ok hN hargs s3) (zk_flush_ok hN hH h1) (fun f hff => zk_ff_ok hN hH (List.all_eq_true.mp h2 f hff))
              rw [s2] at x1
              have h9 := List.all_eq_true.mp h o o1
              obtain ⟨τ', y1, y2, y3, y4, y5⟩ := zk_so_ok hw hN hH x2 x3 o2
              have hK : zs_K L σ (zk_PX B gh J mods am outs H0) ((nx, M, pc, lc, sc.drop k, cs + za_mc Y, sl + za_ms Y) :: fc) d X := by
                refine zk_ret_ok hini hrec y3 y4 (zk_Fr_t hF (zk_Fr_w h4 h5 x3)) (Nat.le_trans hni y2) (zk_ext_t hni hx y1) (zk_HL_x y2 y1 hL) rfl y5 h9 ⟨⟨rfl, rfl, rfl, zk_lv_x y2 y1 hl, zk_st_x y2 y1 hsp.2, rfl⟩, zk_gF_x y2 y1 hf⟩ ?_ ?_
                · show d + (fs.length + 1) = D
                  omega
                · exact hbb
              obtain ⟨hn, hK⟩ := hK
              refine zs_sum (S := (pc, lc, sc, H, cs, sl)) hi e1 hpre x1 hn ?_
              rcases hK with ⟨S1, X1, n1, k1, k2, k3⟩ | ⟨X1, k1, k2⟩
              · exact Or.inl ⟨S1, k1, X1, n1, k2, k3⟩
              · exact Or.inr ⟨X1, k1, k2⟩
            · cases hq : (Nat.ble (fs.length + 2) lev).and (Nat.ble (zk_wtA (st.take k).reverse) (za_nL Y)) with
              | false => rw [hq] at h; cases h
              | true =>
                rw [hq] at h
                obtain ⟨q1, q2⟩ := Bool.and_eq_true_iff.mp hq
                have q1 := za_ble q1
                obtain ⟨d0, rfl⟩ : ∃ d0, d = d0 + 1 := ⟨d - 1, by omega⟩
                refine zs_inl (S := (pc, lc, sc, H, cs, sl)) hi e2 e1 hpre ?_ ?_
                · rw [zk_wtA_ok hargs]
                  exact za_ble q2
                · refine hrec _ _ _ _ _ _ _ _ _ h τ _ [] H _ d0 hN hH (zk_args_ok 0 hargs) trivial ⟨⟨rfl, rfl, rfl, hl, hsp.2, rfl⟩, hf⟩ hF hni hx ?_ hbb hL
                  show d0 + (fs.length + 1) + 1 = D
                  omega
theorem zk_fan_ok {pc : Nat} {a : zk_An} : ∀ {l : List zk_An}, zk_fan pc l = some a → a.1 = pc
  | [], h => by cases h
  | x :: l, h => by
    unfold zk_fan at h
    cases hb : Nat.beq x.1 pc with
    | true =>
      rw [hb] at h
      cases h
      exact za_beq hb
    | false =>
      rw [hb] at h
      exact zk_fan_ok h
theorem zk_flp_ok {pc : Nat} {a : zk_Lp} : ∀ {l : List zk_Lp}, zk_flp pc l = some a → a.1.1 = pc ∧ a ∈ l
  | [], h => by cases h
  | x :: l, h => by
    unfold zk_flp at h
    cases hb : Nat.beq x.1.1 pc with
    | true =>
      rw [hb] at h
      cases h
      exact ⟨za_beq hb, List.mem_cons_self⟩
    | false =>
      rw [hb] at h
      obtain ⟨g1, g2⟩ := zk_flp_ok h
      exact ⟨g1, List.mem_cons_of_mem _ g2⟩
theorem zk_ias_ok {A : zk_A} {τ : Nat → Int} {H : zp_H} {lv : zk_LV} {lc : zp_LV} (hH : zk_Hp B gh J τ A H) (hl : zk_L τ A.1 lv lc) : ∀ {its : List zk_It} {as : List zk_I}, zk_ias A lv its = some as → ∀ a ∈ as, a.1 ≤ A.1
  | [], as, h, a, ha => by
    cases h
    exact absurd ha List.not_mem_nil
  | it :: l, as, h, a, ha => by
    unfold zk_ias at h
    split at h
    · rename_i a9 as9 h1 h2
      cases h
      rcases List.mem_cons.mp ha with rfl | ha
      · exact (zk_ia_ok hH hl h1).1
      · exact zk_ias_ok hH hl h2 a ha
    · cases h
theorem zk_gV_s {τ : Nat → Int} {n : Nat} {v : zk_V} {w : zp_V} (h : zk_gV τ n v w) : zk_scV n v := by
  match v, w, h with
  | .inl i, .inl x, h => exact h.1
  | .inr none, .inr (.inl _), _ => trivial
  | .inr (some r), .inr (.inr r'), _ => trivial
theorem zk_F2_s {τ : Nat → Int} {n : Nat} : ∀ {st : List zk_V} {sc : List zp_V}, za_F2 (zk_gV τ n) st sc → ∀ v ∈ st, zk_scV n v
  | [], [], _, v, hv => absurd hv List.not_mem_nil
  | a :: st, b :: sc, h, v, hv => by
    rcases List.mem_cons.mp hv with rfl | hv
    · exact zk_gV_s h.1
    · exact zk_F2_s h.2 v hv
  | [], _ :: _, h, _, _ => h.elim
  | _ :: _, [], h, _, _ => h.elim
theorem zk_ck_ok (hw : zk_W B gh J fz) (hini : ∀ q ∈ ini, q.2.2 < ni ∧ τi q.2.2 = zk_fv gh H0 q.1 q.2.1) (hT : ∀ s ∈ T, zk_Ct L σ B gh J s) (hlev : lev ≤ D) : ∀ (f : Nat) (A : zk_A) (M : za_MI) (pc : Nat) (lv : zk_LV) (st : List zk_V) (cs sl : Nat) (fs : List zk_F1) (lps : List zk_Lp), zk_ck B fz T mods am outs lev ini an f A M pc lv st cs sl fs lps = true → zk_Gd L σ B gh J mods am outs M0 D H0 τi ni A M pc lv st cs sl fs lps
  | 0, _, _, _, _, _, _, _, _, _, h => by cases h
  | f + 1, A, M, pc, lv, st, cs, sl, x :: fs, lps, h => zk_g1_ok hw hini hT hlev (zk_ck_ok hw hini hT hlev f) h
  | f + 1, A, M, pc, lv, st, cs, sl, [], lps, h => by
    unfold zk_ck at h
    dsimp only at h
    split at h
    · exact zk_g1_ok hw hini hT hlev (zk_ck_ok hw hini hT hlev f) h
    · rename_i a ha
      have epc := zk_fan_ok ha
      split at h
      · rename_i lp hlp
        obtain ⟨g1, g2⟩ := zk_flp_ok hlp
        split at h
        · rename_i A' hA'
          rcases (Bool.or_eq_true _ _).mp h with h | h
          rotate_left
          · exact zk_g1_ok hw hini hT hlev (zk_ck_ok hw hini hT hlev f) h
          obtain ⟨h1, h⟩ := Bool.and_eq_true_iff.mp h
          obtain ⟨h2, h⟩ := Bool.and_eq_true_iff.mp h
          obtain ⟨h3, h4⟩ := Bool.and_eq_true_iff.mp h
          intro τ lc sc H fc d hN hH hl hs hf hF hni hx hd hb hL
          have efc := za_F2_nil hf
          subst efc
          obtain ⟨τ', a1, a2, a3, a4⟩ := zk_ens_ok hN hH hA'
          obtain ⟨b1, b2, b3, b4⟩ := zk_HL_x a2 a1 hL lp g2
          have hl' := zk_lv_x a2 a1 hl
          obtain ⟨τ2, c1, c2, c3, c4, c5, c6⟩ := zk_tp_ok b3 a3 a4 hl' (zk_st_x a2 a1 hs) h1
          have c7 := zk_me_ok a3 a4 hl' c6 h2
          have hS := b4 τ2 lc sc H c1 c2 c3 c4 c5 hF c7 d (by simpa using hd)
          have e3 := za_beq h3
          have e4 := za_beq h4
          have hb : M = M0 := hb
          rw [hb, ← g1, e3, e4]
          exact hS
        · cases h
      · split at h
        · rename_i A' hA'
          split at h
          · rename_i as has
            obtain ⟨h1, h⟩ := Bool.and_eq_true_iff.mp h
            obtain ⟨h2, h⟩ := Bool.and_eq_true_iff.mp h
            have hG := zk_g1_ok (M0 := M0) (D := D) (H0 := H0) (τi := τi) (ni := ni) hw hini hT hlev (zk_ck_ok hw hini hT hlev f) h
            intro τ lc sc H fc d hN hH hl hs hf hF hni hx hd hb hL
            have efc := za_F2_nil hf
            subst efc
            obtain ⟨τ', a1, a2, a3, a4⟩ := zk_ens_ok hN hH hA'
            have hl' := zk_lv_x a2 a1 hl
            have hs' := zk_st_x a2 a1 hs
            generalize elp : ((a, A', lv, st, as, cs, sl) : zk_Lp) = lp at h h2 hG
            have hSc : zk_Sc τ' lp := by
              rw [← elp]
              refine ⟨a3, fun q hq => ?_, fun q hq => ?_, zk_ias_ok a4 hl' has, zk_F2_s hs'⟩
              · obtain ⟨w, w1, w2⟩ := hl' q.1 q.2 (zk_u1_get h1 (List.mem_filter.mp hq).1)
                exact zk_gV_s w2
              · obtain ⟨q0, q1, rfl⟩ := List.mem_map.mp hq
                exact (a4.2.2.1 q0 (List.mem_filter.mp q1).1).1
            obtain ⟨τ2, c1, c2, c3, c4, c5, c6⟩ := zk_tp_ok hSc a3 a4 hl' hs' h2
            have eA : lp.2.1.1 = A'.1 := by rw [← elp]
            have eS : lp.2.2.2.1 = st := by rw [← elp]
            have key : ∀ (m : Nat) (τ3 : Nat → Int) (lc3 : zp_LV) (sc3 : List zp_V) (H3 : zp_H), zk_ms lp τ3 = m → zk_ext lp.2.1.1 τ' τ3 → zk_N τ3 (zk_tA lp) → zk_Hp B gh J τ3 (zk_tA lp) H3 → zk_L τ3 (zk_tA lp).1 (zk_tL lp) lc3 → za_F2 (zk_gV τ3 (zk_tA lp).1) lp.2.2.2.1 sc3 → zk_Fr gh mods am H0 H3 → zs_Safe L σ (zk_PX B gh J mods am outs H0) M [] d (pc, lc3, sc3, H3, cs, sl) := by
              intro m
              induction m using Nat.strongRecOn with
              | ind m ih =>
                intro τ3 lc3 sc3 H3 hm k1 k2 k3 k4 k5 k6
                have hle : A'.1 ≤ (zk_tA lp).1 := by rw [← eA]; exact Nat.le_add_right _ _
                have k1' : zk_ext A'.1 τ' τ3 := by rw [← eA]; exact k1
                have k0 : zk_ext A.1 τ τ3 := zk_ext_t a2 a1 k1'
                refine hG τ3 lc3 sc3 H3 [] d k2 k3 k4 (by rw [← eS]; exact k5) trivial k6 (Nat.le_trans (Nat.le_trans hni a2) hle) (zk_ext_t hni hx k0) hd hb ?_
                intro lp' hlp'
                rcases List.mem_cons.mp hlp' with rfl | hlp'
                · refine ⟨Nat.le_refl _, by rw [eA]; exact Nat.le_trans hni a2, ⟨zk_N_x (by rw [eA]; exact k1') hSc.1, hSc.2⟩, ?_⟩
                  intro τ4 lc4 sc4 H4 j1 j2 j3 j4 j5 j6 j7 d4 hd4
                  have ed : d4 = d := by
                    have hd : d + 0 + 1 = D := hd
                    omega
                  subst ed
                  have hS := ih (zk_ms lp' τ4) (by rw [← hm]; exact j7) τ4 lc4 sc4 H4 rfl (zk_ext_t (Nat.le_refl _) k1 j1) j2 j3 j4 j5 j6
                  have hb : M = M0 := hb
                  rw [← hb]
                  have e9 : (lp'.1.1, lc4, sc4, H4, lp'.2.2.2.2.2) = (pc, lc4, sc4, H4, cs, sl) := by
                    rw [← elp]
                    show (a.1, lc4, sc4, H4, cs, sl) = _
                    rw [epc]
                  rw [e9]
                  exact hS
                · exact zk_HL_x (Nat.le_trans a2 hle) k0 hL lp' hlp'
            exact key _ τ2 lc sc H rfl c1 c2 c3 c4 c5 hF
          · cases h
        · cases h
end KY
end
section
/-! ===== a summary holds, if the checker says so ===== -/
def zk_sa : List zk_P → zk_A → zk_A × List zk_V
  | [], A => (A, [])
  | .inl r :: l, A => ((zk_sa l (zk_fresh A r.1 r.2 1).1).1, .inl (zk_fresh A r.1 r.2 1).2 :: (zk_sa l (zk_fresh A r.1 r.2 1).1).2)
  | .inr x :: l, A => ((zk_sa l A).1, .inr x :: (zk_sa l A).2)
def zk_in1 (A : zk_A) : List (Nat × Nat × Int) → List (Nat × Nat × Nat)
  | [] => []
  | f :: l => match zk_og A.2.2.1 f.1 f.2.1 with
    | some (j + 1, 0) => (f.1, f.2.1, j) :: zk_in1 A l
    | _ => zk_in1 A l
def zk_rls (outs : List zk_Oc) : List (Nat × Nat × Int) := outs.flatMap (fun o => o.2.2)
def zk_chk (B : zk_B) (fz : Nat → Nat → Bool) (T : List zk_T) (an : List zk_An) (fuel : Nat) (e : zk_T) : Bool := match za_MT e.1 with
  | none => false
  | some M => match zk_sa e.2.1 zk_A0 with
    | (A1, vs) => match zk_ens B ((zk_rls e.2.2.2.2.2.1).map (fun f => (.inr (f.1, f.2.1), 0, 0, false))) (zk_fa e.2.2.1 A1) with
      | none => false
      | some A2 => (Nat.blt 0 e.2.2.2.2.2.2).and ((Nat.ble (zk_wtA vs) (za_nL M)).and (zk_ck B fz T e.2.2.2.1 e.2.2.2.2.1 e.2.2.2.2.2.1 e.2.2.2.2.2.2 (zk_in1 A2 (zk_rls e.2.2.2.2.2.1)) an fuel A2 M 0 (zk_args 0 vs) [] 0 0 [] []))
section KZ
variable {L : Nat} {σ : Nat → Int32} {B : zk_B} {gh : zp_H → Int} {J : zp_H → Prop} {fz : Nat → Nat → Bool}
theorem zk_sa_ok {H : zp_H} : ∀ {ps : List zk_P} {as : List zp_V} {τ : Nat → Int} {A : zk_A}, za_F2 zk_pv ps as → zk_N τ A → zk_Hp B gh J τ A H → ∃ τ', zk_ext A.1 τ τ' ∧ A.1 ≤ (zk_sa ps A).1.1 ∧ zk_N τ' (zk_sa ps A).1 ∧ zk_Hp B gh J τ' (zk_sa ps A).1 H ∧ za_F2 (zk_gV τ' (zk_sa ps A).1.1) (zk_sa ps A).2 as
  | [], [], τ, A, _, hN, hH => ⟨τ, zk_ext_r τ, Nat.le_refl _, hN, hH, trivial⟩
  | .inl r :: ps, .inl x :: as, τ, A, h, hN, hH => by
    have h1 : zk_in x.toInt r := h.1
    obtain ⟨τ1, a1, a2, a3, a4, a5, a6⟩ := zk_Rs_h hH (zk_fresh_ok (md := 1) hN h1.1 h1.2 (Int.one_dvd _))
    obtain ⟨τ2, b1, b2, b3, b4, b5⟩ := zk_sa_ok h.2 a3 a4
    exact ⟨τ2, zk_ext_t a2 a1 b1, Nat.le_trans a2 b2, b3, b4, zk_gV_x b2 b1 (a := .inl (zk_fresh A r.1 r.2 1).2) (v := .inl x) ⟨a5, a6⟩, b5⟩
  | .inr none :: ps, .inr (.inl x) :: as, τ, A, h, hN, hH => by
    obtain ⟨τ2, b1, b2, b3, b4, b5⟩ := zk_sa_ok h.2 hN hH
    exact ⟨τ2, b1, b2, b3, b4, trivial, b5⟩
  | .inr (some r) :: ps, .inr (.inr x) :: as, τ, A, h, hN, hH => by
    obtain ⟨τ2, b1, b2, b3, b4, b5⟩ := zk_sa_ok h.2 hN hH
    exact ⟨τ2, b1, b2, b3, b4, h.1, b5⟩
  | .inl _ :: _, .inr _ :: _, _, _, h, _, _ => h.1.elim
  | .inr none :: _, .inl _ :: _, _, _, h, _, _ => h.1.elim
  | .inr (some _) :: _, .inl _ :: _, _, _, h, _, _ => h.1.elim
  | .inr none :: _, .inr (.inr _) :: _, _, _, h, _, _ => h.1.elim
  | .inr (some _) :: _, .inr (.inl _) :: _, _, _, h, _, _ => h.1.elim
  | [], _ :: _, _, _, h, _, _ => h.elim
  | _ :: _, [], _, _, h, _, _ => h.elim
theorem zk_in1_ok {A : zk_A} {τ : Nat → Int} {H : zp_H} (hH : zk_Hp B gh J τ A H) : ∀ {l : List (Nat × Nat × Int)}, ∀ q ∈ zk_in1 A l, q.2.2 < A.1 ∧ τ q.2.2 = zk_fv gh H q.1 q.2.1
  | [], q, hq => absurd hq List.not_mem_nil
  | f :: l, q, hq => by
    unfold zk_in1 at hq
    split at hq
    · rename_i j hj
      rcases List.mem_cons.mp hq with rfl | hq
      · obtain ⟨e, e1, e2, e3, e4⟩ := zk_og_m hj
        obtain ⟨g1, g2⟩ := hH.2.2.1 e e1
        rw [e2, e3, e4] at g2
        rw [e4] at g1
        have g2 : zk_fv gh H f.1 f.2.1 = τ j + 0 := g2
        exact ⟨g1, by show τ j = zk_fv gh H f.1 f.2.1; omega⟩
      · exact zk_in1_ok hH q hq
    · exact zk_in1_ok hH q hq
theorem zk_chk_ok {T : List zk_T} {an : List zk_An} {fuel : Nat} {e : zk_T} (hw : zk_W B gh J fz) (hT : ∀ s ∈ T, zk_Ct L σ B gh J s) (h : zk_chk B fz T an fuel e = true) : zk_Ct L σ B gh J e := by
  intro d hd as H hargs hB hpre
  unfold zk_chk at h
  split at h
  · cases h
  · rename_i M hM
    generalize hsa : zk_sa e.2.1 zk_A0 = sa at h
    obtain ⟨A1, vs⟩ := sa
    dsimp only at h
    split at h
    · cases h
    · rename_i A2 hA2
      obtain ⟨h1, h⟩ := Bool.and_eq_true_iff.mp h
      obtain ⟨h2, h⟩ := Bool.and_eq_true_iff.mp h
      have h1 := za_blt h1
      have hN0 : zk_N (fun _ => 0) zk_A0 := ⟨fun q hq => absurd hq List.not_mem_nil, fun q hq => absurd hq List.not_mem_nil⟩
      obtain ⟨τ1, a1, a2, a3, a4, a5⟩ := zk_sa_ok hargs hN0 hB
      rw [hsa] at a2 a3 a4 a5
      obtain ⟨τ2, b1, b2, b3, b4⟩ := zk_fa_ok (fs := e.2.2.1) hpre a3 a4
      obtain ⟨τ3, c1, c2, c3, c4⟩ := zk_ens_ok b3 b4 hA2
      have hv := zk_st_x c2 c1 (zk_st_x b2 b1 a5)
      obtain ⟨d0, rfl⟩ : ∃ d0, d = d0 + 1 := ⟨d - 1, by omega⟩
      have hG := zk_ck_ok (L := L) (σ := σ) (M0 := M) (D := d0 + 1) (H0 := H) (τi := τ3) (ni := A2.1) hw (zk_in1_ok c4) hT hd fuel _ _ _ _ _ _ _ _ _ h
      obtain ⟨X, n, x1, x2⟩ := hG τ3 (zp_args 0 as) [] H [] d0 c3 c4 (zk_args_ok 0 hv) trivial trivial (zk_Fr_r H) (Nat.le_refl _) (zk_ext_r τ3) rfl rfl (fun lp hlp => absurd hlp List.not_mem_nil)
      exact ⟨X, ⟨M, n, hM, by rw [zk_wtA_ok hv]; exact za_ble h2, x1⟩, x2⟩
end KZ
end
section
/-! ===== the world as the checker knows it (printed by a program of mine) ===== -/
def zB_sh : List zp_K := [.inl 11, .inr (1, 700), .inl 10, .inr (3, 4), .inr (0, 64), .inr (3, 4), .inr (0, 20), .inr (0, 4), .inr (0, 4), .inr (0, 4), .inr (0, 8), .inr (0, 8), .inr (0, 700), .inl 0, .inr (0, 8), .inr (0, 8), .inr (0, 8), .inr (0, 8), .inr (0, 64), .inr (0, 64), .inr (0, 30), .inr (0, 30), .inl 10, .inr (3, 4), .inr (0, 64), .inr (3, 4), .inr (0, 20), .inr (0, 4), .inr (0, 4), .inr (0, 4), .inr (0, 8), .inr (0, 8), .inr (0, 700), .inl 0, .inr (0, 8), .inr (0, 8), .inr (0, 8), .inr (0, 8), .inr (0, 64), .inr (0, 64), .inr (0, 30), .inr (0, 30), .inl 0, .inr (0, 8), .inr (0, 8), .inr (0, 8), .inr (0, 8), .inr (0, 64), .inr (0, 64), .inr (0, 30), .inr (0, 30), .inl 7, .inl 9, .inl 2, .inl 8, .inl 3, .inl 5, .inl 8, .inr (0, 64), .inr (0, 8), .inl 1, .inr (0, 8), .inr (0, 8), .inr (3, 8), .inr (0, 8), .inr (0, 256), .inr (0, 8), .inr (0, 8), .inr (0, 8), .inr (0, 8), .inl 4, .inl 6, .inl 12, .inr (0, 64), .inr (0, 32), .inr (0, 128), .inr (0, 20), .inr (0, 12), .inr (0, 8), .inr (0, 8), .inr (0, 1600), .inr (0, 700), .inr (0, 2), .inr (0, 64), .inr (0, 32), .inr (0, 128), .inr (0, 20), .inr (0, 12), .inr (0, 8), .inr (0, 8), .inr (0, 1600), .inr (0, 800), .inr (2, 9), .inr (0, 60), .inr (3, 73), .inr (3, 73), .inr (3, 73), .inr (0, 800), .inr (0, 8), .inr (0, 8), .inr (0, 8), .inr (0, 32), .inr (0, 128), .inr (0, 60), .inr (3, 1)]
def zB_l2 {α : Type} : List (Nat × List (Nat × α)) → Nat → Nat → Option α
  | [], _, _ => none
  | q :: l, p, k => bif Nat.beq q.1 p then zB_l1 q.2 k else zB_l2 l p k
where zB_l1 {α : Type} : List (Nat × α) → Nat → Option α
  | [], _ => none
  | q :: l, k => bif Nat.beq q.1 k then some q.2 else zB_l1 l k
def zB_rf : List (Nat × List (Nat × Option Nat)) := [(0, [(0, some 2), (9, some 43), (11, some 52), (12, some 55), (13, some 56), (14, some 57), (15, some 61), (16, some 71), (17, some 72)]), (2, [(4, some 4), (5, some 5), (6, some 6), (8, some 7), (13, some 8), (14, some 9), (15, some 10), (17, some 11), (18, some 12), (19, some 13)]), (13, [(1, some 15), (2, some 16), (3, some 17), (4, some 18), (5, some 19), (6, some 20), (8, some 21), (9, some 22)]), (22, [(4, some 24), (5, some 25), (6, some 26), (8, some 27), (13, some 28), (14, some 29), (15, some 30), (17, some 31), (18, some 32), (19, some 33)]), (33, [(1, some 35), (2, some 36), (3, some 37), (4, some 38), (5, some 39), (6, some 40), (8, some 41), (9, some 42)]), (42, [(1, some 44), (2, some 45), (3, some 46), (4, some 47), (5, some 48), (6, some 49), (8, some 50), (9, some 51)]), (51, [(0, some 53), (1, some 54)]), (52, [(0, some 2)]), (53, [(0, some 53)]), (56, [(0, some 58), (1, some 59), (3, some 60)]), (60, [(1, some 62), (2, some 63), (3, some 64), (4, some 65), (5, some 66), (7, some 67), (8, some 68), (9, some 69), (10, some 70)]), (72, [(13, some 74), (14, some 75), (15, some 76), (16, some 77), (17, some 78), (18, some 79), (19, some 80), (20, some 81), (21, some 82), (25, some 83), (52, some 84), (53, some 85), (54, some 86), (55, some 87), (56, some 88), (57, some 89), (58, some 90), (59, some 91), (60, some 92), (61, some 93), (63, some 94), (72, some 95), (73, some 96), (74, some 97), (75, some 98), (76, some 99), (77, some 100), (78, some 101), (82, some 102), (83, some 103), (84, some 104)])]
def zB_fr : List (Nat × List (Nat × Int × Int)) := [(0, [(1, (0, 700)), (10, (0, 1))]), (2, [(0, (2, 8)), (1, (2, 8)), (7, (0, 5)), (9, (0, 63)), (12, (0, 4)), (16, (0, 8))]), (13, [(0, (0, 8)), (7, (0, 30))]), (22, [(0, (2, 8)), (1, (2, 8)), (7, (0, 5)), (9, (0, 63)), (12, (0, 4)), (16, (0, 8))]), (33, [(0, (0, 8)), (7, (0, 30))]), (42, [(0, (0, 8)), (7, (0, 30))]), (51, [(2, (0, 1)), (3, (0, 1))]), (52, [(1, (0, 700)), (2, (0, 700)), (3, (0, 700)), (5, ((-2147483648), 2147483647))]), (53, [(1, (0, 700))]), (54, [(0, (0, 63)), (3, (0, 8)), (5, (0, 63))]), (56, [(2, (0, 64))]), (57, [(0, (0, 63)), (3, (0, 8)), (5, (0, 63))]), (60, [(0, (0, 8)), (6, (0, 255)), (11, (0, 8))])]
def zB_ar : List (Nat × Nat × List (Int × Int)) := [(1, 1, [((-128), 127)]), (4, 1, [((-1), 3)]), (7, 1, [(0, 63)]), (10, 1, [(0, 3)]), (11, 1, [(0, 700)]), (14, 1, [(0, 63)]), (16, 1, [(0, 8)]), (18, 1, [(0, 3)]), (20, 1, [(0, 7)]), (24, 1, [((-1), 3)]), (27, 1, [(0, 63)]), (30, 1, [(0, 3)]), (31, 1, [(0, 700)]), (34, 1, [(0, 63)]), (36, 1, [(0, 8)]), (38, 1, [(0, 3)]), (40, 1, [(0, 7)]), (43, 1, [(0, 63)]), (45, 1, [(0, 8)]), (47, 1, [(0, 3)]), (49, 1, [(0, 7)]), (61, 1, [(0, 63)]), (62, 1, [(0, 63)]), (64, 1, [(0, 255)]), (66, 1, [(0, 255)]), (67, 1, [(0, 7)])]
def zB_al : List (Nat × Nat × List (Int × Int)) → Nat → Nat × List (Int × Int)
  | [], _ => (1, [(-2147483648, 2147483647)])
  | q :: l, p => bif Nat.beq q.1 p then q.2 else zB_al l p
def zB_cd : List (Nat × Nat × Int × Nat × Int × Int) := [(52, 4, 3, 5, 0, 21)]
def zB_gk (p k : Nat) : Bool := (Nat.beq p 72).and ((Nat.beq k 28).or ((Nat.beq k 30).or (Nat.beq k 33)))
def zB : zk_B := (zB_sh, zB_l2 zB_rf, zB_l2 zB_fr, zB_al zB_ar, zB_cd, zB_gk)
def zB_fl : List (Nat × Nat) := [(2, 0), (2, 1), (22, 0), (22, 1)]
def zB_fs : List Nat := [3, 23]
def zB_fz (p k : Nat) : Bool := (zk_inm zB_fl p k).or (zk_ina zB_fs p)
/-! ===== summaries that are shown by hand (printed) ===== -/
/-- yX10_nextCell -/
def ze_h0 : zk_T := (30, [.inr (some (some 3)), .inl (0, 63), .inl ((-2147483648), 2147483647)], [], [], [], [(.inl (some (.inl ((-1), (-1)))), [], []), (.inl (some (.inl (0, 63))), [], [])], 1)
/-- yX10_setSize -/
def ze_h1 : zk_T := (3, [.inr (some (some 3)), .inl (2, 8), .inl (2, 8)], [], [(2, 0), (2, 1), (2, 2)], [3], [(.inl none, [], [])], 2)
/-- yX10_nextCell -/
def ze_h2 : zk_T := (30, [.inr (some (some 23)), .inl (0, 63), .inl ((-2147483648), 2147483647)], [], [], [], [(.inl (some (.inl ((-1), (-1)))), [], []), (.inl (some (.inl (0, 63))), [], [])], 1)
/-- yX10_setSize -/
def ze_h3 : zk_T := (3, [.inr (some (some 23)), .inl (2, 8), .inl (2, 8)], [], [(22, 0), (22, 1), (22, 2)], [23], [(.inl none, [], [])], 2)
/-- yJ6_numberOfTrailingZeros_0f7a4 -/
def ze_h4 : zk_T := (147, [.inl (1, 255)], [], [], [], [(.inl (some (.inl (0, 7))), [], [])], 1)
/-- yX9_takeWord -/
def ze_h5 : zk_T := (57, [.inr (some (some 53))], [], [(52, 2), (52, 4), (52, 5)], [], [(.inl none, [(52, 4, 3, 3), (52, 5, 0, 21)], [])], 2)
/-- yX6_alikeFrom -/
def ze_h6 : zk_T := (165, [.inr (some (some 14)), .inl (0, 7), .inl (0, 7), .inl (0, 7), .inl (0, 7)], [], [], [], [(.inl (some (.inl (0, 8))), [], [])], 2)
/-- yX6_alikeFrom -/
def ze_h7 : zk_T := (165, [.inr (some (some 34)), .inl (0, 7), .inl (0, 7), .inl (0, 7), .inl (0, 7)], [], [], [], [(.inl (some (.inl (0, 8))), [], [])], 2)
def zh_l : List zk_T := [ze_h0, ze_h1, ze_h2, ze_h3, ze_h4, ze_h5, ze_h6, ze_h7]
end
