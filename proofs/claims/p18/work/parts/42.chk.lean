/-! ===== the checker ===== -/
abbrev zk_Rc : Type := zk_A → za_MI → Nat → zk_LV → List zk_V → Nat → Nat → List zk_F1 → List zk_Lp → Bool
def zk_rvB (A : zk_A) (o : Option zk_P ⊕ Nat) (x : zk_XV) : Bool := match o, x with
  | .inl none, .inl none => true
  | .inl (some p), .inl (some v) => zk_pB A p v
  | .inr e, .inr e' => Nat.beq e e'
  | _, _ => false
def zk_rl (A : zk_A) (ini : List (Nat × Nat × Nat)) (f : Nat × Nat × Int) : Bool := ini.any (fun q => (Nat.beq q.1 f.1).and ((Nat.beq q.2.1 f.2.1).and (match zk_og A.2.2.1 f.1 f.2.1 with
  | some a => zk_geq A 12 a (q.2.2 + 1, f.2.2)
  | none => false)))
def zk_pst (B : zk_B) (outs : List zk_Oc) (ini : List (Nat × Nat × Nat)) (A : zk_A) (x : zk_XV) : Bool := (zk_flush B A).and (outs.any (fun o => (zk_rvB A o.1 x).and ((o.2.1.all (zk_ff B A)).and (o.2.2.all (zk_rl A ini)))))
def zk_flA (lv : zk_LV) (k : Nat) : zk_LV := lv.filter (fun q => !(q.1 == k) && !(q.1 + 1 == k && zk_cat q.2 == 2))
theorem zk_flA_ok {τ : Nat → Int} {n k : Nat} {lv : zk_LV} {lc : zp_LV} (hu : zk_u1 lv = true) (h : zk_L τ n lv lc) : zk_L τ n (zk_flA lv k) (zp_fl lc k) := by
  intro j v' hj
  obtain ⟨q, q1, q2, q3, q4⟩ := zk_get_f hj
  have hg := zk_u1_get hu q1
  rw [q2, q3] at hg
  obtain ⟨w', w1, w2⟩ := h j v' hg
  refine ⟨w', zp_get_f w1 (fun r r1 r2 r3 => ?_), w2⟩
  rw [q2, q3] at q4
  rw [r2, r3, ← zk_cat_ok w2]
  exact q4
def zk_ret (B : zk_B) (outs : List zk_Oc) (ini : List (Nat × Nat × Nat)) (rec : zk_Rc) (A : zk_A) (lps : List zk_Lp) (x : zk_XV) : List zk_F1 → Bool
  | [] => zk_pst B outs ini A x
  | f :: fs => match x with
    | .inl none => rec A f.2.1 (f.2.2.1 + 3) f.2.2.2.1 f.2.2.2.2.1 f.2.2.2.2.2.1 f.2.2.2.2.2.2 fs lps
    | .inl (some v) => rec A f.2.1 (f.2.2.1 + 3) f.2.2.2.1 (v :: f.2.2.2.2.1) f.2.2.2.2.2.1 f.2.2.2.2.2.2 fs lps
    | .inr ex => bif f.1 then false else match za_hnd (za_CP (za_cl f.2.1)) f.2.2.1 ex (za_hh f.2.1) with
      | none => false
      | some none => zk_ret B outs ini rec A lps x fs
      | some (some hp) => match za_fe (za_is f.2.1) hp with
        | some (.astore_n k) => bif Nat.blt k.val (za_nL f.2.1) then bif zk_u1 f.2.2.2.1 then rec A f.2.1 (hp + 1) (zk_flA f.2.2.2.1 k.val) [] f.2.2.2.2.2.1 f.2.2.2.2.2.2 fs lps else false else false
        | some (.astore k) => bif Nat.blt k (za_nL f.2.1) then bif zk_u1 f.2.2.2.1 then rec A f.2.1 (hp + 2) (zk_flA f.2.2.2.1 k) [] f.2.2.2.2.2.1 f.2.2.2.2.2.2 fs lps else false else false
        | _ => false
def zk_g1 (B : zk_B) (fz : Nat → Nat → Bool) (T : List zk_T) (mods : List (Nat × Nat)) (am : List Nat) (outs : List zk_Oc) (lev : Nat) (ini : List (Nat × Nat × Nat)) (rec : zk_Rc) : zk_Rc := fun A M pc lv st cs sl fs lps => match za_fe (za_is M) pc with
  | none => false
  | some i => match zk_nxt B fz mods am M (za_CP (za_cl M)) i A pc lv st with
    | some l => l.all (fun o => rec o.1 M o.2.1 o.2.2.1 o.2.2.2 cs sl fs lps)
    | none => match zk_endI M (za_CP (za_cl M)) i A pc st cs sl with
      | some x => zk_ret B outs ini rec A lps x fs
      | none => match zk_clA B (za_CP (za_cl M)) i st with
        | none => false
        | some (nx, j, k, Y) => bif (Nat.ble k st.length).and ((Nat.ble (st.drop k).length 4).and ((Nat.ble (cs + za_mc Y) (za_mc M)).and (Nat.ble (sl + za_ms Y) (za_ms M)))) then
          match zk_fd B A j (st.take k).reverse T with
          | some s => (zk_flush B A).and ((s.2.2.1.all (zk_ff B A)).and ((Nat.ble (s.2.2.2.2.2.2 + fs.length + 1) lev).and ((s.2.2.2.1.all (fun q => zk_inm mods q.1 q.2)).and ((s.2.2.2.2.1.all (fun q => zk_ina am q)).and
              (s.2.2.2.2.2.1.all (fun o => zk_ret B outs ini rec (zk_so s o A).1 lps (zk_so s o A).2 ((nx, M, pc, lv, st.drop k, cs + za_mc Y, sl + za_ms Y) :: fs)))))))
          | none => bif (Nat.ble (fs.length + 2) lev).and (Nat.ble (zk_wtA (st.take k).reverse) (za_nL Y)) then rec A Y 0 (zk_args 0 (st.take k).reverse) [] 0 0 ((nx, M, pc, lv, st.drop k, cs + za_mc Y, sl + za_ms Y) :: fs) lps else false
          else false
/-! what it means -/
section KX
variable {L : Nat} {σ : Nat → Int32} {B : zk_B} {gh : zp_H → Int} {J : zp_H → Prop} {fz : Nat → Nat → Bool} {T : List zk_T} {mods : List (Nat × Nat)} {am : List Nat} {outs : List zk_Oc} {lev : Nat} {ini : List (Nat × Nat × Nat)} {M0 : za_MI} {D : Nat} {H0 : zp_H} {τi : Nat → Int} {ni : Nat}
/-- a running loop may be entered anew, nearer to its end -/
def zk_LI (L : Nat) (σ : Nat → Int32) (B : zk_B) (gh : zp_H → Int) (J : zp_H → Prop) (mods : List (Nat × Nat)) (am : List Nat) (outs : List zk_Oc) (M0 : za_MI) (D : Nat) (H0 : zp_H) (τ : Nat → Int) (lp : zk_Lp) : Prop := ∀ τ2 lc sc H, zk_ext lp.2.1.1 τ τ2 → zk_N τ2 (zk_tA lp) → zk_Hp B gh J τ2 (zk_tA lp) H → zk_L τ2 (zk_tA lp).1 (zk_tL lp) lc → za_F2 (zk_gV τ2 (zk_tA lp).1) lp.2.2.2.1 sc → zk_Fr gh mods am H0 H → zk_ms lp τ2 < zk_ms lp τ → ∀ d, d + 1 = D → zs_Safe L σ (zk_PX B gh J mods am outs H0) M0 [] d (lp.1.1, lc, sc, H, lp.2.2.2.2.2)
def zk_HL (L : Nat) (σ : Nat → Int32) (B : zk_B) (gh : zp_H → Int) (J : zp_H → Prop) (mods : List (Nat × Nat)) (am : List Nat) (outs : List zk_Oc) (M0 : za_MI) (D : Nat) (H0 : zp_H) (ni : Nat) (τ : Nat → Int) (n : Nat) (lps : List zk_Lp) : Prop := ∀ lp ∈ lps, (zk_tA lp).1 ≤ n ∧ ni ≤ lp.2.1.1 ∧ zk_Sc τ lp ∧ zk_LI L σ B gh J mods am outs M0 D H0 τ lp
def zk_Gd (L : Nat) (σ : Nat → Int32) (B : zk_B) (gh : zp_H → Int) (J : zp_H → Prop) (mods : List (Nat × Nat)) (am : List Nat) (outs : List zk_Oc) (M0 : za_MI) (D : Nat) (H0 : zp_H) (τi : Nat → Int) (ni : Nat) (A : zk_A) (M : za_MI) (pc : Nat) (lv : zk_LV) (st : List zk_V) (cs sl : Nat) (fs : List zk_F1) (lps : List zk_Lp) : Prop :=
  ∀ τ lc sc H fc d, zk_N τ A → zk_Hp B gh J τ A H → zk_L τ A.1 lv lc → za_F2 (zk_gV τ A.1) st sc → za_F2 (zk_gF τ A.1) fs fc → zk_Fr gh mods am H0 H → ni ≤ A.1 → zk_ext ni τi τ → d + fs.length + 1 = D → zk_bot M fs = M0 → zk_HL L σ B gh J mods am outs M0 D H0 ni τ A.1 lps → zs_Safe L σ (zk_PX B gh J mods am outs H0) M fc d (pc, lc, sc, H, cs, sl)
theorem zk_ms_x {τ τ' : Nat → Int} {lp : zk_Lp} {n : Nat} (hn : (zk_tA lp).1 ≤ n) (h : zk_ext n τ τ') : zk_ms lp τ' = zk_ms lp τ := by
  unfold zk_ms
  split
  · rename_i it hit
    have h1 : lp.1.2.2.2.2.1 < lp.1.2.1.length := (List.getElem?_eq_some_iff.mp hit).1
    have h2 : lp.2.1.1 + lp.1.2.1.length ≤ n := hn
    rw [h (lp.2.1.1 + lp.1.2.2.2.2.1) (by omega)]
  · rfl
theorem zk_HL_x {τ τ' : Nat → Int} {n n' : Nat} {lps : List zk_Lp} (hn : n ≤ n') (h : zk_ext n τ τ') (hl : zk_HL L σ B gh J mods am outs M0 D H0 ni τ n lps) : zk_HL L σ B gh J mods am outs M0 D H0 ni τ' n' lps := by
  intro lp hlp
  obtain ⟨h1, h2, ⟨s1, s2⟩, h4⟩ := hl lp hlp
  have h5 : lp.2.1.1 ≤ n := Nat.le_trans (Nat.le_add_right _ _) h1
  have hx : zk_ext lp.2.1.1 τ τ' := fun j hj => h j (Nat.lt_of_lt_of_le hj h5)
  refine ⟨Nat.le_trans h1 hn, h2, ⟨zk_N_x hx s1, s2⟩, ?_⟩
  intro τ2 lc sc H g1 g2 g3 g4 g5 g6 g7 d hd
  exact h4 τ2 lc sc H (zk_ext_t (Nat.le_refl _) hx g1) g2 g3 g4 g5 g6 (by rw [← zk_ms_x h1 h]; exact g7) d hd
theorem zk_rvB_ok {A : zk_A} {τ : Nat → Int} (hN : zk_N τ A) : ∀ {o : Option zk_P ⊕ Nat} {x : zk_XV} {X : Option zp_V ⊕ Nat}, zk_gX τ A.1 x X → zk_rvB A o x = true → zk_rv o X
  | .inl none, .inl none, .inl none, _, _ => trivial
  | .inl (some p), .inl (some v), .inl (some w), hg, h => zk_pB_ok (p := p) (v := v) hN hg h
  | .inr e, .inr e', .inr e9, hg, h => by
    have hg : e9 = e' := hg
    show e9 = e
    rw [hg, za_beq (show Nat.beq e e' = true from h)]
  | .inl none, .inl (some _), _, _, h => by cases h
  | .inl (some _), .inl none, _, _, h => by cases h
  | .inl none, .inr _, _, _, h => by cases h
  | .inl (some _), .inr _, _, _, h => by cases h
  | .inr _, .inl none, _, _, h => by cases h
  | .inr _, .inl (some _), _, _, h => by cases h
  | .inl none, .inl none, .inl (some _), hg, _ => hg.elim
  | .inl none, .inl none, .inr _, hg, _ => hg.elim
  | .inl (some _), .inl (some _), .inl none, hg, _ => hg.elim
  | .inl (some _), .inl (some _), .inr _, hg, _ => hg.elim
  | .inr _, .inr _, .inl none, hg, _ => hg.elim
  | .inr _, .inr _, .inl (some _), hg, _ => hg.elim
theorem zk_pst_ok {A : zk_A} {x : zk_XV} {τ : Nat → Int} {H : zp_H} {X : zp_X} (hini : ∀ q ∈ ini, q.2.2 < ni ∧ τi q.2.2 = zk_fv gh H0 q.1 q.2.1) (hN : zk_N τ A) (hH : zk_Hp B gh J τ A H) (hF : zk_Fr gh mods am H0 H) (hx : zk_ext ni τi τ) (hX : X.2 = H) (hg : zk_gX τ A.1 x X.1) (h : zk_pst B outs ini A x = true) : zk_PX B gh J mods am outs H0 X := by
  obtain ⟨h1, h2⟩ := Bool.and_eq_true_iff.mp h
  obtain ⟨o, o1, o2⟩ := List.any_eq_true.mp h2
  obtain ⟨o2, o3⟩ := Bool.and_eq_true_iff.mp o2
  obtain ⟨o3, o4⟩ := Bool.and_eq_true_iff.mp o3
  refine ⟨by rw [hX]; exact zk_flush_ok hN hH h1, by rw [hX]; exact hF, o, o1, ?_, ?_, ?_⟩
  · exact zk_rvB_ok hN hg o2
  · intro f hf
    rw [hX]
    exact zk_ff_ok hN hH (List.all_eq_true.mp o3 f hf)
  · intro f hf
    rw [hX]
    obtain ⟨q, q1, q2⟩ := List.any_eq_true.mp (List.all_eq_true.mp o4 f hf)
    obtain ⟨q2, q3⟩ := Bool.and_eq_true_iff.mp q2
    obtain ⟨q3, q4⟩ := Bool.and_eq_true_iff.mp q3
    have e1 := za_beq q2
    have e2 := za_beq q3
    split at q4
    · rename_i a ha
      have g := zk_geq_ok hN q4
      obtain ⟨i1, i2⟩ := hini q q1
      obtain ⟨e0, f1, f2, f3, f4⟩ := zk_og_m ha
      have f5 := (hH.2.2.1 e0 f1).2
      rw [f2, f3, f4] at f5
      have g : τ q.2.2 + f.2.2 ≤ zk_ev τ a := g
      rw [hx _ i1, i2, e1, e2] at g
      rw [f5]
      exact g
    · cases q4
def zk_bt1 (M0 : za_MI) : List zk_F1 → Prop
  | [] => True
  | f :: fs => zk_bot f.2.1 fs = M0
theorem zk_ret_ok {rec : zk_Rc} (hini : ∀ q ∈ ini, q.2.2 < ni ∧ τi q.2.2 = zk_fv gh H0 q.1 q.2.1) (hrec : ∀ A M pc lv st cs sl fs lps, rec A M pc lv st cs sl fs lps = true → zk_Gd L σ B gh J mods am outs M0 D H0 τi ni A M pc lv st cs sl fs lps) {A : zk_A} {lps : List zk_Lp} {τ : Nat → Int} {H : zp_H} (hN : zk_N τ A) (hH : zk_Hp B gh J τ A H) (hF : zk_Fr gh mods am H0 H) (hni : ni ≤ A.1) (hx : zk_ext ni τi τ) (hl : zk_HL L σ B gh J mods am outs M0 D H0 ni τ A.1 lps) {x : zk_XV} {X : zp_X} (hX : X.2 = H) (hg : zk_gX τ A.1 x X.1) : ∀ {fs : List zk_F1} {fc : List zs_F} {d : Nat}, zk_ret B outs ini rec A lps x fs = true → za_F2 (zk_gF τ A.1) fs fc → d + fs.length = D → zk_bt1 M0 fs → zs_K L σ (zk_PX B gh J mods am outs H0) fc d X
  | [], [], d, h, _, _, _ => zk_pst_ok hini hN hH hF hx hX hg h
  | f :: fs, c :: fc, d, h, hf, hd, hb => by
    obtain ⟨⟨e1, e2, e3, e4, e5, e6⟩, hf⟩ := hf
    obtain ⟨cnx, cM, cpc, clv, cst, ccs, csl⟩ := c
    obtain ⟨fnx, fM, fpc, flv, fst, fcs, fsl⟩ := f
    have k1 : fnx = cnx := e1
    have k2 : fM = cM := e2
    have k3 : fpc = cpc := e3
    have k6 : fcs = ccs := congrArg Prod.fst e6
    have k7 : fsl = csl := congrArg Prod.snd e6
    clear e1 e2 e3 e6
    subst k1 k2 k3 k6 k7
    have e4 : zk_L τ A.1 flv clv := e4
    have e5 : za_F2 (zk_gV τ A.1) fst cst := e5
    have hd : d + (fs.length + 1) = D := hd
    have hb : zk_bot fM fs = M0 := hb
    obtain ⟨X1, X2⟩ := X
    have hX : X2 = H := hX
    subst hX
    unfold zk_ret at h
    match x, X1, hg, h with
    | .inl none, .inl none, _, h =>
      refine zs_Kcons (S1 := (fpc + 3, clv, cst, X2, fcs, fsl)) (fun _ => trivial) rfl ?_
      exact hrec _ _ _ _ _ _ _ _ _ h τ clv cst X2 fc d hN hH e4 e5 hf hF hni hx (by omega) hb hl
    | .inl (some v), .inl (some w), hg, h =>
      refine zs_Kcons (S1 := (fpc + 3, clv, w :: cst, X2, fcs, fsl)) (fun _ => trivial) rfl ?_
      exact hrec _ _ _ _ _ _ _ _ _ h τ clv (w :: cst) X2 fc d hN hH e4 ⟨hg, e5⟩ hf hF hni hx (by omega) hb hl
    | .inr ex, .inr ex', hg, h =>
      have hg : ex' = ex := hg
      subst hg
      dsimp only at h
      cases hnx : fnx with
      | true => rw [hnx] at h; cases h
      | false =>
        rw [hnx] at h
        simp only [cond_false] at h
        split at h
        · cases h
        · rename_i hh
          refine ⟨(fun z => nomatch z), Or.inr ⟨(.inr ex', X2), ?_, ?_⟩⟩
          · show (match za_hnd (za_CP (za_cl fM)) fpc ex' (za_hh fM) with
              | none => none
              | some none => some (Sum.inr (Sum.inr ex', X2))
              | some (some hp) => match za_fe (za_is fM) hp with
                | some (.astore_n k) => bif Nat.blt k.val (za_nL fM) then some (Sum.inl (hp + 1, zp_fl clv k.val, [], X2, fcs, fsl)) else none
                | some (.astore k) => bif Nat.blt k (za_nL fM) then some (Sum.inl (hp + 2, zp_fl clv k, [], X2, fcs, fsl)) else none
                | _ => none) = _
            rw [hh]
          · refine zk_ret_ok hini hrec hN hH hF hni hx hl (x := .inr ex') (X := (.inr ex', X2)) rfl rfl h hf (by omega) ?_
            cases fs with
            | nil => trivial
            | cons g gs => exact hb
        · rename_i hp hh
          split at h
          · rename_i k hk
            obtain ⟨h1, h⟩ := za_bif (show (bif Nat.blt k.val (za_nL fM) then some (bif zk_u1 flv then rec A fM (hp + 1) (zk_flA flv k.val) [] fcs fsl fs lps else false) else none) = some true by
              cases h9 : Nat.blt k.val (za_nL fM) with
              | true => rw [h9] at h; exact congrArg some h
              | false => rw [h9] at h; cases h)
            have h := Option.some.inj h
            cases h2 : zk_u1 flv with
            | false => rw [h2] at h; cases h
            | true =>
              rw [h2] at h
              refine zs_Kcons (S1 := (hp + 1, zp_fl clv k.val, [], X2, fcs, fsl)) (fun z => nomatch z) ?_ ?_
              · show (match za_hnd (za_CP (za_cl fM)) fpc ex' (za_hh fM) with
                  | none => none
                  | some none => some (Sum.inr (Sum.inr ex', X2))
                  | some (some hp) => match za_fe (za_is fM) hp with
                    | some (.astore_n k) => bif Nat.blt k.val (za_nL fM) then some (Sum.inl (hp + 1, zp_fl clv k.val, [], X2, fcs, fsl)) else none
                    | some (.astore k) => bif Nat.blt k (za_nL fM) then some (Sum.inl (hp + 2, zp_fl clv k, [], X2, fcs, fsl)) else none
                    | _ => none) = _
                rw [hh]
                dsimp only
                rw [hk]
                dsimp only
                rw [h1]
                rfl
              · exact hrec _ _ _ _ _ _ _ _ _ h τ _ [] X2 fc d hN hH (zk_flA_ok h2 e4) trivial hf hF hni hx (by omega) hb hl
          · rename_i k hk
            obtain ⟨h1, h⟩ := za_bif (show (bif Nat.blt k (za_nL fM) then some (bif zk_u1 flv then rec A fM (hp + 2) (zk_flA flv k) [] fcs fsl fs lps else false) else none) = some true by
              cases h9 : Nat.blt k (za_nL fM) with
              | true => rw [h9] at h; exact congrArg some h
              | false => rw [h9] at h; cases h)
            have h := Option.some.inj h
            cases h2 : zk_u1 flv with
            | false => rw [h2] at h; cases h
            | true =>
              rw [h2] at h
              refine zs_Kcons (S1 := (hp + 2, zp_fl clv k, [], X2, fcs, fsl)) (fun z => nomatch z) ?_ ?_
              · show (match za_hnd (za_CP (za_cl fM)) fpc ex' (za_hh fM) with
                  | none => none
                  | some none => some (Sum.inr (Sum.inr ex', X2))
                  | some (some hp) => match za_fe (za_is fM) hp with
                    | some (.astore_n k) => bif Nat.blt k.val (za_nL fM) then some (Sum.inl (hp + 1, zp_fl clv k.val, [], X2, fcs, fsl)) else none
                    | some (.astore k) => bif Nat.blt k (za_nL fM) then some (Sum.inl (hp + 2, zp_fl clv k, [], X2, fcs, fsl)) else none
                    | _ => none) = _
                rw [hh]
                dsimp only
                rw [hk]
                dsimp only
                rw [h1]
                rfl
              · exact hrec _ _ _ _ _ _ _ _ _ h τ _ [] X2 fc d hN hH (zk_flA_ok h2 e4) trivial hf hF hni hx (by omega) hb hl
          · cases h
  | [], _ :: _, _, _, h, _, _ => h.elim
  | _ :: _, [], _, _, h, _, _ => h.elim
end KX
