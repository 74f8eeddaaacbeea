/-! ===== both sides beside each other: what a call of one leaves of the other ===== -/
theorem zB_al_n {p : Nat} : ∀ {l : List (Nat × Nat × List (Int × Int))}, (∀ q ∈ l, Nat.beq q.1 p = false) → zB_al l p = (1, [(-2147483648, 2147483647)])
  | [], _ => rfl
  | q :: l, h => by
    unfold zB_al
    rw [h q List.mem_cons_self]
    exact zB_al_n (fun q' h' => h q' (List.mem_cons_of_mem _ h'))
theorem zI_full {p i : Nat} {l : List (Nat × Nat × List (Int × Int))} {r : Int × Int} {x : Int32} (h : zB_al l p = (1, [(-2147483648, 2147483647)])) (hr : (zB_al l p).2[i % (zB_al l p).1]? = some r) : zk_in x.toInt r := by
  rw [h] at hr
  have e : i % 1 = 0 := Nat.mod_one _
  rw [show ((1, [(-2147483648, 2147483647)]) : Nat × List (Int × Int)).2[i % 1]? = ([(-2147483648, 2147483647)] : List (Int × Int))[i % 1]? from rfl, e] at hr
  cases hr
  exact zl_full x
theorem zI_nb {p q : Nat} (h : p ≠ q) : Nat.beq p q = false := by
  cases hb : Nat.beq p q with
  | false => rfl
  | true => exact absurd (za_beq hb) h
theorem zI_ra : zR_ar.all (fun q => (Nat.ble 72 q.1).and (Nat.beq q.1 104).not) = true := by decide +kernel
theorem zI_ba : zB_ar.all (fun q => Nat.blt q.1 72) = true := by decide +kernel
theorem zI_bf : zB_fr.all (fun q => Nat.blt q.1 72) = true := by decide +kernel
theorem zI_rz {p k : Nat} (h : zR_fz p k = true) : 72 ≤ p ∧ p ≠ 104 ∧ ¬ (p = 72 ∧ k = 100) := by
  unfold zR_fz at h
  rcases Bool.or_eq_true_iff.mp h with h | h
  · obtain ⟨q, q1, q2⟩ := List.any_eq_true.mp h
    obtain ⟨q3, q4⟩ := Bool.and_eq_true_iff.mp q2
    have t : zR_fl.all (fun q => (Nat.beq q.1 72).and (Nat.beq q.2 100).not) = true := by decide +kernel
    have t1 := List.all_eq_true.mp t q q1
    obtain ⟨t2, t3⟩ := Bool.and_eq_true_iff.mp t1
    have t2 := za_beq t2
    have q3 := za_beq q3
    have q4 := za_beq q4
    refine ⟨by omega, by omega, ?_⟩
    rintro ⟨_, rfl⟩
    rw [q4] at t3
    cases t3
  · obtain ⟨q, q1, q2⟩ := List.any_eq_true.mp h
    have t : zR_fs.all (fun q => (Nat.blt 72 q).and (Nat.beq q 104).not) = true := by decide +kernel
    have t1 := List.all_eq_true.mp t q q1
    obtain ⟨t2, t3⟩ := Bool.and_eq_true_iff.mp t1
    have t2 := za_blt t2
    have q2 := za_beq q2
    refine ⟨by omega, ?_, by omega⟩
    rintro rfl
    rw [q2] at t3
    cases t3
/-- nothing of the reference is touched -/
def zf_C (H H' : zp_H) : Prop := ∀ p k, 72 ≤ p → p ≠ 104 → ¬ (p = 72 ∧ k = 100) → H'.2.1 p k = H.2.1 p k ∧ H'.2.2.1 p k = H.2.2.1 p k
theorem zI_R {H H' : zp_H} (hR : zk_Bs z0R zg zJ H) (hs : H'.1 = zB_sh) (hr : ∀ p k r, zB_l2 zB_rf p k = some r → H'.2.2.2 p k = r) (hf : zf_C H H') : zk_Bs z0R zg zJ H' := by
  have hfv : ∀ k, k ≠ 100 → zk_fv zg H' 72 k = zk_fv zg H 72 k := by
    intro k hk
    unfold zk_fv
    rw [if_neg (fun h => hk h.2), if_neg (fun h => hk h.2), (hf 72 k (Nat.le_refl _) (by decide) (fun h => hk h.2)).1]
  refine ⟨hs, hr, fun q hq => absurd hq List.not_mem_nil, fun q hq => absurd hq List.not_mem_nil, fun p k r h => Or.inr ?_, fun p t n i r hp hi h => ?_, fun c hc => Or.inr ?_, ?_⟩
  · have hp72 : p = 72 := by
      cases hb : Nat.beq 72 p with
      | true => exact (za_beq hb).symm
      | false =>
        have h : zB_l2 zR_fr p k = some r := h
        unfold zR_fr zB_l2 at h
        rw [hb] at h
        cases h
    subst hp72
    by_cases hk : k = 100
    · subst hk
      have e : r = (-1, 20) := (Option.some.inj h).symm
      rw [e]
      show zk_in (zk_fv zg H' 72 100) _
      unfold zk_fv
      rw [if_pos ⟨rfl, rfl⟩]
      exact zg_in _
    · rcases hR.2.2.2.2.1 72 k r h with ⟨q, q1, _⟩ | h9
      · exact absurd q1 List.not_mem_nil
      · rw [hfv k hk]
        exact h9
  · by_cases hp7 : 72 ≤ p ∧ p ≠ 104
    · rw [(hf p i hp7.1 hp7.2 (by
        rintro ⟨rfl, _⟩
        have hp : zB_sh[72]? = some (.inr (t, n)) := hp
        cases hp)).1]
      exact hR.2.2.2.2.2.1 p t n i r hp hi h
    · refine zI_full (zB_al_n (fun q hq => ?_)) h
      have t1 := List.all_eq_true.mp zI_ra q hq
      obtain ⟨t2, t3⟩ := Bool.and_eq_true_iff.mp t1
      have t2 := za_ble t2
      refine zI_nb ?_
      rintro rfl
      apply hp7
      refine ⟨t2, ?_⟩
      intro e
      rw [e] at t3
      cases t3
  · exact absurd hc List.not_mem_nil
  · exact zJ_c (fun p k hz => by
      obtain ⟨z1, z2, z3⟩ := zI_rz hz
      exact (hf p k z1 z2 z3).1) hR.2.2.2.2.2.2.2
theorem zI_bz {p k : Nat} (h : zB_fz p k = true) : p < 72 := by
  unfold zB_fz at h
  rcases Bool.or_eq_true_iff.mp h with h | h
  · obtain ⟨q, q1, q2⟩ := List.any_eq_true.mp h
    have q3 := za_beq (Bool.and_eq_true_iff.mp q2).1
    have t : zB_fl.all (fun q => Nat.blt q.1 72) = true := by decide +kernel
    have t1 := za_blt (List.all_eq_true.mp t q q1)
    omega
  · obtain ⟨q, q1, q2⟩ := List.any_eq_true.mp h
    have t : zB_fs.all (fun q => Nat.blt q 72) = true := by decide +kernel
    have t1 := za_blt (List.all_eq_true.mp t q q1)
    have q2 := za_beq q2
    omega
theorem zI_B {c : Nat} {H H' : zp_H} (hB : zk_Bs (zB_c c) zg zJc H) (hs : H'.1 = zB_sh) (hf : zf_72 H H') : zk_Bs (zB_c c) zg zJc H' := by
  have hfv : ∀ p k, p < 72 → zk_fv zg H' p k = zk_fv zg H p k := by
    intro p k hp
    unfold zk_fv
    rw [if_neg (fun h => by have := h.1; omega), if_neg (fun h => by have := h.1; omega), (hf.2 p k hp).1]
  refine ⟨hs, fun p k r h => ?_, fun q hq => absurd hq List.not_mem_nil, fun q hq => absurd hq List.not_mem_nil, fun p k r h => Or.inr ?_, fun p t n i r hp hi h => ?_, fun e he => Or.inr ?_, ?_⟩
  · rw [hf.1]
    exact hB.2.1 p k r h
  · obtain ⟨q, q1, q2⟩ := zB_l2_m (show zB_l2 zB_fr p k = some r from h)
    have t1 := za_blt (List.all_eq_true.mp zI_bf q q1)
    rcases hB.2.2.2.2.1 p k r h with ⟨q, q1, _⟩ | h9
    · exact absurd q1 List.not_mem_nil
    rw [hfv p k (by omega)]
    exact h9
  · by_cases hp7 : p < 72
    · rw [(hf.2 p i hp7).1]
      exact hB.2.2.2.2.2.1 p t n i r hp hi h
    · refine zI_full (zB_al_n (fun q hq => ?_)) h
      have t1 := za_blt (List.all_eq_true.mp zI_ba q hq)
      exact zI_nb (by omega)
  · rcases hB.2.2.2.2.2.2.1 e he with ⟨q, q1, _⟩ | h9
    · exact absurd q1 List.not_mem_nil
    have he : e ∈ zB_cd := he
    unfold zB_cd at he
    rcases List.mem_cons.mp he with rfl | he
    · rw [hfv 52 4 (by decide), hfv 52 5 (by decide)]
      exact h9
    · exact absurd he List.not_mem_nil
  · exact zJc_c (fun p k hz => hf.2 p k (zI_bz hz)) hB.2.2.2.2.2.2.2
/-- both sides as they stand between two calls: how the class's references lie; so many times were 20 bytes fed -/
def zI (c t : Nat) (H : zp_H) : Prop := zk_Bs (zB_c c) zg zJc H ∧ zk_Bs z0R zg zJ H ∧ (H.2.1 0 1).toInt = (20 * t : Nat) ∧ (H.2.1 72 22).toInt = (20 * t : Nat) ∧ t ≤ 35 ∧ c < 4
theorem zI_in {mods : List (Nat × Nat)} {am : List Nat} {H H' : zp_H} {p k : Nat} (h : zk_Fr zg mods am H H') (hm : zk_inm mods p k = false) (ha : zk_ina am p = false) (hk : ¬ (p = 72 ∧ k = 100)) : H'.2.1 p k = H.2.1 p k ∧ H'.2.2.1 p k = H.2.2.1 p k := by
  have e := h.2 p k hm ha
  unfold zk_fv at e
  rw [if_neg hk, if_neg hk] at e
  exact ⟨Int32.toInt_inj.mp e.1, e.2⟩
theorem zI_nm {mods : List (Nat × Nat)} {p k : Nat} {P : Nat × Nat → Bool} (h : mods.all P = true) (hn : P (p, k) = false) : zk_inm mods p k = false := by
  cases hb : zk_inm mods p k with
  | false => rfl
  | true =>
    obtain ⟨q, q1, q2⟩ := List.any_eq_true.mp hb
    obtain ⟨q3, q4⟩ := Bool.and_eq_true_iff.mp q2
    have e : q = (p, k) := Prod.ext (za_beq q3) (za_beq q4)
    have h1 := List.all_eq_true.mp h q q1
    rw [e, hn] at h1
    cases h1
theorem zI_na {am : List Nat} {p : Nat} {P : Nat → Bool} (h : am.all P = true) (hn : P p = false) : zk_ina am p = false := by
  cases hb : zk_ina am p with
  | false => rfl
  | true =>
    obtain ⟨q, q1, q2⟩ := List.any_eq_true.mp hb
    have e : q = p := za_beq q2
    have h1 := List.all_eq_true.mp h q q1
    rw [e, hn] at h1
    cases h1
def zI_pc (q : Nat × Nat) : Bool := (Nat.blt q.1 72).and ((Nat.beq q.1 0).and (Nat.beq q.2 1)).not
def zI_ac (q : Nat) : Bool := ((Nat.blt q 72).and (Nat.beq q 0).not).or (Nat.beq q 104)
def zI_mc (e : zk_T) : Bool := (e.2.2.2.1.all zI_pc).and (e.2.2.2.2.1.all zI_ac)
theorem zI_frc {mods : List (Nat × Nat)} {am : List Nat} {H H' : zp_H} (h : zk_Fr zg mods am H H') (hm : mods.all (fun q => Nat.blt q.1 72) = true) (ha : am.all (fun q => (Nat.blt q 72).or (Nat.beq q 104)) = true) : zf_C H H' := by
  intro p k h1 h2 h3
  have b : Nat.blt p 72 = false := by
    cases hb : Nat.blt p 72 with
    | false => rfl
    | true => exact absurd (za_blt hb) (by omega)
  exact zI_in h (zI_nm hm b) (zI_na ha (by
    show (Nat.blt p 72).or (Nat.beq p 104) = false
    rw [b, zI_nb h2]
    rfl)) h3
theorem zI_sub {mods : List (Nat × Nat)} (h : mods.all zI_pc = true) : mods.all (fun q => Nat.blt q.1 72) = true := List.all_eq_true.mpr (fun q hq => (Bool.and_eq_true_iff.mp (List.all_eq_true.mp h q hq)).1)
theorem zI_sua {am : List Nat} (h : am.all zI_ac = true) : am.all (fun q => (Nat.blt q 72).or (Nat.beq q 104)) = true := List.all_eq_true.mpr (fun q hq => by
  rcases Bool.or_eq_true_iff.mp (List.all_eq_true.mp h q hq) with h1 | h1
  · exact Bool.or_eq_true_iff.mpr (Or.inl (Bool.and_eq_true_iff.mp h1).1)
  · exact Bool.or_eq_true_iff.mpr (Or.inr h1))
/-- the refs of the base are among those of the way they lie -/
theorem zI_rf {c : Nat} {H : zp_H} (h : zk_Bs (zB_c c) zg zJc H) : ∀ p k r, zB_l2 zB_rf p k = some r → H.2.2.2 p k = r := (zB_Bc h).2.1
/-- a call of the class that a summary knows -/
theorem zI_C {L : Nat} {σ : Nat → Int32} {d c t : Nat} {H : zp_H} {e : zk_T} {as : List zp_V} (hI : zI c t H) (hct : zk_Ct L σ (zB_c c) zg zJc e) (hm : zI_mc e = true) (hd : e.2.2.2.2.2.2 ≤ d) (ha : za_F2 zk_pv e.2.1 as) (hp : e.2.2.1 = []) : ∃ X, zp_Call L σ d e.1 as H X ∧ zI c t X.2 ∧ ∃ o ∈ e.2.2.2.2.2.1, zk_rv o.1 X.1 := by
  obtain ⟨h1, h2, h3, h4, h5, h6⟩ := hI
  obtain ⟨X, x1, x2, x3, o, o1, o2⟩ := hct d hd as H ha h1 (by rw [hp]; exact fun f hf => absurd hf List.not_mem_nil)
  obtain ⟨m1, m2⟩ := Bool.and_eq_true_iff.mp hm
  have hF := zI_frc x3 (zI_sub m1) (zI_sua m2)
  refine ⟨X, x1, ⟨x2, zI_R h2 x2.1 (zI_rf x2) hF, ?_, ?_, h5, h6⟩, o, o1, o2.1⟩
  · rw [(zI_in x3 (zI_nm m1 rfl) (zI_na m2 rfl) (by decide)).1]
    exact h3
  · rw [(hF 72 22 (by decide) (by decide) (by decide)).1]
    exact h4
def zI_pr (q : Nat × Nat) : Bool := (Nat.ble 72 q.1).and ((Nat.beq q.1 72).and (Nat.beq q.2 22)).not
def zI_ar (q : Nat) : Bool := Nat.blt 72 q
def zI_mr (e : zk_T) : Bool := (e.2.2.2.1.all zI_pr).and (e.2.2.2.2.1.all zI_ar)
theorem zI_af {c t : Nat} {H H' : zp_H} (hI : zI c t H) (hR : zk_Bs z0R zg zJ H') (hf : zf_72 H H') (h22 : (H'.2.1 72 22).toInt = (H.2.1 72 22).toInt) : zI c t H' := by
  obtain ⟨h1, h2, h3, h4, h5, h6⟩ := hI
  exact ⟨zI_B h1 hR.1 hf, hR, by rw [(hf.2 0 1 (by decide)).1]; exact h3, by rw [h22]; exact h4, h5, h6⟩
theorem zI_afF {c t : Nat} {H H' : zp_H} {mods : List (Nat × Nat)} {am : List Nat} (hI : zI c t H) (hR : zk_Bs z0R zg zJ H') (hF : zk_Fr zg mods am H H') (hm : mods.all zI_pr = true) (ha : am.all zI_ar = true) : zI c t H' := by
  refine zI_af hI hR (zf_of hF (List.all_eq_true.mpr (fun q hq => (Bool.and_eq_true_iff.mp (List.all_eq_true.mp hm q hq)).1)) (List.all_eq_true.mpr (fun q hq => ?_))) ?_
  · have h1 := za_blt (List.all_eq_true.mp ha q hq)
    exact Nat.ble_eq_true_of_le (by omega)
  · rw [(zI_in hF (zI_nm hm rfl) (zI_na ha rfl) (by decide)).1]
/-- a call of the reference that a summary knows -/
theorem zI_D {L : Nat} {σ : Nat → Int32} {d c t : Nat} {H : zp_H} {e : zk_T} {as : List zp_V} (hI : zI c t H) (hct : zk_Ct L σ z0R zg zJ e) (hm : zI_mr e = true) (hd : e.2.2.2.2.2.2 ≤ d) (ha : za_F2 zk_pv e.2.1 as) (hp : e.2.2.1 = []) : ∃ X, zp_Call L σ d e.1 as H X ∧ zI c t X.2 ∧ ∃ o ∈ e.2.2.2.2.2.1, zk_rv o.1 X.1 := by
  obtain ⟨X, x1, x2, x3, o, o1, o2⟩ := hct d hd as H ha hI.2.1 (by rw [hp]; exact fun f hf => absurd hf List.not_mem_nil)
  obtain ⟨m1, m2⟩ := Bool.and_eq_true_iff.mp hm
  exact ⟨X, x1, zI_afF hI x2 x3 m1 m2, o, o1, o2.1⟩
/-! what is returned -/
def zI_k (k : Nat) (o : zk_Oc) : Bool := match o.1, k with
  | .inl none, 0 => true
  | .inl (some (.inl _)), 1 => true
  | .inl (some (.inr none)), 2 => true
  | _, _ => false
theorem zI_v0 {outs : List zk_Oc} {x : Option zp_V ⊕ Nat} (h : outs.all (zI_k 0) = true) (hx : ∃ o ∈ outs, zk_rv o.1 x) : x = .inl none := by
  obtain ⟨o, o1, o2⟩ := hx
  have h1 := List.all_eq_true.mp h o o1
  obtain ⟨o, _⟩ := o
  match o, x, o2, h1 with
  | .inl none, .inl none, _, _ => rfl
theorem zI_v1 {outs : List zk_Oc} {x : Option zp_V ⊕ Nat} (h : outs.all (zI_k 1) = true) (hx : ∃ o ∈ outs, zk_rv o.1 x) : ∃ v, x = .inl (some (.inl v)) := by
  obtain ⟨o, o1, o2⟩ := hx
  have h1 := List.all_eq_true.mp h o o1
  obtain ⟨o, _⟩ := o
  match o, x, o2, h1 with
  | .inl (some (.inl r)), .inl (some (.inl v)), _, _ => exact ⟨v, rfl⟩
theorem zI_v2 {outs : List zk_Oc} {x : Option zp_V ⊕ Nat} (h : outs.all (zI_k 2) = true) (hx : ∃ o ∈ outs, zk_rv o.1 x) : ∃ v, x = .inl (some (.inr (.inl v))) := by
  obtain ⟨o, o1, o2⟩ := hx
  have h1 := List.all_eq_true.mp h o o1
  obtain ⟨o, _⟩ := o
  match o, x, o2, h1 with
  | .inl (some (.inr none)), .inl (some (.inr (.inl v))), _, _ => exact ⟨v, rfl⟩
