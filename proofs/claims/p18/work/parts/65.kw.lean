/-! ===== the reference: the word at hand ===== -/
theorem zl_cmp {x y : Int64} : (lg_cmp x y).toInt = 0 ↔ x = y := by
  unfold lg_cmp
  constructor
  · intro h
    by_cases h1 : x > y
    · rw [if_pos h1] at h
      cases h
    · rw [if_neg h1] at h
      by_cases h2 : x = y
      · exact h2
      · rw [if_neg h2] at h
        cases h
  · intro h
    subst h
    rw [if_neg (show ¬ x > x from Int64.lt_irrefl), if_pos rfl]
    rfl
theorem zl_oi {k : Nat} (h : k < 1000) : (Int32.ofInt (k : Int)).toInt = (k : Int) := by
  rw [Int32.toInt_ofInt]
  have e : ((Int32.size : Nat) : Int) = 4294967296 := rfl
  exact Int.bmod_eq_of_le (by omega) (by omega)
theorem zl_o1 {k : Nat} (h : k < 900) : Int32.ofInt (k : Int) + Int32.ofInt 1 = Int32.ofInt ((k + 1 : Nat) : Int) := by
  refine Int32.toInt_inj.mp ?_
  have h9 : k < 1000 := by omega
  rw [zw_p1 (by rw [zl_oi h9]; omega), zl_oi h9, zl_oi (k := k + 1) (by omega)]
  omega
theorem zl_kwL {L : Nat} {σ : Nat → Int32} {d : Nat} {H : zp_H} (W : zw_W H) : ∀ (n k : Nat) (lv : zp_LV), k + n = 21 → zp_get lv 0 = some (.inr (.inr (some 73))) → zp_get lv 1 = some (.inl (Int32.ofInt (k : Int))) → zs_Safe L σ (fun X : zp_X => ∃ v : Int32, X = (.inl (some (.inl v)), H) ∧ v.toInt = zg_f (H.2.2.1 72 33) k (zg_l.drop k)) zm_177 [] (d + 2) (21, lv, [], H, (0, 0)) := by
  intro n
  induction n with
  | zero =>
    intro k lv hk l0 l1
    have e0 := zl_oi (k := k) (by omega)
    refine zw_ld (n := 1) (k := 1) (f := zp_isI) (pc' := 22) rfl rfl l1 rfl rfl ?_
    refine zw_s (pc' := 24) rfl rfl ?_
    refine zw_bge2 (g := 47) (pc' := 27) rfl rfl rfl rfl (rfl : _ = (21 : Int)) (fun hb => ?_) (fun hb => ?_)
    · refine zw_s (pc' := 48) rfl rfl ?_
      refine zw_ri rfl rfl ?_
      refine ⟨_, rfl, ?_⟩
      have e : k = 21 := by omega
      subst e
      rfl
    · omega
  | succ n ih =>
    intro k lv hk l0 l1
    have e0 := zl_oi (k := k) (by omega)
    have hl : k < zg_l.length := by
      have e : zg_l.length = 21 := rfl
      omega
    have hd : zg_l.drop k = zg_l[k] :: zg_l.drop (k + 1) := List.drop_eq_getElem_cons hl
    have hC := zl_letters (L := L) (σ := σ) (d := d) (H := H) k zg_l[k] (List.getElem?_eq_getElem hl)
    have hz : zg_f (H.2.2.1 72 33) k (zg_l.drop k) = (if zg_l[k] = H.2.2.1 72 33 then (k : Int) else zg_f (H.2.2.1 72 33) (k + 1) (zg_l.drop (k + 1))) := by
      rw [hd]
      rfl
    refine zw_ld (n := 1) (k := 1) (f := zp_isI) (pc' := 22) rfl rfl l1 rfl rfl ?_
    refine zw_s (pc' := 24) rfl rfl ?_
    refine zw_bge2 (g := 47) (pc' := 27) rfl rfl rfl rfl (rfl : _ = (21 : Int)) (fun hb => ?_) (fun hb => ?_)
    · omega
    · refine zw_ld (n := 1) (k := 1) (f := zp_isI) (pc' := 28) rfl rfl l1 rfl rfl ?_
      refine zw_c (pc' := 31) (zw_cs (Y := zm_178) rfl rfl zm_178_t) rfl rfl rfl rfl rfl (hC) ?_
      refine zw_ld (n := 1) (k := 0) (f := zp_isR) (pc' := 32) rfl rfl l0 rfl rfl ?_
      refine zw_gL (q := 72) (pc' := 35) W rfl rfl rfl rfl rfl ?_
      refine zw_s (pc' := 36) rfl rfl ?_
      refine zw_bne1 (g := 41) (pc' := 39) rfl rfl rfl rfl (fun hc => ?_) (fun hc => ?_)
      · have hc : zg_l[k] ≠ H.2.2.1 72 33 := fun h9 => hc (zl_cmp.mpr h9)
        refine zw_iiy (pc' := 44) rfl l1 rfl rfl (zl_o1 (k := k) (by omega)) ?_
        refine zw_s (pc' := 21) rfl rfl ?_
        rw [hz, if_neg hc]
        exact ih (k + 1) _ (by omega) (zw_gt l0 rfl rfl) zw_g1
      · have hc := zl_cmp.mp hc
        refine zw_ld (n := 1) (k := 1) (f := zp_isI) (pc' := 40) rfl rfl l1 rfl rfl ?_
        refine zw_ri rfl rfl ?_
        refine ⟨_, rfl, ?_⟩
        rw [hz, if_pos hc]
        exact e0

theorem zl_kw {L : Nat} {σ : Nat → Int32} {d : Nat} {H : zp_H} (hB : zk_Bs zR zg zJ H) : ∃ X, zp_Call L σ (d + 3) 177 [.inr (.inr (some 73))] H X ∧ ∃ v : Int32, X = (.inl (some (.inl v)), H) ∧ v.toInt = zg H := by
  have W := zR_Wd (zR_dn hB)
  refine zw_met zm_177_t rfl rfl ?_
  refine zw_ld (n := 1) (k := 0) (f := zp_isR) (pc' := 1) rfl rfl rfl rfl rfl ?_
  refine zw_gI (q := 72) (pc' := 4) W rfl rfl rfl rfl rfl rfl ?_
  refine zw_s (pc' := 5) rfl rfl ?_
  refine zw_bne2 (g := 17) (pc' := 8) rfl rfl rfl rfl (rfl : _ = (1 : Int)) (fun h1 => ?_) (fun h1 => ?_)
  · refine zw_s (pc' := 18) rfl rfl ?_
    refine zw_ri rfl rfl ?_
    refine ⟨_, rfl, ?_⟩
    unfold zg
    rw [if_pos (Or.inl h1)]
    rfl
  · refine zw_ld (n := 1) (k := 0) (f := zp_isR) (pc' := 9) rfl rfl rfl rfl rfl ?_
    refine zw_gI (q := 72) (pc' := 12) W rfl rfl rfl rfl rfl rfl ?_
    refine zw_s (pc' := 14) rfl rfl ?_
    refine zw_ble2 (g := 19) (pc' := 17) rfl rfl rfl rfl (rfl : _ = (7 : Int)) (fun h2 => ?_) (fun h2 => ?_)
    · refine zw_s (pc' := 20) rfl rfl ?_
      refine zw_st (n := 1) (k := 1) (f := zp_isI) (pc' := 21) rfl rfl rfl rfl rfl ?_
      have hz : zg H = zg_f (H.2.2.1 72 33) 0 (zg_l.drop 0) := by
        unfold zg
        rw [if_neg (by omega)]
        rfl
      rw [hz]
      exact zl_kwL W 21 0 _ rfl (zw_gt rfl rfl rfl) zw_g1
    · refine zw_s (pc' := 18) rfl rfl ?_
      refine zw_ri rfl rfl ?_
      refine ⟨_, rfl, ?_⟩
      unfold zg
      rw [if_pos (Or.inr h2)]
      rfl

theorem zx_KWt {L : Nat} {σ : Nat → Int32} : zx_KW L σ := by
  intro d H hB
  obtain ⟨_, c1, v, rfl, c2⟩ := zl_kw (L := L) (σ := σ) (d := d + 1) hB
  exact ⟨v, c1, c2⟩
/-- as the checker takes it -/
theorem zl_kwC {L : Nat} {σ : Nat → Int32} {pre : List (Nat × Nat × Int × Int)} {outs : List zk_Oc} (ho : ∀ (H : zp_H) (v : Int32), (∀ f ∈ pre, zk_in (zk_fv zg H f.1 f.2.1) f.2.2) → v.toInt = zg H → ∃ o ∈ outs, zk_oc zg H o (.inl (some (.inl v)), H)) : zk_Ct L σ zR zg zJ (177, [.inr (some (some 73))], pre, [], [], outs, 4) := by
  intro d hd as H ha hB hp
  have hd : 4 ≤ d := hd
  obtain ⟨d0, rfl⟩ : ∃ d0, d = d0 + 4 := ⟨d - 4, by omega⟩
  match as, ha with
  | [.inr (.inr r)], ha =>
    have h1 : r = some 73 := ha.1
    subst h1
    obtain ⟨v, c1, c2⟩ := zx_KWt (L := L) (σ := σ) d0 H hB
    exact ⟨_, c1, hB, zk_Fr_r H, ho H v hp c2⟩
theorem zrc_h0 {L : Nat} {σ : Nat → Int32} : zk_Ct L σ zR zg zJ zr_h0 := zl_kwC (fun H v hp hv => ⟨_, List.mem_cons_self, by have h := hp _ List.mem_cons_self; show zk_in v.toInt (0, 3); rw [hv]; exact h, fun f hf => absurd hf List.not_mem_nil, fun f hf => absurd hf List.not_mem_nil⟩)
theorem zrc_h1 {L : Nat} {σ : Nat → Int32} : zk_Ct L σ zR zg zJ zr_h1 := zl_kwC (fun H v hp hv => ⟨_, List.mem_cons_self, by have h := hp _ List.mem_cons_self; show zk_in v.toInt (-1, 15); rw [hv]; exact h, fun f hf => absurd hf List.not_mem_nil, fun f hf => absurd hf List.not_mem_nil⟩)
theorem zrc_h2 {L : Nat} {σ : Nat → Int32} : zk_Ct L σ zR zg zJ zr_h2 := zl_kwC (fun H v hp hv => ⟨_, List.mem_cons_self, by have h := hp _ List.mem_cons_self; show zk_in v.toInt (17, 20); rw [hv]; exact h, fun f hf => absurd hf List.not_mem_nil, fun f hf => absurd hf List.not_mem_nil⟩)
theorem zrc_h3 {L : Nat} {σ : Nat → Int32} : zk_Ct L σ zR zg zJ zr_h3 := zl_kwC (fun H v hp hv => by
  have h := zg_in H
  have h : -1 ≤ zg H ∧ zg H ≤ 20 := h
  have key : ∀ lo hi : Int, lo ≤ zg H ∧ zg H ≤ hi → zk_oc zg H (.inl (some (.inl (lo, hi))), [(72, 100, lo, hi)], []) (.inl (some (.inl v)), H) := by
    intro lo hi hh
    refine ⟨by show zk_in v.toInt (lo, hi); rw [hv]; exact hh, fun f hf => ?_, fun f hf => absurd hf List.not_mem_nil⟩
    rcases List.mem_cons.mp hf with rfl | hf
    · exact hh
    · exact absurd hf List.not_mem_nil
  by_cases h1 : zg H = -1
  · exact ⟨_, List.mem_cons_of_mem _ List.mem_cons_self, key (-1) (-1) ⟨by omega, by omega⟩⟩
  · by_cases h2 : zg H ≤ 3
    · exact ⟨_, List.mem_cons_self, key 0 3 ⟨by omega, by omega⟩⟩
    · exact ⟨_, List.mem_cons_of_mem _ (List.mem_cons_of_mem _ List.mem_cons_self), key 4 20 ⟨by omega, by omega⟩⟩)
