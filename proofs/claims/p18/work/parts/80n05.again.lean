/-! ===== the reference once more, without the condition on what it reads (printed from the parts above) ===== -/
theorem z0l_kw {L : Nat} {σ : Nat → Int32} {d : Nat} {H : zp_H} (hB : zk_Bs z0R zg zJ H) : ∃ X, zp_Call L σ (d + 3) 177 [.inr (.inr (some 73))] H X ∧ ∃ v : Int32, X = (.inl (some (.inl v)), H) ∧ v.toInt = zg H := by
  have W := zR_Wd (z0R_dn hB)
  refine zw_met zm_177_t rfl rfl ?_
  refine zw_ld (n := 1) (k := 0) (f := zp_isR) (pc' := 1) rfl rfl rfl rfl rfl ?_
  refine zw_gI (q := 72) (pc' := 4) W rfl rfl rfl rfl rfl rfl ?_
  refine zw_s (pc' := 5) rfl rfl ?_
  refine zw_bne2 (g := 17) (pc' := 8) rfl rfl rfl rfl (rfl : _ = (1 : Int)) (fun h1 => ?_) (fun h1 => ?_)
  · refine zw_s (pc' := 18) rfl rfl ?_
    refine zw_ri rfl rfl ?_
    refine ⟨_, rfl, ?_⟩
    unfold zg
    rw [if_pos (Or.inl h1)]
    rfl
  · refine zw_ld (n := 1) (k := 0) (f := zp_isR) (pc' := 9) rfl rfl rfl rfl rfl ?_
    refine zw_gI (q := 72) (pc' := 12) W rfl rfl rfl rfl rfl rfl ?_
    refine zw_s (pc' := 14) rfl rfl ?_
    refine zw_ble2 (g := 19) (pc' := 17) rfl rfl rfl rfl (rfl : _ = (7 : Int)) (fun h2 => ?_) (fun h2 => ?_)
    · refine zw_s (pc' := 20) rfl rfl ?_
      refine zw_st (n := 1) (k := 1) (f := zp_isI) (pc' := 21) rfl rfl rfl rfl rfl ?_
      have hz : zg H = zg_f (H.2.2.1 72 33) 0 (zg_l.drop 0) := by
        unfold zg
        rw [if_neg (by omega)]
        rfl
      rw [hz]
      exact zl_kwL W 21 0 _ rfl (zw_gt rfl rfl rfl) zw_g1
    · refine zw_s (pc' := 18) rfl rfl ?_
      refine zw_ri rfl rfl ?_
      refine ⟨_, rfl, ?_⟩
      unfold zg
      rw [if_pos (Or.inr h2)]
      rfl
theorem z0x_KWt {L : Nat} {σ : Nat → Int32} : z0x_KW L σ := by
  intro d H hB
  obtain ⟨_, c1, v, rfl, c2⟩ := z0l_kw (L := L) (σ := σ) (d := d + 1) hB
  exact ⟨v, c1, c2⟩
/-- as the checker takes it -/
theorem z0l_kwC {L : Nat} {σ : Nat → Int32} {pre : List (Nat × Nat × Int × Int)} {outs : List zk_Oc} (ho : ∀ (H : zp_H) (v : Int32), (∀ f ∈ pre, zk_in (zk_fv zg H f.1 f.2.1) f.2.2) → v.toInt = zg H → ∃ o ∈ outs, zk_oc zg H o (.inl (some (.inl v)), H)) : zk_Ct L σ z0R zg zJ (177, [.inr (some (some 73))], pre, [], [], outs, 4) := by
  intro d hd as H ha hB hp
  have hd : 4 ≤ d := hd
  obtain ⟨d0, rfl⟩ : ∃ d0, d = d0 + 4 := ⟨d - 4, by omega⟩
  match as, ha with
  | [.inr (.inr r)], ha =>
    have h1 : r = some 73 := ha.1
    subst h1
    obtain ⟨v, c1, c2⟩ := z0x_KWt (L := L) (σ := σ) d0 H hB
    exact ⟨_, c1, hB, zk_Fr_r H, ho H v hp c2⟩
theorem z0rc_h0 {L : Nat} {σ : Nat → Int32} : zk_Ct L σ z0R zg zJ zr_h0 := z0l_kwC (fun H v hp hv => ⟨_, List.mem_cons_self, by have h := hp _ List.mem_cons_self; show zk_in v.toInt (0, 3); rw [hv]; exact h, fun f hf => absurd hf List.not_mem_nil, fun f hf => absurd hf List.not_mem_nil⟩)
theorem z0rc_h1 {L : Nat} {σ : Nat → Int32} : zk_Ct L σ z0R zg zJ zr_h1 := z0l_kwC (fun H v hp hv => ⟨_, List.mem_cons_self, by have h := hp _ List.mem_cons_self; show zk_in v.toInt (-1, 15); rw [hv]; exact h, fun f hf => absurd hf List.not_mem_nil, fun f hf => absurd hf List.not_mem_nil⟩)
theorem z0rc_h2 {L : Nat} {σ : Nat → Int32} : zk_Ct L σ z0R zg zJ zr_h2 := z0l_kwC (fun H v hp hv => ⟨_, List.mem_cons_self, by have h := hp _ List.mem_cons_self; show zk_in v.toInt (17, 20); rw [hv]; exact h, fun f hf => absurd hf List.not_mem_nil, fun f hf => absurd hf List.not_mem_nil⟩)
theorem z0rc_h3 {L : Nat} {σ : Nat → Int32} : zk_Ct L σ z0R zg zJ zr_h3 := z0l_kwC (fun H v hp hv => by
  have h := zg_in H
  have h : -1 ≤ zg H ∧ zg H ≤ 20 := h
  have key : ∀ lo hi : Int, lo ≤ zg H ∧ zg H ≤ hi → zk_oc zg H (.inl (some (.inl (lo, hi))), [(72, 100, lo, hi)], []) (.inl (some (.inl v)), H) := by
    intro lo hi hh
    refine ⟨by show zk_in v.toInt (lo, hi); rw [hv]; exact hh, fun f hf => ?_, fun f hf => absurd hf List.not_mem_nil⟩
    rcases List.mem_cons.mp hf with rfl | hf
    · exact hh
    · exact absurd hf List.not_mem_nil
  by_cases h1 : zg H = -1
  · exact ⟨_, List.mem_cons_of_mem _ List.mem_cons_self, key (-1) (-1) ⟨by omega, by omega⟩⟩
  · by_cases h2 : zg H ≤ 3
    · exact ⟨_, List.mem_cons_self, key 0 3 ⟨by omega, by omega⟩⟩
    · exact ⟨_, List.mem_cons_of_mem _ (List.mem_cons_of_mem _ List.mem_cons_self), key 4 20 ⟨by omega, by omega⟩⟩)
