/-! ===== the reference once more, without the condition on what it reads (printed from the parts above) ===== -/
theorem z0rc_h6 {L : Nat} {σ : Nat → Int32} : zk_Ct L σ z0R zg zJ zr_h6 := by
  intro d hd as H ha hB hp
  have hd : 1 ≤ d := hd
  obtain ⟨d0, rfl⟩ : ∃ d0, d = d0 + 1 := ⟨d - 1, by omega⟩
  match as, ha with
  | [.inr (.inr r), .inr (.inr r1), .inr (.inr r2)], ha =>
    obtain ⟨h1, h2, h3, h4⟩ := ha
    have h1 : r = some 73 := h1
    have h2 : r1 = some (98 + 1) := h2
    have h3 : r2 = some (100 + 1) := h3
    subst h1 h2 h3
    have W := zR_Wd (z0R_dn hB)
    have c1 := zc_copies (L := L) (σ := σ) (d := d0) (H := H) (q1 := 98) (q2 := 100) (n := 8) W rfl rfl (by decide) (by decide) rfl
    have f : ∀ p k, p ≠ 100 → (zc_k H 98 100 8).2.1 p k = H.2.1 p k := fun p k h => zc_ne h
    refine ⟨_, c1, ?_, zc_F (zk_Fr_r H) rfl rfl, _, List.mem_cons_self, trivial, fun f hf => absurd hf List.not_mem_nil, fun f hf => absurd hf List.not_mem_nil⟩
    have b0 := z0T_dn hB
    have b1 : zk_Bs zR0 zg zT (zc_k H 98 100 8) := by
      refine ⟨b0.1, b0.2.1, fun q hq => absurd hq List.not_mem_nil, fun q hq => absurd hq List.not_mem_nil, fun p j r hr => Or.inr ?_, fun p t m i r hp hi hr => ?_, fun c hc => absurd hc List.not_mem_nil, trivial⟩
      · rcases b0.2.2.2.2.1 p j r hr with ⟨q, q1, _⟩ | h9
        · exact absurd q1 List.not_mem_nil
        have hp72 : p = 72 := by
          cases hb : Nat.beq 72 p with
          | true => exact (za_beq hb).symm
          | false =>
            have hr : zB_l2 zR_fr p j = some r := hr
            unfold zR_fr zB_l2 at hr
            rw [hb] at hr
            cases hr
        subst hp72
        unfold zk_fv at h9 ⊢
        by_cases h1 : (72 : Nat) = 72 ∧ j = 100
        · rw [if_pos h1]
          obtain ⟨_, e2⟩ := h1
          subst e2
          have e : r = (-1, 20) := (Option.some.inj hr).symm
          rw [e]
          exact zg_in _
        · rw [if_neg h1] at h9 ⊢
          rw [f 72 j (by decide)]
          exact h9
      · by_cases h9 : p = 100
        · subst h9
          have hr : [((-2147483648 : Int), (2147483647 : Int))][i % 1]? = some r := hr
          rw [Nat.mod_one] at hr
          cases hr
          exact ⟨Int32.le_toInt _, Int32.toInt_le _⟩
        · rw [f p i h9]
          exact b0.2.2.2.2.2.1 p t m i r hp hi hr
    refine z0T_up b1 (zJ_c (fun p k hf => f p k ?_) hB.2.2.2.2.2.2.2) ?_
    · rintro rfl
      cases hf
    · unfold z0R_cc
      rw [f 72 23 (by decide), f 72 34 (by decide), f 72 35 (by decide)]
      exact z0R_cn hB
/-- all summaries that were shown by hand -/
theorem z0r_all {L : Nat} {σ : Nat → Int32} : ∀ s ∈ zr_l, zk_Ct L σ z0R zg zJ s := by
  unfold zr_l
  exact List.forall_mem_cons.mpr ⟨z0rc_h0, List.forall_mem_cons.mpr ⟨z0rc_h1, List.forall_mem_cons.mpr ⟨z0rc_h2, List.forall_mem_cons.mpr ⟨z0rc_h3, List.forall_mem_cons.mpr ⟨z0rc_h4, List.forall_mem_cons.mpr ⟨z0rc_h5, List.forall_mem_cons.mpr ⟨z0rc_h6, fun _ h => absurd h List.not_mem_nil⟩⟩⟩⟩⟩⟩⟩
