/-! ===== the reference once more, without the condition on what it reads (printed from the parts above) ===== -/
theorem z0R_W : zk_W z0R zg zJ zR_fz := by
  refine ⟨fun H H' _ h hJ => zJ_c (fun p k hf => (h p k hf).1) hJ, ?_, ?_, ?_, ?_, ?_, ?_, ⟨12, rfl⟩⟩
  · intro H H' h
    have a1 := (h 72 28 rfl).1
    have a2 := (h 72 30 rfl).1
    have a3 := (h 72 33 rfl).2
    unfold zg
    rw [a1, a2, a3]
  · intro H r hr
    have e : r = (-1, 20) := (Option.some.inj hr).symm
    rw [e]
    exact zg_in H
  · intro p k r hr
    have hp : p = 72 := by
      cases hb : Nat.beq 72 p with
      | true => exact (za_beq hb).symm
      | false =>
        have hr : zB_l2 zR_fr p k = some r := hr
        unfold zR_fr zB_l2 at hr
        rw [hb] at hr
        cases hr
    subst hp
    exact ⟨12, rfl⟩
  · intro c hc
    exact absurd hc List.not_mem_nil
  · intro p k h
    have h : (Nat.beq p 72).and _ = true := h
    have e := za_beq (Bool.and_eq_true_iff.mp h).1
    subst e
    exact ⟨12, rfl⟩
  · intro p k t n hp
    have hp : zB_sh[p]? = some (.inr (t, n)) := hp
    unfold zR_fz
    have hk : ∀ k, zk_inm zR_fl p k = false := by
      intro k
      cases hb : zk_inm zR_fl p k with
      | false => rfl
      | true =>
        obtain ⟨q, q1, q2⟩ := List.any_eq_true.mp hb
        have q3 := za_beq (Bool.and_eq_true_iff.mp q2).1
        have q4 : q.1 = 72 := by
          unfold zR_fl at q1
          rcases List.mem_cons.mp q1 with rfl | q1
          · rfl
          · rcases List.mem_cons.mp q1 with rfl | q1
            · rfl
            · rcases List.mem_cons.mp q1 with rfl | q1
              · rfl
              · exact absurd q1 List.not_mem_nil
        rw [← q3, q4] at hp
        cases hp
    rw [hk k, hk 0]
theorem z0R_dn {H : zp_H} (h : zk_Bs z0R zg zJ H) : zk_Bs zR0 zg zJ H := h
def z0R_cc (H : zp_H) : Prop := (H.2.1 72 23).toInt = 0 → ((2 ≤ (H.2.1 72 34).toInt ∧ (H.2.1 72 34).toInt ≤ 8) ∧ 2 ≤ (H.2.1 72 35).toInt ∧ (H.2.1 72 35).toInt ≤ 8) ∨ True
theorem z0R_up {H : zp_H} (h : zk_Bs zR0 zg zJ H) (_ : z0R_cc H) : zk_Bs z0R zg zJ H := h
theorem z0R_cn {H : zp_H} (_ : zk_Bs z0R zg zJ H) : z0R_cc H := fun _ => Or.inr trivial
