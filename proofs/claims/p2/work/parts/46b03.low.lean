/-! -/
/-- yX6_compare -/
def ze_e23 : zk_T := (164, [.inr (some (some 72)), .inr (some (some 14)), .inl (0, 7), .inl (0, 7)], [], [(71, 0), (71, 1), (71, 2)], [], [(.inl none, [], [])], 3)
theorem zt_e23 : zk_chk zB zB_fz [ze_h6] [(18, [(.inl 4, 0, 8, false), (.inr (71, 0), 0, 8, false), (.inr (71, 1), (-1), 7, false), (.inr (71, 2), (-1), 7, false)], [], [], 0, true), (32, [(.inl 5, 0, 8, false), (.inr (71, 0), 0, 8, false), (.inr (71, 1), (-1), 7, false), (.inr (71, 2), (-1), 7, false)], [], [], 0, true)] 5000 ze_e23 = true := by decide +kernel
theorem zc_e23 {L : Nat} {σ : Nat → Int32} {gh : zp_H → Int} {J : zp_H → Prop} (hw : zk_W zB gh J zB_fz) (hh : ∀ s ∈ zh_l, zk_Ct L σ zB gh J s) : zk_Ct L σ zB gh J ze_e23 := zk_chk_ok hw (List.forall_mem_cons.mpr ⟨hh _ (List.mem_of_getElem? (i := 6) rfl), fun _ h => absurd h List.not_mem_nil⟩) zt_e23
