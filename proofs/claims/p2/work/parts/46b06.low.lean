/-! -/
/-- yX9_advance -/
def ze_e26 : zk_T := (55, [.inr (some (some 53))], [], [(52, 2), (52, 3), (52, 4), (52, 5)], [], [(.inl none, [], [])], 3)
theorem zt_e26 : zk_chk zB zB_fz [ze_e25, ze_h5] [(0, [(.inr (52, 2), 0, 700, false)], [], [], 0, true)] 5000 ze_e26 = true := by decide +kernel
theorem zc_e26 {L : Nat} {σ : Nat → Int32} {gh : zp_H → Int} {J : zp_H → Prop} (hw : zk_W zB gh J zB_fz) (hh : ∀ s ∈ zh_l, zk_Ct L σ zB gh J s) : zk_Ct L σ zB gh J ze_e26 := zk_chk_ok hw (List.forall_mem_cons.mpr ⟨zc_e25 hw hh, List.forall_mem_cons.mpr ⟨hh _ (List.mem_of_getElem? (i := 5) rfl), fun _ h => absurd h List.not_mem_nil⟩⟩) zt_e26
