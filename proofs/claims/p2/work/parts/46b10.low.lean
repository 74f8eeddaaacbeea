/-! -/
/-- yX7_readPilot -/
def ze_e30 : zk_T := (82, [.inr (some (some 52)), .inr (some (some 23)), .inr (some (some 34))], [(22, 12, 0, 3)], [(22, 12), (51, 4), (51, 5), (52, 2), (52, 3), (52, 4), (52, 5)], [27, 28, 29], [(.inl (some (.inl (0, 0))), [], []), (.inl (some (.inl (1, 1))), [], [])], 5)
theorem zt_e30 : zk_chk zB zB_fz [ze_e26] [(39, [(.inl 5, 0, 255, false), (.inl 6, 0, 9, false)], [], [], 1, true)] 5000 ze_e30 = true := by decide +kernel
theorem zc_e30 {L : Nat} {σ : Nat → Int32} {gh : zp_H → Int} {J : zp_H → Prop} (hw : zk_W zB gh J zB_fz) (hh : ∀ s ∈ zh_l, zk_Ct L σ zB gh J s) : zk_Ct L σ zB gh J ze_e30 := zk_chk_ok hw (List.forall_mem_cons.mpr ⟨zc_e26 hw hh, fun _ h => absurd h List.not_mem_nil⟩) zt_e30
