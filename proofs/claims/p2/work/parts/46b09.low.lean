/-! -/
/-- yX7_readHand -/
def ze_e29 : zk_T := (79, [.inr (some (some 52)), .inr (some (some 23))], [(22, 7, 0, 4)], [(22, 7), (51, 4), (51, 5), (52, 2), (52, 3), (52, 4), (52, 5)], [26], [(.inl (some (.inl (0, 0))), [], []), (.inl (some (.inl (1, 1))), [], [])], 5)
theorem zt_e29 : zk_chk zB zB_fz [ze_e26] [(5, [(.inl 2, (-2147483648), 2147483647, false), (.inl 3, 0, 4, false)], [], [], 1, true)] 5000 ze_e29 = true := by decide +kernel
theorem zc_e29 {L : Nat} {σ : Nat → Int32} {gh : zp_H → Int} {J : zp_H → Prop} (hw : zk_W zB gh J zB_fz) (hh : ∀ s ∈ zh_l, zk_Ct L σ zB gh J s) : zk_Ct L σ zB gh J ze_e29 := zk_chk_ok hw (List.forall_mem_cons.mpr ⟨zc_e26 hw hh, fun _ h => absurd h List.not_mem_nil⟩) zt_e29
