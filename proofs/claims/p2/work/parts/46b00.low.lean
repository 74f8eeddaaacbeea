/-! -/
/-- yX1_wrecksNear -/
def ze_e20 : zk_T := (154, [.inr (some (some 61)), .inr (some (some 3)), .inl (0, 63), .inl (0, 7)], [], [], [], [(.inl (some (.inl ((-2147483648), 2147483647))), [], [])], 3)
theorem zt_e20 : zk_chk zB zB_fz [] [(6, [(.inl 4, (-2147483648), 2147483647, false), (.inl 5, 0, 8, false)], [], [], 1, true)] 5000 ze_e20 = true := by decide +kernel
theorem zc_e20 {L : Nat} {σ : Nat → Int32} {gh : zp_H → Int} {J : zp_H → Prop} (hw : zk_W zB gh J zB_fz) (hh : ∀ s ∈ zh_l, zk_Ct L σ zB gh J s) : zk_Ct L σ zB gh J ze_e20 := zk_chk_ok hw (fun _ h => absurd h List.not_mem_nil) zt_e20
