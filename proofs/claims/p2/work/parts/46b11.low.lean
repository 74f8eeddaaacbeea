/-! -/
/-- yX2_readExpr -/
def ze_e31 : zk_T := (85, [.inr (some (some 54)), .inr (some (some 23)), .inl (6, 6)], [], [(53, 2)], [], [(.inl (some (.inl (0, 0))), [], [])], 2)
theorem zt_e31 : zk_chk zB zB_fz [] [] 5000 ze_e31 = true := by decide +kernel
theorem zc_e31 {L : Nat} {σ : Nat → Int32} {gh : zp_H → Int} {J : zp_H → Prop} (hw : zk_W zB gh J zB_fz) (hh : ∀ s ∈ zh_l, zk_Ct L σ zB gh J s) : zk_Ct L σ zB gh J ze_e31 := zk_chk_ok hw (fun _ h => absurd h List.not_mem_nil) zt_e31
