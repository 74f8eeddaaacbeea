/-! -/
/-- yX9_takeNumber -/
def ze_e25 : zk_T := (59, [.inr (some (some 53))], [], [(52, 2), (52, 4), (52, 5)], [], [(.inl none, [], [])], 2)
theorem zt_e25 : zk_chk zB zB_fz [] [(2, [(.inl 1, (-2147483648), 2147483647, false), (.inr (52, 2), 0, 700, false)], [], [], 1, true)] 5000 ze_e25 = true := by decide +kernel
theorem zc_e25 {L : Nat} {σ : Nat → Int32} {gh : zp_H → Int} {J : zp_H → Prop} (hw : zk_W zB gh J zB_fz) (hh : ∀ s ∈ zh_l, zk_Ct L σ zB gh J s) : zk_Ct L σ zB gh J ze_e25 := zk_chk_ok hw (fun _ h => absurd h List.not_mem_nil) zt_e25
