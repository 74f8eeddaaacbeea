/-! -/
/-- yJ7_fill_d0a16 -/
def ze_e27 : zk_T := (6, [.inr (some (some 26)), .inr none], [], [], [25], [(.inl none, [], [])], 1)
theorem zt_e27 : zk_chk zB zB_fz [] [(6, [(.inl 3, 0, 4, false)], [], [], 0, true)] 5000 ze_e27 = true := by decide +kernel
theorem zc_e27 {L : Nat} {σ : Nat → Int32} {gh : zp_H → Int} {J : zp_H → Prop} (hw : zk_W zB gh J zB_fz) (hh : ∀ s ∈ zh_l, zk_Ct L σ zB gh J s) : zk_Ct L σ zB gh J ze_e27 := zk_chk_ok hw (fun _ h => absurd h List.not_mem_nil) zt_e27
