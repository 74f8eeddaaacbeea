/-! -/
/-- yX4_weigh -/
def ze_e21 : zk_T := (160, [.inr (some (some 71)), .inr (some (some 3)), .inr (some (some 14)), .inl (0, 7), .inl (0, 4), .inl (0, 4), .inl (1, 7)], [], [(70, 0), (70, 1), (70, 2), (70, 3)], [], [(.inl none, [], [])], 2)
theorem zt_e21 : zk_chk zB zB_fz [] [(6, [(.inl 9, 0, 8, false)], [], [], 0, true)] 5000 ze_e21 = true := by decide +kernel
theorem zc_e21 {L : Nat} {σ : Nat → Int32} {gh : zp_H → Int} {J : zp_H → Prop} (hw : zk_W zB gh J zB_fz) (hh : ∀ s ∈ zh_l, zk_Ct L σ zB gh J s) : zk_Ct L σ zB gh J ze_e21 := zk_chk_ok hw (fun _ h => absurd h List.not_mem_nil) zt_e21
