/-! -/
/-- yJ7_fill_53178 -/
def ze_e24 : zk_T := (5, [.inr (some (some 25)), .inl ((-1), (-1))], [], [], [24], [(.inl none, [], [])], 1)
theorem zt_e24 : zk_chk zB zB_fz [] [(5, [(.inl 2, 0, 64, false)], [], [], 0, true)] 5000 ze_e24 = true := by decide +kernel
theorem zc_e24 {L : Nat} {σ : Nat → Int32} {gh : zp_H → Int} {J : zp_H → Prop} (hw : zk_W zB gh J zB_fz) (hh : ∀ s ∈ zh_l, zk_Ct L σ zB gh J s) : zk_Ct L σ zB gh J ze_e24 := zk_chk_ok hw (fun _ h => absurd h List.not_mem_nil) zt_e24
