/-! ===== summaries that the checker shows (printed) ===== -/
/-- yJ7_fill_53178 -/
def ze_e18 : zk_T := (5, [.inr (some (some 66)), .inl ((-1), (-1))], [], [], [65], [(.inl none, [], [])], 1)
theorem zt_e18 : zk_chk zB zB_fz [] [(5, [(.inl 2, 0, 256, false)], [], [], 0, true)] 5000 ze_e18 = true := by decide +kernel
theorem zc_e18 {L : Nat} {σ : Nat → Int32} {gh : zp_H → Int} {J : zp_H → Prop} (hw : zk_W zB gh J zB_fz) (hh : ∀ s ∈ zh_l, zk_Ct L σ zB gh J s) : zk_Ct L σ zB gh J ze_e18 := zk_chk_ok hw (fun _ h => absurd h List.not_mem_nil) zt_e18
/-- yX1_find -/
def ze_e19 : zk_T := (141, [.inr (some (some 61)), .inr (some (some 3)), .inr (some (some 57)), .inl (0, 3)], [], [(56, 2), (57, 0), (57, 1), (57, 2), (57, 3), (57, 4), (57, 7), (60, 6), (60, 11)], [58, 59, 65, 66, 67, 68, 69], [(.inl (some (.inl ((-1), 8))), [], [])], 6)
theorem zt_e19 : zk_chk zB zB_fz [ze_e14, ze_e15, ze_e16, ze_e17, ze_e18] [(24, [(.inl 4, 0, 8, false)], [], [], 0, true), (64, [(.inl 4, (-1), 8, false), (.inl 5, 0, 9, false)], [], [], 1, true), (82, [(.inl 4, (-1), 8, false), (.inl 6, 0, 256, false)], [], [], 1, true)] 5000 ze_e19 = true := by decide +kernel
theorem zc_e19 {L : Nat} {σ : Nat → Int32} {gh : zp_H → Int} {J : zp_H → Prop} (hw : zk_W zB gh J zB_fz) (hh : ∀ s ∈ zh_l, zk_Ct L σ zB gh J s) : zk_Ct L σ zB gh J ze_e19 := zk_chk_ok hw (List.forall_mem_cons.mpr ⟨zc_e14 hw hh, List.forall_mem_cons.mpr ⟨zc_e15 hw hh, List.forall_mem_cons.mpr ⟨zc_e16 hw hh, List.forall_mem_cons.mpr ⟨zc_e17 hw hh, List.forall_mem_cons.mpr ⟨zc_e18 hw hh, fun _ h => absurd h List.not_mem_nil⟩⟩⟩⟩⟩) zt_e19
/-- yX1_wrecksNear -/
def ze_e20 : zk_T := (154, [.inr (some (some 61)), .inr (some (some 3)), .inl (0, 63), .inl (0, 7)], [], [], [], [(.inl (some (.inl ((-2147483648), 2147483647))), [], [])], 3)
theorem zt_e20 : zk_chk zB zB_fz [] [(6, [(.inl 4, (-2147483648), 2147483647, false), (.inl 5, 0, 8, false)], [], [], 1, true)] 5000 ze_e20 = true := by decide +kernel
theorem zc_e20 {L : Nat} {σ : Nat → Int32} {gh : zp_H → Int} {J : zp_H → Prop} (hw : zk_W zB gh J zB_fz) (hh : ∀ s ∈ zh_l, zk_Ct L σ zB gh J s) : zk_Ct L σ zB gh J ze_e20 := zk_chk_ok hw (fun _ h => absurd h List.not_mem_nil) zt_e20
/-- yX4_weigh -/
def ze_e21 : zk_T := (160, [.inr (some (some 71)), .inr (some (some 3)), .inr (some (some 14)), .inl (0, 7), .inl (0, 4), .inl (0, 4), .inl (1, 7)], [], [(70, 0), (70, 1), (70, 2), (70, 3)], [], [(.inl none, [], [])], 2)
theorem zt_e21 : zk_chk zB zB_fz [] [(6, [(.inl 9, 0, 8, false)], [], [], 0, true)] 5000 ze_e21 = true := by decide +kernel
theorem zc_e21 {L : Nat} {σ : Nat → Int32} {gh : zp_H → Int} {J : zp_H → Prop} (hw : zk_W zB gh J zB_fz) (hh : ∀ s ∈ zh_l, zk_Ct L σ zB gh J s) : zk_Ct L σ zB gh J ze_e21 := zk_chk_ok hw (fun _ h => absurd h List.not_mem_nil) zt_e21
/-- yX4_compare -/
def ze_e22 : zk_T := (159, [.inr (some (some 71)), .inr (some (some 3)), .inr (some (some 14)), .inl (0, 7)], [], [(70, 0), (70, 1), (70, 2), (70, 3)], [], [(.inl none, [], [])], 3)
theorem zt_e22 : zk_chk zB zB_fz [ze_e21] [(23, [(.inl 4, 0, 5, false), (.inr (70, 0), (-2147483648), 2147483647, false), (.inr (70, 1), (-2147483648), 2147483647, false), (.inr (70, 2), (-2147483648), 2147483647, false)], [], [], 0, true), (35, [(.inl 5, 0, 5, false), (.inr (70, 0), (-2147483648), 2147483647, false), (.inr (70, 1), (-2147483648), 2147483647, false), (.inr (70, 2), (-2147483648), 2147483647, false)], [], [], 0, true), (47, [(.inl 6, 1, 8, false), (.inr (70, 0), (-2147483648), 2147483647, false), (.inr (70, 1), (-2147483648), 2147483647, false), (.inr (70, 2), (-2147483648), 2147483647, false)], [], [], 0, true)] 5000 ze_e22 = true := by decide +kernel
theorem zc_e22 {L : Nat} {σ : Nat → Int32} {gh : zp_H → Int} {J : zp_H → Prop} (hw : zk_W zB gh J zB_fz) (hh : ∀ s ∈ zh_l, zk_Ct L σ zB gh J s) : zk_Ct L σ zB gh J ze_e22 := zk_chk_ok hw (List.forall_mem_cons.mpr ⟨zc_e21 hw hh, fun _ h => absurd h List.not_mem_nil⟩) zt_e22
/-- yX6_compare -/
def ze_e23 : zk_T := (164, [.inr (some (some 72)), .inr (some (some 14)), .inl (0, 7), .inl (0, 7)], [], [(71, 0), (71, 1), (71, 2)], [], [(.inl none, [], [])], 3)
theorem zt_e23 : zk_chk zB zB_fz [ze_h6] [(18, [(.inl 4, 0, 8, false), (.inr (71, 0), 0, 8, false), (.inr (71, 1), (-1), 7, false), (.inr (71, 2), (-1), 7, false)], [], [], 0, true), (32, [(.inl 5, 0, 8, false), (.inr (71, 0), 0, 8, false), (.inr (71, 1), (-1), 7, false), (.inr (71, 2), (-1), 7, false)], [], [], 0, true)] 5000 ze_e23 = true := by decide +kernel
theorem zc_e23 {L : Nat} {σ : Nat → Int32} {gh : zp_H → Int} {J : zp_H → Prop} (hw : zk_W zB gh J zB_fz) (hh : ∀ s ∈ zh_l, zk_Ct L σ zB gh J s) : zk_Ct L σ zB gh J ze_e23 := zk_chk_ok hw (List.forall_mem_cons.mpr ⟨hh _ (List.mem_of_getElem? (i := 6) rfl), fun _ h => absurd h List.not_mem_nil⟩) zt_e23
/-- yJ7_fill_53178 -/
def ze_e24 : zk_T := (5, [.inr (some (some 25)), .inl ((-1), (-1))], [], [], [24], [(.inl none, [], [])], 1)
theorem zt_e24 : zk_chk zB zB_fz [] [(5, [(.inl 2, 0, 64, false)], [], [], 0, true)] 5000 ze_e24 = true := by decide +kernel
theorem zc_e24 {L : Nat} {σ : Nat → Int32} {gh : zp_H → Int} {J : zp_H → Prop} (hw : zk_W zB gh J zB_fz) (hh : ∀ s ∈ zh_l, zk_Ct L σ zB gh J s) : zk_Ct L σ zB gh J ze_e24 := zk_chk_ok hw (fun _ h => absurd h List.not_mem_nil) zt_e24
/-- yX9_takeNumber -/
def ze_e25 : zk_T := (59, [.inr (some (some 53))], [], [(52, 2), (52, 4), (52, 5)], [], [(.inl none, [], [])], 2)
theorem zt_e25 : zk_chk zB zB_fz [] [(2, [(.inl 1, (-2147483648), 2147483647, false), (.inr (52, 2), 0, 700, false)], [], [], 1, true)] 5000 ze_e25 = true := by decide +kernel
theorem zc_e25 {L : Nat} {σ : Nat → Int32} {gh : zp_H → Int} {J : zp_H → Prop} (hw : zk_W zB gh J zB_fz) (hh : ∀ s ∈ zh_l, zk_Ct L σ zB gh J s) : zk_Ct L σ zB gh J ze_e25 := zk_chk_ok hw (fun _ h => absurd h List.not_mem_nil) zt_e25
/-- yX9_advance -/
def ze_e26 : zk_T := (55, [.inr (some (some 53))], [], [(52, 2), (52, 3), (52, 4), (52, 5)], [], [(.inl none, [], [])], 3)
theorem zt_e26 : zk_chk zB zB_fz [ze_e25, ze_h5] [(0, [(.inr (52, 2), 0, 700, false)], [], [], 0, true)] 5000 ze_e26 = true := by decide +kernel
theorem zc_e26 {L : Nat} {σ : Nat → Int32} {gh : zp_H → Int} {J : zp_H → Prop} (hw : zk_W zB gh J zB_fz) (hh : ∀ s ∈ zh_l, zk_Ct L σ zB gh J s) : zk_Ct L σ zB gh J ze_e26 := zk_chk_ok hw (List.forall_mem_cons.mpr ⟨zc_e25 hw hh, List.forall_mem_cons.mpr ⟨hh _ (List.mem_of_getElem? (i := 5) rfl), fun _ h => absurd h List.not_mem_nil⟩⟩) zt_e26
