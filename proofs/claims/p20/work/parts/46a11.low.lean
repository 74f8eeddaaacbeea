/-! ===== summaries that the checker shows (printed) ===== -/
/-- yX1_bringsThrough -/
def ze_e99 : zk_T := (149, [.inr (some (some 61)), .inr (some (some 23)), .inr (some (some 57)), .inl (0, 3), .inl (0, 255)], [], [(56, 2), (57, 0), (57, 1), (57, 2), (57, 3), (57, 4), (57, 7)], [58, 59, 65], [(.inl (some (.inl (1, 1))), [], []), (.inl (some (.inl (0, 0))), [], [])], 5)
theorem zt_e99 : zk_chk zB zB_fz [ze_e96] [(9, [(.inl 5, 0, 255, false), (.inl 8, 0, 8, false)], [], [], 1, true)] 5000 ze_e99 = true := by decide +kernel
theorem zc_e99 {L : Nat} {σ : Nat → Int32} {gh : zp_H → Int} {J : zp_H → Prop} (hw : zk_W zB gh J zB_fz) (hh : ∀ s ∈ zh_l, zk_Ct L σ zB gh J s) : zk_Ct L σ zB gh J ze_e99 := zk_chk_ok hw (List.forall_mem_cons.mpr ⟨zc_e96 hw hh, fun _ h => absurd h List.not_mem_nil⟩) zt_e99
/-- yX1_find -/
def ze_e100 : zk_T := (141, [.inr (some (some 61)), .inr (some (some 23)), .inr (some (some 57)), .inl (0, 3)], [], [(56, 2), (57, 0), (57, 1), (57, 2), (57, 3), (57, 4), (57, 7), (60, 6), (60, 11)], [58, 59, 65, 66, 67, 68, 69], [(.inl (some (.inl ((-1), 8))), [], [])], 6)
theorem zt_e100 : zk_chk zB zB_fz [ze_e15, ze_e16, ze_e18, ze_e98, ze_e99] [(24, [(.inl 4, 0, 8, false)], [], [], 0, true), (64, [(.inl 4, (-1), 8, false), (.inl 5, 0, 9, false)], [], [], 1, true), (82, [(.inl 4, (-1), 8, false), (.inl 6, 0, 256, false)], [], [], 1, true)] 5000 ze_e100 = true := by decide +kernel
theorem zc_e100 {L : Nat} {σ : Nat → Int32} {gh : zp_H → Int} {J : zp_H → Prop} (hw : zk_W zB gh J zB_fz) (hh : ∀ s ∈ zh_l, zk_Ct L σ zB gh J s) : zk_Ct L σ zB gh J ze_e100 := zk_chk_ok hw (List.forall_mem_cons.mpr ⟨zc_e15 hw hh, List.forall_mem_cons.mpr ⟨zc_e16 hw hh, List.forall_mem_cons.mpr ⟨zc_e18 hw hh, List.forall_mem_cons.mpr ⟨zc_e98 hw hh, List.forall_mem_cons.mpr ⟨zc_e99 hw hh, fun _ h => absurd h List.not_mem_nil⟩⟩⟩⟩⟩) zt_e100
/-- yX1_wrecksNear -/
def ze_e101 : zk_T := (154, [.inr (some (some 61)), .inr (some (some 23)), .inl (0, 63), .inl (0, 7)], [], [], [], [(.inl (some (.inl ((-2147483648), 2147483647))), [], [])], 3)
theorem zt_e101 : zk_chk zB zB_fz [] [(6, [(.inl 4, (-2147483648), 2147483647, false), (.inl 5, 0, 8, false)], [], [], 1, true)] 5000 ze_e101 = true := by decide +kernel
theorem zc_e101 {L : Nat} {σ : Nat → Int32} {gh : zp_H → Int} {J : zp_H → Prop} (hw : zk_W zB gh J zB_fz) (hh : ∀ s ∈ zh_l, zk_Ct L σ zB gh J s) : zk_Ct L σ zB gh J ze_e101 := zk_chk_ok hw (fun _ h => absurd h List.not_mem_nil) zt_e101
/-- yX4_weigh -/
def ze_e102 : zk_T := (160, [.inr (some (some 71)), .inr (some (some 23)), .inr (some (some 14)), .inl (0, 7), .inl (0, 4), .inl (0, 4), .inl (1, 7)], [], [(70, 0), (70, 1), (70, 2), (70, 3)], [], [(.inl none, [], [])], 2)
theorem zt_e102 : zk_chk zB zB_fz [] [(6, [(.inl 9, 0, 8, false)], [], [], 0, true)] 5000 ze_e102 = true := by decide +kernel
theorem zc_e102 {L : Nat} {σ : Nat → Int32} {gh : zp_H → Int} {J : zp_H → Prop} (hw : zk_W zB gh J zB_fz) (hh : ∀ s ∈ zh_l, zk_Ct L σ zB gh J s) : zk_Ct L σ zB gh J ze_e102 := zk_chk_ok hw (fun _ h => absurd h List.not_mem_nil) zt_e102
/-- yX4_compare -/
def ze_e103 : zk_T := (159, [.inr (some (some 71)), .inr (some (some 23)), .inr (some (some 14)), .inl (0, 7)], [], [(70, 0), (70, 1), (70, 2), (70, 3)], [], [(.inl none, [], [])], 3)
theorem zt_e103 : zk_chk zB zB_fz [ze_e102] [(23, [(.inl 4, 0, 5, false), (.inr (70, 0), (-2147483648), 2147483647, false), (.inr (70, 1), (-2147483648), 2147483647, false), (.inr (70, 2), (-2147483648), 2147483647, false)], [], [], 0, true), (35, [(.inl 5, 0, 5, false), (.inr (70, 0), (-2147483648), 2147483647, false), (.inr (70, 1), (-2147483648), 2147483647, false), (.inr (70, 2), (-2147483648), 2147483647, false)], [], [], 0, true), (47, [(.inl 6, 1, 8, false), (.inr (70, 0), (-2147483648), 2147483647, false), (.inr (70, 1), (-2147483648), 2147483647, false), (.inr (70, 2), (-2147483648), 2147483647, false)], [], [], 0, true)] 5000 ze_e103 = true := by decide +kernel
theorem zc_e103 {L : Nat} {σ : Nat → Int32} {gh : zp_H → Int} {J : zp_H → Prop} (hw : zk_W zB gh J zB_fz) (hh : ∀ s ∈ zh_l, zk_Ct L σ zB gh J s) : zk_Ct L σ zB gh J ze_e103 := zk_chk_ok hw (List.forall_mem_cons.mpr ⟨zc_e102 hw hh, fun _ h => absurd h List.not_mem_nil⟩) zt_e103
/-- yJ7_fill_53178 -/
def ze_e104 : zk_T := (5, [.inr (some (some 5)), .inl ((-1), (-1))], [], [], [4], [(.inl none, [], [])], 1)
theorem zt_e104 : zk_chk zB zB_fz [] [(5, [(.inl 2, 0, 64, false)], [], [], 0, true)] 5000 ze_e104 = true := by decide +kernel
theorem zc_e104 {L : Nat} {σ : Nat → Int32} {gh : zp_H → Int} {J : zp_H → Prop} (hw : zk_W zB gh J zB_fz) (hh : ∀ s ∈ zh_l, zk_Ct L σ zB gh J s) : zk_Ct L σ zB gh J ze_e104 := zk_chk_ok hw (fun _ h => absurd h List.not_mem_nil) zt_e104
/-- yJ7_fill_d0a16 -/
def ze_e105 : zk_T := (6, [.inr (some (some 6)), .inr none], [], [], [5], [(.inl none, [], [])], 1)
theorem zt_e105 : zk_chk zB zB_fz [] [(6, [(.inl 3, 0, 4, false)], [], [], 0, true)] 5000 ze_e105 = true := by decide +kernel
theorem zc_e105 {L : Nat} {σ : Nat → Int32} {gh : zp_H → Int} {J : zp_H → Prop} (hw : zk_W zB gh J zB_fz) (hh : ∀ s ∈ zh_l, zk_Ct L σ zB gh J s) : zk_Ct L σ zB gh J ze_e105 := zk_chk_ok hw (fun _ h => absurd h List.not_mem_nil) zt_e105
/-- yX7_readSlate -/
def ze_e106 : zk_T := (76, [.inr (some (some 52)), .inr (some (some 3)), .inr (some (some 34))], [(33, 0, 0, 7)], [(33, 0), (51, 4), (51, 5), (52, 2), (52, 3), (52, 4), (52, 5)], [34, 35, 36, 37, 38, 39], [(.inl (some (.inl (0, 0))), [], []), (.inl (some (.inl (1, 1))), [], [])], 5)
theorem zt_e106 : zk_chk zB zB_fz [ze_e26] [(49, [(.inl 6, 0, 8, false)], [], [], 0, true)] 5000 ze_e106 = true := by decide +kernel
theorem zc_e106 {L : Nat} {σ : Nat → Int32} {gh : zp_H → Int} {J : zp_H → Prop} (hw : zk_W zB gh J zB_fz) (hh : ∀ s ∈ zh_l, zk_Ct L σ zB gh J s) : zk_Ct L σ zB gh J ze_e106 := zk_chk_ok hw (List.forall_mem_cons.mpr ⟨zc_e26 hw hh, fun _ h => absurd h List.not_mem_nil⟩) zt_e106
/-- yX7_readHand -/
def ze_e107 : zk_T := (79, [.inr (some (some 52)), .inr (some (some 3))], [(2, 7, 0, 4)], [(2, 7), (51, 4), (51, 5), (52, 2), (52, 3), (52, 4), (52, 5)], [6], [(.inl (some (.inl (0, 0))), [], []), (.inl (some (.inl (1, 1))), [], [])], 5)
theorem zt_e107 : zk_chk zB zB_fz [ze_e26] [(5, [(.inl 2, (-2147483648), 2147483647, false), (.inl 3, 0, 4, false)], [], [], 1, true)] 5000 ze_e107 = true := by decide +kernel
theorem zc_e107 {L : Nat} {σ : Nat → Int32} {gh : zp_H → Int} {J : zp_H → Prop} (hw : zk_W zB gh J zB_fz) (hh : ∀ s ∈ zh_l, zk_Ct L σ zB gh J s) : zk_Ct L σ zB gh J ze_e107 := zk_chk_ok hw (List.forall_mem_cons.mpr ⟨zc_e26 hw hh, fun _ h => absurd h List.not_mem_nil⟩) zt_e107
