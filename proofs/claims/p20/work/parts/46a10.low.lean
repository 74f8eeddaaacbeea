/-! ===== summaries that the checker shows (printed) ===== -/
/-- yX3_sailMark -/
def ze_e90 : zk_T := (131, [.inr (some (some 56)), .inr (some (some 23)), .inl (0, 3), .inl ((-2147483648), 2147483647)], [], [(55, 0), (55, 1)], [], [(.inl none, [], [])], 5)
theorem zt_e90 : zk_chk zB zB_fz [ze_e88] [(3, [(.inl 4, 0, 2147483647, false)], [], [], 0, true)] 5000 ze_e90 = true := by decide +kernel
theorem zc_e90 {L : Nat} {σ : Nat → Int32} {gh : zp_H → Int} {J : zp_H → Prop} (hw : zk_W zB gh J zB_fz) (hh : ∀ s ∈ zh_l, zk_Ct L σ zB gh J s) : zk_Ct L σ zB gh J ze_e90 := zk_chk_ok hw (List.forall_mem_cons.mpr ⟨zc_e88 hw hh, fun _ h => absurd h List.not_mem_nil⟩) zt_e90
/-- yX3_cellsBehind -/
def ze_e91 : zk_T := (124, [.inr (some (some 56)), .inr (some (some 23)), .inr (some (some 14)), .inl (0, 7), .inl (0, 8)], [], [(55, 0), (55, 1)], [], [(.inl (some (.inr none)), [], [])], 6)
theorem zt_e91 : zk_chk zB zB_fz [ze_e89, ze_e90] [(65, [(.inl 6, 0, 8, false)], [], [], 0, true)] 5000 ze_e91 = true := by decide +kernel
theorem zc_e91 {L : Nat} {σ : Nat → Int32} {gh : zp_H → Int} {J : zp_H → Prop} (hw : zk_W zB gh J zB_fz) (hh : ∀ s ∈ zh_l, zk_Ct L σ zB gh J s) : zk_Ct L σ zB gh J ze_e91 := zk_chk_ok hw (List.forall_mem_cons.mpr ⟨zc_e89 hw hh, List.forall_mem_cons.mpr ⟨zc_e90 hw hh, fun _ h => absurd h List.not_mem_nil⟩⟩) zt_e91
/-- yX8_knownBy -/
def ze_e92 : zk_T := (23, [.inr (some (some 55)), .inr (some (some 23)), .inr (some (some 14)), .inl ((-2147483648), 2147483647)], [], [(54, 0), (54, 1), (54, 2), (54, 3), (54, 4), (54, 5), (54, 6), (54, 7)], [], [(.inl (some (.inr none)), [], [])], 6)
theorem zt_e92 : zk_chk zB zB_fz [ze_e87] [(6, [(.inl 6, 0, 8, false)], [], [], 0, true)] 5000 ze_e92 = true := by decide +kernel
theorem zc_e92 {L : Nat} {σ : Nat → Int32} {gh : zp_H → Int} {J : zp_H → Prop} (hw : zk_W zB gh J zB_fz) (hh : ∀ s ∈ zh_l, zk_Ct L σ zB gh J s) : zk_Ct L σ zB gh J ze_e92 := zk_chk_ok hw (List.forall_mem_cons.mpr ⟨zc_e87 hw hh, fun _ h => absurd h List.not_mem_nil⟩) zt_e92
/-- yX5_lookAround -/
def ze_e93 : zk_T := (38, [.inr (some (some 57)), .inr (some (some 23)), .inr none], [], [], [59], [(.inl none, [], [])], 3)
theorem zt_e93 : zk_chk zB zB_fz [ze_h2] [(85, [(.inl 4, 0, 4, false)], [], [], 0, true)] 5000 ze_e93 = true := by decide +kernel
theorem zc_e93 {L : Nat} {σ : Nat → Int32} {gh : zp_H → Int} {J : zp_H → Prop} (hw : zk_W zB gh J zB_fz) (hh : ∀ s ∈ zh_l, zk_Ct L σ zB gh J s) : zk_Ct L σ zB gh J ze_e93 := zk_chk_ok hw (List.forall_mem_cons.mpr ⟨hh _ (List.mem_of_getElem? (i := 2) rfl), fun _ h => absurd h List.not_mem_nil⟩) zt_e93
/-- yX5_worth -/
def ze_e94 : zk_T := (41, [.inr (some (some 57)), .inr (some (some 23)), .inl (0, 700), .inl (0, 700)], [], [(56, 2)], [58], [(.inl (some (.inl ((-2147483648), 2147483647))), [], [])], 2)
theorem zt_e94 : zk_chk zB zB_fz [] [(8, [(.inl 4, 0, 700, false), (.inr (56, 2), 0, 64, false)], [], [], 0, true)] 5000 ze_e94 = true := by decide +kernel
theorem zc_e94 {L : Nat} {σ : Nat → Int32} {gh : zp_H → Int} {J : zp_H → Prop} (hw : zk_W zB gh J zB_fz) (hh : ∀ s ∈ zh_l, zk_Ct L σ zB gh J s) : zk_Ct L σ zB gh J ze_e94 := zk_chk_ok hw (fun _ h => absurd h List.not_mem_nil) zt_e94
/-- yX5_wayByRules -/
def ze_e95 : zk_T := (40, [.inr (some (some 57)), .inr (some (some 23))], [], [(56, 2)], [58], [(.inl (some (.inl ((-1), 3))), [], [])], 3)
theorem zt_e95 : zk_chk zB zB_fz [ze_e94] [(4, [(.inl 2, 0, 700, false), (.inl 3, 0, 8, false)], [], [], 1, true)] 5000 ze_e95 = true := by decide +kernel
theorem zc_e95 {L : Nat} {σ : Nat → Int32} {gh : zp_H → Int} {J : zp_H → Prop} (hw : zk_W zB gh J zB_fz) (hh : ∀ s ∈ zh_l, zk_Ct L σ zB gh J s) : zk_Ct L σ zB gh J ze_e95 := zk_chk_ok hw (List.forall_mem_cons.mpr ⟨zc_e94 hw hh, fun _ h => absurd h List.not_mem_nil⟩) zt_e95
/-- yX5_sailBy -/
def ze_e96 : zk_T := (35, [.inr (some (some 57)), .inr (some (some 23)), .inl (0, 3), .inr none], [], [(56, 2), (57, 0), (57, 1), (57, 2), (57, 3), (57, 4), (57, 7)], [58, 59], [(.inl none, [], [])], 4)
theorem zt_e96 : zk_chk zB zB_fz [ze_e93, ze_e95, ze_h2] [(27, [(.inl 5, 0, 60, false), (.inr (57, 0), 0, 63, false), (.inr (57, 1), (-2147483648), 2147483647, false), (.inr (57, 2), 0, 4, false)], [], [], 0, true)] 5000 ze_e96 = true := by decide +kernel
theorem zc_e96 {L : Nat} {σ : Nat → Int32} {gh : zp_H → Int} {J : zp_H → Prop} (hw : zk_W zB gh J zB_fz) (hh : ∀ s ∈ zh_l, zk_Ct L σ zB gh J s) : zk_Ct L σ zB gh J ze_e96 := zk_chk_ok hw (List.forall_mem_cons.mpr ⟨zc_e93 hw hh, List.forall_mem_cons.mpr ⟨zc_e95 hw hh, List.forall_mem_cons.mpr ⟨hh _ (List.mem_of_getElem? (i := 2) rfl), fun _ h => absurd h List.not_mem_nil⟩⟩⟩) zt_e96
/-- yX1_learn -/
def ze_e97 : zk_T := (139, [.inr (some (some 61)), .inr (some (some 23)), .inr (some (some 14)), .inr (some (some 55))], [], [(54, 0), (54, 1), (54, 2), (54, 3), (54, 4), (54, 5), (54, 6), (54, 7), (60, 0)], [61, 62, 63, 64], [(.inl none, [], [])], 6)
theorem zt_e97 : zk_chk zB zB_fz [ze_e12, ze_e87] [(11, [(.inl 4, 0, 8, false)], [], [], 0, true)] 5000 ze_e97 = true := by decide +kernel
theorem zc_e97 {L : Nat} {σ : Nat → Int32} {gh : zp_H → Int} {J : zp_H → Prop} (hw : zk_W zB gh J zB_fz) (hh : ∀ s ∈ zh_l, zk_Ct L σ zB gh J s) : zk_Ct L σ zB gh J ze_e97 := zk_chk_ok hw (List.forall_mem_cons.mpr ⟨zc_e12 hw hh, List.forall_mem_cons.mpr ⟨zc_e87 hw hh, fun _ h => absurd h List.not_mem_nil⟩⟩) zt_e97
/-- yX1_beginningNear -/
def ze_e98 : zk_T := (142, [.inr (some (some 61)), .inr (some (some 23)), .inl (0, 63)], [], [], [], [(.inl (some (.inl (0, 255))), [], [])], 3)
theorem zt_e98 : zk_chk zB zB_fz [] [(5, [(.inl 3, 0, 255, false), (.inl 4, 0, 8, false)], [], [], 1, true)] 5000 ze_e98 = true := by decide +kernel
theorem zc_e98 {L : Nat} {σ : Nat → Int32} {gh : zp_H → Int} {J : zp_H → Prop} (hw : zk_W zB gh J zB_fz) (hh : ∀ s ∈ zh_l, zk_Ct L σ zB gh J s) : zk_Ct L σ zB gh J ze_e98 := zk_chk_ok hw (fun _ h => absurd h List.not_mem_nil) zt_e98
