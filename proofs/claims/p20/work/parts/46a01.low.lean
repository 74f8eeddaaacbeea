/-! ===== summaries that the checker shows (printed) ===== -/
/-- yX5_worth -/
def ze_e9 : zk_T := (41, [.inr (some (some 57)), .inr (some (some 3)), .inl (0, 700), .inl (0, 700)], [], [(56, 2)], [58], [(.inl (some (.inl ((-2147483648), 2147483647))), [], [])], 2)
theorem zt_e9 : zk_chk zB zB_fz [] [(8, [(.inl 4, 0, 700, false), (.inr (56, 2), 0, 64, false)], [], [], 0, true)] 5000 ze_e9 = true := by decide +kernel
theorem zc_e9 {L : Nat} {σ : Nat → Int32} {gh : zp_H → Int} {J : zp_H → Prop} (hw : zk_W zB gh J zB_fz) (hh : ∀ s ∈ zh_l, zk_Ct L σ zB gh J s) : zk_Ct L σ zB gh J ze_e9 := zk_chk_ok hw (fun _ h => absurd h List.not_mem_nil) zt_e9
/-- yX5_wayByRules -/
def ze_e10 : zk_T := (40, [.inr (some (some 57)), .inr (some (some 3))], [], [(56, 2)], [58], [(.inl (some (.inl ((-1), 3))), [], [])], 3)
theorem zt_e10 : zk_chk zB zB_fz [ze_e9] [(4, [(.inl 2, 0, 700, false), (.inl 3, 0, 8, false)], [], [], 1, true)] 5000 ze_e10 = true := by decide +kernel
theorem zc_e10 {L : Nat} {σ : Nat → Int32} {gh : zp_H → Int} {J : zp_H → Prop} (hw : zk_W zB gh J zB_fz) (hh : ∀ s ∈ zh_l, zk_Ct L σ zB gh J s) : zk_Ct L σ zB gh J ze_e10 := zk_chk_ok hw (List.forall_mem_cons.mpr ⟨zc_e9 hw hh, fun _ h => absurd h List.not_mem_nil⟩) zt_e10
/-- yX5_sailBy -/
def ze_e11 : zk_T := (35, [.inr (some (some 57)), .inr (some (some 3)), .inl (0, 3), .inr none], [], [(56, 2), (57, 0), (57, 1), (57, 2), (57, 3), (57, 4), (57, 7)], [58, 59], [(.inl none, [], [])], 4)
theorem zt_e11 : zk_chk zB zB_fz [ze_e10, ze_e8, ze_h0] [(27, [(.inl 5, 0, 60, false), (.inr (57, 0), 0, 63, false), (.inr (57, 1), (-2147483648), 2147483647, false), (.inr (57, 2), 0, 4, false)], [], [], 0, true)] 5000 ze_e11 = true := by decide +kernel
theorem zc_e11 {L : Nat} {σ : Nat → Int32} {gh : zp_H → Int} {J : zp_H → Prop} (hw : zk_W zB gh J zB_fz) (hh : ∀ s ∈ zh_l, zk_Ct L σ zB gh J s) : zk_Ct L σ zB gh J ze_e11 := zk_chk_ok hw (List.forall_mem_cons.mpr ⟨zc_e10 hw hh, List.forall_mem_cons.mpr ⟨zc_e8 hw hh, List.forall_mem_cons.mpr ⟨hh _ (List.mem_of_getElem? (i := 0) rfl), fun _ h => absurd h List.not_mem_nil⟩⟩⟩) zt_e11
/-- yX1_lessonOf -/
def ze_e12 : zk_T := (140, [.inr (some (some 61)), .inl (0, 7)], [], [], [], [(.inl (some (.inl (0, 128))), [], [])], 1)
theorem zt_e12 : zk_chk zB zB_fz [] [(15, [(.inl 2, 0, 7, false)], [], [], 0, true)] 5000 ze_e12 = true := by decide +kernel
theorem zc_e12 {L : Nat} {σ : Nat → Int32} {gh : zp_H → Int} {J : zp_H → Prop} (hw : zk_W zB gh J zB_fz) (hh : ∀ s ∈ zh_l, zk_Ct L σ zB gh J s) : zk_Ct L σ zB gh J ze_e12 := zk_chk_ok hw (fun _ h => absurd h List.not_mem_nil) zt_e12
/-- yX1_learn -/
def ze_e13 : zk_T := (139, [.inr (some (some 61)), .inr (some (some 3)), .inr (some (some 14)), .inr (some (some 55))], [], [(54, 0), (54, 1), (54, 2), (54, 3), (54, 4), (54, 5), (54, 6), (54, 7), (60, 0)], [61, 62, 63, 64], [(.inl none, [], [])], 6)
theorem zt_e13 : zk_chk zB zB_fz [ze_e12, ze_e2] [(11, [(.inl 4, 0, 8, false)], [], [], 0, true)] 5000 ze_e13 = true := by decide +kernel
theorem zc_e13 {L : Nat} {σ : Nat → Int32} {gh : zp_H → Int} {J : zp_H → Prop} (hw : zk_W zB gh J zB_fz) (hh : ∀ s ∈ zh_l, zk_Ct L σ zB gh J s) : zk_Ct L σ zB gh J ze_e13 := zk_chk_ok hw (List.forall_mem_cons.mpr ⟨zc_e12 hw hh, List.forall_mem_cons.mpr ⟨zc_e2 hw hh, fun _ h => absurd h List.not_mem_nil⟩⟩) zt_e13
/-- yX1_beginningNear -/
def ze_e14 : zk_T := (142, [.inr (some (some 61)), .inr (some (some 3)), .inl (0, 63)], [], [], [], [(.inl (some (.inl (0, 255))), [], [])], 3)
theorem zt_e14 : zk_chk zB zB_fz [] [(5, [(.inl 3, 0, 255, false), (.inl 4, 0, 8, false)], [], [], 1, true)] 5000 ze_e14 = true := by decide +kernel
theorem zc_e14 {L : Nat} {σ : Nat → Int32} {gh : zp_H → Int} {J : zp_H → Prop} (hw : zk_W zB gh J zB_fz) (hh : ∀ s ∈ zh_l, zk_Ct L σ zB gh J s) : zk_Ct L σ zB gh J ze_e14 := zk_chk_ok hw (fun _ h => absurd h List.not_mem_nil) zt_e14
/-- yX1_putInRow -/
def ze_e15 : zk_T := (146, [.inr (some (some 61)), .inl (0, 255)], [], [], [67], [(.inl (some (.inl (0, 0))), [], []), (.inl (some (.inl (1, 1))), [], [])], 2)
theorem zt_e15 : zk_chk zB zB_fz [ze_h4] [(10, [(.inl 2, 0, 255, false), (.inl 3, 0, 255, false), (.inl 4, 0, 8, false)], [], [], 2, true)] 5000 ze_e15 = true := by decide +kernel
theorem zc_e15 {L : Nat} {σ : Nat → Int32} {gh : zp_H → Int} {J : zp_H → Prop} (hw : zk_W zB gh J zB_fz) (hh : ∀ s ∈ zh_l, zk_Ct L σ zB gh J s) : zk_Ct L σ zB gh J ze_e15 := zk_chk_ok hw (List.forall_mem_cons.mpr ⟨hh _ (List.mem_of_getElem? (i := 4) rfl), fun _ h => absurd h List.not_mem_nil⟩) zt_e15
/-- yX1_rowIsAhead -/
def ze_e16 : zk_T := (148, [.inr (some (some 61)), .inl (0, 8)], [], [], [], [(.inl (some (.inl (1, 1))), [], []), (.inl (some (.inl (0, 0))), [], [])], 1)
theorem zt_e16 : zk_chk zB zB_fz [] [(2, [(.inl 2, 0, 8, false)], [], [], 0, true)] 5000 ze_e16 = true := by decide +kernel
theorem zc_e16 {L : Nat} {σ : Nat → Int32} {gh : zp_H → Int} {J : zp_H → Prop} (hw : zk_W zB gh J zB_fz) (hh : ∀ s ∈ zh_l, zk_Ct L σ zB gh J s) : zk_Ct L σ zB gh J ze_e16 := zk_chk_ok hw (fun _ h => absurd h List.not_mem_nil) zt_e16
/-- yX1_bringsThrough -/
def ze_e17 : zk_T := (149, [.inr (some (some 61)), .inr (some (some 3)), .inr (some (some 57)), .inl (0, 3), .inl (0, 255)], [], [(56, 2), (57, 0), (57, 1), (57, 2), (57, 3), (57, 4), (57, 7)], [58, 59, 65], [(.inl (some (.inl (1, 1))), [], []), (.inl (some (.inl (0, 0))), [], [])], 5)
theorem zt_e17 : zk_chk zB zB_fz [ze_e11] [(9, [(.inl 5, 0, 255, false), (.inl 8, 0, 8, false)], [], [], 1, true)] 5000 ze_e17 = true := by decide +kernel
theorem zc_e17 {L : Nat} {σ : Nat → Int32} {gh : zp_H → Int} {J : zp_H → Prop} (hw : zk_W zB gh J zB_fz) (hh : ∀ s ∈ zh_l, zk_Ct L σ zB gh J s) : zk_Ct L σ zB gh J ze_e17 := zk_chk_ok hw (List.forall_mem_cons.mpr ⟨zc_e11 hw hh, fun _ h => absurd h List.not_mem_nil⟩) zt_e17
