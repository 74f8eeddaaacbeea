/-! ===== summaries that the checker shows (printed) ===== -/
/-- yX0_rubMarks -/
def ze_e0 : zk_T := (116, [.inr (some (some 14)), .inl (0, 7), .inl ((-2147483648), 2147483647), .inl (0, 100)], [], [], [17], [(.inl none, [], [])], 1)
theorem zt_e0 : zk_chk zB zB_fz [] [(6, [(.inl 4, (-2147483648), 2147483647, false), (.inl 5, 0, 8, false)], [], [], 1, true)] 5000 ze_e0 = true := by decide +kernel
theorem zc_e0 {L : Nat} {σ : Nat → Int32} {gh : zp_H → Int} {J : zp_H → Prop} (hw : zk_W zB gh J zB_fz) (hh : ∀ s ∈ zh_l, zk_Ct L σ zB gh J s) : zk_Ct L σ zB gh J ze_e0 := zk_chk_ok hw (fun _ h => absurd h List.not_mem_nil) zt_e0
/-- yX8_followMark -/
def ze_e1 : zk_T := (28, [.inr (some (some 55)), .inr (some (some 3)), .inl (0, 3), .inl ((-2147483648), 2147483647), .inl (0, 1)], [], [(54, 0), (54, 1), (54, 2), (54, 4), (54, 7)], [], [(.inl none, [], [])], 4)
theorem zt_e1 : zk_chk zB zB_fz [ze_h0] [(3, [(.inl 5, 0, 2147483647, false)], [], [], 0, true)] 5000 ze_e1 = true := by decide +kernel
theorem zc_e1 {L : Nat} {σ : Nat → Int32} {gh : zp_H → Int} {J : zp_H → Prop} (hw : zk_W zB gh J zB_fz) (hh : ∀ s ∈ zh_l, zk_Ct L σ zB gh J s) : zk_Ct L σ zB gh J ze_e1 := zk_chk_ok hw (List.forall_mem_cons.mpr ⟨hh _ (List.mem_of_getElem? (i := 0) rfl), fun _ h => absurd h List.not_mem_nil⟩) zt_e1
/-- yX8_follow -/
def ze_e2 : zk_T := (24, [.inr (some (some 55)), .inr (some (some 3)), .inr (some (some 14)), .inl (0, 7)], [], [(54, 0), (54, 1), (54, 2), (54, 3), (54, 4), (54, 5), (54, 6), (54, 7)], [], [(.inl none, [(54, 2, (-2147483648), 2147483647), (54, 3, 0, 7)], []), (.inl none, [(54, 2, 0, 0), (54, 3, 0, 8)], [])], 5)
theorem zt_e2 : zk_chk zB zB_fz [ze_e1] [(27, [(.inl 5, 0, 8, false), (.inr (54, 0), 0, 63, false), (.inr (54, 1), (-2147483648), 2147483647, false), (.inr (54, 2), (-2147483648), 2147483647, false), (.inr (54, 3), 0, 7, false), (.inr (54, 4), (-2147483648), 2147483647, false)], [], [], 0, true)] 5000 ze_e2 = true := by decide +kernel
theorem zc_e2 {L : Nat} {σ : Nat → Int32} {gh : zp_H → Int} {J : zp_H → Prop} (hw : zk_W zB gh J zB_fz) (hh : ∀ s ∈ zh_l, zk_Ct L σ zB gh J s) : zk_Ct L σ zB gh J ze_e2 := zk_chk_ok hw (List.forall_mem_cons.mpr ⟨zc_e1 hw hh, fun _ h => absurd h List.not_mem_nil⟩) zt_e2
/-- yX10_driven -/
def ze_e3 : zk_T := (130, [.inr (some (some 3)), .inr none], [], [], [], [(.inl (some (.inr none)), [], [])], 2)
theorem zt_e3 : zk_chk zB zB_fz [] [(8, [(.inl 7, 0, 4, false)], [], [], 0, true)] 5000 ze_e3 = true := by decide +kernel
theorem zc_e3 {L : Nat} {σ : Nat → Int32} {gh : zp_H → Int} {J : zp_H → Prop} (hw : zk_W zB gh J zB_fz) (hh : ∀ s ∈ zh_l, zk_Ct L σ zB gh J s) : zk_Ct L σ zB gh J ze_e3 := zk_chk_ok hw (fun _ h => absurd h List.not_mem_nil) zt_e3
/-- yX3_sailAnyhow -/
def ze_e4 : zk_T := (126, [.inr (some (some 56)), .inr (some (some 3))], [], [(55, 0), (55, 1)], [], [(.inl none, [], [])], 5)
theorem zt_e4 : zk_chk zB zB_fz [ze_e3] [(20, [(.inl 10, 0, 4, false)], [], [], 0, true), (40, [(.inl 11, 0, 9, false)], [], [], 0, true)] 5000 ze_e4 = true := by decide +kernel
theorem zc_e4 {L : Nat} {σ : Nat → Int32} {gh : zp_H → Int} {J : zp_H → Prop} (hw : zk_W zB gh J zB_fz) (hh : ∀ s ∈ zh_l, zk_Ct L σ zB gh J s) : zk_Ct L σ zB gh J ze_e4 := zk_chk_ok hw (List.forall_mem_cons.mpr ⟨zc_e3 hw hh, fun _ h => absurd h List.not_mem_nil⟩) zt_e4
/-- yX3_sailMark -/
def ze_e5 : zk_T := (131, [.inr (some (some 56)), .inr (some (some 3)), .inl (0, 3), .inl ((-2147483648), 2147483647)], [], [(55, 0), (55, 1)], [], [(.inl none, [], [])], 5)
theorem zt_e5 : zk_chk zB zB_fz [ze_e3] [(3, [(.inl 4, 0, 2147483647, false)], [], [], 0, true)] 5000 ze_e5 = true := by decide +kernel
theorem zc_e5 {L : Nat} {σ : Nat → Int32} {gh : zp_H → Int} {J : zp_H → Prop} (hw : zk_W zB gh J zB_fz) (hh : ∀ s ∈ zh_l, zk_Ct L σ zB gh J s) : zk_Ct L σ zB gh J ze_e5 := zk_chk_ok hw (List.forall_mem_cons.mpr ⟨zc_e3 hw hh, fun _ h => absurd h List.not_mem_nil⟩) zt_e5
/-- yX3_cellsBehind -/
def ze_e6 : zk_T := (124, [.inr (some (some 56)), .inr (some (some 3)), .inr (some (some 14)), .inl (0, 7), .inl (0, 8)], [], [(55, 0), (55, 1)], [], [(.inl (some (.inr none)), [], [])], 6)
theorem zt_e6 : zk_chk zB zB_fz [ze_e4, ze_e5] [(65, [(.inl 6, 0, 8, false)], [], [], 0, true)] 5000 ze_e6 = true := by decide +kernel
theorem zc_e6 {L : Nat} {σ : Nat → Int32} {gh : zp_H → Int} {J : zp_H → Prop} (hw : zk_W zB gh J zB_fz) (hh : ∀ s ∈ zh_l, zk_Ct L σ zB gh J s) : zk_Ct L σ zB gh J ze_e6 := zk_chk_ok hw (List.forall_mem_cons.mpr ⟨zc_e4 hw hh, List.forall_mem_cons.mpr ⟨zc_e5 hw hh, fun _ h => absurd h List.not_mem_nil⟩⟩) zt_e6
/-- yX8_knownBy -/
def ze_e7 : zk_T := (23, [.inr (some (some 55)), .inr (some (some 3)), .inr (some (some 14)), .inl ((-2147483648), 2147483647)], [], [(54, 0), (54, 1), (54, 2), (54, 3), (54, 4), (54, 5), (54, 6), (54, 7)], [], [(.inl (some (.inr none)), [], [])], 6)
theorem zt_e7 : zk_chk zB zB_fz [ze_e2] [(6, [(.inl 6, 0, 8, false)], [], [], 0, true)] 5000 ze_e7 = true := by decide +kernel
theorem zc_e7 {L : Nat} {σ : Nat → Int32} {gh : zp_H → Int} {J : zp_H → Prop} (hw : zk_W zB gh J zB_fz) (hh : ∀ s ∈ zh_l, zk_Ct L σ zB gh J s) : zk_Ct L σ zB gh J ze_e7 := zk_chk_ok hw (List.forall_mem_cons.mpr ⟨zc_e2 hw hh, fun _ h => absurd h List.not_mem_nil⟩) zt_e7
/-- yX5_lookAround -/
def ze_e8 : zk_T := (38, [.inr (some (some 57)), .inr (some (some 3)), .inr none], [], [], [59], [(.inl none, [], [])], 3)
theorem zt_e8 : zk_chk zB zB_fz [ze_h0] [(85, [(.inl 4, 0, 4, false)], [], [], 0, true)] 5000 ze_e8 = true := by decide +kernel
theorem zc_e8 {L : Nat} {σ : Nat → Int32} {gh : zp_H → Int} {J : zp_H → Prop} (hw : zk_W zB gh J zB_fz) (hh : ∀ s ∈ zh_l, zk_Ct L σ zB gh J s) : zk_Ct L σ zB gh J ze_e8 := zk_chk_ok hw (List.forall_mem_cons.mpr ⟨hh _ (List.mem_of_getElem? (i := 0) rfl), fun _ h => absurd h List.not_mem_nil⟩) zt_e8
