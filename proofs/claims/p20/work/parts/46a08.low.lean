/-! ===== summaries that the checker shows (printed) ===== -/
/-- yX2_readAnd -/
def ze_e72 : zk_T := (88, [.inr (some (some 54)), .inr (some (some 23)), .inl (0, 0)], [], [(52, 2), (52, 3), (52, 4), (52, 5), (53, 1), (53, 2)], [32], [(.inl (some (.inl (0, 0))), [], []), (.inl (some (.inl (1, 1))), [], [])], 44)
theorem zt_e72 : zk_chk zB zB_fz [ze_e26, ze_e71] [(13, [(.inl 3, 0, 700, false)], [], [], 0, true)] 5000 ze_e72 = true := by decide +kernel
theorem zc_e72 {L : Nat} {σ : Nat → Int32} {gh : zp_H → Int} {J : zp_H → Prop} (hw : zk_W zB gh J zB_fz) (hh : ∀ s ∈ zh_l, zk_Ct L σ zB gh J s) : zk_Ct L σ zB gh J ze_e72 := zk_chk_ok hw (List.forall_mem_cons.mpr ⟨zc_e26 hw hh, List.forall_mem_cons.mpr ⟨zc_e71 hw hh, fun _ h => absurd h List.not_mem_nil⟩⟩) zt_e72
/-- yX2_readExpr -/
def ze_e73 : zk_T := (85, [.inr (some (some 54)), .inr (some (some 23)), .inl (0, 0)], [], [(52, 2), (52, 3), (52, 4), (52, 5), (53, 1), (53, 2)], [32], [(.inl (some (.inl (0, 0))), [], []), (.inl (some (.inl (1, 1))), [], [])], 45)
theorem zt_e73 : zk_chk zB zB_fz [ze_e26, ze_e72] [(73, [(.inl 3, 0, 700, false)], [], [], 0, true)] 5000 ze_e73 = true := by decide +kernel
theorem zc_e73 {L : Nat} {σ : Nat → Int32} {gh : zp_H → Int} {J : zp_H → Prop} (hw : zk_W zB gh J zB_fz) (hh : ∀ s ∈ zh_l, zk_Ct L σ zB gh J s) : zk_Ct L σ zB gh J ze_e73 := zk_chk_ok hw (List.forall_mem_cons.mpr ⟨zc_e26 hw hh, List.forall_mem_cons.mpr ⟨zc_e72 hw hh, fun _ h => absurd h List.not_mem_nil⟩⟩) zt_e73
/-- yX7_read -/
def ze_e74 : zk_T := (50, [.inr (some (some 52)), .inl (0, 700), .inr (some (some 23)), .inr (some (some 34))], [], [(22, 0), (22, 1), (22, 2), (22, 3), (22, 7), (22, 9), (22, 10), (22, 11), (22, 12), (22, 16), (33, 0), (33, 7), (51, 2), (51, 3), (51, 4), (51, 5), (52, 1), (52, 2), (52, 3), (52, 4), (52, 5), (53, 1), (53, 2)], [23, 24, 25, 26, 27, 28, 29, 30, 31, 32, 34, 35, 36, 37, 38, 39], [(.inl (some (.inl (0, 0))), [], []), (.inl (some (.inl (1, 1))), [], [])], 48)
theorem zt_e74 : zk_chk zB zB_fz [ze_e24, ze_e26, ze_e27, ze_e28, ze_e29, ze_e30, ze_e73, ze_h3] [(36, [(.inl 4, 0, 800, false), (.inr (22, 7), 0, 5, false), (.inr (22, 9), 0, 63, false), (.inr (22, 10), 0, 9, false), (.inr (22, 11), 0, 7, false), (.inr (22, 12), 0, 4, false), (.inr (22, 16), 0, 8, false), (.inr (33, 0), 0, 8, false), (.inr (51, 2), 0, 1, false), (.inr (51, 3), 0, 1, false), (.inr (53, 1), 0, 700, false)], [], [], 0, true)] 5000 ze_e74 = true := by decide +kernel
theorem zc_e74 {L : Nat} {σ : Nat → Int32} {gh : zp_H → Int} {J : zp_H → Prop} (hw : zk_W zB gh J zB_fz) (hh : ∀ s ∈ zh_l, zk_Ct L σ zB gh J s) : zk_Ct L σ zB gh J ze_e74 := zk_chk_ok hw (List.forall_mem_cons.mpr ⟨zc_e24 hw hh, List.forall_mem_cons.mpr ⟨zc_e26 hw hh, List.forall_mem_cons.mpr ⟨zc_e27 hw hh, List.forall_mem_cons.mpr ⟨zc_e28 hw hh, List.forall_mem_cons.mpr ⟨zc_e29 hw hh, List.forall_mem_cons.mpr ⟨zc_e30 hw hh, List.forall_mem_cons.mpr ⟨zc_e73 hw hh, List.forall_mem_cons.mpr ⟨hh _ (List.mem_of_getElem? (i := 3) rfl), fun _ h => absurd h List.not_mem_nil⟩⟩⟩⟩⟩⟩⟩⟩) zt_e74
/-- yX0_rubMarks -/
def ze_e75 : zk_T := (116, [.inr (some (some 34)), .inl (0, 7), .inl ((-2147483648), 2147483647), .inl (0, 100)], [], [], [37], [(.inl none, [], [])], 1)
theorem zt_e75 : zk_chk zB zB_fz [] [(6, [(.inl 4, (-2147483648), 2147483647, false), (.inl 5, 0, 8, false)], [], [], 1, true)] 5000 ze_e75 = true := by decide +kernel
theorem zc_e75 {L : Nat} {σ : Nat → Int32} {gh : zp_H → Int} {J : zp_H → Prop} (hw : zk_W zB gh J zB_fz) (hh : ∀ s ∈ zh_l, zk_Ct L σ zB gh J s) : zk_Ct L σ zB gh J ze_e75 := zk_chk_ok hw (fun _ h => absurd h List.not_mem_nil) zt_e75
/-- yX8_follow -/
def ze_e76 : zk_T := (24, [.inr (some (some 55)), .inr (some (some 3)), .inr (some (some 34)), .inl (0, 7)], [], [(54, 0), (54, 1), (54, 2), (54, 3), (54, 4), (54, 5), (54, 6), (54, 7)], [], [(.inl none, [(54, 2, (-2147483648), 2147483647), (54, 3, 0, 7)], []), (.inl none, [(54, 2, 0, 0), (54, 3, 0, 8)], [])], 5)
theorem zt_e76 : zk_chk zB zB_fz [ze_e1] [(27, [(.inl 5, 0, 8, false), (.inr (54, 0), 0, 63, false), (.inr (54, 1), (-2147483648), 2147483647, false), (.inr (54, 2), (-2147483648), 2147483647, false), (.inr (54, 3), 0, 7, false), (.inr (54, 4), (-2147483648), 2147483647, false)], [], [], 0, true)] 5000 ze_e76 = true := by decide +kernel
theorem zc_e76 {L : Nat} {σ : Nat → Int32} {gh : zp_H → Int} {J : zp_H → Prop} (hw : zk_W zB gh J zB_fz) (hh : ∀ s ∈ zh_l, zk_Ct L σ zB gh J s) : zk_Ct L σ zB gh J ze_e76 := zk_chk_ok hw (List.forall_mem_cons.mpr ⟨zc_e1 hw hh, fun _ h => absurd h List.not_mem_nil⟩) zt_e76
/-- yX3_cellsBehind -/
def ze_e77 : zk_T := (124, [.inr (some (some 56)), .inr (some (some 3)), .inr (some (some 34)), .inl (0, 7), .inl (0, 8)], [], [(55, 0), (55, 1)], [], [(.inl (some (.inr none)), [], [])], 6)
theorem zt_e77 : zk_chk zB zB_fz [ze_e4, ze_e5] [(65, [(.inl 6, 0, 8, false)], [], [], 0, true)] 5000 ze_e77 = true := by decide +kernel
theorem zc_e77 {L : Nat} {σ : Nat → Int32} {gh : zp_H → Int} {J : zp_H → Prop} (hw : zk_W zB gh J zB_fz) (hh : ∀ s ∈ zh_l, zk_Ct L σ zB gh J s) : zk_Ct L σ zB gh J ze_e77 := zk_chk_ok hw (List.forall_mem_cons.mpr ⟨zc_e4 hw hh, List.forall_mem_cons.mpr ⟨zc_e5 hw hh, fun _ h => absurd h List.not_mem_nil⟩⟩) zt_e77
/-- yX8_knownBy -/
def ze_e78 : zk_T := (23, [.inr (some (some 55)), .inr (some (some 3)), .inr (some (some 34)), .inl ((-2147483648), 2147483647)], [], [(54, 0), (54, 1), (54, 2), (54, 3), (54, 4), (54, 5), (54, 6), (54, 7)], [], [(.inl (some (.inr none)), [], [])], 6)
theorem zt_e78 : zk_chk zB zB_fz [ze_e76] [(6, [(.inl 6, 0, 8, false)], [], [], 0, true)] 5000 ze_e78 = true := by decide +kernel
theorem zc_e78 {L : Nat} {σ : Nat → Int32} {gh : zp_H → Int} {J : zp_H → Prop} (hw : zk_W zB gh J zB_fz) (hh : ∀ s ∈ zh_l, zk_Ct L σ zB gh J s) : zk_Ct L σ zB gh J ze_e78 := zk_chk_ok hw (List.forall_mem_cons.mpr ⟨zc_e76 hw hh, fun _ h => absurd h List.not_mem_nil⟩) zt_e78
/-- yX1_learn -/
def ze_e79 : zk_T := (139, [.inr (some (some 61)), .inr (some (some 3)), .inr (some (some 34)), .inr (some (some 55))], [], [(54, 0), (54, 1), (54, 2), (54, 3), (54, 4), (54, 5), (54, 6), (54, 7), (60, 0)], [61, 62, 63, 64], [(.inl none, [], [])], 6)
theorem zt_e79 : zk_chk zB zB_fz [ze_e12, ze_e76] [(11, [(.inl 4, 0, 8, false)], [], [], 0, true)] 5000 ze_e79 = true := by decide +kernel
theorem zc_e79 {L : Nat} {σ : Nat → Int32} {gh : zp_H → Int} {J : zp_H → Prop} (hw : zk_W zB gh J zB_fz) (hh : ∀ s ∈ zh_l, zk_Ct L σ zB gh J s) : zk_Ct L σ zB gh J ze_e79 := zk_chk_ok hw (List.forall_mem_cons.mpr ⟨zc_e12 hw hh, List.forall_mem_cons.mpr ⟨zc_e76 hw hh, fun _ h => absurd h List.not_mem_nil⟩⟩) zt_e79
/-- yX4_weigh -/
def ze_e80 : zk_T := (160, [.inr (some (some 71)), .inr (some (some 3)), .inr (some (some 34)), .inl (0, 7), .inl (0, 4), .inl (0, 4), .inl (1, 7)], [], [(70, 0), (70, 1), (70, 2), (70, 3)], [], [(.inl none, [], [])], 2)
theorem zt_e80 : zk_chk zB zB_fz [] [(6, [(.inl 9, 0, 8, false)], [], [], 0, true)] 5000 ze_e80 = true := by decide +kernel
theorem zc_e80 {L : Nat} {σ : Nat → Int32} {gh : zp_H → Int} {J : zp_H → Prop} (hw : zk_W zB gh J zB_fz) (hh : ∀ s ∈ zh_l, zk_Ct L σ zB gh J s) : zk_Ct L σ zB gh J ze_e80 := zk_chk_ok hw (fun _ h => absurd h List.not_mem_nil) zt_e80
