/-! ===== summaries that the checker shows (printed) ===== -/
/-- yX2_readExpr -/
def ze_e144 : zk_T := (85, [.inr (some (some 54)), .inr (some (some 3)), .inl (1, 1)], [], [(52, 2), (52, 3), (52, 4), (52, 5), (53, 1), (53, 2)], [12], [(.inl (some (.inl (0, 0))), [], []), (.inl (some (.inl (1, 1))), [], [])], 38)
theorem zt_e144 : zk_chk zB zB_fz [ze_e143, ze_e26] [(73, [(.inl 3, 0, 700, false)], [], [], 0, true)] 5000 ze_e144 = true := by decide +kernel
theorem zc_e144 {L : Nat} {σ : Nat → Int32} {gh : zp_H → Int} {J : zp_H → Prop} (hw : zk_W zB gh J zB_fz) (hh : ∀ s ∈ zh_l, zk_Ct L σ zB gh J s) : zk_Ct L σ zB gh J ze_e144 := zk_chk_ok hw (List.forall_mem_cons.mpr ⟨zc_e143 hw hh, List.forall_mem_cons.mpr ⟨zc_e26 hw hh, fun _ h => absurd h List.not_mem_nil⟩⟩) zt_e144
/-- yX2_readPart -/
def ze_e145 : zk_T := (94, [.inr (some (some 54)), .inr (some (some 3)), .inl (0, 0)], [], [(52, 2), (52, 3), (52, 4), (52, 5), (53, 1), (53, 2)], [12], [(.inl (some (.inl (1, 1))), [], []), (.inl (some (.inl (0, 0))), [], [])], 39)
theorem zt_e145 : zk_chk zB zB_fz [ze_e144, ze_e26] [] 5000 ze_e145 = true := by decide +kernel
theorem zc_e145 {L : Nat} {σ : Nat → Int32} {gh : zp_H → Int} {J : zp_H → Prop} (hw : zk_W zB gh J zB_fz) (hh : ∀ s ∈ zh_l, zk_Ct L σ zB gh J s) : zk_Ct L σ zB gh J ze_e145 := zk_chk_ok hw (List.forall_mem_cons.mpr ⟨zc_e144 hw hh, List.forall_mem_cons.mpr ⟨zc_e26 hw hh, fun _ h => absurd h List.not_mem_nil⟩⟩) zt_e145
/-- yX2_readProduct -/
def ze_e146 : zk_T := (93, [.inr (some (some 54)), .inr (some (some 3)), .inl (0, 0)], [], [(52, 2), (52, 3), (52, 4), (52, 5), (53, 1), (53, 2)], [12], [(.inl (some (.inl (0, 0))), [], []), (.inl (some (.inl (1, 1))), [], [])], 40)
theorem zt_e146 : zk_chk zB zB_fz [ze_e145, ze_e26] [(13, [(.inl 3, 0, 700, false)], [], [], 0, true)] 5000 ze_e146 = true := by decide +kernel
theorem zc_e146 {L : Nat} {σ : Nat → Int32} {gh : zp_H → Int} {J : zp_H → Prop} (hw : zk_W zB gh J zB_fz) (hh : ∀ s ∈ zh_l, zk_Ct L σ zB gh J s) : zk_Ct L σ zB gh J ze_e146 := zk_chk_ok hw (List.forall_mem_cons.mpr ⟨zc_e145 hw hh, List.forall_mem_cons.mpr ⟨zc_e26 hw hh, fun _ h => absurd h List.not_mem_nil⟩⟩) zt_e146
/-- yX2_readSum -/
def ze_e147 : zk_T := (92, [.inr (some (some 54)), .inr (some (some 3)), .inl (0, 0)], [], [(52, 2), (52, 3), (52, 4), (52, 5), (53, 1), (53, 2)], [12], [(.inl (some (.inl (0, 0))), [], []), (.inl (some (.inl (1, 1))), [], [])], 41)
theorem zt_e147 : zk_chk zB zB_fz [ze_e146, ze_e26] [(13, [(.inl 3, 0, 700, false)], [], [], 0, true)] 5000 ze_e147 = true := by decide +kernel
theorem zc_e147 {L : Nat} {σ : Nat → Int32} {gh : zp_H → Int} {J : zp_H → Prop} (hw : zk_W zB gh J zB_fz) (hh : ∀ s ∈ zh_l, zk_Ct L σ zB gh J s) : zk_Ct L σ zB gh J ze_e147 := zk_chk_ok hw (List.forall_mem_cons.mpr ⟨zc_e146 hw hh, List.forall_mem_cons.mpr ⟨zc_e26 hw hh, fun _ h => absurd h List.not_mem_nil⟩⟩) zt_e147
/-- yX2_readTest -/
def ze_e148 : zk_T := (91, [.inr (some (some 54)), .inr (some (some 3)), .inl (0, 0)], [], [(52, 2), (52, 3), (52, 4), (52, 5), (53, 1), (53, 2)], [12], [(.inl (some (.inl (1, 1))), [], []), (.inl (some (.inl (0, 0))), [], [])], 42)
theorem zt_e148 : zk_chk zB zB_fz [ze_e147, ze_e26] [] 5000 ze_e148 = true := by decide +kernel
theorem zc_e148 {L : Nat} {σ : Nat → Int32} {gh : zp_H → Int} {J : zp_H → Prop} (hw : zk_W zB gh J zB_fz) (hh : ∀ s ∈ zh_l, zk_Ct L σ zB gh J s) : zk_Ct L σ zB gh J ze_e148 := zk_chk_ok hw (List.forall_mem_cons.mpr ⟨zc_e147 hw hh, List.forall_mem_cons.mpr ⟨zc_e26 hw hh, fun _ h => absurd h List.not_mem_nil⟩⟩) zt_e148
/-- yX2_readNot -/
def ze_e149 : zk_T := (89, [.inr (some (some 54)), .inr (some (some 3)), .inl (0, 0)], [], [(52, 2), (52, 3), (52, 4), (52, 5), (53, 1), (53, 2)], [12], [(.inl (some (.inl (0, 0))), [], []), (.inl (some (.inl (1, 1))), [], [])], 43)
theorem zt_e149 : zk_chk zB zB_fz [ze_e148, ze_e26] [(2, [(.inl 3, 0, 7, false)], [], [], 0, true), (65, [(.inl 4, 0, 7, false)], [], [], 0, true)] 5000 ze_e149 = true := by decide +kernel
theorem zc_e149 {L : Nat} {σ : Nat → Int32} {gh : zp_H → Int} {J : zp_H → Prop} (hw : zk_W zB gh J zB_fz) (hh : ∀ s ∈ zh_l, zk_Ct L σ zB gh J s) : zk_Ct L σ zB gh J ze_e149 := zk_chk_ok hw (List.forall_mem_cons.mpr ⟨zc_e148 hw hh, List.forall_mem_cons.mpr ⟨zc_e26 hw hh, fun _ h => absurd h List.not_mem_nil⟩⟩) zt_e149
/-- yX2_readAnd -/
def ze_e150 : zk_T := (88, [.inr (some (some 54)), .inr (some (some 3)), .inl (0, 0)], [], [(52, 2), (52, 3), (52, 4), (52, 5), (53, 1), (53, 2)], [12], [(.inl (some (.inl (0, 0))), [], []), (.inl (some (.inl (1, 1))), [], [])], 44)
theorem zt_e150 : zk_chk zB zB_fz [ze_e149, ze_e26] [(13, [(.inl 3, 0, 700, false)], [], [], 0, true)] 5000 ze_e150 = true := by decide +kernel
theorem zc_e150 {L : Nat} {σ : Nat → Int32} {gh : zp_H → Int} {J : zp_H → Prop} (hw : zk_W zB gh J zB_fz) (hh : ∀ s ∈ zh_l, zk_Ct L σ zB gh J s) : zk_Ct L σ zB gh J ze_e150 := zk_chk_ok hw (List.forall_mem_cons.mpr ⟨zc_e149 hw hh, List.forall_mem_cons.mpr ⟨zc_e26 hw hh, fun _ h => absurd h List.not_mem_nil⟩⟩) zt_e150
/-- yX2_readExpr -/
def ze_e151 : zk_T := (85, [.inr (some (some 54)), .inr (some (some 3)), .inl (0, 0)], [], [(52, 2), (52, 3), (52, 4), (52, 5), (53, 1), (53, 2)], [12], [(.inl (some (.inl (0, 0))), [], []), (.inl (some (.inl (1, 1))), [], [])], 45)
theorem zt_e151 : zk_chk zB zB_fz [ze_e150, ze_e26] [(73, [(.inl 3, 0, 700, false)], [], [], 0, true)] 5000 ze_e151 = true := by decide +kernel
theorem zc_e151 {L : Nat} {σ : Nat → Int32} {gh : zp_H → Int} {J : zp_H → Prop} (hw : zk_W zB gh J zB_fz) (hh : ∀ s ∈ zh_l, zk_Ct L σ zB gh J s) : zk_Ct L σ zB gh J ze_e151 := zk_chk_ok hw (List.forall_mem_cons.mpr ⟨zc_e150 hw hh, List.forall_mem_cons.mpr ⟨zc_e26 hw hh, fun _ h => absurd h List.not_mem_nil⟩⟩) zt_e151
/-- yX7_read -/
def ze_e152 : zk_T := (50, [.inr (some (some 52)), .inl (0, 700), .inr (some (some 3)), .inr (some (some 34))], [], [(2, 0), (2, 1), (2, 2), (2, 3), (2, 7), (2, 9), (2, 10), (2, 11), (2, 12), (2, 16), (33, 0), (33, 7), (51, 2), (51, 3), (51, 4), (51, 5), (52, 1), (52, 2), (52, 3), (52, 4), (52, 5), (53, 1), (53, 2)], [3, 4, 5, 6, 7, 8, 9, 10, 11, 12, 34, 35, 36, 37, 38, 39], [(.inl (some (.inl (0, 0))), [], []), (.inl (some (.inl (1, 1))), [], [])], 48)
theorem zt_e152 : zk_chk zB zB_fz [ze_e104, ze_e105, ze_e106, ze_e107, ze_e108, ze_e151, ze_e26, ze_h1] [(36, [(.inl 4, 0, 800, false), (.inr (2, 7), 0, 5, false), (.inr (2, 9), 0, 63, false), (.inr (2, 10), 0, 9, false), (.inr (2, 11), 0, 7, false), (.inr (2, 12), 0, 4, false), (.inr (2, 16), 0, 8, false), (.inr (33, 0), 0, 8, false), (.inr (51, 2), 0, 1, false), (.inr (51, 3), 0, 1, false), (.inr (53, 1), 0, 700, false)], [], [], 0, true)] 5000 ze_e152 = true := by decide +kernel
theorem zc_e152 {L : Nat} {σ : Nat → Int32} {gh : zp_H → Int} {J : zp_H → Prop} (hw : zk_W zB gh J zB_fz) (hh : ∀ s ∈ zh_l, zk_Ct L σ zB gh J s) : zk_Ct L σ zB gh J ze_e152 := zk_chk_ok hw (List.forall_mem_cons.mpr ⟨zc_e104 hw hh, List.forall_mem_cons.mpr ⟨zc_e105 hw hh, List.forall_mem_cons.mpr ⟨zc_e106 hw hh, List.forall_mem_cons.mpr ⟨zc_e107 hw hh, List.forall_mem_cons.mpr ⟨zc_e108 hw hh, List.forall_mem_cons.mpr ⟨zc_e151 hw hh, List.forall_mem_cons.mpr ⟨zc_e26 hw hh, List.forall_mem_cons.mpr ⟨hh _ (List.mem_of_getElem? (i := 1) rfl), fun _ h => absurd h List.not_mem_nil⟩⟩⟩⟩⟩⟩⟩⟩) zt_e152
