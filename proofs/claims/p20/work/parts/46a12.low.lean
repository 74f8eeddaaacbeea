/-! ===== summaries that the checker shows (printed) ===== -/
/-- yX7_readPilot -/
def ze_e108 : zk_T := (82, [.inr (some (some 52)), .inr (some (some 3)), .inr (some (some 34))], [(2, 12, 0, 3)], [(2, 12), (51, 4), (51, 5), (52, 2), (52, 3), (52, 4), (52, 5)], [7, 8, 9], [(.inl (some (.inl (0, 0))), [], []), (.inl (some (.inl (1, 1))), [], [])], 5)
theorem zt_e108 : zk_chk zB zB_fz [ze_e26] [(39, [(.inl 5, 0, 255, false), (.inl 6, 0, 9, false)], [], [], 1, true)] 5000 ze_e108 = true := by decide +kernel
theorem zc_e108 {L : Nat} {σ : Nat → Int32} {gh : zp_H → Int} {J : zp_H → Prop} (hw : zk_W zB gh J zB_fz) (hh : ∀ s ∈ zh_l, zk_Ct L σ zB gh J s) : zk_Ct L σ zB gh J ze_e108 := zk_chk_ok hw (List.forall_mem_cons.mpr ⟨zc_e26 hw hh, fun _ h => absurd h List.not_mem_nil⟩) zt_e108
/-- yX2_readExpr -/
def ze_e109 : zk_T := (85, [.inr (some (some 54)), .inr (some (some 3)), .inl (6, 6)], [], [(53, 2)], [], [(.inl (some (.inl (0, 0))), [], [])], 2)
theorem zt_e109 : zk_chk zB zB_fz [] [] 5000 ze_e109 = true := by decide +kernel
theorem zc_e109 {L : Nat} {σ : Nat → Int32} {gh : zp_H → Int} {J : zp_H → Prop} (hw : zk_W zB gh J zB_fz) (hh : ∀ s ∈ zh_l, zk_Ct L σ zB gh J s) : zk_Ct L σ zB gh J ze_e109 := zk_chk_ok hw (fun _ h => absurd h List.not_mem_nil) zt_e109
/-- yX2_readPart -/
def ze_e110 : zk_T := (94, [.inr (some (some 54)), .inr (some (some 3)), .inl (5, 5)], [], [(52, 2), (52, 3), (52, 4), (52, 5), (53, 1), (53, 2)], [12], [(.inl (some (.inl (0, 0))), [], []), (.inl (some (.inl (1, 1))), [], [])], 4)
theorem zt_e110 : zk_chk zB zB_fz [ze_e109, ze_e26] [] 5000 ze_e110 = true := by decide +kernel
theorem zc_e110 {L : Nat} {σ : Nat → Int32} {gh : zp_H → Int} {J : zp_H → Prop} (hw : zk_W zB gh J zB_fz) (hh : ∀ s ∈ zh_l, zk_Ct L σ zB gh J s) : zk_Ct L σ zB gh J ze_e110 := zk_chk_ok hw (List.forall_mem_cons.mpr ⟨zc_e109 hw hh, List.forall_mem_cons.mpr ⟨zc_e26 hw hh, fun _ h => absurd h List.not_mem_nil⟩⟩) zt_e110
/-- yX2_readProduct -/
def ze_e111 : zk_T := (93, [.inr (some (some 54)), .inr (some (some 3)), .inl (5, 5)], [], [(52, 2), (52, 3), (52, 4), (52, 5), (53, 1), (53, 2)], [12], [(.inl (some (.inl (0, 0))), [], []), (.inl (some (.inl (1, 1))), [], [])], 5)
theorem zt_e111 : zk_chk zB zB_fz [ze_e110, ze_e26] [(13, [(.inl 3, 0, 700, false)], [], [], 0, true)] 5000 ze_e111 = true := by decide +kernel
theorem zc_e111 {L : Nat} {σ : Nat → Int32} {gh : zp_H → Int} {J : zp_H → Prop} (hw : zk_W zB gh J zB_fz) (hh : ∀ s ∈ zh_l, zk_Ct L σ zB gh J s) : zk_Ct L σ zB gh J ze_e111 := zk_chk_ok hw (List.forall_mem_cons.mpr ⟨zc_e110 hw hh, List.forall_mem_cons.mpr ⟨zc_e26 hw hh, fun _ h => absurd h List.not_mem_nil⟩⟩) zt_e111
/-- yX2_readSum -/
def ze_e112 : zk_T := (92, [.inr (some (some 54)), .inr (some (some 3)), .inl (5, 5)], [], [(52, 2), (52, 3), (52, 4), (52, 5), (53, 1), (53, 2)], [12], [(.inl (some (.inl (0, 0))), [], []), (.inl (some (.inl (1, 1))), [], [])], 6)
theorem zt_e112 : zk_chk zB zB_fz [ze_e111, ze_e26] [(13, [(.inl 3, 0, 700, false)], [], [], 0, true)] 5000 ze_e112 = true := by decide +kernel
theorem zc_e112 {L : Nat} {σ : Nat → Int32} {gh : zp_H → Int} {J : zp_H → Prop} (hw : zk_W zB gh J zB_fz) (hh : ∀ s ∈ zh_l, zk_Ct L σ zB gh J s) : zk_Ct L σ zB gh J ze_e112 := zk_chk_ok hw (List.forall_mem_cons.mpr ⟨zc_e111 hw hh, List.forall_mem_cons.mpr ⟨zc_e26 hw hh, fun _ h => absurd h List.not_mem_nil⟩⟩) zt_e112
/-- yX2_readTest -/
def ze_e113 : zk_T := (91, [.inr (some (some 54)), .inr (some (some 3)), .inl (5, 5)], [], [(52, 2), (52, 3), (52, 4), (52, 5), (53, 1), (53, 2)], [12], [(.inl (some (.inl (1, 1))), [], []), (.inl (some (.inl (0, 0))), [], [])], 7)
theorem zt_e113 : zk_chk zB zB_fz [ze_e112, ze_e26] [] 5000 ze_e113 = true := by decide +kernel
theorem zc_e113 {L : Nat} {σ : Nat → Int32} {gh : zp_H → Int} {J : zp_H → Prop} (hw : zk_W zB gh J zB_fz) (hh : ∀ s ∈ zh_l, zk_Ct L σ zB gh J s) : zk_Ct L σ zB gh J ze_e113 := zk_chk_ok hw (List.forall_mem_cons.mpr ⟨zc_e112 hw hh, List.forall_mem_cons.mpr ⟨zc_e26 hw hh, fun _ h => absurd h List.not_mem_nil⟩⟩) zt_e113
/-- yX2_readNot -/
def ze_e114 : zk_T := (89, [.inr (some (some 54)), .inr (some (some 3)), .inl (5, 5)], [], [(52, 2), (52, 3), (52, 4), (52, 5), (53, 1), (53, 2)], [12], [(.inl (some (.inl (0, 0))), [], []), (.inl (some (.inl (1, 1))), [], [])], 8)
theorem zt_e114 : zk_chk zB zB_fz [ze_e113, ze_e26] [(2, [(.inl 3, 0, 7, false)], [], [], 0, true), (65, [(.inl 4, 0, 7, false)], [], [], 0, true)] 5000 ze_e114 = true := by decide +kernel
theorem zc_e114 {L : Nat} {σ : Nat → Int32} {gh : zp_H → Int} {J : zp_H → Prop} (hw : zk_W zB gh J zB_fz) (hh : ∀ s ∈ zh_l, zk_Ct L σ zB gh J s) : zk_Ct L σ zB gh J ze_e114 := zk_chk_ok hw (List.forall_mem_cons.mpr ⟨zc_e113 hw hh, List.forall_mem_cons.mpr ⟨zc_e26 hw hh, fun _ h => absurd h List.not_mem_nil⟩⟩) zt_e114
/-- yX2_readAnd -/
def ze_e115 : zk_T := (88, [.inr (some (some 54)), .inr (some (some 3)), .inl (5, 5)], [], [(52, 2), (52, 3), (52, 4), (52, 5), (53, 1), (53, 2)], [12], [(.inl (some (.inl (0, 0))), [], []), (.inl (some (.inl (1, 1))), [], [])], 9)
theorem zt_e115 : zk_chk zB zB_fz [ze_e114, ze_e26] [(13, [(.inl 3, 0, 700, false)], [], [], 0, true)] 5000 ze_e115 = true := by decide +kernel
theorem zc_e115 {L : Nat} {σ : Nat → Int32} {gh : zp_H → Int} {J : zp_H → Prop} (hw : zk_W zB gh J zB_fz) (hh : ∀ s ∈ zh_l, zk_Ct L σ zB gh J s) : zk_Ct L σ zB gh J ze_e115 := zk_chk_ok hw (List.forall_mem_cons.mpr ⟨zc_e114 hw hh, List.forall_mem_cons.mpr ⟨zc_e26 hw hh, fun _ h => absurd h List.not_mem_nil⟩⟩) zt_e115
/-- yX2_readExpr -/
def ze_e116 : zk_T := (85, [.inr (some (some 54)), .inr (some (some 3)), .inl (5, 5)], [], [(52, 2), (52, 3), (52, 4), (52, 5), (53, 1), (53, 2)], [12], [(.inl (some (.inl (0, 0))), [], []), (.inl (some (.inl (1, 1))), [], [])], 10)
theorem zt_e116 : zk_chk zB zB_fz [ze_e115, ze_e26] [(73, [(.inl 3, 0, 700, false)], [], [], 0, true)] 5000 ze_e116 = true := by decide +kernel
theorem zc_e116 {L : Nat} {σ : Nat → Int32} {gh : zp_H → Int} {J : zp_H → Prop} (hw : zk_W zB gh J zB_fz) (hh : ∀ s ∈ zh_l, zk_Ct L σ zB gh J s) : zk_Ct L σ zB gh J ze_e116 := zk_chk_ok hw (List.forall_mem_cons.mpr ⟨zc_e115 hw hh, List.forall_mem_cons.mpr ⟨zc_e26 hw hh, fun _ h => absurd h List.not_mem_nil⟩⟩) zt_e116
