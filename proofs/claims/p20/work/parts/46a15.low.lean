/-! ===== summaries that the checker shows (printed) ===== -/
/-- yX2_readNot -/
def ze_e135 : zk_T := (89, [.inr (some (some 54)), .inr (some (some 3)), .inl (2, 2)], [], [(52, 2), (52, 3), (52, 4), (52, 5), (53, 1), (53, 2)], [12], [(.inl (some (.inl (0, 0))), [], []), (.inl (some (.inl (1, 1))), [], [])], 29)
theorem zt_e135 : zk_chk zB zB_fz [ze_e134, ze_e26] [(2, [(.inl 3, 0, 7, false)], [], [], 0, true), (65, [(.inl 4, 0, 7, false)], [], [], 0, true)] 5000 ze_e135 = true := by decide +kernel
theorem zc_e135 {L : Nat} {σ : Nat → Int32} {gh : zp_H → Int} {J : zp_H → Prop} (hw : zk_W zB gh J zB_fz) (hh : ∀ s ∈ zh_l, zk_Ct L σ zB gh J s) : zk_Ct L σ zB gh J ze_e135 := zk_chk_ok hw (List.forall_mem_cons.mpr ⟨zc_e134 hw hh, List.forall_mem_cons.mpr ⟨zc_e26 hw hh, fun _ h => absurd h List.not_mem_nil⟩⟩) zt_e135
/-- yX2_readAnd -/
def ze_e136 : zk_T := (88, [.inr (some (some 54)), .inr (some (some 3)), .inl (2, 2)], [], [(52, 2), (52, 3), (52, 4), (52, 5), (53, 1), (53, 2)], [12], [(.inl (some (.inl (0, 0))), [], []), (.inl (some (.inl (1, 1))), [], [])], 30)
theorem zt_e136 : zk_chk zB zB_fz [ze_e135, ze_e26] [(13, [(.inl 3, 0, 700, false)], [], [], 0, true)] 5000 ze_e136 = true := by decide +kernel
theorem zc_e136 {L : Nat} {σ : Nat → Int32} {gh : zp_H → Int} {J : zp_H → Prop} (hw : zk_W zB gh J zB_fz) (hh : ∀ s ∈ zh_l, zk_Ct L σ zB gh J s) : zk_Ct L σ zB gh J ze_e136 := zk_chk_ok hw (List.forall_mem_cons.mpr ⟨zc_e135 hw hh, List.forall_mem_cons.mpr ⟨zc_e26 hw hh, fun _ h => absurd h List.not_mem_nil⟩⟩) zt_e136
/-- yX2_readExpr -/
def ze_e137 : zk_T := (85, [.inr (some (some 54)), .inr (some (some 3)), .inl (2, 2)], [], [(52, 2), (52, 3), (52, 4), (52, 5), (53, 1), (53, 2)], [12], [(.inl (some (.inl (0, 0))), [], []), (.inl (some (.inl (1, 1))), [], [])], 31)
theorem zt_e137 : zk_chk zB zB_fz [ze_e136, ze_e26] [(73, [(.inl 3, 0, 700, false)], [], [], 0, true)] 5000 ze_e137 = true := by decide +kernel
theorem zc_e137 {L : Nat} {σ : Nat → Int32} {gh : zp_H → Int} {J : zp_H → Prop} (hw : zk_W zB gh J zB_fz) (hh : ∀ s ∈ zh_l, zk_Ct L σ zB gh J s) : zk_Ct L σ zB gh J ze_e137 := zk_chk_ok hw (List.forall_mem_cons.mpr ⟨zc_e136 hw hh, List.forall_mem_cons.mpr ⟨zc_e26 hw hh, fun _ h => absurd h List.not_mem_nil⟩⟩) zt_e137
/-- yX2_readPart -/
def ze_e138 : zk_T := (94, [.inr (some (some 54)), .inr (some (some 3)), .inl (1, 1)], [], [(52, 2), (52, 3), (52, 4), (52, 5), (53, 1), (53, 2)], [12], [(.inl (some (.inl (1, 1))), [], []), (.inl (some (.inl (0, 0))), [], [])], 32)
theorem zt_e138 : zk_chk zB zB_fz [ze_e137, ze_e26] [] 5000 ze_e138 = true := by decide +kernel
theorem zc_e138 {L : Nat} {σ : Nat → Int32} {gh : zp_H → Int} {J : zp_H → Prop} (hw : zk_W zB gh J zB_fz) (hh : ∀ s ∈ zh_l, zk_Ct L σ zB gh J s) : zk_Ct L σ zB gh J ze_e138 := zk_chk_ok hw (List.forall_mem_cons.mpr ⟨zc_e137 hw hh, List.forall_mem_cons.mpr ⟨zc_e26 hw hh, fun _ h => absurd h List.not_mem_nil⟩⟩) zt_e138
/-- yX2_readProduct -/
def ze_e139 : zk_T := (93, [.inr (some (some 54)), .inr (some (some 3)), .inl (1, 1)], [], [(52, 2), (52, 3), (52, 4), (52, 5), (53, 1), (53, 2)], [12], [(.inl (some (.inl (0, 0))), [], []), (.inl (some (.inl (1, 1))), [], [])], 33)
theorem zt_e139 : zk_chk zB zB_fz [ze_e138, ze_e26] [(13, [(.inl 3, 0, 700, false)], [], [], 0, true)] 5000 ze_e139 = true := by decide +kernel
theorem zc_e139 {L : Nat} {σ : Nat → Int32} {gh : zp_H → Int} {J : zp_H → Prop} (hw : zk_W zB gh J zB_fz) (hh : ∀ s ∈ zh_l, zk_Ct L σ zB gh J s) : zk_Ct L σ zB gh J ze_e139 := zk_chk_ok hw (List.forall_mem_cons.mpr ⟨zc_e138 hw hh, List.forall_mem_cons.mpr ⟨zc_e26 hw hh, fun _ h => absurd h List.not_mem_nil⟩⟩) zt_e139
/-- yX2_readSum -/
def ze_e140 : zk_T := (92, [.inr (some (some 54)), .inr (some (some 3)), .inl (1, 1)], [], [(52, 2), (52, 3), (52, 4), (52, 5), (53, 1), (53, 2)], [12], [(.inl (some (.inl (0, 0))), [], []), (.inl (some (.inl (1, 1))), [], [])], 34)
theorem zt_e140 : zk_chk zB zB_fz [ze_e139, ze_e26] [(13, [(.inl 3, 0, 700, false)], [], [], 0, true)] 5000 ze_e140 = true := by decide +kernel
theorem zc_e140 {L : Nat} {σ : Nat → Int32} {gh : zp_H → Int} {J : zp_H → Prop} (hw : zk_W zB gh J zB_fz) (hh : ∀ s ∈ zh_l, zk_Ct L σ zB gh J s) : zk_Ct L σ zB gh J ze_e140 := zk_chk_ok hw (List.forall_mem_cons.mpr ⟨zc_e139 hw hh, List.forall_mem_cons.mpr ⟨zc_e26 hw hh, fun _ h => absurd h List.not_mem_nil⟩⟩) zt_e140
/-- yX2_readTest -/
def ze_e141 : zk_T := (91, [.inr (some (some 54)), .inr (some (some 3)), .inl (1, 1)], [], [(52, 2), (52, 3), (52, 4), (52, 5), (53, 1), (53, 2)], [12], [(.inl (some (.inl (1, 1))), [], []), (.inl (some (.inl (0, 0))), [], [])], 35)
theorem zt_e141 : zk_chk zB zB_fz [ze_e140, ze_e26] [] 5000 ze_e141 = true := by decide +kernel
theorem zc_e141 {L : Nat} {σ : Nat → Int32} {gh : zp_H → Int} {J : zp_H → Prop} (hw : zk_W zB gh J zB_fz) (hh : ∀ s ∈ zh_l, zk_Ct L σ zB gh J s) : zk_Ct L σ zB gh J ze_e141 := zk_chk_ok hw (List.forall_mem_cons.mpr ⟨zc_e140 hw hh, List.forall_mem_cons.mpr ⟨zc_e26 hw hh, fun _ h => absurd h List.not_mem_nil⟩⟩) zt_e141
/-- yX2_readNot -/
def ze_e142 : zk_T := (89, [.inr (some (some 54)), .inr (some (some 3)), .inl (1, 1)], [], [(52, 2), (52, 3), (52, 4), (52, 5), (53, 1), (53, 2)], [12], [(.inl (some (.inl (0, 0))), [], []), (.inl (some (.inl (1, 1))), [], [])], 36)
theorem zt_e142 : zk_chk zB zB_fz [ze_e141, ze_e26] [(2, [(.inl 3, 0, 7, false)], [], [], 0, true), (65, [(.inl 4, 0, 7, false)], [], [], 0, true)] 5000 ze_e142 = true := by decide +kernel
theorem zc_e142 {L : Nat} {σ : Nat → Int32} {gh : zp_H → Int} {J : zp_H → Prop} (hw : zk_W zB gh J zB_fz) (hh : ∀ s ∈ zh_l, zk_Ct L σ zB gh J s) : zk_Ct L σ zB gh J ze_e142 := zk_chk_ok hw (List.forall_mem_cons.mpr ⟨zc_e141 hw hh, List.forall_mem_cons.mpr ⟨zc_e26 hw hh, fun _ h => absurd h List.not_mem_nil⟩⟩) zt_e142
/-- yX2_readAnd -/
def ze_e143 : zk_T := (88, [.inr (some (some 54)), .inr (some (some 3)), .inl (1, 1)], [], [(52, 2), (52, 3), (52, 4), (52, 5), (53, 1), (53, 2)], [12], [(.inl (some (.inl (0, 0))), [], []), (.inl (some (.inl (1, 1))), [], [])], 37)
theorem zt_e143 : zk_chk zB zB_fz [ze_e142, ze_e26] [(13, [(.inl 3, 0, 700, false)], [], [], 0, true)] 5000 ze_e143 = true := by decide +kernel
theorem zc_e143 {L : Nat} {σ : Nat → Int32} {gh : zp_H → Int} {J : zp_H → Prop} (hw : zk_W zB gh J zB_fz) (hh : ∀ s ∈ zh_l, zk_Ct L σ zB gh J s) : zk_Ct L σ zB gh J ze_e143 := zk_chk_ok hw (List.forall_mem_cons.mpr ⟨zc_e142 hw hh, List.forall_mem_cons.mpr ⟨zc_e26 hw hh, fun _ h => absurd h List.not_mem_nil⟩⟩) zt_e143
