/-! ===== summaries that the checker shows (printed) ===== -/
/-- yX2_readPart -/
def ze_e117 : zk_T := (94, [.inr (some (some 54)), .inr (some (some 3)), .inl (4, 4)], [], [(52, 2), (52, 3), (52, 4), (52, 5), (53, 1), (53, 2)], [12], [(.inl (some (.inl (1, 1))), [], []), (.inl (some (.inl (0, 0))), [], [])], 11)
theorem zt_e117 : zk_chk zB zB_fz [ze_e116, ze_e26] [] 5000 ze_e117 = true := by decide +kernel
theorem zc_e117 {L : Nat} {σ : Nat → Int32} {gh : zp_H → Int} {J : zp_H → Prop} (hw : zk_W zB gh J zB_fz) (hh : ∀ s ∈ zh_l, zk_Ct L σ zB gh J s) : zk_Ct L σ zB gh J ze_e117 := zk_chk_ok hw (List.forall_mem_cons.mpr ⟨zc_e116 hw hh, List.forall_mem_cons.mpr ⟨zc_e26 hw hh, fun _ h => absurd h List.not_mem_nil⟩⟩) zt_e117
/-- yX2_readProduct -/
def ze_e118 : zk_T := (93, [.inr (some (some 54)), .inr (some (some 3)), .inl (4, 4)], [], [(52, 2), (52, 3), (52, 4), (52, 5), (53, 1), (53, 2)], [12], [(.inl (some (.inl (0, 0))), [], []), (.inl (some (.inl (1, 1))), [], [])], 12)
theorem zt_e118 : zk_chk zB zB_fz [ze_e117, ze_e26] [(13, [(.inl 3, 0, 700, false)], [], [], 0, true)] 5000 ze_e118 = true := by decide +kernel
theorem zc_e118 {L : Nat} {σ : Nat → Int32} {gh : zp_H → Int} {J : zp_H → Prop} (hw : zk_W zB gh J zB_fz) (hh : ∀ s ∈ zh_l, zk_Ct L σ zB gh J s) : zk_Ct L σ zB gh J ze_e118 := zk_chk_ok hw (List.forall_mem_cons.mpr ⟨zc_e117 hw hh, List.forall_mem_cons.mpr ⟨zc_e26 hw hh, fun _ h => absurd h List.not_mem_nil⟩⟩) zt_e118
/-- yX2_readSum -/
def ze_e119 : zk_T := (92, [.inr (some (some 54)), .inr (some (some 3)), .inl (4, 4)], [], [(52, 2), (52, 3), (52, 4), (52, 5), (53, 1), (53, 2)], [12], [(.inl (some (.inl (0, 0))), [], []), (.inl (some (.inl (1, 1))), [], [])], 13)
theorem zt_e119 : zk_chk zB zB_fz [ze_e118, ze_e26] [(13, [(.inl 3, 0, 700, false)], [], [], 0, true)] 5000 ze_e119 = true := by decide +kernel
theorem zc_e119 {L : Nat} {σ : Nat → Int32} {gh : zp_H → Int} {J : zp_H → Prop} (hw : zk_W zB gh J zB_fz) (hh : ∀ s ∈ zh_l, zk_Ct L σ zB gh J s) : zk_Ct L σ zB gh J ze_e119 := zk_chk_ok hw (List.forall_mem_cons.mpr ⟨zc_e118 hw hh, List.forall_mem_cons.mpr ⟨zc_e26 hw hh, fun _ h => absurd h List.not_mem_nil⟩⟩) zt_e119
/-- yX2_readTest -/
def ze_e120 : zk_T := (91, [.inr (some (some 54)), .inr (some (some 3)), .inl (4, 4)], [], [(52, 2), (52, 3), (52, 4), (52, 5), (53, 1), (53, 2)], [12], [(.inl (some (.inl (1, 1))), [], []), (.inl (some (.inl (0, 0))), [], [])], 14)
theorem zt_e120 : zk_chk zB zB_fz [ze_e119, ze_e26] [] 5000 ze_e120 = true := by decide +kernel
theorem zc_e120 {L : Nat} {σ : Nat → Int32} {gh : zp_H → Int} {J : zp_H → Prop} (hw : zk_W zB gh J zB_fz) (hh : ∀ s ∈ zh_l, zk_Ct L σ zB gh J s) : zk_Ct L σ zB gh J ze_e120 := zk_chk_ok hw (List.forall_mem_cons.mpr ⟨zc_e119 hw hh, List.forall_mem_cons.mpr ⟨zc_e26 hw hh, fun _ h => absurd h List.not_mem_nil⟩⟩) zt_e120
/-- yX2_readNot -/
def ze_e121 : zk_T := (89, [.inr (some (some 54)), .inr (some (some 3)), .inl (4, 4)], [], [(52, 2), (52, 3), (52, 4), (52, 5), (53, 1), (53, 2)], [12], [(.inl (some (.inl (0, 0))), [], []), (.inl (some (.inl (1, 1))), [], [])], 15)
theorem zt_e121 : zk_chk zB zB_fz [ze_e120, ze_e26] [(2, [(.inl 3, 0, 7, false)], [], [], 0, true), (65, [(.inl 4, 0, 7, false)], [], [], 0, true)] 5000 ze_e121 = true := by decide +kernel
theorem zc_e121 {L : Nat} {σ : Nat → Int32} {gh : zp_H → Int} {J : zp_H → Prop} (hw : zk_W zB gh J zB_fz) (hh : ∀ s ∈ zh_l, zk_Ct L σ zB gh J s) : zk_Ct L σ zB gh J ze_e121 := zk_chk_ok hw (List.forall_mem_cons.mpr ⟨zc_e120 hw hh, List.forall_mem_cons.mpr ⟨zc_e26 hw hh, fun _ h => absurd h List.not_mem_nil⟩⟩) zt_e121
/-- yX2_readAnd -/
def ze_e122 : zk_T := (88, [.inr (some (some 54)), .inr (some (some 3)), .inl (4, 4)], [], [(52, 2), (52, 3), (52, 4), (52, 5), (53, 1), (53, 2)], [12], [(.inl (some (.inl (0, 0))), [], []), (.inl (some (.inl (1, 1))), [], [])], 16)
theorem zt_e122 : zk_chk zB zB_fz [ze_e121, ze_e26] [(13, [(.inl 3, 0, 700, false)], [], [], 0, true)] 5000 ze_e122 = true := by decide +kernel
theorem zc_e122 {L : Nat} {σ : Nat → Int32} {gh : zp_H → Int} {J : zp_H → Prop} (hw : zk_W zB gh J zB_fz) (hh : ∀ s ∈ zh_l, zk_Ct L σ zB gh J s) : zk_Ct L σ zB gh J ze_e122 := zk_chk_ok hw (List.forall_mem_cons.mpr ⟨zc_e121 hw hh, List.forall_mem_cons.mpr ⟨zc_e26 hw hh, fun _ h => absurd h List.not_mem_nil⟩⟩) zt_e122
/-- yX2_readExpr -/
def ze_e123 : zk_T := (85, [.inr (some (some 54)), .inr (some (some 3)), .inl (4, 4)], [], [(52, 2), (52, 3), (52, 4), (52, 5), (53, 1), (53, 2)], [12], [(.inl (some (.inl (0, 0))), [], []), (.inl (some (.inl (1, 1))), [], [])], 17)
theorem zt_e123 : zk_chk zB zB_fz [ze_e122, ze_e26] [(73, [(.inl 3, 0, 700, false)], [], [], 0, true)] 5000 ze_e123 = true := by decide +kernel
theorem zc_e123 {L : Nat} {σ : Nat → Int32} {gh : zp_H → Int} {J : zp_H → Prop} (hw : zk_W zB gh J zB_fz) (hh : ∀ s ∈ zh_l, zk_Ct L σ zB gh J s) : zk_Ct L σ zB gh J ze_e123 := zk_chk_ok hw (List.forall_mem_cons.mpr ⟨zc_e122 hw hh, List.forall_mem_cons.mpr ⟨zc_e26 hw hh, fun _ h => absurd h List.not_mem_nil⟩⟩) zt_e123
/-- yX2_readPart -/
def ze_e124 : zk_T := (94, [.inr (some (some 54)), .inr (some (some 3)), .inl (3, 3)], [], [(52, 2), (52, 3), (52, 4), (52, 5), (53, 1), (53, 2)], [12], [(.inl (some (.inl (1, 1))), [], []), (.inl (some (.inl (0, 0))), [], [])], 18)
theorem zt_e124 : zk_chk zB zB_fz [ze_e123, ze_e26] [] 5000 ze_e124 = true := by decide +kernel
theorem zc_e124 {L : Nat} {σ : Nat → Int32} {gh : zp_H → Int} {J : zp_H → Prop} (hw : zk_W zB gh J zB_fz) (hh : ∀ s ∈ zh_l, zk_Ct L σ zB gh J s) : zk_Ct L σ zB gh J ze_e124 := zk_chk_ok hw (List.forall_mem_cons.mpr ⟨zc_e123 hw hh, List.forall_mem_cons.mpr ⟨zc_e26 hw hh, fun _ h => absurd h List.not_mem_nil⟩⟩) zt_e124
/-- yX2_readProduct -/
def ze_e125 : zk_T := (93, [.inr (some (some 54)), .inr (some (some 3)), .inl (3, 3)], [], [(52, 2), (52, 3), (52, 4), (52, 5), (53, 1), (53, 2)], [12], [(.inl (some (.inl (0, 0))), [], []), (.inl (some (.inl (1, 1))), [], [])], 19)
theorem zt_e125 : zk_chk zB zB_fz [ze_e124, ze_e26] [(13, [(.inl 3, 0, 700, false)], [], [], 0, true)] 5000 ze_e125 = true := by decide +kernel
theorem zc_e125 {L : Nat} {σ : Nat → Int32} {gh : zp_H → Int} {J : zp_H → Prop} (hw : zk_W zB gh J zB_fz) (hh : ∀ s ∈ zh_l, zk_Ct L σ zB gh J s) : zk_Ct L σ zB gh J ze_e125 := zk_chk_ok hw (List.forall_mem_cons.mpr ⟨zc_e124 hw hh, List.forall_mem_cons.mpr ⟨zc_e26 hw hh, fun _ h => absurd h List.not_mem_nil⟩⟩) zt_e125
