/-! ===== summaries that the checker shows (printed) ===== -/
/-- yX2_readSum -/
def ze_e126 : zk_T := (92, [.inr (some (some 54)), .inr (some (some 3)), .inl (3, 3)], [], [(52, 2), (52, 3), (52, 4), (52, 5), (53, 1), (53, 2)], [12], [(.inl (some (.inl (0, 0))), [], []), (.inl (some (.inl (1, 1))), [], [])], 20)
theorem zt_e126 : zk_chk zB zB_fz [ze_e125, ze_e26] [(13, [(.inl 3, 0, 700, false)], [], [], 0, true)] 5000 ze_e126 = true := by decide +kernel
theorem zc_e126 {L : Nat} {σ : Nat → Int32} {gh : zp_H → Int} {J : zp_H → Prop} (hw : zk_W zB gh J zB_fz) (hh : ∀ s ∈ zh_l, zk_Ct L σ zB gh J s) : zk_Ct L σ zB gh J ze_e126 := zk_chk_ok hw (List.forall_mem_cons.mpr ⟨zc_e125 hw hh, List.forall_mem_cons.mpr ⟨zc_e26 hw hh, fun _ h => absurd h List.not_mem_nil⟩⟩) zt_e126
/-- yX2_readTest -/
def ze_e127 : zk_T := (91, [.inr (some (some 54)), .inr (some (some 3)), .inl (3, 3)], [], [(52, 2), (52, 3), (52, 4), (52, 5), (53, 1), (53, 2)], [12], [(.inl (some (.inl (1, 1))), [], []), (.inl (some (.inl (0, 0))), [], [])], 21)
theorem zt_e127 : zk_chk zB zB_fz [ze_e126, ze_e26] [] 5000 ze_e127 = true := by decide +kernel
theorem zc_e127 {L : Nat} {σ : Nat → Int32} {gh : zp_H → Int} {J : zp_H → Prop} (hw : zk_W zB gh J zB_fz) (hh : ∀ s ∈ zh_l, zk_Ct L σ zB gh J s) : zk_Ct L σ zB gh J ze_e127 := zk_chk_ok hw (List.forall_mem_cons.mpr ⟨zc_e126 hw hh, List.forall_mem_cons.mpr ⟨zc_e26 hw hh, fun _ h => absurd h List.not_mem_nil⟩⟩) zt_e127
/-- yX2_readNot -/
def ze_e128 : zk_T := (89, [.inr (some (some 54)), .inr (some (some 3)), .inl (3, 3)], [], [(52, 2), (52, 3), (52, 4), (52, 5), (53, 1), (53, 2)], [12], [(.inl (some (.inl (0, 0))), [], []), (.inl (some (.inl (1, 1))), [], [])], 22)
theorem zt_e128 : zk_chk zB zB_fz [ze_e127, ze_e26] [(2, [(.inl 3, 0, 7, false)], [], [], 0, true), (65, [(.inl 4, 0, 7, false)], [], [], 0, true)] 5000 ze_e128 = true := by decide +kernel
theorem zc_e128 {L : Nat} {σ : Nat → Int32} {gh : zp_H → Int} {J : zp_H → Prop} (hw : zk_W zB gh J zB_fz) (hh : ∀ s ∈ zh_l, zk_Ct L σ zB gh J s) : zk_Ct L σ zB gh J ze_e128 := zk_chk_ok hw (List.forall_mem_cons.mpr ⟨zc_e127 hw hh, List.forall_mem_cons.mpr ⟨zc_e26 hw hh, fun _ h => absurd h List.not_mem_nil⟩⟩) zt_e128
/-- yX2_readAnd -/
def ze_e129 : zk_T := (88, [.inr (some (some 54)), .inr (some (some 3)), .inl (3, 3)], [], [(52, 2), (52, 3), (52, 4), (52, 5), (53, 1), (53, 2)], [12], [(.inl (some (.inl (0, 0))), [], []), (.inl (some (.inl (1, 1))), [], [])], 23)
theorem zt_e129 : zk_chk zB zB_fz [ze_e128, ze_e26] [(13, [(.inl 3, 0, 700, false)], [], [], 0, true)] 5000 ze_e129 = true := by decide +kernel
theorem zc_e129 {L : Nat} {σ : Nat → Int32} {gh : zp_H → Int} {J : zp_H → Prop} (hw : zk_W zB gh J zB_fz) (hh : ∀ s ∈ zh_l, zk_Ct L σ zB gh J s) : zk_Ct L σ zB gh J ze_e129 := zk_chk_ok hw (List.forall_mem_cons.mpr ⟨zc_e128 hw hh, List.forall_mem_cons.mpr ⟨zc_e26 hw hh, fun _ h => absurd h List.not_mem_nil⟩⟩) zt_e129
/-- yX2_readExpr -/
def ze_e130 : zk_T := (85, [.inr (some (some 54)), .inr (some (some 3)), .inl (3, 3)], [], [(52, 2), (52, 3), (52, 4), (52, 5), (53, 1), (53, 2)], [12], [(.inl (some (.inl (0, 0))), [], []), (.inl (some (.inl (1, 1))), [], [])], 24)
theorem zt_e130 : zk_chk zB zB_fz [ze_e129, ze_e26] [(73, [(.inl 3, 0, 700, false)], [], [], 0, true)] 5000 ze_e130 = true := by decide +kernel
theorem zc_e130 {L : Nat} {σ : Nat → Int32} {gh : zp_H → Int} {J : zp_H → Prop} (hw : zk_W zB gh J zB_fz) (hh : ∀ s ∈ zh_l, zk_Ct L σ zB gh J s) : zk_Ct L σ zB gh J ze_e130 := zk_chk_ok hw (List.forall_mem_cons.mpr ⟨zc_e129 hw hh, List.forall_mem_cons.mpr ⟨zc_e26 hw hh, fun _ h => absurd h List.not_mem_nil⟩⟩) zt_e130
/-- yX2_readPart -/
def ze_e131 : zk_T := (94, [.inr (some (some 54)), .inr (some (some 3)), .inl (2, 2)], [], [(52, 2), (52, 3), (52, 4), (52, 5), (53, 1), (53, 2)], [12], [(.inl (some (.inl (1, 1))), [], []), (.inl (some (.inl (0, 0))), [], [])], 25)
theorem zt_e131 : zk_chk zB zB_fz [ze_e130, ze_e26] [] 5000 ze_e131 = true := by decide +kernel
theorem zc_e131 {L : Nat} {σ : Nat → Int32} {gh : zp_H → Int} {J : zp_H → Prop} (hw : zk_W zB gh J zB_fz) (hh : ∀ s ∈ zh_l, zk_Ct L σ zB gh J s) : zk_Ct L σ zB gh J ze_e131 := zk_chk_ok hw (List.forall_mem_cons.mpr ⟨zc_e130 hw hh, List.forall_mem_cons.mpr ⟨zc_e26 hw hh, fun _ h => absurd h List.not_mem_nil⟩⟩) zt_e131
/-- yX2_readProduct -/
def ze_e132 : zk_T := (93, [.inr (some (some 54)), .inr (some (some 3)), .inl (2, 2)], [], [(52, 2), (52, 3), (52, 4), (52, 5), (53, 1), (53, 2)], [12], [(.inl (some (.inl (0, 0))), [], []), (.inl (some (.inl (1, 1))), [], [])], 26)
theorem zt_e132 : zk_chk zB zB_fz [ze_e131, ze_e26] [(13, [(.inl 3, 0, 700, false)], [], [], 0, true)] 5000 ze_e132 = true := by decide +kernel
theorem zc_e132 {L : Nat} {σ : Nat → Int32} {gh : zp_H → Int} {J : zp_H → Prop} (hw : zk_W zB gh J zB_fz) (hh : ∀ s ∈ zh_l, zk_Ct L σ zB gh J s) : zk_Ct L σ zB gh J ze_e132 := zk_chk_ok hw (List.forall_mem_cons.mpr ⟨zc_e131 hw hh, List.forall_mem_cons.mpr ⟨zc_e26 hw hh, fun _ h => absurd h List.not_mem_nil⟩⟩) zt_e132
/-- yX2_readSum -/
def ze_e133 : zk_T := (92, [.inr (some (some 54)), .inr (some (some 3)), .inl (2, 2)], [], [(52, 2), (52, 3), (52, 4), (52, 5), (53, 1), (53, 2)], [12], [(.inl (some (.inl (0, 0))), [], []), (.inl (some (.inl (1, 1))), [], [])], 27)
theorem zt_e133 : zk_chk zB zB_fz [ze_e132, ze_e26] [(13, [(.inl 3, 0, 700, false)], [], [], 0, true)] 5000 ze_e133 = true := by decide +kernel
theorem zc_e133 {L : Nat} {σ : Nat → Int32} {gh : zp_H → Int} {J : zp_H → Prop} (hw : zk_W zB gh J zB_fz) (hh : ∀ s ∈ zh_l, zk_Ct L σ zB gh J s) : zk_Ct L σ zB gh J ze_e133 := zk_chk_ok hw (List.forall_mem_cons.mpr ⟨zc_e132 hw hh, List.forall_mem_cons.mpr ⟨zc_e26 hw hh, fun _ h => absurd h List.not_mem_nil⟩⟩) zt_e133
/-- yX2_readTest -/
def ze_e134 : zk_T := (91, [.inr (some (some 54)), .inr (some (some 3)), .inl (2, 2)], [], [(52, 2), (52, 3), (52, 4), (52, 5), (53, 1), (53, 2)], [12], [(.inl (some (.inl (1, 1))), [], []), (.inl (some (.inl (0, 0))), [], [])], 28)
theorem zt_e134 : zk_chk zB zB_fz [ze_e133, ze_e26] [] 5000 ze_e134 = true := by decide +kernel
theorem zc_e134 {L : Nat} {σ : Nat → Int32} {gh : zp_H → Int} {J : zp_H → Prop} (hw : zk_W zB gh J zB_fz) (hh : ∀ s ∈ zh_l, zk_Ct L σ zB gh J s) : zk_Ct L σ zB gh J ze_e134 := zk_chk_ok hw (List.forall_mem_cons.mpr ⟨zc_e133 hw hh, List.forall_mem_cons.mpr ⟨zc_e26 hw hh, fun _ h => absurd h List.not_mem_nil⟩⟩) zt_e134
