/-! ===== summaries that the checker shows (printed) ===== -/
/-- yX2_readExpr -/
def ze_e45 : zk_T := (85, [.inr (some (some 54)), .inr (some (some 23)), .inl (4, 4)], [], [(52, 2), (52, 3), (52, 4), (52, 5), (53, 1), (53, 2)], [32], [(.inl (some (.inl (0, 0))), [], []), (.inl (some (.inl (1, 1))), [], [])], 17)
theorem zt_e45 : zk_chk zB zB_fz [ze_e26, ze_e44] [(73, [(.inl 3, 0, 700, false)], [], [], 0, true)] 5000 ze_e45 = true := by decide +kernel
theorem zc_e45 {L : Nat} {σ : Nat → Int32} {gh : zp_H → Int} {J : zp_H → Prop} (hw : zk_W zB gh J zB_fz) (hh : ∀ s ∈ zh_l, zk_Ct L σ zB gh J s) : zk_Ct L σ zB gh J ze_e45 := zk_chk_ok hw (List.forall_mem_cons.mpr ⟨zc_e26 hw hh, List.forall_mem_cons.mpr ⟨zc_e44 hw hh, fun _ h => absurd h List.not_mem_nil⟩⟩) zt_e45
/-- yX2_readPart -/
def ze_e46 : zk_T := (94, [.inr (some (some 54)), .inr (some (some 23)), .inl (3, 3)], [], [(52, 2), (52, 3), (52, 4), (52, 5), (53, 1), (53, 2)], [32], [(.inl (some (.inl (1, 1))), [], []), (.inl (some (.inl (0, 0))), [], [])], 18)
theorem zt_e46 : zk_chk zB zB_fz [ze_e26, ze_e45] [] 5000 ze_e46 = true := by decide +kernel
theorem zc_e46 {L : Nat} {σ : Nat → Int32} {gh : zp_H → Int} {J : zp_H → Prop} (hw : zk_W zB gh J zB_fz) (hh : ∀ s ∈ zh_l, zk_Ct L σ zB gh J s) : zk_Ct L σ zB gh J ze_e46 := zk_chk_ok hw (List.forall_mem_cons.mpr ⟨zc_e26 hw hh, List.forall_mem_cons.mpr ⟨zc_e45 hw hh, fun _ h => absurd h List.not_mem_nil⟩⟩) zt_e46
/-- yX2_readProduct -/
def ze_e47 : zk_T := (93, [.inr (some (some 54)), .inr (some (some 23)), .inl (3, 3)], [], [(52, 2), (52, 3), (52, 4), (52, 5), (53, 1), (53, 2)], [32], [(.inl (some (.inl (0, 0))), [], []), (.inl (some (.inl (1, 1))), [], [])], 19)
theorem zt_e47 : zk_chk zB zB_fz [ze_e26, ze_e46] [(13, [(.inl 3, 0, 700, false)], [], [], 0, true)] 5000 ze_e47 = true := by decide +kernel
theorem zc_e47 {L : Nat} {σ : Nat → Int32} {gh : zp_H → Int} {J : zp_H → Prop} (hw : zk_W zB gh J zB_fz) (hh : ∀ s ∈ zh_l, zk_Ct L σ zB gh J s) : zk_Ct L σ zB gh J ze_e47 := zk_chk_ok hw (List.forall_mem_cons.mpr ⟨zc_e26 hw hh, List.forall_mem_cons.mpr ⟨zc_e46 hw hh, fun _ h => absurd h List.not_mem_nil⟩⟩) zt_e47
/-- yX2_readSum -/
def ze_e48 : zk_T := (92, [.inr (some (some 54)), .inr (some (some 23)), .inl (3, 3)], [], [(52, 2), (52, 3), (52, 4), (52, 5), (53, 1), (53, 2)], [32], [(.inl (some (.inl (0, 0))), [], []), (.inl (some (.inl (1, 1))), [], [])], 20)
theorem zt_e48 : zk_chk zB zB_fz [ze_e26, ze_e47] [(13, [(.inl 3, 0, 700, false)], [], [], 0, true)] 5000 ze_e48 = true := by decide +kernel
theorem zc_e48 {L : Nat} {σ : Nat → Int32} {gh : zp_H → Int} {J : zp_H → Prop} (hw : zk_W zB gh J zB_fz) (hh : ∀ s ∈ zh_l, zk_Ct L σ zB gh J s) : zk_Ct L σ zB gh J ze_e48 := zk_chk_ok hw (List.forall_mem_cons.mpr ⟨zc_e26 hw hh, List.forall_mem_cons.mpr ⟨zc_e47 hw hh, fun _ h => absurd h List.not_mem_nil⟩⟩) zt_e48
/-- yX2_readTest -/
def ze_e49 : zk_T := (91, [.inr (some (some 54)), .inr (some (some 23)), .inl (3, 3)], [], [(52, 2), (52, 3), (52, 4), (52, 5), (53, 1), (53, 2)], [32], [(.inl (some (.inl (1, 1))), [], []), (.inl (some (.inl (0, 0))), [], [])], 21)
theorem zt_e49 : zk_chk zB zB_fz [ze_e26, ze_e48] [] 5000 ze_e49 = true := by decide +kernel
theorem zc_e49 {L : Nat} {σ : Nat → Int32} {gh : zp_H → Int} {J : zp_H → Prop} (hw : zk_W zB gh J zB_fz) (hh : ∀ s ∈ zh_l, zk_Ct L σ zB gh J s) : zk_Ct L σ zB gh J ze_e49 := zk_chk_ok hw (List.forall_mem_cons.mpr ⟨zc_e26 hw hh, List.forall_mem_cons.mpr ⟨zc_e48 hw hh, fun _ h => absurd h List.not_mem_nil⟩⟩) zt_e49
/-- yX2_readNot -/
def ze_e50 : zk_T := (89, [.inr (some (some 54)), .inr (some (some 23)), .inl (3, 3)], [], [(52, 2), (52, 3), (52, 4), (52, 5), (53, 1), (53, 2)], [32], [(.inl (some (.inl (0, 0))), [], []), (.inl (some (.inl (1, 1))), [], [])], 22)
theorem zt_e50 : zk_chk zB zB_fz [ze_e26, ze_e49] [(2, [(.inl 3, 0, 7, false)], [], [], 0, true), (65, [(.inl 4, 0, 7, false)], [], [], 0, true)] 5000 ze_e50 = true := by decide +kernel
theorem zc_e50 {L : Nat} {σ : Nat → Int32} {gh : zp_H → Int} {J : zp_H → Prop} (hw : zk_W zB gh J zB_fz) (hh : ∀ s ∈ zh_l, zk_Ct L σ zB gh J s) : zk_Ct L σ zB gh J ze_e50 := zk_chk_ok hw (List.forall_mem_cons.mpr ⟨zc_e26 hw hh, List.forall_mem_cons.mpr ⟨zc_e49 hw hh, fun _ h => absurd h List.not_mem_nil⟩⟩) zt_e50
/-- yX2_readAnd -/
def ze_e51 : zk_T := (88, [.inr (some (some 54)), .inr (some (some 23)), .inl (3, 3)], [], [(52, 2), (52, 3), (52, 4), (52, 5), (53, 1), (53, 2)], [32], [(.inl (some (.inl (0, 0))), [], []), (.inl (some (.inl (1, 1))), [], [])], 23)
theorem zt_e51 : zk_chk zB zB_fz [ze_e26, ze_e50] [(13, [(.inl 3, 0, 700, false)], [], [], 0, true)] 5000 ze_e51 = true := by decide +kernel
theorem zc_e51 {L : Nat} {σ : Nat → Int32} {gh : zp_H → Int} {J : zp_H → Prop} (hw : zk_W zB gh J zB_fz) (hh : ∀ s ∈ zh_l, zk_Ct L σ zB gh J s) : zk_Ct L σ zB gh J ze_e51 := zk_chk_ok hw (List.forall_mem_cons.mpr ⟨zc_e26 hw hh, List.forall_mem_cons.mpr ⟨zc_e50 hw hh, fun _ h => absurd h List.not_mem_nil⟩⟩) zt_e51
/-- yX2_readExpr -/
def ze_e52 : zk_T := (85, [.inr (some (some 54)), .inr (some (some 23)), .inl (3, 3)], [], [(52, 2), (52, 3), (52, 4), (52, 5), (53, 1), (53, 2)], [32], [(.inl (some (.inl (0, 0))), [], []), (.inl (some (.inl (1, 1))), [], [])], 24)
theorem zt_e52 : zk_chk zB zB_fz [ze_e26, ze_e51] [(73, [(.inl 3, 0, 700, false)], [], [], 0, true)] 5000 ze_e52 = true := by decide +kernel
theorem zc_e52 {L : Nat} {σ : Nat → Int32} {gh : zp_H → Int} {J : zp_H → Prop} (hw : zk_W zB gh J zB_fz) (hh : ∀ s ∈ zh_l, zk_Ct L σ zB gh J s) : zk_Ct L σ zB gh J ze_e52 := zk_chk_ok hw (List.forall_mem_cons.mpr ⟨zc_e26 hw hh, List.forall_mem_cons.mpr ⟨zc_e51 hw hh, fun _ h => absurd h List.not_mem_nil⟩⟩) zt_e52
/-- yX2_readPart -/
def ze_e53 : zk_T := (94, [.inr (some (some 54)), .inr (some (some 23)), .inl (2, 2)], [], [(52, 2), (52, 3), (52, 4), (52, 5), (53, 1), (53, 2)], [32], [(.inl (some (.inl (1, 1))), [], []), (.inl (some (.inl (0, 0))), [], [])], 25)
theorem zt_e53 : zk_chk zB zB_fz [ze_e26, ze_e52] [] 5000 ze_e53 = true := by decide +kernel
theorem zc_e53 {L : Nat} {σ : Nat → Int32} {gh : zp_H → Int} {J : zp_H → Prop} (hw : zk_W zB gh J zB_fz) (hh : ∀ s ∈ zh_l, zk_Ct L σ zB gh J s) : zk_Ct L σ zB gh J ze_e53 := zk_chk_ok hw (List.forall_mem_cons.mpr ⟨zc_e26 hw hh, List.forall_mem_cons.mpr ⟨zc_e52 hw hh, fun _ h => absurd h List.not_mem_nil⟩⟩) zt_e53
