/-! ===== summaries that the checker shows (printed) ===== -/
/-- yX2_readTest -/
def ze_e63 : zk_T := (91, [.inr (some (some 54)), .inr (some (some 23)), .inl (1, 1)], [], [(52, 2), (52, 3), (52, 4), (52, 5), (53, 1), (53, 2)], [32], [(.inl (some (.inl (1, 1))), [], []), (.inl (some (.inl (0, 0))), [], [])], 35)
theorem zt_e63 : zk_chk zB zB_fz [ze_e26, ze_e62] [] 5000 ze_e63 = true := by decide +kernel
theorem zc_e63 {L : Nat} {σ : Nat → Int32} {gh : zp_H → Int} {J : zp_H → Prop} (hw : zk_W zB gh J zB_fz) (hh : ∀ s ∈ zh_l, zk_Ct L σ zB gh J s) : zk_Ct L σ zB gh J ze_e63 := zk_chk_ok hw (List.forall_mem_cons.mpr ⟨zc_e26 hw hh, List.forall_mem_cons.mpr ⟨zc_e62 hw hh, fun _ h => absurd h List.not_mem_nil⟩⟩) zt_e63
/-- yX2_readNot -/
def ze_e64 : zk_T := (89, [.inr (some (some 54)), .inr (some (some 23)), .inl (1, 1)], [], [(52, 2), (52, 3), (52, 4), (52, 5), (53, 1), (53, 2)], [32], [(.inl (some (.inl (0, 0))), [], []), (.inl (some (.inl (1, 1))), [], [])], 36)
theorem zt_e64 : zk_chk zB zB_fz [ze_e26, ze_e63] [(2, [(.inl 3, 0, 7, false)], [], [], 0, true), (65, [(.inl 4, 0, 7, false)], [], [], 0, true)] 5000 ze_e64 = true := by decide +kernel
theorem zc_e64 {L : Nat} {σ : Nat → Int32} {gh : zp_H → Int} {J : zp_H → Prop} (hw : zk_W zB gh J zB_fz) (hh : ∀ s ∈ zh_l, zk_Ct L σ zB gh J s) : zk_Ct L σ zB gh J ze_e64 := zk_chk_ok hw (List.forall_mem_cons.mpr ⟨zc_e26 hw hh, List.forall_mem_cons.mpr ⟨zc_e63 hw hh, fun _ h => absurd h List.not_mem_nil⟩⟩) zt_e64
/-- yX2_readAnd -/
def ze_e65 : zk_T := (88, [.inr (some (some 54)), .inr (some (some 23)), .inl (1, 1)], [], [(52, 2), (52, 3), (52, 4), (52, 5), (53, 1), (53, 2)], [32], [(.inl (some (.inl (0, 0))), [], []), (.inl (some (.inl (1, 1))), [], [])], 37)
theorem zt_e65 : zk_chk zB zB_fz [ze_e26, ze_e64] [(13, [(.inl 3, 0, 700, false)], [], [], 0, true)] 5000 ze_e65 = true := by decide +kernel
theorem zc_e65 {L : Nat} {σ : Nat → Int32} {gh : zp_H → Int} {J : zp_H → Prop} (hw : zk_W zB gh J zB_fz) (hh : ∀ s ∈ zh_l, zk_Ct L σ zB gh J s) : zk_Ct L σ zB gh J ze_e65 := zk_chk_ok hw (List.forall_mem_cons.mpr ⟨zc_e26 hw hh, List.forall_mem_cons.mpr ⟨zc_e64 hw hh, fun _ h => absurd h List.not_mem_nil⟩⟩) zt_e65
/-- yX2_readExpr -/
def ze_e66 : zk_T := (85, [.inr (some (some 54)), .inr (some (some 23)), .inl (1, 1)], [], [(52, 2), (52, 3), (52, 4), (52, 5), (53, 1), (53, 2)], [32], [(.inl (some (.inl (0, 0))), [], []), (.inl (some (.inl (1, 1))), [], [])], 38)
theorem zt_e66 : zk_chk zB zB_fz [ze_e26, ze_e65] [(73, [(.inl 3, 0, 700, false)], [], [], 0, true)] 5000 ze_e66 = true := by decide +kernel
theorem zc_e66 {L : Nat} {σ : Nat → Int32} {gh : zp_H → Int} {J : zp_H → Prop} (hw : zk_W zB gh J zB_fz) (hh : ∀ s ∈ zh_l, zk_Ct L σ zB gh J s) : zk_Ct L σ zB gh J ze_e66 := zk_chk_ok hw (List.forall_mem_cons.mpr ⟨zc_e26 hw hh, List.forall_mem_cons.mpr ⟨zc_e65 hw hh, fun _ h => absurd h List.not_mem_nil⟩⟩) zt_e66
/-- yX2_readPart -/
def ze_e67 : zk_T := (94, [.inr (some (some 54)), .inr (some (some 23)), .inl (0, 0)], [], [(52, 2), (52, 3), (52, 4), (52, 5), (53, 1), (53, 2)], [32], [(.inl (some (.inl (1, 1))), [], []), (.inl (some (.inl (0, 0))), [], [])], 39)
theorem zt_e67 : zk_chk zB zB_fz [ze_e26, ze_e66] [] 5000 ze_e67 = true := by decide +kernel
theorem zc_e67 {L : Nat} {σ : Nat → Int32} {gh : zp_H → Int} {J : zp_H → Prop} (hw : zk_W zB gh J zB_fz) (hh : ∀ s ∈ zh_l, zk_Ct L σ zB gh J s) : zk_Ct L σ zB gh J ze_e67 := zk_chk_ok hw (List.forall_mem_cons.mpr ⟨zc_e26 hw hh, List.forall_mem_cons.mpr ⟨zc_e66 hw hh, fun _ h => absurd h List.not_mem_nil⟩⟩) zt_e67
/-- yX2_readProduct -/
def ze_e68 : zk_T := (93, [.inr (some (some 54)), .inr (some (some 23)), .inl (0, 0)], [], [(52, 2), (52, 3), (52, 4), (52, 5), (53, 1), (53, 2)], [32], [(.inl (some (.inl (0, 0))), [], []), (.inl (some (.inl (1, 1))), [], [])], 40)
theorem zt_e68 : zk_chk zB zB_fz [ze_e26, ze_e67] [(13, [(.inl 3, 0, 700, false)], [], [], 0, true)] 5000 ze_e68 = true := by decide +kernel
theorem zc_e68 {L : Nat} {σ : Nat → Int32} {gh : zp_H → Int} {J : zp_H → Prop} (hw : zk_W zB gh J zB_fz) (hh : ∀ s ∈ zh_l, zk_Ct L σ zB gh J s) : zk_Ct L σ zB gh J ze_e68 := zk_chk_ok hw (List.forall_mem_cons.mpr ⟨zc_e26 hw hh, List.forall_mem_cons.mpr ⟨zc_e67 hw hh, fun _ h => absurd h List.not_mem_nil⟩⟩) zt_e68
/-- yX2_readSum -/
def ze_e69 : zk_T := (92, [.inr (some (some 54)), .inr (some (some 23)), .inl (0, 0)], [], [(52, 2), (52, 3), (52, 4), (52, 5), (53, 1), (53, 2)], [32], [(.inl (some (.inl (0, 0))), [], []), (.inl (some (.inl (1, 1))), [], [])], 41)
theorem zt_e69 : zk_chk zB zB_fz [ze_e26, ze_e68] [(13, [(.inl 3, 0, 700, false)], [], [], 0, true)] 5000 ze_e69 = true := by decide +kernel
theorem zc_e69 {L : Nat} {σ : Nat → Int32} {gh : zp_H → Int} {J : zp_H → Prop} (hw : zk_W zB gh J zB_fz) (hh : ∀ s ∈ zh_l, zk_Ct L σ zB gh J s) : zk_Ct L σ zB gh J ze_e69 := zk_chk_ok hw (List.forall_mem_cons.mpr ⟨zc_e26 hw hh, List.forall_mem_cons.mpr ⟨zc_e68 hw hh, fun _ h => absurd h List.not_mem_nil⟩⟩) zt_e69
/-- yX2_readTest -/
def ze_e70 : zk_T := (91, [.inr (some (some 54)), .inr (some (some 23)), .inl (0, 0)], [], [(52, 2), (52, 3), (52, 4), (52, 5), (53, 1), (53, 2)], [32], [(.inl (some (.inl (1, 1))), [], []), (.inl (some (.inl (0, 0))), [], [])], 42)
theorem zt_e70 : zk_chk zB zB_fz [ze_e26, ze_e69] [] 5000 ze_e70 = true := by decide +kernel
theorem zc_e70 {L : Nat} {σ : Nat → Int32} {gh : zp_H → Int} {J : zp_H → Prop} (hw : zk_W zB gh J zB_fz) (hh : ∀ s ∈ zh_l, zk_Ct L σ zB gh J s) : zk_Ct L σ zB gh J ze_e70 := zk_chk_ok hw (List.forall_mem_cons.mpr ⟨zc_e26 hw hh, List.forall_mem_cons.mpr ⟨zc_e69 hw hh, fun _ h => absurd h List.not_mem_nil⟩⟩) zt_e70
/-- yX2_readNot -/
def ze_e71 : zk_T := (89, [.inr (some (some 54)), .inr (some (some 23)), .inl (0, 0)], [], [(52, 2), (52, 3), (52, 4), (52, 5), (53, 1), (53, 2)], [32], [(.inl (some (.inl (0, 0))), [], []), (.inl (some (.inl (1, 1))), [], [])], 43)
theorem zt_e71 : zk_chk zB zB_fz [ze_e26, ze_e70] [(2, [(.inl 3, 0, 7, false)], [], [], 0, true), (65, [(.inl 4, 0, 7, false)], [], [], 0, true)] 5000 ze_e71 = true := by decide +kernel
theorem zc_e71 {L : Nat} {σ : Nat → Int32} {gh : zp_H → Int} {J : zp_H → Prop} (hw : zk_W zB gh J zB_fz) (hh : ∀ s ∈ zh_l, zk_Ct L σ zB gh J s) : zk_Ct L σ zB gh J ze_e71 := zk_chk_ok hw (List.forall_mem_cons.mpr ⟨zc_e26 hw hh, List.forall_mem_cons.mpr ⟨zc_e70 hw hh, fun _ h => absurd h List.not_mem_nil⟩⟩) zt_e71
