/-! ===== summaries that the checker shows (printed) ===== -/
/-- yX2_readProduct -/
def ze_e54 : zk_T := (93, [.inr (some (some 54)), .inr (some (some 23)), .inl (2, 2)], [], [(52, 2), (52, 3), (52, 4), (52, 5), (53, 1), (53, 2)], [32], [(.inl (some (.inl (0, 0))), [], []), (.inl (some (.inl (1, 1))), [], [])], 26)
theorem zt_e54 : zk_chk zB zB_fz [ze_e26, ze_e53] [(13, [(.inl 3, 0, 700, false)], [], [], 0, true)] 5000 ze_e54 = true := by decide +kernel
theorem zc_e54 {L : Nat} {σ : Nat → Int32} {gh : zp_H → Int} {J : zp_H → Prop} (hw : zk_W zB gh J zB_fz) (hh : ∀ s ∈ zh_l, zk_Ct L σ zB gh J s) : zk_Ct L σ zB gh J ze_e54 := zk_chk_ok hw (List.forall_mem_cons.mpr ⟨zc_e26 hw hh, List.forall_mem_cons.mpr ⟨zc_e53 hw hh, fun _ h => absurd h List.not_mem_nil⟩⟩) zt_e54
/-- yX2_readSum -/
def ze_e55 : zk_T := (92, [.inr (some (some 54)), .inr (some (some 23)), .inl (2, 2)], [], [(52, 2), (52, 3), (52, 4), (52, 5), (53, 1), (53, 2)], [32], [(.inl (some (.inl (0, 0))), [], []), (.inl (some (.inl (1, 1))), [], [])], 27)
theorem zt_e55 : zk_chk zB zB_fz [ze_e26, ze_e54] [(13, [(.inl 3, 0, 700, false)], [], [], 0, true)] 5000 ze_e55 = true := by decide +kernel
theorem zc_e55 {L : Nat} {σ : Nat → Int32} {gh : zp_H → Int} {J : zp_H → Prop} (hw : zk_W zB gh J zB_fz) (hh : ∀ s ∈ zh_l, zk_Ct L σ zB gh J s) : zk_Ct L σ zB gh J ze_e55 := zk_chk_ok hw (List.forall_mem_cons.mpr ⟨zc_e26 hw hh, List.forall_mem_cons.mpr ⟨zc_e54 hw hh, fun _ h => absurd h List.not_mem_nil⟩⟩) zt_e55
/-- yX2_readTest -/
def ze_e56 : zk_T := (91, [.inr (some (some 54)), .inr (some (some 23)), .inl (2, 2)], [], [(52, 2), (52, 3), (52, 4), (52, 5), (53, 1), (53, 2)], [32], [(.inl (some (.inl (1, 1))), [], []), (.inl (some (.inl (0, 0))), [], [])], 28)
theorem zt_e56 : zk_chk zB zB_fz [ze_e26, ze_e55] [] 5000 ze_e56 = true := by decide +kernel
theorem zc_e56 {L : Nat} {σ : Nat → Int32} {gh : zp_H → Int} {J : zp_H → Prop} (hw : zk_W zB gh J zB_fz) (hh : ∀ s ∈ zh_l, zk_Ct L σ zB gh J s) : zk_Ct L σ zB gh J ze_e56 := zk_chk_ok hw (List.forall_mem_cons.mpr ⟨zc_e26 hw hh, List.forall_mem_cons.mpr ⟨zc_e55 hw hh, fun _ h => absurd h List.not_mem_nil⟩⟩) zt_e56
/-- yX2_readNot -/
def ze_e57 : zk_T := (89, [.inr (some (some 54)), .inr (some (some 23)), .inl (2, 2)], [], [(52, 2), (52, 3), (52, 4), (52, 5), (53, 1), (53, 2)], [32], [(.inl (some (.inl (0, 0))), [], []), (.inl (some (.inl (1, 1))), [], [])], 29)
theorem zt_e57 : zk_chk zB zB_fz [ze_e26, ze_e56] [(2, [(.inl 3, 0, 7, false)], [], [], 0, true), (65, [(.inl 4, 0, 7, false)], [], [], 0, true)] 5000 ze_e57 = true := by decide +kernel
theorem zc_e57 {L : Nat} {σ : Nat → Int32} {gh : zp_H → Int} {J : zp_H → Prop} (hw : zk_W zB gh J zB_fz) (hh : ∀ s ∈ zh_l, zk_Ct L σ zB gh J s) : zk_Ct L σ zB gh J ze_e57 := zk_chk_ok hw (List.forall_mem_cons.mpr ⟨zc_e26 hw hh, List.forall_mem_cons.mpr ⟨zc_e56 hw hh, fun _ h => absurd h List.not_mem_nil⟩⟩) zt_e57
/-- yX2_readAnd -/
def ze_e58 : zk_T := (88, [.inr (some (some 54)), .inr (some (some 23)), .inl (2, 2)], [], [(52, 2), (52, 3), (52, 4), (52, 5), (53, 1), (53, 2)], [32], [(.inl (some (.inl (0, 0))), [], []), (.inl (some (.inl (1, 1))), [], [])], 30)
theorem zt_e58 : zk_chk zB zB_fz [ze_e26, ze_e57] [(13, [(.inl 3, 0, 700, false)], [], [], 0, true)] 5000 ze_e58 = true := by decide +kernel
theorem zc_e58 {L : Nat} {σ : Nat → Int32} {gh : zp_H → Int} {J : zp_H → Prop} (hw : zk_W zB gh J zB_fz) (hh : ∀ s ∈ zh_l, zk_Ct L σ zB gh J s) : zk_Ct L σ zB gh J ze_e58 := zk_chk_ok hw (List.forall_mem_cons.mpr ⟨zc_e26 hw hh, List.forall_mem_cons.mpr ⟨zc_e57 hw hh, fun _ h => absurd h List.not_mem_nil⟩⟩) zt_e58
/-- yX2_readExpr -/
def ze_e59 : zk_T := (85, [.inr (some (some 54)), .inr (some (some 23)), .inl (2, 2)], [], [(52, 2), (52, 3), (52, 4), (52, 5), (53, 1), (53, 2)], [32], [(.inl (some (.inl (0, 0))), [], []), (.inl (some (.inl (1, 1))), [], [])], 31)
theorem zt_e59 : zk_chk zB zB_fz [ze_e26, ze_e58] [(73, [(.inl 3, 0, 700, false)], [], [], 0, true)] 5000 ze_e59 = true := by decide +kernel
theorem zc_e59 {L : Nat} {σ : Nat → Int32} {gh : zp_H → Int} {J : zp_H → Prop} (hw : zk_W zB gh J zB_fz) (hh : ∀ s ∈ zh_l, zk_Ct L σ zB gh J s) : zk_Ct L σ zB gh J ze_e59 := zk_chk_ok hw (List.forall_mem_cons.mpr ⟨zc_e26 hw hh, List.forall_mem_cons.mpr ⟨zc_e58 hw hh, fun _ h => absurd h List.not_mem_nil⟩⟩) zt_e59
/-- yX2_readPart -/
def ze_e60 : zk_T := (94, [.inr (some (some 54)), .inr (some (some 23)), .inl (1, 1)], [], [(52, 2), (52, 3), (52, 4), (52, 5), (53, 1), (53, 2)], [32], [(.inl (some (.inl (1, 1))), [], []), (.inl (some (.inl (0, 0))), [], [])], 32)
theorem zt_e60 : zk_chk zB zB_fz [ze_e26, ze_e59] [] 5000 ze_e60 = true := by decide +kernel
theorem zc_e60 {L : Nat} {σ : Nat → Int32} {gh : zp_H → Int} {J : zp_H → Prop} (hw : zk_W zB gh J zB_fz) (hh : ∀ s ∈ zh_l, zk_Ct L σ zB gh J s) : zk_Ct L σ zB gh J ze_e60 := zk_chk_ok hw (List.forall_mem_cons.mpr ⟨zc_e26 hw hh, List.forall_mem_cons.mpr ⟨zc_e59 hw hh, fun _ h => absurd h List.not_mem_nil⟩⟩) zt_e60
/-- yX2_readProduct -/
def ze_e61 : zk_T := (93, [.inr (some (some 54)), .inr (some (some 23)), .inl (1, 1)], [], [(52, 2), (52, 3), (52, 4), (52, 5), (53, 1), (53, 2)], [32], [(.inl (some (.inl (0, 0))), [], []), (.inl (some (.inl (1, 1))), [], [])], 33)
theorem zt_e61 : zk_chk zB zB_fz [ze_e26, ze_e60] [(13, [(.inl 3, 0, 700, false)], [], [], 0, true)] 5000 ze_e61 = true := by decide +kernel
theorem zc_e61 {L : Nat} {σ : Nat → Int32} {gh : zp_H → Int} {J : zp_H → Prop} (hw : zk_W zB gh J zB_fz) (hh : ∀ s ∈ zh_l, zk_Ct L σ zB gh J s) : zk_Ct L σ zB gh J ze_e61 := zk_chk_ok hw (List.forall_mem_cons.mpr ⟨zc_e26 hw hh, List.forall_mem_cons.mpr ⟨zc_e60 hw hh, fun _ h => absurd h List.not_mem_nil⟩⟩) zt_e61
/-- yX2_readSum -/
def ze_e62 : zk_T := (92, [.inr (some (some 54)), .inr (some (some 23)), .inl (1, 1)], [], [(52, 2), (52, 3), (52, 4), (52, 5), (53, 1), (53, 2)], [32], [(.inl (some (.inl (0, 0))), [], []), (.inl (some (.inl (1, 1))), [], [])], 34)
theorem zt_e62 : zk_chk zB zB_fz [ze_e26, ze_e61] [(13, [(.inl 3, 0, 700, false)], [], [], 0, true)] 5000 ze_e62 = true := by decide +kernel
theorem zc_e62 {L : Nat} {σ : Nat → Int32} {gh : zp_H → Int} {J : zp_H → Prop} (hw : zk_W zB gh J zB_fz) (hh : ∀ s ∈ zh_l, zk_Ct L σ zB gh J s) : zk_Ct L σ zB gh J ze_e62 := zk_chk_ok hw (List.forall_mem_cons.mpr ⟨zc_e26 hw hh, List.forall_mem_cons.mpr ⟨zc_e61 hw hh, fun _ h => absurd h List.not_mem_nil⟩⟩) zt_e62
