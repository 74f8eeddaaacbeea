/-! ===== summaries that the checker shows (printed) ===== -/
/-- yJ7_fill_d0a16 -/
def ze_e27 : zk_T := (6, [.inr (some (some 26)), .inr none], [], [], [25], [(.inl none, [], [])], 1)
theorem zt_e27 : zk_chk zB zB_fz [] [(6, [(.inl 3, 0, 4, false)], [], [], 0, true)] 5000 ze_e27 = true := by decide +kernel
theorem zc_e27 {L : Nat} {σ : Nat → Int32} {gh : zp_H → Int} {J : zp_H → Prop} (hw : zk_W zB gh J zB_fz) (hh : ∀ s ∈ zh_l, zk_Ct L σ zB gh J s) : zk_Ct L σ zB gh J ze_e27 := zk_chk_ok hw (fun _ h => absurd h List.not_mem_nil) zt_e27
/-- yX7_readSlate -/
def ze_e28 : zk_T := (76, [.inr (some (some 52)), .inr (some (some 23)), .inr (some (some 34))], [(33, 0, 0, 7)], [(33, 0), (51, 4), (51, 5), (52, 2), (52, 3), (52, 4), (52, 5)], [34, 35, 36, 37, 38, 39], [(.inl (some (.inl (0, 0))), [], []), (.inl (some (.inl (1, 1))), [], [])], 5)
theorem zt_e28 : zk_chk zB zB_fz [ze_e26] [(49, [(.inl 6, 0, 8, false)], [], [], 0, true)] 5000 ze_e28 = true := by decide +kernel
theorem zc_e28 {L : Nat} {σ : Nat → Int32} {gh : zp_H → Int} {J : zp_H → Prop} (hw : zk_W zB gh J zB_fz) (hh : ∀ s ∈ zh_l, zk_Ct L σ zB gh J s) : zk_Ct L σ zB gh J ze_e28 := zk_chk_ok hw (List.forall_mem_cons.mpr ⟨zc_e26 hw hh, fun _ h => absurd h List.not_mem_nil⟩) zt_e28
/-- yX7_readHand -/
def ze_e29 : zk_T := (79, [.inr (some (some 52)), .inr (some (some 23))], [(22, 7, 0, 4)], [(22, 7), (51, 4), (51, 5), (52, 2), (52, 3), (52, 4), (52, 5)], [26], [(.inl (some (.inl (0, 0))), [], []), (.inl (some (.inl (1, 1))), [], [])], 5)
theorem zt_e29 : zk_chk zB zB_fz [ze_e26] [(5, [(.inl 2, (-2147483648), 2147483647, false), (.inl 3, 0, 4, false)], [], [], 1, true)] 5000 ze_e29 = true := by decide +kernel
theorem zc_e29 {L : Nat} {σ : Nat → Int32} {gh : zp_H → Int} {J : zp_H → Prop} (hw : zk_W zB gh J zB_fz) (hh : ∀ s ∈ zh_l, zk_Ct L σ zB gh J s) : zk_Ct L σ zB gh J ze_e29 := zk_chk_ok hw (List.forall_mem_cons.mpr ⟨zc_e26 hw hh, fun _ h => absurd h List.not_mem_nil⟩) zt_e29
/-- yX7_readPilot -/
def ze_e30 : zk_T := (82, [.inr (some (some 52)), .inr (some (some 23)), .inr (some (some 34))], [(22, 12, 0, 3)], [(22, 12), (51, 4), (51, 5), (52, 2), (52, 3), (52, 4), (52, 5)], [27, 28, 29], [(.inl (some (.inl (0, 0))), [], []), (.inl (some (.inl (1, 1))), [], [])], 5)
theorem zt_e30 : zk_chk zB zB_fz [ze_e26] [(39, [(.inl 5, 0, 255, false), (.inl 6, 0, 9, false)], [], [], 1, true)] 5000 ze_e30 = true := by decide +kernel
theorem zc_e30 {L : Nat} {σ : Nat → Int32} {gh : zp_H → Int} {J : zp_H → Prop} (hw : zk_W zB gh J zB_fz) (hh : ∀ s ∈ zh_l, zk_Ct L σ zB gh J s) : zk_Ct L σ zB gh J ze_e30 := zk_chk_ok hw (List.forall_mem_cons.mpr ⟨zc_e26 hw hh, fun _ h => absurd h List.not_mem_nil⟩) zt_e30
/-- yX2_readExpr -/
def ze_e31 : zk_T := (85, [.inr (some (some 54)), .inr (some (some 23)), .inl (6, 6)], [], [(53, 2)], [], [(.inl (some (.inl (0, 0))), [], [])], 2)
theorem zt_e31 : zk_chk zB zB_fz [] [] 5000 ze_e31 = true := by decide +kernel
theorem zc_e31 {L : Nat} {σ : Nat → Int32} {gh : zp_H → Int} {J : zp_H → Prop} (hw : zk_W zB gh J zB_fz) (hh : ∀ s ∈ zh_l, zk_Ct L σ zB gh J s) : zk_Ct L σ zB gh J ze_e31 := zk_chk_ok hw (fun _ h => absurd h List.not_mem_nil) zt_e31
/-- yX2_readPart -/
def ze_e32 : zk_T := (94, [.inr (some (some 54)), .inr (some (some 23)), .inl (5, 5)], [], [(52, 2), (52, 3), (52, 4), (52, 5), (53, 1), (53, 2)], [32], [(.inl (some (.inl (0, 0))), [], []), (.inl (some (.inl (1, 1))), [], [])], 4)
theorem zt_e32 : zk_chk zB zB_fz [ze_e26, ze_e31] [] 5000 ze_e32 = true := by decide +kernel
theorem zc_e32 {L : Nat} {σ : Nat → Int32} {gh : zp_H → Int} {J : zp_H → Prop} (hw : zk_W zB gh J zB_fz) (hh : ∀ s ∈ zh_l, zk_Ct L σ zB gh J s) : zk_Ct L σ zB gh J ze_e32 := zk_chk_ok hw (List.forall_mem_cons.mpr ⟨zc_e26 hw hh, List.forall_mem_cons.mpr ⟨zc_e31 hw hh, fun _ h => absurd h List.not_mem_nil⟩⟩) zt_e32
/-- yX2_readProduct -/
def ze_e33 : zk_T := (93, [.inr (some (some 54)), .inr (some (some 23)), .inl (5, 5)], [], [(52, 2), (52, 3), (52, 4), (52, 5), (53, 1), (53, 2)], [32], [(.inl (some (.inl (0, 0))), [], []), (.inl (some (.inl (1, 1))), [], [])], 5)
theorem zt_e33 : zk_chk zB zB_fz [ze_e26, ze_e32] [(13, [(.inl 3, 0, 700, false)], [], [], 0, true)] 5000 ze_e33 = true := by decide +kernel
theorem zc_e33 {L : Nat} {σ : Nat → Int32} {gh : zp_H → Int} {J : zp_H → Prop} (hw : zk_W zB gh J zB_fz) (hh : ∀ s ∈ zh_l, zk_Ct L σ zB gh J s) : zk_Ct L σ zB gh J ze_e33 := zk_chk_ok hw (List.forall_mem_cons.mpr ⟨zc_e26 hw hh, List.forall_mem_cons.mpr ⟨zc_e32 hw hh, fun _ h => absurd h List.not_mem_nil⟩⟩) zt_e33
/-- yX2_readSum -/
def ze_e34 : zk_T := (92, [.inr (some (some 54)), .inr (some (some 23)), .inl (5, 5)], [], [(52, 2), (52, 3), (52, 4), (52, 5), (53, 1), (53, 2)], [32], [(.inl (some (.inl (0, 0))), [], []), (.inl (some (.inl (1, 1))), [], [])], 6)
theorem zt_e34 : zk_chk zB zB_fz [ze_e26, ze_e33] [(13, [(.inl 3, 0, 700, false)], [], [], 0, true)] 5000 ze_e34 = true := by decide +kernel
theorem zc_e34 {L : Nat} {σ : Nat → Int32} {gh : zp_H → Int} {J : zp_H → Prop} (hw : zk_W zB gh J zB_fz) (hh : ∀ s ∈ zh_l, zk_Ct L σ zB gh J s) : zk_Ct L σ zB gh J ze_e34 := zk_chk_ok hw (List.forall_mem_cons.mpr ⟨zc_e26 hw hh, List.forall_mem_cons.mpr ⟨zc_e33 hw hh, fun _ h => absurd h List.not_mem_nil⟩⟩) zt_e34
/-- yX2_readTest -/
def ze_e35 : zk_T := (91, [.inr (some (some 54)), .inr (some (some 23)), .inl (5, 5)], [], [(52, 2), (52, 3), (52, 4), (52, 5), (53, 1), (53, 2)], [32], [(.inl (some (.inl (1, 1))), [], []), (.inl (some (.inl (0, 0))), [], [])], 7)
theorem zt_e35 : zk_chk zB zB_fz [ze_e26, ze_e34] [] 5000 ze_e35 = true := by decide +kernel
theorem zc_e35 {L : Nat} {σ : Nat → Int32} {gh : zp_H → Int} {J : zp_H → Prop} (hw : zk_W zB gh J zB_fz) (hh : ∀ s ∈ zh_l, zk_Ct L σ zB gh J s) : zk_Ct L σ zB gh J ze_e35 := zk_chk_ok hw (List.forall_mem_cons.mpr ⟨zc_e26 hw hh, List.forall_mem_cons.mpr ⟨zc_e34 hw hh, fun _ h => absurd h List.not_mem_nil⟩⟩) zt_e35
