/-! ===== summaries that the checker shows (printed) ===== -/
/-- yX2_readNot -/
def ze_e36 : zk_T := (89, [.inr (some (some 54)), .inr (some (some 23)), .inl (5, 5)], [], [(52, 2), (52, 3), (52, 4), (52, 5), (53, 1), (53, 2)], [32], [(.inl (some (.inl (0, 0))), [], []), (.inl (some (.inl (1, 1))), [], [])], 8)
theorem zt_e36 : zk_chk zB zB_fz [ze_e26, ze_e35] [(2, [(.inl 3, 0, 7, false)], [], [], 0, true), (65, [(.inl 4, 0, 7, false)], [], [], 0, true)] 5000 ze_e36 = true := by decide +kernel
theorem zc_e36 {L : Nat} {σ : Nat → Int32} {gh : zp_H → Int} {J : zp_H → Prop} (hw : zk_W zB gh J zB_fz) (hh : ∀ s ∈ zh_l, zk_Ct L σ zB gh J s) : zk_Ct L σ zB gh J ze_e36 := zk_chk_ok hw (List.forall_mem_cons.mpr ⟨zc_e26 hw hh, List.forall_mem_cons.mpr ⟨zc_e35 hw hh, fun _ h => absurd h List.not_mem_nil⟩⟩) zt_e36
/-- yX2_readAnd -/
def ze_e37 : zk_T := (88, [.inr (some (some 54)), .inr (some (some 23)), .inl (5, 5)], [], [(52, 2), (52, 3), (52, 4), (52, 5), (53, 1), (53, 2)], [32], [(.inl (some (.inl (0, 0))), [], []), (.inl (some (.inl (1, 1))), [], [])], 9)
theorem zt_e37 : zk_chk zB zB_fz [ze_e26, ze_e36] [(13, [(.inl 3, 0, 700, false)], [], [], 0, true)] 5000 ze_e37 = true := by decide +kernel
theorem zc_e37 {L : Nat} {σ : Nat → Int32} {gh : zp_H → Int} {J : zp_H → Prop} (hw : zk_W zB gh J zB_fz) (hh : ∀ s ∈ zh_l, zk_Ct L σ zB gh J s) : zk_Ct L σ zB gh J ze_e37 := zk_chk_ok hw (List.forall_mem_cons.mpr ⟨zc_e26 hw hh, List.forall_mem_cons.mpr ⟨zc_e36 hw hh, fun _ h => absurd h List.not_mem_nil⟩⟩) zt_e37
/-- yX2_readExpr -/
def ze_e38 : zk_T := (85, [.inr (some (some 54)), .inr (some (some 23)), .inl (5, 5)], [], [(52, 2), (52, 3), (52, 4), (52, 5), (53, 1), (53, 2)], [32], [(.inl (some (.inl (0, 0))), [], []), (.inl (some (.inl (1, 1))), [], [])], 10)
theorem zt_e38 : zk_chk zB zB_fz [ze_e26, ze_e37] [(73, [(.inl 3, 0, 700, false)], [], [], 0, true)] 5000 ze_e38 = true := by decide +kernel
theorem zc_e38 {L : Nat} {σ : Nat → Int32} {gh : zp_H → Int} {J : zp_H → Prop} (hw : zk_W zB gh J zB_fz) (hh : ∀ s ∈ zh_l, zk_Ct L σ zB gh J s) : zk_Ct L σ zB gh J ze_e38 := zk_chk_ok hw (List.forall_mem_cons.mpr ⟨zc_e26 hw hh, List.forall_mem_cons.mpr ⟨zc_e37 hw hh, fun _ h => absurd h List.not_mem_nil⟩⟩) zt_e38
/-- yX2_readPart -/
def ze_e39 : zk_T := (94, [.inr (some (some 54)), .inr (some (some 23)), .inl (4, 4)], [], [(52, 2), (52, 3), (52, 4), (52, 5), (53, 1), (53, 2)], [32], [(.inl (some (.inl (1, 1))), [], []), (.inl (some (.inl (0, 0))), [], [])], 11)
theorem zt_e39 : zk_chk zB zB_fz [ze_e26, ze_e38] [] 5000 ze_e39 = true := by decide +kernel
theorem zc_e39 {L : Nat} {σ : Nat → Int32} {gh : zp_H → Int} {J : zp_H → Prop} (hw : zk_W zB gh J zB_fz) (hh : ∀ s ∈ zh_l, zk_Ct L σ zB gh J s) : zk_Ct L σ zB gh J ze_e39 := zk_chk_ok hw (List.forall_mem_cons.mpr ⟨zc_e26 hw hh, List.forall_mem_cons.mpr ⟨zc_e38 hw hh, fun _ h => absurd h List.not_mem_nil⟩⟩) zt_e39
/-- yX2_readProduct -/
def ze_e40 : zk_T := (93, [.inr (some (some 54)), .inr (some (some 23)), .inl (4, 4)], [], [(52, 2), (52, 3), (52, 4), (52, 5), (53, 1), (53, 2)], [32], [(.inl (some (.inl (0, 0))), [], []), (.inl (some (.inl (1, 1))), [], [])], 12)
theorem zt_e40 : zk_chk zB zB_fz [ze_e26, ze_e39] [(13, [(.inl 3, 0, 700, false)], [], [], 0, true)] 5000 ze_e40 = true := by decide +kernel
theorem zc_e40 {L : Nat} {σ : Nat → Int32} {gh : zp_H → Int} {J : zp_H → Prop} (hw : zk_W zB gh J zB_fz) (hh : ∀ s ∈ zh_l, zk_Ct L σ zB gh J s) : zk_Ct L σ zB gh J ze_e40 := zk_chk_ok hw (List.forall_mem_cons.mpr ⟨zc_e26 hw hh, List.forall_mem_cons.mpr ⟨zc_e39 hw hh, fun _ h => absurd h List.not_mem_nil⟩⟩) zt_e40
/-- yX2_readSum -/
def ze_e41 : zk_T := (92, [.inr (some (some 54)), .inr (some (some 23)), .inl (4, 4)], [], [(52, 2), (52, 3), (52, 4), (52, 5), (53, 1), (53, 2)], [32], [(.inl (some (.inl (0, 0))), [], []), (.inl (some (.inl (1, 1))), [], [])], 13)
theorem zt_e41 : zk_chk zB zB_fz [ze_e26, ze_e40] [(13, [(.inl 3, 0, 700, false)], [], [], 0, true)] 5000 ze_e41 = true := by decide +kernel
theorem zc_e41 {L : Nat} {σ : Nat → Int32} {gh : zp_H → Int} {J : zp_H → Prop} (hw : zk_W zB gh J zB_fz) (hh : ∀ s ∈ zh_l, zk_Ct L σ zB gh J s) : zk_Ct L σ zB gh J ze_e41 := zk_chk_ok hw (List.forall_mem_cons.mpr ⟨zc_e26 hw hh, List.forall_mem_cons.mpr ⟨zc_e40 hw hh, fun _ h => absurd h List.not_mem_nil⟩⟩) zt_e41
/-- yX2_readTest -/
def ze_e42 : zk_T := (91, [.inr (some (some 54)), .inr (some (some 23)), .inl (4, 4)], [], [(52, 2), (52, 3), (52, 4), (52, 5), (53, 1), (53, 2)], [32], [(.inl (some (.inl (1, 1))), [], []), (.inl (some (.inl (0, 0))), [], [])], 14)
theorem zt_e42 : zk_chk zB zB_fz [ze_e26, ze_e41] [] 5000 ze_e42 = true := by decide +kernel
theorem zc_e42 {L : Nat} {σ : Nat → Int32} {gh : zp_H → Int} {J : zp_H → Prop} (hw : zk_W zB gh J zB_fz) (hh : ∀ s ∈ zh_l, zk_Ct L σ zB gh J s) : zk_Ct L σ zB gh J ze_e42 := zk_chk_ok hw (List.forall_mem_cons.mpr ⟨zc_e26 hw hh, List.forall_mem_cons.mpr ⟨zc_e41 hw hh, fun _ h => absurd h List.not_mem_nil⟩⟩) zt_e42
/-- yX2_readNot -/
def ze_e43 : zk_T := (89, [.inr (some (some 54)), .inr (some (some 23)), .inl (4, 4)], [], [(52, 2), (52, 3), (52, 4), (52, 5), (53, 1), (53, 2)], [32], [(.inl (some (.inl (0, 0))), [], []), (.inl (some (.inl (1, 1))), [], [])], 15)
theorem zt_e43 : zk_chk zB zB_fz [ze_e26, ze_e42] [(2, [(.inl 3, 0, 7, false)], [], [], 0, true), (65, [(.inl 4, 0, 7, false)], [], [], 0, true)] 5000 ze_e43 = true := by decide +kernel
theorem zc_e43 {L : Nat} {σ : Nat → Int32} {gh : zp_H → Int} {J : zp_H → Prop} (hw : zk_W zB gh J zB_fz) (hh : ∀ s ∈ zh_l, zk_Ct L σ zB gh J s) : zk_Ct L σ zB gh J ze_e43 := zk_chk_ok hw (List.forall_mem_cons.mpr ⟨zc_e26 hw hh, List.forall_mem_cons.mpr ⟨zc_e42 hw hh, fun _ h => absurd h List.not_mem_nil⟩⟩) zt_e43
/-- yX2_readAnd -/
def ze_e44 : zk_T := (88, [.inr (some (some 54)), .inr (some (some 23)), .inl (4, 4)], [], [(52, 2), (52, 3), (52, 4), (52, 5), (53, 1), (53, 2)], [32], [(.inl (some (.inl (0, 0))), [], []), (.inl (some (.inl (1, 1))), [], [])], 16)
theorem zt_e44 : zk_chk zB zB_fz [ze_e26, ze_e43] [(13, [(.inl 3, 0, 700, false)], [], [], 0, true)] 5000 ze_e44 = true := by decide +kernel
theorem zc_e44 {L : Nat} {σ : Nat → Int32} {gh : zp_H → Int} {J : zp_H → Prop} (hw : zk_W zB gh J zB_fz) (hh : ∀ s ∈ zh_l, zk_Ct L σ zB gh J s) : zk_Ct L σ zB gh J ze_e44 := zk_chk_ok hw (List.forall_mem_cons.mpr ⟨zc_e26 hw hh, List.forall_mem_cons.mpr ⟨zc_e43 hw hh, fun _ h => absurd h List.not_mem_nil⟩⟩) zt_e44
