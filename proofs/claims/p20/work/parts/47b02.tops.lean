/-! ===== the class's calls (printed) ===== -/
/-- yL_count -/
def ze_t48 : zk_T := (100, [.inr (some (some 1)), .inl ((-2147483648), 2147483647), .inr (some (some 105))], [], [], [104], [(.inl (some (.inl (0, 1))), [], [])], 3)
theorem zt_t48 : zk_chk (zB_c 2) zB_fz [] [] 5000 ze_t48 = true := by decide +kernel
theorem zc_t48 {L : Nat} {σ : Nat → Int32} {gh : zp_H → Int} {J : zp_H → Prop} (hw : zk_W zB gh J zB_fz) (hh : ∀ s ∈ zh_l, zk_Ct L σ zB gh J s) : zk_Ct L σ (zB_c 2) gh J ze_t48 := zk_chk_ok (zB_cw hw) (fun _ h => absurd h List.not_mem_nil) zt_t48
/-- yL_cell -/
def ze_t49 : zk_T := (102, [.inr (some (some 1)), .inl ((-2147483648), 2147483647), .inl ((-2147483648), 2147483647), .inr (some (some 105))], [], [], [104], [(.inl (some (.inl (0, 1))), [], [])], 3)
theorem zt_t49 : zk_chk (zB_c 2) zB_fz [] [] 5000 ze_t49 = true := by decide +kernel
theorem zc_t49 {L : Nat} {σ : Nat → Int32} {gh : zp_H → Int} {J : zp_H → Prop} (hw : zk_W zB gh J zB_fz) (hh : ∀ s ∈ zh_l, zk_Ct L σ zB gh J s) : zk_Ct L σ (zB_c 2) gh J ze_t49 := zk_chk_ok (zB_cw hw) (fun _ h => absurd h List.not_mem_nil) zt_t49
/-- yL_slate -/
def ze_t50 : zk_T := (106, [.inr (some (some 1)), .inl ((-2147483648), 2147483647), .inl ((-2147483648), 2147483647), .inr (some (some 105))], [], [], [104], [(.inl (some (.inl (0, 1))), [], [])], 3)
theorem zt_t50 : zk_chk (zB_c 2) zB_fz [] [] 5000 ze_t50 = true := by decide +kernel
theorem zc_t50 {L : Nat} {σ : Nat → Int32} {gh : zp_H → Int} {J : zp_H → Prop} (hw : zk_W zB gh J zB_fz) (hh : ∀ s ∈ zh_l, zk_Ct L σ zB gh J s) : zk_Ct L σ (zB_c 2) gh J ze_t50 := zk_chk_ok (zB_cw hw) (fun _ h => absurd h List.not_mem_nil) zt_t50
/-- yL_mark -/
def ze_t51 : zk_T := (109, [.inr (some (some 1)), .inl ((-2147483648), 2147483647), .inl ((-2147483648), 2147483647), .inl ((-2147483648), 2147483647), .inr (some (some 105))], [], [], [104], [(.inl (some (.inl (0, 1))), [], [])], 3)
theorem zt_t51 : zk_chk (zB_c 2) zB_fz [] [] 5000 ze_t51 = true := by decide +kernel
theorem zc_t51 {L : Nat} {σ : Nat → Int32} {gh : zp_H → Int} {J : zp_H → Prop} (hw : zk_W zB gh J zB_fz) (hh : ∀ s ∈ zh_l, zk_Ct L σ zB gh J s) : zk_Ct L σ (zB_c 2) gh J ze_t51 := zk_chk_ok (zB_cw hw) (fun _ h => absurd h List.not_mem_nil) zt_t51
/-- yL_write -/
def ze_t52 : zk_T := (111, [.inr (some (some 1)), .inl ((-2147483648), 2147483647), .inl ((-2147483648), 2147483647), .inl ((-2147483648), 2147483647), .inr (some (some 105))], [], [(0, 4), (13, 7)], [16, 18, 19, 20, 21, 104], [(.inl (some (.inl (0, 1))), [], [])], 3)
theorem zt_t52 : zk_chk (zB_c 2) zB_fz [] [] 5000 ze_t52 = true := by decide +kernel
theorem zc_t52 {L : Nat} {σ : Nat → Int32} {gh : zp_H → Int} {J : zp_H → Prop} (hw : zk_W zB gh J zB_fz) (hh : ∀ s ∈ zh_l, zk_Ct L σ zB gh J s) : zk_Ct L σ (zB_c 2) gh J ze_t52 := zk_chk_ok (zB_cw hw) (fun _ h => absurd h List.not_mem_nil) zt_t52
/-- yL_rub -/
def ze_t53 : zk_T := (114, [.inr (some (some 1)), .inl ((-2147483648), 2147483647), .inl ((-2147483648), 2147483647), .inl ((-2147483648), 2147483647), .inr (some (some 105))], [], [(0, 4), (13, 7)], [17, 20, 21, 104], [(.inl (some (.inl (0, 1))), [], [])], 3)
theorem zt_t53 : zk_chk (zB_c 2) zB_fz [ze_e0] [] 5000 ze_t53 = true := by decide +kernel
theorem zc_t53 {L : Nat} {σ : Nat → Int32} {gh : zp_H → Int} {J : zp_H → Prop} (hw : zk_W zB gh J zB_fz) (hh : ∀ s ∈ zh_l, zk_Ct L σ zB gh J s) : zk_Ct L σ (zB_c 2) gh J ze_t53 := zk_chk_ok (zB_cw hw) (List.forall_mem_cons.mpr ⟨zB_ct (zc_e0 hw hh), fun _ h => absurd h List.not_mem_nil⟩) zt_t53
/-- yL_voyage -/
def ze_t54 : zk_T := (118, [.inr (some (some 1)), .inl ((-2147483648), 2147483647), .inl ((-2147483648), 2147483647), .inr (some (some 105))], [], [(54, 0), (54, 1), (54, 2), (54, 3), (54, 4), (54, 5), (54, 6), (54, 7)], [104], [(.inl (some (.inl (0, 1))), [], [])], 7)
theorem zt_t54 : zk_chk (zB_c 2) zB_fz [ze_e87] [] 5000 ze_t54 = true := by decide +kernel
theorem zc_t54 {L : Nat} {σ : Nat → Int32} {gh : zp_H → Int} {J : zp_H → Prop} (hw : zk_W zB gh J zB_fz) (hh : ∀ s ∈ zh_l, zk_Ct L σ zB gh J s) : zk_Ct L σ (zB_c 2) gh J ze_t54 := zk_chk_ok (zB_cw hw) (List.forall_mem_cons.mpr ⟨zB_ct (zc_e87 hw hh), fun _ h => absurd h List.not_mem_nil⟩) zt_t54
/-- yL_explained -/
def ze_t55 : zk_T := (120, [.inr (some (some 1)), .inl ((-2147483648), 2147483647), .inr (some (some 105))], [], [(54, 0), (54, 1), (54, 2), (54, 3), (54, 4), (54, 5), (54, 6), (54, 7)], [104], [(.inl (some (.inl (0, 1))), [], [])], 7)
theorem zt_t55 : zk_chk (zB_c 2) zB_fz [ze_e86, ze_e87] [] 5000 ze_t55 = true := by decide +kernel
theorem zc_t55 {L : Nat} {σ : Nat → Int32} {gh : zp_H → Int} {J : zp_H → Prop} (hw : zk_W zB gh J zB_fz) (hh : ∀ s ∈ zh_l, zk_Ct L σ zB gh J s) : zk_Ct L σ (zB_c 2) gh J ze_t55 := zk_chk_ok (zB_cw hw) (List.forall_mem_cons.mpr ⟨zB_ct (zc_e86 hw hh), List.forall_mem_cons.mpr ⟨zB_ct (zc_e87 hw hh), fun _ h => absurd h List.not_mem_nil⟩⟩) zt_t55
/-- yL_where -/
def ze_t56 : zk_T := (122, [.inr (some (some 1)), .inl ((-2147483648), 2147483647), .inl ((-2147483648), 2147483647), .inr (some (some 105))], [], [(55, 0), (55, 1)], [104], [(.inl (some (.inl (0, 1))), [], [])], 8)
theorem zt_t56 : zk_chk (zB_c 2) zB_fz [ze_e91] [] 5000 ze_t56 = true := by decide +kernel
theorem zc_t56 {L : Nat} {σ : Nat → Int32} {gh : zp_H → Int} {J : zp_H → Prop} (hw : zk_W zB gh J zB_fz) (hh : ∀ s ∈ zh_l, zk_Ct L σ zB gh J s) : zk_Ct L σ (zB_c 2) gh J ze_t56 := zk_chk_ok (zB_cw hw) (List.forall_mem_cons.mpr ⟨zB_ct (zc_e91 hw hh), fun _ h => absurd h List.not_mem_nil⟩) zt_t56
/-- yL_pilot -/
def ze_t57 : zk_T := (132, [.inr (some (some 1)), .inl ((-2147483648), 2147483647), .inl ((-2147483648), 2147483647), .inr (some (some 105))], [], [], [104], [(.inl (some (.inl (0, 1))), [], [])], 3)
theorem zt_t57 : zk_chk (zB_c 2) zB_fz [] [] 5000 ze_t57 = true := by decide +kernel
theorem zc_t57 {L : Nat} {σ : Nat → Int32} {gh : zp_H → Int} {J : zp_H → Prop} (hw : zk_W zB gh J zB_fz) (hh : ∀ s ∈ zh_l, zk_Ct L σ zB gh J s) : zk_Ct L σ (zB_c 2) gh J ze_t57 := zk_chk_ok (zB_cw hw) (fun _ h => absurd h List.not_mem_nil) zt_t57
/-- yL_sails -/
def ze_t58 : zk_T := (135, [.inr (some (some 1)), .inl ((-2147483648), 2147483647), .inl ((-2147483648), 2147483647), .inl ((-2147483648), 2147483647), .inr (some (some 105))], [], [(54, 0), (54, 1), (54, 2), (54, 3), (54, 4), (54, 5), (54, 6), (54, 7), (56, 2), (57, 0), (57, 1), (57, 2), (57, 3), (57, 4), (57, 7)], [58, 59, 104], [(.inl (some (.inl (0, 2))), [], [])], 8)
theorem zt_t58 : zk_chk (zB_c 2) zB_fz [ze_e92, ze_e96] [] 5000 ze_t58 = true := by decide +kernel
theorem zc_t58 {L : Nat} {σ : Nat → Int32} {gh : zp_H → Int} {J : zp_H → Prop} (hw : zk_W zB gh J zB_fz) (hh : ∀ s ∈ zh_l, zk_Ct L σ zB gh J s) : zk_Ct L σ (zB_c 2) gh J ze_t58 := zk_chk_ok (zB_cw hw) (List.forall_mem_cons.mpr ⟨zB_ct (zc_e92 hw hh), List.forall_mem_cons.mpr ⟨zB_ct (zc_e96 hw hh), fun _ h => absurd h List.not_mem_nil⟩⟩) zt_t58
/-- yL_study -/
def ze_t59 : zk_T := (137, [.inr (some (some 1)), .inl ((-2147483648), 2147483647), .inr (some (some 105))], [], [(54, 0), (54, 1), (54, 2), (54, 3), (54, 4), (54, 5), (54, 6), (54, 7), (56, 2), (57, 0), (57, 1), (57, 2), (57, 3), (57, 4), (57, 7), (60, 0), (60, 6), (60, 11)], [58, 59, 61, 62, 63, 64, 65, 66, 67, 68, 69, 104], [(.inl (some (.inl (0, 1))), [], [])], 8)
theorem zt_t59 : zk_chk (zB_c 2) zB_fz [ze_e100, ze_e97] [] 5000 ze_t59 = true := by decide +kernel
theorem zc_t59 {L : Nat} {σ : Nat → Int32} {gh : zp_H → Int} {J : zp_H → Prop} (hw : zk_W zB gh J zB_fz) (hh : ∀ s ∈ zh_l, zk_Ct L σ zB gh J s) : zk_Ct L σ (zB_c 2) gh J ze_t59 := zk_chk_ok (zB_cw hw) (List.forall_mem_cons.mpr ⟨zB_ct (zc_e100 hw hh), List.forall_mem_cons.mpr ⟨zB_ct (zc_e97 hw hh), fun _ h => absurd h List.not_mem_nil⟩⟩) zt_t59
/-- yL_studied -/
def ze_t60 : zk_T := (150, [.inr (some (some 1)), .inl ((-2147483648), 2147483647), .inr (some (some 105))], [], [], [104], [(.inl (some (.inl (0, 1))), [], [])], 2)
theorem zt_t60 : zk_chk (zB_c 2) zB_fz [] [] 5000 ze_t60 = true := by decide +kernel
theorem zc_t60 {L : Nat} {σ : Nat → Int32} {gh : zp_H → Int} {J : zp_H → Prop} (hw : zk_W zB gh J zB_fz) (hh : ∀ s ∈ zh_l, zk_Ct L σ zB gh J s) : zk_Ct L σ (zB_c 2) gh J ze_t60 := zk_chk_ok (zB_cw hw) (fun _ h => absurd h List.not_mem_nil) zt_t60
/-- yX11_dive -/
def ze_t61 : zk_T := (153, [.inr (some (some 1)), .inl ((-2147483648), 2147483647), .inl ((-2147483648), 2147483647)], [], [(54, 0), (54, 1), (54, 2), (54, 3), (54, 4), (54, 5), (54, 6), (54, 7), (60, 0)], [61, 62, 63, 64], [(.inr 0, [], []), (.inr 1, [], []), (.inl (some (.inl (0, 2147483647))), [], [])], 7)
theorem zt_t61 : zk_chk (zB_c 2) zB_fz [ze_e101, ze_e97] [(53, [(.inl 3, 0, 63, false), (.inl 4, 0, 2147483647, false), (.inl 5, 0, 64, false)], [], [], 2, true)] 5000 ze_t61 = true := by decide +kernel
theorem zc_t61 {L : Nat} {σ : Nat → Int32} {gh : zp_H → Int} {J : zp_H → Prop} (hw : zk_W zB gh J zB_fz) (hh : ∀ s ∈ zh_l, zk_Ct L σ zB gh J s) : zk_Ct L σ (zB_c 2) gh J ze_t61 := zk_chk_ok (zB_cw hw) (List.forall_mem_cons.mpr ⟨zB_ct (zc_e101 hw hh), List.forall_mem_cons.mpr ⟨zB_ct (zc_e97 hw hh), fun _ h => absurd h List.not_mem_nil⟩⟩) zt_t61
/-- yL_dive -/
def ze_t62 : zk_T := (152, [.inr (some (some 1)), .inl ((-2147483648), 2147483647), .inl ((-2147483648), 2147483647), .inr (some (some 105))], [], [(54, 0), (54, 1), (54, 2), (54, 3), (54, 4), (54, 5), (54, 6), (54, 7), (60, 0)], [61, 62, 63, 64, 104], [(.inl (some (.inl (0, 2))), [], [])], 8)
theorem zt_t62 : zk_chk (zB_c 2) zB_fz [ze_t61] [] 5000 ze_t62 = true := by decide +kernel
theorem zc_t62 {L : Nat} {σ : Nat → Int32} {gh : zp_H → Int} {J : zp_H → Prop} (hw : zk_W zB gh J zB_fz) (hh : ∀ s ∈ zh_l, zk_Ct L σ zB gh J s) : zk_Ct L σ (zB_c 2) gh J ze_t62 := zk_chk_ok (zB_cw hw) (List.forall_mem_cons.mpr ⟨zc_t61 hw hh, fun _ h => absurd h List.not_mem_nil⟩) zt_t62
/-- yX11_chart -/
def ze_t63 : zk_T := (156, [.inr (some (some 1)), .inl ((-2147483648), 2147483647)], [], [(54, 0), (54, 1), (54, 2), (54, 3), (54, 4), (54, 5), (54, 6), (54, 7)], [], [(.inr 0, [], []), (.inl (some (.inr none)), [], [])], 6)
theorem zt_t63 : zk_chk (zB_c 2) zB_fz [ze_e87] [(13, [(.inl 6, 0, 8, false)], [], [], 0, true)] 5000 ze_t63 = true := by decide +kernel
theorem zc_t63 {L : Nat} {σ : Nat → Int32} {gh : zp_H → Int} {J : zp_H → Prop} (hw : zk_W zB gh J zB_fz) (hh : ∀ s ∈ zh_l, zk_Ct L σ zB gh J s) : zk_Ct L σ (zB_c 2) gh J ze_t63 := zk_chk_ok (zB_cw hw) (List.forall_mem_cons.mpr ⟨zB_ct (zc_e87 hw hh), fun _ h => absurd h List.not_mem_nil⟩) zt_t63
/-- yL_chart -/
def ze_t64 : zk_T := (155, [.inr (some (some 1)), .inl ((-2147483648), 2147483647), .inr (some (some 105))], [], [(54, 0), (54, 1), (54, 2), (54, 3), (54, 4), (54, 5), (54, 6), (54, 7)], [104], [(.inl (some (.inl (0, 1))), [], [])], 7)
theorem zt_t64 : zk_chk (zB_c 2) zB_fz [ze_t63] [] 5000 ze_t64 = true := by decide +kernel
theorem zc_t64 {L : Nat} {σ : Nat → Int32} {gh : zp_H → Int} {J : zp_H → Prop} (hw : zk_W zB gh J zB_fz) (hh : ∀ s ∈ zh_l, zk_Ct L σ zB gh J s) : zk_Ct L σ (zB_c 2) gh J ze_t64 := zk_chk_ok (zB_cw hw) (List.forall_mem_cons.mpr ⟨zc_t63 hw hh, fun _ h => absurd h List.not_mem_nil⟩) zt_t64
/-- yL_hand -/
def ze_t65 : zk_T := (157, [.inr (some (some 1)), .inl ((-2147483648), 2147483647), .inl ((-2147483648), 2147483647), .inr (some (some 105))], [], [(70, 0), (70, 1), (70, 2), (70, 3)], [104], [(.inl (some (.inl (0, 1))), [], [])], 5)
theorem zt_t65 : zk_chk (zB_c 2) zB_fz [ze_e103] [] 5000 ze_t65 = true := by decide +kernel
theorem zc_t65 {L : Nat} {σ : Nat → Int32} {gh : zp_H → Int} {J : zp_H → Prop} (hw : zk_W zB gh J zB_fz) (hh : ∀ s ∈ zh_l, zk_Ct L σ zB gh J s) : zk_Ct L σ (zB_c 2) gh J ze_t65 := zk_chk_ok (zB_cw hw) (List.forall_mem_cons.mpr ⟨zB_ct (zc_e103 hw hh), fun _ h => absurd h List.not_mem_nil⟩) zt_t65
/-- yL_copied -/
def ze_t66 : zk_T := (162, [.inr (some (some 1)), .inl ((-2147483648), 2147483647), .inl ((-2147483648), 2147483647), .inl ((-2147483648), 2147483647), .inr (some (some 105))], [], [(71, 0), (71, 1), (71, 2)], [104], [(.inl (some (.inl (0, 2))), [], [])], 5)
theorem zt_t66 : zk_chk (zB_c 2) zB_fz [ze_e23] [] 5000 ze_t66 = true := by decide +kernel
theorem zc_t66 {L : Nat} {σ : Nat → Int32} {gh : zp_H → Int} {J : zp_H → Prop} (hw : zk_W zB gh J zB_fz) (hh : ∀ s ∈ zh_l, zk_Ct L σ zB gh J s) : zk_Ct L σ (zB_c 2) gh J ze_t66 := zk_chk_ok (zB_cw hw) (List.forall_mem_cons.mpr ⟨zB_ct (zc_e23 hw hh), fun _ h => absurd h List.not_mem_nil⟩) zt_t66
/-- yX11_fault -/
def ze_t67 : zk_T := (19, [.inr (some (some 1))], [], [], [], [(.inl (some (.inl ((-2147483648), 2147483647))), [], [])], 1)
theorem zt_t67 : zk_chk (zB_c 2) zB_fz [] [] 5000 ze_t67 = true := by decide +kernel
theorem zc_t67 {L : Nat} {σ : Nat → Int32} {gh : zp_H → Int} {J : zp_H → Prop} (hw : zk_W zB gh J zB_fz) (hh : ∀ s ∈ zh_l, zk_Ct L σ zB gh J s) : zk_Ct L σ (zB_c 2) gh J ze_t67 := zk_chk_ok (zB_cw hw) (fun _ h => absurd h List.not_mem_nil) zt_t67
/-- yX11_undo -/
def ze_t68 : zk_T := (20, [.inr (some (some 1))], [], [(13, 7)], [16, 17], [(.inl (some (.inl ((-1), 29))), [], [])], 2)
theorem zt_t68 : zk_chk (zB_c 2) zB_fz [] [] 5000 ze_t68 = true := by decide +kernel
theorem zc_t68 {L : Nat} {σ : Nat → Int32} {gh : zp_H → Int} {J : zp_H → Prop} (hw : zk_W zB gh J zB_fz) (hh : ∀ s ∈ zh_l, zk_Ct L σ zB gh J s) : zk_Ct L σ (zB_c 2) gh J ze_t68 := zk_chk_ok (zB_cw hw) (fun _ h => absurd h List.not_mem_nil) zt_t68
/-- yX11_exam -/
def ze_t69 : zk_T := (22, [.inr (some (some 1))], [], [(54, 0), (54, 1), (54, 2), (54, 3), (54, 4), (54, 5), (54, 6), (54, 7), (56, 2), (57, 0), (57, 1), (57, 2), (57, 3), (57, 4), (57, 7)], [58, 59], [(.inl (some (.inl (0, 255))), [], [])], 7)
theorem zt_t69 : zk_chk (zB_c 2) zB_fz [ze_e92, ze_e96] [(4, [(.inl 1, 0, 255, false), (.inl 2, 0, 4, false)], [], [], 1, true)] 5000 ze_t69 = true := by decide +kernel
theorem zc_t69 {L : Nat} {σ : Nat → Int32} {gh : zp_H → Int} {J : zp_H → Prop} (hw : zk_W zB gh J zB_fz) (hh : ∀ s ∈ zh_l, zk_Ct L σ zB gh J s) : zk_Ct L σ (zB_c 2) gh J ze_t69 := zk_chk_ok (zB_cw hw) (List.forall_mem_cons.mpr ⟨zB_ct (zc_e92 hw hh), List.forall_mem_cons.mpr ⟨zB_ct (zc_e96 hw hh), fun _ h => absurd h List.not_mem_nil⟩⟩) zt_t69
/-- yX11_image -/
def ze_t70 : zk_T := (45, [.inr (some (some 1))], [], [(0, 10), (42, 0), (42, 7)], [43, 44, 45, 46, 47, 48, 49, 50], [(.inl none, [], [])], 2)
theorem zt_t70 : zk_chk (zB_c 2) zB_fz [] [] 5000 ze_t70 = true := by decide +kernel
theorem zc_t70 {L : Nat} {σ : Nat → Int32} {gh : zp_H → Int} {J : zp_H → Prop} (hw : zk_W zB gh J zB_fz) (hh : ∀ s ∈ zh_l, zk_Ct L σ zB gh J s) : zk_Ct L σ (zB_c 2) gh J ze_t70 := zk_chk_ok (zB_cw hw) (fun _ h => absurd h List.not_mem_nil) zt_t70
/-- yX11_restore -/
def ze_t71 : zk_T := (47, [.inr (some (some 1))], [], [(13, 0), (13, 7)], [14, 15, 16, 17, 18, 19, 20, 21], [(.inl (some (.inl (1, 1))), [], []), (.inl (some (.inl (0, 0))), [], [])], 2)
theorem zt_t71 : zk_chk (zB_c 2) zB_fz [] [] 5000 ze_t71 = true := by decide +kernel
theorem zc_t71 {L : Nat} {σ : Nat → Int32} {gh : zp_H → Int} {J : zp_H → Prop} (hw : zk_W zB gh J zB_fz) (hh : ∀ s ∈ zh_l, zk_Ct L σ zB gh J s) : zk_Ct L σ (zB_c 2) gh J ze_t71 := zk_chk_ok (zB_cw hw) (fun _ h => absurd h List.not_mem_nil) zt_t71
