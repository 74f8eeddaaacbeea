/-! ===== the class's calls (printed) ===== -/
/-- yL_count -/
def ze_t24 : zk_T := (100, [.inr (some (some 1)), .inl ((-2147483648), 2147483647), .inr (some (some 105))], [], [], [104], [(.inl (some (.inl (0, 1))), [], [])], 3)
theorem zt_t24 : zk_chk (zB_c 1) zB_fz [] [] 5000 ze_t24 = true := by decide +kernel
theorem zc_t24 {L : Nat} {σ : Nat → Int32} {gh : zp_H → Int} {J : zp_H → Prop} (hw : zk_W zB gh J zB_fz) (hh : ∀ s ∈ zh_l, zk_Ct L σ zB gh J s) : zk_Ct L σ (zB_c 1) gh J ze_t24 := zk_chk_ok (zB_cw hw) (fun _ h => absurd h List.not_mem_nil) zt_t24
/-- yL_cell -/
def ze_t25 : zk_T := (102, [.inr (some (some 1)), .inl ((-2147483648), 2147483647), .inl ((-2147483648), 2147483647), .inr (some (some 105))], [], [], [104], [(.inl (some (.inl (0, 1))), [], [])], 3)
theorem zt_t25 : zk_chk (zB_c 1) zB_fz [] [] 5000 ze_t25 = true := by decide +kernel
theorem zc_t25 {L : Nat} {σ : Nat → Int32} {gh : zp_H → Int} {J : zp_H → Prop} (hw : zk_W zB gh J zB_fz) (hh : ∀ s ∈ zh_l, zk_Ct L σ zB gh J s) : zk_Ct L σ (zB_c 1) gh J ze_t25 := zk_chk_ok (zB_cw hw) (fun _ h => absurd h List.not_mem_nil) zt_t25
/-- yL_slate -/
def ze_t26 : zk_T := (106, [.inr (some (some 1)), .inl ((-2147483648), 2147483647), .inl ((-2147483648), 2147483647), .inr (some (some 105))], [], [], [104], [(.inl (some (.inl (0, 1))), [], [])], 3)
theorem zt_t26 : zk_chk (zB_c 1) zB_fz [] [] 5000 ze_t26 = true := by decide +kernel
theorem zc_t26 {L : Nat} {σ : Nat → Int32} {gh : zp_H → Int} {J : zp_H → Prop} (hw : zk_W zB gh J zB_fz) (hh : ∀ s ∈ zh_l, zk_Ct L σ zB gh J s) : zk_Ct L σ (zB_c 1) gh J ze_t26 := zk_chk_ok (zB_cw hw) (fun _ h => absurd h List.not_mem_nil) zt_t26
/-- yL_mark -/
def ze_t27 : zk_T := (109, [.inr (some (some 1)), .inl ((-2147483648), 2147483647), .inl ((-2147483648), 2147483647), .inl ((-2147483648), 2147483647), .inr (some (some 105))], [], [], [104], [(.inl (some (.inl (0, 1))), [], [])], 3)
theorem zt_t27 : zk_chk (zB_c 1) zB_fz [] [] 5000 ze_t27 = true := by decide +kernel
theorem zc_t27 {L : Nat} {σ : Nat → Int32} {gh : zp_H → Int} {J : zp_H → Prop} (hw : zk_W zB gh J zB_fz) (hh : ∀ s ∈ zh_l, zk_Ct L σ zB gh J s) : zk_Ct L σ (zB_c 1) gh J ze_t27 := zk_chk_ok (zB_cw hw) (fun _ h => absurd h List.not_mem_nil) zt_t27
/-- yL_write -/
def ze_t28 : zk_T := (111, [.inr (some (some 1)), .inl ((-2147483648), 2147483647), .inl ((-2147483648), 2147483647), .inl ((-2147483648), 2147483647), .inr (some (some 105))], [], [(0, 4), (33, 7)], [36, 38, 39, 40, 41, 104], [(.inl (some (.inl (0, 1))), [], [])], 3)
theorem zt_t28 : zk_chk (zB_c 1) zB_fz [] [] 5000 ze_t28 = true := by decide +kernel
theorem zc_t28 {L : Nat} {σ : Nat → Int32} {gh : zp_H → Int} {J : zp_H → Prop} (hw : zk_W zB gh J zB_fz) (hh : ∀ s ∈ zh_l, zk_Ct L σ zB gh J s) : zk_Ct L σ (zB_c 1) gh J ze_t28 := zk_chk_ok (zB_cw hw) (fun _ h => absurd h List.not_mem_nil) zt_t28
/-- yL_rub -/
def ze_t29 : zk_T := (114, [.inr (some (some 1)), .inl ((-2147483648), 2147483647), .inl ((-2147483648), 2147483647), .inl ((-2147483648), 2147483647), .inr (some (some 105))], [], [(0, 4), (33, 7)], [37, 40, 41, 104], [(.inl (some (.inl (0, 1))), [], [])], 3)
theorem zt_t29 : zk_chk (zB_c 1) zB_fz [ze_e75] [] 5000 ze_t29 = true := by decide +kernel
theorem zc_t29 {L : Nat} {σ : Nat → Int32} {gh : zp_H → Int} {J : zp_H → Prop} (hw : zk_W zB gh J zB_fz) (hh : ∀ s ∈ zh_l, zk_Ct L σ zB gh J s) : zk_Ct L σ (zB_c 1) gh J ze_t29 := zk_chk_ok (zB_cw hw) (List.forall_mem_cons.mpr ⟨zB_ct (zc_e75 hw hh), fun _ h => absurd h List.not_mem_nil⟩) zt_t29
/-- yL_voyage -/
def ze_t30 : zk_T := (118, [.inr (some (some 1)), .inl ((-2147483648), 2147483647), .inl ((-2147483648), 2147483647), .inr (some (some 105))], [], [(54, 0), (54, 1), (54, 2), (54, 3), (54, 4), (54, 5), (54, 6), (54, 7)], [104], [(.inl (some (.inl (0, 1))), [], [])], 7)
theorem zt_t30 : zk_chk (zB_c 1) zB_fz [ze_e76] [] 5000 ze_t30 = true := by decide +kernel
theorem zc_t30 {L : Nat} {σ : Nat → Int32} {gh : zp_H → Int} {J : zp_H → Prop} (hw : zk_W zB gh J zB_fz) (hh : ∀ s ∈ zh_l, zk_Ct L σ zB gh J s) : zk_Ct L σ (zB_c 1) gh J ze_t30 := zk_chk_ok (zB_cw hw) (List.forall_mem_cons.mpr ⟨zB_ct (zc_e76 hw hh), fun _ h => absurd h List.not_mem_nil⟩) zt_t30
/-- yL_explained -/
def ze_t31 : zk_T := (120, [.inr (some (some 1)), .inl ((-2147483648), 2147483647), .inr (some (some 105))], [], [(54, 0), (54, 1), (54, 2), (54, 3), (54, 4), (54, 5), (54, 6), (54, 7)], [104], [(.inl (some (.inl (0, 1))), [], [])], 7)
theorem zt_t31 : zk_chk (zB_c 1) zB_fz [ze_e1, ze_e76] [] 5000 ze_t31 = true := by decide +kernel
theorem zc_t31 {L : Nat} {σ : Nat → Int32} {gh : zp_H → Int} {J : zp_H → Prop} (hw : zk_W zB gh J zB_fz) (hh : ∀ s ∈ zh_l, zk_Ct L σ zB gh J s) : zk_Ct L σ (zB_c 1) gh J ze_t31 := zk_chk_ok (zB_cw hw) (List.forall_mem_cons.mpr ⟨zB_ct (zc_e1 hw hh), List.forall_mem_cons.mpr ⟨zB_ct (zc_e76 hw hh), fun _ h => absurd h List.not_mem_nil⟩⟩) zt_t31
/-- yL_where -/
def ze_t32 : zk_T := (122, [.inr (some (some 1)), .inl ((-2147483648), 2147483647), .inl ((-2147483648), 2147483647), .inr (some (some 105))], [], [(55, 0), (55, 1)], [104], [(.inl (some (.inl (0, 1))), [], [])], 8)
theorem zt_t32 : zk_chk (zB_c 1) zB_fz [ze_e77] [] 5000 ze_t32 = true := by decide +kernel
theorem zc_t32 {L : Nat} {σ : Nat → Int32} {gh : zp_H → Int} {J : zp_H → Prop} (hw : zk_W zB gh J zB_fz) (hh : ∀ s ∈ zh_l, zk_Ct L σ zB gh J s) : zk_Ct L σ (zB_c 1) gh J ze_t32 := zk_chk_ok (zB_cw hw) (List.forall_mem_cons.mpr ⟨zB_ct (zc_e77 hw hh), fun _ h => absurd h List.not_mem_nil⟩) zt_t32
/-- yL_pilot -/
def ze_t33 : zk_T := (132, [.inr (some (some 1)), .inl ((-2147483648), 2147483647), .inl ((-2147483648), 2147483647), .inr (some (some 105))], [], [], [104], [(.inl (some (.inl (0, 1))), [], [])], 3)
theorem zt_t33 : zk_chk (zB_c 1) zB_fz [] [] 5000 ze_t33 = true := by decide +kernel
theorem zc_t33 {L : Nat} {σ : Nat → Int32} {gh : zp_H → Int} {J : zp_H → Prop} (hw : zk_W zB gh J zB_fz) (hh : ∀ s ∈ zh_l, zk_Ct L σ zB gh J s) : zk_Ct L σ (zB_c 1) gh J ze_t33 := zk_chk_ok (zB_cw hw) (fun _ h => absurd h List.not_mem_nil) zt_t33
/-- yL_sails -/
def ze_t34 : zk_T := (135, [.inr (some (some 1)), .inl ((-2147483648), 2147483647), .inl ((-2147483648), 2147483647), .inl ((-2147483648), 2147483647), .inr (some (some 105))], [], [(54, 0), (54, 1), (54, 2), (54, 3), (54, 4), (54, 5), (54, 6), (54, 7), (56, 2), (57, 0), (57, 1), (57, 2), (57, 3), (57, 4), (57, 7)], [58, 59, 104], [(.inl (some (.inl (0, 2))), [], [])], 8)
theorem zt_t34 : zk_chk (zB_c 1) zB_fz [ze_e11, ze_e78] [] 5000 ze_t34 = true := by decide +kernel
theorem zc_t34 {L : Nat} {σ : Nat → Int32} {gh : zp_H → Int} {J : zp_H → Prop} (hw : zk_W zB gh J zB_fz) (hh : ∀ s ∈ zh_l, zk_Ct L σ zB gh J s) : zk_Ct L σ (zB_c 1) gh J ze_t34 := zk_chk_ok (zB_cw hw) (List.forall_mem_cons.mpr ⟨zB_ct (zc_e11 hw hh), List.forall_mem_cons.mpr ⟨zB_ct (zc_e78 hw hh), fun _ h => absurd h List.not_mem_nil⟩⟩) zt_t34
/-- yL_study -/
def ze_t35 : zk_T := (137, [.inr (some (some 1)), .inl ((-2147483648), 2147483647), .inr (some (some 105))], [], [(54, 0), (54, 1), (54, 2), (54, 3), (54, 4), (54, 5), (54, 6), (54, 7), (56, 2), (57, 0), (57, 1), (57, 2), (57, 3), (57, 4), (57, 7), (60, 0), (60, 6), (60, 11)], [58, 59, 61, 62, 63, 64, 65, 66, 67, 68, 69, 104], [(.inl (some (.inl (0, 1))), [], [])], 8)
theorem zt_t35 : zk_chk (zB_c 1) zB_fz [ze_e19, ze_e79] [] 5000 ze_t35 = true := by decide +kernel
theorem zc_t35 {L : Nat} {σ : Nat → Int32} {gh : zp_H → Int} {J : zp_H → Prop} (hw : zk_W zB gh J zB_fz) (hh : ∀ s ∈ zh_l, zk_Ct L σ zB gh J s) : zk_Ct L σ (zB_c 1) gh J ze_t35 := zk_chk_ok (zB_cw hw) (List.forall_mem_cons.mpr ⟨zB_ct (zc_e19 hw hh), List.forall_mem_cons.mpr ⟨zB_ct (zc_e79 hw hh), fun _ h => absurd h List.not_mem_nil⟩⟩) zt_t35
/-- yL_studied -/
def ze_t36 : zk_T := (150, [.inr (some (some 1)), .inl ((-2147483648), 2147483647), .inr (some (some 105))], [], [], [104], [(.inl (some (.inl (0, 1))), [], [])], 2)
theorem zt_t36 : zk_chk (zB_c 1) zB_fz [] [] 5000 ze_t36 = true := by decide +kernel
theorem zc_t36 {L : Nat} {σ : Nat → Int32} {gh : zp_H → Int} {J : zp_H → Prop} (hw : zk_W zB gh J zB_fz) (hh : ∀ s ∈ zh_l, zk_Ct L σ zB gh J s) : zk_Ct L σ (zB_c 1) gh J ze_t36 := zk_chk_ok (zB_cw hw) (fun _ h => absurd h List.not_mem_nil) zt_t36
/-- yX11_dive -/
def ze_t37 : zk_T := (153, [.inr (some (some 1)), .inl ((-2147483648), 2147483647), .inl ((-2147483648), 2147483647)], [], [(54, 0), (54, 1), (54, 2), (54, 3), (54, 4), (54, 5), (54, 6), (54, 7), (60, 0)], [61, 62, 63, 64], [(.inr 0, [], []), (.inr 1, [], []), (.inl (some (.inl (0, 2147483647))), [], [])], 7)
theorem zt_t37 : zk_chk (zB_c 1) zB_fz [ze_e20, ze_e79] [(53, [(.inl 3, 0, 63, false), (.inl 4, 0, 2147483647, false), (.inl 5, 0, 64, false)], [], [], 2, true)] 5000 ze_t37 = true := by decide +kernel
theorem zc_t37 {L : Nat} {σ : Nat → Int32} {gh : zp_H → Int} {J : zp_H → Prop} (hw : zk_W zB gh J zB_fz) (hh : ∀ s ∈ zh_l, zk_Ct L σ zB gh J s) : zk_Ct L σ (zB_c 1) gh J ze_t37 := zk_chk_ok (zB_cw hw) (List.forall_mem_cons.mpr ⟨zB_ct (zc_e20 hw hh), List.forall_mem_cons.mpr ⟨zB_ct (zc_e79 hw hh), fun _ h => absurd h List.not_mem_nil⟩⟩) zt_t37
/-- yL_dive -/
def ze_t38 : zk_T := (152, [.inr (some (some 1)), .inl ((-2147483648), 2147483647), .inl ((-2147483648), 2147483647), .inr (some (some 105))], [], [(54, 0), (54, 1), (54, 2), (54, 3), (54, 4), (54, 5), (54, 6), (54, 7), (60, 0)], [61, 62, 63, 64, 104], [(.inl (some (.inl (0, 2))), [], [])], 8)
theorem zt_t38 : zk_chk (zB_c 1) zB_fz [ze_t37] [] 5000 ze_t38 = true := by decide +kernel
theorem zc_t38 {L : Nat} {σ : Nat → Int32} {gh : zp_H → Int} {J : zp_H → Prop} (hw : zk_W zB gh J zB_fz) (hh : ∀ s ∈ zh_l, zk_Ct L σ zB gh J s) : zk_Ct L σ (zB_c 1) gh J ze_t38 := zk_chk_ok (zB_cw hw) (List.forall_mem_cons.mpr ⟨zc_t37 hw hh, fun _ h => absurd h List.not_mem_nil⟩) zt_t38
/-- yX11_chart -/
def ze_t39 : zk_T := (156, [.inr (some (some 1)), .inl ((-2147483648), 2147483647)], [], [(54, 0), (54, 1), (54, 2), (54, 3), (54, 4), (54, 5), (54, 6), (54, 7)], [], [(.inr 0, [], []), (.inl (some (.inr none)), [], [])], 6)
theorem zt_t39 : zk_chk (zB_c 1) zB_fz [ze_e76] [(13, [(.inl 6, 0, 8, false)], [], [], 0, true)] 5000 ze_t39 = true := by decide +kernel
theorem zc_t39 {L : Nat} {σ : Nat → Int32} {gh : zp_H → Int} {J : zp_H → Prop} (hw : zk_W zB gh J zB_fz) (hh : ∀ s ∈ zh_l, zk_Ct L σ zB gh J s) : zk_Ct L σ (zB_c 1) gh J ze_t39 := zk_chk_ok (zB_cw hw) (List.forall_mem_cons.mpr ⟨zB_ct (zc_e76 hw hh), fun _ h => absurd h List.not_mem_nil⟩) zt_t39
/-- yL_chart -/
def ze_t40 : zk_T := (155, [.inr (some (some 1)), .inl ((-2147483648), 2147483647), .inr (some (some 105))], [], [(54, 0), (54, 1), (54, 2), (54, 3), (54, 4), (54, 5), (54, 6), (54, 7)], [104], [(.inl (some (.inl (0, 1))), [], [])], 7)
theorem zt_t40 : zk_chk (zB_c 1) zB_fz [ze_t39] [] 5000 ze_t40 = true := by decide +kernel
theorem zc_t40 {L : Nat} {σ : Nat → Int32} {gh : zp_H → Int} {J : zp_H → Prop} (hw : zk_W zB gh J zB_fz) (hh : ∀ s ∈ zh_l, zk_Ct L σ zB gh J s) : zk_Ct L σ (zB_c 1) gh J ze_t40 := zk_chk_ok (zB_cw hw) (List.forall_mem_cons.mpr ⟨zc_t39 hw hh, fun _ h => absurd h List.not_mem_nil⟩) zt_t40
/-- yL_hand -/
def ze_t41 : zk_T := (157, [.inr (some (some 1)), .inl ((-2147483648), 2147483647), .inl ((-2147483648), 2147483647), .inr (some (some 105))], [], [(70, 0), (70, 1), (70, 2), (70, 3)], [104], [(.inl (some (.inl (0, 1))), [], [])], 5)
theorem zt_t41 : zk_chk (zB_c 1) zB_fz [ze_e81] [] 5000 ze_t41 = true := by decide +kernel
theorem zc_t41 {L : Nat} {σ : Nat → Int32} {gh : zp_H → Int} {J : zp_H → Prop} (hw : zk_W zB gh J zB_fz) (hh : ∀ s ∈ zh_l, zk_Ct L σ zB gh J s) : zk_Ct L σ (zB_c 1) gh J ze_t41 := zk_chk_ok (zB_cw hw) (List.forall_mem_cons.mpr ⟨zB_ct (zc_e81 hw hh), fun _ h => absurd h List.not_mem_nil⟩) zt_t41
/-- yL_copied -/
def ze_t42 : zk_T := (162, [.inr (some (some 1)), .inl ((-2147483648), 2147483647), .inl ((-2147483648), 2147483647), .inl ((-2147483648), 2147483647), .inr (some (some 105))], [], [(71, 0), (71, 1), (71, 2)], [104], [(.inl (some (.inl (0, 2))), [], [])], 5)
theorem zt_t42 : zk_chk (zB_c 1) zB_fz [ze_e82] [] 5000 ze_t42 = true := by decide +kernel
theorem zc_t42 {L : Nat} {σ : Nat → Int32} {gh : zp_H → Int} {J : zp_H → Prop} (hw : zk_W zB gh J zB_fz) (hh : ∀ s ∈ zh_l, zk_Ct L σ zB gh J s) : zk_Ct L σ (zB_c 1) gh J ze_t42 := zk_chk_ok (zB_cw hw) (List.forall_mem_cons.mpr ⟨zB_ct (zc_e82 hw hh), fun _ h => absurd h List.not_mem_nil⟩) zt_t42
/-- yX11_fault -/
def ze_t43 : zk_T := (19, [.inr (some (some 1))], [], [], [], [(.inl (some (.inl ((-2147483648), 2147483647))), [], [])], 1)
theorem zt_t43 : zk_chk (zB_c 1) zB_fz [] [] 5000 ze_t43 = true := by decide +kernel
theorem zc_t43 {L : Nat} {σ : Nat → Int32} {gh : zp_H → Int} {J : zp_H → Prop} (hw : zk_W zB gh J zB_fz) (hh : ∀ s ∈ zh_l, zk_Ct L σ zB gh J s) : zk_Ct L σ (zB_c 1) gh J ze_t43 := zk_chk_ok (zB_cw hw) (fun _ h => absurd h List.not_mem_nil) zt_t43
/-- yX11_undo -/
def ze_t44 : zk_T := (20, [.inr (some (some 1))], [], [(33, 7)], [36, 37], [(.inl (some (.inl ((-1), 29))), [], [])], 2)
theorem zt_t44 : zk_chk (zB_c 1) zB_fz [] [] 5000 ze_t44 = true := by decide +kernel
theorem zc_t44 {L : Nat} {σ : Nat → Int32} {gh : zp_H → Int} {J : zp_H → Prop} (hw : zk_W zB gh J zB_fz) (hh : ∀ s ∈ zh_l, zk_Ct L σ zB gh J s) : zk_Ct L σ (zB_c 1) gh J ze_t44 := zk_chk_ok (zB_cw hw) (fun _ h => absurd h List.not_mem_nil) zt_t44
/-- yX11_exam -/
def ze_t45 : zk_T := (22, [.inr (some (some 1))], [], [(54, 0), (54, 1), (54, 2), (54, 3), (54, 4), (54, 5), (54, 6), (54, 7), (56, 2), (57, 0), (57, 1), (57, 2), (57, 3), (57, 4), (57, 7)], [58, 59], [(.inl (some (.inl (0, 255))), [], [])], 7)
theorem zt_t45 : zk_chk (zB_c 1) zB_fz [ze_e11, ze_e78] [(4, [(.inl 1, 0, 255, false), (.inl 2, 0, 4, false)], [], [], 1, true)] 5000 ze_t45 = true := by decide +kernel
theorem zc_t45 {L : Nat} {σ : Nat → Int32} {gh : zp_H → Int} {J : zp_H → Prop} (hw : zk_W zB gh J zB_fz) (hh : ∀ s ∈ zh_l, zk_Ct L σ zB gh J s) : zk_Ct L σ (zB_c 1) gh J ze_t45 := zk_chk_ok (zB_cw hw) (List.forall_mem_cons.mpr ⟨zB_ct (zc_e11 hw hh), List.forall_mem_cons.mpr ⟨zB_ct (zc_e78 hw hh), fun _ h => absurd h List.not_mem_nil⟩⟩) zt_t45
/-- yX11_image -/
def ze_t46 : zk_T := (45, [.inr (some (some 1))], [], [(0, 10), (42, 0), (42, 7)], [43, 44, 45, 46, 47, 48, 49, 50], [(.inl none, [], [])], 2)
theorem zt_t46 : zk_chk (zB_c 1) zB_fz [] [] 5000 ze_t46 = true := by decide +kernel
theorem zc_t46 {L : Nat} {σ : Nat → Int32} {gh : zp_H → Int} {J : zp_H → Prop} (hw : zk_W zB gh J zB_fz) (hh : ∀ s ∈ zh_l, zk_Ct L σ zB gh J s) : zk_Ct L σ (zB_c 1) gh J ze_t46 := zk_chk_ok (zB_cw hw) (fun _ h => absurd h List.not_mem_nil) zt_t46
/-- yX11_restore -/
def ze_t47 : zk_T := (47, [.inr (some (some 1))], [], [(33, 0), (33, 7)], [34, 35, 36, 37, 38, 39, 40, 41], [(.inl (some (.inl (1, 1))), [], []), (.inl (some (.inl (0, 0))), [], [])], 2)
theorem zt_t47 : zk_chk (zB_c 1) zB_fz [] [] 5000 ze_t47 = true := by decide +kernel
theorem zc_t47 {L : Nat} {σ : Nat → Int32} {gh : zp_H → Int} {J : zp_H → Prop} (hw : zk_W zB gh J zB_fz) (hh : ∀ s ∈ zh_l, zk_Ct L σ zB gh J s) : zk_Ct L σ (zB_c 1) gh J ze_t47 := zk_chk_ok (zB_cw hw) (fun _ h => absurd h List.not_mem_nil) zt_t47
