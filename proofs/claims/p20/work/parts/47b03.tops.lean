/-! ===== the class's calls (printed) ===== -/
/-- yL_count -/
def ze_t72 : zk_T := (100, [.inr (some (some 1)), .inl ((-2147483648), 2147483647), .inr (some (some 105))], [], [], [104], [(.inl (some (.inl (0, 1))), [], [])], 3)
theorem zt_t72 : zk_chk (zB_c 3) zB_fz [] [] 5000 ze_t72 = true := by decide +kernel
theorem zc_t72 {L : Nat} {σ : Nat → Int32} {gh : zp_H → Int} {J : zp_H → Prop} (hw : zk_W zB gh J zB_fz) (hh : ∀ s ∈ zh_l, zk_Ct L σ zB gh J s) : zk_Ct L σ (zB_c 3) gh J ze_t72 := zk_chk_ok (zB_cw hw) (fun _ h => absurd h List.not_mem_nil) zt_t72
/-- yL_cell -/
def ze_t73 : zk_T := (102, [.inr (some (some 1)), .inl ((-2147483648), 2147483647), .inl ((-2147483648), 2147483647), .inr (some (some 105))], [], [], [104], [(.inl (some (.inl (0, 1))), [], [])], 3)
theorem zt_t73 : zk_chk (zB_c 3) zB_fz [] [] 5000 ze_t73 = true := by decide +kernel
theorem zc_t73 {L : Nat} {σ : Nat → Int32} {gh : zp_H → Int} {J : zp_H → Prop} (hw : zk_W zB gh J zB_fz) (hh : ∀ s ∈ zh_l, zk_Ct L σ zB gh J s) : zk_Ct L σ (zB_c 3) gh J ze_t73 := zk_chk_ok (zB_cw hw) (fun _ h => absurd h List.not_mem_nil) zt_t73
/-- yL_slate -/
def ze_t74 : zk_T := (106, [.inr (some (some 1)), .inl ((-2147483648), 2147483647), .inl ((-2147483648), 2147483647), .inr (some (some 105))], [], [], [104], [(.inl (some (.inl (0, 1))), [], [])], 3)
theorem zt_t74 : zk_chk (zB_c 3) zB_fz [] [] 5000 ze_t74 = true := by decide +kernel
theorem zc_t74 {L : Nat} {σ : Nat → Int32} {gh : zp_H → Int} {J : zp_H → Prop} (hw : zk_W zB gh J zB_fz) (hh : ∀ s ∈ zh_l, zk_Ct L σ zB gh J s) : zk_Ct L σ (zB_c 3) gh J ze_t74 := zk_chk_ok (zB_cw hw) (fun _ h => absurd h List.not_mem_nil) zt_t74
/-- yL_mark -/
def ze_t75 : zk_T := (109, [.inr (some (some 1)), .inl ((-2147483648), 2147483647), .inl ((-2147483648), 2147483647), .inl ((-2147483648), 2147483647), .inr (some (some 105))], [], [], [104], [(.inl (some (.inl (0, 1))), [], [])], 3)
theorem zt_t75 : zk_chk (zB_c 3) zB_fz [] [] 5000 ze_t75 = true := by decide +kernel
theorem zc_t75 {L : Nat} {σ : Nat → Int32} {gh : zp_H → Int} {J : zp_H → Prop} (hw : zk_W zB gh J zB_fz) (hh : ∀ s ∈ zh_l, zk_Ct L σ zB gh J s) : zk_Ct L σ (zB_c 3) gh J ze_t75 := zk_chk_ok (zB_cw hw) (fun _ h => absurd h List.not_mem_nil) zt_t75
/-- yL_write -/
def ze_t76 : zk_T := (111, [.inr (some (some 1)), .inl ((-2147483648), 2147483647), .inl ((-2147483648), 2147483647), .inl ((-2147483648), 2147483647), .inr (some (some 105))], [], [(0, 4), (33, 7)], [36, 38, 39, 40, 41, 104], [(.inl (some (.inl (0, 1))), [], [])], 3)
theorem zt_t76 : zk_chk (zB_c 3) zB_fz [] [] 5000 ze_t76 = true := by decide +kernel
theorem zc_t76 {L : Nat} {σ : Nat → Int32} {gh : zp_H → Int} {J : zp_H → Prop} (hw : zk_W zB gh J zB_fz) (hh : ∀ s ∈ zh_l, zk_Ct L σ zB gh J s) : zk_Ct L σ (zB_c 3) gh J ze_t76 := zk_chk_ok (zB_cw hw) (fun _ h => absurd h List.not_mem_nil) zt_t76
/-- yL_rub -/
def ze_t77 : zk_T := (114, [.inr (some (some 1)), .inl ((-2147483648), 2147483647), .inl ((-2147483648), 2147483647), .inl ((-2147483648), 2147483647), .inr (some (some 105))], [], [(0, 4), (33, 7)], [37, 40, 41, 104], [(.inl (some (.inl (0, 1))), [], [])], 3)
theorem zt_t77 : zk_chk (zB_c 3) zB_fz [ze_e75] [] 5000 ze_t77 = true := by decide +kernel
theorem zc_t77 {L : Nat} {σ : Nat → Int32} {gh : zp_H → Int} {J : zp_H → Prop} (hw : zk_W zB gh J zB_fz) (hh : ∀ s ∈ zh_l, zk_Ct L σ zB gh J s) : zk_Ct L σ (zB_c 3) gh J ze_t77 := zk_chk_ok (zB_cw hw) (List.forall_mem_cons.mpr ⟨zB_ct (zc_e75 hw hh), fun _ h => absurd h List.not_mem_nil⟩) zt_t77
/-- yL_voyage -/
def ze_t78 : zk_T := (118, [.inr (some (some 1)), .inl ((-2147483648), 2147483647), .inl ((-2147483648), 2147483647), .inr (some (some 105))], [], [(54, 0), (54, 1), (54, 2), (54, 3), (54, 4), (54, 5), (54, 6), (54, 7)], [104], [(.inl (some (.inl (0, 1))), [], [])], 7)
theorem zt_t78 : zk_chk (zB_c 3) zB_fz [ze_e153] [] 5000 ze_t78 = true := by decide +kernel
theorem zc_t78 {L : Nat} {σ : Nat → Int32} {gh : zp_H → Int} {J : zp_H → Prop} (hw : zk_W zB gh J zB_fz) (hh : ∀ s ∈ zh_l, zk_Ct L σ zB gh J s) : zk_Ct L σ (zB_c 3) gh J ze_t78 := zk_chk_ok (zB_cw hw) (List.forall_mem_cons.mpr ⟨zB_ct (zc_e153 hw hh), fun _ h => absurd h List.not_mem_nil⟩) zt_t78
/-- yL_explained -/
def ze_t79 : zk_T := (120, [.inr (some (some 1)), .inl ((-2147483648), 2147483647), .inr (some (some 105))], [], [(54, 0), (54, 1), (54, 2), (54, 3), (54, 4), (54, 5), (54, 6), (54, 7)], [104], [(.inl (some (.inl (0, 1))), [], [])], 7)
theorem zt_t79 : zk_chk (zB_c 3) zB_fz [ze_e153, ze_e86] [] 5000 ze_t79 = true := by decide +kernel
theorem zc_t79 {L : Nat} {σ : Nat → Int32} {gh : zp_H → Int} {J : zp_H → Prop} (hw : zk_W zB gh J zB_fz) (hh : ∀ s ∈ zh_l, zk_Ct L σ zB gh J s) : zk_Ct L σ (zB_c 3) gh J ze_t79 := zk_chk_ok (zB_cw hw) (List.forall_mem_cons.mpr ⟨zB_ct (zc_e153 hw hh), List.forall_mem_cons.mpr ⟨zB_ct (zc_e86 hw hh), fun _ h => absurd h List.not_mem_nil⟩⟩) zt_t79
/-- yL_where -/
def ze_t80 : zk_T := (122, [.inr (some (some 1)), .inl ((-2147483648), 2147483647), .inl ((-2147483648), 2147483647), .inr (some (some 105))], [], [(55, 0), (55, 1)], [104], [(.inl (some (.inl (0, 1))), [], [])], 8)
theorem zt_t80 : zk_chk (zB_c 3) zB_fz [ze_e154] [] 5000 ze_t80 = true := by decide +kernel
theorem zc_t80 {L : Nat} {σ : Nat → Int32} {gh : zp_H → Int} {J : zp_H → Prop} (hw : zk_W zB gh J zB_fz) (hh : ∀ s ∈ zh_l, zk_Ct L σ zB gh J s) : zk_Ct L σ (zB_c 3) gh J ze_t80 := zk_chk_ok (zB_cw hw) (List.forall_mem_cons.mpr ⟨zB_ct (zc_e154 hw hh), fun _ h => absurd h List.not_mem_nil⟩) zt_t80
/-- yL_pilot -/
def ze_t81 : zk_T := (132, [.inr (some (some 1)), .inl ((-2147483648), 2147483647), .inl ((-2147483648), 2147483647), .inr (some (some 105))], [], [], [104], [(.inl (some (.inl (0, 1))), [], [])], 3)
theorem zt_t81 : zk_chk (zB_c 3) zB_fz [] [] 5000 ze_t81 = true := by decide +kernel
theorem zc_t81 {L : Nat} {σ : Nat → Int32} {gh : zp_H → Int} {J : zp_H → Prop} (hw : zk_W zB gh J zB_fz) (hh : ∀ s ∈ zh_l, zk_Ct L σ zB gh J s) : zk_Ct L σ (zB_c 3) gh J ze_t81 := zk_chk_ok (zB_cw hw) (fun _ h => absurd h List.not_mem_nil) zt_t81
/-- yL_sails -/
def ze_t82 : zk_T := (135, [.inr (some (some 1)), .inl ((-2147483648), 2147483647), .inl ((-2147483648), 2147483647), .inl ((-2147483648), 2147483647), .inr (some (some 105))], [], [(54, 0), (54, 1), (54, 2), (54, 3), (54, 4), (54, 5), (54, 6), (54, 7), (56, 2), (57, 0), (57, 1), (57, 2), (57, 3), (57, 4), (57, 7)], [58, 59, 104], [(.inl (some (.inl (0, 2))), [], [])], 8)
theorem zt_t82 : zk_chk (zB_c 3) zB_fz [ze_e155, ze_e96] [] 5000 ze_t82 = true := by decide +kernel
theorem zc_t82 {L : Nat} {σ : Nat → Int32} {gh : zp_H → Int} {J : zp_H → Prop} (hw : zk_W zB gh J zB_fz) (hh : ∀ s ∈ zh_l, zk_Ct L σ zB gh J s) : zk_Ct L σ (zB_c 3) gh J ze_t82 := zk_chk_ok (zB_cw hw) (List.forall_mem_cons.mpr ⟨zB_ct (zc_e155 hw hh), List.forall_mem_cons.mpr ⟨zB_ct (zc_e96 hw hh), fun _ h => absurd h List.not_mem_nil⟩⟩) zt_t82
/-- yL_study -/
def ze_t83 : zk_T := (137, [.inr (some (some 1)), .inl ((-2147483648), 2147483647), .inr (some (some 105))], [], [(54, 0), (54, 1), (54, 2), (54, 3), (54, 4), (54, 5), (54, 6), (54, 7), (56, 2), (57, 0), (57, 1), (57, 2), (57, 3), (57, 4), (57, 7), (60, 0), (60, 6), (60, 11)], [58, 59, 61, 62, 63, 64, 65, 66, 67, 68, 69, 104], [(.inl (some (.inl (0, 1))), [], [])], 8)
theorem zt_t83 : zk_chk (zB_c 3) zB_fz [ze_e100, ze_e156] [] 5000 ze_t83 = true := by decide +kernel
theorem zc_t83 {L : Nat} {σ : Nat → Int32} {gh : zp_H → Int} {J : zp_H → Prop} (hw : zk_W zB gh J zB_fz) (hh : ∀ s ∈ zh_l, zk_Ct L σ zB gh J s) : zk_Ct L σ (zB_c 3) gh J ze_t83 := zk_chk_ok (zB_cw hw) (List.forall_mem_cons.mpr ⟨zB_ct (zc_e100 hw hh), List.forall_mem_cons.mpr ⟨zB_ct (zc_e156 hw hh), fun _ h => absurd h List.not_mem_nil⟩⟩) zt_t83
/-- yL_studied -/
def ze_t84 : zk_T := (150, [.inr (some (some 1)), .inl ((-2147483648), 2147483647), .inr (some (some 105))], [], [], [104], [(.inl (some (.inl (0, 1))), [], [])], 2)
theorem zt_t84 : zk_chk (zB_c 3) zB_fz [] [] 5000 ze_t84 = true := by decide +kernel
theorem zc_t84 {L : Nat} {σ : Nat → Int32} {gh : zp_H → Int} {J : zp_H → Prop} (hw : zk_W zB gh J zB_fz) (hh : ∀ s ∈ zh_l, zk_Ct L σ zB gh J s) : zk_Ct L σ (zB_c 3) gh J ze_t84 := zk_chk_ok (zB_cw hw) (fun _ h => absurd h List.not_mem_nil) zt_t84
/-- yX11_dive -/
def ze_t85 : zk_T := (153, [.inr (some (some 1)), .inl ((-2147483648), 2147483647), .inl ((-2147483648), 2147483647)], [], [(54, 0), (54, 1), (54, 2), (54, 3), (54, 4), (54, 5), (54, 6), (54, 7), (60, 0)], [61, 62, 63, 64], [(.inr 0, [], []), (.inr 1, [], []), (.inl (some (.inl (0, 2147483647))), [], [])], 7)
theorem zt_t85 : zk_chk (zB_c 3) zB_fz [ze_e101, ze_e156] [(53, [(.inl 3, 0, 63, false), (.inl 4, 0, 2147483647, false), (.inl 5, 0, 64, false)], [], [], 2, true)] 5000 ze_t85 = true := by decide +kernel
theorem zc_t85 {L : Nat} {σ : Nat → Int32} {gh : zp_H → Int} {J : zp_H → Prop} (hw : zk_W zB gh J zB_fz) (hh : ∀ s ∈ zh_l, zk_Ct L σ zB gh J s) : zk_Ct L σ (zB_c 3) gh J ze_t85 := zk_chk_ok (zB_cw hw) (List.forall_mem_cons.mpr ⟨zB_ct (zc_e101 hw hh), List.forall_mem_cons.mpr ⟨zB_ct (zc_e156 hw hh), fun _ h => absurd h List.not_mem_nil⟩⟩) zt_t85
/-- yL_dive -/
def ze_t86 : zk_T := (152, [.inr (some (some 1)), .inl ((-2147483648), 2147483647), .inl ((-2147483648), 2147483647), .inr (some (some 105))], [], [(54, 0), (54, 1), (54, 2), (54, 3), (54, 4), (54, 5), (54, 6), (54, 7), (60, 0)], [61, 62, 63, 64, 104], [(.inl (some (.inl (0, 2))), [], [])], 8)
theorem zt_t86 : zk_chk (zB_c 3) zB_fz [ze_t85] [] 5000 ze_t86 = true := by decide +kernel
theorem zc_t86 {L : Nat} {σ : Nat → Int32} {gh : zp_H → Int} {J : zp_H → Prop} (hw : zk_W zB gh J zB_fz) (hh : ∀ s ∈ zh_l, zk_Ct L σ zB gh J s) : zk_Ct L σ (zB_c 3) gh J ze_t86 := zk_chk_ok (zB_cw hw) (List.forall_mem_cons.mpr ⟨zc_t85 hw hh, fun _ h => absurd h List.not_mem_nil⟩) zt_t86
/-- yX11_chart -/
def ze_t87 : zk_T := (156, [.inr (some (some 1)), .inl ((-2147483648), 2147483647)], [], [(54, 0), (54, 1), (54, 2), (54, 3), (54, 4), (54, 5), (54, 6), (54, 7)], [], [(.inr 0, [], []), (.inl (some (.inr none)), [], [])], 6)
theorem zt_t87 : zk_chk (zB_c 3) zB_fz [ze_e153] [(13, [(.inl 6, 0, 8, false)], [], [], 0, true)] 5000 ze_t87 = true := by decide +kernel
theorem zc_t87 {L : Nat} {σ : Nat → Int32} {gh : zp_H → Int} {J : zp_H → Prop} (hw : zk_W zB gh J zB_fz) (hh : ∀ s ∈ zh_l, zk_Ct L σ zB gh J s) : zk_Ct L σ (zB_c 3) gh J ze_t87 := zk_chk_ok (zB_cw hw) (List.forall_mem_cons.mpr ⟨zB_ct (zc_e153 hw hh), fun _ h => absurd h List.not_mem_nil⟩) zt_t87
/-- yL_chart -/
def ze_t88 : zk_T := (155, [.inr (some (some 1)), .inl ((-2147483648), 2147483647), .inr (some (some 105))], [], [(54, 0), (54, 1), (54, 2), (54, 3), (54, 4), (54, 5), (54, 6), (54, 7)], [104], [(.inl (some (.inl (0, 1))), [], [])], 7)
theorem zt_t88 : zk_chk (zB_c 3) zB_fz [ze_t87] [] 5000 ze_t88 = true := by decide +kernel
theorem zc_t88 {L : Nat} {σ : Nat → Int32} {gh : zp_H → Int} {J : zp_H → Prop} (hw : zk_W zB gh J zB_fz) (hh : ∀ s ∈ zh_l, zk_Ct L σ zB gh J s) : zk_Ct L σ (zB_c 3) gh J ze_t88 := zk_chk_ok (zB_cw hw) (List.forall_mem_cons.mpr ⟨zc_t87 hw hh, fun _ h => absurd h List.not_mem_nil⟩) zt_t88
/-- yL_hand -/
def ze_t89 : zk_T := (157, [.inr (some (some 1)), .inl ((-2147483648), 2147483647), .inl ((-2147483648), 2147483647), .inr (some (some 105))], [], [(70, 0), (70, 1), (70, 2), (70, 3)], [104], [(.inl (some (.inl (0, 1))), [], [])], 5)
theorem zt_t89 : zk_chk (zB_c 3) zB_fz [ze_e158] [] 5000 ze_t89 = true := by decide +kernel
theorem zc_t89 {L : Nat} {σ : Nat → Int32} {gh : zp_H → Int} {J : zp_H → Prop} (hw : zk_W zB gh J zB_fz) (hh : ∀ s ∈ zh_l, zk_Ct L σ zB gh J s) : zk_Ct L σ (zB_c 3) gh J ze_t89 := zk_chk_ok (zB_cw hw) (List.forall_mem_cons.mpr ⟨zB_ct (zc_e158 hw hh), fun _ h => absurd h List.not_mem_nil⟩) zt_t89
/-- yL_copied -/
def ze_t90 : zk_T := (162, [.inr (some (some 1)), .inl ((-2147483648), 2147483647), .inl ((-2147483648), 2147483647), .inl ((-2147483648), 2147483647), .inr (some (some 105))], [], [(71, 0), (71, 1), (71, 2)], [104], [(.inl (some (.inl (0, 2))), [], [])], 5)
theorem zt_t90 : zk_chk (zB_c 3) zB_fz [ze_e82] [] 5000 ze_t90 = true := by decide +kernel
theorem zc_t90 {L : Nat} {σ : Nat → Int32} {gh : zp_H → Int} {J : zp_H → Prop} (hw : zk_W zB gh J zB_fz) (hh : ∀ s ∈ zh_l, zk_Ct L σ zB gh J s) : zk_Ct L σ (zB_c 3) gh J ze_t90 := zk_chk_ok (zB_cw hw) (List.forall_mem_cons.mpr ⟨zB_ct (zc_e82 hw hh), fun _ h => absurd h List.not_mem_nil⟩) zt_t90
/-- yX11_fault -/
def ze_t91 : zk_T := (19, [.inr (some (some 1))], [], [], [], [(.inl (some (.inl ((-2147483648), 2147483647))), [], [])], 1)
theorem zt_t91 : zk_chk (zB_c 3) zB_fz [] [] 5000 ze_t91 = true := by decide +kernel
theorem zc_t91 {L : Nat} {σ : Nat → Int32} {gh : zp_H → Int} {J : zp_H → Prop} (hw : zk_W zB gh J zB_fz) (hh : ∀ s ∈ zh_l, zk_Ct L σ zB gh J s) : zk_Ct L σ (zB_c 3) gh J ze_t91 := zk_chk_ok (zB_cw hw) (fun _ h => absurd h List.not_mem_nil) zt_t91
/-- yX11_undo -/
def ze_t92 : zk_T := (20, [.inr (some (some 1))], [], [(33, 7)], [36, 37], [(.inl (some (.inl ((-1), 29))), [], [])], 2)
theorem zt_t92 : zk_chk (zB_c 3) zB_fz [] [] 5000 ze_t92 = true := by decide +kernel
theorem zc_t92 {L : Nat} {σ : Nat → Int32} {gh : zp_H → Int} {J : zp_H → Prop} (hw : zk_W zB gh J zB_fz) (hh : ∀ s ∈ zh_l, zk_Ct L σ zB gh J s) : zk_Ct L σ (zB_c 3) gh J ze_t92 := zk_chk_ok (zB_cw hw) (fun _ h => absurd h List.not_mem_nil) zt_t92
/-- yX11_exam -/
def ze_t93 : zk_T := (22, [.inr (some (some 1))], [], [(54, 0), (54, 1), (54, 2), (54, 3), (54, 4), (54, 5), (54, 6), (54, 7), (56, 2), (57, 0), (57, 1), (57, 2), (57, 3), (57, 4), (57, 7)], [58, 59], [(.inl (some (.inl (0, 255))), [], [])], 7)
theorem zt_t93 : zk_chk (zB_c 3) zB_fz [ze_e155, ze_e96] [(4, [(.inl 1, 0, 255, false), (.inl 2, 0, 4, false)], [], [], 1, true)] 5000 ze_t93 = true := by decide +kernel
theorem zc_t93 {L : Nat} {σ : Nat → Int32} {gh : zp_H → Int} {J : zp_H → Prop} (hw : zk_W zB gh J zB_fz) (hh : ∀ s ∈ zh_l, zk_Ct L σ zB gh J s) : zk_Ct L σ (zB_c 3) gh J ze_t93 := zk_chk_ok (zB_cw hw) (List.forall_mem_cons.mpr ⟨zB_ct (zc_e155 hw hh), List.forall_mem_cons.mpr ⟨zB_ct (zc_e96 hw hh), fun _ h => absurd h List.not_mem_nil⟩⟩) zt_t93
/-- yX11_image -/
def ze_t94 : zk_T := (45, [.inr (some (some 1))], [], [(0, 10), (42, 0), (42, 7)], [43, 44, 45, 46, 47, 48, 49, 50], [(.inl none, [], [])], 2)
theorem zt_t94 : zk_chk (zB_c 3) zB_fz [] [] 5000 ze_t94 = true := by decide +kernel
theorem zc_t94 {L : Nat} {σ : Nat → Int32} {gh : zp_H → Int} {J : zp_H → Prop} (hw : zk_W zB gh J zB_fz) (hh : ∀ s ∈ zh_l, zk_Ct L σ zB gh J s) : zk_Ct L σ (zB_c 3) gh J ze_t94 := zk_chk_ok (zB_cw hw) (fun _ h => absurd h List.not_mem_nil) zt_t94
/-- yX11_restore -/
def ze_t95 : zk_T := (47, [.inr (some (some 1))], [], [(33, 0), (33, 7)], [34, 35, 36, 37, 38, 39, 40, 41], [(.inl (some (.inl (1, 1))), [], []), (.inl (some (.inl (0, 0))), [], [])], 2)
theorem zt_t95 : zk_chk (zB_c 3) zB_fz [] [] 5000 ze_t95 = true := by decide +kernel
theorem zc_t95 {L : Nat} {σ : Nat → Int32} {gh : zp_H → Int} {J : zp_H → Prop} (hw : zk_W zB gh J zB_fz) (hh : ∀ s ∈ zh_l, zk_Ct L σ zB gh J s) : zk_Ct L σ (zB_c 3) gh J ze_t95 := zk_chk_ok (zB_cw hw) (fun _ h => absurd h List.not_mem_nil) zt_t95
