/-! ===== summaries of the reference (printed) ===== -/
/-- yX12_dive -/
def zr_e20 : zk_T := (243, [.inr (some (some 73)), .inl ((-2147483648), 2147483647), .inl ((-2147483648), 2147483647)], [], [(72, 0), (72, 64), (72, 65), (72, 66), (72, 67), (72, 68), (72, 69), (72, 70), (72, 71)], [], [(.inl (some (.inl ((-2147483648), 2147483647))), [], [])], 4)
theorem zrt_e20 : zk_chk zR zR_fz [zr_e8] [(39, [(.inl 3, (-1), 63, false), (.inl 4, (-2147483648), 2147483647, false), (.inl 5, 0, 64, false)], [], [], 2, true), (59, [(.inl 6, (-2147483648), 2147483647, false), (.inl 7, 0, 8, false)], [], [], 1, true)] 5000 zr_e20 = true := by decide +kernel
theorem zrc_e20 {L : Nat} {σ : Nat → Int32} {gh : zp_H → Int} {J : zp_H → Prop} (hw : zk_W zR gh J zR_fz) (hh : ∀ s ∈ zr_l, zk_Ct L σ zR gh J s) : zk_Ct L σ zR gh J zr_e20 := zk_chk_ok hw (List.forall_mem_cons.mpr ⟨zrc_e8 hw hh, fun _ h => absurd h List.not_mem_nil⟩) zrt_e20
/-- yX12_chart -/
def zr_e21 : zk_T := (244, [.inr (some (some 73)), .inl ((-2147483648), 2147483647)], [], [(72, 0), (72, 64), (72, 65), (72, 66), (72, 67), (72, 68), (72, 69), (72, 70), (72, 71)], [], [(.inl (some (.inr none)), [], [])], 5)
theorem zrt_e21 : zk_chk zR zR_fz [zr_e8, zr_e14] [(35, [(.inl 6, 0, 8, false)], [], [], 0, true), (85, [(.inl 8, 0, 64, false)], [], [], 0, true)] 5000 zr_e21 = true := by decide +kernel
theorem zrc_e21 {L : Nat} {σ : Nat → Int32} {gh : zp_H → Int} {J : zp_H → Prop} (hw : zk_W zR gh J zR_fz) (hh : ∀ s ∈ zr_l, zk_Ct L σ zR gh J s) : zk_Ct L σ zR gh J zr_e21 := zk_chk_ok hw (List.forall_mem_cons.mpr ⟨zrc_e8 hw hh, List.forall_mem_cons.mpr ⟨zrc_e14 hw hh, fun _ h => absurd h List.not_mem_nil⟩⟩) zrt_e21
/-- yX12_product -/
def zr_e22 : zk_T := (246, [.inr (some (some 73)), .inl (0, 7), .inl (0, 4), .inl (0, 4), .inl (1, 7)], [], [], [], [(.inl (some (.inr none)), [], [])], 2)
theorem zrt_e22 : zk_chk zR zR_fz [] [(6, [(.inl 7, 0, 8, false)], [], [], 0, true)] 5000 zr_e22 = true := by decide +kernel
theorem zrc_e22 {L : Nat} {σ : Nat → Int32} {gh : zp_H → Int} {J : zp_H → Prop} (hw : zk_W zR gh J zR_fz) (hh : ∀ s ∈ zr_l, zk_Ct L σ zR gh J s) : zk_Ct L σ zR gh J zr_e22 := zk_chk_ok hw (fun _ h => absurd h List.not_mem_nil) zrt_e22
/-- yX12_hand -/
def zr_e23 : zk_T := (245, [.inr (some (some 73)), .inl ((-2147483648), 2147483647), .inl ((-2147483648), 2147483647)], [], [(72, 0)], [], [(.inl (some (.inr none)), [], [])], 3)
theorem zrt_e23 : zk_chk zR zR_fz [zr_e22] [(38, [(.inl 3, (-1), 4, false), (.inl 4, (-1), 4, false), (.inl 5, (-1), 7, false), (.inl 8, 0, 5, false)], [], [], 3, true), (50, [(.inl 3, (-1), 4, false), (.inl 4, (-1), 4, false), (.inl 5, (-1), 7, false), (.inl 9, 0, 5, false)], [], [], 3, true), (62, [(.inl 3, (-1), 4, false), (.inl 4, (-1), 4, false), (.inl 5, (-1), 7, false), (.inl 10, 1, 8, false)], [], [], 3, true)] 5000 zr_e23 = true := by decide +kernel
theorem zrc_e23 {L : Nat} {σ : Nat → Int32} {gh : zp_H → Int} {J : zp_H → Prop} (hw : zk_W zR gh J zR_fz) (hh : ∀ s ∈ zr_l, zk_Ct L σ zR gh J s) : zk_Ct L σ zR gh J zr_e23 := zk_chk_ok hw (List.forall_mem_cons.mpr ⟨zrc_e22 hw hh, fun _ h => absurd h List.not_mem_nil⟩) zrt_e23
