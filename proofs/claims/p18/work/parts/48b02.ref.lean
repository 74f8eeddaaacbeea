/-! ===== summaries of the reference (printed) ===== -/
/-- yX12_sailsOf -/
def zr_e8 : zk_T := (220, [.inr (some (some 73)), .inl (0, 7)], [], [(72, 64), (72, 65), (72, 66), (72, 67), (72, 68), (72, 69), (72, 70), (72, 71)], [], [(.inl none, [(72, 66, 1, 3), (72, 67, 0, 7)], []), (.inl none, [(72, 66, 0, 0), (72, 67, 0, 8)], [])], 3)
theorem zrt_e8 : zk_chk zR zR_fz [zr_e7] [(46, [(.inr (72, 64), 0, 63, false), (.inr (72, 67), 0, 8, false), (.inr (72, 69), (-2147483648), 2147483647, false)], [], [], 1, true), (79, [(.inr (72, 64), 0, 63, false), (.inr (72, 68), 0, 2147483647, false), (.inr (72, 69), (-2147483648), 2147483647, false)], [], [], 1, true)] 5000 zr_e8 = true := by decide +kernel
theorem zrc_e8 {L : Nat} {σ : Nat → Int32} {gh : zp_H → Int} {J : zp_H → Prop} (hw : zk_W zR gh J zR_fz) (hh : ∀ s ∈ zr_l, zk_Ct L σ zR gh J s) : zk_Ct L σ zR gh J zr_e8 := zk_chk_ok hw (List.forall_mem_cons.mpr ⟨zrc_e7 hw hh, fun _ h => absurd h List.not_mem_nil⟩) zrt_e8
/-- yX12_voyage -/
def zr_e9 : zk_T := (219, [.inr (some (some 73)), .inl ((-2147483648), 2147483647), .inl ((-2147483648), 2147483647)], [], [(72, 0), (72, 64), (72, 65), (72, 66), (72, 67), (72, 68), (72, 69), (72, 70), (72, 71)], [], [(.inl (some (.inl ((-2147483648), 2147483647))), [], [])], 4)
theorem zrt_e9 : zk_chk zR zR_fz [zr_e8] [] 5000 zr_e9 = true := by decide +kernel
theorem zrc_e9 {L : Nat} {σ : Nat → Int32} {gh : zp_H → Int} {J : zp_H → Prop} (hw : zk_W zR gh J zR_fz) (hh : ∀ s ∈ zr_l, zk_Ct L σ zR gh J s) : zk_Ct L σ zR gh J zr_e9 := zk_chk_ok hw (List.forall_mem_cons.mpr ⟨zrc_e8 hw hh, fun _ h => absurd h List.not_mem_nil⟩) zrt_e9
/-- yX12_explained -/
def zr_e10 : zk_T := (224, [.inr (some (some 73)), .inl ((-2147483648), 2147483647)], [], [(72, 0), (72, 64), (72, 65), (72, 66), (72, 67), (72, 68), (72, 69), (72, 70), (72, 71)], [], [(.inl (some (.inl (0, 0))), [], []), (.inl (some (.inl (1, 1))), [], [])], 4)
theorem zrt_e10 : zk_chk zR zR_fz [zr_e8, zr_e7] [(45, [(.inl 3, 0, 2147483647, false), (.inr (72, 64), 0, 63, false)], [], [], 0, true)] 5000 zr_e10 = true := by decide +kernel
theorem zrc_e10 {L : Nat} {σ : Nat → Int32} {gh : zp_H → Int} {J : zp_H → Prop} (hw : zk_W zR gh J zR_fz) (hh : ∀ s ∈ zr_l, zk_Ct L σ zR gh J s) : zk_Ct L σ zR gh J zr_e10 := zk_chk_ok hw (List.forall_mem_cons.mpr ⟨zrc_e8 hw hh, List.forall_mem_cons.mpr ⟨zrc_e7 hw hh, fun _ h => absurd h List.not_mem_nil⟩⟩) zrt_e10
/-- yX12_stepsAll -/
def zr_e11 : zk_T := (226, [.inr (some (some 73)), .inl (0, 3), .inl ((-2147483648), 2147483647)], [], [(72, 64), (72, 65)], [96], [(.inl none, [], [])], 3)
theorem zrt_e11 : zk_chk zR zR_fz [zr_e7] [(3, [(.inl 3, 0, 72, false)], [], [], 0, false), (13, [(.inl 6, 0, 64, false)], [], [], 0, true)] 5000 zr_e11 = true := by decide +kernel
theorem zrc_e11 {L : Nat} {σ : Nat → Int32} {gh : zp_H → Int} {J : zp_H → Prop} (hw : zk_W zR gh J zR_fz) (hh : ∀ s ∈ zr_l, zk_Ct L σ zR gh J s) : zk_Ct L σ zR gh J zr_e11 := zk_chk_ok hw (List.forall_mem_cons.mpr ⟨zrc_e7 hw hh, fun _ h => absurd h List.not_mem_nil⟩) zrt_e11
