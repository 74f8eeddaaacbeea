/-! ===== summaries of the reference (printed) ===== -/
/-- yX12_alike -/
def zr_e24 : zk_T := (248, [.inr (some (some 73)), .inl (0, 7), .inl (0, 7), .inl (0, 7), .inl (0, 7)], [], [], [], [(.inl (some (.inl (0, 8))), [], [])], 2)
theorem zrt_e24 : zk_chk zR zR_fz [] [(3, [(.inl 5, 0, 8, false)], [], [], 0, true)] 5000 zr_e24 = true := by decide +kernel
theorem zrc_e24 {L : Nat} {σ : Nat → Int32} {gh : zp_H → Int} {J : zp_H → Prop} (hw : zk_W zR gh J zR_fz) (hh : ∀ s ∈ zr_l, zk_Ct L σ zR gh J s) : zk_Ct L σ zR gh J zr_e24 := zk_chk_ok hw (fun _ h => absurd h List.not_mem_nil) zrt_e24
/-- yX12_copied -/
def zr_e25 : zk_T := (247, [.inr (some (some 73)), .inl ((-2147483648), 2147483647), .inl ((-2147483648), 2147483647), .inl ((-2147483648), 2147483647)], [], [(72, 0)], [], [(.inl (some (.inl ((-1), 8))), [], [])], 3)
theorem zrt_e25 : zk_chk zR zR_fz [zr_e24] [(62, [(.inl 4, 0, 8, false), (.inl 5, (-1), 7, false), (.inl 6, (-1), 7, false), (.inl 7, 0, 8, false)], [], [], 3, true), (75, [(.inl 4, 0, 8, false), (.inl 5, (-1), 7, false), (.inl 6, (-1), 7, false), (.inl 8, 0, 8, false)], [], [], 3, true)] 5000 zr_e25 = true := by decide +kernel
theorem zrc_e25 {L : Nat} {σ : Nat → Int32} {gh : zp_H → Int} {J : zp_H → Prop} (hw : zk_W zR gh J zR_fz) (hh : ∀ s ∈ zr_l, zk_Ct L σ zR gh J s) : zk_Ct L σ zR gh J zr_e25 := zk_chk_ok hw (List.forall_mem_cons.mpr ⟨zrc_e24 hw hh, fun _ h => absurd h List.not_mem_nil⟩) zrt_e25
/-- yX12_number -/
def zr_e26 : zk_T := (181, [.inr (some (some 73)), .inl (0, 0), .inl (99, 99)], [], [(72, 23), (72, 24), (72, 27), (72, 28), (72, 29), (72, 30), (72, 31), (72, 32), (72, 33), (72, 100)], [], [(.inl (some (.inl (0, 0))), [(72, 23, 1, 5), (72, 27, 0, 700)], [(72, 27, 0)]), (.inl (some (.inl (0, 99))), [(72, 23, 0, 0), (72, 27, 0, 700)], [(72, 27, 0)])], 3)
theorem zrt_e26 : zk_chk zR zR_fz [zr_e0] [] 5000 zr_e26 = true := by decide +kernel
theorem zrc_e26 {L : Nat} {σ : Nat → Int32} {gh : zp_H → Int} {J : zp_H → Prop} (hw : zk_W zR gh J zR_fz) (hh : ∀ s ∈ zr_l, zk_Ct L σ zR gh J s) : zk_Ct L σ zR gh J zr_e26 := zk_chk_ok hw (List.forall_mem_cons.mpr ⟨zrc_e0 hw hh, fun _ h => absurd h List.not_mem_nil⟩) zrt_e26
/-- yX12_number -/
def zr_e27 : zk_T := (181, [.inr (some (some 73)), .inl (0, 0), .inl (1, 7)], [], [(72, 23), (72, 24), (72, 27), (72, 28), (72, 29), (72, 30), (72, 31), (72, 32), (72, 33), (72, 100)], [], [(.inl (some (.inl (0, 0))), [(72, 23, 1, 5), (72, 27, 0, 700)], [(72, 27, 0)]), (.inl (some (.inl (0, 7))), [(72, 23, 0, 0), (72, 27, 0, 700)], [(72, 27, 0)])], 3)
theorem zrt_e27 : zk_chk zR zR_fz [zr_e0] [] 5000 zr_e27 = true := by decide +kernel
theorem zrc_e27 {L : Nat} {σ : Nat → Int32} {gh : zp_H → Int} {J : zp_H → Prop} (hw : zk_W zR gh J zR_fz) (hh : ∀ s ∈ zr_l, zk_Ct L σ zR gh J s) : zk_Ct L σ zR gh J zr_e27 := zk_chk_ok hw (List.forall_mem_cons.mpr ⟨zrc_e0 hw hh, fun _ h => absurd h List.not_mem_nil⟩) zrt_e27
