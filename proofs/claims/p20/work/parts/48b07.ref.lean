/-! ===== summaries of the reference (printed) ===== -/
/-- yX12_number -/
def zr_e28 : zk_T := (181, [.inr (some (some 73)), .inl (1, 1), .inl (9, 9)], [], [(72, 23), (72, 24), (72, 27), (72, 28), (72, 29), (72, 30), (72, 31), (72, 32), (72, 33), (72, 100)], [], [(.inl (some (.inl (0, 0))), [(72, 23, 1, 5), (72, 27, 0, 700)], [(72, 27, 0)]), (.inl (some (.inl (1, 9))), [(72, 23, 0, 0), (72, 27, 0, 700)], [(72, 27, 0)])], 3)
theorem zrt_e28 : zk_chk zR zR_fz [zr_e0] [] 5000 zr_e28 = true := by decide +kernel
/-- yX12_readsSlate -/
def zr_e29 : zk_T := (187, [.inr (some (some 73))], [(72, 23, 0, 0)], [(72, 23), (72, 24), (72, 27), (72, 28), (72, 29), (72, 30), (72, 31), (72, 32), (72, 33), (72, 38), (72, 100)], [84, 85], [(.inl none, [(72, 23, 1, 5)], []), (.inl none, [(72, 23, 0, 0), (72, 27, 0, 700)], [(72, 27, 0)])], 6)
theorem zrt_e29 : zk_chk zR zR_fz [zr_h0, zr_h1, zr_h2, zr_h3, zr_e0, zr_e26, zr_e28, zr_e27] [(60, [(.inl 2, 0, 8, false), (.inr (72, 23), 0, 5, false), (.inr (72, 27), 0, 700, true)], [], [(72, 100)], 0, true)] 5000 zr_e29 = true := by decide +kernel
/-- yX12_number -/
def zr_e30 : zk_T := (181, [.inr (some (some 73)), .inl (0, 0), .inl (12, 12)], [], [(72, 23), (72, 24), (72, 27), (72, 28), (72, 29), (72, 30), (72, 31), (72, 32), (72, 33), (72, 100)], [], [(.inl (some (.inl (0, 0))), [(72, 23, 1, 5), (72, 27, 0, 700)], [(72, 27, 0)]), (.inl (some (.inl (0, 12))), [(72, 23, 0, 0), (72, 27, 0, 700)], [(72, 27, 0)])], 3)
theorem zrt_e30 : zk_chk zR zR_fz [zr_e0] [] 5000 zr_e30 = true := by decide +kernel
/-- yX12_number -/
def zr_e31 : zk_T := (181, [.inr (some (some 73)), .inl (13, 13), .inl (12, 12)], [], [(72, 23), (72, 24)], [], [(.inl (some (.inl (0, 0))), [(72, 23, 1, 5), (72, 27, 0, 700)], [(72, 27, 0)])], 3)
theorem zrt_e31 : zk_chk zR zR_fz [] [] 5000 zr_e31 = true := by decide +kernel
