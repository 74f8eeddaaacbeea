/-! ===== more summaries of the reference (printed) ===== -/
/-- yX12_bits -/
def zr_b : zk_T := (217, [.inl ((-2147483648), 2147483647)], [], [], [], [(.inl (some (.inl ((-2147483648), 2147483647))), [], [])], 1)
theorem zrt_b : zk_chk zR zR_fz [] [] 5000 zr_b = true := by decide +kernel
theorem zrc_b {L : Nat} {σ : Nat → Int32} {gh : zp_H → Int} {J : zp_H → Prop} (hw : zk_W zR gh J zR_fz) (hh : ∀ s ∈ zr_l, zk_Ct L σ zR gh J s) : zk_Ct L σ zR gh J zr_b := zk_chk_ok hw (fun _ h => absurd h List.not_mem_nil) zrt_b
