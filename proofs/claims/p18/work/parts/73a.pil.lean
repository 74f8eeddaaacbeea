/-! ===== the reference: pilots, without the summaries that stand behind it (printed) ===== -/
theorem zro_e6 {L : Nat} {σ : Nat → Int32} : zk_Ct L σ zR zg zJ zr_e6 := zk_chk_ok zR_W (fun _ h => absurd h List.not_mem_nil) zrt_e6
theorem zro_e7 {L : Nat} {σ : Nat → Int32} : zk_Ct L σ zR zg zJ zr_e7 := zk_chk_ok zR_W (List.forall_mem_cons.mpr ⟨zro_e6, fun _ h => absurd h List.not_mem_nil⟩) zrt_e7
theorem zro_e8 {L : Nat} {σ : Nat → Int32} : zk_Ct L σ zR zg zJ zr_e8 := zk_chk_ok zR_W (List.forall_mem_cons.mpr ⟨zro_e7, fun _ h => absurd h List.not_mem_nil⟩) zrt_e8
theorem zro_e14 {L : Nat} {σ : Nat → Int32} : zk_Ct L σ zR zg zJ zr_e14 := zk_chk_ok zR_W (List.forall_mem_cons.mpr ⟨zro_e8, fun _ h => absurd h List.not_mem_nil⟩) zrt_e14
theorem zro_e15 {L : Nat} {σ : Nat → Int32} : zk_Ct L σ zR zg zJ zr_e15 := zk_chk_ok zR_W (List.forall_mem_cons.mpr ⟨zrc_h4, List.forall_mem_cons.mpr ⟨zro_e14, List.forall_mem_cons.mpr ⟨zro_e7, fun _ h => absurd h List.not_mem_nil⟩⟩⟩) zrt_e15
