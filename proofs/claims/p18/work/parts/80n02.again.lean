/-! ===== the reference once more, without the condition on what it reads (printed from the parts above) ===== -/
/-- the word at hand (shown further on) -/
def z0x_KW (L : Nat) (σ : Nat → Int32) : Prop := ∀ (d : Nat) (H : zp_H), zk_Bs z0R zg zJ H → ∃ v : Int32, zp_Call L σ (d + 4) 177 [.inr (.inr (some 73))] H (.inl (some (.inl v)), H) ∧ v.toInt = zg H
