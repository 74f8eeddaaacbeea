/-! ===== the class's calls: what its own references are, in four ways (printed) ===== -/
def zB_cr (c : Nat) : List (Nat × Option Nat) := match c with
  | 0 => [(5, some 3), (6, some 14), (7, some 23), (8, some 34)]
  | 1 => [(5, some 3), (6, some 34), (7, some 23), (8, some 14)]
  | 2 => [(5, some 23), (6, some 14), (7, some 3), (8, some 34)]
  | _ => [(5, some 23), (6, some 34), (7, some 3), (8, some 14)]
def zB_r (c p k : Nat) : Option (Option Nat) := bif Nat.beq p 0 then match zB_l2.zB_l1 (zB_cr c) k with
  | some r => some r
  | none => zB_l2 zB_rf p k else zB_l2 zB_rf p k
def zB_c (c : Nat) : zk_B := (zB_sh, zB_r c, zB_l2 zB_fr, zB_al zB_ar, zB_cd, zB_gk)
theorem zB_cw {gh : zp_H → Int} {J : zp_H → Prop} {c : Nat} (hw : zk_W zB gh J zB_fz) : zk_W (zB_c c) gh J zB_fz := hw
def zB_rok (c : Nat) (H : zp_H) : Prop := ∀ p k r, zB_r c p k = some r → H.2.2.2 p k = r
theorem zB_cB {gh : zp_H → Int} {J : zp_H → Prop} {c : Nat} {H : zp_H} (hB : zk_Bs zB gh J H) (hr : zB_rok c H) : zk_Bs (zB_c c) gh J H := ⟨hB.1, hr, hB.2.2⟩
theorem zB_sub : ∀ {k : Nat} {r : Option Nat} {c : Nat}, zB_l2 zB_rf 0 k = some r → zB_l2.zB_l1 (zB_cr c) k = none := by
  intro k r c h
  have h : zB_l2.zB_l1 [(0, some 2), (9, some 43), (11, some 52), (12, some 55), (13, some 56), (14, some 57), (15, some 61), (16, some 71), (17, some 72)] k = some r := h
  by_cases h5 : k = 5
  · subst h5; cases h
  by_cases h6 : k = 6
  · subst h6; cases h
  by_cases h7 : k = 7
  · subst h7; cases h
  by_cases h8 : k = 8
  · subst h8; cases h
  have e5 : Nat.beq 5 k = false := by cases e : Nat.beq 5 k with
    | false => rfl
    | true => exact absurd (za_beq e).symm h5
  have e6 : Nat.beq 6 k = false := by cases e : Nat.beq 6 k with
    | false => rfl
    | true => exact absurd (za_beq e).symm h6
  have e7 : Nat.beq 7 k = false := by cases e : Nat.beq 7 k with
    | false => rfl
    | true => exact absurd (za_beq e).symm h7
  have e8 : Nat.beq 8 k = false := by cases e : Nat.beq 8 k with
    | false => rfl
    | true => exact absurd (za_beq e).symm h8
  match c with
  | 0 => simp only [zB_cr, zB_l2.zB_l1, e5, e6, e7, e8, cond_false]
  | 1 => simp only [zB_cr, zB_l2.zB_l1, e5, e6, e7, e8, cond_false]
  | 2 => simp only [zB_cr, zB_l2.zB_l1, e5, e6, e7, e8, cond_false]
  | _ + 3 => simp only [zB_cr, zB_l2.zB_l1, e5, e6, e7, e8, cond_false]
theorem zB_Bc {gh : zp_H → Int} {J : zp_H → Prop} {c : Nat} {H : zp_H} (hB : zk_Bs (zB_c c) gh J H) : zk_Bs zB gh J H := by
  refine ⟨hB.1, fun p k r h => hB.2.1 p k r ?_, hB.2.2⟩
  show zB_r c p k = some r
  unfold zB_r
  cases hp : Nat.beq p 0 with
  | false => exact h
  | true =>
    have e := za_beq hp
    subst e
    rw [zB_sub h]
    exact h
theorem zB_ct {L : Nat} {σ : Nat → Int32} {gh : zp_H → Int} {J : zp_H → Prop} {c : Nat} {e : zk_T} (h : zk_Ct L σ zB gh J e) : zk_Ct L σ (zB_c c) gh J e := by
  intro d hd as H ha hB hp
  obtain ⟨X, x1, x2, x3, x4⟩ := h d hd as H ha (zB_Bc hB) hp
  refine ⟨X, x1, zB_cB x2 ?_, x3, x4⟩
  intro p k r hr
  rw [x3.1]
  exact hB.2.1 p k r hr
