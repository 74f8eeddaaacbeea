/-! ===== walks by hand: a row an instruction (printed by a program of mine) ===== -/
def zw_I (H : zp_H) (p k : Nat) (x : Int32) : zp_H := (H.1, zp_u H.2.1 p k x, H.2.2)
def zw_J (H : zp_H) (p k : Nat) (x : Int64) : zp_H := (H.1, H.2.1, zp_u H.2.2.1 p k x, H.2.2.2)
def zw_R (H : zp_H) (p k : Nat) (x : Option Nat) : zp_H := (H.1, H.2.1, H.2.2.1, zp_u H.2.2.2 p k x)
def zw_W (H : zp_H) : Prop := H.1 = zB_sh ∧ ∀ p k r, zB_l2 zB_rf p k = some r → H.2.2.2 p k = r
theorem zw_W_I {H : zp_H} {p k : Nat} {x : Int32} (h : zw_W H) : zw_W (zw_I H p k x) := h
theorem zw_W_J {H : zp_H} {p k : Nat} {x : Int64} (h : zw_W H) : zw_W (zw_J H p k x) := h
section WK
variable {L : Nat} {σ : Nat → Int32} {P : zp_X → Prop} {M Y : za_MI} {fs : List zs_F} {d : Nat} {pc pc' : Nat} {lv lv' : zp_LV} {st st' : List zp_V} {H H1 : zp_H} {c : Nat × Nat} {x y : Int32} {u v : Int64} {a b : Int} {i : Instr}
theorem zw_s (hi : za_fe (za_is M) pc = some i) (h : zp_ins L σ M (za_CP (za_cl M)) i pc lv st (H, c) = some (.inl (pc', lv', st', H, c))) (hS : zs_Safe L σ P M fs d (pc', lv', st', H, c)) : zs_Safe L σ P M fs d (pc, lv, st, H, c) := zs_step (S := (pc, lv, st, H, c)) hi h hS
theorem zw_iadd (hi : za_fe (za_is M) pc = some .iadd) (hp : pc + 1 = pc') (hS : zs_Safe L σ P M fs d (pc', lv, .inl (x + y) :: st, H, c)) : zs_Safe L σ P M fs d (pc, lv, .inl y :: .inl x :: st, H, c) := zs_step (S := (pc, lv, .inl y :: .inl x :: st, H, c)) hi (by rw [← hp]; rfl) hS
theorem zw_isub (hi : za_fe (za_is M) pc = some .isub) (hp : pc + 1 = pc') (hS : zs_Safe L σ P M fs d (pc', lv, .inl (x - y) :: st, H, c)) : zs_Safe L σ P M fs d (pc, lv, .inl y :: .inl x :: st, H, c) := zs_step (S := (pc, lv, .inl y :: .inl x :: st, H, c)) hi (by rw [← hp]; rfl) hS
theorem zw_imul (hi : za_fe (za_is M) pc = some .imul) (hp : pc + 1 = pc') (hS : zs_Safe L σ P M fs d (pc', lv, .inl (x * y) :: st, H, c)) : zs_Safe L σ P M fs d (pc, lv, .inl y :: .inl x :: st, H, c) := zs_step (S := (pc, lv, .inl y :: .inl x :: st, H, c)) hi (by rw [← hp]; rfl) hS
theorem zw_iand (hi : za_fe (za_is M) pc = some .iand) (hp : pc + 1 = pc') (hS : zs_Safe L σ P M fs d (pc', lv, .inl (x &&& y) :: st, H, c)) : zs_Safe L σ P M fs d (pc, lv, .inl y :: .inl x :: st, H, c) := zs_step (S := (pc, lv, .inl y :: .inl x :: st, H, c)) hi (by rw [← hp]; rfl) hS
theorem zw_ior (hi : za_fe (za_is M) pc = some .ior) (hp : pc + 1 = pc') (hS : zs_Safe L σ P M fs d (pc', lv, .inl (x ||| y) :: st, H, c)) : zs_Safe L σ P M fs d (pc, lv, .inl y :: .inl x :: st, H, c) := zs_step (S := (pc, lv, .inl y :: .inl x :: st, H, c)) hi (by rw [← hp]; rfl) hS
theorem zw_ixor (hi : za_fe (za_is M) pc = some .ixor) (hp : pc + 1 = pc') (hS : zs_Safe L σ P M fs d (pc', lv, .inl (x ^^^ y) :: st, H, c)) : zs_Safe L σ P M fs d (pc, lv, .inl y :: .inl x :: st, H, c) := zs_step (S := (pc, lv, .inl y :: .inl x :: st, H, c)) hi (by rw [← hp]; rfl) hS
theorem zw_ishl (hi : za_fe (za_is M) pc = some .ishl) (hp : pc + 1 = pc') (hS : zs_Safe L σ P M fs d (pc', lv, .inl (x <<< (y &&& 31)) :: st, H, c)) : zs_Safe L σ P M fs d (pc, lv, .inl y :: .inl x :: st, H, c) := zs_step (S := (pc, lv, .inl y :: .inl x :: st, H, c)) hi (by rw [← hp]; rfl) hS
theorem zw_ishr (hi : za_fe (za_is M) pc = some .ishr) (hp : pc + 1 = pc') (hS : zs_Safe L σ P M fs d (pc', lv, .inl (x >>> (y &&& 31)) :: st, H, c)) : zs_Safe L σ P M fs d (pc, lv, .inl y :: .inl x :: st, H, c) := zs_step (S := (pc, lv, .inl y :: .inl x :: st, H, c)) hi (by rw [← hp]; rfl) hS
theorem zw_ladd (hi : za_fe (za_is M) pc = some .ladd) (hp : pc + 1 = pc') (hS : zs_Safe L σ P M fs d (pc', lv, .inr (.inl (u + v)) :: st, H, c)) : zs_Safe L σ P M fs d (pc, lv, .inr (.inl v) :: .inr (.inl u) :: st, H, c) := zs_step (S := (pc, lv, .inr (.inl v) :: .inr (.inl u) :: st, H, c)) hi (by rw [← hp]; rfl) hS
theorem zw_lsub (hi : za_fe (za_is M) pc = some .lsub) (hp : pc + 1 = pc') (hS : zs_Safe L σ P M fs d (pc', lv, .inr (.inl (u - v)) :: st, H, c)) : zs_Safe L σ P M fs d (pc, lv, .inr (.inl v) :: .inr (.inl u) :: st, H, c) := zs_step (S := (pc, lv, .inr (.inl v) :: .inr (.inl u) :: st, H, c)) hi (by rw [← hp]; rfl) hS
theorem zw_lmul (hi : za_fe (za_is M) pc = some .lmul) (hp : pc + 1 = pc') (hS : zs_Safe L σ P M fs d (pc', lv, .inr (.inl (u * v)) :: st, H, c)) : zs_Safe L σ P M fs d (pc, lv, .inr (.inl v) :: .inr (.inl u) :: st, H, c) := zs_step (S := (pc, lv, .inr (.inl v) :: .inr (.inl u) :: st, H, c)) hi (by rw [← hp]; rfl) hS
theorem zw_land (hi : za_fe (za_is M) pc = some .land) (hp : pc + 1 = pc') (hS : zs_Safe L σ P M fs d (pc', lv, .inr (.inl (u &&& v)) :: st, H, c)) : zs_Safe L σ P M fs d (pc, lv, .inr (.inl v) :: .inr (.inl u) :: st, H, c) := zs_step (S := (pc, lv, .inr (.inl v) :: .inr (.inl u) :: st, H, c)) hi (by rw [← hp]; rfl) hS
theorem zw_lor (hi : za_fe (za_is M) pc = some .lor) (hp : pc + 1 = pc') (hS : zs_Safe L σ P M fs d (pc', lv, .inr (.inl (u ||| v)) :: st, H, c)) : zs_Safe L σ P M fs d (pc, lv, .inr (.inl v) :: .inr (.inl u) :: st, H, c) := zs_step (S := (pc, lv, .inr (.inl v) :: .inr (.inl u) :: st, H, c)) hi (by rw [← hp]; rfl) hS
theorem zw_lxor (hi : za_fe (za_is M) pc = some .lxor) (hp : pc + 1 = pc') (hS : zs_Safe L σ P M fs d (pc', lv, .inr (.inl (u ^^^ v)) :: st, H, c)) : zs_Safe L σ P M fs d (pc, lv, .inr (.inl v) :: .inr (.inl u) :: st, H, c) := zs_step (S := (pc, lv, .inr (.inl v) :: .inr (.inl u) :: st, H, c)) hi (by rw [← hp]; rfl) hS
theorem zw_lshl (hi : za_fe (za_is M) pc = some .lshl) (hp : pc + 1 = pc') (hS : zs_Safe L σ P M fs d (pc', lv, .inr (.inl (za_shl0 u y)) :: st, H, c)) : zs_Safe L σ P M fs d (pc, lv, .inl y :: .inr (.inl u) :: st, H, c) := zs_step (S := (pc, lv, .inl y :: .inr (.inl u) :: st, H, c)) hi (by rw [← hp]; rfl) hS
theorem zw_lshr (hi : za_fe (za_is M) pc = some .lshr) (hp : pc + 1 = pc') (hS : zs_Safe L σ P M fs d (pc', lv, .inr (.inl (za_shr0 u y)) :: st, H, c)) : zs_Safe L σ P M fs d (pc, lv, .inl y :: .inr (.inl u) :: st, H, c) := zs_step (S := (pc, lv, .inl y :: .inr (.inl u) :: st, H, c)) hi (by rw [← hp]; rfl) hS
theorem zw_lushr (hi : za_fe (za_is M) pc = some .lushr) (hp : pc + 1 = pc') (hS : zs_Safe L σ P M fs d (pc', lv, .inr (.inl (za_ushr0 u y)) :: st, H, c)) : zs_Safe L σ P M fs d (pc, lv, .inl y :: .inr (.inl u) :: st, H, c) := zs_step (S := (pc, lv, .inl y :: .inr (.inl u) :: st, H, c)) hi (by rw [← hp]; rfl) hS
theorem zw_beq1 {o : Int} {g : Nat} (hi : za_fe (za_is M) pc = some (.ifCond .eq o)) (hg : zp_to o pc = some g) (hp : pc + 3 = pc') (ha : x.toInt = a) (k1 : a = 0 → zs_Safe L σ P M fs d (g, lv, st, H, c)) (k2 : a ≠ 0 → zs_Safe L σ P M fs d (pc', lv, st, H, c)) : zs_Safe L σ P M fs d (pc, lv, .inl x :: st, H, c) := by
  have e : zp_ins L σ M (za_CP (za_cl M)) (.ifCond .eq o) pc lv (.inl x :: st) (H, c) = zp_br (decide (x = 0)) o pc lv st (H, c) := rfl
  unfold zp_br at e
  rw [hg] at e
  subst ha
  by_cases h : x.toInt = 0
  · have h1 : (decide (x = 0)) = true := decide_eq_true (zk_eqi.mpr h)
    rw [h1] at e
    exact zs_step (S := (pc, lv, .inl x :: st, H, c)) hi e (k1 h)
  · have h1 : (decide (x = 0)) = false := decide_eq_false (fun h9 => h (zk_eqi.mp h9))
    rw [h1] at e
    rw [← hp] at k2
    exact zs_step (S := (pc, lv, .inl x :: st, H, c)) hi e (k2 (h))
theorem zw_bne1 {o : Int} {g : Nat} (hi : za_fe (za_is M) pc = some (.ifCond .ne o)) (hg : zp_to o pc = some g) (hp : pc + 3 = pc') (ha : x.toInt = a) (k1 : a ≠ 0 → zs_Safe L σ P M fs d (g, lv, st, H, c)) (k2 : a = 0 → zs_Safe L σ P M fs d (pc', lv, st, H, c)) : zs_Safe L σ P M fs d (pc, lv, .inl x :: st, H, c) := by
  have e : zp_ins L σ M (za_CP (za_cl M)) (.ifCond .ne o) pc lv (.inl x :: st) (H, c) = zp_br (decide (¬ x = 0)) o pc lv st (H, c) := rfl
  unfold zp_br at e
  rw [hg] at e
  subst ha
  by_cases h : x.toInt ≠ 0
  · have h1 : (decide (¬ x = 0)) = true := decide_eq_true ((not_congr zk_eqi).mpr h)
    rw [h1] at e
    exact zs_step (S := (pc, lv, .inl x :: st, H, c)) hi e (k1 h)
  · have h1 : (decide (¬ x = 0)) = false := decide_eq_false (fun h9 => h ((not_congr zk_eqi).mp h9))
    rw [h1] at e
    rw [← hp] at k2
    exact zs_step (S := (pc, lv, .inl x :: st, H, c)) hi e (k2 (Classical.not_not.mp h))
theorem zw_blt1 {o : Int} {g : Nat} (hi : za_fe (za_is M) pc = some (.ifCond .lt o)) (hg : zp_to o pc = some g) (hp : pc + 3 = pc') (ha : x.toInt = a) (k1 : a < 0 → zs_Safe L σ P M fs d (g, lv, st, H, c)) (k2 : 0 ≤ a → zs_Safe L σ P M fs d (pc', lv, st, H, c)) : zs_Safe L σ P M fs d (pc, lv, .inl x :: st, H, c) := by
  have e : zp_ins L σ M (za_CP (za_cl M)) (.ifCond .lt o) pc lv (.inl x :: st) (H, c) = zp_br (decide (x < 0)) o pc lv st (H, c) := rfl
  unfold zp_br at e
  rw [hg] at e
  subst ha
  by_cases h : x.toInt < 0
  · have h1 : (decide (x < 0)) = true := decide_eq_true (zk_lti.mpr h)
    rw [h1] at e
    exact zs_step (S := (pc, lv, .inl x :: st, H, c)) hi e (k1 h)
  · have h1 : (decide (x < 0)) = false := decide_eq_false (fun h9 => h (zk_lti.mp h9))
    rw [h1] at e
    rw [← hp] at k2
    exact zs_step (S := (pc, lv, .inl x :: st, H, c)) hi e (k2 (Int.not_lt.mp h))
theorem zw_bge1 {o : Int} {g : Nat} (hi : za_fe (za_is M) pc = some (.ifCond .ge o)) (hg : zp_to o pc = some g) (hp : pc + 3 = pc') (ha : x.toInt = a) (k1 : 0 ≤ a → zs_Safe L σ P M fs d (g, lv, st, H, c)) (k2 : a < 0 → zs_Safe L σ P M fs d (pc', lv, st, H, c)) : zs_Safe L σ P M fs d (pc, lv, .inl x :: st, H, c) := by
  have e : zp_ins L σ M (za_CP (za_cl M)) (.ifCond .ge o) pc lv (.inl x :: st) (H, c) = zp_br (decide (0 ≤ x)) o pc lv st (H, c) := rfl
  unfold zp_br at e
  rw [hg] at e
  subst ha
  by_cases h : 0 ≤ x.toInt
  · have h1 : (decide (0 ≤ x)) = true := decide_eq_true (zk_lei.mpr h)
    rw [h1] at e
    exact zs_step (S := (pc, lv, .inl x :: st, H, c)) hi e (k1 h)
  · have h1 : (decide (0 ≤ x)) = false := decide_eq_false (fun h9 => h (zk_lei.mp h9))
    rw [h1] at e
    rw [← hp] at k2
    exact zs_step (S := (pc, lv, .inl x :: st, H, c)) hi e (k2 (Int.not_le.mp h))
theorem zw_bgt1 {o : Int} {g : Nat} (hi : za_fe (za_is M) pc = some (.ifCond .gt o)) (hg : zp_to o pc = some g) (hp : pc + 3 = pc') (ha : x.toInt = a) (k1 : 0 < a → zs_Safe L σ P M fs d (g, lv, st, H, c)) (k2 : a ≤ 0 → zs_Safe L σ P M fs d (pc', lv, st, H, c)) : zs_Safe L σ P M fs d (pc, lv, .inl x :: st, H, c) := by
  have e : zp_ins L σ M (za_CP (za_cl M)) (.ifCond .gt o) pc lv (.inl x :: st) (H, c) = zp_br (decide (0 < x)) o pc lv st (H, c) := rfl
  unfold zp_br at e
  rw [hg] at e
  subst ha
  by_cases h : 0 < x.toInt
  · have h1 : (decide (0 < x)) = true := decide_eq_true (zk_lti.mpr h)
    rw [h1] at e
    exact zs_step (S := (pc, lv, .inl x :: st, H, c)) hi e (k1 h)
  · have h1 : (decide (0 < x)) = false := decide_eq_false (fun h9 => h (zk_lti.mp h9))
    rw [h1] at e
    rw [← hp] at k2
    exact zs_step (S := (pc, lv, .inl x :: st, H, c)) hi e (k2 (Int.not_lt.mp h))
theorem zw_ble1 {o : Int} {g : Nat} (hi : za_fe (za_is M) pc = some (.ifCond .le o)) (hg : zp_to o pc = some g) (hp : pc + 3 = pc') (ha : x.toInt = a) (k1 : a ≤ 0 → zs_Safe L σ P M fs d (g, lv, st, H, c)) (k2 : 0 < a → zs_Safe L σ P M fs d (pc', lv, st, H, c)) : zs_Safe L σ P M fs d (pc, lv, .inl x :: st, H, c) := by
  have e : zp_ins L σ M (za_CP (za_cl M)) (.ifCond .le o) pc lv (.inl x :: st) (H, c) = zp_br (decide (x ≤ 0)) o pc lv st (H, c) := rfl
  unfold zp_br at e
  rw [hg] at e
  subst ha
  by_cases h : x.toInt ≤ 0
  · have h1 : (decide (x ≤ 0)) = true := decide_eq_true (zk_lei.mpr h)
    rw [h1] at e
    exact zs_step (S := (pc, lv, .inl x :: st, H, c)) hi e (k1 h)
  · have h1 : (decide (x ≤ 0)) = false := decide_eq_false (fun h9 => h (zk_lei.mp h9))
    rw [h1] at e
    rw [← hp] at k2
    exact zs_step (S := (pc, lv, .inl x :: st, H, c)) hi e (k2 (Int.not_le.mp h))
theorem zw_beq2 {o : Int} {g : Nat} (hi : za_fe (za_is M) pc = some (.if_icmp .eq o)) (hg : zp_to o pc = some g) (hp : pc + 3 = pc') (ha : x.toInt = a) (hb : y.toInt = b) (k1 : a = b → zs_Safe L σ P M fs d (g, lv, st, H, c)) (k2 : a ≠ b → zs_Safe L σ P M fs d (pc', lv, st, H, c)) : zs_Safe L σ P M fs d (pc, lv, .inl y :: .inl x :: st, H, c) := by
  have e : zp_ins L σ M (za_CP (za_cl M)) (.if_icmp .eq o) pc lv (.inl y :: .inl x :: st) (H, c) = zp_br (decide (x = y)) o pc lv st (H, c) := rfl
  unfold zp_br at e
  rw [hg] at e
  subst ha hb
  by_cases h : x.toInt = y.toInt
  · have h1 : (decide (x = y)) = true := decide_eq_true (zk_eqi.mpr h)
    rw [h1] at e
    exact zs_step (S := (pc, lv, .inl y :: .inl x :: st, H, c)) hi e (k1 h)
  · have h1 : (decide (x = y)) = false := decide_eq_false (fun h9 => h (zk_eqi.mp h9))
    rw [h1] at e
    rw [← hp] at k2
    exact zs_step (S := (pc, lv, .inl y :: .inl x :: st, H, c)) hi e (k2 (h))
theorem zw_bne2 {o : Int} {g : Nat} (hi : za_fe (za_is M) pc = some (.if_icmp .ne o)) (hg : zp_to o pc = some g) (hp : pc + 3 = pc') (ha : x.toInt = a) (hb : y.toInt = b) (k1 : a ≠ b → zs_Safe L σ P M fs d (g, lv, st, H, c)) (k2 : a = b → zs_Safe L σ P M fs d (pc', lv, st, H, c)) : zs_Safe L σ P M fs d (pc, lv, .inl y :: .inl x :: st, H, c) := by
  have e : zp_ins L σ M (za_CP (za_cl M)) (.if_icmp .ne o) pc lv (.inl y :: .inl x :: st) (H, c) = zp_br (decide (¬ x = y)) o pc lv st (H, c) := rfl
  unfold zp_br at e
  rw [hg] at e
  subst ha hb
  by_cases h : x.toInt ≠ y.toInt
  · have h1 : (decide (¬ x = y)) = true := decide_eq_true ((not_congr zk_eqi).mpr h)
    rw [h1] at e
    exact zs_step (S := (pc, lv, .inl y :: .inl x :: st, H, c)) hi e (k1 h)
  · have h1 : (decide (¬ x = y)) = false := decide_eq_false (fun h9 => h ((not_congr zk_eqi).mp h9))
    rw [h1] at e
    rw [← hp] at k2
    exact zs_step (S := (pc, lv, .inl y :: .inl x :: st, H, c)) hi e (k2 (Classical.not_not.mp h))
theorem zw_blt2 {o : Int} {g : Nat} (hi : za_fe (za_is M) pc = some (.if_icmp .lt o)) (hg : zp_to o pc = some g) (hp : pc + 3 = pc') (ha : x.toInt = a) (hb : y.toInt = b) (k1 : a < b → zs_Safe L σ P M fs d (g, lv, st, H, c)) (k2 : b ≤ a → zs_Safe L σ P M fs d (pc', lv, st, H, c)) : zs_Safe L σ P M fs d (pc, lv, .inl y :: .inl x :: st, H, c) := by
  have e : zp_ins L σ M (za_CP (za_cl M)) (.if_icmp .lt o) pc lv (.inl y :: .inl x :: st) (H, c) = zp_br (decide (x < y)) o pc lv st (H, c) := rfl
  unfold zp_br at e
  rw [hg] at e
  subst ha hb
  by_cases h : x.toInt < y.toInt
  · have h1 : (decide (x < y)) = true := decide_eq_true (zk_lti.mpr h)
    rw [h1] at e
    exact zs_step (S := (pc, lv, .inl y :: .inl x :: st, H, c)) hi e (k1 h)
  · have h1 : (decide (x < y)) = false := decide_eq_false (fun h9 => h (zk_lti.mp h9))
    rw [h1] at e
    rw [← hp] at k2
    exact zs_step (S := (pc, lv, .inl y :: .inl x :: st, H, c)) hi e (k2 (Int.not_lt.mp h))
theorem zw_bge2 {o : Int} {g : Nat} (hi : za_fe (za_is M) pc = some (.if_icmp .ge o)) (hg : zp_to o pc = some g) (hp : pc + 3 = pc') (ha : x.toInt = a) (hb : y.toInt = b) (k1 : b ≤ a → zs_Safe L σ P M fs d (g, lv, st, H, c)) (k2 : a < b → zs_Safe L σ P M fs d (pc', lv, st, H, c)) : zs_Safe L σ P M fs d (pc, lv, .inl y :: .inl x :: st, H, c) := by
  have e : zp_ins L σ M (za_CP (za_cl M)) (.if_icmp .ge o) pc lv (.inl y :: .inl x :: st) (H, c) = zp_br (decide (y ≤ x)) o pc lv st (H, c) := rfl
  unfold zp_br at e
  rw [hg] at e
  subst ha hb
  by_cases h : y.toInt ≤ x.toInt
  · have h1 : (decide (y ≤ x)) = true := decide_eq_true (zk_lei.mpr h)
    rw [h1] at e
    exact zs_step (S := (pc, lv, .inl y :: .inl x :: st, H, c)) hi e (k1 h)
  · have h1 : (decide (y ≤ x)) = false := decide_eq_false (fun h9 => h (zk_lei.mp h9))
    rw [h1] at e
    rw [← hp] at k2
    exact zs_step (S := (pc, lv, .inl y :: .inl x :: st, H, c)) hi e (k2 (Int.not_le.mp h))
theorem zw_bgt2 {o : Int} {g : Nat} (hi : za_fe (za_is M) pc = some (.if_icmp .gt o)) (hg : zp_to o pc = some g) (hp : pc + 3 = pc') (ha : x.toInt = a) (hb : y.toInt = b) (k1 : b < a → zs_Safe L σ P M fs d (g, lv, st, H, c)) (k2 : a ≤ b → zs_Safe L σ P M fs d (pc', lv, st, H, c)) : zs_Safe L σ P M fs d (pc, lv, .inl y :: .inl x :: st, H, c) := by
  have e : zp_ins L σ M (za_CP (za_cl M)) (.if_icmp .gt o) pc lv (.inl y :: .inl x :: st) (H, c) = zp_br (decide (y < x)) o pc lv st (H, c) := rfl
  unfold zp_br at e
  rw [hg] at e
  subst ha hb
  by_cases h : y.toInt < x.toInt
  · have h1 : (decide (y < x)) = true := decide_eq_true (zk_lti.mpr h)
    rw [h1] at e
    exact zs_step (S := (pc, lv, .inl y :: .inl x :: st, H, c)) hi e (k1 h)
  · have h1 : (decide (y < x)) = false := decide_eq_false (fun h9 => h (zk_lti.mp h9))
    rw [h1] at e
    rw [← hp] at k2
    exact zs_step (S := (pc, lv, .inl y :: .inl x :: st, H, c)) hi e (k2 (Int.not_lt.mp h))
theorem zw_ble2 {o : Int} {g : Nat} (hi : za_fe (za_is M) pc = some (.if_icmp .le o)) (hg : zp_to o pc = some g) (hp : pc + 3 = pc') (ha : x.toInt = a) (hb : y.toInt = b) (k1 : a ≤ b → zs_Safe L σ P M fs d (g, lv, st, H, c)) (k2 : b < a → zs_Safe L σ P M fs d (pc', lv, st, H, c)) : zs_Safe L σ P M fs d (pc, lv, .inl y :: .inl x :: st, H, c) := by
  have e : zp_ins L σ M (za_CP (za_cl M)) (.if_icmp .le o) pc lv (.inl y :: .inl x :: st) (H, c) = zp_br (decide (x ≤ y)) o pc lv st (H, c) := rfl
  unfold zp_br at e
  rw [hg] at e
  subst ha hb
  by_cases h : x.toInt ≤ y.toInt
  · have h1 : (decide (x ≤ y)) = true := decide_eq_true (zk_lei.mpr h)
    rw [h1] at e
    exact zs_step (S := (pc, lv, .inl y :: .inl x :: st, H, c)) hi e (k1 h)
  · have h1 : (decide (x ≤ y)) = false := decide_eq_false (fun h9 => h (zk_lei.mp h9))
    rw [h1] at e
    rw [← hp] at k2
    exact zs_step (S := (pc, lv, .inl y :: .inl x :: st, H, c)) hi e (k2 (Int.not_le.mp h))
/-! locals -/
theorem zw_g1 {k : Nat} {w : zp_V} : zp_get (zp_st1 lv k w) k = some w := by
  show (bif Nat.beq k k then some w else _) = _
  rw [Nat.beq_refl]
  rfl
theorem zw_flt {j : Nat} {w : zp_V} {f : Nat × zp_V → Bool} : ∀ {lv : zp_LV}, zp_get lv j = some w → f (j, w) = true → zp_get (lv.filter f) j = some w
  | [], h, _ => by cases h
  | q :: l, h, hf => by
    unfold zp_get at h
    cases hb : Nat.beq q.1 j with
    | true =>
      rw [hb] at h
      have e1 := za_beq hb
      have e2 : q.2 = w := Option.some.inj h
      have e3 : q = (j, w) := by rw [← e1, ← e2]
      rw [e3, List.filter_cons_of_pos hf]
      show (bif Nat.beq j j then some w else _) = _
      rw [Nat.beq_refl]
      rfl
    | false =>
      rw [hb] at h
      have ih := zw_flt (lv := l) h hf
      cases hq : f q with
      | true =>
        rw [List.filter_cons_of_pos hq]
        show (bif Nat.beq q.1 j then some q.2 else _) = _
        rw [hb]
        exact ih
      | false =>
        rw [List.filter_cons_of_neg (by rw [hq]; exact Bool.false_ne_true)]
        exact ih
theorem zw_gt {k j : Nat} {w w' : zp_V} (h : zp_get lv j = some w) (h1 : Nat.beq k j = false) (h2 : (!(j == k) && !(j + 1 == k && zp_cat w == 2)) = true) : zp_get (zp_st1 lv k w') j = some w := by
  show (bif Nat.beq k j then some w' else _) = _
  rw [h1]
  exact zw_flt h h2
theorem zw_g2 {k : Nat} {w : zp_V} : zp_get (zp_st2 lv k w) k = some w := by
  show (bif Nat.beq k k then some w else _) = _
  rw [Nat.beq_refl]
  rfl
theorem zw_gt2 {k j : Nat} {w w' : zp_V} (h : zp_get lv j = some w) (h1 : Nat.beq k j = false) (h2 : (!(j == k) && (!(j == k + 1) && !(j + 1 == k && zp_cat w == 2))) = true) : zp_get (zp_st2 lv k w') j = some w := by
  show (bif Nat.beq k j then some w' else _) = _
  rw [h1]
  exact zw_flt h h2
theorem zw_ld {n k : Nat} {f : zp_V → Bool} {w : zp_V} (hi : za_fe (za_is M) pc = some i) (he : zp_ins L σ M (za_CP (za_cl M)) i pc lv st (H, c) = zp_load n k f pc lv st (H, c)) (hv : zp_get lv k = some w) (hf : f w = true) (hp : pc + n = pc') (hS : zs_Safe L σ P M fs d (pc', lv, w :: st, H, c)) : zs_Safe L σ P M fs d (pc, lv, st, H, c) := by
  refine zs_step (S := (pc, lv, st, H, c)) hi (he.trans ?_) hS
  unfold zp_load
  rw [hv]
  dsimp only
  rw [hf, hp]
  rfl
theorem zw_st {n k : Nat} {f : zp_V → Bool} {w : zp_V} (hi : za_fe (za_is M) pc = some i) (he : zp_ins L σ M (za_CP (za_cl M)) i pc lv (w :: st) (H, c) = zp_stor1 n k (za_nL M) f pc lv (w :: st) (H, c)) (hf : f w = true) (hk : Nat.blt k (za_nL M) = true) (hp : pc + n = pc') (hS : zs_Safe L σ P M fs d (pc', zp_st1 lv k w, st, H, c)) : zs_Safe L σ P M fs d (pc, lv, w :: st, H, c) := by
  refine zs_step (S := (pc, lv, w :: st, H, c)) hi (he.trans ?_) hS
  unfold zp_stor1
  dsimp only
  rw [hf, hk, hp]
  rfl
theorem zw_sl {n k : Nat} (hi : za_fe (za_is M) pc = some i) (he : zp_ins L σ M (za_CP (za_cl M)) i pc lv (.inr (.inl u) :: st) (H, c) = zp_stor2 n k (za_nL M) pc lv (.inr (.inl u) :: st) (H, c)) (hk : Nat.blt (k + 1) (za_nL M) = true) (hp : pc + n = pc') (hS : zs_Safe L σ P M fs d (pc', zp_st2 lv k (.inr (.inl u)), st, H, c)) : zs_Safe L σ P M fs d (pc, lv, .inr (.inl u) :: st, H, c) := by
  refine zs_step (S := (pc, lv, .inr (.inl u) :: st, H, c)) hi (he.trans ?_) hS
  unfold zp_stor2
  dsimp only
  rw [hk, hp]
  rfl
theorem zw_ii {k : Nat} {dd : Int} (hi : za_fe (za_is M) pc = some (.iinc k dd)) (hv : zp_get lv k = some (.inl x)) (hk : Nat.blt k (za_nL M) = true) (hp : pc + 3 = pc') (hS : zs_Safe L σ P M fs d (pc', zp_st1 lv k (.inl (x + Int32.ofInt dd)), st, H, c)) : zs_Safe L σ P M fs d (pc, lv, st, H, c) := by
  refine zs_step (S := (pc, lv, st, H, c)) (S' := (pc', zp_st1 lv k (.inl (x + Int32.ofInt dd)), st, H, c)) hi ?_ hS
  show zp_iinc k (za_nL M) dd pc lv st (H, c) = _
  unfold zp_iinc
  rw [hv]
  dsimp only
  rw [hk, hp]
  rfl
/-! what was written -/
theorem zw_eq {p k : Nat} : (zw_I H p k x).2.1 p k = x := zp_u_self _ _ _ _
theorem zw_ne {p k q j : Nat} {w : Int32} (h : H.2.1 q j = w) (hn : (Nat.beq q p).and (Nat.beq j k) = false) : (zw_I H p k x).2.1 q j = w := by
  refine (zp_u_ne ?_).trans h
  rintro ⟨rfl, rfl⟩
  rw [Nat.beq_refl, Nat.beq_refl] at hn
  cases hn
theorem zw_nj {p k q j : Nat} {w : Int32} (h : H.2.1 q j = w) : (zw_J H p k u).2.1 q j = w := h
/-! fields -/
theorem zw_gI {k q ci fk : Nat} {fin : Int} (W : zw_W H) (hi : za_fe (za_is M) pc = some (.getfield k)) (hr : za_CP (za_cl M) k = some (0, ci, fk, fin)) (hq : zB_sh[q]? = some (.inl ci)) (ht : zp_fv H q (za_tyX ci fk) fk = .inl (H.2.1 q fk)) (hv : H.2.1 q fk = x) (hp : pc + 3 = pc') (hS : zs_Safe L σ P M fs d (pc', lv, .inl x :: st, H, c)) : zs_Safe L σ P M fs d (pc, lv, .inr (.inr (some (q + 1))) :: st, H, c) := by
  refine zs_step (S := (pc, lv, .inr (.inr (some (q + 1))) :: st, H, c)) (S' := (pc', lv, .inl x :: st, H, c)) hi ?_ hS
  show zp_getf (za_CP (za_cl M) k) pc lv (.inr (.inr (some (q + 1))) :: st) (H, c) = _
  rw [hr]
  show (match H.1[q]? with
    | some (.inl cj) => bif Nat.beq cj ci then zp_go lv (H, c) (pc + 3) (zp_fv H q (za_tyX ci fk) fk :: st) else none
    | _ => none) = _
  rw [(congrArg (fun s : List zp_K => s[q]?) W.1).trans hq]
  show (bif Nat.beq ci ci then zp_go lv (H, c) (pc + 3) (zp_fv H q (za_tyX ci fk) fk :: st) else none) = _
  rw [Nat.beq_refl, ht, hv, ← hp]
  rfl
theorem zw_gL {k q ci fk : Nat} {fin : Int} (W : zw_W H) (hi : za_fe (za_is M) pc = some (.getfield k)) (hr : za_CP (za_cl M) k = some (0, ci, fk, fin)) (hq : zB_sh[q]? = some (.inl ci)) (ht : zp_fv H q (za_tyX ci fk) fk = .inr (.inl (H.2.2.1 q fk))) (hp : pc + 3 = pc') (hS : zs_Safe L σ P M fs d (pc', lv, .inr (.inl (H.2.2.1 q fk)) :: st, H, c)) : zs_Safe L σ P M fs d (pc, lv, .inr (.inr (some (q + 1))) :: st, H, c) := by
  refine zs_step (S := (pc, lv, .inr (.inr (some (q + 1))) :: st, H, c)) (S' := (pc', lv, .inr (.inl (H.2.2.1 q fk)) :: st, H, c)) hi ?_ hS
  show zp_getf (za_CP (za_cl M) k) pc lv (.inr (.inr (some (q + 1))) :: st) (H, c) = _
  rw [hr]
  show (match H.1[q]? with
    | some (.inl cj) => bif Nat.beq cj ci then zp_go lv (H, c) (pc + 3) (zp_fv H q (za_tyX ci fk) fk :: st) else none
    | _ => none) = _
  rw [(congrArg (fun s : List zp_K => s[q]?) W.1).trans hq]
  show (bif Nat.beq ci ci then zp_go lv (H, c) (pc + 3) (zp_fv H q (za_tyX ci fk) fk :: st) else none) = _
  rw [Nat.beq_refl, ht, ← hp]
  rfl
theorem zw_gR {k q ci fk : Nat} {r : Option Nat} {fin : Int} (W : zw_W H) (hi : za_fe (za_is M) pc = some (.getfield k)) (hr : za_CP (za_cl M) k = some (0, ci, fk, fin)) (hq : zB_sh[q]? = some (.inl ci)) (ht : zp_fv H q (za_tyX ci fk) fk = .inr (.inr (H.2.2.2 q fk))) (hv : H.2.2.2 q fk = r) (hp : pc + 3 = pc') (hS : zs_Safe L σ P M fs d (pc', lv, .inr (.inr r) :: st, H, c)) : zs_Safe L σ P M fs d (pc, lv, .inr (.inr (some (q + 1))) :: st, H, c) := by
  refine zs_step (S := (pc, lv, .inr (.inr (some (q + 1))) :: st, H, c)) (S' := (pc', lv, .inr (.inr r) :: st, H, c)) hi ?_ hS
  show zp_getf (za_CP (za_cl M) k) pc lv (.inr (.inr (some (q + 1))) :: st) (H, c) = _
  rw [hr]
  show (match H.1[q]? with
    | some (.inl cj) => bif Nat.beq cj ci then zp_go lv (H, c) (pc + 3) (zp_fv H q (za_tyX ci fk) fk :: st) else none
    | _ => none) = _
  rw [(congrArg (fun s : List zp_K => s[q]?) W.1).trans hq]
  show (bif Nat.beq ci ci then zp_go lv (H, c) (pc + 3) (zp_fv H q (za_tyX ci fk) fk :: st) else none) = _
  rw [Nat.beq_refl, ht, hv, ← hp]
  rfl
theorem zw_pI {k q ci fk : Nat} (W : zw_W H) (hi : za_fe (za_is M) pc = some (.putfield k)) (hr : za_CP (za_cl M) k = some (0, ci, fk, 0)) (hq : zB_sh[q]? = some (.inl ci)) (hn : Nat.blt fk (za_nX ci) = true) (hf : zp_fit (za_tyX ci fk) (.inl x) = true) (hp : pc + 3 = pc') (hS : zs_Safe L σ P M fs d (pc', lv, st, zw_I H q fk x, c)) : zs_Safe L σ P M fs d (pc, lv, .inl x :: .inr (.inr (some (q + 1))) :: st, H, c) := by
  refine zs_step (S := (pc, lv, .inl x :: .inr (.inr (some (q + 1))) :: st, H, c)) (S' := (pc', lv, st, zw_I H q fk x, c)) hi ?_ hS
  show zp_putf (za_CP (za_cl M) k) (za_cl M) (za_ini M) pc lv (.inl x :: .inr (.inr (some (q + 1))) :: st) (H, c) = _
  rw [hr]
  show (match H.1[q]? with
    | some (.inl cj) => bif Nat.beq cj ci then (bif Nat.blt fk (za_nX ci) then bif zp_fit (za_tyX ci fk) (.inl x) then if (0 : Int) = 0 ∨ (za_ini M = true ∧ ci = za_cl M) then zp_go lv (zp_wf H q fk (.inl x), c) (pc + 3) st else none else none else none) else none
    | _ => none) = _
  rw [(congrArg (fun s : List zp_K => s[q]?) W.1).trans hq]
  show (bif Nat.beq ci ci then (bif Nat.blt fk (za_nX ci) then bif zp_fit (za_tyX ci fk) (.inl x) then if (0 : Int) = 0 ∨ (za_ini M = true ∧ ci = za_cl M) then zp_go lv (zp_wf H q fk (.inl x), c) (pc + 3) st else none else none else none) else none) = _
  rw [Nat.beq_refl, hn, hf, ← hp]
  simp only [cond_true]
  exact if_pos (Or.inl trivial)
theorem zw_pL {k q ci fk : Nat} (W : zw_W H) (hi : za_fe (za_is M) pc = some (.putfield k)) (hr : za_CP (za_cl M) k = some (0, ci, fk, 0)) (hq : zB_sh[q]? = some (.inl ci)) (hn : Nat.blt fk (za_nX ci) = true) (hf : zp_fit (za_tyX ci fk) (.inr (.inl u)) = true) (hp : pc + 3 = pc') (hS : zs_Safe L σ P M fs d (pc', lv, st, zw_J H q fk u, c)) : zs_Safe L σ P M fs d (pc, lv, .inr (.inl u) :: .inr (.inr (some (q + 1))) :: st, H, c) := by
  refine zs_step (S := (pc, lv, .inr (.inl u) :: .inr (.inr (some (q + 1))) :: st, H, c)) (S' := (pc', lv, st, zw_J H q fk u, c)) hi ?_ hS
  show zp_putf (za_CP (za_cl M) k) (za_cl M) (za_ini M) pc lv (.inr (.inl u) :: .inr (.inr (some (q + 1))) :: st) (H, c) = _
  rw [hr]
  show (match H.1[q]? with
    | some (.inl cj) => bif Nat.beq cj ci then (bif Nat.blt fk (za_nX ci) then bif zp_fit (za_tyX ci fk) (.inr (.inl u)) then if (0 : Int) = 0 ∨ (za_ini M = true ∧ ci = za_cl M) then zp_go lv (zp_wf H q fk (.inr (.inl u)), c) (pc + 3) st else none else none else none) else none
    | _ => none) = _
  rw [(congrArg (fun s : List zp_K => s[q]?) W.1).trans hq]
  show (bif Nat.beq ci ci then (bif Nat.blt fk (za_nX ci) then bif zp_fit (za_tyX ci fk) (.inr (.inl u)) then if (0 : Int) = 0 ∨ (za_ini M = true ∧ ci = za_cl M) then zp_go lv (zp_wf H q fk (.inr (.inl u)), c) (pc + 3) st else none else none else none) else none) = _
  rw [Nat.beq_refl, hn, hf, ← hp]
  simp only [cond_true]
  exact if_pos (Or.inl trivial)
theorem zw_pR {k q ci fk : Nat} {r : Option Nat} (hsh : H.1 = zB_sh) (hi : za_fe (za_is M) pc = some (.putfield k)) (hr : za_CP (za_cl M) k = some (0, ci, fk, 0)) (hq : zB_sh[q]? = some (.inl ci)) (hn : Nat.blt fk (za_nX ci) = true) (hf : zp_fit (za_tyX ci fk) (.inr (.inr r)) = true) (hp : pc + 3 = pc') (hS : zs_Safe L σ P M fs d (pc', lv, st, zw_R H q fk r, c)) : zs_Safe L σ P M fs d (pc, lv, .inr (.inr r) :: .inr (.inr (some (q + 1))) :: st, H, c) := by
  refine zs_step (S := (pc, lv, .inr (.inr r) :: .inr (.inr (some (q + 1))) :: st, H, c)) (S' := (pc', lv, st, zw_R H q fk r, c)) hi ?_ hS
  show zp_putf (za_CP (za_cl M) k) (za_cl M) (za_ini M) pc lv (.inr (.inr r) :: .inr (.inr (some (q + 1))) :: st) (H, c) = _
  rw [hr]
  show (match H.1[q]? with
    | some (.inl cj) => bif Nat.beq cj ci then (bif Nat.blt fk (za_nX ci) then bif zp_fit (za_tyX ci fk) (.inr (.inr r)) then if (0 : Int) = 0 ∨ (za_ini M = true ∧ ci = za_cl M) then zp_go lv (zp_wf H q fk (.inr (.inr r)), c) (pc + 3) st else none else none else none) else none
    | _ => none) = _
  rw [(congrArg (fun s : List zp_K => s[q]?) hsh).trans hq]
  show (bif Nat.beq ci ci then (bif Nat.blt fk (za_nX ci) then bif zp_fit (za_tyX ci fk) (.inr (.inr r)) then if (0 : Int) = 0 ∨ (za_ini M = true ∧ ci = za_cl M) then zp_go lv (zp_wf H q fk (.inr (.inr r)), c) (pc + 3) st else none else none else none) else none) = _
  rw [Nat.beq_refl, hn, hf, ← hp]
  simp only [cond_true]
  exact if_pos (Or.inl trivial)
/-! arrays -/
theorem zw_ia {q ty n : Nat} (W : zw_W H) (hi : za_fe (za_is M) pc = some .iaload) (hq : zB_sh[q]? = some (.inr (ty, n))) (hty : (false = false ↔ ty = 0) ∧ ty < 3) (hb : 0 ≤ y.toInt ∧ y.toInt < n) (hv : H.2.1 q y.toInt.toNat = x) (hp : pc + 1 = pc') (hS : zs_Safe L σ P M fs d (pc', lv, .inl x :: st, H, c)) : zs_Safe L σ P M fs d (pc, lv, .inl y :: .inr (.inr (some (q + 1))) :: st, H, c) := by
  refine zs_step (S := (pc, lv, .inl y :: .inr (.inr (some (q + 1))) :: st, H, c)) (S' := (pc', lv, .inl x :: st, H, c)) hi ?_ hS
  show zp_ald L σ false pc lv (.inl y :: .inr (.inr (some (q + 1))) :: st) (H, c) = _
  show (match H.1[q]? with
    | some (.inr (ty, n)) => if (false = false ↔ ty = 0) ∧ ty < 3 ∧ 0 ≤ y.toInt ∧ y.toInt < n then zp_go lv (H, c) (pc + 1) (.inl (H.2.1 q y.toInt.toNat) :: st) else none
    | _ => none) = _
  rw [(congrArg (fun s : List zp_K => s[q]?) W.1).trans hq]
  dsimp only
  rw [if_pos ⟨hty.1, hty.2, hb.1, hb.2⟩, hv, ← hp]
  rfl
theorem zw_ba {q ty n : Nat} (W : zw_W H) (hi : za_fe (za_is M) pc = some .baload) (hq : zB_sh[q]? = some (.inr (ty, n))) (hty : (true = false ↔ ty = 0) ∧ ty < 3) (hb : 0 ≤ y.toInt ∧ y.toInt < n) (hv : H.2.1 q y.toInt.toNat = x) (hp : pc + 1 = pc') (hS : zs_Safe L σ P M fs d (pc', lv, .inl x :: st, H, c)) : zs_Safe L σ P M fs d (pc, lv, .inl y :: .inr (.inr (some (q + 1))) :: st, H, c) := by
  refine zs_step (S := (pc, lv, .inl y :: .inr (.inr (some (q + 1))) :: st, H, c)) (S' := (pc', lv, .inl x :: st, H, c)) hi ?_ hS
  show zp_ald L σ true pc lv (.inl y :: .inr (.inr (some (q + 1))) :: st) (H, c) = _
  show (match H.1[q]? with
    | some (.inr (ty, n)) => if (true = false ↔ ty = 0) ∧ ty < 3 ∧ 0 ≤ y.toInt ∧ y.toInt < n then zp_go lv (H, c) (pc + 1) (.inl (H.2.1 q y.toInt.toNat) :: st) else none
    | _ => none) = _
  rw [(congrArg (fun s : List zp_K => s[q]?) W.1).trans hq]
  dsimp only
  rw [if_pos ⟨hty.1, hty.2, hb.1, hb.2⟩, hv, ← hp]
  rfl
theorem zw_is {q ty n : Nat} (W : zw_W H) (hi : za_fe (za_is M) pc = some .iastore) (hq : zB_sh[q]? = some (.inr (ty, n))) (hty : (false = false ↔ ty = 0) ∧ ty < 3) (hb : 0 ≤ y.toInt ∧ y.toInt < n) (hp : pc + 1 = pc') (hS : zs_Safe L σ P M fs d (pc', lv, st, zw_I H q y.toInt.toNat (zp_nar ty x), c)) : zs_Safe L σ P M fs d (pc, lv, .inl x :: .inl y :: .inr (.inr (some (q + 1))) :: st, H, c) := by
  refine zs_step (S := (pc, lv, .inl x :: .inl y :: .inr (.inr (some (q + 1))) :: st, H, c)) (S' := (pc', lv, st, zw_I H q y.toInt.toNat (zp_nar ty x), c)) hi ?_ hS
  show zp_ast false pc lv (.inl x :: .inl y :: .inr (.inr (some (q + 1))) :: st) (H, c) = _
  show (match H.1[q]? with
    | some (.inr (ty, n)) => if (false = false ↔ ty = 0) ∧ ty < 3 ∧ 0 ≤ y.toInt ∧ y.toInt < n then zp_go lv (zw_I H q y.toInt.toNat (zp_nar ty x), c) (pc + 1) st else none
    | _ => none) = _
  rw [(congrArg (fun s : List zp_K => s[q]?) W.1).trans hq]
  dsimp only
  rw [if_pos ⟨hty.1, hty.2, hb.1, hb.2⟩, ← hp]
  rfl
theorem zw_bs {q ty n : Nat} (W : zw_W H) (hi : za_fe (za_is M) pc = some .bastore) (hq : zB_sh[q]? = some (.inr (ty, n))) (hty : (true = false ↔ ty = 0) ∧ ty < 3) (hb : 0 ≤ y.toInt ∧ y.toInt < n) (hp : pc + 1 = pc') (hS : zs_Safe L σ P M fs d (pc', lv, st, zw_I H q y.toInt.toNat (zp_nar ty x), c)) : zs_Safe L σ P M fs d (pc, lv, .inl x :: .inl y :: .inr (.inr (some (q + 1))) :: st, H, c) := by
  refine zs_step (S := (pc, lv, .inl x :: .inl y :: .inr (.inr (some (q + 1))) :: st, H, c)) (S' := (pc', lv, st, zw_I H q y.toInt.toNat (zp_nar ty x), c)) hi ?_ hS
  show zp_ast true pc lv (.inl x :: .inl y :: .inr (.inr (some (q + 1))) :: st) (H, c) = _
  show (match H.1[q]? with
    | some (.inr (ty, n)) => if (true = false ↔ ty = 0) ∧ ty < 3 ∧ 0 ≤ y.toInt ∧ y.toInt < n then zp_go lv (zw_I H q y.toInt.toNat (zp_nar ty x), c) (pc + 1) st else none
    | _ => none) = _
  rw [(congrArg (fun s : List zp_K => s[q]?) W.1).trans hq]
  dsimp only
  rw [if_pos ⟨hty.1, hty.2, hb.1, hb.2⟩, ← hp]
  rfl
theorem zw_la {q n : Nat} (W : zw_W H) (hi : za_fe (za_is M) pc = some .laload) (hq : zB_sh[q]? = some (.inr (3, n))) (hb : 0 ≤ y.toInt ∧ y.toInt < n) (hp : pc + 1 = pc') (hS : zs_Safe L σ P M fs d (pc', lv, .inr (.inl (H.2.2.1 q y.toInt.toNat)) :: st, H, c)) : zs_Safe L σ P M fs d (pc, lv, .inl y :: .inr (.inr (some (q + 1))) :: st, H, c) := by
  refine zs_step (S := (pc, lv, .inl y :: .inr (.inr (some (q + 1))) :: st, H, c)) (S' := (pc', lv, .inr (.inl (H.2.2.1 q y.toInt.toNat)) :: st, H, c)) hi ?_ hS
  show zp_lld pc lv (.inl y :: .inr (.inr (some (q + 1))) :: st) (H, c) = _
  show (match H.1[q]? with
    | some (.inr (3, n)) => if 0 ≤ y.toInt ∧ y.toInt < n then zp_go lv (H, c) (pc + 1) (.inr (.inl (H.2.2.1 q y.toInt.toNat)) :: st) else none
    | _ => none) = _
  rw [(congrArg (fun s : List zp_K => s[q]?) W.1).trans hq]
  refine (if_pos hb).trans ?_
  rw [← hp]
  rfl
theorem zw_ls {q n : Nat} (W : zw_W H) (hi : za_fe (za_is M) pc = some .lastore) (hq : zB_sh[q]? = some (.inr (3, n))) (hb : 0 ≤ y.toInt ∧ y.toInt < n) (hp : pc + 1 = pc') (hS : zs_Safe L σ P M fs d (pc', lv, st, zw_J H q y.toInt.toNat u, c)) : zs_Safe L σ P M fs d (pc, lv, .inr (.inl u) :: .inl y :: .inr (.inr (some (q + 1))) :: st, H, c) := by
  refine zs_step (S := (pc, lv, .inr (.inl u) :: .inl y :: .inr (.inr (some (q + 1))) :: st, H, c)) (S' := (pc', lv, st, zw_J H q y.toInt.toNat u, c)) hi ?_ hS
  show zp_lst pc lv (.inr (.inl u) :: .inl y :: .inr (.inr (some (q + 1))) :: st) (H, c) = _
  show (match H.1[q]? with
    | some (.inr (3, n)) => if 0 ≤ y.toInt ∧ y.toInt < n then zp_go lv (zw_J H q y.toInt.toNat u, c) (pc + 1) st else none
    | _ => none) = _
  rw [(congrArg (fun s : List zp_K => s[q]?) W.1).trans hq]
  refine (if_pos hb).trans ?_
  rw [← hp]
  rfl
theorem zw_al {q ty n : Nat} (W : zw_W H) (hi : za_fe (za_is M) pc = some .arraylength) (hq : zB_sh[q]? = some (.inr (ty, n))) (hp : pc + 1 = pc') (hS : zs_Safe L σ P M fs d (pc', lv, .inl (Int32.ofNat n) :: st, H, c)) : zs_Safe L σ P M fs d (pc, lv, .inr (.inr (some (q + 1))) :: st, H, c) := by
  refine zs_step (S := (pc, lv, .inr (.inr (some (q + 1))) :: st, H, c)) (S' := (pc', lv, .inl (Int32.ofNat n) :: st, H, c)) hi ?_ hS
  show zp_alen L pc lv (.inr (.inr (some (q + 1))) :: st) (H, c) = _
  show (match H.1[q]? with
    | some (.inr (_, n)) => zp_go lv (H, c) (pc + 1) (.inl (Int32.ofNat n) :: st)
    | _ => none) = _
  rw [(congrArg (fun s : List zp_K => s[q]?) W.1).trans hq, ← hp]
  rfl
/-! calls, ends -/
def zw_pb (M Y : za_MI) (k : Nat) (st : List zp_V) (c : Nat × Nat) : Bool := (Nat.ble k st.length).and ((Nat.ble (zp_wt (st.drop k)) 8).and ((Nat.ble (c.1 + za_mc Y) (za_mc M)).and (Nat.ble (c.2 + za_ms Y) (za_ms M))))
theorem zw_pb_ok {k : Nat} (h : zw_pb M Y k st c = true) : zp_pre M Y k st (H, c) := by
  obtain ⟨h1, h⟩ := Bool.and_eq_true_iff.mp h
  obtain ⟨h2, h⟩ := Bool.and_eq_true_iff.mp h
  obtain ⟨h3, h4⟩ := Bool.and_eq_true_iff.mp h
  exact ⟨za_ble h1, za_ble h2, za_ble h3, za_ble h4⟩
theorem zw_cv {k j n q : Nat} {z : Int} (W : H.1 = zB_sh) (hi : za_fe (za_is M) pc = some (.invokevirtual k)) (hr : za_CP (za_cl M) k = some (1, j, n, z)) (hY : za_MT j = some Y) (hq : st[n]? = some (.inr (.inr (some (q + 1))))) (hs : zB_sh[q]? = some (.inl (za_cl Y))) : za_fe (za_is M) pc = some (.invokevirtual k) ∧ zp_cl (za_CP (za_cl M)) (.invokevirtual k) st (H, c) = some (false, j, n + 1, Y) := by
  refine ⟨hi, ?_⟩
  have e : zp_isRk st n H (za_cl Y) = true := by
    unfold zp_isRk
    rw [hq]
    show (match H.1[q]? with
      | some (.inl ci) => Nat.beq ci (za_cl Y)
      | _ => false) = true
    rw [W, hs]
    exact Nat.beq_refl _
  show (match za_CP (za_cl M) k with
    | some (1, j, n, _) => match za_MT j with
      | some Y => bif zp_isRk st n H (za_cl Y) then some (false, j, n + 1, Y) else none
      | none => none
    | some (11, j, n, _) => match za_MT j with
      | some Y => bif zp_isRk st n H (za_cl Y) then some (true, j, n + 1, Y) else none
      | none => none
    | _ => none) = _
  rw [hr]
  show (match za_MT j with
      | some Y => bif zp_isRk st n H (za_cl Y) then some (false, j, n + 1, Y) else none
      | none => none) = _
  rw [hY]
  show (bif zp_isRk st n H (za_cl Y) then some (false, j, n + 1, Y) else none) = _
  rw [e]
  rfl
theorem zw_cs {k j n : Nat} {z : Int} (hi : za_fe (za_is M) pc = some (.invokestatic k)) (hr : za_CP (za_cl M) k = some (2, j, n, z)) (hY : za_MT j = some Y) : za_fe (za_is M) pc = some (.invokestatic k) ∧ zp_cl (za_CP (za_cl M)) (.invokestatic k) st (H, c) = some (false, j, n, Y) := by
  refine ⟨hi, ?_⟩
  show (match za_CP (za_cl M) k with
    | some (2, j, n, _) => match za_MT j with
      | some Y => some (false, j, n, Y)
      | none => none
    | some (12, j, n, _) => match za_MT j with
      | some Y => some (true, j, n, Y)
      | none => none
    | _ => none) = _
  rw [hr]
  show (match za_MT j with
      | some Y => some (false, j, n, Y)
      | none => none) = _
  rw [hY]
/-- it returns a value -/
theorem zw_c {k j : Nat} {as : List zp_V} {w : zp_V} (h : za_fe (za_is M) pc = some i ∧ zp_cl (za_CP (za_cl M)) i st (H, c) = some (false, j, k, Y)) (hp : zw_pb M Y k st c = true) (ha : (st.take k).reverse = as) (hst : st.drop k = st') (hc : (c.1 + za_mc Y, c.2 + za_ms Y) = c) (hpc : pc + 3 = pc') (hC : zp_Call L σ d j as H (.inl (some w), H1)) (hS : zs_Safe L σ P M fs d (pc', lv, w :: st', H1, c)) : zs_Safe L σ P M fs d (pc, lv, st, H, c) := by
  subst ha hst hpc
  refine zs_sum (S := (pc, lv, st, H, c)) h.1 h.2 (zw_pb_ok hp) hC (fun z => Bool.noConfusion z) (Or.inl ⟨(pc + 3, lv, w :: st.drop k, H1, c), ?_, hS⟩)
  show some (Sum.inl (pc + 3, lv, w :: st.drop k, H1, (c.1 + za_mc Y, c.2 + za_ms Y))) = _
  rw [hc]
/-- it returns nothing -/
theorem zw_cn {k j : Nat} {as : List zp_V} (h : za_fe (za_is M) pc = some i ∧ zp_cl (za_CP (za_cl M)) i st (H, c) = some (false, j, k, Y)) (hp : zw_pb M Y k st c = true) (ha : (st.take k).reverse = as) (hst : st.drop k = st') (hc : (c.1 + za_mc Y, c.2 + za_ms Y) = c) (hpc : pc + 3 = pc') (hC : zp_Call L σ d j as H (.inl none, H1)) (hS : zs_Safe L σ P M fs d (pc', lv, st', H1, c)) : zs_Safe L σ P M fs d (pc, lv, st, H, c) := by
  subst ha hst hpc
  refine zs_sum (S := (pc, lv, st, H, c)) h.1 h.2 (zw_pb_ok hp) hC (fun z => Bool.noConfusion z) (Or.inl ⟨(pc + 3, lv, st.drop k, H1, c), ?_, hS⟩)
  show some (Sum.inl (pc + 3, lv, st.drop k, H1, (c.1 + za_mc Y, c.2 + za_ms Y))) = _
  rw [hc]
theorem zw_ri (hi : za_fe (za_is M) pc = some .ireturn) (hr : za_rt M = some .int) (hP : P (.inl (some (.inl x)), H)) : zs_Safe L σ P M [] d (pc, lv, [.inl x], H, (0, 0)) := by
  refine zs_end (S := (pc, lv, [.inl x], H, (0, 0))) (X := (.inl (some (.inl x)), H)) hi ?_ hP
  show zp_iret (za_mc M) (za_ms M) (za_rt M) [.inl x] (H, (0, 0)) = _
  rw [hr]
  have e : 0 ≤ za_mc M ∧ 0 ≤ za_ms M := ⟨Nat.zero_le _, Nat.zero_le _⟩
  show (if (0 ≤ za_mc M ∧ 0 ≤ za_ms M) then some ((Sum.inl (some (Sum.inl x)), H) : zp_X) else none) = _
  exact if_pos e
theorem zw_rz (hi : za_fe (za_is M) pc = some .ireturn) (hr : za_rt M = some .boolean) (hx : x = 0 ∨ x = 1) (hP : P (.inl (some (.inl x)), H)) : zs_Safe L σ P M [] d (pc, lv, [.inl x], H, (0, 0)) := by
  refine zs_end (S := (pc, lv, [.inl x], H, (0, 0))) (X := (.inl (some (.inl x)), H)) hi ?_ hP
  show zp_iret (za_mc M) (za_ms M) (za_rt M) [.inl x] (H, (0, 0)) = _
  rw [hr]
  have e : (0 ≤ za_mc M ∧ 0 ≤ za_ms M) ∧ (x = 0 ∨ x = 1) := ⟨⟨Nat.zero_le _, Nat.zero_le _⟩, hx⟩
  show (if (0 ≤ za_mc M ∧ 0 ≤ za_ms M) ∧ (x = 0 ∨ x = 1) then some ((Sum.inl (some (Sum.inl x)), H) : zp_X) else none) = _
  exact if_pos e
theorem zw_rl (hi : za_fe (za_is M) pc = some .lreturn) (hr : za_rt M = some .long) (hP : P (.inl (some (.inr (.inl u))), H)) : zs_Safe L σ P M [] d (pc, lv, [.inr (.inl u)], H, (0, 0)) := by
  refine zs_end (S := (pc, lv, [.inr (.inl u)], H, (0, 0))) (X := (.inl (some (.inr (.inl u))), H)) hi ?_ hP
  show zp_lret (za_mc M) (za_ms M) (za_rt M) [.inr (.inl u)] (H, (0, 0)) = _
  rw [hr]
  have e : 0 ≤ za_mc M ∧ 0 ≤ za_ms M := ⟨Nat.zero_le _, Nat.zero_le _⟩
  show (if (0 ≤ za_mc M ∧ 0 ≤ za_ms M) then some ((Sum.inl (some (Sum.inr (Sum.inl u))), H) : zp_X) else none) = _
  exact if_pos e
theorem zw_rn (hi : za_fe (za_is M) pc = some .return_) (hr : za_rt M = none) (hP : P (.inl none, H)) : zs_Safe L σ P M [] d (pc, lv, [], H, (0, 0)) := by
  refine zs_end (S := (pc, lv, [], H, (0, 0))) (X := (.inl none, H)) hi ?_ hP
  show zp_vret (za_mc M) (za_ms M) (za_rt M) [] (H, (0, 0)) = _
  rw [hr]
  have e : 0 ≤ za_mc M ∧ 0 ≤ za_ms M := ⟨Nat.zero_le _, Nat.zero_le _⟩
  show (if (0 ≤ za_mc M ∧ 0 ≤ za_ms M) then some ((Sum.inl none, H) : zp_X) else none) = _
  exact if_pos e
theorem zw_met {j : Nat} {as : List zp_V} (hY : za_MT j = some M) (hw : Nat.ble (zp_wt as) (za_nL M) = true) (ha : zp_args 0 as = lv) (h : zs_Safe L σ P M [] d (0, lv, [], H, (0, 0))) : ∃ X, zp_Call L σ (d + 1) j as H X ∧ P X := by
  subst ha
  obtain ⟨X, n, h1, h2⟩ := h
  exact ⟨X, ⟨M, n, hY, za_ble hw, h1⟩, h2⟩
end WK
