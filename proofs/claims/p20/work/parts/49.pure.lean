section
/-! ===== the reference's codes: pure facts ===== -/
theorem zw_p1 {x : Int32} (h : x.toInt < 2147483647) : (x + Int32.ofInt 1).toInt = x.toInt + 1 := by
  have h1 : (Int32.ofInt 1).toInt = 1 := rfl
  have h2 : -2147483648 ≤ x.toInt := Int32.le_toInt x
  rw [zn_add (by omega) (by omega), h1]
theorem zw_m1 {x : Int32} (h : -2147483648 < x.toInt) : (x - Int32.ofInt 1).toInt = x.toInt - 1 := by
  have h1 : (Int32.ofInt 1).toInt = 1 := rfl
  have h2 : x.toInt < 2147483648 := Int32.toInt_lt x
  rw [zn_sub (by omega) (by omega), h1]
/-- a code's step: where, how many are on the pile -/
def zr_stp (c : Nat → Int32) (k m : Nat) : Option (Nat × Nat) :=
  if (c k).toInt = 1 ∨ (c k).toInt = 2 then some (k + 2, m + 1)
  else if (c k).toInt = 3 then (if 1 ≤ m then some (k + 1, m) else none)
  else if 4 ≤ (c k).toInt then (if 2 ≤ m then some (k + 1, m - 1) else none)
  else none
def zr_run (c : Nat → Int32) : Nat → Nat → Nat → Option (Nat × Nat)
  | 0, k, m => some (k, m)
  | n + 1, k, m => match zr_stp c k m with
    | some q => zr_run c n q.1 q.2
    | none => none
theorem zr_stp_lt {c : Nat → Int32} {k m : Nat} {q : Nat × Nat} (h : zr_stp c k m = some q) : k < q.1 := by
  unfold zr_stp at h
  split at h
  · cases h; show k < k + 2; omega
  · split at h
    · split at h
      · cases h; show k < k + 1; omega
      · cases h
    · split at h
      · split at h
        · cases h; show k < k + 1; omega
        · cases h
      · cases h
theorem zr_stp_c {c c' : Nat → Int32} {k m : Nat} (h : c' k = c k) : zr_stp c' k m = zr_stp c k m := by
  unfold zr_stp
  rw [h]
theorem zr_run_le {c : Nat → Int32} : ∀ {n k m : Nat} {q : Nat × Nat}, zr_run c n k m = some q → k ≤ q.1
  | 0, k, m, q, h => by cases h; exact Nat.le_refl _
  | n + 1, k, m, q, h => by
    unfold zr_run at h
    split at h
    · rename_i q1 h1
      exact Nat.le_trans (Nat.le_of_lt (zr_stp_lt h1)) (zr_run_le h)
    · cases h
theorem zr_run_app {c : Nat → Int32} : ∀ {n k m : Nat} {q : Nat × Nat}, zr_run c n k m = some q → zr_run c (n + 1) k m = zr_stp c q.1 q.2
  | 0, k, m, q, h => by
    cases h
    show (match zr_stp c k m with
      | some q => zr_run c 0 q.1 q.2
      | none => none) = zr_stp c k m
    cases zr_stp c k m with
    | none => rfl
    | some q => rfl
  | n + 1, k, m, q, h => by
    unfold zr_run at h
    split at h
    · rename_i q1 h1
      have ih := zr_run_app h
      show (match zr_stp c k m with
        | some q => zr_run c (n + 1) q.1 q.2
        | none => none) = _
      rw [h1]
      exact ih
    · cases h
theorem zr_run_c {c c' : Nat → Int32} {b : Nat} (hc : ∀ i, i < b → c' i = c i) : ∀ {n k m : Nat} {q : Nat × Nat}, zr_run c n k m = some q → q.1 ≤ b → zr_run c' n k m = some q
  | 0, k, m, q, h, _ => h
  | n + 1, k, m, q, h, hb => by
    unfold zr_run at h
    split at h
    · rename_i q1 h1
      have hk : k < b := Nat.lt_of_lt_of_le (Nat.lt_of_lt_of_le (zr_stp_lt h1) (zr_run_le h)) hb
      have ih := zr_run_c hc h hb
      show (match zr_stp c' k m with
        | some q => zr_run c' n q.1 q.2
        | none => none) = _
      rw [zr_stp_c (hc k hk), h1]
      exact ih
    · cases h
/-- how many of those that wait take two; how many are open -/
def zr_bin (w : Nat → Int32) : Nat → Nat
  | 0 => 0
  | n + 1 => zr_bin w n + (if 4 ≤ (w n).toInt ∧ (w n).toInt < 14 then 1 else 0)
def zr_opn (w : Nat → Int32) : Nat → Nat
  | 0 => 0
  | n + 1 => zr_opn w n + (if 14 ≤ (w n).toInt then 1 else 0)
theorem zr_bin_c {w w' : Nat → Int32} : ∀ {n : Nat}, (∀ i, i < n → w' i = w i) → zr_bin w' n = zr_bin w n
  | 0, _ => rfl
  | n + 1, h => by
    unfold zr_bin
    rw [zr_bin_c (fun i hi => h i (Nat.lt_succ_of_lt hi)), h n (Nat.lt_succ_self n)]
theorem zr_opn_c {w w' : Nat → Int32} : ∀ {n : Nat}, (∀ i, i < n → w' i = w i) → zr_opn w' n = zr_opn w n
  | 0, _ => rfl
  | n + 1, h => by
    unfold zr_opn
    rw [zr_opn_c (fun i hi => h i (Nat.lt_succ_of_lt hi)), h n (Nat.lt_succ_self n)]
theorem zr_opn_1 {w : Nat → Int32} : ∀ {n i : Nat}, i < n → 14 ≤ (w i).toInt → 1 ≤ zr_opn w n
  | 0, i, h, _ => absurd h (Nat.not_lt_zero _)
  | n + 1, i, h, hi => by
    unfold zr_opn
    by_cases h9 : i = n
    · subst h9
      rw [if_pos hi]
      omega
    · have := zr_opn_1 (n := n) (i := i) (by omega) hi
      omega
end
section
/-! ===== walks by hand: a row an instruction (printed by a program of mine) ===== -/
def zw_I (H : zp_H) (p k : Nat) (x : Int32) : zp_H := (H.1, zp_u H.2.1 p k x, H.2.2)
def zw_J (H : zp_H) (p k : Nat) (x : Int64) : zp_H := (H.1, H.2.1, zp_u H.2.2.1 p k x, H.2.2.2)
def zw_R (H : zp_H) (p k : Nat) (x : Option Nat) : zp_H := (H.1, H.2.1, H.2.2.1, zp_u H.2.2.2 p k x)
def zw_W (H : zp_H) : Prop := H.1 = zB_sh ∧ ∀ p k r, zB_l2 zB_rf p k = some r → H.2.2.2 p k = r
theorem zw_W_I {H : zp_H} {p k : Nat} {x : Int32} (h : zw_W H) : zw_W (zw_I H p k x) := h
theorem zw_W_J {H : zp_H} {p k : Nat} {x : Int64} (h : zw_W H) : zw_W (zw_J H p k x) := h
section WK
variable {L : Nat} {σ : Nat → Int32} {P : zp_X → Prop} {M Y : za_MI} {fs : List zs_F} {d : Nat} {pc pc' : Nat} {lv lv' : zp_LV} {st st' : List zp_V} {H H1 : zp_H} {c : Nat × Nat} {x y : Int32} {u v : Int64} {a b : Int} {i : Instr}
theorem zw_s (hi : za_fe (za_is M) pc = some i) (h : zp_ins L σ M (za_CP (za_cl M)) i pc lv st (H, c) = some (.inl (pc', lv', st', H, c))) (hS : zs_Safe L σ P M fs d (pc', lv', st', H, c)) : zs_Safe L σ P M fs d (pc, lv, st, H, c) := zs_step (S := (pc, lv, st, H, c)) hi h hS
theorem zw_iadd (hi : za_fe (za_is M) pc = some .iadd) (hp : pc + 1 = pc') (hS : zs_Safe L σ P M fs d (pc', lv, .inl (x + y) :: st, H, c)) : zs_Safe L σ P M fs d (pc, lv, .inl y :: .inl x :: st, H, c) := zs_step (S := (pc, lv, .inl y :: .inl x :: st, H, c)) hi (by rw [← hp]; rfl) hS
theorem zw_isub (hi : za_fe (za_is M) pc = some .isub) (hp : pc + 1 = pc') (hS : zs_Safe L σ P M fs d (pc', lv, .inl (x - y) :: st, H, c)) : zs_Safe L σ P M fs d (pc, lv, .inl y :: .inl x :: st, H, c) := zs_step (S := (pc, lv, .inl y :: .inl x :: st, H, c)) hi (by rw [← hp]; rfl) hS
theorem zw_imul (hi : za_fe (za_is M) pc = some .imul) (hp : pc + 1 = pc') (hS : zs_Safe L σ P M fs d (pc', lv, .inl (x * y) :: st, H, c)) : zs_Safe L σ P M fs d (pc, lv, .inl y :: .inl x :: st, H, c) := zs_step (S := (pc, lv, .inl y :: .inl x :: st, H, c)) hi (by rw [← hp]; rfl) hS
theorem zw_iand (hi : za_fe (za_is M) pc = some .iand) (hp : pc + 1 = pc') (hS : zs_Safe L σ P M fs d (pc', lv, .inl (x &&& y) :: st, H, c)) : zs_Safe L σ P M fs d (pc, lv, .inl y :: .inl x :: st, H, c) := zs_step (S := (pc, lv, .inl y :: .inl x :: st, H, c)) hi (by rw [← hp]; rfl) hS
theorem zw_ior (hi : za_fe (za_is M) pc = some .ior) (hp : pc + 1 = pc') (hS : zs_Safe L σ P M fs d (pc', lv, .inl (x ||| y) :: st, H, c)) : zs_Safe L σ P M fs d (pc, lv, .inl y :: .inl x :: st, H, c) := zs_step (S := (pc, lv, .inl y :: .inl x :: st, H, c)) hi (by rw [← hp]; rfl) hS
theorem zw_ixor (hi : za_fe (za_is M) pc = some .ixor) (hp : pc + 1 = pc') (hS : zs_Safe L σ P M fs d (pc', lv, .inl (x ^^^ y) :: st, H, c)) : zs_Safe L σ P M fs d (pc, lv, .inl y :: .inl x :: st, H, c) := zs_step (S := (pc, lv, .inl y :: .inl x :: st, H, c)) hi (by rw [← hp]; rfl) hS
theorem zw_ishl (hi : za_fe (za_is M) pc = some .ishl) (hp : pc + 1 = pc') (hS : zs_Safe L σ P M fs d (pc', lv, .inl (x <<< (y &&& 31)) :: st, H, c)) : zs_Safe L σ P M fs d (pc, lv, .inl y :: .inl x :: st, H, c) := zs_step (S := (pc, lv, .inl y :: .inl x :: st, H, c)) hi (by rw [← hp]; rfl) hS
theorem zw_ishr (hi : za_fe (za_is M) pc = some .ishr) (hp : pc + 1 = pc') (hS : zs_Safe L σ P M fs d (pc', lv, .inl (x >>> (y &&& 31)) :: st, H, c)) : zs_Safe L σ P M fs d (pc, lv, .inl y :: .inl x :: st, H, c) := zs_step (S := (pc, lv, .inl y :: .inl x :: st, H, c)) hi (by rw [← hp]; rfl) hS
theorem zw_ladd (hi : za_fe (za_is M) pc = some .ladd) (hp : pc + 1 = pc') (hS : zs_Safe L σ P M fs d (pc', lv, .inr (.inl (u + v)) :: st, H, c)) : zs_Safe L σ P M fs d (pc, lv, .inr (.inl v) :: .inr (.inl u) :: st, H, c) := zs_step (S := (pc, lv, .inr (.inl v) :: .inr (.inl u) :: st, H, c)) hi (by rw [← hp]; rfl) hS
theorem zw_lsub (hi : za_fe (za_is M) pc = some .lsub) (hp : pc + 1 = pc') (hS : zs_Safe L σ P M fs d (pc', lv, .inr (.inl (u - v)) :: st, H, c)) : zs_Safe L σ P M fs d (pc, lv, .inr (.inl v) :: .inr (.inl u) :: st, H, c) := zs_step (S := (pc, lv, .inr (.inl v) :: .inr (.inl u) :: st, H, c)) hi (by rw [← hp]; rfl) hS
theorem zw_land (hi : za_fe (za_is M) pc = some .land) (hp : pc + 1 = pc') (hS : zs_Safe L σ P M fs d (pc', lv, .inr (.inl (u &&& v)) :: st, H, c)) : zs_Safe L σ P M fs d (pc, lv, .inr (.inl v) :: .inr (.inl u) :: st, H, c) := zs_step (S := (pc, lv, .inr (.inl v) :: .inr (.inl u) :: st, H, c)) hi (by rw [← hp]; rfl) hS
theorem zw_lor (hi : za_fe (za_is M) pc = some .lor) (hp : pc + 1 = pc') (hS : zs_Safe L σ P M fs d (pc', lv, .inr (.inl (u ||| v)) :: st, H, c)) : zs_Safe L σ P M fs d (pc, lv, .inr (.inl v) :: .inr (.inl u) :: st, H, c) := zs_step (S := (pc, lv, .inr (.inl v) :: .inr (.inl u) :: st, H, c)) hi (by rw [← hp]; rfl) hS
theorem zw_lxor (hi : za_fe (za_is M) pc = some .lxor) (hp : pc + 1 = pc') (hS : zs_Safe L σ P M fs d (pc', lv, .inr (.inl (u ^^^ v)) :: st, H, c)) : zs_Safe L σ P M fs d (pc, lv, .inr (.inl v) :: .inr (.inl u) :: st, H, c) := zs_step (S := (pc, lv, .inr (.inl v) :: .inr (.inl u) :: st, H, c)) hi (by rw [← hp]; rfl) hS
theorem zw_lshl (hi : za_fe (za_is M) pc = some .lshl) (hp : pc + 1 = pc') (hS : zs_Safe L σ P M fs d (pc', lv, .inr (.inl (za_shl0 u y)) :: st, H, c)) : zs_Safe L σ P M fs d (pc, lv, .inl y :: .inr (.inl u) :: st, H, c) := zs_step (S := (pc, lv, .inl y :: .inr (.inl u) :: st, H, c)) hi (by rw [← hp]; rfl) hS
theorem zw_lshr (hi : za_fe (za_is M) pc = some .lshr) (hp : pc + 1 = pc') (hS : zs_Safe L σ P M fs d (pc', lv, .inr (.inl (za_shr0 u y)) :: st, H, c)) : zs_Safe L σ P M fs d (pc, lv, .inl y :: .inr (.inl u) :: st, H, c) := zs_step (S := (pc, lv, .inl y :: .inr (.inl u) :: st, H, c)) hi (by rw [← hp]; rfl) hS
theorem zw_lushr (hi : za_fe (za_is M) pc = some .lushr) (hp : pc + 1 = pc') (hS : zs_Safe L σ P M fs d (pc', lv, .inr (.inl (za_ushr0 u y)) :: st, H, c)) : zs_Safe L σ P M fs d (pc, lv, .inl y :: .inr (.inl u) :: st, H, c) := zs_step (S := (pc, lv, .inl y :: .inr (.inl u) :: st, H, c)) hi (by rw [← hp]; rfl) hS
theorem zw_beq1 {o : Int} {g : Nat} (hi : za_fe (za_is M) pc = some (.ifCond .eq o)) (hg : zp_to o pc = some g) (hp : pc + 3 = pc') (ha : x.toInt = a) (k1 : a = 0 → zs_Safe L σ P M fs d (g, lv, st, H, c)) (k2 : a ≠ 0 → zs_Safe L σ P M fs d (pc', lv, st, H, c)) : zs_Safe L σ P M fs d (pc, lv, .inl x :: st, H, c) := by
  have e : zp_ins L σ M (za_CP (za_cl M)) (.ifCond .eq o) pc lv (.inl x :: st) (H, c) = zp_br (decide (x = 0)) o pc lv st (H, c) := rfl
  unfold zp_br at e
  rw [hg] at e
  subst ha
  by_cases h : x.toInt = 0
  · have h1 : (decide (x = 0)) = true := decide_eq_true (zk_eqi.mpr h)
    rw [h1] at e
    exact zs_step (S := (pc, lv, .inl x :: st, H, c)) hi e (k1 h)
  · have h1 : (decide (x = 0)) = false := decide_eq_false (fun h9 => h (zk_eqi.mp h9))
    rw [h1] at e
    rw [← hp] at k2
    exact zs_step (S := (pc, lv, .inl x :: st, H, c)) hi e (k2 (h))
theorem zw_bne1 {o : Int} {g : Nat} (hi : za_fe (za_is M) pc = some (.ifCond .ne o)) (hg : zp_to o pc = some g) (hp : pc + 3 = pc') (ha : x.toInt = a) (k1 : a ≠ 0 → zs_Safe L σ P M fs d (g, lv, st, H, c)) (k2 : a = 0 → zs_Safe L σ P M fs d (pc', lv, st, H, c)) : zs_Safe L σ P M fs d (pc, lv, .inl x :: st, H, c) := by
  have e : zp_ins L σ M (za_CP (za_cl M)) (.ifCond .ne o) pc lv (.inl x :: st) (H, c) = zp_br (decide (¬ x = 0)) o pc lv st (H, c) := rfl
  unfold zp_br at e
  rw [hg] at e
  subst ha
  by_cases h : x.toInt ≠ 0
  · have h1 : (decide (¬ x = 0)) = true := decide_eq_true ((not_congr zk_eqi).mpr h)
    rw [h1] at e
    exact zs_step (S := (pc, lv, .inl x :: st, H, c)) hi e (k1 h)
  · have h1 : (decide (¬ x = 0)) = false := decide_eq_false (fun h9 => h ((not_congr zk_eqi).mp h9))
    rw [h1] at e
    rw [← hp] at k2
    exact zs_step (S := (pc, lv, .inl x :: st, H, c)) hi e (k2 (Classical.not_not.mp h))
theorem zw_blt1 {o : Int} {g : Nat} (hi : za_fe (za_is M) pc = some (.ifCond .lt o)) (hg : zp_to o pc = some g) (hp : pc + 3 = pc') (ha : x.toInt = a) (k1 : a < 0 → zs_Safe L σ P M fs d (g, lv, st, H, c)) (k2 : 0 ≤ a → zs_Safe L σ P M fs d (pc', lv, st, H, c)) : zs_Safe L σ P M fs d (pc, lv, .inl x :: st, H, c) := by
  have e : zp_ins L σ M (za_CP (za_cl M)) (.ifCond .lt o) pc lv (.inl x :: st) (H, c) = zp_br (decide (x < 0)) o pc lv st (H, c) := rfl
  unfold zp_br at e
  rw [hg] at e
  subst ha
  by_cases h : x.toInt < 0
  · have h1 : (decide (x < 0)) = true := decide_eq_true (zk_lti.mpr h)
    rw [h1] at e
    exact zs_step (S := (pc, lv, .inl x :: st, H, c)) hi e (k1 h)
  · have h1 : (decide (x < 0)) = false := decide_eq_false (fun h9 => h (zk_lti.mp h9))
    rw [h1] at e
    rw [← hp] at k2
    exact zs_step (S := (pc, lv, .inl x :: st, H, c)) hi e (k2 (Int.not_lt.mp h))
theorem zw_bge1 {o : Int} {g : Nat} (hi : za_fe (za_is M) pc = some (.ifCond .ge o)) (hg : zp_to o pc = some g) (hp : pc + 3 = pc') (ha : x.toInt = a) (k1 : 0 ≤ a → zs_Safe L σ P M fs d (g, lv, st, H, c)) (k2 : a < 0 → zs_Safe L σ P M fs d (pc', lv, st, H, c)) : zs_Safe L σ P M fs d (pc, lv, .inl x :: st, H, c) := by
  have e : zp_ins L σ M (za_CP (za_cl M)) (.ifCond .ge o) pc lv (.inl x :: st) (H, c) = zp_br (decide (0 ≤ x)) o pc lv st (H, c) := rfl
  unfold zp_br at e
  rw [hg] at e
  subst ha
  by_cases h : 0 ≤ x.toInt
  · have h1 : (decide (0 ≤ x)) = true := decide_eq_true (zk_lei.mpr h)
    rw [h1] at e
    exact zs_step (S := (pc, lv, .inl x :: st, H, c)) hi e (k1 h)
  · have h1 : (decide (0 ≤ x)) = false := decide_eq_false (fun h9 => h (zk_lei.mp h9))
    rw [h1] at e
    rw [← hp] at k2
    exact zs_step (S := (pc, lv, .inl x :: st, H, c)) hi e (k2 (Int.not_le.mp h))
theorem zw_bgt1 {o : Int} {g : Nat} (hi : za_fe (za_is M) pc = some (.ifCond .gt o)) (hg : zp_to o pc = some g) (hp : pc + 3 = pc') (ha : x.toInt = a) (k1 : 0 < a → zs_Safe L σ P M fs d (g, lv, st, H, c)) (k2 : a ≤ 0 → zs_Safe L σ P M fs d (pc', lv, st, H, c)) : zs_Safe L σ P M fs d (pc, lv, .inl x :: st, H, c) := by
  have e : zp_ins L σ M (za_CP (za_cl M)) (.ifCond .gt o) pc lv (.inl x :: st) (H, c) = zp_br (decide (0 < x)) o pc lv st (H, c) := rfl
  unfold zp_br at e
  rw [hg] at e
  subst ha
  by_cases h : 0 < x.toInt
  · have h1 : (decide (0 < x)) = true := decide_eq_true (zk_lti.mpr h)
    rw [h1] at e
    exact zs_step (S := (pc, lv, .inl x :: st, H, c)) hi e (k1 h)
  · have h1 : (decide (0 < x)) = false := decide_eq_false (fun h9 => h (zk_lti.mp h9))
    rw [h1] at e
    rw [← hp] at k2
    exact zs_step (S := (pc, lv, .inl x :: st, H, c)) hi e (k2 (Int.not_lt.mp h))
theorem zw_ble1 {o : Int} {g : Nat} (hi : za_fe (za_is M) pc = some (.ifCond .le o)) (hg : zp_to o pc = some g) (hp : pc + 3 = pc') (ha : x.toInt = a) (k1 : a ≤ 0 → zs_Safe L σ P M fs d (g, lv, st, H, c)) (k2 : 0 < a → zs_Safe L σ P M fs d (pc', lv, st, H, c)) : zs_Safe L σ P M fs d (pc, lv, .inl x :: st, H, c) := by
  have e : zp_ins L σ M (za_CP (za_cl M)) (.ifCond .le o) pc lv (.inl x :: st) (H, c) = zp_br (decide (x ≤ 0)) o pc lv st (H, c) := rfl
  unfold zp_br at e
  rw [hg] at e
  subst ha
  by_cases h : x.toInt ≤ 0
  · have h1 : (decide (x ≤ 0)) = true := decide_eq_true (zk_lei.mpr h)
    rw [h1] at e
    exact zs_step (S := (pc, lv, .inl x :: st, H, c)) hi e (k1 h)
  · have h1 : (decide (x ≤ 0)) = false := decide_eq_false (fun h9 => h (zk_lei.mp h9))
    rw [h1] at e
    rw [← hp] at k2
    exact zs_step (S := (pc, lv, .inl x :: st, H, c)) hi e (k2 (Int.not_le.mp h))
theorem zw_beq2 {o : Int} {g : Nat} (hi : za_fe (za_is M) pc = some (.if_icmp .eq o)) (hg : zp_to o pc = some g) (hp : pc + 3 = pc') (ha : x.toInt = a) (hb : y.toInt = b) (k1 : a = b → zs_Safe L σ P M fs d (g, lv, st, H, c)) (k2 : a ≠ b → zs_Safe L σ P M fs d (pc', lv, st, H, c)) : zs_Safe L σ P M fs d (pc, lv, .inl y :: .inl x :: st, H, c) := by
  have e : zp_ins L σ M (za_CP (za_cl M)) (.if_icmp .eq o) pc lv (.inl y :: .inl x :: st) (H, c) = zp_br (decide (x = y)) o pc lv st (H, c) := rfl
  unfold zp_br at e
  rw [hg] at e
  subst ha hb
  by_cases h : x.toInt = y.toInt
  · have h1 : (decide (x = y)) = true := decide_eq_true (zk_eqi.mpr h)
    rw [h1] at e
    exact zs_step (S := (pc, lv, .inl y :: .inl x :: st, H, c)) hi e (k1 h)
  · have h1 : (decide (x = y)) = false := decide_eq_false (fun h9 => h (zk_eqi.mp h9))
    rw [h1] at e
    rw [← hp] at k2
    exact zs_step (S := (pc, lv, .inl y :: .inl x :: st, H, c)) hi e (k2 (h))
theorem zw_bne2 {o : Int} {g : Nat} (hi : za_fe (za_is M) pc = some (.if_icmp .ne o)) (hg : zp_to o pc = some g) (hp : pc + 3 = pc') (ha : x.toInt = a) (hb : y.toInt = b) (k1 : a ≠ b → zs_Safe L σ P M fs d (g, lv, st, H, c)) (k2 : a = b → zs_Safe L σ P M fs d (pc', lv, st, H, c)) : zs_Safe L σ P M fs d (pc, lv, .inl y :: .inl x :: st, H, c) := by
  have e : zp_ins L σ M (za_CP (za_cl M)) (.if_icmp .ne o) pc lv (.inl y :: .inl x :: st) (H, c) = zp_br (decide (¬ x = y)) o pc lv st (H, c) := rfl
  unfold zp_br at e
  rw [hg] at e
  subst ha hb
  by_cases h : x.toInt ≠ y.toInt
  · have h1 : (decide (¬ x = y)) = true := decide_eq_true ((not_congr zk_eqi).mpr h)
    rw [h1] at e
    exact zs_step (S := (pc, lv, .inl y :: .inl x :: st, H, c)) hi e (k1 h)
  · have h1 : (decide (¬ x = y)) = false := decide_eq_false (fun h9 => h ((not_congr zk_eqi).mp h9))
    rw [h1] at e
    rw [← hp] at k2
    exact zs_step (S := (pc, lv, .inl y :: .inl x :: st, H, c)) hi e (k2 (Classical.not_not.mp h))
theorem zw_blt2 {o : Int} {g : Nat} (hi : za_fe (za_is M) pc = some (.if_icmp .lt o)) (hg : zp_to o pc = some g) (hp : pc + 3 = pc') (ha : x.toInt = a) (hb : y.toInt = b) (k1 : a < b → zs_Safe L σ P M fs d (g, lv, st, H, c)) (k2 : b ≤ a → zs_Safe L σ P M fs d (pc', lv, st, H, c)) : zs_Safe L σ P M fs d (pc, lv, .inl y :: .inl x :: st, H, c) := by
  have e : zp_ins L σ M (za_CP (za_cl M)) (.if_icmp .lt o) pc lv (.inl y :: .inl x :: st) (H, c) = zp_br (decide (x < y)) o pc lv st (H, c) := rfl
  unfold zp_br at e
  rw [hg] at e
  subst ha hb
  by_cases h : x.toInt < y.toInt
  · have h1 : (decide (x < y)) = true := decide_eq_true (zk_lti.mpr h)
    rw [h1] at e
    exact zs_step (S := (pc, lv, .inl y :: .inl x :: st, H, c)) hi e (k1 h)
  · have h1 : (decide (x < y)) = false := decide_eq_false (fun h9 => h (zk_lti.mp h9))
    rw [h1] at e
    rw [← hp] at k2
    exact zs_step (S := (pc, lv, .inl y :: .inl x :: st, H, c)) hi e (k2 (Int.not_lt.mp h))
theorem zw_bge2 {o : Int} {g : Nat} (hi : za_fe (za_is M) pc = some (.if_icmp .ge o)) (hg : zp_to o pc = some g) (hp : pc + 3 = pc') (ha : x.toInt = a) (hb : y.toInt = b) (k1 : b ≤ a → zs_Safe L σ P M fs d (g, lv, st, H, c)) (k2 : a < b → zs_Safe L σ P M fs d (pc', lv, st, H, c)) : zs_Safe L σ P M fs d (pc, lv, .inl y :: .inl x :: st, H, c) := by
  have e : zp_ins L σ M (za_CP (za_cl M)) (.if_icmp .ge o) pc lv (.inl y :: .inl x :: st) (H, c) = zp_br (decide (y ≤ x)) o pc lv st (H, c) := rfl
  unfold zp_br at e
  rw [hg] at e
  subst ha hb
  by_cases h : y.toInt ≤ x.toInt
  · have h1 : (decide (y ≤ x)) = true := decide_eq_true (zk_lei.mpr h)
    rw [h1] at e
    exact zs_step (S := (pc, lv, .inl y :: .inl x :: st, H, c)) hi e (k1 h)
  · have h1 : (decide (y ≤ x)) = false := decide_eq_false (fun h9 => h (zk_lei.mp h9))
    rw [h1] at e
    rw [← hp] at k2
    exact zs_step (S := (pc, lv, .inl y :: .inl x :: st, H, c)) hi e (k2 (Int.not_le.mp h))
theorem zw_bgt2 {o : Int} {g : Nat} (hi : za_fe (za_is M) pc = some (.if_icmp .gt o)) (hg : zp_to o pc = some g) (hp : pc + 3 = pc') (ha : x.toInt = a) (hb : y.toInt = b) (k1 : b < a → zs_Safe L σ P M fs d (g, lv, st, H, c)) (k2 : a ≤ b → zs_Safe L σ P M fs d (pc', lv, st, H, c)) : zs_Safe L σ P M fs d (pc, lv, .inl y :: .inl x :: st, H, c) := by
  have e : zp_ins L σ M (za_CP (za_cl M)) (.if_icmp .gt o) pc lv (.inl y :: .inl x :: st) (H, c) = zp_br (decide (y < x)) o pc lv st (H, c) := rfl
  unfold zp_br at e
  rw [hg] at e
  subst ha hb
  by_cases h : y.toInt < x.toInt
  · have h1 : (decide (y < x)) = true := decide_eq_true (zk_lti.mpr h)
    rw [h1] at e
    exact zs_step (S := (pc, lv, .inl y :: .inl x :: st, H, c)) hi e (k1 h)
  · have h1 : (decide (y < x)) = false := decide_eq_false (fun h9 => h (zk_lti.mp h9))
    rw [h1] at e
    rw [← hp] at k2
    exact zs_step (S := (pc, lv, .inl y :: .inl x :: st, H, c)) hi e (k2 (Int.not_lt.mp h))
theorem zw_ble2 {o : Int} {g : Nat} (hi : za_fe (za_is M) pc = some (.if_icmp .le o)) (hg : zp_to o pc = some g) (hp : pc + 3 = pc') (ha : x.toInt = a) (hb : y.toInt = b) (k1 : a ≤ b → zs_Safe L σ P M fs d (g, lv, st, H, c)) (k2 : b < a → zs_Safe L σ P M fs d (pc', lv, st, H, c)) : zs_Safe L σ P M fs d (pc, lv, .inl y :: .inl x :: st, H, c) := by
  have e : zp_ins L σ M (za_CP (za_cl M)) (.if_icmp .le o) pc lv (.inl y :: .inl x :: st) (H, c) = zp_br (decide (x ≤ y)) o pc lv st (H, c) := rfl
  unfold zp_br at e
  rw [hg] at e
  subst ha hb
  by_cases h : x.toInt ≤ y.toInt
  · have h1 : (decide (x ≤ y)) = true := decide_eq_true (zk_lei.mpr h)
    rw [h1] at e
    exact zs_step (S := (pc, lv, .inl y :: .inl x :: st, H, c)) hi e (k1 h)
  · have h1 : (decide (x ≤ y)) = false := decide_eq_false (fun h9 => h (zk_lei.mp h9))
    rw [h1] at e
    rw [← hp] at k2
    exact zs_step (S := (pc, lv, .inl y :: .inl x :: st, H, c)) hi e (k2 (Int.not_le.mp h))
/-! locals -/
theorem zw_g1 {k : Nat} {w : zp_V} : zp_get (zp_st1 lv k w) k = some w := by
  show (bif Nat.beq k k then some w else _) = _
  rw [Nat.beq_refl]
  rfl
theorem zw_flt {j : Nat} {w : zp_V} {f : Nat × zp_V → Bool} : ∀ {lv : zp_LV}, zp_get lv j = some w → f (j, w) = true → zp_get (lv.filter f) j = some w
  | [], h, _ => by cases h
  | q :: l, h, hf => by
    unfold zp_get at h
    cases hb : Nat.beq q.1 j with
    | true =>
      rw [hb] at h
      have e1 := za_beq hb
      have e2 : q.2 = w := Option.some.inj h
      have e3 : q = (j, w) := by rw [← e1, ← e2]
      rw [e3, List.filter_cons_of_pos hf]
      show (bif Nat.beq j j then some w else _) = _
      rw [Nat.beq_refl]
      rfl
    | false =>
      rw [hb] at h
      have ih := zw_flt (lv := l) h hf
      cases hq : f q with
      | true =>
        rw [List.filter_cons_of_pos hq]
        show (bif Nat.beq q.1 j then some q.2 else _) = _
        rw [hb]
        exact ih
      | false =>
        rw [List.filter_cons_of_neg (by rw [hq]; exact Bool.false_ne_true)]
        exact ih
theorem zw_gt {k j : Nat} {w w' : zp_V} (h : zp_get lv j = some w) (h1 : Nat.beq k j = false) (h2 : (!(j == k) && !(j + 1 == k && zp_cat w == 2)) = true) : zp_get (zp_st1 lv k w') j = some w := by
  show (bif Nat.beq k j then some w' else _) = _
  rw [h1]
  exact zw_flt h h2
theorem zw_g2 {k : Nat} {w : zp_V} : zp_get (zp_st2 lv k w) k = some w := by
  show (bif Nat.beq k k then some w else _) = _
  rw [Nat.beq_refl]
  rfl
theorem zw_gt2 {k j : Nat} {w w' : zp_V} (h : zp_get lv j = some w) (h1 : Nat.beq k j = false) (h2 : (!(j == k) && (!(j == k + 1) && !(j + 1 == k && zp_cat w == 2))) = true) : zp_get (zp_st2 lv k w') j = some w := by
  show (bif Nat.beq k j then some w' else _) = _
  rw [h1]
  exact zw_flt h h2
theorem zw_ld {n k : Nat} {f : zp_V → Bool} {w : zp_V} (hi : za_fe (za_is M) pc = some i) (he : zp_ins L σ M (za_CP (za_cl M)) i pc lv st (H, c) = zp_load n k f pc lv st (H, c)) (hv : zp_get lv k = some w) (hf : f w = true) (hp : pc + n = pc') (hS : zs_Safe L σ P M fs d (pc', lv, w :: st, H, c)) : zs_Safe L σ P M fs d (pc, lv, st, H, c) := by
  refine zs_step (S := (pc, lv, st, H, c)) hi (he.trans ?_) hS
  unfold zp_load
  rw [hv]
  dsimp only
  rw [hf, hp]
  rfl
theorem zw_st {n k : Nat} {f : zp_V → Bool} {w : zp_V} (hi : za_fe (za_is M) pc = some i) (he : zp_ins L σ M (za_CP (za_cl M)) i pc lv (w :: st) (H, c) = zp_stor1 n k (za_nL M) f pc lv (w :: st) (H, c)) (hf : f w = true) (hk : Nat.blt k (za_nL M) = true) (hp : pc + n = pc') (hS : zs_Safe L σ P M fs d (pc', zp_st1 lv k w, st, H, c)) : zs_Safe L σ P M fs d (pc, lv, w :: st, H, c) := by
  refine zs_step (S := (pc, lv, w :: st, H, c)) hi (he.trans ?_) hS
  unfold zp_stor1
  dsimp only
  rw [hf, hk, hp]
  rfl
theorem zw_sl {n k : Nat} (hi : za_fe (za_is M) pc = some i) (he : zp_ins L σ M (za_CP (za_cl M)) i pc lv (.inr (.inl u) :: st) (H, c) = zp_stor2 n k (za_nL M) pc lv (.inr (.inl u) :: st) (H, c)) (hk : Nat.blt (k + 1) (za_nL M) = true) (hp : pc + n = pc') (hS : zs_Safe L σ P M fs d (pc', zp_st2 lv k (.inr (.inl u)), st, H, c)) : zs_Safe L σ P M fs d (pc, lv, .inr (.inl u) :: st, H, c) := by
  refine zs_step (S := (pc, lv, .inr (.inl u) :: st, H, c)) hi (he.trans ?_) hS
  unfold zp_stor2
  dsimp only
  rw [hk, hp]
  rfl
theorem zw_ii {k : Nat} {dd : Int} (hi : za_fe (za_is M) pc = some (.iinc k dd)) (hv : zp_get lv k = some (.inl x)) (hk : Nat.blt k (za_nL M) = true) (hp : pc + 3 = pc') (hS : zs_Safe L σ P M fs d (pc', zp_st1 lv k (.inl (x + Int32.ofInt dd)), st, H, c)) : zs_Safe L σ P M fs d (pc, lv, st, H, c) := by
  refine zs_step (S := (pc, lv, st, H, c)) (S' := (pc', zp_st1 lv k (.inl (x + Int32.ofInt dd)), st, H, c)) hi ?_ hS
  show zp_iinc k (za_nL M) dd pc lv st (H, c) = _
  unfold zp_iinc
  rw [hv]
  dsimp only
  rw [hk, hp]
  rfl
/-! what was written -/
theorem zw_eq {p k : Nat} : (zw_I H p k x).2.1 p k = x := zp_u_self _ _ _ _
theorem zw_ne {p k q j : Nat} {w : Int32} (h : H.2.1 q j = w) (hn : (Nat.beq q p).and (Nat.beq j k) = false) : (zw_I H p k x).2.1 q j = w := by
  refine (zp_u_ne ?_).trans h
  rintro ⟨rfl, rfl⟩
  rw [Nat.beq_refl, Nat.beq_refl] at hn
  cases hn
theorem zw_nj {p k q j : Nat} {w : Int32} (h : H.2.1 q j = w) : (zw_J H p k u).2.1 q j = w := h
/-! fields -/
theorem zw_gI {k q ci fk : Nat} {fin : Int} (W : zw_W H) (hi : za_fe (za_is M) pc = some (.getfield k)) (hr : za_CP (za_cl M) k = some (0, ci, fk, fin)) (hq : zB_sh[q]? = some (.inl ci)) (ht : zp_fv H q (za_tyX ci fk) fk = .inl (H.2.1 q fk)) (hv : H.2.1 q fk = x) (hp : pc + 3 = pc') (hS : zs_Safe L σ P M fs d (pc', lv, .inl x :: st, H, c)) : zs_Safe L σ P M fs d (pc, lv, .inr (.inr (some (q + 1))) :: st, H, c) := by
  refine zs_step (S := (pc, lv, .inr (.inr (some (q + 1))) :: st, H, c)) (S' := (pc', lv, .inl x :: st, H, c)) hi ?_ hS
  show zp_getf (za_CP (za_cl M) k) pc lv (.inr (.inr (some (q + 1))) :: st) (H, c) = _
  rw [hr]
  show (match H.1[q]? with
    | some (.inl cj) => bif Nat.beq cj ci then zp_go lv (H, c) (pc + 3) (zp_fv H q (za_tyX ci fk) fk :: st) else none
    | _ => none) = _
  rw [(congrArg (fun s : List zp_K => s[q]?) W.1).trans hq]
  show (bif Nat.beq ci ci then zp_go lv (H, c) (pc + 3) (zp_fv H q (za_tyX ci fk) fk :: st) else none) = _
  rw [Nat.beq_refl, ht, hv, ← hp]
  rfl
theorem zw_gL {k q ci fk : Nat} {fin : Int} (W : zw_W H) (hi : za_fe (za_is M) pc = some (.getfield k)) (hr : za_CP (za_cl M) k = some (0, ci, fk, fin)) (hq : zB_sh[q]? = some (.inl ci)) (ht : zp_fv H q (za_tyX ci fk) fk = .inr (.inl (H.2.2.1 q fk))) (hp : pc + 3 = pc') (hS : zs_Safe L σ P M fs d (pc', lv, .inr (.inl (H.2.2.1 q fk)) :: st, H, c)) : zs_Safe L σ P M fs d (pc, lv, .inr (.inr (some (q + 1))) :: st, H, c) := by
  refine zs_step (S := (pc, lv, .inr (.inr (some (q + 1))) :: st, H, c)) (S' := (pc', lv, .inr (.inl (H.2.2.1 q fk)) :: st, H, c)) hi ?_ hS
  show zp_getf (za_CP (za_cl M) k) pc lv (.inr (.inr (some (q + 1))) :: st) (H, c) = _
  rw [hr]
  show (match H.1[q]? with
    | some (.inl cj) => bif Nat.beq cj ci then zp_go lv (H, c) (pc + 3) (zp_fv H q (za_tyX ci fk) fk :: st) else none
    | _ => none) = _
  rw [(congrArg (fun s : List zp_K => s[q]?) W.1).trans hq]
  show (bif Nat.beq ci ci then zp_go lv (H, c) (pc + 3) (zp_fv H q (za_tyX ci fk) fk :: st) else none) = _
  rw [Nat.beq_refl, ht, ← hp]
  rfl
theorem zw_gR {k q ci fk : Nat} {r : Option Nat} {fin : Int} (W : zw_W H) (hi : za_fe (za_is M) pc = some (.getfield k)) (hr : za_CP (za_cl M) k = some (0, ci, fk, fin)) (hq : zB_sh[q]? = some (.inl ci)) (ht : zp_fv H q (za_tyX ci fk) fk = .inr (.inr (H.2.2.2 q fk))) (hv : H.2.2.2 q fk = r) (hp : pc + 3 = pc') (hS : zs_Safe L σ P M fs d (pc', lv, .inr (.inr r) :: st, H, c)) : zs_Safe L σ P M fs d (pc, lv, .inr (.inr (some (q + 1))) :: st, H, c) := by
  refine zs_step (S := (pc, lv, .inr (.inr (some (q + 1))) :: st, H, c)) (S' := (pc', lv, .inr (.inr r) :: st, H, c)) hi ?_ hS
  show zp_getf (za_CP (za_cl M) k) pc lv (.inr (.inr (some (q + 1))) :: st) (H, c) = _
  rw [hr]
  show (match H.1[q]? with
    | some (.inl cj) => bif Nat.beq cj ci then zp_go lv (H, c) (pc + 3) (zp_fv H q (za_tyX ci fk) fk :: st) else none
    | _ => none) = _
  rw [(congrArg (fun s : List zp_K => s[q]?) W.1).trans hq]
  show (bif Nat.beq ci ci then zp_go lv (H, c) (pc + 3) (zp_fv H q (za_tyX ci fk) fk :: st) else none) = _
  rw [Nat.beq_refl, ht, hv, ← hp]
  rfl
theorem zw_pI {k q ci fk : Nat} (W : zw_W H) (hi : za_fe (za_is M) pc = some (.putfield k)) (hr : za_CP (za_cl M) k = some (0, ci, fk, 0)) (hq : zB_sh[q]? = some (.inl ci)) (hn : Nat.blt fk (za_nX ci) = true) (hf : zp_fit (za_tyX ci fk) (.inl x) = true) (hp : pc + 3 = pc') (hS : zs_Safe L σ P M fs d (pc', lv, st, zw_I H q fk x, c)) : zs_Safe L σ P M fs d (pc, lv, .inl x :: .inr (.inr (some (q + 1))) :: st, H, c) := by
  refine zs_step (S := (pc, lv, .inl x :: .inr (.inr (some (q + 1))) :: st, H, c)) (S' := (pc', lv, st, zw_I H q fk x, c)) hi ?_ hS
  show zp_putf (za_CP (za_cl M) k) (za_cl M) (za_ini M) pc lv (.inl x :: .inr (.inr (some (q + 1))) :: st) (H, c) = _
  rw [hr]
  show (match H.1[q]? with
    | some (.inl cj) => bif Nat.beq cj ci then (bif Nat.blt fk (za_nX ci) then bif zp_fit (za_tyX ci fk) (.inl x) then if (0 : Int) = 0 ∨ (za_ini M = true ∧ ci = za_cl M) then zp_go lv (zp_wf H q fk (.inl x), c) (pc + 3) st else none else none else none) else none
    | _ => none) = _
  rw [(congrArg (fun s : List zp_K => s[q]?) W.1).trans hq]
  show (bif Nat.beq ci ci then (bif Nat.blt fk (za_nX ci) then bif zp_fit (za_tyX ci fk) (.inl x) then if (0 : Int) = 0 ∨ (za_ini M = true ∧ ci = za_cl M) then zp_go lv (zp_wf H q fk (.inl x), c) (pc + 3) st else none else none else none) else none) = _
  rw [Nat.beq_refl, hn, hf, ← hp]
  simp only [cond_true]
  exact if_pos (Or.inl trivial)
theorem zw_pL {k q ci fk : Nat} (W : zw_W H) (hi : za_fe (za_is M) pc = some (.putfield k)) (hr : za_CP (za_cl M) k = some (0, ci, fk, 0)) (hq : zB_sh[q]? = some (.inl ci)) (hn : Nat.blt fk (za_nX ci) = true) (hf : zp_fit (za_tyX ci fk) (.inr (.inl u)) = true) (hp : pc + 3 = pc') (hS : zs_Safe L σ P M fs d (pc', lv, st, zw_J H q fk u, c)) : zs_Safe L σ P M fs d (pc, lv, .inr (.inl u) :: .inr (.inr (some (q + 1))) :: st, H, c) := by
  refine zs_step (S := (pc, lv, .inr (.inl u) :: .inr (.inr (some (q + 1))) :: st, H, c)) (S' := (pc', lv, st, zw_J H q fk u, c)) hi ?_ hS
  show zp_putf (za_CP (za_cl M) k) (za_cl M) (za_ini M) pc lv (.inr (.inl u) :: .inr (.inr (some (q + 1))) :: st) (H, c) = _
  rw [hr]
  show (match H.1[q]? with
    | some (.inl cj) => bif Nat.beq cj ci then (bif Nat.blt fk (za_nX ci) then bif zp_fit (za_tyX ci fk) (.inr (.inl u)) then if (0 : Int) = 0 ∨ (za_ini M = true ∧ ci = za_cl M) then zp_go lv (zp_wf H q fk (.inr (.inl u)), c) (pc + 3) st else none else none else none) else none
    | _ => none) = _
  rw [(congrArg (fun s : List zp_K => s[q]?) W.1).trans hq]
  show (bif Nat.beq ci ci then (bif Nat.blt fk (za_nX ci) then bif zp_fit (za_tyX ci fk) (.inr (.inl u)) then if (0 : Int) = 0 ∨ (za_ini M = true ∧ ci = za_cl M) then zp_go lv (zp_wf H q fk (.inr (.inl u)), c) (pc + 3) st else none else none else none) else none) = _
  rw [Nat.beq_refl, hn, hf, ← hp]
  simp only [cond_true]
  exact if_pos (Or.inl trivial)
theorem zw_pR {k q ci fk : Nat} {r : Option Nat} (hsh : H.1 = zB_sh) (hi : za_fe (za_is M) pc = some (.putfield k)) (hr : za_CP (za_cl M) k = some (0, ci, fk, 0)) (hq : zB_sh[q]? = some (.inl ci)) (hn : Nat.blt fk (za_nX ci) = true) (hf : zp_fit (za_tyX ci fk) (.inr (.inr r)) = true) (hp : pc + 3 = pc') (hS : zs_Safe L σ P M fs d (pc', lv, st, zw_R H q fk r, c)) : zs_Safe L σ P M fs d (pc, lv, .inr (.inr r) :: .inr (.inr (some (q + 1))) :: st, H, c) := by
  refine zs_step (S := (pc, lv, .inr (.inr r) :: .inr (.inr (some (q + 1))) :: st, H, c)) (S' := (pc', lv, st, zw_R H q fk r, c)) hi ?_ hS
  show zp_putf (za_CP (za_cl M) k) (za_cl M) (za_ini M) pc lv (.inr (.inr r) :: .inr (.inr (some (q + 1))) :: st) (H, c) = _
  rw [hr]
  show (match H.1[q]? with
    | some (.inl cj) => bif Nat.beq cj ci then (bif Nat.blt fk (za_nX ci) then bif zp_fit (za_tyX ci fk) (.inr (.inr r)) then if (0 : Int) = 0 ∨ (za_ini M = true ∧ ci = za_cl M) then zp_go lv (zp_wf H q fk (.inr (.inr r)), c) (pc + 3) st else none else none else none) else none
    | _ => none) = _
  rw [(congrArg (fun s : List zp_K => s[q]?) hsh).trans hq]
  show (bif Nat.beq ci ci then (bif Nat.blt fk (za_nX ci) then bif zp_fit (za_tyX ci fk) (.inr (.inr r)) then if (0 : Int) = 0 ∨ (za_ini M = true ∧ ci = za_cl M) then zp_go lv (zp_wf H q fk (.inr (.inr r)), c) (pc + 3) st else none else none else none) else none) = _
  rw [Nat.beq_refl, hn, hf, ← hp]
  simp only [cond_true]
  exact if_pos (Or.inl trivial)
/-! arrays -/
theorem zw_ia {q ty n : Nat} (W : zw_W H) (hi : za_fe (za_is M) pc = some .iaload) (hq : zB_sh[q]? = some (.inr (ty, n))) (hty : (false = false ↔ ty = 0) ∧ ty < 3) (hb : 0 ≤ y.toInt ∧ y.toInt < n) (hv : H.2.1 q y.toInt.toNat = x) (hp : pc + 1 = pc') (hS : zs_Safe L σ P M fs d (pc', lv, .inl x :: st, H, c)) : zs_Safe L σ P M fs d (pc, lv, .inl y :: .inr (.inr (some (q + 1))) :: st, H, c) := by
  refine zs_step (S := (pc, lv, .inl y :: .inr (.inr (some (q + 1))) :: st, H, c)) (S' := (pc', lv, .inl x :: st, H, c)) hi ?_ hS
  show zp_ald L σ false pc lv (.inl y :: .inr (.inr (some (q + 1))) :: st) (H, c) = _
  show (match H.1[q]? with
    | some (.inr (ty, n)) => if (false = false ↔ ty = 0) ∧ ty < 3 ∧ 0 ≤ y.toInt ∧ y.toInt < n then zp_go lv (H, c) (pc + 1) (.inl (H.2.1 q y.toInt.toNat) :: st) else none
    | _ => none) = _
  rw [(congrArg (fun s : List zp_K => s[q]?) W.1).trans hq]
  dsimp only
  rw [if_pos ⟨hty.1, hty.2, hb.1, hb.2⟩, hv, ← hp]
  rfl
theorem zw_ba {q ty n : Nat} (W : zw_W H) (hi : za_fe (za_is M) pc = some .baload) (hq : zB_sh[q]? = some (.inr (ty, n))) (hty : (true = false ↔ ty = 0) ∧ ty < 3) (hb : 0 ≤ y.toInt ∧ y.toInt < n) (hv : H.2.1 q y.toInt.toNat = x) (hp : pc + 1 = pc') (hS : zs_Safe L σ P M fs d (pc', lv, .inl x :: st, H, c)) : zs_Safe L σ P M fs d (pc, lv, .inl y :: .inr (.inr (some (q + 1))) :: st, H, c) := by
  refine zs_step (S := (pc, lv, .inl y :: .inr (.inr (some (q + 1))) :: st, H, c)) (S' := (pc', lv, .inl x :: st, H, c)) hi ?_ hS
  show zp_ald L σ true pc lv (.inl y :: .inr (.inr (some (q + 1))) :: st) (H, c) = _
  show (match H.1[q]? with
    | some (.inr (ty, n)) => if (true = false ↔ ty = 0) ∧ ty < 3 ∧ 0 ≤ y.toInt ∧ y.toInt < n then zp_go lv (H, c) (pc + 1) (.inl (H.2.1 q y.toInt.toNat) :: st) else none
    | _ => none) = _
  rw [(congrArg (fun s : List zp_K => s[q]?) W.1).trans hq]
  dsimp only
  rw [if_pos ⟨hty.1, hty.2, hb.1, hb.2⟩, hv, ← hp]
  rfl
theorem zw_is {q ty n : Nat} (W : zw_W H) (hi : za_fe (za_is M) pc = some .iastore) (hq : zB_sh[q]? = some (.inr (ty, n))) (hty : (false = false ↔ ty = 0) ∧ ty < 3) (hb : 0 ≤ y.toInt ∧ y.toInt < n) (hp : pc + 1 = pc') (hS : zs_Safe L σ P M fs d (pc', lv, st, zw_I H q y.toInt.toNat (zp_nar ty x), c)) : zs_Safe L σ P M fs d (pc, lv, .inl x :: .inl y :: .inr (.inr (some (q + 1))) :: st, H, c) := by
  refine zs_step (S := (pc, lv, .inl x :: .inl y :: .inr (.inr (some (q + 1))) :: st, H, c)) (S' := (pc', lv, st, zw_I H q y.toInt.toNat (zp_nar ty x), c)) hi ?_ hS
  show zp_ast false pc lv (.inl x :: .inl y :: .inr (.inr (some (q + 1))) :: st) (H, c) = _
  show (match H.1[q]? with
    | some (.inr (ty, n)) => if (false = false ↔ ty = 0) ∧ ty < 3 ∧ 0 ≤ y.toInt ∧ y.toInt < n then zp_go lv (zw_I H q y.toInt.toNat (zp_nar ty x), c) (pc + 1) st else none
    | _ => none) = _
  rw [(congrArg (fun s : List zp_K => s[q]?) W.1).trans hq]
  dsimp only
  rw [if_pos ⟨hty.1, hty.2, hb.1, hb.2⟩, ← hp]
  rfl
theorem zw_bs {q ty n : Nat} (W : zw_W H) (hi : za_fe (za_is M) pc = some .bastore) (hq : zB_sh[q]? = some (.inr (ty, n))) (hty : (true = false ↔ ty = 0) ∧ ty < 3) (hb : 0 ≤ y.toInt ∧ y.toInt < n) (hp : pc + 1 = pc') (hS : zs_Safe L σ P M fs d (pc', lv, st, zw_I H q y.toInt.toNat (zp_nar ty x), c)) : zs_Safe L σ P M fs d (pc, lv, .inl x :: .inl y :: .inr (.inr (some (q + 1))) :: st, H, c) := by
  refine zs_step (S := (pc, lv, .inl x :: .inl y :: .inr (.inr (some (q + 1))) :: st, H, c)) (S' := (pc', lv, st, zw_I H q y.toInt.toNat (zp_nar ty x), c)) hi ?_ hS
  show zp_ast true pc lv (.inl x :: .inl y :: .inr (.inr (some (q + 1))) :: st) (H, c) = _
  show (match H.1[q]? with
    | some (.inr (ty, n)) => if (true = false ↔ ty = 0) ∧ ty < 3 ∧ 0 ≤ y.toInt ∧ y.toInt < n then zp_go lv (zw_I H q y.toInt.toNat (zp_nar ty x), c) (pc + 1) st else none
    | _ => none) = _
  rw [(congrArg (fun s : List zp_K => s[q]?) W.1).trans hq]
  dsimp only
  rw [if_pos ⟨hty.1, hty.2, hb.1, hb.2⟩, ← hp]
  rfl
theorem zw_la {q n : Nat} (W : zw_W H) (hi : za_fe (za_is M) pc = some .laload) (hq : zB_sh[q]? = some (.inr (3, n))) (hb : 0 ≤ y.toInt ∧ y.toInt < n) (hp : pc + 1 = pc') (hS : zs_Safe L σ P M fs d (pc', lv, .inr (.inl (H.2.2.1 q y.toInt.toNat)) :: st, H, c)) : zs_Safe L σ P M fs d (pc, lv, .inl y :: .inr (.inr (some (q + 1))) :: st, H, c) := by
  refine zs_step (S := (pc, lv, .inl y :: .inr (.inr (some (q + 1))) :: st, H, c)) (S' := (pc', lv, .inr (.inl (H.2.2.1 q y.toInt.toNat)) :: st, H, c)) hi ?_ hS
  show zp_lld pc lv (.inl y :: .inr (.inr (some (q + 1))) :: st) (H, c) = _
  show (match H.1[q]? with
    | some (.inr (3, n)) => if 0 ≤ y.toInt ∧ y.toInt < n then zp_go lv (H, c) (pc + 1) (.inr (.inl (H.2.2.1 q y.toInt.toNat)) :: st) else none
    | _ => none) = _
  rw [(congrArg (fun s : List zp_K => s[q]?) W.1).trans hq]
  refine (if_pos hb).trans ?_
  rw [← hp]
  rfl
theorem zw_ls {q n : Nat} (W : zw_W H) (hi : za_fe (za_is M) pc = some .lastore) (hq : zB_sh[q]? = some (.inr (3, n))) (hb : 0 ≤ y.toInt ∧ y.toInt < n) (hp : pc + 1 = pc') (hS : zs_Safe L σ P M fs d (pc', lv, st, zw_J H q y.toInt.toNat u, c)) : zs_Safe L σ P M fs d (pc, lv, .inr (.inl u) :: .inl y :: .inr (.inr (some (q + 1))) :: st, H, c) := by
  refine zs_step (S := (pc, lv, .inr (.inl u) :: .inl y :: .inr (.inr (some (q + 1))) :: st, H, c)) (S' := (pc', lv, st, zw_J H q y.toInt.toNat u, c)) hi ?_ hS
  show zp_lst pc lv (.inr (.inl u) :: .inl y :: .inr (.inr (some (q + 1))) :: st) (H, c) = _
  show (match H.1[q]? with
    | some (.inr (3, n)) => if 0 ≤ y.toInt ∧ y.toInt < n then zp_go lv (zw_J H q y.toInt.toNat u, c) (pc + 1) st else none
    | _ => none) = _
  rw [(congrArg (fun s : List zp_K => s[q]?) W.1).trans hq]
  refine (if_pos hb).trans ?_
  rw [← hp]
  rfl
theorem zw_al {q ty n : Nat} (W : zw_W H) (hi : za_fe (za_is M) pc = some .arraylength) (hq : zB_sh[q]? = some (.inr (ty, n))) (hp : pc + 1 = pc') (hS : zs_Safe L σ P M fs d (pc', lv, .inl (Int32.ofNat n) :: st, H, c)) : zs_Safe L σ P M fs d (pc, lv, .inr (.inr (some (q + 1))) :: st, H, c) := by
  refine zs_step (S := (pc, lv, .inr (.inr (some (q + 1))) :: st, H, c)) (S' := (pc', lv, .inl (Int32.ofNat n) :: st, H, c)) hi ?_ hS
  show zp_alen L pc lv (.inr (.inr (some (q + 1))) :: st) (H, c) = _
  show (match H.1[q]? with
    | some (.inr (_, n)) => zp_go lv (H, c) (pc + 1) (.inl (Int32.ofNat n) :: st)
    | _ => none) = _
  rw [(congrArg (fun s : List zp_K => s[q]?) W.1).trans hq, ← hp]
  rfl
/-! calls, ends -/
def zw_pb (M Y : za_MI) (k : Nat) (st : List zp_V) (c : Nat × Nat) : Bool := (Nat.ble k st.length).and ((Nat.ble (zp_wt (st.drop k)) 8).and ((Nat.ble (c.1 + za_mc Y) (za_mc M)).and (Nat.ble (c.2 + za_ms Y) (za_ms M))))
theorem zw_pb_ok {k : Nat} (h : zw_pb M Y k st c = true) : zp_pre M Y k st (H, c) := by
  obtain ⟨h1, h⟩ := Bool.and_eq_true_iff.mp h
  obtain ⟨h2, h⟩ := Bool.and_eq_true_iff.mp h
  obtain ⟨h3, h4⟩ := Bool.and_eq_true_iff.mp h
  exact ⟨za_ble h1, za_ble h2, za_ble h3, za_ble h4⟩
theorem zw_cv {k j n q : Nat} {z : Int} (W : H.1 = zB_sh) (hi : za_fe (za_is M) pc = some (.invokevirtual k)) (hr : za_CP (za_cl M) k = some (1, j, n, z)) (hY : za_MT j = some Y) (hq : st[n]? = some (.inr (.inr (some (q + 1))))) (hs : zB_sh[q]? = some (.inl (za_cl Y))) : za_fe (za_is M) pc = some (.invokevirtual k) ∧ zp_cl (za_CP (za_cl M)) (.invokevirtual k) st (H, c) = some (false, j, n + 1, Y) := by
  refine ⟨hi, ?_⟩
  have e : zp_isRk st n H (za_cl Y) = true := by
    unfold zp_isRk
    rw [hq]
    show (match H.1[q]? with
      | some (.inl ci) => Nat.beq ci (za_cl Y)
      | _ => false) = true
    rw [W, hs]
    exact Nat.beq_refl _
  show (match za_CP (za_cl M) k with
    | some (1, j, n, _) => match za_MT j with
      | some Y => bif zp_isRk st n H (za_cl Y) then some (false, j, n + 1, Y) else none
      | none => none
    | some (11, j, n, _) => match za_MT j with
      | some Y => bif zp_isRk st n H (za_cl Y) then some (true, j, n + 1, Y) else none
      | none => none
    | _ => none) = _
  rw [hr]
  show (match za_MT j with
      | some Y => bif zp_isRk st n H (za_cl Y) then some (false, j, n + 1, Y) else none
      | none => none) = _
  rw [hY]
  show (bif zp_isRk st n H (za_cl Y) then some (false, j, n + 1, Y) else none) = _
  rw [e]
  rfl
theorem zw_cs {k j n : Nat} {z : Int} (hi : za_fe (za_is M) pc = some (.invokestatic k)) (hr : za_CP (za_cl M) k = some (2, j, n, z)) (hY : za_MT j = some Y) : za_fe (za_is M) pc = some (.invokestatic k) ∧ zp_cl (za_CP (za_cl M)) (.invokestatic k) st (H, c) = some (false, j, n, Y) := by
  refine ⟨hi, ?_⟩
  show (match za_CP (za_cl M) k with
    | some (2, j, n, _) => match za_MT j with
      | some Y => some (false, j, n, Y)
      | none => none
    | some (12, j, n, _) => match za_MT j with
      | some Y => some (true, j, n, Y)
      | none => none
    | _ => none) = _
  rw [hr]
  show (match za_MT j with
      | some Y => some (false, j, n, Y)
      | none => none) = _
  rw [hY]
/-- it returns a value -/
theorem zw_c {k j : Nat} {as : List zp_V} {w : zp_V} (h : za_fe (za_is M) pc = some i ∧ zp_cl (za_CP (za_cl M)) i st (H, c) = some (false, j, k, Y)) (hp : zw_pb M Y k st c = true) (ha : (st.take k).reverse = as) (hst : st.drop k = st') (hc : (c.1 + za_mc Y, c.2 + za_ms Y) = c) (hpc : pc + 3 = pc') (hC : zp_Call L σ d j as H (.inl (some w), H1)) (hS : zs_Safe L σ P M fs d (pc', lv, w :: st', H1, c)) : zs_Safe L σ P M fs d (pc, lv, st, H, c) := by
  subst ha hst hpc
  refine zs_sum (S := (pc, lv, st, H, c)) h.1 h.2 (zw_pb_ok hp) hC (fun z => Bool.noConfusion z) (Or.inl ⟨(pc + 3, lv, w :: st.drop k, H1, c), ?_, hS⟩)
  show some (Sum.inl (pc + 3, lv, w :: st.drop k, H1, (c.1 + za_mc Y, c.2 + za_ms Y))) = _
  rw [hc]
/-- it returns nothing -/
theorem zw_cn {k j : Nat} {as : List zp_V} (h : za_fe (za_is M) pc = some i ∧ zp_cl (za_CP (za_cl M)) i st (H, c) = some (false, j, k, Y)) (hp : zw_pb M Y k st c = true) (ha : (st.take k).reverse = as) (hst : st.drop k = st') (hc : (c.1 + za_mc Y, c.2 + za_ms Y) = c) (hpc : pc + 3 = pc') (hC : zp_Call L σ d j as H (.inl none, H1)) (hS : zs_Safe L σ P M fs d (pc', lv, st', H1, c)) : zs_Safe L σ P M fs d (pc, lv, st, H, c) := by
  subst ha hst hpc
  refine zs_sum (S := (pc, lv, st, H, c)) h.1 h.2 (zw_pb_ok hp) hC (fun z => Bool.noConfusion z) (Or.inl ⟨(pc + 3, lv, st.drop k, H1, c), ?_, hS⟩)
  show some (Sum.inl (pc + 3, lv, st.drop k, H1, (c.1 + za_mc Y, c.2 + za_ms Y))) = _
  rw [hc]
theorem zw_ri (hi : za_fe (za_is M) pc = some .ireturn) (hr : za_rt M = some .int) (hP : P (.inl (some (.inl x)), H)) : zs_Safe L σ P M [] d (pc, lv, [.inl x], H, (0, 0)) := by
  refine zs_end (S := (pc, lv, [.inl x], H, (0, 0))) (X := (.inl (some (.inl x)), H)) hi ?_ hP
  show zp_iret (za_mc M) (za_ms M) (za_rt M) [.inl x] (H, (0, 0)) = _
  rw [hr]
  have e : 0 ≤ za_mc M ∧ 0 ≤ za_ms M := ⟨Nat.zero_le _, Nat.zero_le _⟩
  show (if (0 ≤ za_mc M ∧ 0 ≤ za_ms M) then some ((Sum.inl (some (Sum.inl x)), H) : zp_X) else none) = _
  exact if_pos e
theorem zw_rz (hi : za_fe (za_is M) pc = some .ireturn) (hr : za_rt M = some .boolean) (hx : x = 0 ∨ x = 1) (hP : P (.inl (some (.inl x)), H)) : zs_Safe L σ P M [] d (pc, lv, [.inl x], H, (0, 0)) := by
  refine zs_end (S := (pc, lv, [.inl x], H, (0, 0))) (X := (.inl (some (.inl x)), H)) hi ?_ hP
  show zp_iret (za_mc M) (za_ms M) (za_rt M) [.inl x] (H, (0, 0)) = _
  rw [hr]
  have e : (0 ≤ za_mc M ∧ 0 ≤ za_ms M) ∧ (x = 0 ∨ x = 1) := ⟨⟨Nat.zero_le _, Nat.zero_le _⟩, hx⟩
  show (if (0 ≤ za_mc M ∧ 0 ≤ za_ms M) ∧ (x = 0 ∨ x = 1) then some ((Sum.inl (some (Sum.inl x)), H) : zp_X) else none) = _
  exact if_pos e
theorem zw_rl (hi : za_fe (za_is M) pc = some .lreturn) (hr : za_rt M = some .long) (hP : P (.inl (some (.inr (.inl u))), H)) : zs_Safe L σ P M [] d (pc, lv, [.inr (.inl u)], H, (0, 0)) := by
  refine zs_end (S := (pc, lv, [.inr (.inl u)], H, (0, 0))) (X := (.inl (some (.inr (.inl u))), H)) hi ?_ hP
  show zp_lret (za_mc M) (za_ms M) (za_rt M) [.inr (.inl u)] (H, (0, 0)) = _
  rw [hr]
  have e : 0 ≤ za_mc M ∧ 0 ≤ za_ms M := ⟨Nat.zero_le _, Nat.zero_le _⟩
  show (if (0 ≤ za_mc M ∧ 0 ≤ za_ms M) then some ((Sum.inl (some (Sum.inr (Sum.inl u))), H) : zp_X) else none) = _
  exact if_pos e
theorem zw_rn (hi : za_fe (za_is M) pc = some .return_) (hr : za_rt M = none) (hP : P (.inl none, H)) : zs_Safe L σ P M [] d (pc, lv, [], H, (0, 0)) := by
  refine zs_end (S := (pc, lv, [], H, (0, 0))) (X := (.inl none, H)) hi ?_ hP
  show zp_vret (za_mc M) (za_ms M) (za_rt M) [] (H, (0, 0)) = _
  rw [hr]
  have e : 0 ≤ za_mc M ∧ 0 ≤ za_ms M := ⟨Nat.zero_le _, Nat.zero_le _⟩
  show (if (0 ≤ za_mc M ∧ 0 ≤ za_ms M) then some ((Sum.inl none, H) : zp_X) else none) = _
  exact if_pos e
theorem zw_met {j : Nat} {as : List zp_V} (hY : za_MT j = some M) (hw : Nat.ble (zp_wt as) (za_nL M) = true) (ha : zp_args 0 as = lv) (h : zs_Safe L σ P M [] d (0, lv, [], H, (0, 0))) : ∃ X, zp_Call L σ (d + 1) j as H X ∧ P X := by
  subst ha
  obtain ⟨X, n, h1, h2⟩ := h
  exact ⟨X, ⟨M, n, hY, za_ble hw, h1⟩, h2⟩
end WK
end
section
/-! ===== small methods of the reference, exactly (printed) ===== -/
theorem zw_ex {L : Nat} {σ : Nat → Int32} {d j : Nat} {as : List zp_V} {H : zp_H} {Y : zp_X} (h : ∃ X, zp_Call L σ d j as H X ∧ X = Y) : zp_Call L σ d j as H Y := by
  obtain ⟨X, h, rfl⟩ := h
  exact h
def zm_175 : za_MI := (yX12_isGood, prog_14_method_18_code, 1, (some FieldType.boolean), 12, 0, 0, [], za_i175)
theorem zm_175_t : za_MT 175 = some zm_175 := rfl
def zm_180 : za_MI := (yX12_wrong, prog_14_method_17_code, 2, none, 12, 0, 0, [], za_i180)
theorem zm_180_t : za_MT 180 = some zm_180 := rfl
def zm_194 : za_MI := (yX12_isSign, prog_14_method_19_code, 2, (some FieldType.boolean), 12, 0, 0, [], za_i194)
theorem zm_194_t : za_MT 194 = some zm_194 := rfl
def zm_196 : za_MI := (yX12_waitsFor, prog_14_method_29_code, 2, none, 12, 0, 0, [], za_i196)
theorem zm_196_t : za_MT 196 = some zm_196 := rfl
def zm_198 : za_MI := (yX12_puts, prog_14_method_25_code, 2, none, 12, 0, 0, [], za_i198)
theorem zm_198_t : za_MT 198 = some zm_198 := rfl
def zm_200 : za_MI := (yX12_isOpen, prog_14_method_26_code, 1, (some FieldType.boolean), 12, 0, 0, [], za_i200)
theorem zm_200_t : za_MT 200 = some zm_200 := rfl
theorem zq_good1 {L : Nat} {σ : Nat → Int32} {d : Nat} {H : zp_H} (W : zw_W H) (h : (H.2.1 72 23).toInt = 0) : zp_Call L σ (d + 1) 175 [.inr (.inr (some 73))] H (.inl (some (.inl (Int32.ofInt 1))), H) := by
  refine zw_ex (zw_met zm_175_t rfl rfl ?_)
  refine zw_ld (n := 1) (k := 0) (f := zp_isR) (pc' := 1) rfl rfl rfl rfl rfl ?_
  refine zw_gI (q := 72) (pc' := 4) W rfl rfl rfl rfl rfl rfl ?_
  refine zw_bne1 (g := 11) (pc' := 7) rfl rfl rfl rfl (fun hb => ?_) (fun hb => ?_)
  · exact absurd h hb
  · refine zw_s (pc' := 8) rfl rfl ?_
    refine zw_s (pc' := 12) rfl rfl ?_
    refine zw_rz rfl rfl (by decide) ?_
    rfl

theorem zq_good0 {L : Nat} {σ : Nat → Int32} {d : Nat} {H : zp_H} (W : zw_W H) (h : (H.2.1 72 23).toInt ≠ 0) : zp_Call L σ (d + 1) 175 [.inr (.inr (some 73))] H (.inl (some (.inl (Int32.ofInt 0))), H) := by
  refine zw_ex (zw_met zm_175_t rfl rfl ?_)
  refine zw_ld (n := 1) (k := 0) (f := zp_isR) (pc' := 1) rfl rfl rfl rfl rfl ?_
  refine zw_gI (q := 72) (pc' := 4) W rfl rfl rfl rfl rfl rfl ?_
  refine zw_bne1 (g := 11) (pc' := 7) rfl rfl rfl rfl (fun hb => ?_) (fun hb => ?_)
  · refine zw_s (pc' := 12) rfl rfl ?_
    refine zw_rz rfl rfl (by decide) ?_
    rfl
  · exact absurd hb h

theorem zq_sign1 {L : Nat} {σ : Nat → Int32} {d : Nat} {H : zp_H} (W : zw_W H) {y : Int32} (h : (H.2.1 72 28).toInt = 3 ∧ (H.2.1 72 32).toInt = y.toInt) : zp_Call L σ (d + 1) 194 [.inr (.inr (some 73)), .inl y] H (.inl (some (.inl (Int32.ofInt 1))), H) := by
  refine zw_ex (zw_met zm_194_t rfl rfl ?_)
  refine zw_ld (n := 1) (k := 0) (f := zp_isR) (pc' := 1) rfl rfl rfl rfl rfl ?_
  refine zw_gI (q := 72) (pc' := 4) W rfl rfl rfl rfl rfl rfl ?_
  refine zw_s (pc' := 5) rfl rfl ?_
  refine zw_bne2 (g := 20) (pc' := 8) rfl rfl rfl rfl (rfl : _ = (3 : Int)) (fun h1 => ?_) (fun h1 => ?_)
  · exact absurd h.1 h1
  · refine zw_ld (n := 1) (k := 0) (f := zp_isR) (pc' := 9) rfl rfl rfl rfl rfl ?_
    refine zw_gI (q := 72) (pc' := 12) W rfl rfl rfl rfl rfl rfl ?_
    refine zw_ld (n := 1) (k := 1) (f := zp_isI) (pc' := 13) rfl rfl rfl rfl rfl ?_
    refine zw_bne2 (g := 20) (pc' := 16) rfl rfl rfl rfl rfl (fun h2 => ?_) (fun h2 => ?_)
    · exact absurd h.2 h2
    · refine zw_s (pc' := 17) rfl rfl ?_
      refine zw_s (pc' := 21) rfl rfl ?_
      refine zw_rz rfl rfl (by decide) ?_
      rfl

theorem zq_sign0 {L : Nat} {σ : Nat → Int32} {d : Nat} {H : zp_H} (W : zw_W H) {y : Int32} (h : ¬ ((H.2.1 72 28).toInt = 3 ∧ (H.2.1 72 32).toInt = y.toInt)) : zp_Call L σ (d + 1) 194 [.inr (.inr (some 73)), .inl y] H (.inl (some (.inl (Int32.ofInt 0))), H) := by
  refine zw_ex (zw_met zm_194_t rfl rfl ?_)
  refine zw_ld (n := 1) (k := 0) (f := zp_isR) (pc' := 1) rfl rfl rfl rfl rfl ?_
  refine zw_gI (q := 72) (pc' := 4) W rfl rfl rfl rfl rfl rfl ?_
  refine zw_s (pc' := 5) rfl rfl ?_
  refine zw_bne2 (g := 20) (pc' := 8) rfl rfl rfl rfl (rfl : _ = (3 : Int)) (fun h1 => ?_) (fun h1 => ?_)
  · refine zw_s (pc' := 21) rfl rfl ?_
    refine zw_rz rfl rfl (by decide) ?_
    rfl
  · refine zw_ld (n := 1) (k := 0) (f := zp_isR) (pc' := 9) rfl rfl rfl rfl rfl ?_
    refine zw_gI (q := 72) (pc' := 12) W rfl rfl rfl rfl rfl rfl ?_
    refine zw_ld (n := 1) (k := 1) (f := zp_isI) (pc' := 13) rfl rfl rfl rfl rfl ?_
    refine zw_bne2 (g := 20) (pc' := 16) rfl rfl rfl rfl rfl (fun h2 => ?_) (fun h2 => ?_)
    · refine zw_s (pc' := 21) rfl rfl ?_
      refine zw_rz rfl rfl (by decide) ?_
      rfl
    · exact absurd ⟨h1, h2⟩ h

theorem zq_open1 {L : Nat} {σ : Nat → Int32} {d : Nat} {H : zp_H} (W : zw_W H) {y : Int32} (h : 14 ≤ y.toInt) : zp_Call L σ (d + 1) 200 [.inl y] H (.inl (some (.inl (Int32.ofInt 1))), H) := by
  refine zw_ex (zw_met zm_200_t rfl rfl ?_)
  refine zw_ld (n := 1) (k := 0) (f := zp_isI) (pc' := 1) rfl rfl rfl rfl rfl ?_
  refine zw_s (pc' := 3) rfl rfl ?_
  refine zw_blt2 (g := 10) (pc' := 6) rfl rfl rfl rfl (rfl : _ = (14 : Int)) (fun h1 => ?_) (fun h1 => ?_)
  · exact absurd h1 (by omega)
  · refine zw_s (pc' := 7) rfl rfl ?_
    refine zw_s (pc' := 11) rfl rfl ?_
    refine zw_rz rfl rfl (by decide) ?_
    rfl

theorem zq_open0 {L : Nat} {σ : Nat → Int32} {d : Nat} {H : zp_H} (W : zw_W H) {y : Int32} (h : y.toInt < 14) : zp_Call L σ (d + 1) 200 [.inl y] H (.inl (some (.inl (Int32.ofInt 0))), H) := by
  refine zw_ex (zw_met zm_200_t rfl rfl ?_)
  refine zw_ld (n := 1) (k := 0) (f := zp_isI) (pc' := 1) rfl rfl rfl rfl rfl ?_
  refine zw_s (pc' := 3) rfl rfl ?_
  refine zw_blt2 (g := 10) (pc' := 6) rfl rfl rfl rfl (rfl : _ = (14 : Int)) (fun h1 => ?_) (fun h1 => ?_)
  · refine zw_s (pc' := 11) rfl rfl ?_
    refine zw_rz rfl rfl (by decide) ?_
    rfl
  · exact absurd h1 (by omega)

theorem zq_wrong1 {L : Nat} {σ : Nat → Int32} {d : Nat} {H : zp_H} (W : zw_W H) {y : Int32} (h : (H.2.1 72 23).toInt ≠ 0) : zp_Call L σ (d + 1) 180 [.inr (.inr (some 73)), .inl y] H (.inl none, H) := by
  refine zw_ex (zw_met zm_180_t rfl rfl ?_)
  refine zw_ld (n := 1) (k := 0) (f := zp_isR) (pc' := 1) rfl rfl rfl rfl rfl ?_
  refine zw_gI (q := 72) (pc' := 4) W rfl rfl rfl rfl rfl rfl ?_
  refine zw_beq1 (g := 8) (pc' := 7) rfl rfl rfl rfl (fun h1 => ?_) (fun h1 => ?_)
  · exact absurd h1 h
  · refine zw_rn rfl rfl ?_
    rfl

theorem zq_wrong0 {L : Nat} {σ : Nat → Int32} {d : Nat} {H : zp_H} (W : zw_W H) {y : Int32} (h : (H.2.1 72 23).toInt = 0) : zp_Call L σ (d + 1) 180 [.inr (.inr (some 73)), .inl y] H (.inl none, zw_I (zw_I H 72 23 y) 72 24 (H.2.1 72 29)) := by
  refine zw_ex (zw_met zm_180_t rfl rfl ?_)
  refine zw_ld (n := 1) (k := 0) (f := zp_isR) (pc' := 1) rfl rfl rfl rfl rfl ?_
  refine zw_gI (q := 72) (pc' := 4) W rfl rfl rfl rfl rfl rfl ?_
  refine zw_beq1 (g := 8) (pc' := 7) rfl rfl rfl rfl (fun h1 => ?_) (fun h1 => ?_)
  · refine zw_ld (n := 1) (k := 0) (f := zp_isR) (pc' := 9) rfl rfl rfl rfl rfl ?_
    refine zw_ld (n := 1) (k := 1) (f := zp_isI) (pc' := 10) rfl rfl rfl rfl rfl ?_
    refine zw_pI (q := 72) (pc' := 13) W rfl rfl rfl rfl rfl rfl ?_
    refine zw_ld (n := 1) (k := 0) (f := zp_isR) (pc' := 14) rfl rfl rfl rfl rfl ?_
    refine zw_ld (n := 1) (k := 0) (f := zp_isR) (pc' := 15) rfl rfl rfl rfl rfl ?_
    refine zw_gI (q := 72) (pc' := 18) W rfl rfl rfl rfl (zw_ne rfl rfl) rfl ?_
    refine zw_pI (q := 72) (pc' := 21) W rfl rfl rfl rfl rfl rfl ?_
    refine zw_rn rfl rfl ?_
    rfl
  · exact absurd h h1

theorem zq_puts {L : Nat} {σ : Nat → Int32} {d : Nat} {H : zp_H} (W : zw_W H) {y : Int32} (h : 0 ≤ (H.2.1 72 45).toInt ∧ (H.2.1 72 45).toInt < (1600 : Nat)) : zp_Call L σ (d + 1) 198 [.inr (.inr (some 73)), .inl y] H (.inl none, zw_I (zw_I H 90 (H.2.1 72 45).toInt.toNat y) 72 45 (H.2.1 72 45 + Int32.ofInt 1)) := by
  refine zw_ex (zw_met zm_198_t rfl rfl ?_)
  refine zw_ld (n := 1) (k := 0) (f := zp_isR) (pc' := 1) rfl rfl rfl rfl rfl ?_
  refine zw_gR (q := 72) (pc' := 4) W rfl rfl rfl rfl (W.2 72 59 _ rfl) rfl ?_
  refine zw_ld (n := 1) (k := 0) (f := zp_isR) (pc' := 5) rfl rfl rfl rfl rfl ?_
  refine zw_gI (q := 72) (pc' := 8) W rfl rfl rfl rfl rfl rfl ?_
  refine zw_ld (n := 1) (k := 1) (f := zp_isI) (pc' := 9) rfl rfl rfl rfl rfl ?_
  refine zw_is (q := 90) (pc' := 10) W rfl rfl (by decide) (h) rfl ?_
  refine zw_ld (n := 1) (k := 0) (f := zp_isR) (pc' := 11) rfl rfl rfl rfl rfl ?_
  refine zw_s (pc' := 12) rfl rfl ?_
  refine zw_gI (q := 72) (pc' := 15) W rfl rfl rfl rfl (zw_ne rfl rfl) rfl ?_
  refine zw_s (pc' := 16) rfl rfl ?_
  refine zw_iadd (pc' := 17) rfl rfl ?_
  refine zw_pI (q := 72) (pc' := 20) W rfl rfl rfl rfl rfl rfl ?_
  refine zw_rn rfl rfl ?_
  rfl

theorem zq_waits {L : Nat} {σ : Nat → Int32} {d : Nat} {H : zp_H} (W : zw_W H) {y : Int32} (h : 0 ≤ (H.2.1 72 46).toInt ∧ (H.2.1 72 46).toInt < (800 : Nat)) : zp_Call L σ (d + 1) 196 [.inr (.inr (some 73)), .inl y] H (.inl none, zw_I (zw_I H 91 (H.2.1 72 46).toInt.toNat y) 72 46 (H.2.1 72 46 + Int32.ofInt 1)) := by
  refine zw_ex (zw_met zm_196_t rfl rfl ?_)
  refine zw_ld (n := 1) (k := 0) (f := zp_isR) (pc' := 1) rfl rfl rfl rfl rfl ?_
  refine zw_gR (q := 72) (pc' := 4) W rfl rfl rfl rfl (W.2 72 60 _ rfl) rfl ?_
  refine zw_ld (n := 1) (k := 0) (f := zp_isR) (pc' := 5) rfl rfl rfl rfl rfl ?_
  refine zw_gI (q := 72) (pc' := 8) W rfl rfl rfl rfl rfl rfl ?_
  refine zw_ld (n := 1) (k := 1) (f := zp_isI) (pc' := 9) rfl rfl rfl rfl rfl ?_
  refine zw_is (q := 91) (pc' := 10) W rfl rfl (by decide) (h) rfl ?_
  refine zw_ld (n := 1) (k := 0) (f := zp_isR) (pc' := 11) rfl rfl rfl rfl rfl ?_
  refine zw_s (pc' := 12) rfl rfl ?_
  refine zw_gI (q := 72) (pc' := 15) W rfl rfl rfl rfl (zw_ne rfl rfl) rfl ?_
  refine zw_s (pc' := 16) rfl rfl ?_
  refine zw_iadd (pc' := 17) rfl rfl ?_
  refine zw_pI (q := 72) (pc' := 20) W rfl rfl rfl rfl rfl rfl ?_
  refine zw_rn rfl rfl ?_
  rfl
end
section
/-! ===== the reference: the word at hand as a ghost; what its codes, its acts keep ===== -/
def zg_l : List Int64 := [15190664, 165492, 20436616, 759412, 24, 25, 278194, 664709, 19617, 605291, 3945338324, 20317829, 263620, 640957932, 244780, 17084916, 611717, 239, 1476, 498, 14836]
def zg_f (w : Int64) : Nat → List Int64 → Int
  | _, [] => -1
  | k, x :: l => if x = w then (k : Int) else zg_f w (k + 1) l
theorem zg_f_in {w : Int64} : ∀ {l : List Int64} {k : Nat}, -1 ≤ zg_f w k l ∧ zg_f w k l < (k : Int) + l.length
  | [], k => by
    show -1 ≤ (-1 : Int) ∧ (-1 : Int) < (k : Int) + ((0 : Nat) : Int)
    omega
  | x :: l, k => by
    unfold zg_f
    by_cases h : x = w
    · rw [if_pos h]
      show -1 ≤ (k : Int) ∧ (k : Int) < (k : Int) + ((l.length + 1 : Nat) : Int)
      omega
    · rw [if_neg h]
      have ih := zg_f_in (w := w) (l := l) (k := k + 1)
      show -1 ≤ zg_f w (k + 1) l ∧ zg_f w (k + 1) l < (k : Int) + ((l.length + 1 : Nat) : Int)
      omega
def zg (H : zp_H) : Int := if (H.2.1 72 28).toInt ≠ 1 ∨ 7 < (H.2.1 72 30).toInt then -1 else zg_f (H.2.2.1 72 33) 0 zg_l
theorem zg_in (H : zp_H) : zk_in (zg H) (-1, 20) := by
  unfold zg
  split
  · exact ⟨by decide, by decide⟩
  · have h := zg_f_in (w := H.2.2.1 72 33) (l := zg_l) (k := 0)
    have e : ((zg_l.length : Nat) : Int) = 21 := rfl
    exact ⟨h.1, by show zg_f _ 0 zg_l ≤ 20; omega⟩
/-- rules' codes can be reckoned -/
def zJ_code (H : zp_H) : Prop := ∀ r : Nat, (r : Int) < (H.2.1 72 8).toInt → 0 ≤ (H.2.1 78 r).toInt ∧ ∃ n b m, zr_run (H.2.1 80) n (H.2.1 78 r).toInt.toNat 0 = some (b, m) ∧ b < 1600 ∧ (H.2.1 80 b).toInt = 0
/-- how many of the acts wrote on a slate -/
def zr_cnt (act : Nat → Int32) (s : Int) : Nat → Nat
  | 0 => 0
  | n + 1 => zr_cnt act s n + (if (act (2 * n)).toInt = s ∧ (act (2 * n + 1)).toInt = -1 then 1 else 0)
def zJ_cnt (H : zp_H) : Prop := ∀ s : Nat, s < 8 → ((zr_cnt (H.2.1 93) s (H.2.1 72 62).toInt.toNat : Nat) : Int) ≤ (H.2.1 74 (4 * s + 2)).toInt
def zJ_img (H : zp_H) : Prop := ∀ s : Nat, s < 8 → ((zr_cnt (H.2.1 103) s (H.2.1 72 81).toInt.toNat : Nat) : Int) ≤ (H.2.1 101 (4 * s + 2)).toInt
def zJ (H : zp_H) : Prop := zJ_code H ∧ zJ_cnt H ∧ zJ_img H
theorem zJ_c {H H' : zp_H} (h : ∀ p k, zR_fz p k = true → H'.2.1 p k = H.2.1 p k) (hJ : zJ H) : zJ H' := by
  have e8 := h 72 8 rfl
  have e62 := h 72 62 rfl
  have e81 := h 72 81 rfl
  have f74 : H'.2.1 74 = H.2.1 74 := funext (fun k => h 74 k rfl)
  have f78 : H'.2.1 78 = H.2.1 78 := funext (fun k => h 78 k rfl)
  have f80 : H'.2.1 80 = H.2.1 80 := funext (fun k => h 80 k rfl)
  have f93 : H'.2.1 93 = H.2.1 93 := funext (fun k => h 93 k rfl)
  have f101 : H'.2.1 101 = H.2.1 101 := funext (fun k => h 101 k rfl)
  have f103 : H'.2.1 103 = H.2.1 103 := funext (fun k => h 103 k rfl)
  obtain ⟨h1, h2, h3⟩ := hJ
  refine ⟨?_, ?_, ?_⟩
  · unfold zJ_code
    rw [e8, f78, f80]
    exact h1
  · unfold zJ_cnt
    rw [e62, f74, f93]
    exact h2
  · unfold zJ_img
    rw [e81, f101, f103]
    exact h3
def zR_o (p : Nat) : Bool := match zB_sh[p]? with
  | some (.inl _) => true
  | _ => false
theorem zR_W : zk_W zR zg zJ zR_fz := by
  refine ⟨fun H H' _ h hJ => zJ_c (fun p k hf => (h p k hf).1) hJ, ?_, ?_, ?_, ?_, ?_, ?_, ⟨12, rfl⟩⟩
  · intro H H' h
    have a1 := (h 72 28 rfl).1
    have a2 := (h 72 30 rfl).1
    have a3 := (h 72 33 rfl).2
    unfold zg
    rw [a1, a2, a3]
  · intro H r hr
    have e : r = (-1, 20) := (Option.some.inj hr).symm
    rw [e]
    exact zg_in H
  · intro p k r hr
    have hp : p = 72 := by
      cases hb : Nat.beq 72 p with
      | true => exact (za_beq hb).symm
      | false =>
        have hr : zB_l2 zR_fr p k = some r := hr
        unfold zR_fr zB_l2 at hr
        rw [hb] at hr
        cases hr
    subst hp
    exact ⟨12, rfl⟩
  · intro c hc
    have hc : c ∈ zR_cd := hc
    unfold zR_cd at hc
    rcases List.mem_cons.mp hc with rfl | hc
    · exact ⟨⟨12, rfl⟩, by decide, by decide⟩
    · rcases List.mem_cons.mp hc with rfl | hc
      · exact ⟨⟨12, rfl⟩, by decide, by decide⟩
      · exact absurd hc List.not_mem_nil
  · intro p k h
    have h : (Nat.beq p 72).and _ = true := h
    have e := za_beq (Bool.and_eq_true_iff.mp h).1
    subst e
    exact ⟨12, rfl⟩
  · intro p k t n hp
    have hp : zB_sh[p]? = some (.inr (t, n)) := hp
    unfold zR_fz
    have hk : ∀ k, zk_inm zR_fl p k = false := by
      intro k
      cases hb : zk_inm zR_fl p k with
      | false => rfl
      | true =>
        obtain ⟨q, q1, q2⟩ := List.any_eq_true.mp hb
        have q3 := za_beq (Bool.and_eq_true_iff.mp q2).1
        have q4 : q.1 = 72 := by
          unfold zR_fl at q1
          rcases List.mem_cons.mp q1 with rfl | q1
          · rfl
          · rcases List.mem_cons.mp q1 with rfl | q1
            · rfl
            · rcases List.mem_cons.mp q1 with rfl | q1
              · rfl
              · exact absurd q1 List.not_mem_nil
        rw [← q3, q4] at hp
        cases hp
    rw [hk k, hk 0]
/-! what always holds, without the conditions -/
def zR0 : zk_B := (zB_sh, zB_l2 zB_rf, zB_l2 zR_fr, zB_al zR_ar, [], zB_gk)
theorem zR_dn {H : zp_H} (h : zk_Bs zR zg zJ H) : zk_Bs zR0 zg zJ H := ⟨h.1, h.2.1, h.2.2.1, h.2.2.2.1, h.2.2.2.2.1, h.2.2.2.2.2.1, fun c hc => absurd hc List.not_mem_nil, h.2.2.2.2.2.2.2⟩
def zR_cc (H : zp_H) : Prop := (H.2.1 72 23).toInt = 0 → (2 ≤ (H.2.1 72 34).toInt ∧ (H.2.1 72 34).toInt ≤ 8) ∧ 2 ≤ (H.2.1 72 35).toInt ∧ (H.2.1 72 35).toInt ≤ 8
theorem zR_up {H : zp_H} (h : zk_Bs zR0 zg zJ H) (hc : zR_cc H) : zk_Bs zR zg zJ H := by
  refine ⟨h.1, h.2.1, h.2.2.1, h.2.2.2.1, h.2.2.2.2.1, h.2.2.2.2.2.1, fun c hm => Or.inr ?_, h.2.2.2.2.2.2.2⟩
  have hm : c ∈ zR_cd := hm
  unfold zR_cd at hm
  rcases List.mem_cons.mp hm with rfl | hm
  · exact fun h9 => (hc h9).1
  · rcases List.mem_cons.mp hm with rfl | hm
    · exact fun h9 => (hc h9).2
    · exact absurd hm List.not_mem_nil
theorem zR_cn {H : zp_H} (h : zk_Bs zR zg zJ H) : zR_cc H := by
  intro h9
  have a := h.2.2.2.2.2.2.1 (72, 23, 0, 34, 2, 8) List.mem_cons_self
  have b := h.2.2.2.2.2.2.1 (72, 23, 0, 35, 2, 8) (List.mem_cons_of_mem _ List.mem_cons_self)
  rcases a with ⟨q, q1, _⟩ | a
  · exact absurd q1 List.not_mem_nil
  rcases b with ⟨q, q1, _⟩ | b
  · exact absurd q1 List.not_mem_nil
  exact ⟨a h9, b h9⟩
theorem zR_fr1 {H : zp_H} (h : zk_Bs zR0 zg zJ H) {k : Nat} {r : Int × Int} (hr : zB_l2 zR_fr 72 k = some r) (hk : Nat.beq k 100 = false) : r.1 ≤ (H.2.1 72 k).toInt ∧ (H.2.1 72 k).toInt ≤ r.2 := by
  rcases h.2.2.2.2.1 72 k r hr with ⟨q, q1, _⟩ | h9
  · exact absurd q1 List.not_mem_nil
  · have e : zk_fv zg H 72 k = (H.2.1 72 k).toInt := by
      unfold zk_fv
      rw [if_neg]
      rintro ⟨_, e⟩
      rw [e] at hk
      cases hk
    rw [e] at h9
    exact h9
/-- a number is written into a field -/
theorem zR_putf {H : zp_H} (h : zk_Bs zR0 zg zJ H) {k : Nat} {x : Int32} (hr : ∀ r, zB_l2 zR_fr 72 k = some r → r.1 ≤ x.toInt ∧ x.toInt ≤ r.2) (hk : Nat.beq k 100 = false) (hJ : zJ (zw_I H 72 k x)) : zk_Bs zR0 zg zJ (zw_I H 72 k x) := by
  refine ⟨h.1, h.2.1, fun q hq => absurd hq List.not_mem_nil, fun q hq => absurd hq List.not_mem_nil, fun p j r hr' => Or.inr ?_, fun p t n i r hp hi hr' => ?_, fun c hc => absurd hc List.not_mem_nil, hJ⟩
  · rcases h.2.2.2.2.1 p j r hr' with ⟨q, q1, _⟩ | h9
    · exact absurd q1 List.not_mem_nil
    unfold zk_fv at h9 ⊢
    by_cases h1 : p = 72 ∧ j = 100
    · rw [if_pos h1]
      obtain ⟨e1, e2⟩ := h1
      subst e1 e2
      have e : r = (-1, 20) := (Option.some.inj hr').symm
      rw [e]
      exact zg_in _
    · rw [if_neg h1] at h9 ⊢
      by_cases h2 : p = 72 ∧ j = k
      · obtain ⟨e1, e2⟩ := h2
        subst e1 e2
        rw [zw_eq]
        exact hr r hr'
      · have e : (zw_I H 72 k x).2.1 p j = H.2.1 p j := zp_u_ne h2
        rw [e]
        exact h9
  · have e : (zw_I H 72 k x).2.1 p i = H.2.1 p i := zp_u_ne (fun h9 => by
      have hp : zB_sh[p]? = some (.inr (t, n)) := hp
      rw [h9.1] at hp
      cases hp)
    rw [e]
    exact h.2.2.2.2.2.1 p t n i r hp hi hr'
/-- a number is written into an array -/
theorem zR_puta {H : zp_H} (h : zk_Bs zR0 zg zJ H) {p j : Nat} {x : Int32} {t n : Nat} (hp : zB_sh[p]? = some (.inr (t, n))) (hr : ∀ r, (zB_al zR_ar p).2[j % (zB_al zR_ar p).1]? = some r → r.1 ≤ x.toInt ∧ x.toInt ≤ r.2) (hJ : zJ (zw_I H p j x)) : zk_Bs zR0 zg zJ (zw_I H p j x) := by
  have hne : p ≠ 72 := by
    rintro rfl
    cases hp
  refine ⟨h.1, h.2.1, fun q hq => absurd hq List.not_mem_nil, fun q hq => absurd hq List.not_mem_nil, fun p' j' r hr' => Or.inr ?_, fun p' t' n' i r hp' hi hr' => ?_, fun c hc => absurd hc List.not_mem_nil, hJ⟩
  · have hp72 : p' = 72 := by
      cases hb : Nat.beq 72 p' with
      | true => exact (za_beq hb).symm
      | false =>
        have hr' : zB_l2 zR_fr p' j' = some r := hr'
        unfold zR_fr zB_l2 at hr'
        rw [hb] at hr'
        cases hr'
    subst hp72
    rcases h.2.2.2.2.1 72 j' r hr' with ⟨q, q1, _⟩ | h9
    · exact absurd q1 List.not_mem_nil
    unfold zk_fv at h9 ⊢
    by_cases h1 : (72 : Nat) = 72 ∧ j' = 100
    · rw [if_pos h1]
      obtain ⟨_, e2⟩ := h1
      subst e2
      have e : r = (-1, 20) := (Option.some.inj hr').symm
      rw [e]
      exact zg_in _
    · rw [if_neg h1] at h9 ⊢
      have e : (zw_I H p j x).2.1 72 j' = H.2.1 72 j' := zp_u_ne (fun h9 => hne h9.1.symm)
      rw [e]
      exact h9
  · by_cases h2 : p' = p ∧ i = j
    · obtain ⟨e1, e2⟩ := h2
      subst e1 e2
      rw [zw_eq]
      exact hr r hr'
    · have e : (zw_I H p j x).2.1 p' i = H.2.1 p' i := zp_u_ne h2
      rw [e]
      exact h.2.2.2.2.2.1 p' t' n' i r hp' hi hr'
theorem zJ_I {H : zp_H} {p j : Nat} {x : Int32} (hf : zR_fz p j = false) (h : zJ H) : zJ (zw_I H p j x) := by
  refine zJ_c (fun q k hq => zp_u_ne (fun h9 => ?_)) h
  rw [h9.1, h9.2, hf] at hq
  cases hq
theorem zR_Wd {H : zp_H} (h : zk_Bs zR0 zg zJ H) : zw_W H := ⟨h.1, h.2.1⟩
end
section
/-! ===== the reference reads an expression: what stands waiting is put ===== -/
def zx_phi (H : zp_H) : Int := 2 * (H.2.1 72 27).toInt - (if (H.2.1 72 28).toInt = 0 then 0 else 2)
/-- as far as nothing is wrong: the code from a on leaves as many as the waiting ones take, and e more -/
def zx_g (a e o : Nat) (H : zp_H) : Prop := (H.2.1 72 45).toInt + (H.2.1 72 46).toInt + 2 ≤ zx_phi H ∧ 2 * (H.2.1 72 46).toInt ≤ zx_phi H ∧ (H.2.1 72 47).toInt + o = 1 + (zr_opn (H.2.1 91) (H.2.1 72 46).toInt.toNat : Nat) ∧ (∀ i, i < (H.2.1 72 46).toInt.toNat → 3 ≤ (H.2.1 91 i).toInt ∧ (H.2.1 91 i).toInt ≤ 14) ∧ ∃ n, zr_run (H.2.1 90) n a 0 = some ((H.2.1 72 45).toInt.toNat, zr_bin (H.2.1 91) (H.2.1 72 46).toInt.toNat + e)
def zx_S (a e o : Nat) (H : zp_H) : Prop := zk_Bs zR zg zJ H ∧ (H.2.1 72 45).toInt + (H.2.1 72 46).toInt ≤ 1401 ∧ (H.2.1 72 46).toInt ≤ 700 ∧ ((H.2.1 72 23).toInt = 0 → zx_g a e o H)
def zx_D : List (Nat × Nat) := [(72, 45), (72, 46)]
def zx_Fd (a : Nat) (H0 H : zp_H) : Prop := zk_Fr zg zx_D [90] H0 H ∧ ∀ i, i < a → H.2.1 90 i = H0.2.1 90 i
theorem zx_top {a e o : Nat} {H : zp_H} (h : zx_S a e o H) : 0 ≤ (H.2.1 72 45).toInt ∧ 0 ≤ (H.2.1 72 46).toInt := ⟨(zR_fr1 (zR_dn h.1) (k := 45) (r := (0, 1600)) rfl rfl).1, (zR_fr1 (zR_dn h.1) (k := 46) (r := (0, 800)) rfl rfl).1⟩
theorem zk_Fr_I {mods : List (Nat × Nat)} {am : List Nat} {H0 H : zp_H} {p k : Nat} {x : Int32} (h : zk_Fr zg mods am H0 H) (hm : (zk_inm mods p k).or (zk_ina am p) = true) (hg : zB_gk p k = false) : zk_Fr zg mods am H0 (zw_I H p k x) := by
  refine ⟨h.1, fun q j h1 h2 => ?_⟩
  have hne : ¬ (q = p ∧ j = k) := by
    rintro ⟨rfl, rfl⟩
    rw [h1, h2] at hm
    cases hm
  refine ⟨?_, (h.2 q j h1 h2).2⟩
  rw [← (h.2 q j h1 h2).1]
  unfold zk_fv
  by_cases h9 : q = 72 ∧ j = 100
  · rw [if_pos h9, if_pos h9]
    unfold zg
    have e1 : (zw_I H p k x).2.1 72 28 = H.2.1 72 28 := zp_u_ne (fun h8 => by rw [← h8.1, ← h8.2] at hg; cases hg)
    have e2 : (zw_I H p k x).2.1 72 30 = H.2.1 72 30 := zp_u_ne (fun h8 => by rw [← h8.1, ← h8.2] at hg; cases hg)
    rw [e1, e2]
    rfl
  · rw [if_neg h9, if_neg h9]
    exact congrArg Int32.toInt (zp_u_ne hne)
def zx_dr (H : zp_H) : zp_H := zw_I (zw_I (zw_I H 72 46 (H.2.1 72 46 - Int32.ofInt 1)) 90 (H.2.1 72 45).toInt.toNat (H.2.1 91 (H.2.1 72 46 - Int32.ofInt 1).toInt.toNat)) 72 45 (H.2.1 72 45 + Int32.ofInt 1)
theorem zx_drop1 {a o : Nat} {H0 H : zp_H} (h : zx_S a 1 o H) (hF : zx_Fd a H0 H) (ha : (a : Int) ≤ (H.2.1 72 45).toInt) (h1 : 0 < (H.2.1 72 46).toInt) (hy : (H.2.1 91 (H.2.1 72 46 - Int32.ofInt 1).toInt.toNat).toInt < 14) :
    zx_S a 1 o (zx_dr H) ∧ zx_Fd a H0 (zx_dr H) ∧ ((zx_dr H).2.1 72 46).toInt = (H.2.1 72 46).toInt - 1 ∧ ((zx_dr H).2.1 72 45).toInt = (H.2.1 72 45).toInt + 1 ∧ (zx_dr H).2.1 91 = H.2.1 91 ∧ zr_opn ((zx_dr H).2.1 91) ((zx_dr H).2.1 72 46).toInt.toNat = zr_opn (H.2.1 91) (H.2.1 72 46).toInt.toNat := by
  obtain ⟨t0, w0⟩ := zx_top h
  obtain ⟨hB, h2, h3, hg⟩ := h
  have e1 : (H.2.1 72 46 - Int32.ofInt 1).toInt = (H.2.1 72 46).toInt - 1 := zw_m1 (by omega)
  have e2 : (H.2.1 72 45 + Int32.ofInt 1).toInt = (H.2.1 72 45).toInt + 1 := zw_p1 (by omega)
  have f45 : (zx_dr H).2.1 72 45 = H.2.1 72 45 + Int32.ofInt 1 := zw_eq
  have f46 : (zx_dr H).2.1 72 46 = H.2.1 72 46 - Int32.ofInt 1 := zw_ne (zw_ne zw_eq rfl) rfl
  have f23 : (zx_dr H).2.1 72 23 = H.2.1 72 23 := zw_ne (zw_ne (zw_ne rfl rfl) rfl) rfl
  have f27 : (zx_dr H).2.1 72 27 = H.2.1 72 27 := zw_ne (zw_ne (zw_ne rfl rfl) rfl) rfl
  have f28 : (zx_dr H).2.1 72 28 = H.2.1 72 28 := zw_ne (zw_ne (zw_ne rfl rfl) rfl) rfl
  have f47 : (zx_dr H).2.1 72 47 = H.2.1 72 47 := zw_ne (zw_ne (zw_ne rfl rfl) rfl) rfl
  have f34 : (zx_dr H).2.1 72 34 = H.2.1 72 34 := zw_ne (zw_ne (zw_ne rfl rfl) rfl) rfl
  have f35 : (zx_dr H).2.1 72 35 = H.2.1 72 35 := zw_ne (zw_ne (zw_ne rfl rfl) rfl) rfl
  have f91 : (zx_dr H).2.1 91 = H.2.1 91 := funext (fun i => zw_ne (zw_ne (zw_ne rfl rfl) rfl) rfl)
  have f90 : ∀ i, i ≠ (H.2.1 72 45).toInt.toNat → (zx_dr H).2.1 90 i = H.2.1 90 i := by
    intro i hi
    refine zw_ne ?_ rfl
    exact (zp_u_ne (fun h9 => hi h9.2)).trans (zw_ne rfl rfl)
  have f90t : (zx_dr H).2.1 90 (H.2.1 72 45).toInt.toNat = H.2.1 91 (H.2.1 72 46 - Int32.ofInt 1).toInt.toNat := zw_ne zw_eq rfl
  have hphi : zx_phi (zx_dr H) = zx_phi H := by
    unfold zx_phi
    rw [f27, f28]
  have hw : (H.2.1 72 46).toInt.toNat = (H.2.1 72 46 - Int32.ofInt 1).toInt.toNat + 1 := by omega
  have hopn : zr_opn (H.2.1 91) (H.2.1 72 46).toInt.toNat = zr_opn (H.2.1 91) (H.2.1 72 46 - Int32.ofInt 1).toInt.toNat := by
    rw [hw]
    show zr_opn _ _ + _ = _
    rw [if_neg (by omega)]
    rfl
  have hB' : zk_Bs zR zg zJ (zx_dr H) := by
    have b0 := zR_dn hB
    have b1 := zR_putf (k := 46) (x := H.2.1 72 46 - Int32.ofInt 1) b0 (fun r hr => by cases hr; exact ⟨by show (0 : Int) ≤ _; omega, by show _ ≤ (800 : Int); omega⟩) rfl (zJ_I rfl b0.2.2.2.2.2.2.2)
    have b2 := zR_puta (p := 90) (j := (H.2.1 72 45).toInt.toNat) (x := H.2.1 91 (H.2.1 72 46 - Int32.ofInt 1).toInt.toNat) (t := 0) (n := 1600) b1 rfl (fun r hr => by
      have e : r = (-2147483648, 2147483647) := by
        have hr : [((-2147483648 : Int), (2147483647 : Int))][(H.2.1 72 45).toInt.toNat % 1]? = some r := hr
        rw [Nat.mod_one] at hr
        exact (Option.some.inj hr).symm
      rw [e]
      exact ⟨Int32.le_toInt _, Int32.toInt_le _⟩) (zJ_I rfl b1.2.2.2.2.2.2.2)
    have b3 := zR_putf (k := 45) (x := H.2.1 72 45 + Int32.ofInt 1) b2 (fun r hr => by cases hr; exact ⟨by show (0 : Int) ≤ _; omega, by show _ ≤ (1600 : Int); omega⟩) rfl (zJ_I rfl b2.2.2.2.2.2.2.2)
    refine zR_up b3 ?_
    have c := zR_cn hB
    unfold zR_cc
    show ((zx_dr H).2.1 72 23).toInt = 0 → _
    rw [f23, f34, f35]
    exact c
  refine ⟨⟨hB', ?_, ?_, ?_⟩, ⟨?_, ?_⟩, ?_, ?_, f91, ?_⟩
  · rw [f45, f46, e1, e2]; omega
  · rw [f46, e1]; omega
  · rw [f23]
    intro h0
    obtain ⟨g1, g2, g3, g4, n, g5⟩ := hg h0
    refine ⟨?_, ?_, ?_, ?_, n + 1, ?_⟩
    · rw [hphi, f45, f46, e1, e2]; omega
    · rw [hphi, f46, e1]; omega
    · rw [f47, f91, f46, ← hopn]; exact g3
    · rw [f46, f91]
      intro i hi
      exact g4 i (by omega)
    · rw [f91, f46, f45, e2]
      have r1 := zr_run_c (c := H.2.1 90) (c' := (zx_dr H).2.1 90) (b := (H.2.1 72 45).toInt.toNat) (fun i hi => f90 i (by omega)) g5 (Nat.le_refl _)
      rw [zr_run_app r1]
      have hb : zr_bin (H.2.1 91) (H.2.1 72 46).toInt.toNat = zr_bin (H.2.1 91) (H.2.1 72 46 - Int32.ofInt 1).toInt.toNat + (if 4 ≤ (H.2.1 91 (H.2.1 72 46 - Int32.ofInt 1).toInt.toNat).toInt ∧ (H.2.1 91 (H.2.1 72 46 - Int32.ofInt 1).toInt.toNat).toInt < 14 then 1 else 0) := by
        rw [hw]
        rfl
      have y3 := g4 (H.2.1 72 46 - Int32.ofInt 1).toInt.toNat (by omega)
      have et : ((H.2.1 72 45).toInt + 1).toNat = (H.2.1 72 45).toInt.toNat + 1 := by omega
      unfold zr_stp
      dsimp only
      rw [f90t, et]
      rw [if_neg (by omega)]
      by_cases hy3 : (H.2.1 91 (H.2.1 72 46 - Int32.ofInt 1).toInt.toNat).toInt = 3
      · rw [if_neg (by omega)] at hb
        rw [if_pos hy3, if_pos (by omega), hb]
      · have h4 : 4 ≤ (H.2.1 91 (H.2.1 72 46 - Int32.ofInt 1).toInt.toNat).toInt := by omega
        rw [if_pos ⟨h4, hy⟩] at hb
        rw [if_neg hy3, if_pos h4, hb, if_pos (by omega)]
        rfl
  · exact zk_Fr_I (zk_Fr_I (zk_Fr_I hF.1 rfl rfl) rfl rfl) rfl rfl
  · intro i hi
    rw [f90 i (by omega)]
    exact hF.2 i hi
  · rw [f46, e1]
  · rw [f45, e2]
  · rw [f91, f46, hopn]
def zm_199 : za_MI := (yX12_drops, prog_14_method_28_code, 2, none, 12, 0, 0, [], za_i199)
theorem zm_199_t : za_MT 199 = some zm_199 := rfl
def zm_201 : za_MI := (yX12_strength, prog_14_method_27_code, 1, (some FieldType.int), 12, 0, 0, [], za_i201)
theorem zm_201_t : za_MT 201 = some zm_201 := rfl
theorem zq_strength {L : Nat} {σ : Nat → Int32} {d : Nat} {H : zp_H} {y : Int32} : ∃ X, zp_Call L σ (d + 1) 201 [.inl y] H X ∧ ∃ v : Int32, X = (.inl (some (.inl v)), H) ∧ 1 ≤ v.toInt := by
  refine zw_met zm_201_t rfl rfl ?_
  refine zw_ld (n := 1) (k := 0) (f := zp_isI) (pc' := 1) rfl rfl rfl rfl rfl ?_
  refine zw_s (pc' := 2) rfl rfl ?_
  refine zw_bne2 (g := 9) (pc' := 5) rfl rfl rfl rfl (rfl : _ = (5 : Int)) (fun hb => ?_) (fun hb => ?_)
  · refine zw_ld (n := 1) (k := 0) (f := zp_isI) (pc' := 10) rfl rfl rfl rfl rfl ?_
    refine zw_s (pc' := 11) rfl rfl ?_
    refine zw_bne2 (g := 18) (pc' := 14) rfl rfl rfl rfl (rfl : _ = (4 : Int)) (fun hb => ?_) (fun hb => ?_)
    · refine zw_ld (n := 1) (k := 0) (f := zp_isI) (pc' := 19) rfl rfl rfl rfl rfl ?_
      refine zw_s (pc' := 20) rfl rfl ?_
      refine zw_bne2 (g := 27) (pc' := 23) rfl rfl rfl rfl (rfl : _ = (3 : Int)) (fun hb => ?_) (fun hb => ?_)
      · refine zw_ld (n := 1) (k := 0) (f := zp_isI) (pc' := 28) rfl rfl rfl rfl rfl ?_
        refine zw_s (pc' := 30) rfl rfl ?_
        refine zw_beq2 (g := 39) (pc' := 33) rfl rfl rfl rfl (rfl : _ = (6 : Int)) (fun hb => ?_) (fun hb => ?_)
        · refine zw_s (pc' := 40) rfl rfl ?_
          refine zw_s (pc' := 61) rfl rfl ?_
          refine zw_ri rfl rfl ?_
          exact ⟨_, rfl, by decide⟩
        · refine zw_ld (n := 1) (k := 0) (f := zp_isI) (pc' := 34) rfl rfl rfl rfl rfl ?_
          refine zw_s (pc' := 36) rfl rfl ?_
          refine zw_bne2 (g := 43) (pc' := 39) rfl rfl rfl rfl (rfl : _ = (7 : Int)) (fun hb => ?_) (fun hb => ?_)
          · refine zw_ld (n := 1) (k := 0) (f := zp_isI) (pc' := 44) rfl rfl rfl rfl rfl ?_
            refine zw_s (pc' := 46) rfl rfl ?_
            refine zw_beq2 (g := 55) (pc' := 49) rfl rfl rfl rfl (rfl : _ = (8 : Int)) (fun hb => ?_) (fun hb => ?_)
            · refine zw_s (pc' := 56) rfl rfl ?_
              refine zw_s (pc' := 61) rfl rfl ?_
              refine zw_ri rfl rfl ?_
              exact ⟨_, rfl, by decide⟩
            · refine zw_ld (n := 1) (k := 0) (f := zp_isI) (pc' := 50) rfl rfl rfl rfl rfl ?_
              refine zw_s (pc' := 52) rfl rfl ?_
              refine zw_bne2 (g := 59) (pc' := 55) rfl rfl rfl rfl (rfl : _ = (9 : Int)) (fun hb => ?_) (fun hb => ?_)
              · refine zw_s (pc' := 61) rfl rfl ?_
                refine zw_ri rfl rfl ?_
                exact ⟨_, rfl, by decide⟩
              · refine zw_s (pc' := 56) rfl rfl ?_
                refine zw_s (pc' := 61) rfl rfl ?_
                refine zw_ri rfl rfl ?_
                exact ⟨_, rfl, by decide⟩
          · refine zw_s (pc' := 40) rfl rfl ?_
            refine zw_s (pc' := 61) rfl rfl ?_
            refine zw_ri rfl rfl ?_
            exact ⟨_, rfl, by decide⟩
      · refine zw_s (pc' := 24) rfl rfl ?_
        refine zw_s (pc' := 61) rfl rfl ?_
        refine zw_ri rfl rfl ?_
        exact ⟨_, rfl, by decide⟩
    · refine zw_s (pc' := 15) rfl rfl ?_
      refine zw_s (pc' := 61) rfl rfl ?_
      refine zw_ri rfl rfl ?_
      exact ⟨_, rfl, by decide⟩
  · refine zw_s (pc' := 6) rfl rfl ?_
    refine zw_s (pc' := 61) rfl rfl ?_
    refine zw_ri rfl rfl ?_
    exact ⟨_, rfl, by decide⟩

theorem zx_drL {L : Nat} {σ : Nat → Int32} {d a o : Nat} {H0 : zp_H} {y : Int32} (n : Nat) : ∀ H : zp_H, (H.2.1 72 46).toInt.toNat = n → zx_S a 1 o H → zx_Fd a H0 H → (a : Int) ≤ (H.2.1 72 45).toInt → ((H.2.1 72 46).toInt ≤ (H0.2.1 72 46).toInt ∧ (H0.2.1 72 45).toInt ≤ (H.2.1 72 45).toInt) → zr_opn (H.2.1 91) (H.2.1 72 46).toInt.toNat = zr_opn (H0.2.1 91) (H0.2.1 72 46).toInt.toNat → zs_Safe L σ (fun X => ∃ H1, X = (.inl none, H1) ∧ zx_S a 1 o H1 ∧ zx_Fd a H0 H1 ∧ ((H1.2.1 72 46).toInt ≤ (H0.2.1 72 46).toInt ∧ (H0.2.1 72 45).toInt ≤ (H1.2.1 72 45).toInt) ∧ zr_opn (H1.2.1 91) (H1.2.1 72 46).toInt.toNat = zr_opn (H0.2.1 91) (H0.2.1 72 46).toInt.toNat ∧ (y.toInt ≤ 0 → (H1.2.1 72 46).toInt = 0 ∨ 14 ≤ (H1.2.1 91 ((H1.2.1 72 46).toInt - 1).toNat).toInt)) zm_199 [] (d + 2) (0, [(0, .inr (.inr (some 73))), (1, .inl y)], [], H, (0, 0)) := by
  induction n with
  | zero =>
    intro H hn h hF ha hw ho
    obtain ⟨t0, w0⟩ := zx_top h
    have W := zR_Wd (zR_dn h.1)
    refine zw_ld (n := 1) (k := 0) (f := zp_isR) (pc' := 1) rfl rfl rfl rfl rfl ?_
    refine zw_gI (q := 72) (pc' := 4) W rfl rfl rfl rfl rfl rfl ?_
    refine zw_ble1 (g := 68) (pc' := 7) rfl rfl rfl rfl (fun hb => ?_) (fun hb => ?_)
    · refine zw_rn rfl rfl ?_
      exact ⟨H, rfl, h, hF, hw, ho, fun _ => Or.inl (by omega)⟩
    · omega
  | succ n ih =>
    intro H hn h hF ha hw ho
    obtain ⟨t0, w0⟩ := zx_top h
    have W := zR_Wd (zR_dn h.1)
    have hb46 := (zR_fr1 (zR_dn h.1) (k := 46) (r := (0, 800)) rfl rfl).2
    have hb46 : (H.2.1 72 46).toInt ≤ 800 := hb46
    have h2 := h.2.1
    have e1 : (H.2.1 72 46 - Int32.ofInt 1).toInt = (H.2.1 72 46).toInt - 1 := zw_m1 (by omega)
    refine zw_ld (n := 1) (k := 0) (f := zp_isR) (pc' := 1) rfl rfl rfl rfl rfl ?_
    refine zw_gI (q := 72) (pc' := 4) W rfl rfl rfl rfl rfl rfl ?_
    refine zw_ble1 (g := 68) (pc' := 7) rfl rfl rfl rfl (fun hb => ?_) (fun hb => ?_)
    · omega
    · refine zw_ld (n := 1) (k := 0) (f := zp_isR) (pc' := 8) rfl rfl rfl rfl rfl ?_
      refine zw_gR (q := 72) (pc' := 11) W rfl rfl rfl rfl (W.2 72 60 _ rfl) rfl ?_
      refine zw_ld (n := 1) (k := 0) (f := zp_isR) (pc' := 12) rfl rfl rfl rfl rfl ?_
      refine zw_gI (q := 72) (pc' := 15) W rfl rfl rfl rfl rfl rfl ?_
      refine zw_s (pc' := 16) rfl rfl ?_
      refine zw_isub (pc' := 17) rfl rfl ?_
      refine zw_ia (q := 91) (pc' := 18) W rfl rfl (by decide) (⟨by rw [e1]; omega, by rw [e1]; omega⟩) rfl rfl ?_
      by_cases ho1 : 14 ≤ (H.2.1 91 (H.2.1 72 46 - Int32.ofInt 1).toInt.toNat).toInt
      · refine zw_c (pc' := 21) (zw_cs (Y := zm_200) rfl rfl zm_200_t) rfl rfl rfl rfl rfl (zq_open1 W ho1) ?_
        refine zw_bne1 (g := 68) (pc' := 24) rfl rfl rfl (rfl : _ = (1 : Int)) (fun hb => ?_) (fun h9 => absurd h9 (by decide))
        refine zw_rn rfl rfl ?_
        refine ⟨H, rfl, h, hF, hw, ho, fun _ => Or.inr ?_⟩
        rw [← e1]
        exact ho1
      · refine zw_c (pc' := 21) (zw_cs (Y := zm_200) rfl rfl zm_200_t) rfl rfl rfl rfl rfl (zq_open0 W (by omega)) ?_
        refine zw_bne1 (g := 68) (pc' := 24) rfl rfl rfl (rfl : _ = (0 : Int)) (fun h9 => absurd h9 (by decide)) (fun hb => ?_)
        refine zw_ld (n := 1) (k := 0) (f := zp_isR) (pc' := 25) rfl rfl rfl rfl rfl ?_
        refine zw_gR (q := 72) (pc' := 28) W rfl rfl rfl rfl (W.2 72 60 _ rfl) rfl ?_
        refine zw_ld (n := 1) (k := 0) (f := zp_isR) (pc' := 29) rfl rfl rfl rfl rfl ?_
        refine zw_gI (q := 72) (pc' := 32) W rfl rfl rfl rfl rfl rfl ?_
        refine zw_s (pc' := 33) rfl rfl ?_
        refine zw_isub (pc' := 34) rfl rfl ?_
        refine zw_ia (q := 91) (pc' := 35) W rfl rfl (by decide) (⟨by rw [e1]; omega, by rw [e1]; omega⟩) rfl rfl ?_
        obtain ⟨_, hC, v, rfl, hv⟩ := zq_strength (L := L) (σ := σ) (d := d + 1) (H := H) (y := H.2.1 91 (H.2.1 72 46 - Int32.ofInt 1).toInt.toNat)
        refine zw_c (pc' := 38) (zw_cs (Y := zm_201) rfl rfl zm_201_t) rfl rfl rfl rfl rfl (hC) ?_
        refine zw_ld (n := 1) (k := 1) (f := zp_isI) (pc' := 39) rfl rfl rfl rfl rfl ?_
        refine zw_blt2 (g := 68) (pc' := 42) rfl rfl rfl rfl rfl (fun hs => ?_) (fun hs => ?_)
        · refine zw_rn rfl rfl ?_
          exact ⟨H, rfl, h, hF, hw, ho, fun h9 => absurd h9 (by omega)⟩
        · refine zw_ld (n := 1) (k := 0) (f := zp_isR) (pc' := 43) rfl rfl rfl rfl rfl ?_
          refine zw_s (pc' := 44) rfl rfl ?_
          refine zw_gI (q := 72) (pc' := 47) W rfl rfl rfl rfl rfl rfl ?_
          refine zw_s (pc' := 48) rfl rfl ?_
          refine zw_isub (pc' := 49) rfl rfl ?_
          refine zw_pI (q := 72) (pc' := 52) W rfl rfl rfl rfl rfl rfl ?_
          refine zw_ld (n := 1) (k := 0) (f := zp_isR) (pc' := 53) rfl rfl rfl rfl rfl ?_
          refine zw_ld (n := 1) (k := 0) (f := zp_isR) (pc' := 54) rfl rfl rfl rfl rfl ?_
          refine zw_gR (q := 72) (pc' := 57) W rfl rfl rfl rfl (W.2 72 60 _ rfl) rfl ?_
          refine zw_ld (n := 1) (k := 0) (f := zp_isR) (pc' := 58) rfl rfl rfl rfl rfl ?_
          refine zw_gI (q := 72) (pc' := 61) W rfl rfl rfl rfl zw_eq rfl ?_
          refine zw_ia (q := 91) (pc' := 62) W rfl rfl (by decide) (⟨by rw [e1]; omega, by rw [e1]; omega⟩) (zw_ne rfl rfl) rfl ?_
          obtain ⟨k1, k2, k3, k4, k5, k6⟩ := zx_drop1 h hF ha (by omega) (by omega)
          refine zw_cn (pc' := 65) (zw_cv (q := 72) (Y := zm_198) W.1 rfl rfl zm_198_t rfl rfl) rfl rfl rfl rfl rfl (zq_puts (H := zw_I H 72 46 (H.2.1 72 46 - Int32.ofInt 1)) W ⟨by show 0 ≤ (H.2.1 72 45).toInt; omega, by show (H.2.1 72 45).toInt < ((1600 : Nat) : Int); omega⟩) ?_
          refine zw_s (pc' := 0) rfl rfl ?_
          exact ih (zx_dr H) (by omega) k1 k2 (by omega) ⟨by omega, by omega⟩ (by rw [k6]; exact ho)

theorem zx_drops {L : Nat} {σ : Nat → Int32} {d a o : Nat} {H : zp_H} {y : Int32} (h : zx_S a 1 o H) (ha : (a : Int) ≤ (H.2.1 72 45).toInt) : ∃ X, zp_Call L σ (d + 3) 199 [.inr (.inr (some 73)), .inl y] H X ∧ (fun X => ∃ H1, X = (.inl none, H1) ∧ zx_S a 1 o H1 ∧ zx_Fd a H H1 ∧ ((H1.2.1 72 46).toInt ≤ (H.2.1 72 46).toInt ∧ (H.2.1 72 45).toInt ≤ (H1.2.1 72 45).toInt) ∧ zr_opn (H1.2.1 91) (H1.2.1 72 46).toInt.toNat = zr_opn (H.2.1 91) (H.2.1 72 46).toInt.toNat ∧ (y.toInt ≤ 0 → (H1.2.1 72 46).toInt = 0 ∨ 14 ≤ (H1.2.1 91 ((H1.2.1 72 46).toInt - 1).toNat).toInt)) X := by
  exact zw_met zm_199_t rfl rfl (zx_drL (H0 := H) _ H rfl h ⟨zk_Fr_r H, fun _ _ => rfl⟩ ha ⟨Int.le_refl _, Int.le_refl _⟩ rfl)
end
section
/-! ===== the reference reads an expression: words, parts, brackets ===== -/
def zx_TK : List (Nat × Nat) := [(72, 27), (72, 28), (72, 29), (72, 30), (72, 31), (72, 32), (72, 33), (72, 100)]
def zx_M : List (Nat × Nat) := [(72, 23), (72, 24), (72, 27), (72, 28), (72, 29), (72, 30), (72, 31), (72, 32), (72, 33), (72, 45), (72, 46), (72, 47), (72, 100)]
def zx_A : List Nat := [90, 91, 92]
def zx_F (a : Nat) (H0 H : zp_H) : Prop := zk_Fr zg zx_M zx_A H0 H ∧ ∀ i, i < a → H.2.1 90 i = H0.2.1 90 i
theorem zx_F_r {a : Nat} (H : zp_H) : zx_F a H H := ⟨zk_Fr_r H, fun _ _ => rfl⟩
theorem zx_F_t {a : Nat} {H H1 H2 : zp_H} (h1 : zx_F a H H1) (h2 : zx_F a H1 H2) : zx_F a H H2 := ⟨zk_Fr_t h1.1 h2.1, fun i hi => (h2.2 i hi).trans (h1.2 i hi)⟩
theorem zx_Fd_F {a : Nat} {H H1 : zp_H} (h : zx_Fd a H H1) : zx_F a H H1 := ⟨zk_Fr_w rfl rfl h.1, h.2⟩
theorem zk_rv_n {x : Option zp_V ⊕ Nat} (h : zk_rv (.inl none) x) : x = .inl none := by
  match x, h with
  | .inl none, _ => rfl
theorem zx_fe {mods : List (Nat × Nat)} {am : List Nat} {H H1 : zp_H} (h : zk_Fr zg mods am H H1) (k : Nat) (hm : zk_inm mods 72 k = false) (ha : zk_ina am 72 = false) (hk : Nat.beq k 100 = false) : (H1.2.1 72 k).toInt = (H.2.1 72 k).toInt := by
  have e := (h.2 72 k hm ha).1
  have hne : ¬ ((72 : Nat) = 72 ∧ k = 100) := by
    rintro ⟨_, e⟩
    rw [e] at hk
    cases hk
  unfold zk_fv at e
  rw [if_neg hne, if_neg hne] at e
  exact e
theorem zx_ae {mods : List (Nat × Nat)} {am : List Nat} {H H1 : zp_H} (h : zk_Fr zg mods am H H1) (p : Nat) (hm : ∀ k, zk_inm mods p k = false) (ha : zk_ina am p = false) (hp : Nat.beq p 72 = false) : H1.2.1 p = H.2.1 p := by
  funext k
  have e := (h.2 p k (hm k) ha).1
  have hne : ¬ (p = 72 ∧ k = 100) := by
    rintro ⟨e, _⟩
    rw [e] at hp
    cases hp
  unfold zk_fv at e
  rw [if_neg hne, if_neg hne] at e
  exact Int32.toInt_inj.mp e
theorem zx_goes {L : Nat} {σ : Nat → Int32} {d : Nat} {H : zp_H} (h : zk_Bs zR zg zJ H) : ∃ H1, zp_Call L σ (d + 2) 171 [.inr (.inr (some 73))] H (.inl none, H1) ∧ zk_Bs zR zg zJ H1 ∧ zk_Fr zg zx_TK [] H H1 ∧ 2 * (H.2.1 72 27).toInt ≤ zx_phi H1 ∧ (H1.2.1 72 27).toInt ≤ 700 := by
  have hct : zk_Ct L σ zR zg zJ zr_e0 := zk_chk_ok zR_W (fun _ h => absurd h List.not_mem_nil) zrt_e0
  obtain ⟨X, x1, x2, x3, o, o1, o2, o3, o4⟩ := hct (d + 2) (Nat.le_add_left 2 d) [.inr (.inr (some 73))] H ⟨rfl, trivial⟩ h (fun f hf => absurd hf List.not_mem_nil)
  have o1 : o ∈ [((Sum.inl none, [(72, 27, 0, 700), (72, 28, 0, 0)], [(72, 27, 0)]) : zk_Oc), (Sum.inl none, [(72, 27, 0, 700), (72, 28, 1, 4)], [(72, 27, 1)])] := o1
  obtain ⟨X1, X2⟩ := X
  have key : X1 = .inl none ∧ 2 * (H.2.1 72 27).toInt ≤ zx_phi X2 ∧ (X2.2.1 72 27).toInt ≤ 700 := by
    rcases List.mem_cons.mp o1 with rfl | o1
    · have a1 := o3 (72, 27, 0, 700) List.mem_cons_self
      have a2 := o3 (72, 28, 0, 0) (List.mem_cons_of_mem _ List.mem_cons_self)
      have a3 := o4 (72, 27, 0) List.mem_cons_self
      have a1 : 0 ≤ (X2.2.1 72 27).toInt ∧ (X2.2.1 72 27).toInt ≤ 700 := a1
      have a2 : 0 ≤ (X2.2.1 72 28).toInt ∧ (X2.2.1 72 28).toInt ≤ 0 := a2
      have a3 : (H.2.1 72 27).toInt + 0 ≤ (X2.2.1 72 27).toInt := a3
      refine ⟨zk_rv_n o2, ?_, a1.2⟩
      unfold zx_phi
      rw [if_pos (by omega)]
      omega
    · rcases List.mem_cons.mp o1 with rfl | o1
      · have a1 := o3 (72, 27, 0, 700) List.mem_cons_self
        have a2 := o3 (72, 28, 1, 4) (List.mem_cons_of_mem _ List.mem_cons_self)
        have a3 := o4 (72, 27, 1) List.mem_cons_self
        have a1 : 0 ≤ (X2.2.1 72 27).toInt ∧ (X2.2.1 72 27).toInt ≤ 700 := a1
        have a2 : 1 ≤ (X2.2.1 72 28).toInt ∧ (X2.2.1 72 28).toInt ≤ 4 := a2
        have a3 : (H.2.1 72 27).toInt + 1 ≤ (X2.2.1 72 27).toInt := a3
        refine ⟨zk_rv_n o2, ?_, a1.2⟩
        unfold zx_phi
        rw [if_neg (by omega)]
        omega
      · exact absurd o1 List.not_mem_nil
  obtain ⟨rfl, k2, k3⟩ := key
  exact ⟨X2, x1, x2, x3, k2, k3⟩
theorem zx_phi_le {H : zp_H} (h : zk_Bs zR zg zJ H) : zx_phi H ≤ 1400 := by
  have h1 := (zR_fr1 (zR_dn h) (k := 27) (r := (0, 700)) rfl rfl).2
  have h1 : (H.2.1 72 27).toInt ≤ 700 := h1
  unfold zx_phi
  split <;> omega
theorem zx_phi_s {H : zp_H} (h : (H.2.1 72 28).toInt ≠ 0) : zx_phi H = 2 * (H.2.1 72 27).toInt - 2 := by
  unfold zx_phi
  rw [if_neg h]
theorem zx_phi_e {H H1 : zp_H} (h1 : H1.2.1 72 27 = H.2.1 72 27) (h2 : H1.2.1 72 28 = H.2.1 72 28) : zx_phi H1 = zx_phi H := by
  unfold zx_phi
  rw [h1, h2]
/-- a fault -/
theorem zx_wrong {L : Nat} {σ : Nat → Int32} {d a e o : Nat} {H : zp_H} {y : Int32} (h : zx_S a e o H) (hy : 1 ≤ y.toInt ∧ y.toInt ≤ 5) : ∃ H1, zp_Call L σ (d + 1) 180 [.inr (.inr (some 73)), .inl y] H (.inl none, H1) ∧ (H1.2.1 72 23).toInt ≠ 0 ∧ (∀ e' o', zx_S a e' o' H1) ∧ zx_F a H H1 ∧ (H1.2.1 72 45).toInt = (H.2.1 72 45).toInt ∧ (H1.2.1 72 46).toInt = (H.2.1 72 46).toInt ∧ zx_phi H1 = zx_phi H := by
  have W := zR_Wd (zR_dn h.1)
  by_cases hg : (H.2.1 72 23).toInt = 0
  · refine ⟨_, zq_wrong0 W hg, ?_, ?_, ⟨zk_Fr_I (zk_Fr_I (zk_Fr_r H) rfl rfl) rfl rfl, fun i hi => zw_ne (zw_ne rfl rfl) rfl⟩, congrArg Int32.toInt (zw_ne (zw_ne rfl rfl) rfl), congrArg Int32.toInt (zw_ne (zw_ne rfl rfl) rfl), ?_⟩
    rotate_left 2
    · have e1 : (zw_I (zw_I H 72 23 y) 72 24 (H.2.1 72 29)).2.1 72 27 = H.2.1 72 27 := zw_ne (zw_ne rfl rfl) rfl
      have e2 : (zw_I (zw_I H 72 23 y) 72 24 (H.2.1 72 29)).2.1 72 28 = H.2.1 72 28 := zw_ne (zw_ne rfl rfl) rfl
      unfold zx_phi
      rw [e1, e2]
    · have e1 : (zw_I (zw_I H 72 23 y) 72 24 (H.2.1 72 29)).2.1 72 23 = y := zw_ne zw_eq rfl
      rw [e1]
      omega
    · intro e' o'
      have e1 : (zw_I (zw_I H 72 23 y) 72 24 (H.2.1 72 29)).2.1 72 23 = y := zw_ne zw_eq rfl
      have e2 : (zw_I (zw_I H 72 23 y) 72 24 (H.2.1 72 29)).2.1 72 45 = H.2.1 72 45 := zw_ne (zw_ne rfl rfl) rfl
      have e3 : (zw_I (zw_I H 72 23 y) 72 24 (H.2.1 72 29)).2.1 72 46 = H.2.1 72 46 := zw_ne (zw_ne rfl rfl) rfl
      have b0 := zR_dn h.1
      have b1 := zR_putf (k := 23) (x := y) b0 (fun r hr => by cases hr; exact ⟨by show (0 : Int) ≤ _; omega, hy.2⟩) rfl (zJ_I rfl b0.2.2.2.2.2.2.2)
      have b2 := zR_putf (k := 24) (x := H.2.1 72 29) b1 (fun r hr => by cases hr) rfl (zJ_I rfl b1.2.2.2.2.2.2.2)
      refine ⟨zR_up b2 (fun h9 => ?_), by rw [e2, e3]; exact h.2.1, by rw [e3]; exact h.2.2.1, fun h9 => ?_⟩
      · rw [e1] at h9; omega
      · rw [e1] at h9; omega
  · exact ⟨H, zq_wrong1 W hg, hg, fun e' o' => ⟨h.1, h.2.1, h.2.2.1, fun h9 => absurd h9 hg⟩, zx_F_r H, rfl, rfl, rfl⟩
def zm_171 : za_MI := (yX12_goes, prog_14_method_13_code, 2, none, 12, 0, 0, [], za_i171)
theorem zm_171_t : za_MT 171 = some zm_171 := rfl
def zm_193 : za_MI := (yX12_deeper, prog_14_method_31_code, 1, none, 12, 0, 0, [], za_i193)
theorem zm_193_t : za_MT 193 = some zm_193 := rfl
theorem zx_deep {a e : Nat} {H : zp_H} (h : zx_S a e 1 H) (hd : (H.2.1 72 47).toInt < 6) : zx_S a e 0 (zw_I (zw_I H 72 47 (H.2.1 72 47 + Int32.ofInt 1)) 92 (H.2.1 72 47 + Int32.ofInt 1).toInt.toNat (zp_nar 2 (Int32.ofInt 0))) := by
  have hd0 := zR_fr1 (zR_dn h.1) (k := 47) (r := (0, 6)) rfl rfl
  have hd0 : 0 ≤ (H.2.1 72 47).toInt ∧ (H.2.1 72 47).toInt ≤ 6 := hd0
  have e1 : (H.2.1 72 47 + Int32.ofInt 1).toInt = (H.2.1 72 47).toInt + 1 := zw_p1 (by omega)
  generalize hK : zw_I (zw_I H 72 47 (H.2.1 72 47 + Int32.ofInt 1)) 92 (H.2.1 72 47 + Int32.ofInt 1).toInt.toNat (zp_nar 2 (Int32.ofInt 0)) = K
  have b0 := zR_dn h.1
  have b1 := zR_putf (k := 47) (x := H.2.1 72 47 + Int32.ofInt 1) b0 (fun r hr => by cases hr; exact ⟨by show (0 : Int) ≤ _; omega, by show _ ≤ (6 : Int); omega⟩) rfl (zJ_I rfl b0.2.2.2.2.2.2.2)
  have b2 := zR_puta (p := 92) (j := (H.2.1 72 47 + Int32.ofInt 1).toInt.toNat) (x := zp_nar 2 (Int32.ofInt 0)) (t := 2) (n := 9) b1 rfl (fun r hr => by
    have hr : [((0 : Int), (1 : Int))][(H.2.1 72 47 + Int32.ofInt 1).toInt.toNat % 1]? = some r := hr
    rw [Nat.mod_one] at hr
    cases hr
    exact ⟨by decide, by decide⟩) (zJ_I rfl b1.2.2.2.2.2.2.2)
  rw [hK] at b2
  have f : ∀ k, Nat.beq k 47 = false → K.2.1 72 k = H.2.1 72 k := fun k hk => by rw [← hK]; exact zw_ne (zw_ne rfl (by rw [hk]; rfl)) rfl
  have f47 : K.2.1 72 47 = H.2.1 72 47 + Int32.ofInt 1 := by rw [← hK]; exact zw_ne zw_eq rfl
  have f90 : K.2.1 90 = H.2.1 90 := by rw [← hK]; exact funext (fun i => zw_ne (zw_ne rfl rfl) rfl)
  have f91 : K.2.1 91 = H.2.1 91 := by rw [← hK]; exact funext (fun i => zw_ne (zw_ne rfl rfl) rfl)
  have hphi : zx_phi K = zx_phi H := by
    unfold zx_phi
    rw [f 27 rfl, f 28 rfl]
  refine ⟨zR_up b2 ?_, by rw [f 45 rfl, f 46 rfl]; exact h.2.1, by rw [f 46 rfl]; exact h.2.2.1, ?_⟩
  · have c := zR_cn h.1
    unfold zR_cc
    rw [f 23 rfl, f 34 rfl, f 35 rfl]
    exact c
  · rw [f 23 rfl]
    intro h0
    obtain ⟨g1, g2, g3, g4, g5⟩ := h.2.2.2 h0
    refine ⟨by rw [hphi, f 45 rfl, f 46 rfl]; exact g1, by rw [hphi, f 46 rfl]; exact g2, ?_, by rw [f 46 rfl, f91]; exact g4, by rw [f90, f91, f 45 rfl, f 46 rfl]; exact g5⟩
    rw [f47, e1, f91, f 46 rfl]
    omega

theorem zx_deeper {L : Nat} {σ : Nat → Int32} {d a e : Nat} {H : zp_H} (h : zx_S a e 1 H) : ∃ X, zp_Call L σ (d + 3) 193 [.inr (.inr (some 73))] H X ∧ ∃ H1, X = (.inl none, H1) ∧ zx_S a e 0 H1 ∧ zx_F a H H1 ∧ zx_phi H1 = zx_phi H ∧ (H1.2.1 72 45).toInt = (H.2.1 72 45).toInt := by
  have W := zR_Wd (zR_dn h.1)
  have hd := zR_fr1 (zR_dn h.1) (k := 47) (r := (0, 6)) rfl rfl
  have hd : 0 ≤ (H.2.1 72 47).toInt ∧ (H.2.1 72 47).toInt ≤ 6 := hd
  have e1 : (H.2.1 72 47 + Int32.ofInt 1).toInt = (H.2.1 72 47).toInt + 1 := zw_p1 (by omega)
  refine zw_met zm_193_t rfl rfl ?_
  refine zw_ld (n := 1) (k := 0) (f := zp_isR) (pc' := 1) rfl rfl rfl rfl rfl ?_
  refine zw_gI (q := 72) (pc' := 4) W rfl rfl rfl rfl rfl rfl ?_
  refine zw_s (pc' := 6) rfl rfl ?_
  refine zw_bge2 (g := 30) (pc' := 9) rfl rfl rfl rfl (rfl : _ = (6 : Int)) (fun hb => ?_) (fun hb => ?_)
  · refine zw_ld (n := 1) (k := 0) (f := zp_isR) (pc' := 31) rfl rfl rfl rfl rfl ?_
    refine zw_ld (n := 1) (k := 0) (f := zp_isR) (pc' := 32) rfl rfl rfl rfl rfl ?_
    refine zw_gI (q := 72) (pc' := 35) W rfl rfl rfl rfl rfl rfl ?_
    refine zw_s (pc' := 36) rfl rfl ?_
    refine zw_beq2 (g := 56) (pc' := 39) rfl rfl rfl rfl (rfl : _ = (2 : Int)) (fun h1 => ?_) (fun h1 => ?_)
    · refine zw_s (pc' := 57) rfl rfl ?_
      refine zw_s (pc' := 61) rfl rfl ?_
      obtain ⟨H1, c1, c2, c3, c4, c5, c6, c7⟩ := zx_wrong (L := L) (σ := σ) (d := d + 1) (y := Int32.ofInt 2) h (by decide)
      refine zw_cn (pc' := 64) (zw_cv (q := 72) (Y := zm_180) W.1 rfl rfl zm_180_t rfl rfl) rfl rfl rfl rfl rfl (c1) ?_
      refine zw_rn rfl rfl ?_
      exact ⟨H1, rfl, c3 _ _, c4, c7, c5⟩
    · refine zw_ld (n := 1) (k := 0) (f := zp_isR) (pc' := 40) rfl rfl rfl rfl rfl ?_
      refine zw_gI (q := 72) (pc' := 43) W rfl rfl rfl rfl rfl rfl ?_
      refine zw_s (pc' := 44) rfl rfl ?_
      refine zw_beq2 (g := 56) (pc' := 47) rfl rfl rfl rfl (rfl : _ = (1 : Int)) (fun h2 => ?_) (fun h2 => ?_)
      · refine zw_s (pc' := 57) rfl rfl ?_
        refine zw_s (pc' := 61) rfl rfl ?_
        obtain ⟨H1, c1, c2, c3, c4, c5, c6, c7⟩ := zx_wrong (L := L) (σ := σ) (d := d + 1) (y := Int32.ofInt 2) h (by decide)
        refine zw_cn (pc' := 64) (zw_cv (q := 72) (Y := zm_180) W.1 rfl rfl zm_180_t rfl rfl) rfl rfl rfl rfl rfl (c1) ?_
        refine zw_rn rfl rfl ?_
        exact ⟨H1, rfl, c3 _ _, c4, c7, c5⟩
      · refine zw_ld (n := 1) (k := 0) (f := zp_isR) (pc' := 48) rfl rfl rfl rfl rfl ?_
        refine zw_s (pc' := 50) rfl rfl ?_
        by_cases h3 : (H.2.1 72 28).toInt = 3 ∧ (H.2.1 72 32).toInt = (Int32.ofInt 40).toInt
        · refine zw_c (pc' := 53) (zw_cv (q := 72) (Y := zm_194) W.1 rfl rfl zm_194_t rfl rfl) rfl rfl rfl rfl rfl (zq_sign1 W h3) ?_
          refine zw_beq1 (g := 60) (pc' := 56) rfl rfl rfl (rfl : _ = (1 : Int)) (fun h9 => absurd h9 (by decide)) (fun hb => ?_)
          refine zw_s (pc' := 57) rfl rfl ?_
          refine zw_s (pc' := 61) rfl rfl ?_
          obtain ⟨H1, c1, c2, c3, c4, c5, c6, c7⟩ := zx_wrong (L := L) (σ := σ) (d := d + 1) (y := Int32.ofInt 2) h (by decide)
          refine zw_cn (pc' := 64) (zw_cv (q := 72) (Y := zm_180) W.1 rfl rfl zm_180_t rfl rfl) rfl rfl rfl rfl rfl (c1) ?_
          refine zw_rn rfl rfl ?_
          exact ⟨H1, rfl, c3 _ _, c4, c7, c5⟩
        · refine zw_c (pc' := 53) (zw_cv (q := 72) (Y := zm_194) W.1 rfl rfl zm_194_t rfl rfl) rfl rfl rfl rfl rfl (zq_sign0 W h3) ?_
          refine zw_beq1 (g := 60) (pc' := 56) rfl rfl rfl (rfl : _ = (0 : Int)) (fun hb => ?_) (fun h9 => absurd h9 (by decide))
          refine zw_s (pc' := 61) rfl rfl ?_
          obtain ⟨H1, c1, c2, c3, c4, c5, c6, c7⟩ := zx_wrong (L := L) (σ := σ) (d := d + 1) (y := Int32.ofInt 1) h (by decide)
          refine zw_cn (pc' := 64) (zw_cv (q := 72) (Y := zm_180) W.1 rfl rfl zm_180_t rfl rfl) rfl rfl rfl rfl rfl (c1) ?_
          refine zw_rn rfl rfl ?_
          exact ⟨H1, rfl, c3 _ _, c4, c7, c5⟩
  · refine zw_ld (n := 1) (k := 0) (f := zp_isR) (pc' := 10) rfl rfl rfl rfl rfl ?_
    refine zw_s (pc' := 11) rfl rfl ?_
    refine zw_gI (q := 72) (pc' := 14) W rfl rfl rfl rfl rfl rfl ?_
    refine zw_s (pc' := 15) rfl rfl ?_
    refine zw_iadd (pc' := 16) rfl rfl ?_
    refine zw_pI (q := 72) (pc' := 19) W rfl rfl rfl rfl rfl rfl ?_
    refine zw_ld (n := 1) (k := 0) (f := zp_isR) (pc' := 20) rfl rfl rfl rfl rfl ?_
    refine zw_gR (q := 72) (pc' := 23) W rfl rfl rfl rfl (W.2 72 61 _ rfl) rfl ?_
    refine zw_ld (n := 1) (k := 0) (f := zp_isR) (pc' := 24) rfl rfl rfl rfl rfl ?_
    refine zw_gI (q := 72) (pc' := 27) W rfl rfl rfl rfl zw_eq rfl ?_
    refine zw_s (pc' := 28) rfl rfl ?_
    refine zw_bs (q := 92) (pc' := 29) W rfl rfl (by decide) (⟨by rw [e1]; omega, by rw [e1]; omega⟩) rfl ?_
    refine zw_rn rfl rfl ?_
    exact ⟨_, rfl, zx_deep h (by omega), ⟨zk_Fr_I (zk_Fr_I (zk_Fr_r H) rfl rfl) rfl rfl, fun i hi => zw_ne (zw_ne rfl rfl) rfl⟩, zx_phi_e (zw_ne (zw_ne rfl rfl) rfl) (zw_ne (zw_ne rfl rfl) rfl), congrArg Int32.toInt (zw_ne (zw_ne rfl rfl) rfl)⟩
end
