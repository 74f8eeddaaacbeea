/-! ===== the reference: the word at hand as a ghost; what its codes, its acts keep ===== -/
def zg_l : List Int64 := [15190664, 165492, 20436616, 759412, 24, 25, 278194, 664709, 19617, 605291, 3945338324, 20317829, 263620, 640957932, 244780, 17084916, 611717, 239, 1476, 498, 14836]
def zg_f (w : Int64) : Nat → List Int64 → Int
  | _, [] => -1
  | k, x :: l => if x = w then (k : Int) else zg_f w (k + 1) l
theorem zg_f_in {w : Int64} : ∀ {l : List Int64} {k : Nat}, -1 ≤ zg_f w k l ∧ zg_f w k l < (k : Int) + l.length
  | [], k => by
    show -1 ≤ (-1 : Int) ∧ (-1 : Int) < (k : Int) + ((0 : Nat) : Int)
    omega
  | x :: l, k => by
    unfold zg_f
    by_cases h : x = w
    · rw [if_pos h]
      show -1 ≤ (k : Int) ∧ (k : Int) < (k : Int) + ((l.length + 1 : Nat) : Int)
      omega
    · rw [if_neg h]
      have ih := zg_f_in (w := w) (l := l) (k := k + 1)
      show -1 ≤ zg_f w (k + 1) l ∧ zg_f w (k + 1) l < (k : Int) + ((l.length + 1 : Nat) : Int)
      omega
def zg (H : zp_H) : Int := if (H.2.1 72 28).toInt ≠ 1 ∨ 7 < (H.2.1 72 30).toInt then -1 else zg_f (H.2.2.1 72 33) 0 zg_l
theorem zg_in (H : zp_H) : zk_in (zg H) (-1, 20) := by
  unfold zg
  split
  · exact ⟨by decide, by decide⟩
  · have h := zg_f_in (w := H.2.2.1 72 33) (l := zg_l) (k := 0)
    have e : ((zg_l.length : Nat) : Int) = 21 := rfl
    exact ⟨h.1, by show zg_f _ 0 zg_l ≤ 20; omega⟩
/-- rules' codes can be reckoned -/
def zJ_code (H : zp_H) : Prop := ∀ r : Nat, (r : Int) < (H.2.1 72 8).toInt → 0 ≤ (H.2.1 78 r).toInt ∧ ∃ n b m, zr_run (H.2.1 80) n (H.2.1 78 r).toInt.toNat 0 = some (b, m) ∧ b < 1600 ∧ (H.2.1 80 b).toInt = 0
/-- how many of the acts wrote on a slate -/
def zr_cnt (act : Nat → Int32) (s : Int) : Nat → Nat
  | 0 => 0
  | n + 1 => zr_cnt act s n + (if (act (2 * n)).toInt = s ∧ (act (2 * n + 1)).toInt = -1 then 1 else 0)
def zJ_cnt (H : zp_H) : Prop := ∀ s : Nat, s < 8 → ((zr_cnt (H.2.1 93) s (H.2.1 72 62).toInt.toNat : Nat) : Int) ≤ (H.2.1 74 (4 * s + 2)).toInt
def zJ_img (H : zp_H) : Prop := ∀ s : Nat, s < 8 → ((zr_cnt (H.2.1 103) s (H.2.1 72 81).toInt.toNat : Nat) : Int) ≤ (H.2.1 101 (4 * s + 2)).toInt
def zJ (H : zp_H) : Prop := zJ_code H ∧ zJ_cnt H ∧ zJ_img H
theorem zJ_c {H H' : zp_H} (h : ∀ p k, zR_fz p k = true → H'.2.1 p k = H.2.1 p k) (hJ : zJ H) : zJ H' := by
  have e8 := h 72 8 rfl
  have e62 := h 72 62 rfl
  have e81 := h 72 81 rfl
  have f74 : H'.2.1 74 = H.2.1 74 := funext (fun k => h 74 k rfl)
  have f78 : H'.2.1 78 = H.2.1 78 := funext (fun k => h 78 k rfl)
  have f80 : H'.2.1 80 = H.2.1 80 := funext (fun k => h 80 k rfl)
  have f93 : H'.2.1 93 = H.2.1 93 := funext (fun k => h 93 k rfl)
  have f101 : H'.2.1 101 = H.2.1 101 := funext (fun k => h 101 k rfl)
  have f103 : H'.2.1 103 = H.2.1 103 := funext (fun k => h 103 k rfl)
  obtain ⟨h1, h2, h3⟩ := hJ
  refine ⟨?_, ?_, ?_⟩
  · unfold zJ_code
    rw [e8, f78, f80]
    exact h1
  · unfold zJ_cnt
    rw [e62, f74, f93]
    exact h2
  · unfold zJ_img
    rw [e81, f101, f103]
    exact h3
def zR_o (p : Nat) : Bool := match zB_sh[p]? with
  | some (.inl _) => true
  | _ => false
theorem zR_W : zk_W zR zg zJ zR_fz := by
  refine ⟨fun H H' _ h hJ => zJ_c (fun p k hf => (h p k hf).1) hJ, ?_, ?_, ?_, ?_, ?_, ?_, ⟨12, rfl⟩⟩
  · intro H H' h
    have a1 := (h 72 28 rfl).1
    have a2 := (h 72 30 rfl).1
    have a3 := (h 72 33 rfl).2
    unfold zg
    rw [a1, a2, a3]
  · intro H r hr
    have e : r = (-1, 20) := (Option.some.inj hr).symm
    rw [e]
    exact zg_in H
  · intro p k r hr
    have hp : p = 72 := by
      cases hb : Nat.beq 72 p with
      | true => exact (za_beq hb).symm
      | false =>
        have hr : zB_l2 zR_fr p k = some r := hr
        unfold zR_fr zB_l2 at hr
        rw [hb] at hr
        cases hr
    subst hp
    exact ⟨12, rfl⟩
  · intro c hc
    have hc : c ∈ zR_cd := hc
    unfold zR_cd at hc
    rcases List.mem_cons.mp hc with rfl | hc
    · exact ⟨⟨12, rfl⟩, by decide, by decide⟩
    · rcases List.mem_cons.mp hc with rfl | hc
      · exact ⟨⟨12, rfl⟩, by decide, by decide⟩
      · exact absurd hc List.not_mem_nil
  · intro p k h
    have h : (Nat.beq p 72).and _ = true := h
    have e := za_beq (Bool.and_eq_true_iff.mp h).1
    subst e
    exact ⟨12, rfl⟩
  · intro p k t n hp
    have hp : zB_sh[p]? = some (.inr (t, n)) := hp
    unfold zR_fz
    have hk : ∀ k, zk_inm zR_fl p k = false := by
      intro k
      cases hb : zk_inm zR_fl p k with
      | false => rfl
      | true =>
        obtain ⟨q, q1, q2⟩ := List.any_eq_true.mp hb
        have q3 := za_beq (Bool.and_eq_true_iff.mp q2).1
        have q4 : q.1 = 72 := by
          unfold zR_fl at q1
          rcases List.mem_cons.mp q1 with rfl | q1
          · rfl
          · rcases List.mem_cons.mp q1 with rfl | q1
            · rfl
            · rcases List.mem_cons.mp q1 with rfl | q1
              · rfl
              · exact absurd q1 List.not_mem_nil
        rw [← q3, q4] at hp
        cases hp
    rw [hk k, hk 0]
/-! what always holds, without the conditions -/
def zR0 : zk_B := (zB_sh, zB_l2 zB_rf, zB_l2 zR_fr, zB_al zR_ar, [], zB_gk)
theorem zR_dn {H : zp_H} (h : zk_Bs zR zg zJ H) : zk_Bs zR0 zg zJ H := ⟨h.1, h.2.1, h.2.2.1, h.2.2.2.1, h.2.2.2.2.1, h.2.2.2.2.2.1, fun c hc => absurd hc List.not_mem_nil, h.2.2.2.2.2.2.2⟩
def zR_cc (H : zp_H) : Prop := (H.2.1 72 23).toInt = 0 → (2 ≤ (H.2.1 72 34).toInt ∧ (H.2.1 72 34).toInt ≤ 8) ∧ 2 ≤ (H.2.1 72 35).toInt ∧ (H.2.1 72 35).toInt ≤ 8
theorem zR_up {H : zp_H} (h : zk_Bs zR0 zg zJ H) (hc : zR_cc H) : zk_Bs zR zg zJ H := by
  refine ⟨h.1, h.2.1, h.2.2.1, h.2.2.2.1, h.2.2.2.2.1, h.2.2.2.2.2.1, fun c hm => Or.inr ?_, h.2.2.2.2.2.2.2⟩
  have hm : c ∈ zR_cd := hm
  unfold zR_cd at hm
  rcases List.mem_cons.mp hm with rfl | hm
  · exact fun h9 => (hc h9).1
  · rcases List.mem_cons.mp hm with rfl | hm
    · exact fun h9 => (hc h9).2
    · exact absurd hm List.not_mem_nil
theorem zR_cn {H : zp_H} (h : zk_Bs zR zg zJ H) : zR_cc H := by
  intro h9
  have a := h.2.2.2.2.2.2.1 (72, 23, 0, 34, 2, 8) List.mem_cons_self
  have b := h.2.2.2.2.2.2.1 (72, 23, 0, 35, 2, 8) (List.mem_cons_of_mem _ List.mem_cons_self)
  rcases a with ⟨q, q1, _⟩ | a
  · exact absurd q1 List.not_mem_nil
  rcases b with ⟨q, q1, _⟩ | b
  · exact absurd q1 List.not_mem_nil
  exact ⟨a h9, b h9⟩
theorem zR_fr1 {H : zp_H} (h : zk_Bs zR0 zg zJ H) {k : Nat} {r : Int × Int} (hr : zB_l2 zR_fr 72 k = some r) (hk : Nat.beq k 100 = false) : r.1 ≤ (H.2.1 72 k).toInt ∧ (H.2.1 72 k).toInt ≤ r.2 := by
  rcases h.2.2.2.2.1 72 k r hr with ⟨q, q1, _⟩ | h9
  · exact absurd q1 List.not_mem_nil
  · have e : zk_fv zg H 72 k = (H.2.1 72 k).toInt := by
      unfold zk_fv
      rw [if_neg]
      rintro ⟨_, e⟩
      rw [e] at hk
      cases hk
    rw [e] at h9
    exact h9
theorem zR_ar1 {H : zp_H} (h : zk_Bs zR0 zg zJ H) {p t n i : Nat} {r : Int × Int} (hp : zB_sh[p]? = some (.inr (t, n))) (hi : i < n) (hr : (zB_al zR_ar p).2[i % (zB_al zR_ar p).1]? = some r) : r.1 ≤ (H.2.1 p i).toInt ∧ (H.2.1 p i).toInt ≤ r.2 := h.2.2.2.2.2.1 p t n i r hp hi hr
/-- a number is written into a field -/
theorem zR_putf {H : zp_H} (h : zk_Bs zR0 zg zJ H) {k : Nat} {x : Int32} (hr : ∀ r, zB_l2 zR_fr 72 k = some r → r.1 ≤ x.toInt ∧ x.toInt ≤ r.2) (hk : Nat.beq k 100 = false) (hJ : zJ (zw_I H 72 k x)) : zk_Bs zR0 zg zJ (zw_I H 72 k x) := by
  refine ⟨h.1, h.2.1, fun q hq => absurd hq List.not_mem_nil, fun q hq => absurd hq List.not_mem_nil, fun p j r hr' => Or.inr ?_, fun p t n i r hp hi hr' => ?_, fun c hc => absurd hc List.not_mem_nil, hJ⟩
  · rcases h.2.2.2.2.1 p j r hr' with ⟨q, q1, _⟩ | h9
    · exact absurd q1 List.not_mem_nil
    unfold zk_fv at h9 ⊢
    by_cases h1 : p = 72 ∧ j = 100
    · rw [if_pos h1]
      obtain ⟨e1, e2⟩ := h1
      subst e1 e2
      have e : r = (-1, 20) := (Option.some.inj hr').symm
      rw [e]
      exact zg_in _
    · rw [if_neg h1] at h9 ⊢
      by_cases h2 : p = 72 ∧ j = k
      · obtain ⟨e1, e2⟩ := h2
        subst e1 e2
        rw [zw_eq]
        exact hr r hr'
      · have e : (zw_I H 72 k x).2.1 p j = H.2.1 p j := zp_u_ne h2
        rw [e]
        exact h9
  · have e : (zw_I H 72 k x).2.1 p i = H.2.1 p i := zp_u_ne (fun h9 => by
      have hp : zB_sh[p]? = some (.inr (t, n)) := hp
      rw [h9.1] at hp
      cases hp)
    rw [e]
    exact h.2.2.2.2.2.1 p t n i r hp hi hr'
/-- a number is written into an array -/
theorem zR_puta {H : zp_H} (h : zk_Bs zR0 zg zJ H) {p j : Nat} {x : Int32} {t n : Nat} (hp : zB_sh[p]? = some (.inr (t, n))) (hr : ∀ r, (zB_al zR_ar p).2[j % (zB_al zR_ar p).1]? = some r → r.1 ≤ x.toInt ∧ x.toInt ≤ r.2) (hJ : zJ (zw_I H p j x)) : zk_Bs zR0 zg zJ (zw_I H p j x) := by
  have hne : p ≠ 72 := by
    rintro rfl
    cases hp
  refine ⟨h.1, h.2.1, fun q hq => absurd hq List.not_mem_nil, fun q hq => absurd hq List.not_mem_nil, fun p' j' r hr' => Or.inr ?_, fun p' t' n' i r hp' hi hr' => ?_, fun c hc => absurd hc List.not_mem_nil, hJ⟩
  · have hp72 : p' = 72 := by
      cases hb : Nat.beq 72 p' with
      | true => exact (za_beq hb).symm
      | false =>
        have hr' : zB_l2 zR_fr p' j' = some r := hr'
        unfold zR_fr zB_l2 at hr'
        rw [hb] at hr'
        cases hr'
    subst hp72
    rcases h.2.2.2.2.1 72 j' r hr' with ⟨q, q1, _⟩ | h9
    · exact absurd q1 List.not_mem_nil
    unfold zk_fv at h9 ⊢
    by_cases h1 : (72 : Nat) = 72 ∧ j' = 100
    · rw [if_pos h1]
      obtain ⟨_, e2⟩ := h1
      subst e2
      have e : r = (-1, 20) := (Option.some.inj hr').symm
      rw [e]
      exact zg_in _
    · rw [if_neg h1] at h9 ⊢
      have e : (zw_I H p j x).2.1 72 j' = H.2.1 72 j' := zp_u_ne (fun h9 => hne h9.1.symm)
      rw [e]
      exact h9
  · by_cases h2 : p' = p ∧ i = j
    · obtain ⟨e1, e2⟩ := h2
      subst e1 e2
      rw [zw_eq]
      exact hr r hr'
    · have e : (zw_I H p j x).2.1 p' i = H.2.1 p' i := zp_u_ne h2
      rw [e]
      exact h.2.2.2.2.2.1 p' t' n' i r hp' hi hr'
theorem zJ_I {H : zp_H} {p j : Nat} {x : Int32} (hf : zR_fz p j = false) (h : zJ H) : zJ (zw_I H p j x) := by
  refine zJ_c (fun q k hq => zp_u_ne (fun h9 => ?_)) h
  rw [h9.1, h9.2, hf] at hq
  cases hq
theorem zR_Wd {H : zp_H} (h : zk_Bs zR0 zg zJ H) : zw_W H := ⟨h.1, h.2.1⟩
