/-! ===== the reference: sea, what was read is taken ===== -/
theorem zT_J {H : zp_H} {x : Int64} (h : zk_Bs zR0 zg zT H) : zk_Bs zR0 zg zT (zw_J H 72 12 x) := by
  refine ⟨h.1, h.2.1, fun q hq => absurd hq List.not_mem_nil, fun q hq => absurd hq List.not_mem_nil, fun p j r hr => Or.inr ?_, h.2.2.2.2.2.1, fun c hc => absurd hc List.not_mem_nil, trivial⟩
  rcases h.2.2.2.2.1 p j r hr with ⟨q, q1, _⟩ | h9
  · exact absurd q1 List.not_mem_nil
  unfold zk_fv at h9 ⊢
  by_cases h1 : p = 72 ∧ j = 100
  · rw [if_pos h1]
    obtain ⟨e1, e2⟩ := h1
    subst e1 e2
    have e : r = (-1, 20) := (Option.some.inj hr).symm
    rw [e]
    exact zg_in _
  · rw [if_neg h1] at h9 ⊢
    exact h9

theorem zse_k {H : zp_H} {k : Nat} (hk : 12 ≤ k) : (zw_J (zw_I (zw_I (zw_I (zw_I (zw_I (zw_I (zw_I (zw_I (zw_I (zw_I (zw_I (H) 72 1 (H.2.1 72 34)) 72 2 (H.2.1 72 35)) 72 3 (H.2.1 72 36)) 72 4 (H.2.1 72 37)) 72 5 (H.2.1 72 38)) 72 6 (H.2.1 72 39)) 72 7 (H.2.1 72 40)) 72 8 (H.2.1 72 41)) 72 9 (H.2.1 72 42)) 72 10 (H.2.1 72 43)) 72 11 (H.2.1 72 44)) 72 12 ((zw_I (zw_I (zw_I (zw_I (zw_I (zw_I (zw_I (zw_I (zw_I (zw_I (zw_I (H) 72 1 (H.2.1 72 34)) 72 2 (H.2.1 72 35)) 72 3 (H.2.1 72 36)) 72 4 (H.2.1 72 37)) 72 5 (H.2.1 72 38)) 72 6 (H.2.1 72 39)) 72 7 (H.2.1 72 40)) 72 8 (H.2.1 72 41)) 72 9 (H.2.1 72 42)) 72 10 (H.2.1 72 43)) 72 11 (H.2.1 72 44)).2.2.1 72 51)).2.1 72 k = H.2.1 72 k := (zp_u_ne (fun h9 => by have := h9.2; omega)).trans ((zp_u_ne (fun h9 => by have := h9.2; omega)).trans ((zp_u_ne (fun h9 => by have := h9.2; omega)).trans ((zp_u_ne (fun h9 => by have := h9.2; omega)).trans ((zp_u_ne (fun h9 => by have := h9.2; omega)).trans ((zp_u_ne (fun h9 => by have := h9.2; omega)).trans ((zp_u_ne (fun h9 => by have := h9.2; omega)).trans ((zp_u_ne (fun h9 => by have := h9.2; omega)).trans ((zp_u_ne (fun h9 => by have := h9.2; omega)).trans ((zp_u_ne (fun h9 => by have := h9.2; omega)).trans (zp_u_ne (fun h9 => by have := h9.2; omega)))))))))))
theorem zse_p {H : zp_H} {p i : Nat} (hp : p ≠ 72) : (zw_J (zw_I (zw_I (zw_I (zw_I (zw_I (zw_I (zw_I (zw_I (zw_I (zw_I (zw_I (H) 72 1 (H.2.1 72 34)) 72 2 (H.2.1 72 35)) 72 3 (H.2.1 72 36)) 72 4 (H.2.1 72 37)) 72 5 (H.2.1 72 38)) 72 6 (H.2.1 72 39)) 72 7 (H.2.1 72 40)) 72 8 (H.2.1 72 41)) 72 9 (H.2.1 72 42)) 72 10 (H.2.1 72 43)) 72 11 (H.2.1 72 44)) 72 12 ((zw_I (zw_I (zw_I (zw_I (zw_I (zw_I (zw_I (zw_I (zw_I (zw_I (zw_I (H) 72 1 (H.2.1 72 34)) 72 2 (H.2.1 72 35)) 72 3 (H.2.1 72 36)) 72 4 (H.2.1 72 37)) 72 5 (H.2.1 72 38)) 72 6 (H.2.1 72 39)) 72 7 (H.2.1 72 40)) 72 8 (H.2.1 72 41)) 72 9 (H.2.1 72 42)) 72 10 (H.2.1 72 43)) 72 11 (H.2.1 72 44)).2.2.1 72 51)).2.1 p i = H.2.1 p i := (zp_u_ne (fun h9 => hp h9.1)).trans ((zp_u_ne (fun h9 => hp h9.1)).trans ((zp_u_ne (fun h9 => hp h9.1)).trans ((zp_u_ne (fun h9 => hp h9.1)).trans ((zp_u_ne (fun h9 => hp h9.1)).trans ((zp_u_ne (fun h9 => hp h9.1)).trans ((zp_u_ne (fun h9 => hp h9.1)).trans ((zp_u_ne (fun h9 => hp h9.1)).trans ((zp_u_ne (fun h9 => hp h9.1)).trans ((zp_u_ne (fun h9 => hp h9.1)).trans (zp_u_ne (fun h9 => hp h9.1)))))))))))
set_option maxRecDepth 8000 in
set_option maxHeartbeats 1000000 in
theorem zse_fin {L : Nat} {σ : Nat → Int32} {d : Nat} {H0 : zp_H} : zse_G L σ (d + 1) H0 := by
  intro H lv hI hg l0
  obtain ⟨hB, hF, h45, h22, hg0⟩ := hI
  obtain ⟨hJn, _⟩ := hg0 hg
  have hJ := hB.2.2.2.2.2.2.2
  have hcc := zR_cn hB hg
  have W := zR_Wd (zR_dn hB)
  have b0 := zT_dn hB
  have d0 := zT_putf (k := 1) (x := H.2.1 72 34) b0 (fun r hr => by cases hr; exact hcc.1) rfl trivial
  have d1 := zT_putf (k := 2) (x := H.2.1 72 35) d0 (fun r hr => by cases hr; exact hcc.2) rfl trivial
  have d2 := zT_putf (k := 3) (x := H.2.1 72 36) d1 (fun r hr => by cases hr) rfl trivial
  have d3 := zT_putf (k := 4) (x := H.2.1 72 37) d2 (fun r hr => by cases hr) rfl trivial
  have d4 := zT_putf (k := 5) (x := H.2.1 72 38) d3 (fun r hr => by cases hr; exact zT_fr1 b0 (k := 38) (r := (0, 8)) rfl rfl) rfl trivial
  have d5 := zT_putf (k := 6) (x := H.2.1 72 39) d4 (fun r hr => by cases hr; exact zT_fr1 b0 (k := 39) (r := (0, 5)) rfl rfl) rfl trivial
  have d6 := zT_putf (k := 7) (x := H.2.1 72 40) d5 (fun r hr => by cases hr; exact zT_fr1 b0 (k := 40) (r := (0, 4)) rfl rfl) rfl trivial
  have d7 := zT_putf (k := 8) (x := H.2.1 72 41) d6 (fun r hr => by cases hr; exact zT_fr1 b0 (k := 41) (r := (0, 8)) rfl rfl) rfl trivial
  have d8 := zT_putf (k := 9) (x := H.2.1 72 42) d7 (fun r hr => by cases hr; exact zT_fr1 b0 (k := 42) (r := (0, 63)) rfl rfl) rfl trivial
  have d9 := zT_putf (k := 10) (x := H.2.1 72 43) d8 (fun r hr => by cases hr) rfl trivial
  have d10 := zT_putf (k := 11) (x := H.2.1 72 44) d9 (fun r hr => by cases hr) rfl trivial
  have dJ := zT_J (x := (zw_I (zw_I (zw_I (zw_I (zw_I (zw_I (zw_I (zw_I (zw_I (zw_I (zw_I (H) 72 1 (H.2.1 72 34)) 72 2 (H.2.1 72 35)) 72 3 (H.2.1 72 36)) 72 4 (H.2.1 72 37)) 72 5 (H.2.1 72 38)) 72 6 (H.2.1 72 39)) 72 7 (H.2.1 72 40)) 72 8 (H.2.1 72 41)) 72 9 (H.2.1 72 42)) 72 10 (H.2.1 72 43)) 72 11 (H.2.1 72 44)).2.2.1 72 51) d10
  refine zw_ld (n := 1) (k := 0) (f := zp_isR) (pc' := 213) rfl rfl l0 rfl rfl ?_
  refine zw_ld (n := 1) (k := 0) (f := zp_isR) (pc' := 214) rfl rfl l0 rfl rfl ?_
  refine zw_gI (q := 72) (pc' := 217) W rfl rfl rfl rfl rfl rfl ?_
  refine zw_pI (q := 72) (pc' := 220) W rfl rfl rfl rfl rfl rfl ?_
  refine zw_ld (n := 1) (k := 0) (f := zp_isR) (pc' := 221) rfl rfl l0 rfl rfl ?_
  refine zw_ld (n := 1) (k := 0) (f := zp_isR) (pc' := 222) rfl rfl l0 rfl rfl ?_
  refine zw_gI (q := 72) (pc' := 225) W rfl rfl rfl rfl (zw_ne rfl rfl) rfl ?_
  refine zw_pI (q := 72) (pc' := 228) W rfl rfl rfl rfl rfl rfl ?_
  refine zw_ld (n := 1) (k := 0) (f := zp_isR) (pc' := 229) rfl rfl l0 rfl rfl ?_
  refine zw_ld (n := 1) (k := 0) (f := zp_isR) (pc' := 230) rfl rfl l0 rfl rfl ?_
  refine zw_gI (q := 72) (pc' := 233) W rfl rfl rfl rfl (zw_ne (zw_ne rfl rfl) rfl) rfl ?_
  refine zw_pI (q := 72) (pc' := 236) W rfl rfl rfl rfl rfl rfl ?_
  refine zw_ld (n := 1) (k := 0) (f := zp_isR) (pc' := 237) rfl rfl l0 rfl rfl ?_
  refine zw_ld (n := 1) (k := 0) (f := zp_isR) (pc' := 238) rfl rfl l0 rfl rfl ?_
  refine zw_gI (q := 72) (pc' := 241) W rfl rfl rfl rfl (zw_ne (zw_ne (zw_ne rfl rfl) rfl) rfl) rfl ?_
  refine zw_pI (q := 72) (pc' := 244) W rfl rfl rfl rfl rfl rfl ?_
  refine zw_ld (n := 1) (k := 0) (f := zp_isR) (pc' := 245) rfl rfl l0 rfl rfl ?_
  refine zw_ld (n := 1) (k := 0) (f := zp_isR) (pc' := 246) rfl rfl l0 rfl rfl ?_
  refine zw_gI (q := 72) (pc' := 249) W rfl rfl rfl rfl (zw_ne (zw_ne (zw_ne (zw_ne rfl rfl) rfl) rfl) rfl) rfl ?_
  refine zw_pI (q := 72) (pc' := 252) W rfl rfl rfl rfl rfl rfl ?_
  refine zw_ld (n := 1) (k := 0) (f := zp_isR) (pc' := 253) rfl rfl l0 rfl rfl ?_
  refine zw_ld (n := 1) (k := 0) (f := zp_isR) (pc' := 254) rfl rfl l0 rfl rfl ?_
  refine zw_gI (q := 72) (pc' := 257) W rfl rfl rfl rfl (zw_ne (zw_ne (zw_ne (zw_ne (zw_ne rfl rfl) rfl) rfl) rfl) rfl) rfl ?_
  refine zw_pI (q := 72) (pc' := 260) W rfl rfl rfl rfl rfl rfl ?_
  refine zw_ld (n := 1) (k := 0) (f := zp_isR) (pc' := 261) rfl rfl l0 rfl rfl ?_
  refine zw_ld (n := 1) (k := 0) (f := zp_isR) (pc' := 262) rfl rfl l0 rfl rfl ?_
  refine zw_gI (q := 72) (pc' := 265) W rfl rfl rfl rfl (zw_ne (zw_ne (zw_ne (zw_ne (zw_ne (zw_ne rfl rfl) rfl) rfl) rfl) rfl) rfl) rfl ?_
  refine zw_pI (q := 72) (pc' := 268) W rfl rfl rfl rfl rfl rfl ?_
  refine zw_ld (n := 1) (k := 0) (f := zp_isR) (pc' := 269) rfl rfl l0 rfl rfl ?_
  refine zw_ld (n := 1) (k := 0) (f := zp_isR) (pc' := 270) rfl rfl l0 rfl rfl ?_
  refine zw_gI (q := 72) (pc' := 273) W rfl rfl rfl rfl (zw_ne (zw_ne (zw_ne (zw_ne (zw_ne (zw_ne (zw_ne rfl rfl) rfl) rfl) rfl) rfl) rfl) rfl) rfl ?_
  refine zw_pI (q := 72) (pc' := 276) W rfl rfl rfl rfl rfl rfl ?_
  refine zw_ld (n := 1) (k := 0) (f := zp_isR) (pc' := 277) rfl rfl l0 rfl rfl ?_
  refine zw_ld (n := 1) (k := 0) (f := zp_isR) (pc' := 278) rfl rfl l0 rfl rfl ?_
  refine zw_gI (q := 72) (pc' := 281) W rfl rfl rfl rfl (zw_ne (zw_ne (zw_ne (zw_ne (zw_ne (zw_ne (zw_ne (zw_ne rfl rfl) rfl) rfl) rfl) rfl) rfl) rfl) rfl) rfl ?_
  refine zw_pI (q := 72) (pc' := 284) W rfl rfl rfl rfl rfl rfl ?_
  refine zw_ld (n := 1) (k := 0) (f := zp_isR) (pc' := 285) rfl rfl l0 rfl rfl ?_
  refine zw_ld (n := 1) (k := 0) (f := zp_isR) (pc' := 286) rfl rfl l0 rfl rfl ?_
  refine zw_gI (q := 72) (pc' := 289) W rfl rfl rfl rfl (zw_ne (zw_ne (zw_ne (zw_ne (zw_ne (zw_ne (zw_ne (zw_ne (zw_ne rfl rfl) rfl) rfl) rfl) rfl) rfl) rfl) rfl) rfl) rfl ?_
  refine zw_pI (q := 72) (pc' := 292) W rfl rfl rfl rfl rfl rfl ?_
  refine zw_ld (n := 1) (k := 0) (f := zp_isR) (pc' := 293) rfl rfl l0 rfl rfl ?_
  refine zw_ld (n := 1) (k := 0) (f := zp_isR) (pc' := 294) rfl rfl l0 rfl rfl ?_
  refine zw_gI (q := 72) (pc' := 297) W rfl rfl rfl rfl (zw_ne (zw_ne (zw_ne (zw_ne (zw_ne (zw_ne (zw_ne (zw_ne (zw_ne (zw_ne rfl rfl) rfl) rfl) rfl) rfl) rfl) rfl) rfl) rfl) rfl) rfl ?_
  refine zw_pI (q := 72) (pc' := 300) W rfl rfl rfl rfl rfl rfl ?_
  refine zw_ld (n := 1) (k := 0) (f := zp_isR) (pc' := 301) rfl rfl l0 rfl rfl ?_
  refine zw_ld (n := 1) (k := 0) (f := zp_isR) (pc' := 302) rfl rfl l0 rfl rfl ?_
  refine zw_gL (q := 72) (pc' := 305) W rfl rfl rfl rfl rfl ?_
  refine zw_pL (q := 72) (pc' := 308) W rfl rfl rfl rfl rfl rfl ?_
  have F1 : zf_72 H0 (zw_J (zw_I (zw_I (zw_I (zw_I (zw_I (zw_I (zw_I (zw_I (zw_I (zw_I (zw_I (H) 72 1 (H.2.1 72 34)) 72 2 (H.2.1 72 35)) 72 3 (H.2.1 72 36)) 72 4 (H.2.1 72 37)) 72 5 (H.2.1 72 38)) 72 6 (H.2.1 72 39)) 72 7 (H.2.1 72 40)) 72 8 (H.2.1 72 41)) 72 9 (H.2.1 72 42)) 72 10 (H.2.1 72 43)) 72 11 (H.2.1 72 44)) 72 12 ((zw_I (zw_I (zw_I (zw_I (zw_I (zw_I (zw_I (zw_I (zw_I (zw_I (zw_I (H) 72 1 (H.2.1 72 34)) 72 2 (H.2.1 72 35)) 72 3 (H.2.1 72 36)) 72 4 (H.2.1 72 37)) 72 5 (H.2.1 72 38)) 72 6 (H.2.1 72 39)) 72 7 (H.2.1 72 40)) 72 8 (H.2.1 72 41)) 72 9 (H.2.1 72 42)) 72 10 (H.2.1 72 43)) 72 11 (H.2.1 72 44)).2.2.1 72 51)) := zf_J (zf_I (zf_I (zf_I (zf_I (zf_I (zf_I (zf_I (zf_I (zf_I (zf_I (zf_I (hF) rfl) rfl) rfl) rfl) rfl) rfl) rfl) rfl) rfl) rfl) rfl) rfl
  have g8 : (zw_J (zw_I (zw_I (zw_I (zw_I (zw_I (zw_I (zw_I (zw_I (zw_I (zw_I (zw_I (H) 72 1 (H.2.1 72 34)) 72 2 (H.2.1 72 35)) 72 3 (H.2.1 72 36)) 72 4 (H.2.1 72 37)) 72 5 (H.2.1 72 38)) 72 6 (H.2.1 72 39)) 72 7 (H.2.1 72 40)) 72 8 (H.2.1 72 41)) 72 9 (H.2.1 72 42)) 72 10 (H.2.1 72 43)) 72 11 (H.2.1 72 44)) 72 12 ((zw_I (zw_I (zw_I (zw_I (zw_I (zw_I (zw_I (zw_I (zw_I (zw_I (zw_I (H) 72 1 (H.2.1 72 34)) 72 2 (H.2.1 72 35)) 72 3 (H.2.1 72 36)) 72 4 (H.2.1 72 37)) 72 5 (H.2.1 72 38)) 72 6 (H.2.1 72 39)) 72 7 (H.2.1 72 40)) 72 8 (H.2.1 72 41)) 72 9 (H.2.1 72 42)) 72 10 (H.2.1 72 43)) 72 11 (H.2.1 72 44)).2.2.1 72 51)).2.1 72 8 = H.2.1 72 41 := zw_nj (zw_ne (zw_ne (zw_ne zw_eq rfl) rfl) rfl)
  have gk : ∀ k, 12 ≤ k → (zw_J (zw_I (zw_I (zw_I (zw_I (zw_I (zw_I (zw_I (zw_I (zw_I (zw_I (zw_I (H) 72 1 (H.2.1 72 34)) 72 2 (H.2.1 72 35)) 72 3 (H.2.1 72 36)) 72 4 (H.2.1 72 37)) 72 5 (H.2.1 72 38)) 72 6 (H.2.1 72 39)) 72 7 (H.2.1 72 40)) 72 8 (H.2.1 72 41)) 72 9 (H.2.1 72 42)) 72 10 (H.2.1 72 43)) 72 11 (H.2.1 72 44)) 72 12 ((zw_I (zw_I (zw_I (zw_I (zw_I (zw_I (zw_I (zw_I (zw_I (zw_I (zw_I (H) 72 1 (H.2.1 72 34)) 72 2 (H.2.1 72 35)) 72 3 (H.2.1 72 36)) 72 4 (H.2.1 72 37)) 72 5 (H.2.1 72 38)) 72 6 (H.2.1 72 39)) 72 7 (H.2.1 72 40)) 72 8 (H.2.1 72 41)) 72 9 (H.2.1 72 42)) 72 10 (H.2.1 72 43)) 72 11 (H.2.1 72 44)).2.2.1 72 51)).2.1 72 k = H.2.1 72 k := fun k hk => (by exact zse_k hk)
  have gp : ∀ p, p ≠ 72 → (zw_J (zw_I (zw_I (zw_I (zw_I (zw_I (zw_I (zw_I (zw_I (zw_I (zw_I (zw_I (H) 72 1 (H.2.1 72 34)) 72 2 (H.2.1 72 35)) 72 3 (H.2.1 72 36)) 72 4 (H.2.1 72 37)) 72 5 (H.2.1 72 38)) 72 6 (H.2.1 72 39)) 72 7 (H.2.1 72 40)) 72 8 (H.2.1 72 41)) 72 9 (H.2.1 72 42)) 72 10 (H.2.1 72 43)) 72 11 (H.2.1 72 44)) 72 12 ((zw_I (zw_I (zw_I (zw_I (zw_I (zw_I (zw_I (zw_I (zw_I (zw_I (zw_I (H) 72 1 (H.2.1 72 34)) 72 2 (H.2.1 72 35)) 72 3 (H.2.1 72 36)) 72 4 (H.2.1 72 37)) 72 5 (H.2.1 72 38)) 72 6 (H.2.1 72 39)) 72 7 (H.2.1 72 40)) 72 8 (H.2.1 72 41)) 72 9 (H.2.1 72 42)) 72 10 (H.2.1 72 43)) 72 11 (H.2.1 72 44)).2.2.1 72 51)).2.1 p = H.2.1 p := fun p hp => funext (fun i => zse_p hp)
  have WK : zw_W (zw_J (zw_I (zw_I (zw_I (zw_I (zw_I (zw_I (zw_I (zw_I (zw_I (zw_I (zw_I (H) 72 1 (H.2.1 72 34)) 72 2 (H.2.1 72 35)) 72 3 (H.2.1 72 36)) 72 4 (H.2.1 72 37)) 72 5 (H.2.1 72 38)) 72 6 (H.2.1 72 39)) 72 7 (H.2.1 72 40)) 72 8 (H.2.1 72 41)) 72 9 (H.2.1 72 42)) 72 10 (H.2.1 72 43)) 72 11 (H.2.1 72 44)) 72 12 ((zw_I (zw_I (zw_I (zw_I (zw_I (zw_I (zw_I (zw_I (zw_I (zw_I (zw_I (H) 72 1 (H.2.1 72 34)) 72 2 (H.2.1 72 35)) 72 3 (H.2.1 72 36)) 72 4 (H.2.1 72 37)) 72 5 (H.2.1 72 38)) 72 6 (H.2.1 72 39)) 72 7 (H.2.1 72 40)) 72 8 (H.2.1 72 41)) 72 9 (H.2.1 72 42)) 72 10 (H.2.1 72 43)) 72 11 (H.2.1 72 44)).2.2.1 72 51)) := W
  generalize hK : zw_J (zw_I (zw_I (zw_I (zw_I (zw_I (zw_I (zw_I (zw_I (zw_I (zw_I (zw_I (H) 72 1 (H.2.1 72 34)) 72 2 (H.2.1 72 35)) 72 3 (H.2.1 72 36)) 72 4 (H.2.1 72 37)) 72 5 (H.2.1 72 38)) 72 6 (H.2.1 72 39)) 72 7 (H.2.1 72 40)) 72 8 (H.2.1 72 41)) 72 9 (H.2.1 72 42)) 72 10 (H.2.1 72 43)) 72 11 (H.2.1 72 44)) 72 12 ((zw_I (zw_I (zw_I (zw_I (zw_I (zw_I (zw_I (zw_I (zw_I (zw_I (zw_I (H) 72 1 (H.2.1 72 34)) 72 2 (H.2.1 72 35)) 72 3 (H.2.1 72 36)) 72 4 (H.2.1 72 37)) 72 5 (H.2.1 72 38)) 72 6 (H.2.1 72 39)) 72 7 (H.2.1 72 40)) 72 8 (H.2.1 72 41)) 72 9 (H.2.1 72 42)) 72 10 (H.2.1 72 43)) 72 11 (H.2.1 72 44)).2.2.1 72 51) = K at dJ F1 g8 gk gp WK ⊢
  refine zw_ld (n := 1) (k := 0) (f := zp_isR) (pc' := 309) rfl rfl l0 rfl rfl ?_
  refine zw_ld (n := 1) (k := 0) (f := zp_isR) (pc' := 310) rfl rfl l0 rfl rfl ?_
  refine zw_gR (q := 72) (pc' := 313) WK rfl rfl rfl rfl (WK.2 72 52 _ rfl) rfl ?_
  refine zw_ld (n := 1) (k := 0) (f := zp_isR) (pc' := 314) rfl rfl l0 rfl rfl ?_
  refine zw_gR (q := 72) (pc' := 317) WK rfl rfl rfl rfl (WK.2 72 13 _ rfl) rfl ?_
  refine zw_cn (pc' := 320) (zw_cv (q := 72) (Y := zm_204) WK.1 rfl rfl zm_204_t rfl rfl) rfl rfl rfl rfl rfl (zc_copies (H := K) (q1 := 83) (q2 := 73) (n := 64) WK rfl rfl (by decide) (by decide) rfl) ?_
  refine zw_ld (n := 1) (k := 0) (f := zp_isR) (pc' := 321) rfl rfl l0 rfl rfl ?_
  refine zw_ld (n := 1) (k := 0) (f := zp_isR) (pc' := 322) rfl rfl l0 rfl rfl ?_
  refine zw_gR (q := 72) (pc' := 325) WK rfl rfl rfl rfl (WK.2 72 53 _ rfl) rfl ?_
  refine zw_ld (n := 1) (k := 0) (f := zp_isR) (pc' := 326) rfl rfl l0 rfl rfl ?_
  refine zw_gR (q := 72) (pc' := 329) WK rfl rfl rfl rfl (WK.2 72 14 _ rfl) rfl ?_
  refine zw_cn (pc' := 332) (zw_cv (q := 72) (Y := zm_204) WK.1 rfl rfl zm_204_t rfl rfl) rfl rfl rfl rfl rfl (zc_copies (H := zc_k (K) 83 73 64) (q1 := 84) (q2 := 74) (n := 32) WK rfl rfl (by decide) (by decide) rfl) ?_
  refine zw_ld (n := 1) (k := 0) (f := zp_isR) (pc' := 333) rfl rfl l0 rfl rfl ?_
  refine zw_ld (n := 1) (k := 0) (f := zp_isR) (pc' := 334) rfl rfl l0 rfl rfl ?_
  refine zw_gR (q := 72) (pc' := 337) WK rfl rfl rfl rfl (WK.2 72 54 _ rfl) rfl ?_
  refine zw_ld (n := 1) (k := 0) (f := zp_isR) (pc' := 338) rfl rfl l0 rfl rfl ?_
  refine zw_gR (q := 72) (pc' := 341) WK rfl rfl rfl rfl (WK.2 72 15 _ rfl) rfl ?_
  refine zw_cn (pc' := 344) (zw_cv (q := 72) (Y := zm_204) WK.1 rfl rfl zm_204_t rfl rfl) rfl rfl rfl rfl rfl (zc_copies (H := zc_k (zc_k (K) 83 73 64) 84 74 32) (q1 := 85) (q2 := 75) (n := 128) WK rfl rfl (by decide) (by decide) rfl) ?_
  refine zw_ld (n := 1) (k := 0) (f := zp_isR) (pc' := 345) rfl rfl l0 rfl rfl ?_
  refine zw_ld (n := 1) (k := 0) (f := zp_isR) (pc' := 346) rfl rfl l0 rfl rfl ?_
  refine zw_gR (q := 72) (pc' := 349) WK rfl rfl rfl rfl (WK.2 72 55 _ rfl) rfl ?_
  refine zw_ld (n := 1) (k := 0) (f := zp_isR) (pc' := 350) rfl rfl l0 rfl rfl ?_
  refine zw_gR (q := 72) (pc' := 353) WK rfl rfl rfl rfl (WK.2 72 16 _ rfl) rfl ?_
  refine zw_cn (pc' := 356) (zw_cv (q := 72) (Y := zm_204) WK.1 rfl rfl zm_204_t rfl rfl) rfl rfl rfl rfl rfl (zc_copies (H := zc_k (zc_k (zc_k (K) 83 73 64) 84 74 32) 85 75 128) (q1 := 86) (q2 := 76) (n := 20) WK rfl rfl (by decide) (by decide) rfl) ?_
  refine zw_ld (n := 1) (k := 0) (f := zp_isR) (pc' := 357) rfl rfl l0 rfl rfl ?_
  refine zw_ld (n := 1) (k := 0) (f := zp_isR) (pc' := 358) rfl rfl l0 rfl rfl ?_
  refine zw_gR (q := 72) (pc' := 361) WK rfl rfl rfl rfl (WK.2 72 56 _ rfl) rfl ?_
  refine zw_ld (n := 1) (k := 0) (f := zp_isR) (pc' := 362) rfl rfl l0 rfl rfl ?_
  refine zw_gR (q := 72) (pc' := 365) WK rfl rfl rfl rfl (WK.2 72 17 _ rfl) rfl ?_
  refine zw_cn (pc' := 368) (zw_cv (q := 72) (Y := zm_204) WK.1 rfl rfl zm_204_t rfl rfl) rfl rfl rfl rfl rfl (zc_copies (H := zc_k (zc_k (zc_k (zc_k (K) 83 73 64) 84 74 32) 85 75 128) 86 76 20) (q1 := 87) (q2 := 77) (n := 12) WK rfl rfl (by decide) (by decide) rfl) ?_
  refine zw_ld (n := 1) (k := 0) (f := zp_isR) (pc' := 369) rfl rfl l0 rfl rfl ?_
  refine zw_ld (n := 1) (k := 0) (f := zp_isR) (pc' := 370) rfl rfl l0 rfl rfl ?_
  refine zw_gR (q := 72) (pc' := 373) WK rfl rfl rfl rfl (WK.2 72 57 _ rfl) rfl ?_
  refine zw_ld (n := 1) (k := 0) (f := zp_isR) (pc' := 374) rfl rfl l0 rfl rfl ?_
  refine zw_gR (q := 72) (pc' := 377) WK rfl rfl rfl rfl (WK.2 72 18 _ rfl) rfl ?_
  refine zw_cn (pc' := 380) (zw_cv (q := 72) (Y := zm_204) WK.1 rfl rfl zm_204_t rfl rfl) rfl rfl rfl rfl rfl (zc_copies (H := zc_k (zc_k (zc_k (zc_k (zc_k (K) 83 73 64) 84 74 32) 85 75 128) 86 76 20) 87 77 12) (q1 := 88) (q2 := 78) (n := 8) WK rfl rfl (by decide) (by decide) rfl) ?_
  refine zw_ld (n := 1) (k := 0) (f := zp_isR) (pc' := 381) rfl rfl l0 rfl rfl ?_
  refine zw_ld (n := 1) (k := 0) (f := zp_isR) (pc' := 382) rfl rfl l0 rfl rfl ?_
  refine zw_gR (q := 72) (pc' := 385) WK rfl rfl rfl rfl (WK.2 72 58 _ rfl) rfl ?_
  refine zw_ld (n := 1) (k := 0) (f := zp_isR) (pc' := 386) rfl rfl l0 rfl rfl ?_
  refine zw_gR (q := 72) (pc' := 389) WK rfl rfl rfl rfl (WK.2 72 19 _ rfl) rfl ?_
  refine zw_cn (pc' := 392) (zw_cv (q := 72) (Y := zm_204) WK.1 rfl rfl zm_204_t rfl rfl) rfl rfl rfl rfl rfl (zc_copies (H := zc_k (zc_k (zc_k (zc_k (zc_k (zc_k (K) 83 73 64) 84 74 32) 85 75 128) 86 76 20) 87 77 12) 88 78 8) (q1 := 89) (q2 := 79) (n := 8) WK rfl rfl (by decide) (by decide) rfl) ?_
  refine zw_ld (n := 1) (k := 0) (f := zp_isR) (pc' := 393) rfl rfl l0 rfl rfl ?_
  refine zw_ld (n := 1) (k := 0) (f := zp_isR) (pc' := 394) rfl rfl l0 rfl rfl ?_
  refine zw_gR (q := 72) (pc' := 397) WK rfl rfl rfl rfl (WK.2 72 59 _ rfl) rfl ?_
  refine zw_ld (n := 1) (k := 0) (f := zp_isR) (pc' := 398) rfl rfl l0 rfl rfl ?_
  refine zw_gR (q := 72) (pc' := 401) WK rfl rfl rfl rfl (WK.2 72 20 _ rfl) rfl ?_
  refine zw_cn (pc' := 404) (zw_cv (q := 72) (Y := zm_204) WK.1 rfl rfl zm_204_t rfl rfl) rfl rfl rfl rfl rfl (zc_copies (H := zc_k (zc_k (zc_k (zc_k (zc_k (zc_k (zc_k (K) 83 73 64) 84 74 32) 85 75 128) 86 76 20) 87 77 12) 88 78 8) 89 79 8) (q1 := 90) (q2 := 80) (n := 1600) WK rfl rfl (by decide) (by decide) rfl) ?_
  have e0 := (zc_B (q1 := 90) (q2 := 80) (n := 1600) (zc_B (q1 := 89) (q2 := 79) (n := 8) (zc_B (q1 := 88) (q2 := 78) (n := 8) (zc_B (q1 := 87) (q2 := 77) (n := 12) (zc_B (q1 := 86) (q2 := 76) (n := 20) (zc_B (q1 := 85) (q2 := 75) (n := 128) (zc_B (q1 := 84) (q2 := 74) (n := 32) (zc_B (q1 := 83) (q2 := 73) (n := 64) dJ rfl rfl rfl) rfl rfl rfl) rfl rfl rfl) rfl rfl rfl) rfl rfl rfl) rfl rfl rfl) rfl rfl rfl) rfl rfl rfl)
  have F2 : zf_72 H0 (zc_k (zc_k (zc_k (zc_k (zc_k (zc_k (zc_k (zc_k (K) 83 73 64) 84 74 32) 85 75 128) 86 76 20) 87 77 12) 88 78 8) 89 79 8) 90 80 1600) := zf_c (zf_c (zf_c (zf_c (zf_c (zf_c (zf_c (zf_c (F1) rfl) rfl) rfl) rfl) rfl) rfl) rfl) rfl
  have c72 : ∀ k, (zc_k (zc_k (zc_k (zc_k (zc_k (zc_k (zc_k (zc_k (K) 83 73 64) 84 74 32) 85 75 128) 86 76 20) 87 77 12) 88 78 8) 89 79 8) 90 80 1600).2.1 72 k = K.2.1 72 k := fun k => ((zc_ne (by decide)).trans ((zc_ne (by decide)).trans ((zc_ne (by decide)).trans ((zc_ne (by decide)).trans ((zc_ne (by decide)).trans ((zc_ne (by decide)).trans ((zc_ne (by decide)).trans ((zc_ne (by decide)).trans rfl))))))))
  have c78 : ∀ i, i < 8 → (zc_k (zc_k (zc_k (zc_k (zc_k (zc_k (zc_k (zc_k (K) 83 73 64) 84 74 32) 85 75 128) 86 76 20) 87 77 12) 88 78 8) 89 79 8) 90 80 1600).2.1 78 i = K.2.1 88 i := fun i hi => (zc_ne (by decide)).trans ((zc_ne (by decide)).trans ((zc_eq hi).trans ((zc_ne (by decide)).trans ((zc_ne (by decide)).trans ((zc_ne (by decide)).trans ((zc_ne (by decide)).trans ((zc_ne (by decide)).trans rfl)))))))
  have c80 : ∀ i, i < 1600 → (zc_k (zc_k (zc_k (zc_k (zc_k (zc_k (zc_k (zc_k (K) 83 73 64) 84 74 32) 85 75 128) 86 76 20) 87 77 12) 88 78 8) 89 79 8) 90 80 1600).2.1 80 i = K.2.1 90 i := fun i hi => (zc_eq hi).trans ((zc_ne (by decide)).trans ((zc_ne (by decide)).trans ((zc_ne (by decide)).trans ((zc_ne (by decide)).trans ((zc_ne (by decide)).trans ((zc_ne (by decide)).trans ((zc_ne (by decide)).trans rfl)))))))
  have c101 : ∀ i, (zc_k (zc_k (zc_k (zc_k (zc_k (zc_k (zc_k (zc_k (K) 83 73 64) 84 74 32) 85 75 128) 86 76 20) 87 77 12) 88 78 8) 89 79 8) 90 80 1600).2.1 101 i = K.2.1 101 i := fun i => ((zc_ne (by decide)).trans ((zc_ne (by decide)).trans ((zc_ne (by decide)).trans ((zc_ne (by decide)).trans ((zc_ne (by decide)).trans ((zc_ne (by decide)).trans ((zc_ne (by decide)).trans ((zc_ne (by decide)).trans rfl))))))))
  have c103 : ∀ i, (zc_k (zc_k (zc_k (zc_k (zc_k (zc_k (zc_k (zc_k (K) 83 73 64) 84 74 32) 85 75 128) 86 76 20) 87 77 12) 88 78 8) 89 79 8) 90 80 1600).2.1 103 i = K.2.1 103 i := fun i => ((zc_ne (by decide)).trans ((zc_ne (by decide)).trans ((zc_ne (by decide)).trans ((zc_ne (by decide)).trans ((zc_ne (by decide)).trans ((zc_ne (by decide)).trans ((zc_ne (by decide)).trans ((zc_ne (by decide)).trans rfl))))))))
  have WQ : zw_W (zc_k (zc_k (zc_k (zc_k (zc_k (zc_k (zc_k (zc_k (K) 83 73 64) 84 74 32) 85 75 128) 86 76 20) 87 77 12) 88 78 8) 89 79 8) 90 80 1600) := WK
  generalize hQ : zc_k (zc_k (zc_k (zc_k (zc_k (zc_k (zc_k (zc_k (K) 83 73 64) 84 74 32) 85 75 128) 86 76 20) 87 77 12) 88 78 8) 89 79 8) 90 80 1600 = Q at e0 F2 c72 c78 c80 c101 c103 WQ ⊢
  refine zw_ld (n := 1) (k := 0) (f := zp_isR) (pc' := 405) rfl rfl l0 rfl rfl ?_
  refine zw_s (pc' := 406) rfl rfl ?_
  refine zw_pI (q := 72) (pc' := 409) WQ rfl rfl rfl rfl rfl rfl ?_
  refine zw_ld (n := 1) (k := 0) (f := zp_isR) (pc' := 410) rfl rfl l0 rfl rfl ?_
  refine zw_s (pc' := 411) rfl rfl ?_
  refine zw_pI (q := 72) (pc' := 414) WQ rfl rfl rfl rfl rfl rfl ?_
  refine zw_ld (n := 1) (k := 0) (f := zp_isR) (pc' := 415) rfl rfl l0 rfl rfl ?_
  refine zw_s (pc' := 416) rfl rfl ?_
  refine zw_pI (q := 72) (pc' := 419) WQ rfl rfl rfl rfl (rfl) rfl ?_
  refine zw_s (pc' := 420) rfl rfl ?_
  refine zw_ri rfl rfl ?_
  have p1 := zT_putf (k := 62) (x := Int32.ofInt 0) e0 (fun r hr => by cases hr; exact ⟨by decide, by decide⟩) rfl trivial
  have p2 := zT_putf (k := 79) (x := Int32.ofInt (-1)) p1 (fun r hr => by cases hr; exact ⟨by decide, by decide⟩) rfl trivial
  have p3 := zT_putf (k := 80) (x := Int32.ofInt 0) p2 (fun r hr => by cases hr; exact ⟨by decide, by decide⟩) rfl trivial
  have F3 : zf_72 H0 (zw_I (zw_I (zw_I Q 72 62 (Int32.ofInt 0)) 72 79 (Int32.ofInt (-1))) 72 80 (Int32.ofInt 0)) := zf_I (zf_I (zf_I F2 rfl) rfl) rfl
  have z62 : (zw_I (zw_I (zw_I Q 72 62 (Int32.ofInt 0)) 72 79 (Int32.ofInt (-1))) 72 80 (Int32.ofInt 0)).2.1 72 62 = Int32.ofInt 0 := zw_ne (zw_ne zw_eq rfl) rfl
  have zk : ∀ k, Nat.beq k 62 = false → Nat.beq k 79 = false → Nat.beq k 80 = false → (zw_I (zw_I (zw_I Q 72 62 (Int32.ofInt 0)) 72 79 (Int32.ofInt (-1))) 72 80 (Int32.ofInt 0)).2.1 72 k = Q.2.1 72 k := fun k h1 h2 h3 => zw_ne (zw_ne (zw_ne rfl (by rw [h1]; rfl)) (by rw [h2]; rfl)) (by rw [h3]; rfl)
  have zp : ∀ p i, Nat.beq p 72 = false → (zw_I (zw_I (zw_I Q 72 62 (Int32.ofInt 0)) 72 79 (Int32.ofInt (-1))) 72 80 (Int32.ofInt 0)).2.1 p i = Q.2.1 p i := fun p i h => zw_ne (zw_ne (zw_ne rfl (by rw [h]; rfl)) (by rw [h]; rfl)) (by rw [h]; rfl)
  generalize hR : zw_I (zw_I (zw_I Q 72 62 (Int32.ofInt 0)) 72 79 (Int32.ofInt (-1))) 72 80 (Int32.ofInt 0) = R at p3 F3 z62 zk zp ⊢
  have r8 : (R.2.1 72 8).toInt = (H.2.1 72 41).toInt := by rw [zk 8 rfl rfl rfl, c72, g8]
  have n8 := zR_fr1 (zR_dn hB) (k := 41) (r := (0, 8)) rfl rfl
  have n8 : 0 ≤ (H.2.1 72 41).toInt ∧ (H.2.1 72 41).toInt ≤ 8 := n8
  have q80 : ∀ i, i < 1600 → R.2.1 80 i = H.2.1 90 i := fun i hi => by rw [zp 80 i rfl, c80 i hi, gp 90 (by decide)]
  have q78 : ∀ i, i < 8 → R.2.1 78 i = H.2.1 88 i := fun i hi => by rw [zp 78 i rfl, c78 i hi, gp 88 (by decide)]
  refine ⟨R, _, rfl, zT_up p3 ⟨?_, ?_, ?_⟩ ?_, F3, ?_⟩
  · intro r hr
    rw [r8] at hr
    rw [q78 r (by omega)]
    obtain ⟨a0, n, b, m, a1, a2, a3⟩ := hJn r hr
    have hb : b < 1600 := by omega
    exact ⟨a0, n, b, m, zr_run_c (c := H.2.1 90) (b := b) (fun i hi => q80 i (by omega)) a1 (Nat.le_refl _), hb, by rw [q80 b hb]; exact a3⟩
  · intro s hs
    rw [z62]
    show (0 : Int) ≤ _
    exact (zt_s2 p3 hs).1
  · have h := hJ.2.2
    intro s hs
    rw [zk 81 rfl rfl rfl, c72, gk 81 (by decide), show R.2.1 103 = H.2.1 103 from funext (fun i => by rw [zp 103 i rfl, c103, gp 103 (by decide)]), zp 101 _ rfl, c101, gp 101 (by decide)]
    exact h s hs
  · unfold zR_cc
    rw [zk 23 rfl rfl rfl, zk 34 rfl rfl rfl, zk 35 rfl rfl rfl, c72, c72, c72, gk 23 (by decide), gk 34 (by decide), gk 35 (by decide)]
    exact fun _ => hcc
  · rw [zk 22 rfl rfl rfl, c72, gk 22 (by decide)]
    exact h22
