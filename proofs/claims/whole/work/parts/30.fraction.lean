/-! Fraction -/
set_option maxRecDepth 100000 in
set_option maxHeartbeats 4000000 in
theorem c_X1_greatestShared {g : gG} {l : Launch} {μ : gM} {a : Int} {b : Int}  (ha : 0 ≤ a ∧ a < 562949953421312) (hb : 0 ≤ b ∧ b < 562949953421312) : CT g l YX1_greatestShared 0 [vL a, vL b] μ (pL fun e μ2 => e = (Int.gcd a b : Int) ∧ μ = μ2) := by
  refine CT.of (n := 3) (by decide) rfl ?_
  show WA g l YX1_greatestShared 0 _ 0 [some (vL a), none, some (vL b), none, none, none, none] [] μ
  refine w_iconst dX1_greatestShared_0 ?_
  refine w_istore dX1_greatestShared_1 (by decide) rfl ?_
  refine w_loop (ι := Int × Int × Int) (fun i => match i with | (x, y, i) => 0 ≤ i ∧ i ≤ 100 ∧ 0 ≤ x ∧ x < 562949953421312 ∧ 0 ≤ y ∧ y < 562949953421312 ∧ Int.gcd x y = Int.gcd a b ∧ (0 < i → y < x ∧ 2 ^ (i - 1).toNat * (x * y) < 2 ^ 98)) (fun i => match i with | (x, y, i) => (100 - i).toNat) (fun i => match i with | (x, y, i) => [some (vL x), none, some (vL y), none, some (vI i), none, none]) (fun i => match i with | (x, y, i) => μ) ?_ (a, b, 0) ⟨by omega, by omega, ha.1, ha.2, hb.1, hb.2, rfl, fun h => by omega⟩
  intro i_ hinv3 ih3
  obtain ⟨x, y, i⟩ := i_
  try dsimp only at hinv3 ih3 ⊢
  obtain ⟨p1, p2, p3, p4, p5, p6, p7, p8⟩ := hinv3
  refine w_iload dX1_greatestShared_3 rfl ?_
  refine w_bipush dX1_greatestShared_5 (by decide) ?_
  refine w_icmp_ge (tgt := 32) (by omega) (by omega) dX1_greatestShared_7 (by decide) (fun h7 => ?_) (fun h7 => ?_)
  · refine w_lload_n dX1_greatestShared_32 rfl ?_
    exact w_lretP rfl dX1_greatestShared_33 (by have hy : y = 0 := (by first | exact h12 | exact gcd_end (by omega) p8 p3 p5); subst hy; refine ⟨?_, rfl⟩; rw [← p7, Int.gcd_zero_right]; omega)
  · refine w_lload_n dX1_greatestShared_10 rfl ?_
    refine w_lconst 0 dX1_greatestShared_11 (by decide) ?_
    refine w_lcmp_eq (tgt := 32) (by omega) (by omega) dX1_greatestShared_12 dX1_greatestShared_13 (by decide) (fun h12 => ?_) (fun h12 => ?_)
    · refine w_lload_n dX1_greatestShared_32 rfl ?_
      exact w_lretP rfl dX1_greatestShared_33 (by have hy : y = 0 := (by first | exact h12 | exact gcd_end (by omega) p8 p3 p5); subst hy; refine ⟨?_, rfl⟩; rw [← p7, Int.gcd_zero_right]; omega)
    · have hm1 := Int.emod_nonneg x (by omega : y ≠ 0)
      have hm2 := Int.emod_lt_of_pos x (by omega : 0 < y)
      refine w_lload_n dX1_greatestShared_16 rfl ?_
      refine w_lload_n dX1_greatestShared_17 rfl ?_
      refine w_lrem (by omega) (by omega) dX1_greatestShared_18 ?_
      refine w_lstore dX1_greatestShared_19 (by decide) rfl ?_
      refine w_lload_n dX1_greatestShared_21 rfl ?_
      refine w_lstore_n dX1_greatestShared_22 (by decide) rfl ?_
      refine w_lload dX1_greatestShared_23 rfl ?_
      refine w_lstore_n dX1_greatestShared_25 (by decide) rfl ?_
      refine w_iinc dX1_greatestShared_26 rfl (by decide) rfl ?_
      refine w_goto (tgt := 3) dX1_greatestShared_29 (by decide) ?_
      refine w_drop 5 ?_
      exact ih3 (y, x % y, i + 1) (gcd_inv p1 p3 p4 p5 p6 (by omega) (by omega) p7 p8) (by dsimp only; omega)
set_option maxRecDepth 100000 in
set_option maxHeartbeats 4000000 in
theorem c_X1_become {g : gG} {l : Launch} {μ : gM} {a : Int} {b : Int}  (ha : -562949953421312 < a ∧ a < 562949953421312) (hb : 0 < b ∧ b < 562949953421312) : CT g l YX1_become 1 [vR 154, vL a, vL b] μ (pV fun μ2 => μ2 = frc μ a b) := by
  have hg : 0 < Int.gcd a b := Int.gcd_pos_of_ne_zero_right a (by omega)
  have hg2 : Int.gcd a b ≤ b.natAbs := Int.gcd_le_natAbs_right a (by omega)
  have eg : Int.gcd (a.natAbs : Int) b = Int.gcd a b := rfl
  refine CT.of (n := 2) (by decide) rfl ?_
  show WA g l YX1_become 1 _ 0 [some (vR 154), some (vL a), none, some (vL b), none, none, none] [] μ
  refine w_lload_n dX1_become_0 rfl ?_
  refine w_absl (by omega) (by decide) (Nat.le_of_ble_eq_true rfl) ml_X1_16 dX1_become_1 ?_
  refine w_lload_n dX1_become_4 rfl ?_
  refine w_cS2 kX1_greatestShared ml_X1_22 (Nat.le_of_ble_eq_true rfl) (by decide) dX1_become_5 (c_X1_greatestShared (by omega) (by omega)) (kL (fun e5 m5 q5 => ?_))
  obtain ⟨rfl, rfl⟩ := q5
  rw [eg]
  refine w_lstore dX1_become_8 (by decide) rfl ?_
  refine w_lload dX1_become_10 rfl ?_
  refine w_lconst 0 dX1_become_12 (by decide) ?_
  refine w_lcmp_gt (tgt := 18) (by omega) (by omega) dX1_become_13 dX1_become_14 (by decide) (fun h13 => ?_) (fun h13 => ?_)
  · refine w_aload_n dX1_become_18 rfl ?_
    refine w_lload_n dX1_become_19 rfl ?_
    refine w_lload dX1_become_20 rfl ?_
    refine w_ldivT (by omega) (by omega) dX1_become_22 ?_
    refine pf_X1_7 rfl dX1_become_23 ?_
    refine w_aload_n dX1_become_26 rfl ?_
    refine w_lload_n dX1_become_27 rfl ?_
    refine w_lload dX1_become_28 rfl ?_
    refine w_ldivT (by omega) (by omega) dX1_become_30 ?_
    refine pf_X1_13 rfl dX1_become_31 ?_
    exact w_vretP rfl dX1_become_34 (by rfl)
  · exact w_vretP rfl dX1_become_17 (by exfalso; omega)
set_option maxRecDepth 100000 in
set_option maxHeartbeats 4000000 in
theorem c_X1_choose {g : gG} {l : Launch} {μ : gM} {n : Int} {k : Int}  (hn : 0 ≤ n ∧ n ≤ 252) (hk : 0 ≤ k ∧ k ≤ 8) : CT g l YX1_choose 0 [vI n, vI k] μ (pL fun e μ2 => e = chI n k ∧ μ = μ2) := by
  refine CT.of (n := 3) (by decide) rfl ?_
  show WA g l YX1_choose 0 _ 0 [some (vI n), some (vI k), none, none, none] [] μ
  refine w_lconst 1 dX1_choose_0 (by decide) ?_
  refine w_lstore_n dX1_choose_1 (by decide) rfl ?_
  refine w_iconst dX1_choose_2 ?_
  refine w_istore dX1_choose_3 (by decide) rfl ?_
  refine w_loop (ι := Int × Int) (fun i => match i with | (w, i) => 0 ≤ i ∧ i ≤ k ∧ w = chI n i) (fun i => match i with | (w, i) => (k - i).toNat) (fun i => match i with | (w, i) => [some (vI n), some (vI k), some (vL w), none, some (vI i)]) (fun i => match i with | (w, i) => μ) ?_ (1, 0) ⟨by omega, by omega, rfl⟩
  intro i_ hinv5 ih5
  obtain ⟨w, i⟩ := i_
  try dsimp only at hinv5 ih5 ⊢
  obtain ⟨h1, h2, h3⟩ := hinv5
  have hb := chI_bd2 hn (k := i) (by omega)
  refine w_iload dX1_choose_5 rfl ?_
  refine w_iload_n dX1_choose_7 rfl ?_
  refine w_icmp_ge (tgt := 31) (by omega) (by omega) dX1_choose_8 (by decide) (fun h8 => ?_) (fun h8 => ?_)
  · refine w_lload_n dX1_choose_31 rfl ?_
    exact w_lretP rfl dX1_choose_32 (by have e0 : i = k := (by omega); subst e0; exact ⟨h3, rfl⟩)
  · have hq := ch_step (n := n) (x := n - i) (i := i + 1) hb (by rcases (by omega : i ≤ n ∨ n < i) with q | q; exact Or.inl (by omega); exact Or.inr (chI_z hn.1 q)) (by omega) (by omega)
    rw [← h3] at hq
    refine w_lload_n dX1_choose_11 rfl ?_
    refine w_iload_n dX1_choose_12 rfl ?_
    refine w_iload dX1_choose_13 rfl ?_
    refine w_isub dX1_choose_15 ?_
    refine w_i2l (by omega) dX1_choose_16 ?_
    refine w_lmul dX1_choose_17 ?_
    refine w_iload dX1_choose_18 rfl ?_
    refine w_iconst dX1_choose_20 ?_
    refine w_iadd dX1_choose_21 ?_
    refine w_i2l (by omega) dX1_choose_22 ?_
    refine w_ldiv (by omega) (by omega) dX1_choose_23 ?_
    refine w_lstore_n dX1_choose_24 (by decide) rfl ?_
    refine w_iinc dX1_choose_25 rfl (by decide) rfl ?_
    refine w_goto (tgt := 5) dX1_choose_28 (by decide) ?_
    exact ih5 (_, _) ⟨by omega, by omega, by rw [chI_s n h1, ← h3]⟩ (by omega)
