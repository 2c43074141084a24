set_option maxRecDepth 100000 in
set_option maxHeartbeats 4000000 in
theorem c_X5_in {g : gG} {l : Launch} {μ : gM} {v : Int} {a : Int} {b : Int}  (g1 : -9223372036854775808 ≤ v ∧ v < 9223372036854775808) (g2 : -9223372036854775808 ≤ a ∧ a < 9223372036854775808) (g3 : -9223372036854775808 ≤ b ∧ b < 9223372036854775808) : CT g l YX5_in 0 [vL v, vL a, vL b] μ (pI fun e μ2 => ((e = 1 ∧ a ≤ v ∧ v ≤ b) ∨ (e = 0 ∧ ¬ (a ≤ v ∧ v ≤ b))) ∧ μ = μ2) := by
  refine CT.of (n := 0) (by decide) rfl ?_
  show WA g l YX5_in 0 _ 0 [some (vL v), none, some (vL a), none, some (vL b), none] [] μ
  refine w_lload_n dX5_in_0 rfl ?_
  refine w_lload_n dX5_in_1 rfl ?_
  refine w_lcmp_lt (tgt := 17) (by omega) (by omega) dX5_in_2 dX5_in_3 (by decide) (fun h2 => ?_) (fun h2 => ?_)
  · refine w_iconst dX5_in_17 ?_
    exact w_zretP rfl dX5_in_18 (by omega) (by refine ⟨?_, rfl⟩; omega)
  · refine w_lload_n dX5_in_6 rfl ?_
    refine w_lload dX5_in_7 rfl ?_
    refine w_lcmp_gt (tgt := 17) (by omega) (by omega) dX5_in_9 dX5_in_10 (by decide) (fun h9 => ?_) (fun h9 => ?_)
    · refine w_iconst dX5_in_17 ?_
      exact w_zretP rfl dX5_in_18 (by omega) (by refine ⟨?_, rfl⟩; omega)
    · refine w_iconst dX5_in_13 ?_
      refine w_goto (tgt := 18) dX5_in_14 (by decide) ?_
      exact w_zretP rfl dX5_in_18 (by omega) (by refine ⟨?_, rfl⟩; omega)
set_option maxRecDepth 100000 in
set_option maxHeartbeats 4000000 in
theorem c_X5_bad {g : gG} {l : Launch} {μ : gM} {x : Int}   : CT g l YX5_bad 0 [vR 167, vI x] μ (pI fun e μ2 => e = x ∧ μ2 = rb μ) := by
  refine CT.of (n := 0) (by decide) rfl ?_
  show WA g l YX5_bad 0 _ 0 [some (vR 167), some (vI x)] [] μ
  refine w_aload_n dX5_bad_0 rfl ?_
  refine gf_X5_20 rfl dX5_bad_1 ?_
  refine w_iconst dX5_bad_4 ?_
  refine w_dup2 dX5_bad_5 ?_
  refine w_iald ar_171 (by omega) dX5_bad_6 ?_
  refine w_iconst dX5_bad_7 ?_
  refine w_iadd dX5_bad_8 ?_
  refine w_iast ar_171 (by omega) dX5_bad_9 ?_
  refine w_iload_n dX5_bad_10 rfl ?_
  exact w_iretP rfl dX5_bad_11 (by exact ⟨rfl, rfl⟩)
set_option maxRecDepth 100000 in
set_option maxHeartbeats 4000000 in
theorem c_X5_no {g : gG} {l : Launch} {μ : gM} {x : Int}   : CT g l YX5_no 0 [vR 167, vI x] μ (pI fun e μ2 => e = x ∧ μ2 = rn μ) := by
  refine CT.of (n := 0) (by decide) rfl ?_
  show WA g l YX5_no 0 _ 0 [some (vR 167), some (vI x)] [] μ
  refine w_aload_n dX5_no_0 rfl ?_
  refine gf_X5_20 rfl dX5_no_1 ?_
  refine w_iconst dX5_no_4 ?_
  refine w_dup2 dX5_no_5 ?_
  refine w_iald ar_171 (by omega) dX5_no_6 ?_
  refine w_iconst dX5_no_7 ?_
  refine w_iadd dX5_no_8 ?_
  refine w_iast ar_171 (by omega) dX5_no_9 ?_
  refine w_iload_n dX5_no_10 rfl ?_
  exact w_iretP rfl dX5_no_11 (by exact ⟨rfl, rfl⟩)
set_option maxRecDepth 100000 in
set_option maxHeartbeats 4000000 in
theorem c_X5_full {g : gG} {l : Launch} {μ : gM}    : CT g l YX5_full 0 [vR 167] μ (pI fun e μ2 => e = -4 ∧ μ2 = rf μ) := by
  refine CT.of (n := 0) (by decide) rfl ?_
  show WA g l YX5_full 0 _ 0 [some (vR 167)] [] μ
  refine w_aload_n dX5_full_0 rfl ?_
  refine gf_X5_20 rfl dX5_full_1 ?_
  refine w_iconst dX5_full_4 ?_
  refine w_dup2 dX5_full_5 ?_
  refine w_iald ar_171 (by omega) dX5_full_6 ?_
  refine w_iconst dX5_full_7 ?_
  refine w_iadd dX5_full_8 ?_
  refine w_iast ar_171 (by omega) dX5_full_9 ?_
  refine w_bipush dX5_full_10 (by decide) ?_
  exact w_iretP rfl dX5_full_12 (by exact ⟨rfl, rfl⟩)
set_option maxRecDepth 100000 in
set_option maxHeartbeats 4000000 in
theorem c_X5_roofs {g : gG} {l : Launch} {μ : gM}    : CT g l YX5_roofs 0 [vR 167] μ (pI fun e μ2 => e = μ 168 93 ∧ μ = μ2) := by
  refine CT.of (n := 0) (by decide) rfl ?_
  show WA g l YX5_roofs 0 _ 0 [some (vR 167)] [] μ
  refine w_aload_n dX5_roofs_0 rfl ?_
  refine gf_X5_7 rfl dX5_roofs_1 ?_
  refine w_bipush dX5_roofs_4 (by decide) ?_
  refine w_iald ar_168 (by omega) dX5_roofs_6 ?_
  exact w_iretP rfl dX5_roofs_7 (by first | exact ⟨rfl, rfl⟩ | (refine ⟨?_, rfl⟩; omega) | (exfalso; omega))
set_option maxRecDepth 100000 in
set_option maxHeartbeats 4000000 in
theorem c_X5_storms {g : gG} {l : Launch} {μ : gM}    : CT g l YX5_storms 0 [vR 167] μ (pI fun e μ2 => e = μ 168 94 ∧ μ = μ2) := by
  refine CT.of (n := 0) (by decide) rfl ?_
  show WA g l YX5_storms 0 _ 0 [some (vR 167)] [] μ
  refine w_aload_n dX5_storms_0 rfl ?_
  refine gf_X5_7 rfl dX5_storms_1 ?_
  refine w_bipush dX5_storms_4 (by decide) ?_
  refine w_iald ar_168 (by omega) dX5_storms_6 ?_
  exact w_iretP rfl dX5_storms_7 (by first | exact ⟨rfl, rfl⟩ | (refine ⟨?_, rfl⟩; omega) | (exfalso; omega))
set_option maxRecDepth 100000 in
set_option maxHeartbeats 4000000 in
theorem c_X5_isRoof {g : gG} {l : Launch} {μ : gM} {x : Int} {n : Int} (gx : -2147483648 ≤ x ∧ x < 2147483648) (hn : μ 168 93 = n) (hn7 : 0 ≤ n ∧ n ≤ 7) : CT g l YX5_isRoof 1 [vR 167, vI x] μ (pI fun e μ2 => ((e = 1 ∧ 0 ≤ x ∧ x < n) ∨ (e = 0 ∧ ¬ (0 ≤ x ∧ x < n))) ∧ μ = μ2) := by
  refine CT.of (n := 0) (by decide) rfl ?_
  show WA g l YX5_isRoof 1 _ 0 [some (vR 167), some (vI x)] [] μ
  refine w_iload_n dX5_isRoof_0 rfl ?_
  refine w_i2l (by omega) dX5_isRoof_1 ?_
  refine w_lconst 0 dX5_isRoof_2 (by decide) ?_
  refine w_aload_n dX5_isRoof_3 rfl ?_
  refine w_cV0 kX5_roofs ml_X5_54 ob_167 rfl (Nat.le_of_ble_eq_true rfl) (by decide) dX5_isRoof_4 (c_X5_roofs) (kI (fun e4 m4 q4 => ?_))
  obtain ⟨rfl, rfl⟩ := q4
  refine w_iconst dX5_isRoof_7 ?_
  refine w_isub dX5_isRoof_8 ?_
  refine w_i2l (by omega) dX5_isRoof_9 ?_
  refine w_cS3 kX5_in ml_X5_58 (Nat.le_of_ble_eq_true rfl) (by decide) dX5_isRoof_10 (c_X5_in (by omega) (by omega) (by omega)) (kI (fun e10 m10 q10 => ?_))
  obtain ⟨q10, rfl⟩ := q10
  exact w_zretP rfl dX5_isRoof_13 (by omega) (by refine ⟨?_, rfl⟩; omega)
set_option maxRecDepth 100000 in
set_option maxHeartbeats 4000000 in
theorem c_X5_isStorm {g : gG} {l : Launch} {μ : gM} {x : Int} {m : Int} (gx : -2147483648 ≤ x ∧ x < 2147483648) (hn : μ 168 94 = m) (hn7 : 0 ≤ m ∧ m ≤ 6) : CT g l YX5_isStorm 1 [vR 167, vI x] μ (pI fun e μ2 => ((e = 1 ∧ 0 ≤ x ∧ x < m) ∨ (e = 0 ∧ ¬ (0 ≤ x ∧ x < m))) ∧ μ = μ2) := by
  refine CT.of (n := 0) (by decide) rfl ?_
  show WA g l YX5_isStorm 1 _ 0 [some (vR 167), some (vI x)] [] μ
  refine w_iload_n dX5_isStorm_0 rfl ?_
  refine w_i2l (by omega) dX5_isStorm_1 ?_
  refine w_lconst 0 dX5_isStorm_2 (by decide) ?_
  refine w_aload_n dX5_isStorm_3 rfl ?_
  refine w_cV0 kX5_storms ml_X5_62 ob_167 rfl (Nat.le_of_ble_eq_true rfl) (by decide) dX5_isStorm_4 (c_X5_storms) (kI (fun e4 m4 q4 => ?_))
  obtain ⟨rfl, rfl⟩ := q4
  refine w_iconst dX5_isStorm_7 ?_
  refine w_isub dX5_isStorm_8 ?_
  refine w_i2l (by omega) dX5_isStorm_9 ?_
  refine w_cS3 kX5_in ml_X5_58 (Nat.le_of_ble_eq_true rfl) (by decide) dX5_isStorm_10 (c_X5_in (by omega) (by omega) (by omega)) (kI (fun e10 m10 q10 => ?_))
  obtain ⟨q10, rfl⟩ := q10
  exact w_zretP rfl dX5_isStorm_13 (by omega) (by refine ⟨?_, rfl⟩; omega)
set_option maxRecDepth 100000 in
set_option maxHeartbeats 4000000 in
theorem c_X5_of {g : gG} {l : Launch} {μ : gM} {s : Int} {w : Int}  (hs : 0 ≤ s ∧ s < 6) (hw : 0 ≤ w ∧ w < 5) : CT g l YX5_of 0 [vR 167, vI s, vI w] μ (pI fun e μ2 => e = μ 168 (56 + 5 * s + w) ∧ μ = μ2) := by
  refine CT.of (n := 0) (by decide) rfl ?_
  show WA g l YX5_of 0 _ 0 [some (vR 167), some (vI s), some (vI w)] [] μ
  refine w_aload_n dX5_of_0 rfl ?_
  refine gf_X5_7 rfl dX5_of_1 ?_
  refine w_bipush dX5_of_4 (by decide) ?_
  refine w_iconst dX5_of_6 ?_
  refine w_iload_n dX5_of_7 rfl ?_
  refine w_imul dX5_of_8 ?_
  refine w_iadd dX5_of_9 ?_
  refine w_iload_n dX5_of_10 rfl ?_
  refine w_iadd dX5_of_11 ?_
  refine w_iald ar_168 (by omega) dX5_of_12 ?_
  exact w_iretP rfl dX5_of_13 (by first | exact ⟨rfl, rfl⟩ | (refine ⟨?_, rfl⟩; omega) | (exfalso; omega))
set_option maxRecDepth 100000 in
set_option maxHeartbeats 4000000 in
theorem c_X5_cannonAt {g : gG} {l : Launch} {μ : gM} {p : Int} {v : gV} {m : Int} (hp : -1 ≤ p ∧ p ≤ 7) (hMG : MG μ v m) : CT g l YX5_cannonAt 1 [vR 167, vI p] μ (pI fun e μ2 => ((0 ≤ p ∧ p ≤ 6 ∧ e = v 11 p) ∨ (¬ (0 ≤ p ∧ p ≤ 6) ∧ e = 0)) ∧ μ = μ2 ∧ 0 ≤ e ∧ e ≤ 1) := by
  obtain ⟨g1, g2, gV, g4, g5⟩ := id hMG
  have hV := gV.1
  refine CT.of (n := 0) (by decide) rfl ?_
  show WA g l YX5_cannonAt 1 _ 0 [some (vR 167), some (vI p)] [] μ
  refine w_iload_n dX5_cannonAt_0 rfl ?_
  refine w_i2l (by omega) dX5_cannonAt_1 ?_
  refine w_lconst 0 dX5_cannonAt_2 (by decide) ?_
  refine w_ldc2 (6) cl_X5_84 dX5_cannonAt_3 (by decide) ?_
  refine w_cS3 kX5_in ml_X5_58 (Nat.le_of_ble_eq_true rfl) (by decide) dX5_cannonAt_6 (c_X5_in (by omega) (by omega) (by omega)) (kI (fun e6 m6 q6 => ?_))
  obtain ⟨q6, rfl⟩ := q6
  refine w_if_eq (tgt := 24) (by omega) dX5_cannonAt_9 (by decide) (fun h9 => ?_) (fun h9 => ?_)
  · refine w_iconst dX5_cannonAt_24 ?_
    exact w_iretP rfl dX5_cannonAt_25 (by first | (have z := g5 p (by omega) (by omega); have z2 := hV.2.2.2.2.2 p; exact ⟨Or.inl ⟨by omega, by omega, z⟩, rfl, by omega, by omega⟩) | exact ⟨Or.inr ⟨by omega, rfl⟩, rfl, by decide⟩)
  · refine w_aload_n dX5_cannonAt_12 rfl ?_
    refine gf_X5_7 rfl dX5_cannonAt_13 ?_
    refine w_bipush dX5_cannonAt_16 (by decide) ?_
    refine w_iload_n dX5_cannonAt_18 rfl ?_
    refine w_iadd dX5_cannonAt_19 ?_
    refine w_iald ar_168 (by omega) dX5_cannonAt_20 ?_
    refine w_goto (tgt := 25) dX5_cannonAt_21 (by decide) ?_
    exact w_iretP rfl dX5_cannonAt_25 (by first | (have z := g5 p (by omega) (by omega); have z2 := hV.2.2.2.2.2 p; exact ⟨Or.inl ⟨by omega, by omega, z⟩, rfl, by omega, by omega⟩) | exact ⟨Or.inr ⟨by omega, rfl⟩, rfl, by decide⟩)
set_option maxRecDepth 100000 in
set_option maxHeartbeats 4000000 in
theorem c_X5_forceOf {g : gG} {l : Launch} {μ : gM} {s : Int} {r : Int} {sl : Int} {v : gV} {m : Int} (hMG : MG μ v m) (hs : 0 ≤ s ∧ s < m) (hr : 0 ≤ r ∧ r < 7) (hsl : 0 ≤ sl ∧ sl ≤ 1) : CT g l YX5_forceOf 2 [vR 167, vI s, vI r, vI sl] μ (pI fun e μ2 => e = fF v s r sl ∧ μ = μ2 ∧ 0 ≤ fF v s r sl ∧ fF v s r sl ≤ 9) := by
  obtain ⟨g1, g2, gV, g4, g5⟩ := id hMG
  have hV := gV.1
  obtain ⟨s0, s1, s2, s3, s4⟩ := g4 s hs.1 hs.2
  have b6 := gV.2.1 s
  have b7 := gV.2.2.1 s
  have b8 := gV.2.2.2.1 s
  have b9 := hV.2.2.2.1 s
  have fb := fF_bd hV s r sl
  refine CT.of (n := 2) (by decide) rfl ?_
  show WA g l YX5_forceOf 2 _ 0 [some (vR 167), some (vI s), some (vI r), some (vI sl), none, none] [] μ
  refine w_iload_n dX5_forceOf_0 rfl ?_
  refine w_i2l (by omega) dX5_forceOf_1 ?_
  refine w_aload_n dX5_forceOf_2 rfl ?_
  refine w_iload_n dX5_forceOf_3 rfl ?_
  refine w_iconst dX5_forceOf_4 ?_
  refine w_cV2 kX5_of ml_X5_97 ob_167 rfl (Nat.le_of_ble_eq_true rfl) (by decide) dX5_forceOf_5 (c_X5_of (by omega) (by omega)) (kI (fun e5 m5 q5 => ?_))
  obtain ⟨rfl, rfl⟩ := q5
  refine w_i2l (by omega) dX5_forceOf_8 ?_
  refine w_aload_n dX5_forceOf_9 rfl ?_
  refine w_iload_n dX5_forceOf_10 rfl ?_
  refine w_iconst dX5_forceOf_11 ?_
  refine w_cV2 kX5_of ml_X5_97 ob_167 rfl (Nat.le_of_ble_eq_true rfl) (by decide) dX5_forceOf_12 (c_X5_of (by omega) (by omega)) (kI (fun e12 m12 q12 => ?_))
  obtain ⟨rfl, rfl⟩ := q12
  refine w_i2l (by omega) dX5_forceOf_15 ?_
  refine w_cS3 kX5_in ml_X5_58 (Nat.le_of_ble_eq_true rfl) (by decide) dX5_forceOf_16 (c_X5_in (by omega) (by omega) (by omega)) (kI (fun e16 m16 q16 => ?_))
  obtain ⟨q16, rfl⟩ := q16
  refine w_if_ne (tgt := 24) (by omega) dX5_forceOf_19 (by decide) (fun h19 => ?_) (fun h19 => ?_)
  · refine w_aload_n dX5_forceOf_24 rfl ?_
    refine w_iload_n dX5_forceOf_25 rfl ?_
    refine w_iconst dX5_forceOf_26 ?_
    refine w_cV2 kX5_of ml_X5_97 ob_167 rfl (Nat.le_of_ble_eq_true rfl) (by decide) dX5_forceOf_27 (c_X5_of (by omega) (by omega)) (kI (fun e27 m27 q27 => ?_))
    obtain ⟨rfl, rfl⟩ := q27
    refine w_istore dX5_forceOf_30 (by decide) rfl ?_
    refine w_aload_n dX5_forceOf_32 rfl ?_
    refine w_iload_n dX5_forceOf_33 rfl ?_
    refine w_iconst dX5_forceOf_34 ?_
    refine w_cV2 kX5_of ml_X5_97 ob_167 rfl (Nat.le_of_ble_eq_true rfl) (by decide) dX5_forceOf_35 (c_X5_of (by omega) (by omega)) (kI (fun e35 m35 q35 => ?_))
    obtain ⟨rfl, rfl⟩ := q35
    refine w_iload_n dX5_forceOf_38 rfl ?_
    refine w_icmp_ne (tgt := 47) (by omega) (by omega) dX5_forceOf_39 (by decide) (fun h39 => ?_) (fun h39 => ?_)
    · refine w_iload dX5_forceOf_47 rfl ?_
      refine w_iconst dX5_forceOf_49 ?_
      refine w_idiv (by omega) (by omega) dX5_forceOf_50 ?_
      refine w_istore dX5_forceOf_51 (by decide) rfl ?_
      refine w_iload dX5_forceOf_53 rfl ?_
      refine w_iconst dX5_forceOf_55 ?_
      refine w_aload_n dX5_forceOf_56 rfl ?_
      refine w_iload_n dX5_forceOf_57 rfl ?_
      refine w_cV1 kX5_cannonAt ml_X5_101 ob_167 rfl (Nat.le_of_ble_eq_true rfl) (by decide) dX5_forceOf_58 (c_X5_cannonAt (by omega) hMG) (kI (fun e58 m58 q58 => ?_))
      obtain ⟨q58, rfl, b58⟩ := q58
      refine w_imul dX5_forceOf_61 ?_
      refine w_aload_n dX5_forceOf_62 rfl ?_
      refine w_iload_n dX5_forceOf_63 rfl ?_
      refine w_iconst dX5_forceOf_64 ?_
      refine w_isub dX5_forceOf_65 ?_
      refine w_cV1 kX5_cannonAt ml_X5_101 ob_167 rfl (Nat.le_of_ble_eq_true rfl) (by decide) dX5_forceOf_66 (c_X5_cannonAt (by omega) hMG) (kI (fun e66 m66 q66 => ?_))
      obtain ⟨q66, rfl, b66⟩ := q66
      refine w_iadd dX5_forceOf_69 ?_
      refine w_aload_n dX5_forceOf_70 rfl ?_
      refine w_iload_n dX5_forceOf_71 rfl ?_
      refine w_iconst dX5_forceOf_72 ?_
      refine w_iadd dX5_forceOf_73 ?_
      refine w_cV1 kX5_cannonAt ml_X5_101 ob_167 rfl (Nat.le_of_ble_eq_true rfl) (by decide) dX5_forceOf_74 (c_X5_cannonAt (by omega) hMG) (kI (fun e74 m74 q74 => ?_))
      obtain ⟨q74, rfl, b74⟩ := q74
      refine w_iadd dX5_forceOf_77 ?_
      refine w_isub dX5_forceOf_78 ?_
      refine w_istore dX5_forceOf_79 (by decide) rfl ?_
      refine w_iload dX5_forceOf_81 rfl ?_
      refine w_if_ge (tgt := 90) (by omega) dX5_forceOf_83 (by decide) (fun h83 => ?_) (fun h83 => ?_)
      · refine w_iload dX5_forceOf_90 rfl ?_
        exact w_iretP rfl dX5_forceOf_92 (by refine ⟨?_, rfl, fb⟩; unfold fF; (repeat' split) <;> omega)
      · refine w_iconst dX5_forceOf_86 ?_
        refine w_goto (tgt := 92) dX5_forceOf_87 (by decide) ?_
        exact w_iretP rfl dX5_forceOf_92 (by refine ⟨?_, rfl, fb⟩; unfold fF; (repeat' split) <;> omega)
    · refine w_iload dX5_forceOf_42 rfl ?_
      refine w_goto (tgt := 51) dX5_forceOf_44 (by decide) ?_
      refine w_istore dX5_forceOf_51 (by decide) rfl ?_
      refine w_iload dX5_forceOf_53 rfl ?_
      refine w_iconst dX5_forceOf_55 ?_
      refine w_aload_n dX5_forceOf_56 rfl ?_
      refine w_iload_n dX5_forceOf_57 rfl ?_
      refine w_cV1 kX5_cannonAt ml_X5_101 ob_167 rfl (Nat.le_of_ble_eq_true rfl) (by decide) dX5_forceOf_58 (c_X5_cannonAt (by omega) hMG) (kI (fun e58 m58 q58 => ?_))
      obtain ⟨q58, rfl, b58⟩ := q58
      refine w_imul dX5_forceOf_61 ?_
      refine w_aload_n dX5_forceOf_62 rfl ?_
      refine w_iload_n dX5_forceOf_63 rfl ?_
      refine w_iconst dX5_forceOf_64 ?_
      refine w_isub dX5_forceOf_65 ?_
      refine w_cV1 kX5_cannonAt ml_X5_101 ob_167 rfl (Nat.le_of_ble_eq_true rfl) (by decide) dX5_forceOf_66 (c_X5_cannonAt (by omega) hMG) (kI (fun e66 m66 q66 => ?_))
      obtain ⟨q66, rfl, b66⟩ := q66
      refine w_iadd dX5_forceOf_69 ?_
      refine w_aload_n dX5_forceOf_70 rfl ?_
      refine w_iload_n dX5_forceOf_71 rfl ?_
      refine w_iconst dX5_forceOf_72 ?_
      refine w_iadd dX5_forceOf_73 ?_
      refine w_cV1 kX5_cannonAt ml_X5_101 ob_167 rfl (Nat.le_of_ble_eq_true rfl) (by decide) dX5_forceOf_74 (c_X5_cannonAt (by omega) hMG) (kI (fun e74 m74 q74 => ?_))
      obtain ⟨q74, rfl, b74⟩ := q74
      refine w_iadd dX5_forceOf_77 ?_
      refine w_isub dX5_forceOf_78 ?_
      refine w_istore dX5_forceOf_79 (by decide) rfl ?_
      refine w_iload dX5_forceOf_81 rfl ?_
      refine w_if_ge (tgt := 90) (by omega) dX5_forceOf_83 (by decide) (fun h83 => ?_) (fun h83 => ?_)
      · refine w_iload dX5_forceOf_90 rfl ?_
        exact w_iretP rfl dX5_forceOf_92 (by refine ⟨?_, rfl, fb⟩; unfold fF; (repeat' split) <;> omega)
      · refine w_iconst dX5_forceOf_86 ?_
        refine w_goto (tgt := 92) dX5_forceOf_87 (by decide) ?_
        exact w_iretP rfl dX5_forceOf_92 (by refine ⟨?_, rfl, fb⟩; unfold fF; (repeat' split) <;> omega)
  · refine w_iconst dX5_forceOf_22 ?_
    exact w_iretP rfl dX5_forceOf_23 (by refine ⟨?_, rfl, fb⟩; unfold fF; (repeat' split) <;> omega)
set_option maxRecDepth 100000 in
set_option maxHeartbeats 4000000 in
theorem c_X5_hits {g : gG} {l : Launch} {μ : gM} {r : Int} {f : Int} {v : gV} {n m : Int} (hMV : MV μ v n m) (hr : 0 ≤ r ∧ r < n) (hf : 0 ≤ f ∧ f ≤ 9) : CT g l YX5_hits 0 [vR 167, vI r, vI f] μ (pI fun e μ2 => e = fHt v r f ∧ μ = μ2) := by
  have hMG := hMV.1
  obtain ⟨g1, g2, gV, g4, g5⟩ := id hMG
  have hV := gV.1
  obtain ⟨-, n1, n2, n3, n4⟩ := id hMV
  obtain ⟨r1, r2, -, -⟩ := n3 r hr.1 hr.2
  have b1 := hV.1 r
  have b2 := hV.2.1 r
  refine CT.of (n := 0) (by decide) rfl ?_
  show WA g l YX5_hits 0 _ 0 [some (vR 167), some (vI r), some (vI f)] [] μ
  refine w_iload_n dX5_hits_0 rfl ?_
  refine w_if_ne (tgt := 6) (by omega) dX5_hits_1 (by decide) (fun h1 => ?_) (fun h1 => ?_)
  · refine w_aload_n dX5_hits_6 rfl ?_
    refine gf_X5_7 rfl dX5_hits_7 ?_
    refine w_iconst dX5_hits_10 ?_
    refine w_bipush dX5_hits_11 (by decide) ?_
    refine w_iload_n dX5_hits_13 rfl ?_
    refine w_imul dX5_hits_14 ?_
    refine w_iadd dX5_hits_15 ?_
    refine w_iconst dX5_hits_16 ?_
    refine w_iadd dX5_hits_17 ?_
    refine w_iald ar_168 (by omega) dX5_hits_18 ?_
    refine w_tcase (1) (tgt := 52) (by omega) dX5_hits_19 (by decide) (by decide) rfl (by decide) (fun k19 => ?_) (fun n19_1 => ?_)
    · refine w_iload_n dX5_hits_52 rfl ?_
      refine w_aload_n dX5_hits_53 rfl ?_
      refine gf_X5_30 rfl dX5_hits_54 ?_
      refine w_iload_n dX5_hits_57 rfl ?_
      refine w_iald ar_173 (by omega) dX5_hits_58 ?_
      refine w_iadd dX5_hits_59 ?_
      exact w_iretP rfl dX5_hits_60 (by refine ⟨?_, rfl⟩; unfold fHt; (repeat' split) <;> omega)
    refine w_tcase (2) (tgt := 61) (by omega) dX5_hits_19 (by decide) (by decide) rfl (by decide) (fun k19 => ?_) (fun n19_2 => ?_)
    · refine w_iload_n dX5_hits_61 rfl ?_
      refine w_iconst dX5_hits_62 ?_
      refine w_idiv (by omega) (by omega) dX5_hits_63 ?_
      exact w_iretP rfl dX5_hits_64 (by refine ⟨?_, rfl⟩; unfold fHt; (repeat' split) <;> omega)
    refine w_tcase (3) (tgt := 65) (by omega) dX5_hits_19 (by decide) (by decide) rfl (by decide) (fun k19 => ?_) (fun n19_3 => ?_)
    · refine w_iload_n dX5_hits_65 rfl ?_
      refine w_iconst dX5_hits_66 ?_
      refine w_idiv (by omega) (by omega) dX5_hits_67 ?_
      refine w_iconst dX5_hits_68 ?_
      refine w_isub dX5_hits_69 ?_
      exact w_iretP rfl dX5_hits_70 (by refine ⟨?_, rfl⟩; unfold fHt; (repeat' split) <;> omega)
    refine w_tcase (4) (tgt := 71) (by omega) dX5_hits_19 (by decide) (by decide) rfl (by decide) (fun k19 => ?_) (fun n19_4 => ?_)
    · refine w_iload_n dX5_hits_71 rfl ?_
      refine w_aload_n dX5_hits_72 rfl ?_
      refine gf_X5_30 rfl dX5_hits_73 ?_
      refine w_iload_n dX5_hits_76 rfl ?_
      refine w_iald ar_173 (by omega) dX5_hits_77 ?_
      refine w_iadd dX5_hits_78 ?_
      refine w_iconst dX5_hits_79 ?_
      refine w_isub dX5_hits_80 ?_
      exact w_iretP rfl dX5_hits_81 (by refine ⟨?_, rfl⟩; unfold fHt; (repeat' split) <;> omega)
    refine w_tcase (5) (tgt := 82) (by omega) dX5_hits_19 (by decide) (by decide) rfl (by decide) (fun k19 => ?_) (fun n19_5 => ?_)
    · refine w_iconst dX5_hits_82 ?_
      exact w_iretP rfl dX5_hits_83 (by refine ⟨?_, rfl⟩; unfold fHt; (repeat' split) <;> omega)
    refine w_tableOut (tgt := 84) (by omega) dX5_hits_19 (by omega) (by decide) ?_
    refine w_iload_n dX5_hits_84 rfl ?_
    exact w_iretP rfl dX5_hits_85 (by refine ⟨?_, rfl⟩; unfold fHt; (repeat' split) <;> omega)
  · refine w_iconst dX5_hits_4 ?_
    exact w_iretP rfl dX5_hits_5 (by refine ⟨?_, rfl⟩; unfold fHt; (repeat' split) <;> omega)
set_option maxRecDepth 100000 in
set_option maxHeartbeats 4000000 in
theorem c_X5_breaksOf {g : gG} {l : Launch} {μ : gM} {s : Int} {r : Int} {sl : Int} {w : Int} {v : gV} {n m : Int} (hMV : MV μ v n m) (hs : 0 ≤ s ∧ s < m) (hr : 0 ≤ r ∧ r < n) (hsl : 0 ≤ sl ∧ sl ≤ 1) (hw : 0 ≤ w ∧ w ≤ 1) : CT g l YX5_breaksOf 3 [vR 167, vI s, vI r, vI sl, vI w] μ (pI fun e μ2 => e = fb v s r sl w ∧ μ = μ2 ∧ 0 ≤ fb v s r sl w ∧ fb v s r sl w ≤ 18) := by
  have hMG := hMV.1
  obtain ⟨g1, g2, gV, g4, g5⟩ := id hMG
  have hV := gV.1
  obtain ⟨-, n1, n2, n3, n4⟩ := id hMV
  have hq := fHt_T hV s r sl
  have hfb := fb_bd hV s r sl w
  have hh := n4 (4 * r + 2 * sl + w) (by omega) (by omega)
  have hc := hV.2.2.1 (4 * r + 2 * sl + w)
  refine CT.of (n := 2) (by decide) rfl ?_
  show WA g l YX5_breaksOf 3 _ 0 [some (vR 167), some (vI s), some (vI r), some (vI sl), some (vI w), none, none] [] μ
  refine w_aload_n dX5_breaksOf_0 rfl ?_
  refine w_iload_n dX5_breaksOf_1 rfl ?_
  refine w_aload_n dX5_breaksOf_2 rfl ?_
  refine w_iload_n dX5_breaksOf_3 rfl ?_
  refine w_iload_n dX5_breaksOf_4 rfl ?_
  refine w_iload_n dX5_breaksOf_5 rfl ?_
  refine w_cV3 kX5_forceOf ml_X5_107 ob_167 rfl (Nat.le_of_ble_eq_true rfl) (by decide) dX5_breaksOf_6 (c_X5_forceOf hMG (by omega) (by omega) (by omega)) (kI (fun e6 m6 q6 => ?_))
  obtain ⟨rfl, rfl, b6⟩ := q6
  refine w_cV2 kX5_hits ml_X5_111 ob_167 rfl (Nat.le_of_ble_eq_true rfl) (by decide) dX5_breaksOf_9 (c_X5_hits hMV (by omega) (by omega)) (kI (fun e9 m9 q9 => ?_))
  obtain ⟨rfl, rfl⟩ := q9
  refine w_istore dX5_breaksOf_12 (by decide) rfl ?_
  refine w_aload_n dX5_breaksOf_14 rfl ?_
  refine gf_X5_27 rfl dX5_breaksOf_15 ?_
  refine w_iconst dX5_breaksOf_18 ?_
  refine w_iload_n dX5_breaksOf_19 rfl ?_
  refine w_imul dX5_breaksOf_20 ?_
  refine w_iconst dX5_breaksOf_21 ?_
  refine w_iload_n dX5_breaksOf_22 rfl ?_
  refine w_imul dX5_breaksOf_23 ?_
  refine w_iadd dX5_breaksOf_24 ?_
  refine w_iload dX5_breaksOf_25 rfl ?_
  refine w_iadd dX5_breaksOf_27 ?_
  refine w_iald ar_172 (by omega) dX5_breaksOf_28 ?_
  refine w_istore dX5_breaksOf_29 (by decide) rfl ?_
  refine w_iload dX5_breaksOf_31 rfl ?_
  refine w_if_ge (tgt := 40) (by omega) dX5_breaksOf_33 (by decide) (fun h33 => ?_) (fun h33 => ?_)
  · refine w_iload dX5_breaksOf_40 rfl ?_
    refine w_iload dX5_breaksOf_42 rfl ?_
    refine w_icmp_le (tgt := 52) (by omega) (by omega) dX5_breaksOf_44 (by decide) (fun h44 => ?_) (fun h44 => ?_)
    · refine w_iload dX5_breaksOf_52 rfl ?_
      exact w_iretP rfl dX5_breaksOf_54 (by refine ⟨?_, rfl, hfb⟩; unfold fb; rw [← hq.1]; omega)
    · refine w_iload dX5_breaksOf_47 rfl ?_
      refine w_goto (tgt := 54) dX5_breaksOf_49 (by decide) ?_
      exact w_iretP rfl dX5_breaksOf_54 (by refine ⟨?_, rfl, hfb⟩; unfold fb; rw [← hq.1]; omega)
  · refine w_iconst dX5_breaksOf_36 ?_
    refine w_goto (tgt := 54) dX5_breaksOf_37 (by decide) ?_
    exact w_iretP rfl dX5_breaksOf_54 (by refine ⟨?_, rfl, hfb⟩; unfold fb; rw [← hq.1]; omega)
set_option maxRecDepth 100000 in
set_option maxHeartbeats 4000000 in
theorem c_X5_breaksAll {g : gG} {l : Launch} {μ : gM} {s : Int} {r : Int} {w : Int} {v : gV} {n m : Int} (hMV : MV μ v n m) (hs : 0 ≤ s ∧ s < m) (hr : 0 ≤ r ∧ r < n) (hw : 0 ≤ w ∧ w ≤ 1) : CT g l YX5_breaksAll 4 [vR 167, vI s, vI r, vI w] μ (pI fun e μ2 => e = fB v s r w ∧ μ = μ2 ∧ 0 ≤ fB v s r w ∧ fB v s r w ≤ 36) := by
  refine CT.of (n := 0) (by decide) rfl ?_
  show WA g l YX5_breaksAll 4 _ 0 [some (vR 167), some (vI s), some (vI r), some (vI w)] [] μ
  refine w_aload_n dX5_breaksAll_0 rfl ?_
  refine w_iload_n dX5_breaksAll_1 rfl ?_
  refine w_iload_n dX5_breaksAll_2 rfl ?_
  refine w_iconst dX5_breaksAll_3 ?_
  refine w_iload_n dX5_breaksAll_4 rfl ?_
  refine w_cV4 kX5_breaksOf ml_X5_114 ob_167 rfl (Nat.le_of_ble_eq_true rfl) (by decide) dX5_breaksAll_5 (c_X5_breaksOf hMV (by omega) (by omega) (by omega) (by omega)) (kI (fun e5 m5 q5 => ?_))
  obtain ⟨rfl, rfl, b5⟩ := q5
  refine w_aload_n dX5_breaksAll_8 rfl ?_
  refine w_iload_n dX5_breaksAll_9 rfl ?_
  refine w_iload_n dX5_breaksAll_10 rfl ?_
  refine w_iconst dX5_breaksAll_11 ?_
  refine w_iload_n dX5_breaksAll_12 rfl ?_
  refine w_cV4 kX5_breaksOf ml_X5_114 ob_167 rfl (Nat.le_of_ble_eq_true rfl) (by decide) dX5_breaksAll_13 (c_X5_breaksOf hMV (by omega) (by omega) (by omega) (by omega)) (kI (fun e13 m13 q13 => ?_))
  obtain ⟨rfl, rfl, b13⟩ := q13
  refine w_iadd dX5_breaksAll_16 ?_
  exact w_iretP rfl dX5_breaksAll_17 (by exact ⟨rfl, rfl, fB_bd hMV.1.2.2.1.1 s r w⟩)
set_option maxRecDepth 100000 in
set_option maxHeartbeats 4000000 in
theorem c_X5_brokenBy {g : gG} {l : Launch} {μ : gM} {s : Int} {w : Int} {v : gV} {n m : Int} (hMV : MV μ v n m) (hs : 0 ≤ s ∧ s < m) (hw : 0 ≤ w ∧ w ≤ 1) : CT g l YX5_brokenBy 5 [vR 167, vI s, vI w] μ (pI fun e μ2 => e = fA v n s w ∧ μ = μ2 ∧ 0 ≤ fA v n s w ∧ fA v n s w ≤ 252) := by
  have hMG := hMV.1
  obtain ⟨g1, g2, gV, g4, g5⟩ := id hMG
  have hV := gV.1
  obtain ⟨-, n1, n2, n3, n4⟩ := id hMV
  refine CT.of (n := 2) (by decide) rfl ?_
  show WA g l YX5_brokenBy 5 _ 0 [some (vR 167), some (vI s), some (vI w), none, none] [] μ
  refine w_iconst dX5_brokenBy_0 ?_
  refine w_istore_n dX5_brokenBy_1 (by decide) rfl ?_
  refine w_iconst dX5_brokenBy_2 ?_
  refine w_istore dX5_brokenBy_3 (by decide) rfl ?_
  refine w_loop (ι := Int × Int) (fun i => match i with | (a, k) => 0 ≤ k ∧ k ≤ n ∧ a = sI (fun r => fB v s r w) k) (fun i => match i with | (a, k) => (n - k).toNat) (fun i => match i with | (a, k) => [some (vR 167), some (vI s), some (vI w), some (vI a), some (vI k)]) (fun i => match i with | (a, k) => μ) ?_ (0, 0) ⟨by omega, by omega, rfl⟩
  intro i_ hinv5 ih5
  obtain ⟨a, k⟩ := i_
  try dsimp only at hinv5 ih5 ⊢
  obtain ⟨h1, h2, h3⟩ := hinv5
  refine w_iload dX5_brokenBy_5 rfl ?_
  refine w_aload_n dX5_brokenBy_7 rfl ?_
  refine w_cV0 kX5_roofs ml_X5_54 ob_167 rfl (Nat.le_of_ble_eq_true rfl) (by decide) dX5_brokenBy_8 (c_X5_roofs) (kI (fun e8 m8 q8 => ?_))
  obtain ⟨rfl, rfl⟩ := q8
  refine w_icmp_ge (tgt := 31) (by omega) (by omega) dX5_brokenBy_11 (by decide) (fun h11 => ?_) (fun h11 => ?_)
  · refine w_iload_n dX5_brokenBy_31 rfl ?_
    exact w_iretP rfl dX5_brokenBy_32 (by have e0 : k = n := (by omega); subst e0; exact ⟨h3, rfl, fA_bd hV n2 s w⟩)
  · refine w_iload_n dX5_brokenBy_14 rfl ?_
    refine w_aload_n dX5_brokenBy_15 rfl ?_
    refine w_iload_n dX5_brokenBy_16 rfl ?_
    refine w_iload dX5_brokenBy_17 rfl ?_
    refine w_iload_n dX5_brokenBy_19 rfl ?_
    refine w_cV3 kX5_breaksAll ml_X5_118 ob_167 rfl (Nat.le_of_ble_eq_true rfl) (by decide) dX5_brokenBy_20 (c_X5_breaksAll hMV (by omega) (by omega) (by omega)) (kI (fun e20 m20 q20 => ?_))
    obtain ⟨rfl, rfl, b20⟩ := q20
    refine w_iadd dX5_brokenBy_23 ?_
    refine w_istore_n dX5_brokenBy_24 (by decide) rfl ?_
    refine w_iinc dX5_brokenBy_25 rfl (by decide) rfl ?_
    refine w_goto (tgt := 5) dX5_brokenBy_28 (by decide) ?_
    exact ih5 (_, _) ⟨by omega, by omega, by rw [sI_s _ h1, h3]⟩ (by omega)
set_option maxRecDepth 100000 in
set_option maxHeartbeats 4000000 in
theorem c_X5_winner {g : gG} {l : Launch} {μ : gM} {s : Int} {v : gV} {n m : Int} (hMV : MV μ v n m) (hs : 0 ≤ s ∧ s < m) : CT g l YX5_winner 6 [vR 167, vI s] μ (pI fun e μ2 => e = fW (fL v n s) ∧ μ = μ2 ∧ -1 ≤ e ∧ e ≤ 1) := by
  refine CT.of (n := 2) (by decide) rfl ?_
  show WA g l YX5_winner 6 _ 0 [some (vR 167), some (vI s), none, none] [] μ
  refine w_aload_n dX5_winner_0 rfl ?_
  refine w_iload_n dX5_winner_1 rfl ?_
  refine w_iconst dX5_winner_2 ?_
  refine w_cV2 kX5_brokenBy ml_X5_124 ob_167 rfl (Nat.le_of_ble_eq_true rfl) (by decide) dX5_winner_3 (c_X5_brokenBy hMV (by omega) (by omega)) (kI (fun e3 m3 q3 => ?_))
  obtain ⟨rfl, rfl, b3⟩ := q3
  refine w_istore_n dX5_winner_6 (by decide) rfl ?_
  refine w_aload_n dX5_winner_7 rfl ?_
  refine w_iload_n dX5_winner_8 rfl ?_
  refine w_iconst dX5_winner_9 ?_
  refine w_cV2 kX5_brokenBy ml_X5_124 ob_167 rfl (Nat.le_of_ble_eq_true rfl) (by decide) dX5_winner_10 (c_X5_brokenBy hMV (by omega) (by omega)) (kI (fun e10 m10 q10 => ?_))
  obtain ⟨rfl, rfl, b10⟩ := q10
  refine w_istore_n dX5_winner_13 (by decide) rfl ?_
  refine w_iload_n dX5_winner_14 rfl ?_
  refine w_iload_n dX5_winner_15 rfl ?_
  refine w_icmp_le (tgt := 23) (by omega) (by omega) dX5_winner_16 (by decide) (fun h16 => ?_) (fun h16 => ?_)
  · refine w_iload_n dX5_winner_23 rfl ?_
    refine w_iload_n dX5_winner_24 rfl ?_
    refine w_icmp_le (tgt := 32) (by omega) (by omega) dX5_winner_25 (by decide) (fun h25 => ?_) (fun h25 => ?_)
    · refine w_iconst dX5_winner_32 ?_
      exact w_iretP rfl dX5_winner_33 (by refine ⟨?_, rfl, ?_, ?_⟩; (rw [fL_A]; unfold fW; (repeat' split) <;> omega); omega; omega)
    · refine w_iconst dX5_winner_28 ?_
      refine w_goto (tgt := 33) dX5_winner_29 (by decide) ?_
      exact w_iretP rfl dX5_winner_33 (by refine ⟨?_, rfl, ?_, ?_⟩; (rw [fL_A]; unfold fW; (repeat' split) <;> omega); omega; omega)
  · refine w_iconst dX5_winner_19 ?_
    refine w_goto (tgt := 33) dX5_winner_20 (by decide) ?_
    exact w_iretP rfl dX5_winner_33 (by refine ⟨?_, rfl, ?_, ?_⟩; (rw [fL_A]; unfold fW; (repeat' split) <;> omega); omega; omega)
set_option maxRecDepth 100000 in
set_option maxHeartbeats 4000000 in
theorem c_X5_allChances {g : gG} {l : Launch} {μ : gM}  {v : gV} {m : Int} (hMG : MG μ v m) : CT g l YX5_allChances 1 [vR 167] μ (pI fun e μ2 => e = fC v m ∧ μ = μ2 ∧ 0 ≤ fC v m ∧ fC v m ≤ 54) := by
  obtain ⟨g1, g2, gV, g4, g5⟩ := id hMG
  have hV := gV.1
  refine CT.of (n := 2) (by decide) rfl ?_
  show WA g l YX5_allChances 1 _ 0 [some (vR 167), none, none] [] μ
  refine w_iconst dX5_allChances_0 ?_
  refine w_istore_n dX5_allChances_1 (by decide) rfl ?_
  refine w_iconst dX5_allChances_2 ?_
  refine w_istore_n dX5_allChances_3 (by decide) rfl ?_
  refine w_loop (ι := Int × Int) (fun i => match i with | (a, k) => 0 ≤ k ∧ k ≤ m ∧ a = sI (fun s => v 10 s) k) (fun i => match i with | (a, k) => (m - k).toNat) (fun i => match i with | (a, k) => [some (vR 167), some (vI a), some (vI k)]) (fun i => match i with | (a, k) => μ) ?_ (0, 0) ⟨by omega, by omega, rfl⟩
  intro i_ hinv4 ih4
  obtain ⟨a, k⟩ := i_
  try dsimp only at hinv4 ih4 ⊢
  obtain ⟨h1, h2, h3⟩ := hinv4
  refine w_iload_n dX5_allChances_4 rfl ?_
  refine w_aload_n dX5_allChances_5 rfl ?_
  refine w_cV0 kX5_storms ml_X5_62 ob_167 rfl (Nat.le_of_ble_eq_true rfl) (by decide) dX5_allChances_6 (c_X5_storms) (kI (fun e6 m6 q6 => ?_))
  obtain ⟨rfl, rfl⟩ := q6
  refine w_icmp_ge (tgt := 27) (by omega) (by omega) dX5_allChances_9 (by decide) (fun h9 => ?_) (fun h9 => ?_)
  · refine w_iload_n dX5_allChances_27 rfl ?_
    exact w_iretP rfl dX5_allChances_28 (by have e0 : k = m := (by omega); subst e0; exact ⟨h3, rfl, fC_bd hV g2⟩)
  · refine w_iload_n dX5_allChances_12 rfl ?_
    refine w_aload_n dX5_allChances_13 rfl ?_
    refine w_iload_n dX5_allChances_14 rfl ?_
    refine w_iconst dX5_allChances_15 ?_
    refine w_cV2 kX5_of ml_X5_97 ob_167 rfl (Nat.le_of_ble_eq_true rfl) (by decide) dX5_allChances_16 (c_X5_of (by omega) (by omega)) (kI (fun e16 m16 q16 => ?_))
    obtain ⟨rfl, rfl⟩ := q16
    refine w_iadd dX5_allChances_19 ?_
    refine w_istore_n dX5_allChances_20 (by decide) rfl ?_
    refine w_iinc dX5_allChances_21 rfl (by decide) rfl ?_
    refine w_goto (tgt := 4) dX5_allChances_24 (by decide) ?_
    exact ih4 (_, _) ⟨by omega, by omega, by rw [sI_s _ h1, ← h3, (g4 k (by omega) (by omega)).2.2.2.2]⟩ (by omega)
set_option maxRecDepth 100000 in
set_option maxHeartbeats 4000000 in
theorem c_X5_chanceOf {g : gG} {l : Launch} {μ : gM} {who : Int} {v : gV} {n m : Int} (hMV : MV μ v n m) (hwh : -1 ≤ who ∧ who ≤ 1) : CT g l YX5_chanceOf 7 [vR 167, vI who] μ (pI fun e μ2 => e = fO v n m who ∧ μ = μ2 ∧ 0 ≤ fO v n m who ∧ fO v n m who ≤ 54) := by
  have hMG := hMV.1
  obtain ⟨g1, g2, gV, g4, g5⟩ := id hMG
  have hV := gV.1
  obtain ⟨-, n1, n2, n3, n4⟩ := id hMV
  refine CT.of (n := 2) (by decide) rfl ?_
  show WA g l YX5_chanceOf 7 _ 0 [some (vR 167), some (vI who), none, none] [] μ
  refine w_iconst dX5_chanceOf_0 ?_
  refine w_istore_n dX5_chanceOf_1 (by decide) rfl ?_
  refine w_iconst dX5_chanceOf_2 ?_
  refine w_istore_n dX5_chanceOf_3 (by decide) rfl ?_
  refine w_loop (ι := Int × Int) (fun i => match i with | (a, k) => 0 ≤ k ∧ k ≤ m ∧ a = sI (fun s => if fW (fL v n s) = who then v 10 s else 0) k) (fun i => match i with | (a, k) => (m - k).toNat) (fun i => match i with | (a, k) => [some (vR 167), some (vI who), some (vI a), some (vI k)]) (fun i => match i with | (a, k) => μ) ?_ (0, 0) ⟨by omega, by omega, rfl⟩
  intro i_ hinv4 ih4
  obtain ⟨a, k⟩ := i_
  try dsimp only at hinv4 ih4 ⊢
  obtain ⟨h1, h2, h3⟩ := hinv4
  refine w_iload_n dX5_chanceOf_4 rfl ?_
  refine w_aload_n dX5_chanceOf_5 rfl ?_
  refine w_cV0 kX5_storms ml_X5_62 ob_167 rfl (Nat.le_of_ble_eq_true rfl) (by decide) dX5_chanceOf_6 (c_X5_storms) (kI (fun e6 m6 q6 => ?_))
  obtain ⟨rfl, rfl⟩ := q6
  refine w_icmp_ge (tgt := 40) (by omega) (by omega) dX5_chanceOf_9 (by decide) (fun h9 => ?_) (fun h9 => ?_)
  · refine w_iload_n dX5_chanceOf_40 rfl ?_
    exact w_iretP rfl dX5_chanceOf_41 (by have e0 : k = m := (by omega); subst e0; exact ⟨h3, rfl, fO_bd hV g2 _ _⟩)
  · refine w_iload_n dX5_chanceOf_12 rfl ?_
    refine w_aload_n dX5_chanceOf_13 rfl ?_
    refine w_iload_n dX5_chanceOf_14 rfl ?_
    refine w_cV1 kX5_winner ml_X5_127 ob_167 rfl (Nat.le_of_ble_eq_true rfl) (by decide) dX5_chanceOf_15 (c_X5_winner hMV (by omega)) (kI (fun e15 m15 q15 => ?_))
    obtain ⟨rfl, rfl, b15⟩ := q15
    refine w_iload_n dX5_chanceOf_18 rfl ?_
    refine w_icmp_ne (tgt := 31) (by omega) (by omega) dX5_chanceOf_19 (by decide) (fun h19 => ?_) (fun h19 => ?_)
    · refine w_iconst dX5_chanceOf_31 ?_
      refine w_iadd dX5_chanceOf_32 ?_
      refine w_istore_n dX5_chanceOf_33 (by decide) rfl ?_
      refine w_iinc dX5_chanceOf_34 rfl (by decide) rfl ?_
      refine w_goto (tgt := 4) dX5_chanceOf_37 (by decide) ?_
      exact ih4 (_, _) ⟨by omega, by omega, by rw [sI_s _ h1, ← h3]; try dsimp only; have q := (g4 k (by omega) (by omega)).2.2.2.2; split <;> omega⟩ (by omega)
    · refine w_aload_n dX5_chanceOf_22 rfl ?_
      refine w_iload_n dX5_chanceOf_23 rfl ?_
      refine w_iconst dX5_chanceOf_24 ?_
      refine w_cV2 kX5_of ml_X5_97 ob_167 rfl (Nat.le_of_ble_eq_true rfl) (by decide) dX5_chanceOf_25 (c_X5_of (by omega) (by omega)) (kI (fun e25 m25 q25 => ?_))
      obtain ⟨rfl, rfl⟩ := q25
      refine w_goto (tgt := 32) dX5_chanceOf_28 (by decide) ?_
      refine w_iadd dX5_chanceOf_32 ?_
      refine w_istore_n dX5_chanceOf_33 (by decide) rfl ?_
      refine w_iinc dX5_chanceOf_34 rfl (by decide) rfl ?_
      refine w_goto (tgt := 4) dX5_chanceOf_37 (by decide) ?_
      exact ih4 (_, _) ⟨by omega, by omega, by rw [sI_s _ h1, ← h3]; try dsimp only; have q := (g4 k (by omega) (by omega)).2.2.2.2; split <;> omega⟩ (by omega)
