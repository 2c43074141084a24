set_option maxRecDepth 100000 in
set_option maxHeartbeats 4000000 in
theorem c_X4_within {g : gG} {l : Launch} {μ : gM} {v : Int} {a : Int} {b : Int}  (g1 : -2147483648 ≤ v ∧ v < 2147483648) (g2 : -2147483648 ≤ a ∧ a < 2147483648) (g3 : -2147483648 ≤ b ∧ b < 2147483648) : CT g l YX4_within 0 [vI v, vI a, vI b] μ (pI fun e μ2 => ((e = 1 ∧ a ≤ v ∧ v ≤ b) ∨ (e = 0 ∧ ¬ (a ≤ v ∧ v ≤ b))) ∧ μ = μ2) := by
  refine CT.of (n := 0) (by decide) rfl ?_
  show WA g l YX4_within 0 _ 0 [some (vI v), some (vI a), some (vI b)] [] μ
  refine w_iload_n dX4_within_0 rfl ?_
  refine w_iload_n dX4_within_1 rfl ?_
  refine w_icmp_lt (tgt := 14) (by omega) (by omega) dX4_within_2 (by decide) (fun h2 => ?_) (fun h2 => ?_)
  · refine w_iconst dX4_within_14 ?_
    exact w_zretP rfl dX4_within_15 (by omega) (by refine ⟨?_, rfl⟩; omega)
  · refine w_iload_n dX4_within_5 rfl ?_
    refine w_iload_n dX4_within_6 rfl ?_
    refine w_icmp_gt (tgt := 14) (by omega) (by omega) dX4_within_7 (by decide) (fun h7 => ?_) (fun h7 => ?_)
    · refine w_iconst dX4_within_14 ?_
      exact w_zretP rfl dX4_within_15 (by omega) (by refine ⟨?_, rfl⟩; omega)
    · refine w_iconst dX4_within_10 ?_
      refine w_goto (tgt := 15) dX4_within_11 (by decide) ?_
      exact w_zretP rfl dX4_within_15 (by omega) (by refine ⟨?_, rfl⟩; omega)
set_option maxRecDepth 100000 in
set_option maxHeartbeats 4000000 in
theorem c_X4_isPaint {g : gG} {l : Launch} {μ : gM} {v : Int}  (g1 : -2147483648 ≤ v ∧ v < 2147483648) : CT g l YX4_isPaint 0 [vI v] μ (pI fun e μ2 => ((e = 1 ∧ (v = 0 ∨ v = 1)) ∨ (e = 0 ∧ ¬ ((v = 0 ∨ v = 1)))) ∧ μ = μ2) := by
  refine CT.of (n := 0) (by decide) rfl ?_
  show WA g l YX4_isPaint 0 _ 0 [some (vI v)] [] μ
  refine w_iload_n dX4_isPaint_0 rfl ?_
  refine w_if_eq (tgt := 9) (by omega) dX4_isPaint_1 (by decide) (fun h1 => ?_) (fun h1 => ?_)
  · refine w_iconst dX4_isPaint_9 ?_
    refine w_goto (tgt := 14) dX4_isPaint_10 (by decide) ?_
    exact w_zretP rfl dX4_isPaint_14 (by omega) (by refine ⟨?_, rfl⟩; omega)
  · refine w_iload_n dX4_isPaint_4 rfl ?_
    refine w_iconst dX4_isPaint_5 ?_
    refine w_icmp_ne (tgt := 13) (by omega) (by omega) dX4_isPaint_6 (by decide) (fun h6 => ?_) (fun h6 => ?_)
    · refine w_iconst dX4_isPaint_13 ?_
      exact w_zretP rfl dX4_isPaint_14 (by omega) (by refine ⟨?_, rfl⟩; omega)
    · refine w_iconst dX4_isPaint_9 ?_
      refine w_goto (tgt := 14) dX4_isPaint_10 (by decide) ?_
      exact w_zretP rfl dX4_isPaint_14 (by omega) (by refine ⟨?_, rfl⟩; omega)
set_option maxRecDepth 100000 in
set_option maxHeartbeats 4000000 in
theorem c_X4_areTiles {g : gG} {l : Launch} {μ : gM} {v : Int} {w : Int}  (g1 : -2147483648 ≤ v ∧ v < 2147483648) (g2 : -2147483648 ≤ w ∧ w < 2147483648) : CT g l YX4_areTiles 1 [vI v, vI w] μ (pI fun e μ2 => ((e = 1 ∧ 0 ≤ v ∧ v ≤ 9 ∧ 0 ≤ w ∧ w ≤ 9) ∨ (e = 0 ∧ ¬ (0 ≤ v ∧ v ≤ 9 ∧ 0 ≤ w ∧ w ≤ 9))) ∧ μ = μ2) := by
  refine CT.of (n := 0) (by decide) rfl ?_
  show WA g l YX4_areTiles 1 _ 0 [some (vI v), some (vI w)] [] μ
  refine w_iload_n dX4_areTiles_0 rfl ?_
  refine w_iconst dX4_areTiles_1 ?_
  refine w_bipush dX4_areTiles_2 (by decide) ?_
  refine w_cS3 kX4_within ml_X4_43 (Nat.le_of_ble_eq_true rfl) (by decide) dX4_areTiles_4 (c_X4_within (by omega) (by omega) (by omega)) (kI (fun e4 m4 q4 => ?_))
  obtain ⟨q4, rfl⟩ := q4
  refine w_if_eq (tgt := 24) (by omega) dX4_areTiles_7 (by decide) (fun h7 => ?_) (fun h7 => ?_)
  · refine w_iconst dX4_areTiles_24 ?_
    exact w_zretP rfl dX4_areTiles_25 (by omega) (by refine ⟨?_, rfl⟩; omega)
  · refine w_iload_n dX4_areTiles_10 rfl ?_
    refine w_iconst dX4_areTiles_11 ?_
    refine w_bipush dX4_areTiles_12 (by decide) ?_
    refine w_cS3 kX4_within ml_X4_43 (Nat.le_of_ble_eq_true rfl) (by decide) dX4_areTiles_14 (c_X4_within (by omega) (by omega) (by omega)) (kI (fun e14 m14 q14 => ?_))
    obtain ⟨q14, rfl⟩ := q14
    refine w_if_eq (tgt := 24) (by omega) dX4_areTiles_17 (by decide) (fun h17 => ?_) (fun h17 => ?_)
    · refine w_iconst dX4_areTiles_24 ?_
      exact w_zretP rfl dX4_areTiles_25 (by omega) (by refine ⟨?_, rfl⟩; omega)
    · refine w_iconst dX4_areTiles_20 ?_
      refine w_goto (tgt := 25) dX4_areTiles_21 (by decide) ?_
      exact w_zretP rfl dX4_areTiles_25 (by omega) (by refine ⟨?_, rfl⟩; omega)
set_option maxRecDepth 100000 in
set_option maxHeartbeats 4000000 in
theorem c_X4_isRoof {g : gG} {l : Launch} {μ : gM} {v : Int}  (g1 : -2147483648 ≤ v ∧ v < 2147483648) (hI : CI μ 3) : CT g l YX4_isRoof 1 [vR 0, vI v] μ (pI fun e μ2 => ((e = 1 ∧ 0 ≤ v ∧ v < μ 3 0) ∨ (e = 0 ∧ ¬ (0 ≤ v ∧ v < μ 3 0))) ∧ μ = μ2) := by
  have hN := CI_roofs hI
  have hM := CI_storms hI
  have hV := CI.VI hI
  refine CT.of (n := 0) (by decide) rfl ?_
  show WA g l YX4_isRoof 1 _ 0 [some (vR 0), some (vI v)] [] μ
  refine w_iload_n dX4_isRoof_0 rfl ?_
  refine w_iconst dX4_isRoof_1 ?_
  refine w_aload_n dX4_isRoof_2 rfl ?_
  refine gf_X4_10 rfl dX4_isRoof_3 ?_
  refine gf_X4_55_1 rfl dX4_isRoof_6 ?_
  refine gf_X4_58 rfl (cnO cn3) dX4_isRoof_9 ?_
  refine w_iconst dX4_isRoof_12 ?_
  refine w_isub dX4_isRoof_13 ?_
  refine w_cS3 kX4_within ml_X4_43 (Nat.le_of_ble_eq_true rfl) (by decide) dX4_isRoof_14 (c_X4_within (by omega) (by omega) (by omega)) (kI (fun e14 m14 q14 => ?_))
  obtain ⟨q14, rfl⟩ := q14
  exact w_zretP rfl dX4_isRoof_17 (by omega) (by refine ⟨?_, rfl⟩; omega)
set_option maxRecDepth 100000 in
set_option maxHeartbeats 4000000 in
theorem c_X4_isStorm {g : gG} {l : Launch} {μ : gM} {v : Int}  (g1 : -2147483648 ≤ v ∧ v < 2147483648) (hI : CI μ 3) : CT g l YX4_isStorm 1 [vR 0, vI v] μ (pI fun e μ2 => ((e = 1 ∧ 0 ≤ v ∧ v < μ 3 1) ∨ (e = 0 ∧ ¬ (0 ≤ v ∧ v < μ 3 1))) ∧ μ = μ2) := by
  have hN := CI_roofs hI
  have hM := CI_storms hI
  have hV := CI.VI hI
  refine CT.of (n := 0) (by decide) rfl ?_
  show WA g l YX4_isStorm 1 _ 0 [some (vR 0), some (vI v)] [] μ
  refine w_iload_n dX4_isStorm_0 rfl ?_
  refine w_iconst dX4_isStorm_1 ?_
  refine w_aload_n dX4_isStorm_2 rfl ?_
  refine gf_X4_10 rfl dX4_isStorm_3 ?_
  refine gf_X4_55_1 rfl dX4_isStorm_6 ?_
  refine gf_X4_66 rfl (cnO cn3) dX4_isStorm_9 ?_
  refine w_iconst dX4_isStorm_12 ?_
  refine w_isub dX4_isStorm_13 ?_
  refine w_cS3 kX4_within ml_X4_43 (Nat.le_of_ble_eq_true rfl) (by decide) dX4_isStorm_14 (c_X4_within (by omega) (by omega) (by omega)) (kI (fun e14 m14 q14 => ?_))
  obtain ⟨q14, rfl⟩ := q14
  exact w_zretP rfl dX4_isStorm_17 (by omega) (by refine ⟨?_, rfl⟩; omega)
set_option maxRecDepth 100000 in
set_option maxHeartbeats 4000000 in
theorem c_refB {g : gG} {l : Launch} {μ : gM}    : CT g l YX4_refuse 0 [vR 0, vI ((-2))] μ (pI fun e μ2 => e = (-2) ∧ μ2 = bad μ) := by
  refine CT.of (n := 0) (by decide) rfl ?_
  show WA g l YX4_refuse 0 _ 0 [some (vR 0), some (vI ((-2)))] [] μ
  refine w_iload_n dX4_refuse_0 rfl ?_
  refine w_bipush dX4_refuse_1 (by decide) ?_
  refine w_icmp_ne (tgt := 19) (by omega) (by omega) dX4_refuse_3 (by decide) (fun h3 => ?_) (fun h3 => ?_)
  · refine w_iload_n dX4_refuse_19 rfl ?_
    refine w_bipush dX4_refuse_20 (by decide) ?_
    refine w_icmp_ne (tgt := 38) (by omega) (by omega) dX4_refuse_22 (by decide) (fun h22 => ?_) (fun h22 => ?_)
    · refine w_aload_n dX4_refuse_38 rfl ?_
      refine w_dup_a dX4_refuse_39 ?_
      refine gf_X4_222 rfl dX4_refuse_40 ?_
      refine w_iconst dX4_refuse_43 ?_
      refine w_iadd dX4_refuse_44 ?_
      refine pf_X4_222 rfl dX4_refuse_45 ?_
      refine w_iload_n dX4_refuse_48 rfl ?_
      exact w_iretP rfl dX4_refuse_49 (by first | exact ⟨rfl, rfl⟩ | (exfalso; omega))
    · refine w_aload_n dX4_refuse_25 rfl ?_
      refine w_dup_a dX4_refuse_26 ?_
      refine gf_X4_219 rfl dX4_refuse_27 ?_
      refine w_iconst dX4_refuse_30 ?_
      refine w_iadd dX4_refuse_31 ?_
      refine pf_X4_219 rfl dX4_refuse_32 ?_
      refine w_goto (tgt := 48) dX4_refuse_35 (by decide) ?_
      refine w_iload_n dX4_refuse_48 rfl ?_
      exact w_iretP rfl dX4_refuse_49 (by first | exact ⟨rfl, rfl⟩ | (exfalso; omega))
  · refine w_aload_n dX4_refuse_6 rfl ?_
    refine w_dup_a dX4_refuse_7 ?_
    refine gf_X4_216 rfl dX4_refuse_8 ?_
    refine w_iconst dX4_refuse_11 ?_
    refine w_iadd dX4_refuse_12 ?_
    refine pf_X4_216 rfl dX4_refuse_13 ?_
    refine w_goto (tgt := 48) dX4_refuse_16 (by decide) ?_
    refine w_iload_n dX4_refuse_48 rfl ?_
    exact w_iretP rfl dX4_refuse_49 (by first | exact ⟨rfl, rfl⟩ | (exfalso; omega))
set_option maxRecDepth 100000 in
set_option maxHeartbeats 4000000 in
theorem c_refN {g : gG} {l : Launch} {μ : gM}    : CT g l YX4_refuse 0 [vR 0, vI ((-3))] μ (pI fun e μ2 => e = (-3) ∧ μ2 = nop μ) := by
  refine CT.of (n := 0) (by decide) rfl ?_
  show WA g l YX4_refuse 0 _ 0 [some (vR 0), some (vI ((-3)))] [] μ
  refine w_iload_n dX4_refuse_0 rfl ?_
  refine w_bipush dX4_refuse_1 (by decide) ?_
  refine w_icmp_ne (tgt := 19) (by omega) (by omega) dX4_refuse_3 (by decide) (fun h3 => ?_) (fun h3 => ?_)
  · refine w_iload_n dX4_refuse_19 rfl ?_
    refine w_bipush dX4_refuse_20 (by decide) ?_
    refine w_icmp_ne (tgt := 38) (by omega) (by omega) dX4_refuse_22 (by decide) (fun h22 => ?_) (fun h22 => ?_)
    · refine w_aload_n dX4_refuse_38 rfl ?_
      refine w_dup_a dX4_refuse_39 ?_
      refine gf_X4_222 rfl dX4_refuse_40 ?_
      refine w_iconst dX4_refuse_43 ?_
      refine w_iadd dX4_refuse_44 ?_
      refine pf_X4_222 rfl dX4_refuse_45 ?_
      refine w_iload_n dX4_refuse_48 rfl ?_
      exact w_iretP rfl dX4_refuse_49 (by first | exact ⟨rfl, rfl⟩ | (exfalso; omega))
    · refine w_aload_n dX4_refuse_25 rfl ?_
      refine w_dup_a dX4_refuse_26 ?_
      refine gf_X4_219 rfl dX4_refuse_27 ?_
      refine w_iconst dX4_refuse_30 ?_
      refine w_iadd dX4_refuse_31 ?_
      refine pf_X4_219 rfl dX4_refuse_32 ?_
      refine w_goto (tgt := 48) dX4_refuse_35 (by decide) ?_
      refine w_iload_n dX4_refuse_48 rfl ?_
      exact w_iretP rfl dX4_refuse_49 (by first | exact ⟨rfl, rfl⟩ | (exfalso; omega))
  · refine w_aload_n dX4_refuse_6 rfl ?_
    refine w_dup_a dX4_refuse_7 ?_
    refine gf_X4_216 rfl dX4_refuse_8 ?_
    refine w_iconst dX4_refuse_11 ?_
    refine w_iadd dX4_refuse_12 ?_
    refine pf_X4_216 rfl dX4_refuse_13 ?_
    refine w_goto (tgt := 48) dX4_refuse_16 (by decide) ?_
    refine w_iload_n dX4_refuse_48 rfl ?_
    exact w_iretP rfl dX4_refuse_49 (by first | exact ⟨rfl, rfl⟩ | (exfalso; omega))
set_option maxRecDepth 100000 in
set_option maxHeartbeats 4000000 in
theorem c_refF {g : gG} {l : Launch} {μ : gM}    : CT g l YX4_refuse 0 [vR 0, vI ((-4))] μ (pI fun e μ2 => e = (-4) ∧ μ2 = ful μ) := by
  refine CT.of (n := 0) (by decide) rfl ?_
  show WA g l YX4_refuse 0 _ 0 [some (vR 0), some (vI ((-4)))] [] μ
  refine w_iload_n dX4_refuse_0 rfl ?_
  refine w_bipush dX4_refuse_1 (by decide) ?_
  refine w_icmp_ne (tgt := 19) (by omega) (by omega) dX4_refuse_3 (by decide) (fun h3 => ?_) (fun h3 => ?_)
  · refine w_iload_n dX4_refuse_19 rfl ?_
    refine w_bipush dX4_refuse_20 (by decide) ?_
    refine w_icmp_ne (tgt := 38) (by omega) (by omega) dX4_refuse_22 (by decide) (fun h22 => ?_) (fun h22 => ?_)
    · refine w_aload_n dX4_refuse_38 rfl ?_
      refine w_dup_a dX4_refuse_39 ?_
      refine gf_X4_222 rfl dX4_refuse_40 ?_
      refine w_iconst dX4_refuse_43 ?_
      refine w_iadd dX4_refuse_44 ?_
      refine pf_X4_222 rfl dX4_refuse_45 ?_
      refine w_iload_n dX4_refuse_48 rfl ?_
      exact w_iretP rfl dX4_refuse_49 (by first | exact ⟨rfl, rfl⟩ | (exfalso; omega))
    · refine w_aload_n dX4_refuse_25 rfl ?_
      refine w_dup_a dX4_refuse_26 ?_
      refine gf_X4_219 rfl dX4_refuse_27 ?_
      refine w_iconst dX4_refuse_30 ?_
      refine w_iadd dX4_refuse_31 ?_
      refine pf_X4_219 rfl dX4_refuse_32 ?_
      refine w_goto (tgt := 48) dX4_refuse_35 (by decide) ?_
      refine w_iload_n dX4_refuse_48 rfl ?_
      exact w_iretP rfl dX4_refuse_49 (by first | exact ⟨rfl, rfl⟩ | (exfalso; omega))
  · refine w_aload_n dX4_refuse_6 rfl ?_
    refine w_dup_a dX4_refuse_7 ?_
    refine gf_X4_216 rfl dX4_refuse_8 ?_
    refine w_iconst dX4_refuse_11 ?_
    refine w_iadd dX4_refuse_12 ?_
    refine pf_X4_216 rfl dX4_refuse_13 ?_
    refine w_goto (tgt := 48) dX4_refuse_16 (by decide) ?_
    refine w_iload_n dX4_refuse_48 rfl ?_
    exact w_iretP rfl dX4_refuse_49 (by first | exact ⟨rfl, rfl⟩ | (exfalso; omega))
set_option maxRecDepth 100000 in
set_option maxHeartbeats 4000000 in
theorem c_X4_roof {g : gG} {l : Launch} {μ : gM} {k : Int} {a : Int} {b0 : Int} {n0 : Int} {b1 : Int} {n1 : Int}  (g0 : -2147483648 ≤ k ∧ k < 2147483648) (g1 : -2147483648 ≤ a ∧ a < 2147483648) (g2 : -2147483648 ≤ b0 ∧ b0 < 2147483648) (g3 : -2147483648 ≤ n0 ∧ n0 < 2147483648) (g4 : -2147483648 ≤ b1 ∧ b1 < 2147483648) (g5 : -2147483648 ≤ n1 ∧ n1 < 2147483648) (hI : CI μ 3) : CT g l YX4_roof 2 [vR 0, vI k, vI a, vI b0, vI n0, vI b1, vI n1] μ (pI fun e μ2 => (¬ (0 ≤ k ∧ k ≤ 5 ∧ 0 ≤ a ∧ a ≤ 9 ∧ 0 ≤ b0 ∧ b0 ≤ 9 ∧ 0 ≤ n0 ∧ n0 ≤ 9 ∧ 0 ≤ b1 ∧ b1 ≤ 9 ∧ 0 ≤ n1 ∧ n1 ≤ 9) ∧ e = -2 ∧ μ2 = bad μ) ∨ ((0 ≤ k ∧ k ≤ 5 ∧ 0 ≤ a ∧ a ≤ 9 ∧ 0 ≤ b0 ∧ b0 ≤ 9 ∧ 0 ≤ n0 ∧ n0 ≤ 9 ∧ 0 ≤ b1 ∧ b1 ≤ 9 ∧ 0 ≤ n1 ∧ n1 ≤ 9) ∧ μ 3 0 = 7 ∧ e = -4 ∧ μ2 = ful μ) ∨ ((0 ≤ k ∧ k ≤ 5 ∧ 0 ≤ a ∧ a ≤ 9 ∧ 0 ≤ b0 ∧ b0 ≤ 9 ∧ 0 ≤ n0 ∧ n0 ≤ 9 ∧ 0 ≤ b1 ∧ b1 ≤ 9 ∧ 0 ≤ n1 ∧ n1 ≤ 9) ∧ μ 3 0 < 7 ∧ e = μ 3 0 ∧ μ2 = mAR μ 3 (μ 3 0) k a b0 n0 b1 n1)) := by
  have hN := CI_roofs hI
  have hM := CI_storms hI
  have hV := CI.VI hI
  refine CT.of (n := 1) (by decide) rfl ?_
  show WA g l YX4_roof 2 _ 0 [some (vR 0), some (vI k), some (vI a), some (vI b0), some (vI n0), some (vI b1), some (vI n1), none] [] μ
  refine w_iload_n dX4_roof_0 rfl ?_
  refine w_iconst dX4_roof_1 ?_
  refine w_iconst dX4_roof_2 ?_
  refine w_cS3 kX4_within ml_X4_43 (Nat.le_of_ble_eq_true rfl) (by decide) dX4_roof_3 (c_X4_within (by omega) (by omega) (by omega)) (kI (fun e3 m3 q3 => ?_))
  obtain ⟨q3, rfl⟩ := q3
  refine w_if_eq (tgt := 42) (by omega) dX4_roof_6 (by decide) (fun h6 => ?_) (fun h6 => ?_)
  · refine w_iconst dX4_roof_42 ?_
    refine w_istore dX4_roof_43 (by decide) rfl ?_
    refine w_iload dX4_roof_45 rfl ?_
    refine w_if_ne (tgt := 57) (by omega) dX4_roof_47 (by decide) (fun h47 => ?_) (fun h47 => ?_)
    · refine w_aload_n dX4_roof_57 rfl ?_
      refine gf_X4_10 rfl dX4_roof_58 ?_
      refine gf_X4_55_1 rfl dX4_roof_61 ?_
      refine gf_X4_58 rfl (cnO cn3) dX4_roof_64 ?_
      refine w_bipush dX4_roof_67 (by decide) ?_
      refine w_icmp_lt (tgt := 79) (by omega) (by omega) dX4_roof_69 (by decide) (fun h69 => ?_) (fun h69 => ?_)
      · refine w_aload_n dX4_roof_79 rfl ?_
        refine gf_X4_10 rfl dX4_roof_80 ?_
        refine gf_X4_55_1 rfl dX4_roof_83 ?_
        refine w_iload_n dX4_roof_86 rfl ?_
        refine w_iload_n dX4_roof_87 rfl ?_
        refine w_iload_n dX4_roof_88 rfl ?_
        refine w_iload dX4_roof_89 rfl ?_
        refine w_iload dX4_roof_91 rfl ?_
        refine w_iload dX4_roof_93 rfl ?_
        refine w_cV6 kX0_addRoof ml_X4_62 (cnO cn3) rfl (Nat.le_of_ble_eq_true rfl) (by decide) dX4_roof_95 (c_X0_addRoof cn3 (by omega)) (kI (fun e95 m95 q95 => ?_))
        obtain q95 := q95
        exact w_iretP rfl dX4_roof_98 (by rcases q95 with ⟨rfl, z1, rfl⟩ | ⟨rfl, z1, rfl⟩; exfalso; omega; exact Or.inr (Or.inr ⟨by omega, z1, rfl, rfl⟩))
      · refine w_aload_n dX4_roof_72 rfl ?_
        refine w_bipush dX4_roof_73 (by decide) ?_
        refine w_cV1 kX4_refuse ml_X4_51 ob_0 rfl (Nat.le_of_ble_eq_true rfl) (by decide) dX4_roof_75 (c_refF) (kI (fun e75 m75 q75 => ?_))
        obtain ⟨rfl, rfl⟩ := q75
        exact w_iretP rfl dX4_roof_78 (by first | exact Or.inl (⟨by omega, rfl, rfl⟩) | exact Or.inr (Or.inl (⟨by omega, by omega, rfl, rfl⟩)) | (exfalso; omega))
    · refine w_aload_n dX4_roof_50 rfl ?_
      refine w_bipush dX4_roof_51 (by decide) ?_
      refine w_cV1 kX4_refuse ml_X4_51 ob_0 rfl (Nat.le_of_ble_eq_true rfl) (by decide) dX4_roof_53 (c_refB) (kI (fun e53 m53 q53 => ?_))
      obtain ⟨rfl, rfl⟩ := q53
      exact w_iretP rfl dX4_roof_56 (by first | exact Or.inl (⟨by omega, rfl, rfl⟩) | exact Or.inr (Or.inl (⟨by omega, by omega, rfl, rfl⟩)) | (exfalso; omega))
  · refine w_iload_n dX4_roof_9 rfl ?_
    refine w_iconst dX4_roof_10 ?_
    refine w_bipush dX4_roof_11 (by decide) ?_
    refine w_cS3 kX4_within ml_X4_43 (Nat.le_of_ble_eq_true rfl) (by decide) dX4_roof_13 (c_X4_within (by omega) (by omega) (by omega)) (kI (fun e13 m13 q13 => ?_))
    obtain ⟨q13, rfl⟩ := q13
    refine w_if_eq (tgt := 42) (by omega) dX4_roof_16 (by decide) (fun h16 => ?_) (fun h16 => ?_)
    · refine w_iconst dX4_roof_42 ?_
      refine w_istore dX4_roof_43 (by decide) rfl ?_
      refine w_iload dX4_roof_45 rfl ?_
      refine w_if_ne (tgt := 57) (by omega) dX4_roof_47 (by decide) (fun h47 => ?_) (fun h47 => ?_)
      · refine w_aload_n dX4_roof_57 rfl ?_
        refine gf_X4_10 rfl dX4_roof_58 ?_
        refine gf_X4_55_1 rfl dX4_roof_61 ?_
        refine gf_X4_58 rfl (cnO cn3) dX4_roof_64 ?_
        refine w_bipush dX4_roof_67 (by decide) ?_
        refine w_icmp_lt (tgt := 79) (by omega) (by omega) dX4_roof_69 (by decide) (fun h69 => ?_) (fun h69 => ?_)
        · refine w_aload_n dX4_roof_79 rfl ?_
          refine gf_X4_10 rfl dX4_roof_80 ?_
          refine gf_X4_55_1 rfl dX4_roof_83 ?_
          refine w_iload_n dX4_roof_86 rfl ?_
          refine w_iload_n dX4_roof_87 rfl ?_
          refine w_iload_n dX4_roof_88 rfl ?_
          refine w_iload dX4_roof_89 rfl ?_
          refine w_iload dX4_roof_91 rfl ?_
          refine w_iload dX4_roof_93 rfl ?_
          refine w_cV6 kX0_addRoof ml_X4_62 (cnO cn3) rfl (Nat.le_of_ble_eq_true rfl) (by decide) dX4_roof_95 (c_X0_addRoof cn3 (by omega)) (kI (fun e95 m95 q95 => ?_))
          obtain q95 := q95
          exact w_iretP rfl dX4_roof_98 (by rcases q95 with ⟨rfl, z1, rfl⟩ | ⟨rfl, z1, rfl⟩; exfalso; omega; exact Or.inr (Or.inr ⟨by omega, z1, rfl, rfl⟩))
        · refine w_aload_n dX4_roof_72 rfl ?_
          refine w_bipush dX4_roof_73 (by decide) ?_
          refine w_cV1 kX4_refuse ml_X4_51 ob_0 rfl (Nat.le_of_ble_eq_true rfl) (by decide) dX4_roof_75 (c_refF) (kI (fun e75 m75 q75 => ?_))
          obtain ⟨rfl, rfl⟩ := q75
          exact w_iretP rfl dX4_roof_78 (by first | exact Or.inl (⟨by omega, rfl, rfl⟩) | exact Or.inr (Or.inl (⟨by omega, by omega, rfl, rfl⟩)) | (exfalso; omega))
      · refine w_aload_n dX4_roof_50 rfl ?_
        refine w_bipush dX4_roof_51 (by decide) ?_
        refine w_cV1 kX4_refuse ml_X4_51 ob_0 rfl (Nat.le_of_ble_eq_true rfl) (by decide) dX4_roof_53 (c_refB) (kI (fun e53 m53 q53 => ?_))
        obtain ⟨rfl, rfl⟩ := q53
        exact w_iretP rfl dX4_roof_56 (by first | exact Or.inl (⟨by omega, rfl, rfl⟩) | exact Or.inr (Or.inl (⟨by omega, by omega, rfl, rfl⟩)) | (exfalso; omega))
    · refine w_iload_n dX4_roof_19 rfl ?_
      refine w_iload dX4_roof_20 rfl ?_
      refine w_cS2 kX4_areTiles ml_X4_47 (Nat.le_of_ble_eq_true rfl) (by decide) dX4_roof_22 (c_X4_areTiles (by omega) (by omega)) (kI (fun e22 m22 q22 => ?_))
      obtain ⟨q22, rfl⟩ := q22
      refine w_if_eq (tgt := 42) (by omega) dX4_roof_25 (by decide) (fun h25 => ?_) (fun h25 => ?_)
      · refine w_iconst dX4_roof_42 ?_
        refine w_istore dX4_roof_43 (by decide) rfl ?_
        refine w_iload dX4_roof_45 rfl ?_
        refine w_if_ne (tgt := 57) (by omega) dX4_roof_47 (by decide) (fun h47 => ?_) (fun h47 => ?_)
        · refine w_aload_n dX4_roof_57 rfl ?_
          refine gf_X4_10 rfl dX4_roof_58 ?_
          refine gf_X4_55_1 rfl dX4_roof_61 ?_
          refine gf_X4_58 rfl (cnO cn3) dX4_roof_64 ?_
          refine w_bipush dX4_roof_67 (by decide) ?_
          refine w_icmp_lt (tgt := 79) (by omega) (by omega) dX4_roof_69 (by decide) (fun h69 => ?_) (fun h69 => ?_)
          · refine w_aload_n dX4_roof_79 rfl ?_
            refine gf_X4_10 rfl dX4_roof_80 ?_
            refine gf_X4_55_1 rfl dX4_roof_83 ?_
            refine w_iload_n dX4_roof_86 rfl ?_
            refine w_iload_n dX4_roof_87 rfl ?_
            refine w_iload_n dX4_roof_88 rfl ?_
            refine w_iload dX4_roof_89 rfl ?_
            refine w_iload dX4_roof_91 rfl ?_
            refine w_iload dX4_roof_93 rfl ?_
            refine w_cV6 kX0_addRoof ml_X4_62 (cnO cn3) rfl (Nat.le_of_ble_eq_true rfl) (by decide) dX4_roof_95 (c_X0_addRoof cn3 (by omega)) (kI (fun e95 m95 q95 => ?_))
            obtain q95 := q95
            exact w_iretP rfl dX4_roof_98 (by rcases q95 with ⟨rfl, z1, rfl⟩ | ⟨rfl, z1, rfl⟩; exfalso; omega; exact Or.inr (Or.inr ⟨by omega, z1, rfl, rfl⟩))
          · refine w_aload_n dX4_roof_72 rfl ?_
            refine w_bipush dX4_roof_73 (by decide) ?_
            refine w_cV1 kX4_refuse ml_X4_51 ob_0 rfl (Nat.le_of_ble_eq_true rfl) (by decide) dX4_roof_75 (c_refF) (kI (fun e75 m75 q75 => ?_))
            obtain ⟨rfl, rfl⟩ := q75
            exact w_iretP rfl dX4_roof_78 (by first | exact Or.inl (⟨by omega, rfl, rfl⟩) | exact Or.inr (Or.inl (⟨by omega, by omega, rfl, rfl⟩)) | (exfalso; omega))
        · refine w_aload_n dX4_roof_50 rfl ?_
          refine w_bipush dX4_roof_51 (by decide) ?_
          refine w_cV1 kX4_refuse ml_X4_51 ob_0 rfl (Nat.le_of_ble_eq_true rfl) (by decide) dX4_roof_53 (c_refB) (kI (fun e53 m53 q53 => ?_))
          obtain ⟨rfl, rfl⟩ := q53
          exact w_iretP rfl dX4_roof_56 (by first | exact Or.inl (⟨by omega, rfl, rfl⟩) | exact Or.inr (Or.inl (⟨by omega, by omega, rfl, rfl⟩)) | (exfalso; omega))
      · refine w_iload dX4_roof_28 rfl ?_
        refine w_iload dX4_roof_30 rfl ?_
        refine w_cS2 kX4_areTiles ml_X4_47 (Nat.le_of_ble_eq_true rfl) (by decide) dX4_roof_32 (c_X4_areTiles (by omega) (by omega)) (kI (fun e32 m32 q32 => ?_))
        obtain ⟨q32, rfl⟩ := q32
        refine w_if_eq (tgt := 42) (by omega) dX4_roof_35 (by decide) (fun h35 => ?_) (fun h35 => ?_)
        · refine w_iconst dX4_roof_42 ?_
          refine w_istore dX4_roof_43 (by decide) rfl ?_
          refine w_iload dX4_roof_45 rfl ?_
          refine w_if_ne (tgt := 57) (by omega) dX4_roof_47 (by decide) (fun h47 => ?_) (fun h47 => ?_)
          · refine w_aload_n dX4_roof_57 rfl ?_
            refine gf_X4_10 rfl dX4_roof_58 ?_
            refine gf_X4_55_1 rfl dX4_roof_61 ?_
            refine gf_X4_58 rfl (cnO cn3) dX4_roof_64 ?_
            refine w_bipush dX4_roof_67 (by decide) ?_
            refine w_icmp_lt (tgt := 79) (by omega) (by omega) dX4_roof_69 (by decide) (fun h69 => ?_) (fun h69 => ?_)
            · refine w_aload_n dX4_roof_79 rfl ?_
              refine gf_X4_10 rfl dX4_roof_80 ?_
              refine gf_X4_55_1 rfl dX4_roof_83 ?_
              refine w_iload_n dX4_roof_86 rfl ?_
              refine w_iload_n dX4_roof_87 rfl ?_
              refine w_iload_n dX4_roof_88 rfl ?_
              refine w_iload dX4_roof_89 rfl ?_
              refine w_iload dX4_roof_91 rfl ?_
              refine w_iload dX4_roof_93 rfl ?_
              refine w_cV6 kX0_addRoof ml_X4_62 (cnO cn3) rfl (Nat.le_of_ble_eq_true rfl) (by decide) dX4_roof_95 (c_X0_addRoof cn3 (by omega)) (kI (fun e95 m95 q95 => ?_))
              obtain q95 := q95
              exact w_iretP rfl dX4_roof_98 (by rcases q95 with ⟨rfl, z1, rfl⟩ | ⟨rfl, z1, rfl⟩; exfalso; omega; exact Or.inr (Or.inr ⟨by omega, z1, rfl, rfl⟩))
            · refine w_aload_n dX4_roof_72 rfl ?_
              refine w_bipush dX4_roof_73 (by decide) ?_
              refine w_cV1 kX4_refuse ml_X4_51 ob_0 rfl (Nat.le_of_ble_eq_true rfl) (by decide) dX4_roof_75 (c_refF) (kI (fun e75 m75 q75 => ?_))
              obtain ⟨rfl, rfl⟩ := q75
              exact w_iretP rfl dX4_roof_78 (by first | exact Or.inl (⟨by omega, rfl, rfl⟩) | exact Or.inr (Or.inl (⟨by omega, by omega, rfl, rfl⟩)) | (exfalso; omega))
          · refine w_aload_n dX4_roof_50 rfl ?_
            refine w_bipush dX4_roof_51 (by decide) ?_
            refine w_cV1 kX4_refuse ml_X4_51 ob_0 rfl (Nat.le_of_ble_eq_true rfl) (by decide) dX4_roof_53 (c_refB) (kI (fun e53 m53 q53 => ?_))
            obtain ⟨rfl, rfl⟩ := q53
            exact w_iretP rfl dX4_roof_56 (by first | exact Or.inl (⟨by omega, rfl, rfl⟩) | exact Or.inr (Or.inl (⟨by omega, by omega, rfl, rfl⟩)) | (exfalso; omega))
        · refine w_iconst dX4_roof_38 ?_
          refine w_goto (tgt := 43) dX4_roof_39 (by decide) ?_
          refine w_istore dX4_roof_43 (by decide) rfl ?_
          refine w_iload dX4_roof_45 rfl ?_
          refine w_if_ne (tgt := 57) (by omega) dX4_roof_47 (by decide) (fun h47 => ?_) (fun h47 => ?_)
          · refine w_aload_n dX4_roof_57 rfl ?_
            refine gf_X4_10 rfl dX4_roof_58 ?_
            refine gf_X4_55_1 rfl dX4_roof_61 ?_
            refine gf_X4_58 rfl (cnO cn3) dX4_roof_64 ?_
            refine w_bipush dX4_roof_67 (by decide) ?_
            refine w_icmp_lt (tgt := 79) (by omega) (by omega) dX4_roof_69 (by decide) (fun h69 => ?_) (fun h69 => ?_)
            · refine w_aload_n dX4_roof_79 rfl ?_
              refine gf_X4_10 rfl dX4_roof_80 ?_
              refine gf_X4_55_1 rfl dX4_roof_83 ?_
              refine w_iload_n dX4_roof_86 rfl ?_
              refine w_iload_n dX4_roof_87 rfl ?_
              refine w_iload_n dX4_roof_88 rfl ?_
              refine w_iload dX4_roof_89 rfl ?_
              refine w_iload dX4_roof_91 rfl ?_
              refine w_iload dX4_roof_93 rfl ?_
              refine w_cV6 kX0_addRoof ml_X4_62 (cnO cn3) rfl (Nat.le_of_ble_eq_true rfl) (by decide) dX4_roof_95 (c_X0_addRoof cn3 (by omega)) (kI (fun e95 m95 q95 => ?_))
              obtain q95 := q95
              exact w_iretP rfl dX4_roof_98 (by rcases q95 with ⟨rfl, z1, rfl⟩ | ⟨rfl, z1, rfl⟩; exfalso; omega; exact Or.inr (Or.inr ⟨by omega, z1, rfl, rfl⟩))
            · refine w_aload_n dX4_roof_72 rfl ?_
              refine w_bipush dX4_roof_73 (by decide) ?_
              refine w_cV1 kX4_refuse ml_X4_51 ob_0 rfl (Nat.le_of_ble_eq_true rfl) (by decide) dX4_roof_75 (c_refF) (kI (fun e75 m75 q75 => ?_))
              obtain ⟨rfl, rfl⟩ := q75
              exact w_iretP rfl dX4_roof_78 (by first | exact Or.inl (⟨by omega, rfl, rfl⟩) | exact Or.inr (Or.inl (⟨by omega, by omega, rfl, rfl⟩)) | (exfalso; omega))
          · refine w_aload_n dX4_roof_50 rfl ?_
            refine w_bipush dX4_roof_51 (by decide) ?_
            refine w_cV1 kX4_refuse ml_X4_51 ob_0 rfl (Nat.le_of_ble_eq_true rfl) (by decide) dX4_roof_53 (c_refB) (kI (fun e53 m53 q53 => ?_))
            obtain ⟨rfl, rfl⟩ := q53
            exact w_iretP rfl dX4_roof_56 (by first | exact Or.inl (⟨by omega, rfl, rfl⟩) | exact Or.inr (Or.inl (⟨by omega, by omega, rfl, rfl⟩)) | (exfalso; omega))
set_option maxRecDepth 100000 in
set_option maxHeartbeats 4000000 in
theorem c_X4_storm {g : gG} {l : Launch} {μ : gM} {f : Int} {t : Int} {w : Int} {z : Int} {h : Int}  (g0 : -2147483648 ≤ f ∧ f < 2147483648) (g1 : -2147483648 ≤ t ∧ t < 2147483648) (g2 : -2147483648 ≤ w ∧ w < 2147483648) (g3 : -2147483648 ≤ z ∧ z < 2147483648) (g4 : -2147483648 ≤ h ∧ h < 2147483648) (hI : CI μ 3) : CT g l YX4_storm 1 [vR 0, vI f, vI t, vI w, vI z, vI h] μ (pI fun e μ2 => (¬ (0 ≤ f ∧ f ≤ 6 ∧ f ≤ t ∧ t ≤ 6 ∧ 0 ≤ w ∧ w ≤ 1 ∧ 1 ≤ z ∧ z ≤ 9 ∧ 1 ≤ h ∧ h ≤ 9) ∧ e = -2 ∧ μ2 = bad μ) ∨ ((0 ≤ f ∧ f ≤ 6 ∧ f ≤ t ∧ t ≤ 6 ∧ 0 ≤ w ∧ w ≤ 1 ∧ 1 ≤ z ∧ z ≤ 9 ∧ 1 ≤ h ∧ h ≤ 9) ∧ μ 3 1 = 6 ∧ e = -4 ∧ μ2 = ful μ) ∨ ((0 ≤ f ∧ f ≤ 6 ∧ f ≤ t ∧ t ≤ 6 ∧ 0 ≤ w ∧ w ≤ 1 ∧ 1 ≤ z ∧ z ≤ 9 ∧ 1 ≤ h ∧ h ≤ 9) ∧ μ 3 1 < 6 ∧ e = μ 3 1 ∧ μ2 = mAS μ 3 (μ 3 1) f t w z h)) := by
  have hN := CI_roofs hI
  have hM := CI_storms hI
  have hV := CI.VI hI
  refine CT.of (n := 1) (by decide) rfl ?_
  show WA g l YX4_storm 1 _ 0 [some (vR 0), some (vI f), some (vI t), some (vI w), some (vI z), some (vI h), none] [] μ
  refine w_iload_n dX4_storm_0 rfl ?_
  refine w_iconst dX4_storm_1 ?_
  refine w_bipush dX4_storm_2 (by decide) ?_
  refine w_cS3 kX4_within ml_X4_43 (Nat.le_of_ble_eq_true rfl) (by decide) dX4_storm_4 (c_X4_within (by omega) (by omega) (by omega)) (kI (fun e4 m4 q4 => ?_))
  obtain ⟨q4, rfl⟩ := q4
  refine w_if_eq (tgt := 55) (by omega) dX4_storm_7 (by decide) (fun h7 => ?_) (fun h7 => ?_)
  · refine w_iconst dX4_storm_55 ?_
    refine w_istore dX4_storm_56 (by decide) rfl ?_
    refine w_iload dX4_storm_58 rfl ?_
    refine w_if_ne (tgt := 70) (by omega) dX4_storm_60 (by decide) (fun h60 => ?_) (fun h60 => ?_)
    · refine w_aload_n dX4_storm_70 rfl ?_
      refine gf_X4_10 rfl dX4_storm_71 ?_
      refine gf_X4_55_1 rfl dX4_storm_74 ?_
      refine gf_X4_66 rfl (cnO cn3) dX4_storm_77 ?_
      refine w_bipush dX4_storm_80 (by decide) ?_
      refine w_icmp_lt (tgt := 92) (by omega) (by omega) dX4_storm_82 (by decide) (fun h82 => ?_) (fun h82 => ?_)
      · refine w_aload_n dX4_storm_92 rfl ?_
        refine gf_X4_10 rfl dX4_storm_93 ?_
        refine gf_X4_55_1 rfl dX4_storm_96 ?_
        refine w_iload_n dX4_storm_99 rfl ?_
        refine w_iload_n dX4_storm_100 rfl ?_
        refine w_iload_n dX4_storm_101 rfl ?_
        refine w_iload dX4_storm_102 rfl ?_
        refine w_iload dX4_storm_104 rfl ?_
        refine w_cV5 kX0_addStorm ml_X4_69 (cnO cn3) rfl (Nat.le_of_ble_eq_true rfl) (by decide) dX4_storm_106 (c_X0_addStorm cn3 (by omega)) (kI (fun e106 m106 q106 => ?_))
        obtain q106 := q106
        exact w_iretP rfl dX4_storm_109 (by rcases q106 with ⟨rfl, z1, rfl⟩ | ⟨rfl, z1, rfl⟩; exfalso; omega; exact Or.inr (Or.inr ⟨by omega, z1, rfl, rfl⟩))
      · refine w_aload_n dX4_storm_85 rfl ?_
        refine w_bipush dX4_storm_86 (by decide) ?_
        refine w_cV1 kX4_refuse ml_X4_51 ob_0 rfl (Nat.le_of_ble_eq_true rfl) (by decide) dX4_storm_88 (c_refF) (kI (fun e88 m88 q88 => ?_))
        obtain ⟨rfl, rfl⟩ := q88
        exact w_iretP rfl dX4_storm_91 (by first | exact Or.inl (⟨by omega, rfl, rfl⟩) | exact Or.inr (Or.inl (⟨by omega, by omega, rfl, rfl⟩)) | (exfalso; omega))
    · refine w_aload_n dX4_storm_63 rfl ?_
      refine w_bipush dX4_storm_64 (by decide) ?_
      refine w_cV1 kX4_refuse ml_X4_51 ob_0 rfl (Nat.le_of_ble_eq_true rfl) (by decide) dX4_storm_66 (c_refB) (kI (fun e66 m66 q66 => ?_))
      obtain ⟨rfl, rfl⟩ := q66
      exact w_iretP rfl dX4_storm_69 (by first | exact Or.inl (⟨by omega, rfl, rfl⟩) | exact Or.inr (Or.inl (⟨by omega, by omega, rfl, rfl⟩)) | (exfalso; omega))
  · refine w_iload_n dX4_storm_10 rfl ?_
    refine w_iload_n dX4_storm_11 rfl ?_
    refine w_bipush dX4_storm_12 (by decide) ?_
    refine w_cS3 kX4_within ml_X4_43 (Nat.le_of_ble_eq_true rfl) (by decide) dX4_storm_14 (c_X4_within (by omega) (by omega) (by omega)) (kI (fun e14 m14 q14 => ?_))
    obtain ⟨q14, rfl⟩ := q14
    refine w_if_eq (tgt := 55) (by omega) dX4_storm_17 (by decide) (fun h17 => ?_) (fun h17 => ?_)
    · refine w_iconst dX4_storm_55 ?_
      refine w_istore dX4_storm_56 (by decide) rfl ?_
      refine w_iload dX4_storm_58 rfl ?_
      refine w_if_ne (tgt := 70) (by omega) dX4_storm_60 (by decide) (fun h60 => ?_) (fun h60 => ?_)
      · refine w_aload_n dX4_storm_70 rfl ?_
        refine gf_X4_10 rfl dX4_storm_71 ?_
        refine gf_X4_55_1 rfl dX4_storm_74 ?_
        refine gf_X4_66 rfl (cnO cn3) dX4_storm_77 ?_
        refine w_bipush dX4_storm_80 (by decide) ?_
        refine w_icmp_lt (tgt := 92) (by omega) (by omega) dX4_storm_82 (by decide) (fun h82 => ?_) (fun h82 => ?_)
        · refine w_aload_n dX4_storm_92 rfl ?_
          refine gf_X4_10 rfl dX4_storm_93 ?_
          refine gf_X4_55_1 rfl dX4_storm_96 ?_
          refine w_iload_n dX4_storm_99 rfl ?_
          refine w_iload_n dX4_storm_100 rfl ?_
          refine w_iload_n dX4_storm_101 rfl ?_
          refine w_iload dX4_storm_102 rfl ?_
          refine w_iload dX4_storm_104 rfl ?_
          refine w_cV5 kX0_addStorm ml_X4_69 (cnO cn3) rfl (Nat.le_of_ble_eq_true rfl) (by decide) dX4_storm_106 (c_X0_addStorm cn3 (by omega)) (kI (fun e106 m106 q106 => ?_))
          obtain q106 := q106
          exact w_iretP rfl dX4_storm_109 (by rcases q106 with ⟨rfl, z1, rfl⟩ | ⟨rfl, z1, rfl⟩; exfalso; omega; exact Or.inr (Or.inr ⟨by omega, z1, rfl, rfl⟩))
        · refine w_aload_n dX4_storm_85 rfl ?_
          refine w_bipush dX4_storm_86 (by decide) ?_
          refine w_cV1 kX4_refuse ml_X4_51 ob_0 rfl (Nat.le_of_ble_eq_true rfl) (by decide) dX4_storm_88 (c_refF) (kI (fun e88 m88 q88 => ?_))
          obtain ⟨rfl, rfl⟩ := q88
          exact w_iretP rfl dX4_storm_91 (by first | exact Or.inl (⟨by omega, rfl, rfl⟩) | exact Or.inr (Or.inl (⟨by omega, by omega, rfl, rfl⟩)) | (exfalso; omega))
      · refine w_aload_n dX4_storm_63 rfl ?_
        refine w_bipush dX4_storm_64 (by decide) ?_
        refine w_cV1 kX4_refuse ml_X4_51 ob_0 rfl (Nat.le_of_ble_eq_true rfl) (by decide) dX4_storm_66 (c_refB) (kI (fun e66 m66 q66 => ?_))
        obtain ⟨rfl, rfl⟩ := q66
        exact w_iretP rfl dX4_storm_69 (by first | exact Or.inl (⟨by omega, rfl, rfl⟩) | exact Or.inr (Or.inl (⟨by omega, by omega, rfl, rfl⟩)) | (exfalso; omega))
    · refine w_iload_n dX4_storm_20 rfl ?_
      refine w_iconst dX4_storm_21 ?_
      refine w_iconst dX4_storm_22 ?_
      refine w_cS3 kX4_within ml_X4_43 (Nat.le_of_ble_eq_true rfl) (by decide) dX4_storm_23 (c_X4_within (by omega) (by omega) (by omega)) (kI (fun e23 m23 q23 => ?_))
      obtain ⟨q23, rfl⟩ := q23
      refine w_if_eq (tgt := 55) (by omega) dX4_storm_26 (by decide) (fun h26 => ?_) (fun h26 => ?_)
      · refine w_iconst dX4_storm_55 ?_
        refine w_istore dX4_storm_56 (by decide) rfl ?_
        refine w_iload dX4_storm_58 rfl ?_
        refine w_if_ne (tgt := 70) (by omega) dX4_storm_60 (by decide) (fun h60 => ?_) (fun h60 => ?_)
        · refine w_aload_n dX4_storm_70 rfl ?_
          refine gf_X4_10 rfl dX4_storm_71 ?_
          refine gf_X4_55_1 rfl dX4_storm_74 ?_
          refine gf_X4_66 rfl (cnO cn3) dX4_storm_77 ?_
          refine w_bipush dX4_storm_80 (by decide) ?_
          refine w_icmp_lt (tgt := 92) (by omega) (by omega) dX4_storm_82 (by decide) (fun h82 => ?_) (fun h82 => ?_)
          · refine w_aload_n dX4_storm_92 rfl ?_
            refine gf_X4_10 rfl dX4_storm_93 ?_
            refine gf_X4_55_1 rfl dX4_storm_96 ?_
            refine w_iload_n dX4_storm_99 rfl ?_
            refine w_iload_n dX4_storm_100 rfl ?_
            refine w_iload_n dX4_storm_101 rfl ?_
            refine w_iload dX4_storm_102 rfl ?_
            refine w_iload dX4_storm_104 rfl ?_
            refine w_cV5 kX0_addStorm ml_X4_69 (cnO cn3) rfl (Nat.le_of_ble_eq_true rfl) (by decide) dX4_storm_106 (c_X0_addStorm cn3 (by omega)) (kI (fun e106 m106 q106 => ?_))
            obtain q106 := q106
            exact w_iretP rfl dX4_storm_109 (by rcases q106 with ⟨rfl, z1, rfl⟩ | ⟨rfl, z1, rfl⟩; exfalso; omega; exact Or.inr (Or.inr ⟨by omega, z1, rfl, rfl⟩))
          · refine w_aload_n dX4_storm_85 rfl ?_
            refine w_bipush dX4_storm_86 (by decide) ?_
            refine w_cV1 kX4_refuse ml_X4_51 ob_0 rfl (Nat.le_of_ble_eq_true rfl) (by decide) dX4_storm_88 (c_refF) (kI (fun e88 m88 q88 => ?_))
            obtain ⟨rfl, rfl⟩ := q88
            exact w_iretP rfl dX4_storm_91 (by first | exact Or.inl (⟨by omega, rfl, rfl⟩) | exact Or.inr (Or.inl (⟨by omega, by omega, rfl, rfl⟩)) | (exfalso; omega))
        · refine w_aload_n dX4_storm_63 rfl ?_
          refine w_bipush dX4_storm_64 (by decide) ?_
          refine w_cV1 kX4_refuse ml_X4_51 ob_0 rfl (Nat.le_of_ble_eq_true rfl) (by decide) dX4_storm_66 (c_refB) (kI (fun e66 m66 q66 => ?_))
          obtain ⟨rfl, rfl⟩ := q66
          exact w_iretP rfl dX4_storm_69 (by first | exact Or.inl (⟨by omega, rfl, rfl⟩) | exact Or.inr (Or.inl (⟨by omega, by omega, rfl, rfl⟩)) | (exfalso; omega))
      · refine w_iload dX4_storm_29 rfl ?_
        refine w_iconst dX4_storm_31 ?_
        refine w_bipush dX4_storm_32 (by decide) ?_
        refine w_cS3 kX4_within ml_X4_43 (Nat.le_of_ble_eq_true rfl) (by decide) dX4_storm_34 (c_X4_within (by omega) (by omega) (by omega)) (kI (fun e34 m34 q34 => ?_))
        obtain ⟨q34, rfl⟩ := q34
        refine w_if_eq (tgt := 55) (by omega) dX4_storm_37 (by decide) (fun h37 => ?_) (fun h37 => ?_)
        · refine w_iconst dX4_storm_55 ?_
          refine w_istore dX4_storm_56 (by decide) rfl ?_
          refine w_iload dX4_storm_58 rfl ?_
          refine w_if_ne (tgt := 70) (by omega) dX4_storm_60 (by decide) (fun h60 => ?_) (fun h60 => ?_)
          · refine w_aload_n dX4_storm_70 rfl ?_
            refine gf_X4_10 rfl dX4_storm_71 ?_
            refine gf_X4_55_1 rfl dX4_storm_74 ?_
            refine gf_X4_66 rfl (cnO cn3) dX4_storm_77 ?_
            refine w_bipush dX4_storm_80 (by decide) ?_
            refine w_icmp_lt (tgt := 92) (by omega) (by omega) dX4_storm_82 (by decide) (fun h82 => ?_) (fun h82 => ?_)
            · refine w_aload_n dX4_storm_92 rfl ?_
              refine gf_X4_10 rfl dX4_storm_93 ?_
              refine gf_X4_55_1 rfl dX4_storm_96 ?_
              refine w_iload_n dX4_storm_99 rfl ?_
              refine w_iload_n dX4_storm_100 rfl ?_
              refine w_iload_n dX4_storm_101 rfl ?_
              refine w_iload dX4_storm_102 rfl ?_
              refine w_iload dX4_storm_104 rfl ?_
              refine w_cV5 kX0_addStorm ml_X4_69 (cnO cn3) rfl (Nat.le_of_ble_eq_true rfl) (by decide) dX4_storm_106 (c_X0_addStorm cn3 (by omega)) (kI (fun e106 m106 q106 => ?_))
              obtain q106 := q106
              exact w_iretP rfl dX4_storm_109 (by rcases q106 with ⟨rfl, z1, rfl⟩ | ⟨rfl, z1, rfl⟩; exfalso; omega; exact Or.inr (Or.inr ⟨by omega, z1, rfl, rfl⟩))
            · refine w_aload_n dX4_storm_85 rfl ?_
              refine w_bipush dX4_storm_86 (by decide) ?_
              refine w_cV1 kX4_refuse ml_X4_51 ob_0 rfl (Nat.le_of_ble_eq_true rfl) (by decide) dX4_storm_88 (c_refF) (kI (fun e88 m88 q88 => ?_))
              obtain ⟨rfl, rfl⟩ := q88
              exact w_iretP rfl dX4_storm_91 (by first | exact Or.inl (⟨by omega, rfl, rfl⟩) | exact Or.inr (Or.inl (⟨by omega, by omega, rfl, rfl⟩)) | (exfalso; omega))
          · refine w_aload_n dX4_storm_63 rfl ?_
            refine w_bipush dX4_storm_64 (by decide) ?_
            refine w_cV1 kX4_refuse ml_X4_51 ob_0 rfl (Nat.le_of_ble_eq_true rfl) (by decide) dX4_storm_66 (c_refB) (kI (fun e66 m66 q66 => ?_))
            obtain ⟨rfl, rfl⟩ := q66
            exact w_iretP rfl dX4_storm_69 (by first | exact Or.inl (⟨by omega, rfl, rfl⟩) | exact Or.inr (Or.inl (⟨by omega, by omega, rfl, rfl⟩)) | (exfalso; omega))
        · refine w_iload dX4_storm_40 rfl ?_
          refine w_iconst dX4_storm_42 ?_
          refine w_bipush dX4_storm_43 (by decide) ?_
          refine w_cS3 kX4_within ml_X4_43 (Nat.le_of_ble_eq_true rfl) (by decide) dX4_storm_45 (c_X4_within (by omega) (by omega) (by omega)) (kI (fun e45 m45 q45 => ?_))
          obtain ⟨q45, rfl⟩ := q45
          refine w_if_eq (tgt := 55) (by omega) dX4_storm_48 (by decide) (fun h48 => ?_) (fun h48 => ?_)
          · refine w_iconst dX4_storm_55 ?_
            refine w_istore dX4_storm_56 (by decide) rfl ?_
            refine w_iload dX4_storm_58 rfl ?_
            refine w_if_ne (tgt := 70) (by omega) dX4_storm_60 (by decide) (fun h60 => ?_) (fun h60 => ?_)
            · refine w_aload_n dX4_storm_70 rfl ?_
              refine gf_X4_10 rfl dX4_storm_71 ?_
              refine gf_X4_55_1 rfl dX4_storm_74 ?_
              refine gf_X4_66 rfl (cnO cn3) dX4_storm_77 ?_
              refine w_bipush dX4_storm_80 (by decide) ?_
              refine w_icmp_lt (tgt := 92) (by omega) (by omega) dX4_storm_82 (by decide) (fun h82 => ?_) (fun h82 => ?_)
              · refine w_aload_n dX4_storm_92 rfl ?_
                refine gf_X4_10 rfl dX4_storm_93 ?_
                refine gf_X4_55_1 rfl dX4_storm_96 ?_
                refine w_iload_n dX4_storm_99 rfl ?_
                refine w_iload_n dX4_storm_100 rfl ?_
                refine w_iload_n dX4_storm_101 rfl ?_
                refine w_iload dX4_storm_102 rfl ?_
                refine w_iload dX4_storm_104 rfl ?_
                refine w_cV5 kX0_addStorm ml_X4_69 (cnO cn3) rfl (Nat.le_of_ble_eq_true rfl) (by decide) dX4_storm_106 (c_X0_addStorm cn3 (by omega)) (kI (fun e106 m106 q106 => ?_))
                obtain q106 := q106
                exact w_iretP rfl dX4_storm_109 (by rcases q106 with ⟨rfl, z1, rfl⟩ | ⟨rfl, z1, rfl⟩; exfalso; omega; exact Or.inr (Or.inr ⟨by omega, z1, rfl, rfl⟩))
              · refine w_aload_n dX4_storm_85 rfl ?_
                refine w_bipush dX4_storm_86 (by decide) ?_
                refine w_cV1 kX4_refuse ml_X4_51 ob_0 rfl (Nat.le_of_ble_eq_true rfl) (by decide) dX4_storm_88 (c_refF) (kI (fun e88 m88 q88 => ?_))
                obtain ⟨rfl, rfl⟩ := q88
                exact w_iretP rfl dX4_storm_91 (by first | exact Or.inl (⟨by omega, rfl, rfl⟩) | exact Or.inr (Or.inl (⟨by omega, by omega, rfl, rfl⟩)) | (exfalso; omega))
            · refine w_aload_n dX4_storm_63 rfl ?_
              refine w_bipush dX4_storm_64 (by decide) ?_
              refine w_cV1 kX4_refuse ml_X4_51 ob_0 rfl (Nat.le_of_ble_eq_true rfl) (by decide) dX4_storm_66 (c_refB) (kI (fun e66 m66 q66 => ?_))
              obtain ⟨rfl, rfl⟩ := q66
              exact w_iretP rfl dX4_storm_69 (by first | exact Or.inl (⟨by omega, rfl, rfl⟩) | exact Or.inr (Or.inl (⟨by omega, by omega, rfl, rfl⟩)) | (exfalso; omega))
          · refine w_iconst dX4_storm_51 ?_
            refine w_goto (tgt := 56) dX4_storm_52 (by decide) ?_
            refine w_istore dX4_storm_56 (by decide) rfl ?_
            refine w_iload dX4_storm_58 rfl ?_
            refine w_if_ne (tgt := 70) (by omega) dX4_storm_60 (by decide) (fun h60 => ?_) (fun h60 => ?_)
            · refine w_aload_n dX4_storm_70 rfl ?_
              refine gf_X4_10 rfl dX4_storm_71 ?_
              refine gf_X4_55_1 rfl dX4_storm_74 ?_
              refine gf_X4_66 rfl (cnO cn3) dX4_storm_77 ?_
              refine w_bipush dX4_storm_80 (by decide) ?_
              refine w_icmp_lt (tgt := 92) (by omega) (by omega) dX4_storm_82 (by decide) (fun h82 => ?_) (fun h82 => ?_)
              · refine w_aload_n dX4_storm_92 rfl ?_
                refine gf_X4_10 rfl dX4_storm_93 ?_
                refine gf_X4_55_1 rfl dX4_storm_96 ?_
                refine w_iload_n dX4_storm_99 rfl ?_
                refine w_iload_n dX4_storm_100 rfl ?_
                refine w_iload_n dX4_storm_101 rfl ?_
                refine w_iload dX4_storm_102 rfl ?_
                refine w_iload dX4_storm_104 rfl ?_
                refine w_cV5 kX0_addStorm ml_X4_69 (cnO cn3) rfl (Nat.le_of_ble_eq_true rfl) (by decide) dX4_storm_106 (c_X0_addStorm cn3 (by omega)) (kI (fun e106 m106 q106 => ?_))
                obtain q106 := q106
                exact w_iretP rfl dX4_storm_109 (by rcases q106 with ⟨rfl, z1, rfl⟩ | ⟨rfl, z1, rfl⟩; exfalso; omega; exact Or.inr (Or.inr ⟨by omega, z1, rfl, rfl⟩))
              · refine w_aload_n dX4_storm_85 rfl ?_
                refine w_bipush dX4_storm_86 (by decide) ?_
                refine w_cV1 kX4_refuse ml_X4_51 ob_0 rfl (Nat.le_of_ble_eq_true rfl) (by decide) dX4_storm_88 (c_refF) (kI (fun e88 m88 q88 => ?_))
                obtain ⟨rfl, rfl⟩ := q88
                exact w_iretP rfl dX4_storm_91 (by first | exact Or.inl (⟨by omega, rfl, rfl⟩) | exact Or.inr (Or.inl (⟨by omega, by omega, rfl, rfl⟩)) | (exfalso; omega))
            · refine w_aload_n dX4_storm_63 rfl ?_
              refine w_bipush dX4_storm_64 (by decide) ?_
              refine w_cV1 kX4_refuse ml_X4_51 ob_0 rfl (Nat.le_of_ble_eq_true rfl) (by decide) dX4_storm_66 (c_refB) (kI (fun e66 m66 q66 => ?_))
              obtain ⟨rfl, rfl⟩ := q66
              exact w_iretP rfl dX4_storm_69 (by first | exact Or.inl (⟨by omega, rfl, rfl⟩) | exact Or.inr (Or.inl (⟨by omega, by omega, rfl, rfl⟩)) | (exfalso; omega))
set_option maxRecDepth 100000 in
set_option maxHeartbeats 4000000 in
theorem c_X4_cannon {g : gG} {l : Launch} {μ : gM} {p : Int} {b : Int}  (g1 : -2147483648 ≤ p ∧ p < 2147483648) (hb : b = 0 ∨ b = 1) (hI : CI μ 3) : CT g l YX4_cannon 1 [vR 0, vI p, vI b] μ (pI fun e μ2 => (¬ (0 ≤ p ∧ p ≤ 6) ∧ e = -2 ∧ μ2 = bad μ) ∨ ((0 ≤ p ∧ p ≤ 6) ∧ μ (3 + 11) p = b ∧ e = -3 ∧ μ2 = nop μ) ∨ ((0 ≤ p ∧ p ≤ 6) ∧ μ (3 + 11) p ≠ b ∧ e = 1 ∧ μ2 = wr μ (3 + 11) p b)) := by
  have hN := CI_roofs hI
  have hM := CI_storms hI
  have hV := CI.VI hI
  refine CT.of (n := 1) (by decide) rfl ?_
  show WA g l YX4_cannon 1 _ 0 [some (vR 0), some (vI p), some (vI b), none] [] μ
  refine w_iload_n dX4_cannon_0 rfl ?_
  refine w_iconst dX4_cannon_1 ?_
  refine w_bipush dX4_cannon_2 (by decide) ?_
  refine w_cS3 kX4_within ml_X4_43 (Nat.le_of_ble_eq_true rfl) (by decide) dX4_cannon_4 (c_X4_within (by omega) (by omega) (by omega)) (kI (fun e4 m4 q4 => ?_))
  obtain ⟨q4, rfl⟩ := q4
  refine w_if_ne (tgt := 17) (by omega) dX4_cannon_7 (by decide) (fun h7 => ?_) (fun h7 => ?_)
  · refine w_iload_n dX4_cannon_17 rfl ?_
    refine w_if_eq (tgt := 25) (by omega) dX4_cannon_18 (by decide) (fun h18 => ?_) (fun h18 => ?_)
    · refine w_iconst dX4_cannon_25 ?_
      refine w_istore_n dX4_cannon_26 (by decide) rfl ?_
      first | (have hb0 : b = 0 := h18; subst hb0) | (have hb1 : b = 1 := (by omega); subst hb1)
      refine w_aload_n dX4_cannon_27 rfl ?_
      refine gf_X4_10 rfl dX4_cannon_28 ?_
      refine gf_X4_55_1 rfl dX4_cannon_31 ?_
      refine gf_X4_73 rfl (cnO cn3) dX4_cannon_34 ?_
      refine w_iload_n dX4_cannon_37 rfl ?_
      refine w_ialdB (CI_guns hI) (cA_guns cn3) (by omega) dX4_cannon_38 (fun b38 => ?_)
      refine w_iload_n dX4_cannon_39 rfl ?_
      refine w_icmp_ne (tgt := 50) (by omega) (by omega) dX4_cannon_40 (by decide) (fun h40 => ?_) (fun h40 => ?_)
      · refine w_aload_n dX4_cannon_50 rfl ?_
        refine gf_X4_10 rfl dX4_cannon_51 ?_
        refine gf_X4_55_1 rfl dX4_cannon_54 ?_
        refine gf_X4_73 rfl (cnO cn3) dX4_cannon_57 ?_
        refine w_iload_n dX4_cannon_60 rfl ?_
        refine w_iload_n dX4_cannon_61 rfl ?_
        refine w_iast (cA_guns cn3) (by omega) dX4_cannon_62 ?_
        refine w_iconst dX4_cannon_63 ?_
        exact w_iretP rfl dX4_cannon_64 (by first | exact Or.inl (⟨by omega, rfl, rfl⟩) | exact Or.inr (Or.inl (⟨by omega, by omega, rfl, rfl⟩)) | exact Or.inr (Or.inr (⟨by omega, by omega, rfl, rfl⟩)) | (exfalso; omega))
      · refine w_aload_n dX4_cannon_43 rfl ?_
        refine w_bipush dX4_cannon_44 (by decide) ?_
        refine w_cV1 kX4_refuse ml_X4_51 ob_0 rfl (Nat.le_of_ble_eq_true rfl) (by decide) dX4_cannon_46 (c_refN) (kI (fun e46 m46 q46 => ?_))
        obtain ⟨rfl, rfl⟩ := q46
        exact w_iretP rfl dX4_cannon_49 (by first | exact Or.inl (⟨by omega, rfl, rfl⟩) | exact Or.inr (Or.inl (⟨by omega, by omega, rfl, rfl⟩)) | exact Or.inr (Or.inr (⟨by omega, by omega, rfl, rfl⟩)) | (exfalso; omega))
    · refine w_iconst dX4_cannon_21 ?_
      refine w_goto (tgt := 26) dX4_cannon_22 (by decide) ?_
      refine w_istore_n dX4_cannon_26 (by decide) rfl ?_
      first | (have hb0 : b = 0 := h18; subst hb0) | (have hb1 : b = 1 := (by omega); subst hb1)
      refine w_aload_n dX4_cannon_27 rfl ?_
      refine gf_X4_10 rfl dX4_cannon_28 ?_
      refine gf_X4_55_1 rfl dX4_cannon_31 ?_
      refine gf_X4_73 rfl (cnO cn3) dX4_cannon_34 ?_
      refine w_iload_n dX4_cannon_37 rfl ?_
      refine w_ialdB (CI_guns hI) (cA_guns cn3) (by omega) dX4_cannon_38 (fun b38 => ?_)
      refine w_iload_n dX4_cannon_39 rfl ?_
      refine w_icmp_ne (tgt := 50) (by omega) (by omega) dX4_cannon_40 (by decide) (fun h40 => ?_) (fun h40 => ?_)
      · refine w_aload_n dX4_cannon_50 rfl ?_
        refine gf_X4_10 rfl dX4_cannon_51 ?_
        refine gf_X4_55_1 rfl dX4_cannon_54 ?_
        refine gf_X4_73 rfl (cnO cn3) dX4_cannon_57 ?_
        refine w_iload_n dX4_cannon_60 rfl ?_
        refine w_iload_n dX4_cannon_61 rfl ?_
        refine w_iast (cA_guns cn3) (by omega) dX4_cannon_62 ?_
        refine w_iconst dX4_cannon_63 ?_
        exact w_iretP rfl dX4_cannon_64 (by first | exact Or.inl (⟨by omega, rfl, rfl⟩) | exact Or.inr (Or.inl (⟨by omega, by omega, rfl, rfl⟩)) | exact Or.inr (Or.inr (⟨by omega, by omega, rfl, rfl⟩)) | (exfalso; omega))
      · refine w_aload_n dX4_cannon_43 rfl ?_
        refine w_bipush dX4_cannon_44 (by decide) ?_
        refine w_cV1 kX4_refuse ml_X4_51 ob_0 rfl (Nat.le_of_ble_eq_true rfl) (by decide) dX4_cannon_46 (c_refN) (kI (fun e46 m46 q46 => ?_))
        obtain ⟨rfl, rfl⟩ := q46
        exact w_iretP rfl dX4_cannon_49 (by first | exact Or.inl (⟨by omega, rfl, rfl⟩) | exact Or.inr (Or.inl (⟨by omega, by omega, rfl, rfl⟩)) | exact Or.inr (Or.inr (⟨by omega, by omega, rfl, rfl⟩)) | (exfalso; omega))
  · refine w_aload_n dX4_cannon_10 rfl ?_
    refine w_bipush dX4_cannon_11 (by decide) ?_
    refine w_cV1 kX4_refuse ml_X4_51 ob_0 rfl (Nat.le_of_ble_eq_true rfl) (by decide) dX4_cannon_13 (c_refB) (kI (fun e13 m13 q13 => ?_))
    obtain ⟨rfl, rfl⟩ := q13
    exact w_iretP rfl dX4_cannon_16 (by first | exact Or.inl (⟨by omega, rfl, rfl⟩) | exact Or.inr (Or.inl (⟨by omega, by omega, rfl, rfl⟩)) | exact Or.inr (Or.inr (⟨by omega, by omega, rfl, rfl⟩)) | (exfalso; omega))
set_option maxRecDepth 100000 in
set_option maxHeartbeats 4000000 in
theorem c_X4_tiles {g : gG} {l : Launch} {μ : gM} {r : Int} {sl : Int} {w : Int}  (g1 : -2147483648 ≤ r ∧ r < 2147483648) (g2 : -2147483648 ≤ sl ∧ sl < 2147483648) (g3 : -2147483648 ≤ w ∧ w < 2147483648) (hI : CI μ 3) : CT g l YX4_tiles 2 [vR 0, vI r, vI sl, vI w] μ (pI fun e μ2 => (¬ (0 ≤ r ∧ r < μ 3 0 ∧ 0 ≤ sl ∧ sl ≤ 1 ∧ (w = 0 ∨ w = 1)) ∧ e = -2 ∧ μ2 = bad μ) ∨ ((0 ≤ r ∧ r < μ 3 0 ∧ 0 ≤ sl ∧ sl ≤ 1 ∧ (w = 0 ∨ w = 1)) ∧ e = μ (3 + 3) (4 * r + 2 * sl + w) ∧ μ = μ2)) := by
  have hN := CI_roofs hI
  have hM := CI_storms hI
  have hV := CI.VI hI
  refine CT.of (n := 0) (by decide) rfl ?_
  show WA g l YX4_tiles 2 _ 0 [some (vR 0), some (vI r), some (vI sl), some (vI w)] [] μ
  refine w_aload_n dX4_tiles_0 rfl ?_
  refine w_iload_n dX4_tiles_1 rfl ?_
  refine w_cV1 kX4_isRoof ml_X4_77 ob_0 rfl (Nat.le_of_ble_eq_true rfl) (by decide) dX4_tiles_2 (c_X4_isRoof (by omega) hI) (kI (fun e2 m2 q2 => ?_))
  obtain ⟨q2, rfl⟩ := q2
  refine w_if_eq (tgt := 24) (by omega) dX4_tiles_5 (by decide) (fun h5 => ?_) (fun h5 => ?_)
  · refine w_aload_n dX4_tiles_24 rfl ?_
    refine w_bipush dX4_tiles_25 (by decide) ?_
    refine w_cV1 kX4_refuse ml_X4_51 ob_0 rfl (Nat.le_of_ble_eq_true rfl) (by decide) dX4_tiles_27 (c_refB) (kI (fun e27 m27 q27 => ?_))
    obtain ⟨rfl, rfl⟩ := q27
    exact w_iretP rfl dX4_tiles_30 (by first | exact Or.inl (⟨by omega, rfl, rfl⟩) | exact Or.inr (⟨by omega, rfl, rfl⟩) | (exfalso; omega))
  · refine w_iload_n dX4_tiles_8 rfl ?_
    refine w_iconst dX4_tiles_9 ?_
    refine w_iconst dX4_tiles_10 ?_
    refine w_cS3 kX4_within ml_X4_43 (Nat.le_of_ble_eq_true rfl) (by decide) dX4_tiles_11 (c_X4_within (by omega) (by omega) (by omega)) (kI (fun e11 m11 q11 => ?_))
    obtain ⟨q11, rfl⟩ := q11
    refine w_if_eq (tgt := 24) (by omega) dX4_tiles_14 (by decide) (fun h14 => ?_) (fun h14 => ?_)
    · refine w_aload_n dX4_tiles_24 rfl ?_
      refine w_bipush dX4_tiles_25 (by decide) ?_
      refine w_cV1 kX4_refuse ml_X4_51 ob_0 rfl (Nat.le_of_ble_eq_true rfl) (by decide) dX4_tiles_27 (c_refB) (kI (fun e27 m27 q27 => ?_))
      obtain ⟨rfl, rfl⟩ := q27
      exact w_iretP rfl dX4_tiles_30 (by first | exact Or.inl (⟨by omega, rfl, rfl⟩) | exact Or.inr (⟨by omega, rfl, rfl⟩) | (exfalso; omega))
    · refine w_iload_n dX4_tiles_17 rfl ?_
      refine w_cS1 kX4_isPaint ml_X4_81 (Nat.le_of_ble_eq_true rfl) (by decide) dX4_tiles_18 (c_X4_isPaint (by omega)) (kI (fun e18 m18 q18 => ?_))
      obtain ⟨q18, rfl⟩ := q18
      refine w_if_ne (tgt := 31) (by omega) dX4_tiles_21 (by decide) (fun h21 => ?_) (fun h21 => ?_)
      · refine w_aload_n dX4_tiles_31 rfl ?_
        refine gf_X4_10 rfl dX4_tiles_32 ?_
        refine gf_X4_55_1 rfl dX4_tiles_35 ?_
        refine gf_X4_84 rfl (cnO cn3) dX4_tiles_38 ?_
        refine w_iload_n dX4_tiles_41 rfl ?_
        refine w_iload_n dX4_tiles_42 rfl ?_
        refine w_iload_n dX4_tiles_43 rfl ?_
        refine w_cS3 kX0_row ml_X4_87 (Nat.le_of_ble_eq_true rfl) (by decide) dX4_tiles_44 (c_X0_row) (kI (fun e44 m44 q44 => ?_))
        obtain ⟨rfl, rfl⟩ := q44
        refine w_ialdB (CI_cover hI) (cA_cover cn3) (by omega) dX4_tiles_47 (fun b47 => ?_)
        exact w_iretP rfl dX4_tiles_48 (by first | exact Or.inl (⟨by omega, rfl, rfl⟩) | exact Or.inr (⟨by omega, rfl, rfl⟩) | (exfalso; omega))
      · refine w_aload_n dX4_tiles_24 rfl ?_
        refine w_bipush dX4_tiles_25 (by decide) ?_
        refine w_cV1 kX4_refuse ml_X4_51 ob_0 rfl (Nat.le_of_ble_eq_true rfl) (by decide) dX4_tiles_27 (c_refB) (kI (fun e27 m27 q27 => ?_))
        obtain ⟨rfl, rfl⟩ := q27
        exact w_iretP rfl dX4_tiles_30 (by first | exact Or.inl (⟨by omega, rfl, rfl⟩) | exact Or.inr (⟨by omega, rfl, rfl⟩) | (exfalso; omega))
set_option maxRecDepth 100000 in
set_option maxHeartbeats 4000000 in
theorem c_X4_clear {g : gG} {l : Launch} {μ : gM}    : CT g l YX4_clear 0 [vR 0] μ (pI fun e μ2 => e = μ 151 0 ∧ μ2 = wr μ 151 0 0) := by
  refine CT.of (n := 1) (by decide) rfl ?_
  show WA g l YX4_clear 0 _ 0 [some (vR 0), none] [] μ
  refine w_aload_n dX4_clear_0 rfl ?_
  refine gf_X4_25 rfl dX4_clear_1 ?_
  refine gf_X4_91 rfl dX4_clear_4 ?_
  refine w_istore_n dX4_clear_7 (by decide) rfl ?_
  refine w_aload_n dX4_clear_8 rfl ?_
  refine gf_X4_25 rfl dX4_clear_9 ?_
  refine w_iconst dX4_clear_12 ?_
  refine pf_X4_91 rfl dX4_clear_13 ?_
  refine w_iload_n dX4_clear_16 rfl ?_
  exact w_iretP rfl dX4_clear_17 (by exact ⟨rfl, rfl⟩)
set_option maxRecDepth 100000 in
set_option maxHeartbeats 4000000 in
theorem c_X4_force {g : gG} {l : Launch} {μ : gM} {s : Int} {r : Int} {sl : Int}  (g1 : -2147483648 ≤ s ∧ s < 2147483648) (g2 : -2147483648 ≤ r ∧ r < 2147483648) (g3 : -2147483648 ≤ sl ∧ sl < 2147483648) (hI : CI μ 3) : CT g l YX4_force 2 [vR 0, vI s, vI r, vI sl] μ (pI fun e μ2 => (¬ (0 ≤ s ∧ s < μ 3 1 ∧ 0 ≤ r ∧ r < μ 3 0 ∧ 0 ≤ sl ∧ sl ≤ 1) ∧ e = -2 ∧ μ2 = bad μ) ∨ ((0 ≤ s ∧ s < μ 3 1 ∧ 0 ≤ r ∧ r < μ 3 0 ∧ 0 ≤ sl ∧ sl ≤ 1) ∧ e = fF (vw μ 3) s r sl ∧ μ = μ2)) := by
  have hN := CI_roofs hI
  have hM := CI_storms hI
  have hV := CI.VI hI
  refine CT.of (n := 0) (by decide) rfl ?_
  show WA g l YX4_force 2 _ 0 [some (vR 0), some (vI s), some (vI r), some (vI sl)] [] μ
  refine w_aload_n dX4_force_0 rfl ?_
  refine w_iload_n dX4_force_1 rfl ?_
  refine w_cV1 kX4_isStorm ml_X4_109 ob_0 rfl (Nat.le_of_ble_eq_true rfl) (by decide) dX4_force_2 (c_X4_isStorm (by omega) hI) (kI (fun e2 m2 q2 => ?_))
  obtain ⟨q2, rfl⟩ := q2
  refine w_if_eq (tgt := 25) (by omega) dX4_force_5 (by decide) (fun h5 => ?_) (fun h5 => ?_)
  · refine w_aload_n dX4_force_25 rfl ?_
    refine w_bipush dX4_force_26 (by decide) ?_
    refine w_cV1 kX4_refuse ml_X4_51 ob_0 rfl (Nat.le_of_ble_eq_true rfl) (by decide) dX4_force_28 (c_refB) (kI (fun e28 m28 q28 => ?_))
    obtain ⟨rfl, rfl⟩ := q28
    exact w_iretP rfl dX4_force_31 (by first | exact Or.inl (⟨by omega, rfl, rfl⟩) | exact Or.inr (⟨by omega, rfl, rfl⟩) | (exfalso; omega))
  · refine w_aload_n dX4_force_8 rfl ?_
    refine w_iload_n dX4_force_9 rfl ?_
    refine w_cV1 kX4_isRoof ml_X4_77 ob_0 rfl (Nat.le_of_ble_eq_true rfl) (by decide) dX4_force_10 (c_X4_isRoof (by omega) hI) (kI (fun e10 m10 q10 => ?_))
    obtain ⟨q10, rfl⟩ := q10
    refine w_if_eq (tgt := 25) (by omega) dX4_force_13 (by decide) (fun h13 => ?_) (fun h13 => ?_)
    · refine w_aload_n dX4_force_25 rfl ?_
      refine w_bipush dX4_force_26 (by decide) ?_
      refine w_cV1 kX4_refuse ml_X4_51 ob_0 rfl (Nat.le_of_ble_eq_true rfl) (by decide) dX4_force_28 (c_refB) (kI (fun e28 m28 q28 => ?_))
      obtain ⟨rfl, rfl⟩ := q28
      exact w_iretP rfl dX4_force_31 (by first | exact Or.inl (⟨by omega, rfl, rfl⟩) | exact Or.inr (⟨by omega, rfl, rfl⟩) | (exfalso; omega))
    · refine w_iload_n dX4_force_16 rfl ?_
      refine w_iconst dX4_force_17 ?_
      refine w_iconst dX4_force_18 ?_
      refine w_cS3 kX4_within ml_X4_43 (Nat.le_of_ble_eq_true rfl) (by decide) dX4_force_19 (c_X4_within (by omega) (by omega) (by omega)) (kI (fun e19 m19 q19 => ?_))
      obtain ⟨q19, rfl⟩ := q19
      refine w_if_ne (tgt := 32) (by omega) dX4_force_22 (by decide) (fun h22 => ?_) (fun h22 => ?_)
      · refine w_aload_n dX4_force_32 rfl ?_
        refine gf_X4_10 rfl dX4_force_33 ?_
        refine gf_X4_55_1 rfl dX4_force_36 ?_
        refine w_iload_n dX4_force_39 rfl ?_
        refine w_iload_n dX4_force_40 rfl ?_
        refine w_iload_n dX4_force_41 rfl ?_
        refine w_cV3 kX0_forceOn ml_X4_112 (cnO cn3) rfl (Nat.le_of_ble_eq_true rfl) (by decide) dX4_force_42 (c_X0_forceOn cn3 hI (by omega) (by omega) (by omega)) (kI (fun e42 m42 q42 => ?_))
        obtain ⟨rfl, rfl, b42⟩ := q42
        exact w_iretP rfl dX4_force_45 (by first | exact Or.inl (⟨by omega, rfl, rfl⟩) | exact Or.inr (⟨by omega, rfl, rfl⟩) | (exfalso; omega))
      · refine w_aload_n dX4_force_25 rfl ?_
        refine w_bipush dX4_force_26 (by decide) ?_
        refine w_cV1 kX4_refuse ml_X4_51 ob_0 rfl (Nat.le_of_ble_eq_true rfl) (by decide) dX4_force_28 (c_refB) (kI (fun e28 m28 q28 => ?_))
        obtain ⟨rfl, rfl⟩ := q28
        exact w_iretP rfl dX4_force_31 (by first | exact Or.inl (⟨by omega, rfl, rfl⟩) | exact Or.inr (⟨by omega, rfl, rfl⟩) | (exfalso; omega))
set_option maxRecDepth 100000 in
set_option maxHeartbeats 4000000 in
theorem c_X4_breaks {g : gG} {l : Launch} {μ : gM} {s : Int} {r : Int} {w : Int}  (g1 : -2147483648 ≤ s ∧ s < 2147483648) (g2 : -2147483648 ≤ r ∧ r < 2147483648) (g3 : -2147483648 ≤ w ∧ w < 2147483648) (hI : CI μ 3) : CT g l YX4_breaks 4 [vR 0, vI s, vI r, vI w] μ (pI fun e μ2 => (¬ (0 ≤ s ∧ s < μ 3 1 ∧ (r = -1 ∨ (0 ≤ r ∧ r < μ 3 0)) ∧ (w = 0 ∨ w = 1)) ∧ e = -2 ∧ μ2 = bad μ) ∨ ((0 ≤ s ∧ s < μ 3 1 ∧ (r = -1 ∨ (0 ≤ r ∧ r < μ 3 0)) ∧ (w = 0 ∨ w = 1)) ∧ e = (if r = -1 then fA (vw μ 3) (μ 3 0) s w else fB (vw μ 3) s r w) ∧ μ = μ2)) := by
  have hN := CI_roofs hI
  have hM := CI_storms hI
  have hV := CI.VI hI
  refine CT.of (n := 0) (by decide) rfl ?_
  show WA g l YX4_breaks 4 _ 0 [some (vR 0), some (vI s), some (vI r), some (vI w)] [] μ
  refine w_aload_n dX4_breaks_0 rfl ?_
  refine w_iload_n dX4_breaks_1 rfl ?_
  refine w_cV1 kX4_isStorm ml_X4_109 ob_0 rfl (Nat.le_of_ble_eq_true rfl) (by decide) dX4_breaks_2 (c_X4_isStorm (by omega) hI) (kI (fun e2 m2 q2 => ?_))
  obtain ⟨q2, rfl⟩ := q2
  refine w_if_eq (tgt := 28) (by omega) dX4_breaks_5 (by decide) (fun h5 => ?_) (fun h5 => ?_)
  · refine w_aload_n dX4_breaks_28 rfl ?_
    refine w_bipush dX4_breaks_29 (by decide) ?_
    refine w_cV1 kX4_refuse ml_X4_51 ob_0 rfl (Nat.le_of_ble_eq_true rfl) (by decide) dX4_breaks_31 (c_refB) (kI (fun e31 m31 q31 => ?_))
    obtain ⟨rfl, rfl⟩ := q31
    exact w_iretP rfl dX4_breaks_34 (by first | exact Or.inl ⟨by omega, rfl, rfl⟩ | (refine Or.inr ⟨by omega, ?_, rfl⟩; first | rw [if_pos h37] | rw [if_neg h37]))
  · refine w_iload_n dX4_breaks_8 rfl ?_
    refine w_iconst dX4_breaks_9 ?_
    refine w_icmp_eq (tgt := 21) (by omega) (by omega) dX4_breaks_10 (by decide) (fun h10 => ?_) (fun h10 => ?_)
    · refine w_iload_n dX4_breaks_21 rfl ?_
      refine w_cS1 kX4_isPaint ml_X4_81 (Nat.le_of_ble_eq_true rfl) (by decide) dX4_breaks_22 (c_X4_isPaint (by omega)) (kI (fun e22 m22 q22 => ?_))
      obtain ⟨q22, rfl⟩ := q22
      refine w_if_ne (tgt := 35) (by omega) dX4_breaks_25 (by decide) (fun h25 => ?_) (fun h25 => ?_)
      · refine w_iload_n dX4_breaks_35 rfl ?_
        refine w_iconst dX4_breaks_36 ?_
        refine w_icmp_ne (tgt := 55) (by omega) (by omega) dX4_breaks_37 (by decide) (fun h37 => ?_) (fun h37 => ?_)
        · refine w_aload_n dX4_breaks_55 rfl ?_
          refine gf_X4_10 rfl dX4_breaks_56 ?_
          refine gf_X4_55_1 rfl dX4_breaks_59 ?_
          refine w_iload_n dX4_breaks_62 rfl ?_
          refine w_iload_n dX4_breaks_63 rfl ?_
          refine w_iload_n dX4_breaks_64 rfl ?_
          refine w_cV3 kX0_brokenOf ml_X4_119 (cnO cn3) rfl (Nat.le_of_ble_eq_true rfl) (by decide) dX4_breaks_65 (c_X0_brokenOf cn3 hI (by omega) (by omega) (by omega)) (kI (fun e65 m65 q65 => ?_))
          obtain ⟨rfl, rfl, b65⟩ := q65
          exact w_iretP rfl dX4_breaks_68 (by first | exact Or.inl ⟨by omega, rfl, rfl⟩ | (refine Or.inr ⟨by omega, ?_, rfl⟩; first | rw [if_pos h37] | rw [if_neg h37]))
        · refine w_aload_n dX4_breaks_40 rfl ?_
          refine gf_X4_10 rfl dX4_breaks_41 ?_
          refine gf_X4_55_1 rfl dX4_breaks_44 ?_
          refine w_iload_n dX4_breaks_47 rfl ?_
          refine w_iload_n dX4_breaks_48 rfl ?_
          refine w_cV2 kX0_brokenInAll ml_X4_115 (cnO cn3) rfl (Nat.le_of_ble_eq_true rfl) (by decide) dX4_breaks_49 (c_X0_brokenInAll cn3 hI (by omega) (by omega)) (kI (fun e49 m49 q49 => ?_))
          obtain ⟨rfl, rfl, b49⟩ := q49
          refine w_goto (tgt := 68) dX4_breaks_52 (by decide) ?_
          exact w_iretP rfl dX4_breaks_68 (by first | exact Or.inl ⟨by omega, rfl, rfl⟩ | (refine Or.inr ⟨by omega, ?_, rfl⟩; first | rw [if_pos h37] | rw [if_neg h37]))
      · refine w_aload_n dX4_breaks_28 rfl ?_
        refine w_bipush dX4_breaks_29 (by decide) ?_
        refine w_cV1 kX4_refuse ml_X4_51 ob_0 rfl (Nat.le_of_ble_eq_true rfl) (by decide) dX4_breaks_31 (c_refB) (kI (fun e31 m31 q31 => ?_))
        obtain ⟨rfl, rfl⟩ := q31
        exact w_iretP rfl dX4_breaks_34 (by first | exact Or.inl ⟨by omega, rfl, rfl⟩ | (refine Or.inr ⟨by omega, ?_, rfl⟩; first | rw [if_pos h37] | rw [if_neg h37]))
    · refine w_aload_n dX4_breaks_13 rfl ?_
      refine w_iload_n dX4_breaks_14 rfl ?_
      refine w_cV1 kX4_isRoof ml_X4_77 ob_0 rfl (Nat.le_of_ble_eq_true rfl) (by decide) dX4_breaks_15 (c_X4_isRoof (by omega) hI) (kI (fun e15 m15 q15 => ?_))
      obtain ⟨q15, rfl⟩ := q15
      refine w_if_eq (tgt := 28) (by omega) dX4_breaks_18 (by decide) (fun h18 => ?_) (fun h18 => ?_)
      · refine w_aload_n dX4_breaks_28 rfl ?_
        refine w_bipush dX4_breaks_29 (by decide) ?_
        refine w_cV1 kX4_refuse ml_X4_51 ob_0 rfl (Nat.le_of_ble_eq_true rfl) (by decide) dX4_breaks_31 (c_refB) (kI (fun e31 m31 q31 => ?_))
        obtain ⟨rfl, rfl⟩ := q31
        exact w_iretP rfl dX4_breaks_34 (by first | exact Or.inl ⟨by omega, rfl, rfl⟩ | (refine Or.inr ⟨by omega, ?_, rfl⟩; first | rw [if_pos h37] | rw [if_neg h37]))
      · refine w_iload_n dX4_breaks_21 rfl ?_
        refine w_cS1 kX4_isPaint ml_X4_81 (Nat.le_of_ble_eq_true rfl) (by decide) dX4_breaks_22 (c_X4_isPaint (by omega)) (kI (fun e22 m22 q22 => ?_))
        obtain ⟨q22, rfl⟩ := q22
        refine w_if_ne (tgt := 35) (by omega) dX4_breaks_25 (by decide) (fun h25 => ?_) (fun h25 => ?_)
        · refine w_iload_n dX4_breaks_35 rfl ?_
          refine w_iconst dX4_breaks_36 ?_
          refine w_icmp_ne (tgt := 55) (by omega) (by omega) dX4_breaks_37 (by decide) (fun h37 => ?_) (fun h37 => ?_)
          · refine w_aload_n dX4_breaks_55 rfl ?_
            refine gf_X4_10 rfl dX4_breaks_56 ?_
            refine gf_X4_55_1 rfl dX4_breaks_59 ?_
            refine w_iload_n dX4_breaks_62 rfl ?_
            refine w_iload_n dX4_breaks_63 rfl ?_
            refine w_iload_n dX4_breaks_64 rfl ?_
            refine w_cV3 kX0_brokenOf ml_X4_119 (cnO cn3) rfl (Nat.le_of_ble_eq_true rfl) (by decide) dX4_breaks_65 (c_X0_brokenOf cn3 hI (by omega) (by omega) (by omega)) (kI (fun e65 m65 q65 => ?_))
            obtain ⟨rfl, rfl, b65⟩ := q65
            exact w_iretP rfl dX4_breaks_68 (by first | exact Or.inl ⟨by omega, rfl, rfl⟩ | (refine Or.inr ⟨by omega, ?_, rfl⟩; first | rw [if_pos h37] | rw [if_neg h37]))
          · refine w_aload_n dX4_breaks_40 rfl ?_
            refine gf_X4_10 rfl dX4_breaks_41 ?_
            refine gf_X4_55_1 rfl dX4_breaks_44 ?_
            refine w_iload_n dX4_breaks_47 rfl ?_
            refine w_iload_n dX4_breaks_48 rfl ?_
            refine w_cV2 kX0_brokenInAll ml_X4_115 (cnO cn3) rfl (Nat.le_of_ble_eq_true rfl) (by decide) dX4_breaks_49 (c_X0_brokenInAll cn3 hI (by omega) (by omega)) (kI (fun e49 m49 q49 => ?_))
            obtain ⟨rfl, rfl, b49⟩ := q49
            refine w_goto (tgt := 68) dX4_breaks_52 (by decide) ?_
            exact w_iretP rfl dX4_breaks_68 (by first | exact Or.inl ⟨by omega, rfl, rfl⟩ | (refine Or.inr ⟨by omega, ?_, rfl⟩; first | rw [if_pos h37] | rw [if_neg h37]))
        · refine w_aload_n dX4_breaks_28 rfl ?_
          refine w_bipush dX4_breaks_29 (by decide) ?_
          refine w_cV1 kX4_refuse ml_X4_51 ob_0 rfl (Nat.le_of_ble_eq_true rfl) (by decide) dX4_breaks_31 (c_refB) (kI (fun e31 m31 q31 => ?_))
          obtain ⟨rfl, rfl⟩ := q31
          exact w_iretP rfl dX4_breaks_34 (by first | exact Or.inl ⟨by omega, rfl, rfl⟩ | (refine Or.inr ⟨by omega, ?_, rfl⟩; first | rw [if_pos h37] | rw [if_neg h37]))
set_option maxRecDepth 100000 in
set_option maxHeartbeats 4000000 in
theorem c_X4_wins {g : gG} {l : Launch} {μ : gM} {s : Int}  (g1 : -2147483648 ≤ s ∧ s < 2147483648) (hI : CI μ 3) : CT g l YX4_wins 4 [vR 0, vI s] μ (pI fun e μ2 => (¬ (0 ≤ s ∧ s < μ 3 1) ∧ e = -2 ∧ μ2 = bad μ) ∨ ((0 ≤ s ∧ s < μ 3 1) ∧ e = fW (fL (vw μ 3) (μ 3 0) s) ∧ μ = μ2)) := by
  have hN := CI_roofs hI
  have hM := CI_storms hI
  have hV := CI.VI hI
  refine CT.of (n := 0) (by decide) rfl ?_
  show WA g l YX4_wins 4 _ 0 [some (vR 0), some (vI s)] [] μ
  refine w_aload_n dX4_wins_0 rfl ?_
  refine w_iload_n dX4_wins_1 rfl ?_
  refine w_cV1 kX4_isStorm ml_X4_109 ob_0 rfl (Nat.le_of_ble_eq_true rfl) (by decide) dX4_wins_2 (c_X4_isStorm (by omega) hI) (kI (fun e2 m2 q2 => ?_))
  obtain ⟨q2, rfl⟩ := q2
  refine w_if_ne (tgt := 15) (by omega) dX4_wins_5 (by decide) (fun h5 => ?_) (fun h5 => ?_)
  · refine w_aload_n dX4_wins_15 rfl ?_
    refine gf_X4_10 rfl dX4_wins_16 ?_
    refine gf_X4_55_1 rfl dX4_wins_19 ?_
    refine w_iload_n dX4_wins_22 rfl ?_
    refine w_cV1 kX0_lead ml_X4_122 (cnO cn3) rfl (Nat.le_of_ble_eq_true rfl) (by decide) dX4_wins_23 (c_X0_lead cn3 hI (by omega)) (kI (fun e23 m23 q23 => ?_))
    obtain ⟨rfl, rfl, b23⟩ := q23
    refine w_cS1 kX0_winnerBy ml_X4_125 (Nat.le_of_ble_eq_true rfl) (by decide) dX4_wins_26 (c_X0_winnerBy (by omega)) (kI (fun e26 m26 q26 => ?_))
    obtain ⟨rfl, rfl, b26⟩ := q26
    exact w_iretP rfl dX4_wins_29 (by first | exact Or.inl (⟨by omega, rfl, rfl⟩) | exact Or.inr (⟨by omega, rfl, rfl⟩) | (exfalso; omega))
  · refine w_aload_n dX4_wins_8 rfl ?_
    refine w_bipush dX4_wins_9 (by decide) ?_
    refine w_cV1 kX4_refuse ml_X4_51 ob_0 rfl (Nat.le_of_ble_eq_true rfl) (by decide) dX4_wins_11 (c_refB) (kI (fun e11 m11 q11 => ?_))
    obtain ⟨rfl, rfl⟩ := q11
    exact w_iretP rfl dX4_wins_14 (by first | exact Or.inl (⟨by omega, rfl, rfl⟩) | exact Or.inr (⟨by omega, rfl, rfl⟩) | (exfalso; omega))
set_option maxRecDepth 100000 in
set_option maxHeartbeats 4000000 in
theorem c_X4_odds {g : gG} {l : Launch} {μ : gM} {w : Int}  (g1 : -2147483648 ≤ w ∧ w < 2147483648) (hSC : SC μ 3) : CT g l YX4_odds 5 [vR 0, vI w] μ (pI fun e μ2 => (¬ (0 ≤ w ∧ w ≤ 2) ∧ e = -2 ∧ μ2 = bad μ) ∨ ((0 ≤ w ∧ w ≤ 2) ∧ μ 3 1 = 0 ∧ e = -3 ∧ μ2 = nop μ) ∨ ((0 ≤ w ∧ w ≤ 2) ∧ 0 < μ 3 1 ∧ e = 1 ∧ μ2 = frc μ (fO (vw μ 3) (μ 3 0) (μ 3 1) (if w = 2 then -1 else w)) (fC (vw μ 3) (μ 3 1)))) := by
  have hI := hSC.1
  have hN := CI_roofs hI
  have hM := CI_storms hI
  have hV := CI.VI hI
  refine CT.of (n := 1) (by decide) rfl ?_
  show WA g l YX4_odds 5 _ 0 [some (vR 0), some (vI w), none] [] μ
  refine w_iload_n dX4_odds_0 rfl ?_
  refine w_iconst dX4_odds_1 ?_
  refine w_iconst dX4_odds_2 ?_
  refine w_cS3 kX4_within ml_X4_43 (Nat.le_of_ble_eq_true rfl) (by decide) dX4_odds_3 (c_X4_within (by omega) (by omega) (by omega)) (kI (fun e3 m3 q3 => ?_))
  obtain ⟨q3, rfl⟩ := q3
  refine w_if_ne (tgt := 16) (by omega) dX4_odds_6 (by decide) (fun h6 => ?_) (fun h6 => ?_)
  · refine w_aload_n dX4_odds_16 rfl ?_
    refine gf_X4_10 rfl dX4_odds_17 ?_
    refine gf_X4_55_1 rfl dX4_odds_20 ?_
    refine gf_X4_66 rfl (cnO cn3) dX4_odds_23 ?_
    refine w_if_ne (tgt := 36) (by omega) dX4_odds_26 (by decide) (fun h26 => ?_) (fun h26 => ?_)
    · have hp3 := SC_pos hSC (by omega)
      refine w_iload_n dX4_odds_36 rfl ?_
      refine w_iconst dX4_odds_37 ?_
      refine w_icmp_ne (tgt := 45) (by omega) (by omega) dX4_odds_38 (by decide) (fun h38 => ?_) (fun h38 => ?_)
      · refine w_iload_n dX4_odds_45 rfl ?_
        refine w_istore_n dX4_odds_46 (by decide) rfl ?_
        first | (have hw2 : w = 2 := h38; have ew : (if w = 2 then (-1 : Int) else w) = -1 := if_pos hw2) | (have ew : (if w = 2 then (-1 : Int) else w) = w := if_neg h38)
        refine w_aload_n dX4_odds_47 rfl ?_
        refine gf_X4_32 rfl dX4_odds_48 ?_
        refine w_aload_n dX4_odds_51 rfl ?_
        refine gf_X4_10 rfl dX4_odds_52 ?_
        refine gf_X4_55_1 rfl dX4_odds_55 ?_
        refine w_iload_n dX4_odds_58 rfl ?_
        refine w_cV1 kX0_chancesOf ml_X4_128 (cnO cn3) rfl (Nat.le_of_ble_eq_true rfl) (by decide) dX4_odds_59 (c_X0_chancesOf cn3 hI (by omega)) (kI (fun e59 m59 q59 => ?_))
        obtain ⟨rfl, rfl, b59⟩ := q59
        refine w_i2l (by omega) dX4_odds_62 ?_
        refine w_aload_n dX4_odds_63 rfl ?_
        refine gf_X4_10 rfl dX4_odds_64 ?_
        refine gf_X4_55_1 rfl dX4_odds_67 ?_
        refine w_cV0 kX0_allChances ml_X4_131 (cnO cn3) rfl (Nat.le_of_ble_eq_true rfl) (by decide) dX4_odds_70 (c_X0_allChances cn3 hI) (kI (fun e70 m70 q70 => ?_))
        obtain ⟨rfl, rfl, b70⟩ := q70
        refine w_i2l (by omega) dX4_odds_73 ?_
        refine w_cV2 kX1_become ml_X4_135 ob_154 rfl (Nat.le_of_ble_eq_true rfl) (by decide) dX4_odds_74 (c_X1_become (by omega) (by omega)) (kU (fun m74 q74 => ?_))
        obtain rfl := q74
        refine w_iconst dX4_odds_77 ?_
        exact w_iretP rfl dX4_odds_78 (by refine Or.inr (Or.inr ⟨by omega, by omega, rfl, ?_⟩); rw [ew])
      · refine w_iconst dX4_odds_41 ?_
        refine w_goto (tgt := 46) dX4_odds_42 (by decide) ?_
        refine w_istore_n dX4_odds_46 (by decide) rfl ?_
        first | (have hw2 : w = 2 := h38; have ew : (if w = 2 then (-1 : Int) else w) = -1 := if_pos hw2) | (have ew : (if w = 2 then (-1 : Int) else w) = w := if_neg h38)
        refine w_aload_n dX4_odds_47 rfl ?_
        refine gf_X4_32 rfl dX4_odds_48 ?_
        refine w_aload_n dX4_odds_51 rfl ?_
        refine gf_X4_10 rfl dX4_odds_52 ?_
        refine gf_X4_55_1 rfl dX4_odds_55 ?_
        refine w_iload_n dX4_odds_58 rfl ?_
        refine w_cV1 kX0_chancesOf ml_X4_128 (cnO cn3) rfl (Nat.le_of_ble_eq_true rfl) (by decide) dX4_odds_59 (c_X0_chancesOf cn3 hI (by omega)) (kI (fun e59 m59 q59 => ?_))
        obtain ⟨rfl, rfl, b59⟩ := q59
        refine w_i2l (by omega) dX4_odds_62 ?_
        refine w_aload_n dX4_odds_63 rfl ?_
        refine gf_X4_10 rfl dX4_odds_64 ?_
        refine gf_X4_55_1 rfl dX4_odds_67 ?_
        refine w_cV0 kX0_allChances ml_X4_131 (cnO cn3) rfl (Nat.le_of_ble_eq_true rfl) (by decide) dX4_odds_70 (c_X0_allChances cn3 hI) (kI (fun e70 m70 q70 => ?_))
        obtain ⟨rfl, rfl, b70⟩ := q70
        refine w_i2l (by omega) dX4_odds_73 ?_
        refine w_cV2 kX1_become ml_X4_135 ob_154 rfl (Nat.le_of_ble_eq_true rfl) (by decide) dX4_odds_74 (c_X1_become (by omega) (by omega)) (kU (fun m74 q74 => ?_))
        obtain rfl := q74
        refine w_iconst dX4_odds_77 ?_
        exact w_iretP rfl dX4_odds_78 (by refine Or.inr (Or.inr ⟨by omega, by omega, rfl, ?_⟩); rw [ew])
    · refine w_aload_n dX4_odds_29 rfl ?_
      refine w_bipush dX4_odds_30 (by decide) ?_
      refine w_cV1 kX4_refuse ml_X4_51 ob_0 rfl (Nat.le_of_ble_eq_true rfl) (by decide) dX4_odds_32 (c_refN) (kI (fun e32 m32 q32 => ?_))
      obtain ⟨rfl, rfl⟩ := q32
      exact w_iretP rfl dX4_odds_35 (by first | exact Or.inl (⟨by omega, rfl, rfl⟩) | exact Or.inr (Or.inl (⟨by omega, by omega, rfl, rfl⟩)) | (exfalso; omega))
  · refine w_aload_n dX4_odds_9 rfl ?_
    refine w_bipush dX4_odds_10 (by decide) ?_
    refine w_cV1 kX4_refuse ml_X4_51 ob_0 rfl (Nat.le_of_ble_eq_true rfl) (by decide) dX4_odds_12 (c_refB) (kI (fun e12 m12 q12 => ?_))
    obtain ⟨rfl, rfl⟩ := q12
    exact w_iretP rfl dX4_odds_15 (by first | exact Or.inl (⟨by omega, rfl, rfl⟩) | exact Or.inr (Or.inl (⟨by omega, by omega, rfl, rfl⟩)) | (exfalso; omega))
set_option maxRecDepth 100000 in
set_option maxHeartbeats 4000000 in
theorem c_X4_paint {g : gG} {l : Launch} {μ : gM} {w : Int} {n : Int}  (g1 : -2147483648 ≤ w ∧ w < 2147483648) (g2 : -2147483648 ≤ n ∧ n < 2147483648) (hSC : SC μ 3) : CT g l YX4_paint 5 [vR 0, vI w, vI n] μ (pI fun e μ2 => (¬ ((w = 0 ∨ w = 1) ∧ 0 ≤ n ∧ n ≤ 4) ∧ e = -2 ∧ μ2 = bad μ) ∨ (((w = 0 ∨ w = 1) ∧ 0 ≤ n ∧ n ≤ 4) ∧ μ 3 1 = 0 ∧ e = -3 ∧ μ2 = nop μ) ∨ (((w = 0 ∨ w = 1) ∧ 0 ≤ n ∧ n ≤ 4) ∧ 0 < μ 3 1 ∧ e = 1 ∧ μ2 = frc μ (fO (vw μ 3) (μ 3 0) (μ 3 1) w) (fC (vw μ 3) (μ 3 1)))) := by
  have hI := hSC.1
  have hN := CI_roofs hI
  have hM := CI_storms hI
  have hV := CI.VI hI
  refine CT.of (n := 0) (by decide) rfl ?_
  show WA g l YX4_paint 5 _ 0 [some (vR 0), some (vI w), some (vI n)] [] μ
  refine w_iload_n dX4_paint_0 rfl ?_
  refine w_cS1 kX4_isPaint ml_X4_81 (Nat.le_of_ble_eq_true rfl) (by decide) dX4_paint_1 (c_X4_isPaint (by omega)) (kI (fun e1 m1 q1 => ?_))
  obtain ⟨q1, rfl⟩ := q1
  refine w_if_eq (tgt := 16) (by omega) dX4_paint_4 (by decide) (fun h4 => ?_) (fun h4 => ?_)
  · refine w_aload_n dX4_paint_16 rfl ?_
    refine w_bipush dX4_paint_17 (by decide) ?_
    refine w_cV1 kX4_refuse ml_X4_51 ob_0 rfl (Nat.le_of_ble_eq_true rfl) (by decide) dX4_paint_19 (c_refB) (kI (fun e19 m19 q19 => ?_))
    obtain ⟨rfl, rfl⟩ := q19
    exact w_iretP rfl dX4_paint_22 (by first | exact Or.inl (⟨by omega, rfl, rfl⟩) | exact Or.inr (Or.inl (⟨by omega, by omega, rfl, rfl⟩)) | exact Or.inr (Or.inr (⟨by omega, by omega, rfl, rfl⟩)) | (exfalso; omega))
  · refine w_iload_n dX4_paint_7 rfl ?_
    refine w_iconst dX4_paint_8 ?_
    refine w_iconst dX4_paint_9 ?_
    refine w_cS3 kX4_within ml_X4_43 (Nat.le_of_ble_eq_true rfl) (by decide) dX4_paint_10 (c_X4_within (by omega) (by omega) (by omega)) (kI (fun e10 m10 q10 => ?_))
    obtain ⟨q10, rfl⟩ := q10
    refine w_if_ne (tgt := 23) (by omega) dX4_paint_13 (by decide) (fun h13 => ?_) (fun h13 => ?_)
    · refine w_aload_n dX4_paint_23 rfl ?_
      refine gf_X4_10 rfl dX4_paint_24 ?_
      refine gf_X4_55_1 rfl dX4_paint_27 ?_
      refine gf_X4_66 rfl (cnO cn3) dX4_paint_30 ?_
      refine w_if_ne (tgt := 43) (by omega) dX4_paint_33 (by decide) (fun h33 => ?_) (fun h33 => ?_)
      · have hp3 := SC_pos hSC (by omega)
        refine w_aload_n dX4_paint_43 rfl ?_
        refine gf_X4_32 rfl dX4_paint_44 ?_
        refine w_aload_n dX4_paint_47 rfl ?_
        refine gf_X4_10 rfl dX4_paint_48 ?_
        refine gf_X4_55_1 rfl dX4_paint_51 ?_
        refine w_iload_n dX4_paint_54 rfl ?_
        refine w_cV1 kX0_chancesOf ml_X4_128 (cnO cn3) rfl (Nat.le_of_ble_eq_true rfl) (by decide) dX4_paint_55 (c_X0_chancesOf cn3 hI (by omega)) (kI (fun e55 m55 q55 => ?_))
        obtain ⟨rfl, rfl, b55⟩ := q55
        refine w_i2l (by omega) dX4_paint_58 ?_
        refine w_aload_n dX4_paint_59 rfl ?_
        refine gf_X4_10 rfl dX4_paint_60 ?_
        refine gf_X4_55_1 rfl dX4_paint_63 ?_
        refine w_cV0 kX0_allChances ml_X4_131 (cnO cn3) rfl (Nat.le_of_ble_eq_true rfl) (by decide) dX4_paint_66 (c_X0_allChances cn3 hI) (kI (fun e66 m66 q66 => ?_))
        obtain ⟨rfl, rfl, b66⟩ := q66
        refine w_i2l (by omega) dX4_paint_69 ?_
        refine w_cV2 kX1_become ml_X4_135 ob_154 rfl (Nat.le_of_ble_eq_true rfl) (by decide) dX4_paint_70 (c_X1_become (by omega) (by omega)) (kU (fun m70 q70 => ?_))
        obtain rfl := q70
        refine w_iconst dX4_paint_73 ?_
        exact w_iretP rfl dX4_paint_74 (by first | exact Or.inl (⟨by omega, rfl, rfl⟩) | exact Or.inr (Or.inl (⟨by omega, by omega, rfl, rfl⟩)) | exact Or.inr (Or.inr (⟨by omega, by omega, rfl, rfl⟩)) | (exfalso; omega))
      · refine w_aload_n dX4_paint_36 rfl ?_
        refine w_bipush dX4_paint_37 (by decide) ?_
        refine w_cV1 kX4_refuse ml_X4_51 ob_0 rfl (Nat.le_of_ble_eq_true rfl) (by decide) dX4_paint_39 (c_refN) (kI (fun e39 m39 q39 => ?_))
        obtain ⟨rfl, rfl⟩ := q39
        exact w_iretP rfl dX4_paint_42 (by first | exact Or.inl (⟨by omega, rfl, rfl⟩) | exact Or.inr (Or.inl (⟨by omega, by omega, rfl, rfl⟩)) | exact Or.inr (Or.inr (⟨by omega, by omega, rfl, rfl⟩)) | (exfalso; omega))
    · refine w_aload_n dX4_paint_16 rfl ?_
      refine w_bipush dX4_paint_17 (by decide) ?_
      refine w_cV1 kX4_refuse ml_X4_51 ob_0 rfl (Nat.le_of_ble_eq_true rfl) (by decide) dX4_paint_19 (c_refB) (kI (fun e19 m19 q19 => ?_))
      obtain ⟨rfl, rfl⟩ := q19
      exact w_iretP rfl dX4_paint_22 (by first | exact Or.inl (⟨by omega, rfl, rfl⟩) | exact Or.inr (Or.inl (⟨by omega, by omega, rfl, rfl⟩)) | exact Or.inr (Or.inr (⟨by omega, by omega, rfl, rfl⟩)) | (exfalso; omega))
set_option maxRecDepth 100000 in
set_option maxHeartbeats 4000000 in
theorem c_X4_brush {g : gG} {l : Launch} {μ : gM} {w : Int} {n : Int} {r : Int} {sl : Int}  (g1 : -2147483648 ≤ w ∧ w < 2147483648) (g2 : -2147483648 ≤ n ∧ n < 2147483648) (g3 : -2147483648 ≤ r ∧ r < 2147483648) (g4 : -2147483648 ≤ sl ∧ sl < 2147483648) (hI : CI μ 3) : CT g l YX4_brush 2 [vR 0, vI w, vI n, vI r, vI sl] μ (pI fun e μ2 => (¬ ((w = 0 ∨ w = 1) ∧ 0 ≤ n ∧ n ≤ 4 ∧ 0 ≤ r ∧ r < μ 3 0 ∧ 0 ≤ sl ∧ sl ≤ 1) ∧ e = -2 ∧ μ2 = bad μ) ∨ (((w = 0 ∨ w = 1) ∧ 0 ≤ n ∧ n ≤ 4 ∧ 0 ≤ r ∧ r < μ 3 0 ∧ 0 ≤ sl ∧ sl ≤ 1) ∧ μ 3 1 = 0 ∧ e = -3 ∧ μ2 = nop μ) ∨ (((w = 0 ∨ w = 1) ∧ 0 ≤ n ∧ n ≤ 4 ∧ 0 ≤ r ∧ r < μ 3 0 ∧ 0 ≤ sl ∧ sl ≤ 1) ∧ 0 < μ 3 1 ∧ e = 0 ∧ μ = μ2)) := by
  have hN := CI_roofs hI
  have hM := CI_storms hI
  have hV := CI.VI hI
  refine CT.of (n := 0) (by decide) rfl ?_
  show WA g l YX4_brush 2 _ 0 [some (vR 0), some (vI w), some (vI n), some (vI r), some (vI sl)] [] μ
  refine w_iload_n dX4_brush_0 rfl ?_
  refine w_cS1 kX4_isPaint ml_X4_81 (Nat.le_of_ble_eq_true rfl) (by decide) dX4_brush_1 (c_X4_isPaint (by omega)) (kI (fun e1 m1 q1 => ?_))
  obtain ⟨q1, rfl⟩ := q1
  refine w_if_eq (tgt := 34) (by omega) dX4_brush_4 (by decide) (fun h4 => ?_) (fun h4 => ?_)
  · refine w_aload_n dX4_brush_34 rfl ?_
    refine w_bipush dX4_brush_35 (by decide) ?_
    refine w_cV1 kX4_refuse ml_X4_51 ob_0 rfl (Nat.le_of_ble_eq_true rfl) (by decide) dX4_brush_37 (c_refB) (kI (fun e37 m37 q37 => ?_))
    obtain ⟨rfl, rfl⟩ := q37
    exact w_iretP rfl dX4_brush_40 (by first | exact Or.inl (⟨by omega, rfl, rfl⟩) | exact Or.inr (Or.inl (⟨by omega, by omega, rfl, rfl⟩)) | exact Or.inr (Or.inr (⟨by omega, by omega, rfl, rfl⟩)) | (exfalso; omega))
  · refine w_iload_n dX4_brush_7 rfl ?_
    refine w_iconst dX4_brush_8 ?_
    refine w_iconst dX4_brush_9 ?_
    refine w_cS3 kX4_within ml_X4_43 (Nat.le_of_ble_eq_true rfl) (by decide) dX4_brush_10 (c_X4_within (by omega) (by omega) (by omega)) (kI (fun e10 m10 q10 => ?_))
    obtain ⟨q10, rfl⟩ := q10
    refine w_if_eq (tgt := 34) (by omega) dX4_brush_13 (by decide) (fun h13 => ?_) (fun h13 => ?_)
    · refine w_aload_n dX4_brush_34 rfl ?_
      refine w_bipush dX4_brush_35 (by decide) ?_
      refine w_cV1 kX4_refuse ml_X4_51 ob_0 rfl (Nat.le_of_ble_eq_true rfl) (by decide) dX4_brush_37 (c_refB) (kI (fun e37 m37 q37 => ?_))
      obtain ⟨rfl, rfl⟩ := q37
      exact w_iretP rfl dX4_brush_40 (by first | exact Or.inl (⟨by omega, rfl, rfl⟩) | exact Or.inr (Or.inl (⟨by omega, by omega, rfl, rfl⟩)) | exact Or.inr (Or.inr (⟨by omega, by omega, rfl, rfl⟩)) | (exfalso; omega))
    · refine w_aload_n dX4_brush_16 rfl ?_
      refine w_iload_n dX4_brush_17 rfl ?_
      refine w_cV1 kX4_isRoof ml_X4_77 ob_0 rfl (Nat.le_of_ble_eq_true rfl) (by decide) dX4_brush_18 (c_X4_isRoof (by omega) hI) (kI (fun e18 m18 q18 => ?_))
      obtain ⟨q18, rfl⟩ := q18
      refine w_if_eq (tgt := 34) (by omega) dX4_brush_21 (by decide) (fun h21 => ?_) (fun h21 => ?_)
      · refine w_aload_n dX4_brush_34 rfl ?_
        refine w_bipush dX4_brush_35 (by decide) ?_
        refine w_cV1 kX4_refuse ml_X4_51 ob_0 rfl (Nat.le_of_ble_eq_true rfl) (by decide) dX4_brush_37 (c_refB) (kI (fun e37 m37 q37 => ?_))
        obtain ⟨rfl, rfl⟩ := q37
        exact w_iretP rfl dX4_brush_40 (by first | exact Or.inl (⟨by omega, rfl, rfl⟩) | exact Or.inr (Or.inl (⟨by omega, by omega, rfl, rfl⟩)) | exact Or.inr (Or.inr (⟨by omega, by omega, rfl, rfl⟩)) | (exfalso; omega))
      · refine w_iload dX4_brush_24 rfl ?_
        refine w_iconst dX4_brush_26 ?_
        refine w_iconst dX4_brush_27 ?_
        refine w_cS3 kX4_within ml_X4_43 (Nat.le_of_ble_eq_true rfl) (by decide) dX4_brush_28 (c_X4_within (by omega) (by omega) (by omega)) (kI (fun e28 m28 q28 => ?_))
        obtain ⟨q28, rfl⟩ := q28
        refine w_if_ne (tgt := 41) (by omega) dX4_brush_31 (by decide) (fun h31 => ?_) (fun h31 => ?_)
        · refine w_aload_n dX4_brush_41 rfl ?_
          refine gf_X4_10 rfl dX4_brush_42 ?_
          refine gf_X4_55_1 rfl dX4_brush_45 ?_
          refine gf_X4_66 rfl (cnO cn3) dX4_brush_48 ?_
          refine w_if_ne (tgt := 61) (by omega) dX4_brush_51 (by decide) (fun h51 => ?_) (fun h51 => ?_)
          · refine w_iconst dX4_brush_61 ?_
            exact w_iretP rfl dX4_brush_62 (by first | exact Or.inl (⟨by omega, rfl, rfl⟩) | exact Or.inr (Or.inl (⟨by omega, by omega, rfl, rfl⟩)) | exact Or.inr (Or.inr (⟨by omega, by omega, rfl, rfl⟩)) | (exfalso; omega))
          · refine w_aload_n dX4_brush_54 rfl ?_
            refine w_bipush dX4_brush_55 (by decide) ?_
            refine w_cV1 kX4_refuse ml_X4_51 ob_0 rfl (Nat.le_of_ble_eq_true rfl) (by decide) dX4_brush_57 (c_refN) (kI (fun e57 m57 q57 => ?_))
            obtain ⟨rfl, rfl⟩ := q57
            exact w_iretP rfl dX4_brush_60 (by first | exact Or.inl (⟨by omega, rfl, rfl⟩) | exact Or.inr (Or.inl (⟨by omega, by omega, rfl, rfl⟩)) | exact Or.inr (Or.inr (⟨by omega, by omega, rfl, rfl⟩)) | (exfalso; omega))
        · refine w_aload_n dX4_brush_34 rfl ?_
          refine w_bipush dX4_brush_35 (by decide) ?_
          refine w_cV1 kX4_refuse ml_X4_51 ob_0 rfl (Nat.le_of_ble_eq_true rfl) (by decide) dX4_brush_37 (c_refB) (kI (fun e37 m37 q37 => ?_))
          obtain ⟨rfl, rfl⟩ := q37
          exact w_iretP rfl dX4_brush_40 (by first | exact Or.inl (⟨by omega, rfl, rfl⟩) | exact Or.inr (Or.inl (⟨by omega, by omega, rfl, rfl⟩)) | exact Or.inr (Or.inr (⟨by omega, by omega, rfl, rfl⟩)) | (exfalso; omega))
