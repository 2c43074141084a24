set_option maxRecDepth 100000 in
set_option maxHeartbeats 4000000 in
theorem c_X4_decides {g : gG} {l : Launch} {μ : gM} {r : Int}  (g1 : -2147483648 ≤ r ∧ r < 2147483648) (hI : CI μ 3) : CT g l YX4_decides 5 [vR 0, vI r] μ (pI fun e μ2 => (¬ (0 ≤ r ∧ r < μ 3 0) ∧ e = -2 ∧ μ2 = bad μ) ∨ ((0 ≤ r ∧ r < μ 3 0) ∧ e = fD (vw μ 3) (μ 3 0) (μ 3 1) r ∧ μ = μ2)) := by
  have hN := CI_roofs hI
  have hM := CI_storms hI
  have hV := CI.VI hI
  refine CT.of (n := 2) (by decide) rfl ?_
  show WA g l YX4_decides 5 _ 0 [some (vR 0), some (vI r), none, none] [] μ
  refine w_aload_n dX4_decides_0 rfl ?_
  refine w_iload_n dX4_decides_1 rfl ?_
  refine w_cV1 kX4_isRoof ml_X4_77 ob_0 rfl (Nat.le_of_ble_eq_true rfl) (by decide) dX4_decides_2 (c_X4_isRoof (by omega) hI) (kI (fun e2 m2 q2 => ?_))
  obtain ⟨q2, rfl⟩ := q2
  refine w_if_ne (tgt := 15) (by omega) dX4_decides_5 (by decide) (fun h5 => ?_) (fun h5 => ?_)
  · refine w_iconst dX4_decides_15 ?_
    refine w_istore_n dX4_decides_16 (by decide) rfl ?_
    refine w_iconst dX4_decides_17 ?_
    refine w_istore_n dX4_decides_18 (by decide) rfl ?_
    refine w_loop (ι := Int × Int) (fun i => match i with | (a, k) => 0 ≤ k ∧ k ≤ μ 3 1 ∧ a = fD (vw μ 3) (μ 3 0) k r) (fun i => match i with | (a, k) => (μ 3 1 - k).toNat) (fun i => match i with | (a, k) => [some (vR 0), some (vI r), some (vI a), some (vI k)]) (fun i => match i with | (a, k) => μ) ?_ (0, 0) ⟨by omega, by omega, rfl⟩
    intro i_ hinv19 ih19
    obtain ⟨a, k⟩ := i_
    try dsimp only at hinv19 ih19 ⊢
    obtain ⟨a1, a2, a3⟩ := hinv19
    refine w_iload_n dX4_decides_19 rfl ?_
    refine w_aload_n dX4_decides_20 rfl ?_
    refine gf_X4_10 rfl dX4_decides_21 ?_
    refine gf_X4_55_1 rfl dX4_decides_24 ?_
    refine gf_X4_66 rfl (cnO cn3) dX4_decides_27 ?_
    refine w_icmp_ge (tgt := 57) (by omega) (by omega) dX4_decides_30 (by decide) (fun h30 => ?_) (fun h30 => ?_)
    · refine w_iload_n dX4_decides_57 rfl ?_
      exact w_iretP rfl dX4_decides_58 (by have e0 : k = μ 3 1 := (by omega); subst e0; exact Or.inr ⟨by omega, a3, rfl⟩)
    · refine w_aload_n dX4_decides_33 rfl ?_
      refine gf_X4_10 rfl dX4_decides_34 ?_
      refine gf_X4_55_1 rfl dX4_decides_37 ?_
      refine w_iload_n dX4_decides_40 rfl ?_
      refine w_iload_n dX4_decides_41 rfl ?_
      refine w_cV2 kX0_isDecidedBy ml_X4_144 (cnO cn3) rfl (Nat.le_of_ble_eq_true rfl) (by decide) dX4_decides_42 (c_X0_isDecidedBy cn3 hI (by omega) (by omega)) (kI (fun e42 m42 q42 => ?_))
      obtain ⟨q42, rfl⟩ := q42
      refine w_if_eq (tgt := 51) (by omega) dX4_decides_45 (by decide) (fun h45 => ?_) (fun h45 => ?_)
      · refine w_iinc dX4_decides_51 rfl (by decide) rfl ?_
        refine w_goto (tgt := 19) dX4_decides_54 (by decide) ?_
        rcases q42 with ⟨z1, z2⟩ | ⟨z1, z2⟩
        · first
          | (exfalso; omega)
          | exact ih19 (_, _) ⟨by omega, by omega, by rw [fD, sI_s _ a1, ← fD, ← a3, if_pos (show dcd (vw μ 3) (μ 3 0) k r from z2)]⟩ (by omega)
        · first
          | (exfalso; omega)
          | exact ih19 (_, _) ⟨by omega, by omega, by rw [fD, sI_s _ a1, ← fD, ← a3, if_neg (fun z => z z2), Int.add_zero]⟩ (by omega)
      · refine w_iinc dX4_decides_48 rfl (by decide) rfl ?_
        refine w_iinc dX4_decides_51 rfl (by decide) rfl ?_
        refine w_goto (tgt := 19) dX4_decides_54 (by decide) ?_
        rcases q42 with ⟨z1, z2⟩ | ⟨z1, z2⟩
        · first
          | (exfalso; omega)
          | exact ih19 (_, _) ⟨by omega, by omega, by rw [fD, sI_s _ a1, ← fD, ← a3, if_pos (show dcd (vw μ 3) (μ 3 0) k r from z2)]⟩ (by omega)
        · first
          | (exfalso; omega)
          | exact ih19 (_, _) ⟨by omega, by omega, by rw [fD, sI_s _ a1, ← fD, ← a3, if_neg (fun z => z z2), Int.add_zero]⟩ (by omega)
  · refine w_aload_n dX4_decides_8 rfl ?_
    refine w_bipush dX4_decides_9 (by decide) ?_
    refine w_cV1 kX4_refuse ml_X4_51 ob_0 rfl (Nat.le_of_ble_eq_true rfl) (by decide) dX4_decides_11 (c_refB) (kI (fun e11 m11 q11 => ?_))
    obtain ⟨rfl, rfl⟩ := q11
    exact w_iretP rfl dX4_decides_14 (by first | exact Or.inl (⟨by omega, rfl, rfl⟩) | (exfalso; omega))
set_option maxRecDepth 100000 in
set_option maxHeartbeats 4000000 in
theorem c_X4_power {g : gG} {l : Launch} {μ : gM} {r : Int}  (g1 : -2147483648 ≤ r ∧ r < 2147483648) (hSC : SC μ 3) : CT g l YX4_power 5 [vR 0, vI r] μ (pI fun e μ2 => (¬ (0 ≤ r ∧ r < μ 3 0) ∧ e = -2 ∧ μ2 = bad μ) ∨ ((0 ≤ r ∧ r < μ 3 0) ∧ μ 3 1 = 0 ∧ e = -3 ∧ μ2 = nop μ) ∨ ((0 ≤ r ∧ r < μ 3 0) ∧ 0 < μ 3 1 ∧ e = 1 ∧ μ2 = frc μ (fP (vw μ 3) (μ 3 0) (μ 3 1) r) (fC (vw μ 3) (μ 3 1)))) := by
  have hI := hSC.1
  have hN := CI_roofs hI
  have hM := CI_storms hI
  have hV := CI.VI hI
  refine CT.of (n := 2) (by decide) rfl ?_
  show WA g l YX4_power 5 _ 0 [some (vR 0), some (vI r), none, none] [] μ
  refine w_aload_n dX4_power_0 rfl ?_
  refine w_iload_n dX4_power_1 rfl ?_
  refine w_cV1 kX4_isRoof ml_X4_77 ob_0 rfl (Nat.le_of_ble_eq_true rfl) (by decide) dX4_power_2 (c_X4_isRoof (by omega) hI) (kI (fun e2 m2 q2 => ?_))
  obtain ⟨q2, rfl⟩ := q2
  refine w_if_ne (tgt := 15) (by omega) dX4_power_5 (by decide) (fun h5 => ?_) (fun h5 => ?_)
  · refine w_aload_n dX4_power_15 rfl ?_
    refine gf_X4_10 rfl dX4_power_16 ?_
    refine gf_X4_55_1 rfl dX4_power_19 ?_
    refine gf_X4_66 rfl (cnO cn3) dX4_power_22 ?_
    refine w_if_ne (tgt := 35) (by omega) dX4_power_25 (by decide) (fun h25 => ?_) (fun h25 => ?_)
    · refine w_iconst dX4_power_35 ?_
      refine w_istore_n dX4_power_36 (by decide) rfl ?_
      refine w_iconst dX4_power_37 ?_
      refine w_istore_n dX4_power_38 (by decide) rfl ?_
      refine w_loop (ι := Int × Int) (fun i => match i with | (a, k) => 0 ≤ k ∧ k ≤ μ 3 1 ∧ a = fP (vw μ 3) (μ 3 0) k r) (fun i => match i with | (a, k) => (μ 3 1 - k).toNat) (fun i => match i with | (a, k) => [some (vR 0), some (vI r), some (vI a), some (vI k)]) (fun i => match i with | (a, k) => μ) ?_ (0, 0) ⟨by omega, by omega, rfl⟩
      intro i_ hinv39 ih39
      obtain ⟨a, k⟩ := i_
      try dsimp only at hinv39 ih39 ⊢
      obtain ⟨a1, a2, a3⟩ := hinv39
      refine w_iload_n dX4_power_39 rfl ?_
      refine w_aload_n dX4_power_40 rfl ?_
      refine gf_X4_10 rfl dX4_power_41 ?_
      refine gf_X4_55_1 rfl dX4_power_44 ?_
      refine gf_X4_66 rfl (cnO cn3) dX4_power_47 ?_
      refine w_icmp_ge (tgt := 89) (by omega) (by omega) dX4_power_50 (by decide) (fun h50 => ?_) (fun h50 => ?_)
      · have e0 : k = μ 3 1 := by omega
        subst e0
        have hfp := fP_bd hV hM (μ 3 0) r
        have hp3 := SC_pos hSC (by omega)
        refine w_aload_n dX4_power_89 rfl ?_
        refine gf_X4_32 rfl dX4_power_90 ?_
        refine w_iload_n dX4_power_93 rfl ?_
        refine w_i2l (by omega) dX4_power_94 ?_
        refine w_aload_n dX4_power_95 rfl ?_
        refine gf_X4_10 rfl dX4_power_96 ?_
        refine gf_X4_55_1 rfl dX4_power_99 ?_
        refine w_cV0 kX0_allChances ml_X4_131 (cnO cn3) rfl (Nat.le_of_ble_eq_true rfl) (by decide) dX4_power_102 (c_X0_allChances cn3 hI) (kI (fun e102 m102 q102 => ?_))
        obtain ⟨rfl, rfl, b102⟩ := q102
        refine w_i2l (by omega) dX4_power_105 ?_
        refine w_cV2 kX1_become ml_X4_135 ob_154 rfl (Nat.le_of_ble_eq_true rfl) (by decide) dX4_power_106 (c_X1_become (by omega) (by omega)) (kU (fun m106 q106 => ?_))
        obtain rfl := q106
        refine w_iconst dX4_power_109 ?_
        exact w_iretP rfl dX4_power_110 (by rw [a3]; exact Or.inr (Or.inr ⟨by omega, by omega, rfl, rfl⟩))
      · refine w_aload_n dX4_power_53 rfl ?_
        refine gf_X4_10 rfl dX4_power_54 ?_
        refine gf_X4_55_1 rfl dX4_power_57 ?_
        refine w_iload_n dX4_power_60 rfl ?_
        refine w_iload_n dX4_power_61 rfl ?_
        refine w_cV2 kX0_isDecidedBy ml_X4_144 (cnO cn3) rfl (Nat.le_of_ble_eq_true rfl) (by decide) dX4_power_62 (c_X0_isDecidedBy cn3 hI (by omega) (by omega)) (kI (fun e62 m62 q62 => ?_))
        obtain ⟨q62, rfl⟩ := q62
        refine w_if_eq (tgt := 83) (by omega) dX4_power_65 (by decide) (fun h65 => ?_) (fun h65 => ?_)
        · refine w_iinc dX4_power_83 rfl (by decide) rfl ?_
          refine w_goto (tgt := 39) dX4_power_86 (by decide) ?_
          rcases q62 with ⟨z1, z2⟩ | ⟨z1, z2⟩
          · first
            | (exfalso; omega)
            | exact ih39 (_, _) ⟨by omega, by omega, by rw [fP, sI_s _ a1, ← fP, ← a3, if_pos (show dcd (vw μ 3) (μ 3 0) k r from z2)]; rfl⟩ (by omega)
          · first
            | (exfalso; omega)
            | exact ih39 (_, _) ⟨by omega, by omega, by rw [fP, sI_s _ a1, ← fP, ← a3, if_neg (fun z => z z2), Int.add_zero]⟩ (by omega)
        · refine w_iload_n dX4_power_68 rfl ?_
          refine w_aload_n dX4_power_69 rfl ?_
          refine gf_X4_10 rfl dX4_power_70 ?_
          refine gf_X4_55_1 rfl dX4_power_73 ?_
          refine gf_X4_147 rfl (cnO cn3) dX4_power_76 ?_
          refine w_iload_n dX4_power_79 rfl ?_
          refine w_ialdB (CI_chance hI) (cA_chance cn3) (by omega) dX4_power_80 (fun b80 => ?_)
          refine w_iadd dX4_power_81 ?_
          refine w_istore_n dX4_power_82 (by decide) rfl ?_
          refine w_iinc dX4_power_83 rfl (by decide) rfl ?_
          refine w_goto (tgt := 39) dX4_power_86 (by decide) ?_
          rcases q62 with ⟨z1, z2⟩ | ⟨z1, z2⟩
          · first
            | (exfalso; omega)
            | exact ih39 (_, _) ⟨by omega, by omega, by rw [fP, sI_s _ a1, ← fP, ← a3, if_pos (show dcd (vw μ 3) (μ 3 0) k r from z2)]; rfl⟩ (by omega)
          · first
            | (exfalso; omega)
            | exact ih39 (_, _) ⟨by omega, by omega, by rw [fP, sI_s _ a1, ← fP, ← a3, if_neg (fun z => z z2), Int.add_zero]⟩ (by omega)
    · refine w_aload_n dX4_power_28 rfl ?_
      refine w_bipush dX4_power_29 (by decide) ?_
      refine w_cV1 kX4_refuse ml_X4_51 ob_0 rfl (Nat.le_of_ble_eq_true rfl) (by decide) dX4_power_31 (c_refN) (kI (fun e31 m31 q31 => ?_))
      obtain ⟨rfl, rfl⟩ := q31
      exact w_iretP rfl dX4_power_34 (by first | exact Or.inl (⟨by omega, rfl, rfl⟩) | exact Or.inr (Or.inl (⟨by omega, by omega, rfl, rfl⟩)) | (exfalso; omega))
  · refine w_aload_n dX4_power_8 rfl ?_
    refine w_bipush dX4_power_9 (by decide) ?_
    refine w_cV1 kX4_refuse ml_X4_51 ob_0 rfl (Nat.le_of_ble_eq_true rfl) (by decide) dX4_power_11 (c_refB) (kI (fun e11 m11 q11 => ?_))
    obtain ⟨rfl, rfl⟩ := q11
    exact w_iretP rfl dX4_power_14 (by first | exact Or.inl (⟨by omega, rfl, rfl⟩) | exact Or.inr (Or.inl (⟨by omega, by omega, rfl, rfl⟩)) | (exfalso; omega))
set_option maxRecDepth 100000 in
set_option maxHeartbeats 4000000 in
theorem c_X4_shards {g : gG} {l : Launch} {μ : gM} {r : Int} {b : Int} {n : Int}  (g1 : -2147483648 ≤ r ∧ r < 2147483648) (g2 : -2147483648 ≤ b ∧ b < 2147483648) (g3 : -2147483648 ≤ n ∧ n < 2147483648) (hI : CI μ 3) : CT g l YX4_shards 2 [vR 0, vI r, vI b, vI n] μ (pI fun e μ2 => (¬ ((0 ≤ r ∧ r < μ 3 0) ∧ ((b = -1 ∧ n = -1) ∨ (0 ≤ b ∧ b ≤ 18 ∧ 0 ≤ n ∧ n ≤ 18))) ∧ e = -2 ∧ μ2 = bad μ) ∨ (((0 ≤ r ∧ r < μ 3 0) ∧ ((b = -1 ∧ n = -1) ∨ (0 ≤ b ∧ b ≤ 18 ∧ 0 ≤ n ∧ n ≤ 18))) ∧ e = 1 ∧ μ2 = wr (wr μ (3 + 4) r b) (3 + 5) r n)) := by
  have hN := CI_roofs hI
  have hM := CI_storms hI
  have hV := CI.VI hI
  refine CT.of (n := 2) (by decide) rfl ?_
  show WA g l YX4_shards 2 _ 0 [some (vR 0), some (vI r), some (vI b), some (vI n), none, none] [] μ
  refine w_iload_n dX4_shards_0 rfl ?_
  refine w_iconst dX4_shards_1 ?_
  refine w_bipush dX4_shards_2 (by decide) ?_
  refine w_cS3 kX4_within ml_X4_43 (Nat.le_of_ble_eq_true rfl) (by decide) dX4_shards_4 (c_X4_within (by omega) (by omega) (by omega)) (kI (fun e4 m4 q4 => ?_))
  obtain ⟨q4, rfl⟩ := q4
  refine w_if_eq (tgt := 24) (by omega) dX4_shards_7 (by decide) (fun h7 => ?_) (fun h7 => ?_)
  · refine w_iconst dX4_shards_24 ?_
    refine w_istore dX4_shards_25 (by decide) rfl ?_
    refine w_iload_n dX4_shards_27 rfl ?_
    refine w_iconst dX4_shards_28 ?_
    refine w_icmp_ne (tgt := 41) (by omega) (by omega) dX4_shards_29 (by decide) (fun h29 => ?_) (fun h29 => ?_)
    · refine w_iconst dX4_shards_41 ?_
      refine w_istore dX4_shards_42 (by decide) rfl ?_
      refine w_aload_n dX4_shards_44 rfl ?_
      refine w_iload_n dX4_shards_45 rfl ?_
      refine w_cV1 kX4_isRoof ml_X4_77 ob_0 rfl (Nat.le_of_ble_eq_true rfl) (by decide) dX4_shards_46 (c_X4_isRoof (by omega) hI) (kI (fun e46 m46 q46 => ?_))
      obtain ⟨q46, rfl⟩ := q46
      refine w_if_eq (tgt := 62) (by omega) dX4_shards_49 (by decide) (fun h49 => ?_) (fun h49 => ?_)
      · refine w_aload_n dX4_shards_62 rfl ?_
        refine w_bipush dX4_shards_63 (by decide) ?_
        refine w_cV1 kX4_refuse ml_X4_51 ob_0 rfl (Nat.le_of_ble_eq_true rfl) (by decide) dX4_shards_65 (c_refB) (kI (fun e65 m65 q65 => ?_))
        obtain ⟨rfl, rfl⟩ := q65
        exact w_iretP rfl dX4_shards_68 (by first | exact Or.inl (⟨by omega, rfl, rfl⟩) | exact Or.inr (⟨by omega, rfl, rfl⟩) | (exfalso; omega))
      · refine w_iload dX4_shards_52 rfl ?_
        refine w_if_ne (tgt := 69) (by omega) dX4_shards_54 (by decide) (fun h54 => ?_) (fun h54 => ?_)
        · refine w_aload_n dX4_shards_69 rfl ?_
          refine gf_X4_10 rfl dX4_shards_70 ?_
          refine gf_X4_55_1 rfl dX4_shards_73 ?_
          refine gf_X4_153 rfl (cnO cn3) dX4_shards_76 ?_
          refine w_iload_n dX4_shards_79 rfl ?_
          refine w_iload_n dX4_shards_80 rfl ?_
          refine w_iast (cA_blue cn3) (by omega) dX4_shards_81 ?_
          refine w_aload_n dX4_shards_82 rfl ?_
          refine gf_X4_10 rfl dX4_shards_83 ?_
          refine gf_X4_55_1 rfl dX4_shards_86 ?_
          refine gf_X4_156 rfl (cnO cn3) dX4_shards_89 ?_
          refine w_iload_n dX4_shards_92 rfl ?_
          refine w_iload_n dX4_shards_93 rfl ?_
          refine w_iast (cA_brown cn3) (by omega) dX4_shards_94 ?_
          refine w_iconst dX4_shards_95 ?_
          exact w_iretP rfl dX4_shards_96 (by first | exact Or.inl (⟨by omega, rfl, rfl⟩) | exact Or.inr (⟨by omega, rfl, rfl⟩) | (exfalso; omega))
        · refine w_iload dX4_shards_57 rfl ?_
          refine w_if_ne (tgt := 69) (by omega) dX4_shards_59 (by decide) (fun h59 => ?_) (fun h59 => ?_)
          · refine w_aload_n dX4_shards_69 rfl ?_
            refine gf_X4_10 rfl dX4_shards_70 ?_
            refine gf_X4_55_1 rfl dX4_shards_73 ?_
            refine gf_X4_153 rfl (cnO cn3) dX4_shards_76 ?_
            refine w_iload_n dX4_shards_79 rfl ?_
            refine w_iload_n dX4_shards_80 rfl ?_
            refine w_iast (cA_blue cn3) (by omega) dX4_shards_81 ?_
            refine w_aload_n dX4_shards_82 rfl ?_
            refine gf_X4_10 rfl dX4_shards_83 ?_
            refine gf_X4_55_1 rfl dX4_shards_86 ?_
            refine gf_X4_156 rfl (cnO cn3) dX4_shards_89 ?_
            refine w_iload_n dX4_shards_92 rfl ?_
            refine w_iload_n dX4_shards_93 rfl ?_
            refine w_iast (cA_brown cn3) (by omega) dX4_shards_94 ?_
            refine w_iconst dX4_shards_95 ?_
            exact w_iretP rfl dX4_shards_96 (by first | exact Or.inl (⟨by omega, rfl, rfl⟩) | exact Or.inr (⟨by omega, rfl, rfl⟩) | (exfalso; omega))
          · refine w_aload_n dX4_shards_62 rfl ?_
            refine w_bipush dX4_shards_63 (by decide) ?_
            refine w_cV1 kX4_refuse ml_X4_51 ob_0 rfl (Nat.le_of_ble_eq_true rfl) (by decide) dX4_shards_65 (c_refB) (kI (fun e65 m65 q65 => ?_))
            obtain ⟨rfl, rfl⟩ := q65
            exact w_iretP rfl dX4_shards_68 (by first | exact Or.inl (⟨by omega, rfl, rfl⟩) | exact Or.inr (⟨by omega, rfl, rfl⟩) | (exfalso; omega))
    · refine w_iload_n dX4_shards_32 rfl ?_
      refine w_iconst dX4_shards_33 ?_
      refine w_icmp_ne (tgt := 41) (by omega) (by omega) dX4_shards_34 (by decide) (fun h34 => ?_) (fun h34 => ?_)
      · refine w_iconst dX4_shards_41 ?_
        refine w_istore dX4_shards_42 (by decide) rfl ?_
        refine w_aload_n dX4_shards_44 rfl ?_
        refine w_iload_n dX4_shards_45 rfl ?_
        refine w_cV1 kX4_isRoof ml_X4_77 ob_0 rfl (Nat.le_of_ble_eq_true rfl) (by decide) dX4_shards_46 (c_X4_isRoof (by omega) hI) (kI (fun e46 m46 q46 => ?_))
        obtain ⟨q46, rfl⟩ := q46
        refine w_if_eq (tgt := 62) (by omega) dX4_shards_49 (by decide) (fun h49 => ?_) (fun h49 => ?_)
        · refine w_aload_n dX4_shards_62 rfl ?_
          refine w_bipush dX4_shards_63 (by decide) ?_
          refine w_cV1 kX4_refuse ml_X4_51 ob_0 rfl (Nat.le_of_ble_eq_true rfl) (by decide) dX4_shards_65 (c_refB) (kI (fun e65 m65 q65 => ?_))
          obtain ⟨rfl, rfl⟩ := q65
          exact w_iretP rfl dX4_shards_68 (by first | exact Or.inl (⟨by omega, rfl, rfl⟩) | exact Or.inr (⟨by omega, rfl, rfl⟩) | (exfalso; omega))
        · refine w_iload dX4_shards_52 rfl ?_
          refine w_if_ne (tgt := 69) (by omega) dX4_shards_54 (by decide) (fun h54 => ?_) (fun h54 => ?_)
          · refine w_aload_n dX4_shards_69 rfl ?_
            refine gf_X4_10 rfl dX4_shards_70 ?_
            refine gf_X4_55_1 rfl dX4_shards_73 ?_
            refine gf_X4_153 rfl (cnO cn3) dX4_shards_76 ?_
            refine w_iload_n dX4_shards_79 rfl ?_
            refine w_iload_n dX4_shards_80 rfl ?_
            refine w_iast (cA_blue cn3) (by omega) dX4_shards_81 ?_
            refine w_aload_n dX4_shards_82 rfl ?_
            refine gf_X4_10 rfl dX4_shards_83 ?_
            refine gf_X4_55_1 rfl dX4_shards_86 ?_
            refine gf_X4_156 rfl (cnO cn3) dX4_shards_89 ?_
            refine w_iload_n dX4_shards_92 rfl ?_
            refine w_iload_n dX4_shards_93 rfl ?_
            refine w_iast (cA_brown cn3) (by omega) dX4_shards_94 ?_
            refine w_iconst dX4_shards_95 ?_
            exact w_iretP rfl dX4_shards_96 (by first | exact Or.inl (⟨by omega, rfl, rfl⟩) | exact Or.inr (⟨by omega, rfl, rfl⟩) | (exfalso; omega))
          · refine w_iload dX4_shards_57 rfl ?_
            refine w_if_ne (tgt := 69) (by omega) dX4_shards_59 (by decide) (fun h59 => ?_) (fun h59 => ?_)
            · refine w_aload_n dX4_shards_69 rfl ?_
              refine gf_X4_10 rfl dX4_shards_70 ?_
              refine gf_X4_55_1 rfl dX4_shards_73 ?_
              refine gf_X4_153 rfl (cnO cn3) dX4_shards_76 ?_
              refine w_iload_n dX4_shards_79 rfl ?_
              refine w_iload_n dX4_shards_80 rfl ?_
              refine w_iast (cA_blue cn3) (by omega) dX4_shards_81 ?_
              refine w_aload_n dX4_shards_82 rfl ?_
              refine gf_X4_10 rfl dX4_shards_83 ?_
              refine gf_X4_55_1 rfl dX4_shards_86 ?_
              refine gf_X4_156 rfl (cnO cn3) dX4_shards_89 ?_
              refine w_iload_n dX4_shards_92 rfl ?_
              refine w_iload_n dX4_shards_93 rfl ?_
              refine w_iast (cA_brown cn3) (by omega) dX4_shards_94 ?_
              refine w_iconst dX4_shards_95 ?_
              exact w_iretP rfl dX4_shards_96 (by first | exact Or.inl (⟨by omega, rfl, rfl⟩) | exact Or.inr (⟨by omega, rfl, rfl⟩) | (exfalso; omega))
            · refine w_aload_n dX4_shards_62 rfl ?_
              refine w_bipush dX4_shards_63 (by decide) ?_
              refine w_cV1 kX4_refuse ml_X4_51 ob_0 rfl (Nat.le_of_ble_eq_true rfl) (by decide) dX4_shards_65 (c_refB) (kI (fun e65 m65 q65 => ?_))
              obtain ⟨rfl, rfl⟩ := q65
              exact w_iretP rfl dX4_shards_68 (by first | exact Or.inl (⟨by omega, rfl, rfl⟩) | exact Or.inr (⟨by omega, rfl, rfl⟩) | (exfalso; omega))
      · refine w_iconst dX4_shards_37 ?_
        refine w_goto (tgt := 42) dX4_shards_38 (by decide) ?_
        refine w_istore dX4_shards_42 (by decide) rfl ?_
        refine w_aload_n dX4_shards_44 rfl ?_
        refine w_iload_n dX4_shards_45 rfl ?_
        refine w_cV1 kX4_isRoof ml_X4_77 ob_0 rfl (Nat.le_of_ble_eq_true rfl) (by decide) dX4_shards_46 (c_X4_isRoof (by omega) hI) (kI (fun e46 m46 q46 => ?_))
        obtain ⟨q46, rfl⟩ := q46
        refine w_if_eq (tgt := 62) (by omega) dX4_shards_49 (by decide) (fun h49 => ?_) (fun h49 => ?_)
        · refine w_aload_n dX4_shards_62 rfl ?_
          refine w_bipush dX4_shards_63 (by decide) ?_
          refine w_cV1 kX4_refuse ml_X4_51 ob_0 rfl (Nat.le_of_ble_eq_true rfl) (by decide) dX4_shards_65 (c_refB) (kI (fun e65 m65 q65 => ?_))
          obtain ⟨rfl, rfl⟩ := q65
          exact w_iretP rfl dX4_shards_68 (by first | exact Or.inl (⟨by omega, rfl, rfl⟩) | exact Or.inr (⟨by omega, rfl, rfl⟩) | (exfalso; omega))
        · refine w_iload dX4_shards_52 rfl ?_
          refine w_if_ne (tgt := 69) (by omega) dX4_shards_54 (by decide) (fun h54 => ?_) (fun h54 => ?_)
          · refine w_aload_n dX4_shards_69 rfl ?_
            refine gf_X4_10 rfl dX4_shards_70 ?_
            refine gf_X4_55_1 rfl dX4_shards_73 ?_
            refine gf_X4_153 rfl (cnO cn3) dX4_shards_76 ?_
            refine w_iload_n dX4_shards_79 rfl ?_
            refine w_iload_n dX4_shards_80 rfl ?_
            refine w_iast (cA_blue cn3) (by omega) dX4_shards_81 ?_
            refine w_aload_n dX4_shards_82 rfl ?_
            refine gf_X4_10 rfl dX4_shards_83 ?_
            refine gf_X4_55_1 rfl dX4_shards_86 ?_
            refine gf_X4_156 rfl (cnO cn3) dX4_shards_89 ?_
            refine w_iload_n dX4_shards_92 rfl ?_
            refine w_iload_n dX4_shards_93 rfl ?_
            refine w_iast (cA_brown cn3) (by omega) dX4_shards_94 ?_
            refine w_iconst dX4_shards_95 ?_
            exact w_iretP rfl dX4_shards_96 (by first | exact Or.inl (⟨by omega, rfl, rfl⟩) | exact Or.inr (⟨by omega, rfl, rfl⟩) | (exfalso; omega))
          · refine w_iload dX4_shards_57 rfl ?_
            refine w_if_ne (tgt := 69) (by omega) dX4_shards_59 (by decide) (fun h59 => ?_) (fun h59 => ?_)
            · refine w_aload_n dX4_shards_69 rfl ?_
              refine gf_X4_10 rfl dX4_shards_70 ?_
              refine gf_X4_55_1 rfl dX4_shards_73 ?_
              refine gf_X4_153 rfl (cnO cn3) dX4_shards_76 ?_
              refine w_iload_n dX4_shards_79 rfl ?_
              refine w_iload_n dX4_shards_80 rfl ?_
              refine w_iast (cA_blue cn3) (by omega) dX4_shards_81 ?_
              refine w_aload_n dX4_shards_82 rfl ?_
              refine gf_X4_10 rfl dX4_shards_83 ?_
              refine gf_X4_55_1 rfl dX4_shards_86 ?_
              refine gf_X4_156 rfl (cnO cn3) dX4_shards_89 ?_
              refine w_iload_n dX4_shards_92 rfl ?_
              refine w_iload_n dX4_shards_93 rfl ?_
              refine w_iast (cA_brown cn3) (by omega) dX4_shards_94 ?_
              refine w_iconst dX4_shards_95 ?_
              exact w_iretP rfl dX4_shards_96 (by first | exact Or.inl (⟨by omega, rfl, rfl⟩) | exact Or.inr (⟨by omega, rfl, rfl⟩) | (exfalso; omega))
            · refine w_aload_n dX4_shards_62 rfl ?_
              refine w_bipush dX4_shards_63 (by decide) ?_
              refine w_cV1 kX4_refuse ml_X4_51 ob_0 rfl (Nat.le_of_ble_eq_true rfl) (by decide) dX4_shards_65 (c_refB) (kI (fun e65 m65 q65 => ?_))
              obtain ⟨rfl, rfl⟩ := q65
              exact w_iretP rfl dX4_shards_68 (by first | exact Or.inl (⟨by omega, rfl, rfl⟩) | exact Or.inr (⟨by omega, rfl, rfl⟩) | (exfalso; omega))
  · refine w_iload_n dX4_shards_10 rfl ?_
    refine w_iconst dX4_shards_11 ?_
    refine w_bipush dX4_shards_12 (by decide) ?_
    refine w_cS3 kX4_within ml_X4_43 (Nat.le_of_ble_eq_true rfl) (by decide) dX4_shards_14 (c_X4_within (by omega) (by omega) (by omega)) (kI (fun e14 m14 q14 => ?_))
    obtain ⟨q14, rfl⟩ := q14
    refine w_if_eq (tgt := 24) (by omega) dX4_shards_17 (by decide) (fun h17 => ?_) (fun h17 => ?_)
    · refine w_iconst dX4_shards_24 ?_
      refine w_istore dX4_shards_25 (by decide) rfl ?_
      refine w_iload_n dX4_shards_27 rfl ?_
      refine w_iconst dX4_shards_28 ?_
      refine w_icmp_ne (tgt := 41) (by omega) (by omega) dX4_shards_29 (by decide) (fun h29 => ?_) (fun h29 => ?_)
      · refine w_iconst dX4_shards_41 ?_
        refine w_istore dX4_shards_42 (by decide) rfl ?_
        refine w_aload_n dX4_shards_44 rfl ?_
        refine w_iload_n dX4_shards_45 rfl ?_
        refine w_cV1 kX4_isRoof ml_X4_77 ob_0 rfl (Nat.le_of_ble_eq_true rfl) (by decide) dX4_shards_46 (c_X4_isRoof (by omega) hI) (kI (fun e46 m46 q46 => ?_))
        obtain ⟨q46, rfl⟩ := q46
        refine w_if_eq (tgt := 62) (by omega) dX4_shards_49 (by decide) (fun h49 => ?_) (fun h49 => ?_)
        · refine w_aload_n dX4_shards_62 rfl ?_
          refine w_bipush dX4_shards_63 (by decide) ?_
          refine w_cV1 kX4_refuse ml_X4_51 ob_0 rfl (Nat.le_of_ble_eq_true rfl) (by decide) dX4_shards_65 (c_refB) (kI (fun e65 m65 q65 => ?_))
          obtain ⟨rfl, rfl⟩ := q65
          exact w_iretP rfl dX4_shards_68 (by first | exact Or.inl (⟨by omega, rfl, rfl⟩) | exact Or.inr (⟨by omega, rfl, rfl⟩) | (exfalso; omega))
        · refine w_iload dX4_shards_52 rfl ?_
          refine w_if_ne (tgt := 69) (by omega) dX4_shards_54 (by decide) (fun h54 => ?_) (fun h54 => ?_)
          · refine w_aload_n dX4_shards_69 rfl ?_
            refine gf_X4_10 rfl dX4_shards_70 ?_
            refine gf_X4_55_1 rfl dX4_shards_73 ?_
            refine gf_X4_153 rfl (cnO cn3) dX4_shards_76 ?_
            refine w_iload_n dX4_shards_79 rfl ?_
            refine w_iload_n dX4_shards_80 rfl ?_
            refine w_iast (cA_blue cn3) (by omega) dX4_shards_81 ?_
            refine w_aload_n dX4_shards_82 rfl ?_
            refine gf_X4_10 rfl dX4_shards_83 ?_
            refine gf_X4_55_1 rfl dX4_shards_86 ?_
            refine gf_X4_156 rfl (cnO cn3) dX4_shards_89 ?_
            refine w_iload_n dX4_shards_92 rfl ?_
            refine w_iload_n dX4_shards_93 rfl ?_
            refine w_iast (cA_brown cn3) (by omega) dX4_shards_94 ?_
            refine w_iconst dX4_shards_95 ?_
            exact w_iretP rfl dX4_shards_96 (by first | exact Or.inl (⟨by omega, rfl, rfl⟩) | exact Or.inr (⟨by omega, rfl, rfl⟩) | (exfalso; omega))
          · refine w_iload dX4_shards_57 rfl ?_
            refine w_if_ne (tgt := 69) (by omega) dX4_shards_59 (by decide) (fun h59 => ?_) (fun h59 => ?_)
            · refine w_aload_n dX4_shards_69 rfl ?_
              refine gf_X4_10 rfl dX4_shards_70 ?_
              refine gf_X4_55_1 rfl dX4_shards_73 ?_
              refine gf_X4_153 rfl (cnO cn3) dX4_shards_76 ?_
              refine w_iload_n dX4_shards_79 rfl ?_
              refine w_iload_n dX4_shards_80 rfl ?_
              refine w_iast (cA_blue cn3) (by omega) dX4_shards_81 ?_
              refine w_aload_n dX4_shards_82 rfl ?_
              refine gf_X4_10 rfl dX4_shards_83 ?_
              refine gf_X4_55_1 rfl dX4_shards_86 ?_
              refine gf_X4_156 rfl (cnO cn3) dX4_shards_89 ?_
              refine w_iload_n dX4_shards_92 rfl ?_
              refine w_iload_n dX4_shards_93 rfl ?_
              refine w_iast (cA_brown cn3) (by omega) dX4_shards_94 ?_
              refine w_iconst dX4_shards_95 ?_
              exact w_iretP rfl dX4_shards_96 (by first | exact Or.inl (⟨by omega, rfl, rfl⟩) | exact Or.inr (⟨by omega, rfl, rfl⟩) | (exfalso; omega))
            · refine w_aload_n dX4_shards_62 rfl ?_
              refine w_bipush dX4_shards_63 (by decide) ?_
              refine w_cV1 kX4_refuse ml_X4_51 ob_0 rfl (Nat.le_of_ble_eq_true rfl) (by decide) dX4_shards_65 (c_refB) (kI (fun e65 m65 q65 => ?_))
              obtain ⟨rfl, rfl⟩ := q65
              exact w_iretP rfl dX4_shards_68 (by first | exact Or.inl (⟨by omega, rfl, rfl⟩) | exact Or.inr (⟨by omega, rfl, rfl⟩) | (exfalso; omega))
      · refine w_iload_n dX4_shards_32 rfl ?_
        refine w_iconst dX4_shards_33 ?_
        refine w_icmp_ne (tgt := 41) (by omega) (by omega) dX4_shards_34 (by decide) (fun h34 => ?_) (fun h34 => ?_)
        · refine w_iconst dX4_shards_41 ?_
          refine w_istore dX4_shards_42 (by decide) rfl ?_
          refine w_aload_n dX4_shards_44 rfl ?_
          refine w_iload_n dX4_shards_45 rfl ?_
          refine w_cV1 kX4_isRoof ml_X4_77 ob_0 rfl (Nat.le_of_ble_eq_true rfl) (by decide) dX4_shards_46 (c_X4_isRoof (by omega) hI) (kI (fun e46 m46 q46 => ?_))
          obtain ⟨q46, rfl⟩ := q46
          refine w_if_eq (tgt := 62) (by omega) dX4_shards_49 (by decide) (fun h49 => ?_) (fun h49 => ?_)
          · refine w_aload_n dX4_shards_62 rfl ?_
            refine w_bipush dX4_shards_63 (by decide) ?_
            refine w_cV1 kX4_refuse ml_X4_51 ob_0 rfl (Nat.le_of_ble_eq_true rfl) (by decide) dX4_shards_65 (c_refB) (kI (fun e65 m65 q65 => ?_))
            obtain ⟨rfl, rfl⟩ := q65
            exact w_iretP rfl dX4_shards_68 (by first | exact Or.inl (⟨by omega, rfl, rfl⟩) | exact Or.inr (⟨by omega, rfl, rfl⟩) | (exfalso; omega))
          · refine w_iload dX4_shards_52 rfl ?_
            refine w_if_ne (tgt := 69) (by omega) dX4_shards_54 (by decide) (fun h54 => ?_) (fun h54 => ?_)
            · refine w_aload_n dX4_shards_69 rfl ?_
              refine gf_X4_10 rfl dX4_shards_70 ?_
              refine gf_X4_55_1 rfl dX4_shards_73 ?_
              refine gf_X4_153 rfl (cnO cn3) dX4_shards_76 ?_
              refine w_iload_n dX4_shards_79 rfl ?_
              refine w_iload_n dX4_shards_80 rfl ?_
              refine w_iast (cA_blue cn3) (by omega) dX4_shards_81 ?_
              refine w_aload_n dX4_shards_82 rfl ?_
              refine gf_X4_10 rfl dX4_shards_83 ?_
              refine gf_X4_55_1 rfl dX4_shards_86 ?_
              refine gf_X4_156 rfl (cnO cn3) dX4_shards_89 ?_
              refine w_iload_n dX4_shards_92 rfl ?_
              refine w_iload_n dX4_shards_93 rfl ?_
              refine w_iast (cA_brown cn3) (by omega) dX4_shards_94 ?_
              refine w_iconst dX4_shards_95 ?_
              exact w_iretP rfl dX4_shards_96 (by first | exact Or.inl (⟨by omega, rfl, rfl⟩) | exact Or.inr (⟨by omega, rfl, rfl⟩) | (exfalso; omega))
            · refine w_iload dX4_shards_57 rfl ?_
              refine w_if_ne (tgt := 69) (by omega) dX4_shards_59 (by decide) (fun h59 => ?_) (fun h59 => ?_)
              · refine w_aload_n dX4_shards_69 rfl ?_
                refine gf_X4_10 rfl dX4_shards_70 ?_
                refine gf_X4_55_1 rfl dX4_shards_73 ?_
                refine gf_X4_153 rfl (cnO cn3) dX4_shards_76 ?_
                refine w_iload_n dX4_shards_79 rfl ?_
                refine w_iload_n dX4_shards_80 rfl ?_
                refine w_iast (cA_blue cn3) (by omega) dX4_shards_81 ?_
                refine w_aload_n dX4_shards_82 rfl ?_
                refine gf_X4_10 rfl dX4_shards_83 ?_
                refine gf_X4_55_1 rfl dX4_shards_86 ?_
                refine gf_X4_156 rfl (cnO cn3) dX4_shards_89 ?_
                refine w_iload_n dX4_shards_92 rfl ?_
                refine w_iload_n dX4_shards_93 rfl ?_
                refine w_iast (cA_brown cn3) (by omega) dX4_shards_94 ?_
                refine w_iconst dX4_shards_95 ?_
                exact w_iretP rfl dX4_shards_96 (by first | exact Or.inl (⟨by omega, rfl, rfl⟩) | exact Or.inr (⟨by omega, rfl, rfl⟩) | (exfalso; omega))
              · refine w_aload_n dX4_shards_62 rfl ?_
                refine w_bipush dX4_shards_63 (by decide) ?_
                refine w_cV1 kX4_refuse ml_X4_51 ob_0 rfl (Nat.le_of_ble_eq_true rfl) (by decide) dX4_shards_65 (c_refB) (kI (fun e65 m65 q65 => ?_))
                obtain ⟨rfl, rfl⟩ := q65
                exact w_iretP rfl dX4_shards_68 (by first | exact Or.inl (⟨by omega, rfl, rfl⟩) | exact Or.inr (⟨by omega, rfl, rfl⟩) | (exfalso; omega))
        · refine w_iconst dX4_shards_37 ?_
          refine w_goto (tgt := 42) dX4_shards_38 (by decide) ?_
          refine w_istore dX4_shards_42 (by decide) rfl ?_
          refine w_aload_n dX4_shards_44 rfl ?_
          refine w_iload_n dX4_shards_45 rfl ?_
          refine w_cV1 kX4_isRoof ml_X4_77 ob_0 rfl (Nat.le_of_ble_eq_true rfl) (by decide) dX4_shards_46 (c_X4_isRoof (by omega) hI) (kI (fun e46 m46 q46 => ?_))
          obtain ⟨q46, rfl⟩ := q46
          refine w_if_eq (tgt := 62) (by omega) dX4_shards_49 (by decide) (fun h49 => ?_) (fun h49 => ?_)
          · refine w_aload_n dX4_shards_62 rfl ?_
            refine w_bipush dX4_shards_63 (by decide) ?_
            refine w_cV1 kX4_refuse ml_X4_51 ob_0 rfl (Nat.le_of_ble_eq_true rfl) (by decide) dX4_shards_65 (c_refB) (kI (fun e65 m65 q65 => ?_))
            obtain ⟨rfl, rfl⟩ := q65
            exact w_iretP rfl dX4_shards_68 (by first | exact Or.inl (⟨by omega, rfl, rfl⟩) | exact Or.inr (⟨by omega, rfl, rfl⟩) | (exfalso; omega))
          · refine w_iload dX4_shards_52 rfl ?_
            refine w_if_ne (tgt := 69) (by omega) dX4_shards_54 (by decide) (fun h54 => ?_) (fun h54 => ?_)
            · refine w_aload_n dX4_shards_69 rfl ?_
              refine gf_X4_10 rfl dX4_shards_70 ?_
              refine gf_X4_55_1 rfl dX4_shards_73 ?_
              refine gf_X4_153 rfl (cnO cn3) dX4_shards_76 ?_
              refine w_iload_n dX4_shards_79 rfl ?_
              refine w_iload_n dX4_shards_80 rfl ?_
              refine w_iast (cA_blue cn3) (by omega) dX4_shards_81 ?_
              refine w_aload_n dX4_shards_82 rfl ?_
              refine gf_X4_10 rfl dX4_shards_83 ?_
              refine gf_X4_55_1 rfl dX4_shards_86 ?_
              refine gf_X4_156 rfl (cnO cn3) dX4_shards_89 ?_
              refine w_iload_n dX4_shards_92 rfl ?_
              refine w_iload_n dX4_shards_93 rfl ?_
              refine w_iast (cA_brown cn3) (by omega) dX4_shards_94 ?_
              refine w_iconst dX4_shards_95 ?_
              exact w_iretP rfl dX4_shards_96 (by first | exact Or.inl (⟨by omega, rfl, rfl⟩) | exact Or.inr (⟨by omega, rfl, rfl⟩) | (exfalso; omega))
            · refine w_iload dX4_shards_57 rfl ?_
              refine w_if_ne (tgt := 69) (by omega) dX4_shards_59 (by decide) (fun h59 => ?_) (fun h59 => ?_)
              · refine w_aload_n dX4_shards_69 rfl ?_
                refine gf_X4_10 rfl dX4_shards_70 ?_
                refine gf_X4_55_1 rfl dX4_shards_73 ?_
                refine gf_X4_153 rfl (cnO cn3) dX4_shards_76 ?_
                refine w_iload_n dX4_shards_79 rfl ?_
                refine w_iload_n dX4_shards_80 rfl ?_
                refine w_iast (cA_blue cn3) (by omega) dX4_shards_81 ?_
                refine w_aload_n dX4_shards_82 rfl ?_
                refine gf_X4_10 rfl dX4_shards_83 ?_
                refine gf_X4_55_1 rfl dX4_shards_86 ?_
                refine gf_X4_156 rfl (cnO cn3) dX4_shards_89 ?_
                refine w_iload_n dX4_shards_92 rfl ?_
                refine w_iload_n dX4_shards_93 rfl ?_
                refine w_iast (cA_brown cn3) (by omega) dX4_shards_94 ?_
                refine w_iconst dX4_shards_95 ?_
                exact w_iretP rfl dX4_shards_96 (by first | exact Or.inl (⟨by omega, rfl, rfl⟩) | exact Or.inr (⟨by omega, rfl, rfl⟩) | (exfalso; omega))
              · refine w_aload_n dX4_shards_62 rfl ?_
                refine w_bipush dX4_shards_63 (by decide) ?_
                refine w_cV1 kX4_refuse ml_X4_51 ob_0 rfl (Nat.le_of_ble_eq_true rfl) (by decide) dX4_shards_65 (c_refB) (kI (fun e65 m65 q65 => ?_))
                obtain ⟨rfl, rfl⟩ := q65
                exact w_iretP rfl dX4_shards_68 (by first | exact Or.inl (⟨by omega, rfl, rfl⟩) | exact Or.inr (⟨by omega, rfl, rfl⟩) | (exfalso; omega))
    · refine w_iconst dX4_shards_20 ?_
      refine w_goto (tgt := 25) dX4_shards_21 (by decide) ?_
      refine w_istore dX4_shards_25 (by decide) rfl ?_
      refine w_iload_n dX4_shards_27 rfl ?_
      refine w_iconst dX4_shards_28 ?_
      refine w_icmp_ne (tgt := 41) (by omega) (by omega) dX4_shards_29 (by decide) (fun h29 => ?_) (fun h29 => ?_)
      · refine w_iconst dX4_shards_41 ?_
        refine w_istore dX4_shards_42 (by decide) rfl ?_
        refine w_aload_n dX4_shards_44 rfl ?_
        refine w_iload_n dX4_shards_45 rfl ?_
        refine w_cV1 kX4_isRoof ml_X4_77 ob_0 rfl (Nat.le_of_ble_eq_true rfl) (by decide) dX4_shards_46 (c_X4_isRoof (by omega) hI) (kI (fun e46 m46 q46 => ?_))
        obtain ⟨q46, rfl⟩ := q46
        refine w_if_eq (tgt := 62) (by omega) dX4_shards_49 (by decide) (fun h49 => ?_) (fun h49 => ?_)
        · refine w_aload_n dX4_shards_62 rfl ?_
          refine w_bipush dX4_shards_63 (by decide) ?_
          refine w_cV1 kX4_refuse ml_X4_51 ob_0 rfl (Nat.le_of_ble_eq_true rfl) (by decide) dX4_shards_65 (c_refB) (kI (fun e65 m65 q65 => ?_))
          obtain ⟨rfl, rfl⟩ := q65
          exact w_iretP rfl dX4_shards_68 (by first | exact Or.inl (⟨by omega, rfl, rfl⟩) | exact Or.inr (⟨by omega, rfl, rfl⟩) | (exfalso; omega))
        · refine w_iload dX4_shards_52 rfl ?_
          refine w_if_ne (tgt := 69) (by omega) dX4_shards_54 (by decide) (fun h54 => ?_) (fun h54 => ?_)
          · refine w_aload_n dX4_shards_69 rfl ?_
            refine gf_X4_10 rfl dX4_shards_70 ?_
            refine gf_X4_55_1 rfl dX4_shards_73 ?_
            refine gf_X4_153 rfl (cnO cn3) dX4_shards_76 ?_
            refine w_iload_n dX4_shards_79 rfl ?_
            refine w_iload_n dX4_shards_80 rfl ?_
            refine w_iast (cA_blue cn3) (by omega) dX4_shards_81 ?_
            refine w_aload_n dX4_shards_82 rfl ?_
            refine gf_X4_10 rfl dX4_shards_83 ?_
            refine gf_X4_55_1 rfl dX4_shards_86 ?_
            refine gf_X4_156 rfl (cnO cn3) dX4_shards_89 ?_
            refine w_iload_n dX4_shards_92 rfl ?_
            refine w_iload_n dX4_shards_93 rfl ?_
            refine w_iast (cA_brown cn3) (by omega) dX4_shards_94 ?_
            refine w_iconst dX4_shards_95 ?_
            exact w_iretP rfl dX4_shards_96 (by first | exact Or.inl (⟨by omega, rfl, rfl⟩) | exact Or.inr (⟨by omega, rfl, rfl⟩) | (exfalso; omega))
          · refine w_iload dX4_shards_57 rfl ?_
            refine w_if_ne (tgt := 69) (by omega) dX4_shards_59 (by decide) (fun h59 => ?_) (fun h59 => ?_)
            · refine w_aload_n dX4_shards_69 rfl ?_
              refine gf_X4_10 rfl dX4_shards_70 ?_
              refine gf_X4_55_1 rfl dX4_shards_73 ?_
              refine gf_X4_153 rfl (cnO cn3) dX4_shards_76 ?_
              refine w_iload_n dX4_shards_79 rfl ?_
              refine w_iload_n dX4_shards_80 rfl ?_
              refine w_iast (cA_blue cn3) (by omega) dX4_shards_81 ?_
              refine w_aload_n dX4_shards_82 rfl ?_
              refine gf_X4_10 rfl dX4_shards_83 ?_
              refine gf_X4_55_1 rfl dX4_shards_86 ?_
              refine gf_X4_156 rfl (cnO cn3) dX4_shards_89 ?_
              refine w_iload_n dX4_shards_92 rfl ?_
              refine w_iload_n dX4_shards_93 rfl ?_
              refine w_iast (cA_brown cn3) (by omega) dX4_shards_94 ?_
              refine w_iconst dX4_shards_95 ?_
              exact w_iretP rfl dX4_shards_96 (by first | exact Or.inl (⟨by omega, rfl, rfl⟩) | exact Or.inr (⟨by omega, rfl, rfl⟩) | (exfalso; omega))
            · refine w_aload_n dX4_shards_62 rfl ?_
              refine w_bipush dX4_shards_63 (by decide) ?_
              refine w_cV1 kX4_refuse ml_X4_51 ob_0 rfl (Nat.le_of_ble_eq_true rfl) (by decide) dX4_shards_65 (c_refB) (kI (fun e65 m65 q65 => ?_))
              obtain ⟨rfl, rfl⟩ := q65
              exact w_iretP rfl dX4_shards_68 (by first | exact Or.inl (⟨by omega, rfl, rfl⟩) | exact Or.inr (⟨by omega, rfl, rfl⟩) | (exfalso; omega))
      · refine w_iload_n dX4_shards_32 rfl ?_
        refine w_iconst dX4_shards_33 ?_
        refine w_icmp_ne (tgt := 41) (by omega) (by omega) dX4_shards_34 (by decide) (fun h34 => ?_) (fun h34 => ?_)
        · refine w_iconst dX4_shards_41 ?_
          refine w_istore dX4_shards_42 (by decide) rfl ?_
          refine w_aload_n dX4_shards_44 rfl ?_
          refine w_iload_n dX4_shards_45 rfl ?_
          refine w_cV1 kX4_isRoof ml_X4_77 ob_0 rfl (Nat.le_of_ble_eq_true rfl) (by decide) dX4_shards_46 (c_X4_isRoof (by omega) hI) (kI (fun e46 m46 q46 => ?_))
          obtain ⟨q46, rfl⟩ := q46
          refine w_if_eq (tgt := 62) (by omega) dX4_shards_49 (by decide) (fun h49 => ?_) (fun h49 => ?_)
          · refine w_aload_n dX4_shards_62 rfl ?_
            refine w_bipush dX4_shards_63 (by decide) ?_
            refine w_cV1 kX4_refuse ml_X4_51 ob_0 rfl (Nat.le_of_ble_eq_true rfl) (by decide) dX4_shards_65 (c_refB) (kI (fun e65 m65 q65 => ?_))
            obtain ⟨rfl, rfl⟩ := q65
            exact w_iretP rfl dX4_shards_68 (by first | exact Or.inl (⟨by omega, rfl, rfl⟩) | exact Or.inr (⟨by omega, rfl, rfl⟩) | (exfalso; omega))
          · refine w_iload dX4_shards_52 rfl ?_
            refine w_if_ne (tgt := 69) (by omega) dX4_shards_54 (by decide) (fun h54 => ?_) (fun h54 => ?_)
            · refine w_aload_n dX4_shards_69 rfl ?_
              refine gf_X4_10 rfl dX4_shards_70 ?_
              refine gf_X4_55_1 rfl dX4_shards_73 ?_
              refine gf_X4_153 rfl (cnO cn3) dX4_shards_76 ?_
              refine w_iload_n dX4_shards_79 rfl ?_
              refine w_iload_n dX4_shards_80 rfl ?_
              refine w_iast (cA_blue cn3) (by omega) dX4_shards_81 ?_
              refine w_aload_n dX4_shards_82 rfl ?_
              refine gf_X4_10 rfl dX4_shards_83 ?_
              refine gf_X4_55_1 rfl dX4_shards_86 ?_
              refine gf_X4_156 rfl (cnO cn3) dX4_shards_89 ?_
              refine w_iload_n dX4_shards_92 rfl ?_
              refine w_iload_n dX4_shards_93 rfl ?_
              refine w_iast (cA_brown cn3) (by omega) dX4_shards_94 ?_
              refine w_iconst dX4_shards_95 ?_
              exact w_iretP rfl dX4_shards_96 (by first | exact Or.inl (⟨by omega, rfl, rfl⟩) | exact Or.inr (⟨by omega, rfl, rfl⟩) | (exfalso; omega))
            · refine w_iload dX4_shards_57 rfl ?_
              refine w_if_ne (tgt := 69) (by omega) dX4_shards_59 (by decide) (fun h59 => ?_) (fun h59 => ?_)
              · refine w_aload_n dX4_shards_69 rfl ?_
                refine gf_X4_10 rfl dX4_shards_70 ?_
                refine gf_X4_55_1 rfl dX4_shards_73 ?_
                refine gf_X4_153 rfl (cnO cn3) dX4_shards_76 ?_
                refine w_iload_n dX4_shards_79 rfl ?_
                refine w_iload_n dX4_shards_80 rfl ?_
                refine w_iast (cA_blue cn3) (by omega) dX4_shards_81 ?_
                refine w_aload_n dX4_shards_82 rfl ?_
                refine gf_X4_10 rfl dX4_shards_83 ?_
                refine gf_X4_55_1 rfl dX4_shards_86 ?_
                refine gf_X4_156 rfl (cnO cn3) dX4_shards_89 ?_
                refine w_iload_n dX4_shards_92 rfl ?_
                refine w_iload_n dX4_shards_93 rfl ?_
                refine w_iast (cA_brown cn3) (by omega) dX4_shards_94 ?_
                refine w_iconst dX4_shards_95 ?_
                exact w_iretP rfl dX4_shards_96 (by first | exact Or.inl (⟨by omega, rfl, rfl⟩) | exact Or.inr (⟨by omega, rfl, rfl⟩) | (exfalso; omega))
              · refine w_aload_n dX4_shards_62 rfl ?_
                refine w_bipush dX4_shards_63 (by decide) ?_
                refine w_cV1 kX4_refuse ml_X4_51 ob_0 rfl (Nat.le_of_ble_eq_true rfl) (by decide) dX4_shards_65 (c_refB) (kI (fun e65 m65 q65 => ?_))
                obtain ⟨rfl, rfl⟩ := q65
                exact w_iretP rfl dX4_shards_68 (by first | exact Or.inl (⟨by omega, rfl, rfl⟩) | exact Or.inr (⟨by omega, rfl, rfl⟩) | (exfalso; omega))
        · refine w_iconst dX4_shards_37 ?_
          refine w_goto (tgt := 42) dX4_shards_38 (by decide) ?_
          refine w_istore dX4_shards_42 (by decide) rfl ?_
          refine w_aload_n dX4_shards_44 rfl ?_
          refine w_iload_n dX4_shards_45 rfl ?_
          refine w_cV1 kX4_isRoof ml_X4_77 ob_0 rfl (Nat.le_of_ble_eq_true rfl) (by decide) dX4_shards_46 (c_X4_isRoof (by omega) hI) (kI (fun e46 m46 q46 => ?_))
          obtain ⟨q46, rfl⟩ := q46
          refine w_if_eq (tgt := 62) (by omega) dX4_shards_49 (by decide) (fun h49 => ?_) (fun h49 => ?_)
          · refine w_aload_n dX4_shards_62 rfl ?_
            refine w_bipush dX4_shards_63 (by decide) ?_
            refine w_cV1 kX4_refuse ml_X4_51 ob_0 rfl (Nat.le_of_ble_eq_true rfl) (by decide) dX4_shards_65 (c_refB) (kI (fun e65 m65 q65 => ?_))
            obtain ⟨rfl, rfl⟩ := q65
            exact w_iretP rfl dX4_shards_68 (by first | exact Or.inl (⟨by omega, rfl, rfl⟩) | exact Or.inr (⟨by omega, rfl, rfl⟩) | (exfalso; omega))
          · refine w_iload dX4_shards_52 rfl ?_
            refine w_if_ne (tgt := 69) (by omega) dX4_shards_54 (by decide) (fun h54 => ?_) (fun h54 => ?_)
            · refine w_aload_n dX4_shards_69 rfl ?_
              refine gf_X4_10 rfl dX4_shards_70 ?_
              refine gf_X4_55_1 rfl dX4_shards_73 ?_
              refine gf_X4_153 rfl (cnO cn3) dX4_shards_76 ?_
              refine w_iload_n dX4_shards_79 rfl ?_
              refine w_iload_n dX4_shards_80 rfl ?_
              refine w_iast (cA_blue cn3) (by omega) dX4_shards_81 ?_
              refine w_aload_n dX4_shards_82 rfl ?_
              refine gf_X4_10 rfl dX4_shards_83 ?_
              refine gf_X4_55_1 rfl dX4_shards_86 ?_
              refine gf_X4_156 rfl (cnO cn3) dX4_shards_89 ?_
              refine w_iload_n dX4_shards_92 rfl ?_
              refine w_iload_n dX4_shards_93 rfl ?_
              refine w_iast (cA_brown cn3) (by omega) dX4_shards_94 ?_
              refine w_iconst dX4_shards_95 ?_
              exact w_iretP rfl dX4_shards_96 (by first | exact Or.inl (⟨by omega, rfl, rfl⟩) | exact Or.inr (⟨by omega, rfl, rfl⟩) | (exfalso; omega))
            · refine w_iload dX4_shards_57 rfl ?_
              refine w_if_ne (tgt := 69) (by omega) dX4_shards_59 (by decide) (fun h59 => ?_) (fun h59 => ?_)
              · refine w_aload_n dX4_shards_69 rfl ?_
                refine gf_X4_10 rfl dX4_shards_70 ?_
                refine gf_X4_55_1 rfl dX4_shards_73 ?_
                refine gf_X4_153 rfl (cnO cn3) dX4_shards_76 ?_
                refine w_iload_n dX4_shards_79 rfl ?_
                refine w_iload_n dX4_shards_80 rfl ?_
                refine w_iast (cA_blue cn3) (by omega) dX4_shards_81 ?_
                refine w_aload_n dX4_shards_82 rfl ?_
                refine gf_X4_10 rfl dX4_shards_83 ?_
                refine gf_X4_55_1 rfl dX4_shards_86 ?_
                refine gf_X4_156 rfl (cnO cn3) dX4_shards_89 ?_
                refine w_iload_n dX4_shards_92 rfl ?_
                refine w_iload_n dX4_shards_93 rfl ?_
                refine w_iast (cA_brown cn3) (by omega) dX4_shards_94 ?_
                refine w_iconst dX4_shards_95 ?_
                exact w_iretP rfl dX4_shards_96 (by first | exact Or.inl (⟨by omega, rfl, rfl⟩) | exact Or.inr (⟨by omega, rfl, rfl⟩) | (exfalso; omega))
              · refine w_aload_n dX4_shards_62 rfl ?_
                refine w_bipush dX4_shards_63 (by decide) ?_
                refine w_cV1 kX4_refuse ml_X4_51 ob_0 rfl (Nat.le_of_ble_eq_true rfl) (by decide) dX4_shards_65 (c_refB) (kI (fun e65 m65 q65 => ?_))
                obtain ⟨rfl, rfl⟩ := q65
                exact w_iretP rfl dX4_shards_68 (by first | exact Or.inl (⟨by omega, rfl, rfl⟩) | exact Or.inr (⟨by omega, rfl, rfl⟩) | (exfalso; omega))
set_option maxRecDepth 100000 in
set_option maxHeartbeats 4000000 in
theorem c_X4_which {g : gG} {l : Launch} {μ : gM} {w : Int}  (g1 : -2147483648 ≤ w ∧ w < 2147483648) (hI : CI μ 3) : CT g l YX4_which 5 [vR 0, vI w] μ (pI fun e μ2 => (¬ (0 ≤ w ∧ w ≤ 1) ∧ e = -2 ∧ μ2 = bad μ) ∨ ((0 ≤ w ∧ w ≤ 1) ∧ e = (if w = 0 then fSt (vw μ 3) (μ 3 0) (μ 3 1) else fHd (vw μ 3) (μ 3 0) (μ 3 1)) ∧ μ = μ2)) := by
  have hN := CI_roofs hI
  have hM := CI_storms hI
  have hV := CI.VI hI
  refine CT.of (n := 0) (by decide) rfl ?_
  show WA g l YX4_which 5 _ 0 [some (vR 0), some (vI w)] [] μ
  refine w_iload_n dX4_which_0 rfl ?_
  refine w_iconst dX4_which_1 ?_
  refine w_iconst dX4_which_2 ?_
  refine w_cS3 kX4_within ml_X4_43 (Nat.le_of_ble_eq_true rfl) (by decide) dX4_which_3 (c_X4_within (by omega) (by omega) (by omega)) (kI (fun e3 m3 q3 => ?_))
  obtain ⟨q3, rfl⟩ := q3
  refine w_if_ne (tgt := 16) (by omega) dX4_which_6 (by decide) (fun h6 => ?_) (fun h6 => ?_)
  · refine w_iload_n dX4_which_16 rfl ?_
    refine w_if_ne (tgt := 33) (by omega) dX4_which_17 (by decide) (fun h17 => ?_) (fun h17 => ?_)
    · refine w_aload_n dX4_which_33 rfl ?_
      refine gf_X4_10 rfl dX4_which_34 ?_
      refine gf_X4_55_1 rfl dX4_which_37 ?_
      refine w_cV0 kX0_roofsByHand ml_X4_162 (cnO cn3) rfl (Nat.le_of_ble_eq_true rfl) (by decide) dX4_which_40 (c_X0_roofsByHand cn3 hI) (kI (fun e40 m40 q40 => ?_))
      obtain ⟨rfl, rfl⟩ := q40
      exact w_iretP rfl dX4_which_43 (by first | exact Or.inl ⟨by omega, rfl, rfl⟩ | (refine Or.inr ⟨by omega, ?_, rfl⟩; first | rw [if_pos h17] | rw [if_neg h17]))
    · refine w_aload_n dX4_which_20 rfl ?_
      refine gf_X4_10 rfl dX4_which_21 ?_
      refine gf_X4_55_1 rfl dX4_which_24 ?_
      refine w_cV0 kX0_stormsThatFit ml_X4_159 (cnO cn3) rfl (Nat.le_of_ble_eq_true rfl) (by decide) dX4_which_27 (c_X0_stormsThatFit cn3 hI) (kI (fun e27 m27 q27 => ?_))
      obtain ⟨rfl, rfl⟩ := q27
      refine w_goto (tgt := 43) dX4_which_30 (by decide) ?_
      exact w_iretP rfl dX4_which_43 (by first | exact Or.inl ⟨by omega, rfl, rfl⟩ | (refine Or.inr ⟨by omega, ?_, rfl⟩; first | rw [if_pos h17] | rw [if_neg h17]))
  · refine w_aload_n dX4_which_9 rfl ?_
    refine w_bipush dX4_which_10 (by decide) ?_
    refine w_cV1 kX4_refuse ml_X4_51 ob_0 rfl (Nat.le_of_ble_eq_true rfl) (by decide) dX4_which_12 (c_refB) (kI (fun e12 m12 q12 => ?_))
    obtain ⟨rfl, rfl⟩ := q12
    exact w_iretP rfl dX4_which_15 (by first | exact Or.inl ⟨by omega, rfl, rfl⟩ | (refine Or.inr ⟨by omega, ?_, rfl⟩; first | rw [if_pos h17] | rw [if_neg h17]))
set_option maxRecDepth 100000 in
set_option maxHeartbeats 4000000 in
theorem c_X4_part {g : gG} {l : Launch} {μ : gM} {w : Int}  (g1 : -2147483648 ≤ w ∧ w < 2147483648) : CT g l YX4_part 1 [vR 0, vI w] μ (pL fun e μ2 => (¬ (0 ≤ w ∧ w ≤ 1) ∧ e = -1000 ∧ μ2 = bad μ) ∨ (w = 0 ∧ e = μ 154 0 ∧ μ = μ2) ∨ (w = 1 ∧ e = μ 154 1 ∧ μ = μ2)) := by
  refine CT.of (n := 0) (by decide) rfl ?_
  show WA g l YX4_part 1 _ 0 [some (vR 0), some (vI w)] [] μ
  refine w_iload_n dX4_part_0 rfl ?_
  refine w_iconst dX4_part_1 ?_
  refine w_iconst dX4_part_2 ?_
  refine w_cS3 kX4_within ml_X4_43 (Nat.le_of_ble_eq_true rfl) (by decide) dX4_part_3 (c_X4_within (by omega) (by omega) (by omega)) (kI (fun e3 m3 q3 => ?_))
  obtain ⟨q3, rfl⟩ := q3
  refine w_if_ne (tgt := 20) (by omega) dX4_part_6 (by decide) (fun h6 => ?_) (fun h6 => ?_)
  · refine w_iload_n dX4_part_20 rfl ?_
    refine w_if_ne (tgt := 34) (by omega) dX4_part_21 (by decide) (fun h21 => ?_) (fun h21 => ?_)
    · refine w_aload_n dX4_part_34 rfl ?_
      refine gf_X4_32 rfl dX4_part_35 ?_
      refine gf_X4_206 rfl dX4_part_38 ?_
      exact w_lretP rfl dX4_part_41 (by first | exact Or.inl (⟨by omega, rfl, rfl⟩) | exact Or.inr (Or.inl (⟨by omega, rfl, rfl⟩)) | exact Or.inr (Or.inr (⟨by omega, rfl, rfl⟩)) | (exfalso; omega))
    · refine w_aload_n dX4_part_24 rfl ?_
      refine gf_X4_32 rfl dX4_part_25 ?_
      refine gf_X4_202 rfl dX4_part_28 ?_
      refine w_goto (tgt := 41) dX4_part_31 (by decide) ?_
      exact w_lretP rfl dX4_part_41 (by first | exact Or.inl (⟨by omega, rfl, rfl⟩) | exact Or.inr (Or.inl (⟨by omega, rfl, rfl⟩)) | exact Or.inr (Or.inr (⟨by omega, rfl, rfl⟩)) | (exfalso; omega))
  · refine w_aload_n dX4_part_9 rfl ?_
    refine w_bipush dX4_part_10 (by decide) ?_
    refine w_cV1 kX4_refuse ml_X4_51 ob_0 rfl (Nat.le_of_ble_eq_true rfl) (by decide) dX4_part_12 (c_refB) (kI (fun e12 m12 q12 => ?_))
    obtain ⟨rfl, rfl⟩ := q12
    refine w_pop_i dX4_part_15 ?_
    refine w_ldc2 (-1000) cl_X4_200 dX4_part_16 (by decide) ?_
    exact w_lretP rfl dX4_part_19 (by first | exact Or.inl (⟨by omega, rfl, rfl⟩) | exact Or.inr (Or.inl (⟨by omega, rfl, rfl⟩)) | exact Or.inr (Or.inr (⟨by omega, rfl, rfl⟩)) | (exfalso; omega))
set_option maxRecDepth 100000 in
set_option maxHeartbeats 4000000 in
theorem c_X4_status {g : gG} {l : Launch} {μ : gM} {w : Int}  (g1 : -2147483648 ≤ w ∧ w < 2147483648) : CT g l YX4_status 1 [vR 0, vI w] μ (pI fun e μ2 => (¬ (0 ≤ w ∧ w ≤ 2) ∧ e = -1 ∧ μ2 = bad μ) ∨ (w = 0 ∧ e = μ 0 6 ∧ μ = μ2) ∨ (w = 1 ∧ e = μ 0 7 ∧ μ = μ2) ∨ (w = 2 ∧ e = μ 0 8 ∧ μ = μ2)) := by
  refine CT.of (n := 0) (by decide) rfl ?_
  show WA g l YX4_status 1 _ 0 [some (vR 0), some (vI w)] [] μ
  refine w_iload_n dX4_status_0 rfl ?_
  refine w_tcase (0) (tgt := 28) (by omega) dX4_status_1 (by decide) (by decide) rfl (by decide) (fun k1 => ?_) (fun n1_0 => ?_)
  · refine w_aload_n dX4_status_28 rfl ?_
    refine gf_X4_216 rfl dX4_status_29 ?_
    exact w_iretP rfl dX4_status_32 (by first | exact Or.inl (⟨by omega, rfl, rfl⟩) | exact Or.inr (Or.inl (⟨by omega, rfl, rfl⟩)) | exact Or.inr (Or.inr (Or.inl (⟨by omega, rfl, rfl⟩))) | exact Or.inr (Or.inr (Or.inr (⟨by omega, rfl, rfl⟩))) | (exfalso; omega))
  refine w_tcase (1) (tgt := 33) (by omega) dX4_status_1 (by decide) (by decide) rfl (by decide) (fun k1 => ?_) (fun n1_1 => ?_)
  · refine w_aload_n dX4_status_33 rfl ?_
    refine gf_X4_219 rfl dX4_status_34 ?_
    exact w_iretP rfl dX4_status_37 (by first | exact Or.inl (⟨by omega, rfl, rfl⟩) | exact Or.inr (Or.inl (⟨by omega, rfl, rfl⟩)) | exact Or.inr (Or.inr (Or.inl (⟨by omega, rfl, rfl⟩))) | exact Or.inr (Or.inr (Or.inr (⟨by omega, rfl, rfl⟩))) | (exfalso; omega))
  refine w_tcase (2) (tgt := 38) (by omega) dX4_status_1 (by decide) (by decide) rfl (by decide) (fun k1 => ?_) (fun n1_2 => ?_)
  · refine w_aload_n dX4_status_38 rfl ?_
    refine gf_X4_222 rfl dX4_status_39 ?_
    exact w_iretP rfl dX4_status_42 (by first | exact Or.inl (⟨by omega, rfl, rfl⟩) | exact Or.inr (Or.inl (⟨by omega, rfl, rfl⟩)) | exact Or.inr (Or.inr (Or.inl (⟨by omega, rfl, rfl⟩))) | exact Or.inr (Or.inr (Or.inr (⟨by omega, rfl, rfl⟩))) | (exfalso; omega))
  refine w_tableOut (tgt := 43) (by omega) dX4_status_1 (by omega) (by decide) ?_
  refine w_aload_n dX4_status_43 rfl ?_
  refine w_bipush dX4_status_44 (by decide) ?_
  refine w_cV1 kX4_refuse ml_X4_51 ob_0 rfl (Nat.le_of_ble_eq_true rfl) (by decide) dX4_status_46 (c_refB) (kI (fun e46 m46 q46 => ?_))
  obtain ⟨rfl, rfl⟩ := q46
  refine w_pop_i dX4_status_49 ?_
  refine w_iconst dX4_status_50 ?_
  exact w_iretP rfl dX4_status_51 (by first | exact Or.inl (⟨by omega, rfl, rfl⟩) | exact Or.inr (Or.inl (⟨by omega, rfl, rfl⟩)) | exact Or.inr (Or.inr (Or.inl (⟨by omega, rfl, rfl⟩))) | exact Or.inr (Or.inr (Or.inr (⟨by omega, rfl, rfl⟩))) | (exfalso; omega))
/-- how many: roofs, storms, cannons, years, years that may be undone, bytes -/
def cnt (μ : gM) (w : Int) : Int := if w = 0 then μ 3 0 else if w = 1 then μ 3 1 else if w = 2 then sI (fun k => vw μ 3 11 k) 7 else if w = 3 then μ 3 2 else if w = 4 then μ 1 1 else μ 151 0
set_option maxRecDepth 100000 in
set_option maxHeartbeats 4000000 in
theorem c_X4_count {g : gG} {l : Launch} {μ : gM} {w : Int}  (g1 : -2147483648 ≤ w ∧ w < 2147483648) (hI : CI μ 3) : CT g l YX4_count 1 [vR 0, vI w] μ (pI fun e μ2 => (¬ (0 ≤ w ∧ w ≤ 5) ∧ e = -2 ∧ μ2 = bad μ) ∨ ((0 ≤ w ∧ w ≤ 5) ∧ e = cnt μ w ∧ μ = μ2)) := by
  have hN := CI_roofs hI
  have hM := CI_storms hI
  have hV := CI.VI hI
  refine CT.of (n := 0) (by decide) rfl ?_
  show WA g l YX4_count 1 _ 0 [some (vR 0), some (vI w)] [] μ
  refine w_iload_n dX4_count_0 rfl ?_
  refine w_tcase (0) (tgt := 40) (by omega) dX4_count_1 (by decide) (by decide) rfl (by decide) (fun k1 => ?_) (fun n1_0 => ?_)
  · refine w_aload_n dX4_count_40 rfl ?_
    refine gf_X4_10 rfl dX4_count_41 ?_
    refine gf_X4_55_1 rfl dX4_count_44 ?_
    refine gf_X4_58 rfl (cnO cn3) dX4_count_47 ?_
    exact w_iretP rfl dX4_count_50 (by first | exact Or.inl ⟨by omega, rfl, rfl⟩ | (subst k1; exact Or.inr ⟨by decide, rfl, rfl⟩))
  refine w_tcase (1) (tgt := 51) (by omega) dX4_count_1 (by decide) (by decide) rfl (by decide) (fun k1 => ?_) (fun n1_1 => ?_)
  · refine w_aload_n dX4_count_51 rfl ?_
    refine gf_X4_10 rfl dX4_count_52 ?_
    refine gf_X4_55_1 rfl dX4_count_55 ?_
    refine gf_X4_66 rfl (cnO cn3) dX4_count_58 ?_
    exact w_iretP rfl dX4_count_61 (by first | exact Or.inl ⟨by omega, rfl, rfl⟩ | (subst k1; exact Or.inr ⟨by decide, rfl, rfl⟩))
  refine w_tcase (2) (tgt := 62) (by omega) dX4_count_1 (by decide) (by decide) rfl (by decide) (fun k1 => ?_) (fun n1_2 => ?_)
  · refine w_aload_n dX4_count_62 rfl ?_
    refine gf_X4_10 rfl dX4_count_63 ?_
    refine gf_X4_55_1 rfl dX4_count_66 ?_
    refine w_cV0 kX0_allGuns ml_X4_225 (cnO cn3) rfl (Nat.le_of_ble_eq_true rfl) (by decide) dX4_count_69 (c_X0_allGuns cn3 hI) (kI (fun e69 m69 q69 => ?_))
    obtain ⟨rfl, rfl⟩ := q69
    exact w_iretP rfl dX4_count_72 (by first | exact Or.inl ⟨by omega, rfl, rfl⟩ | (subst k1; exact Or.inr ⟨by decide, rfl, rfl⟩))
  refine w_tcase (3) (tgt := 73) (by omega) dX4_count_1 (by decide) (by decide) rfl (by decide) (fun k1 => ?_) (fun n1_3 => ?_)
  · refine w_aload_n dX4_count_73 rfl ?_
    refine gf_X4_10 rfl dX4_count_74 ?_
    refine gf_X4_55_1 rfl dX4_count_77 ?_
    refine gf_X4_228 rfl (cnO cn3) dX4_count_80 ?_
    exact w_iretP rfl dX4_count_83 (by first | exact Or.inl ⟨by omega, rfl, rfl⟩ | (subst k1; exact Or.inr ⟨by decide, rfl, rfl⟩))
  refine w_tcase (4) (tgt := 84) (by omega) dX4_count_1 (by decide) (by decide) rfl (by decide) (fun k1 => ?_) (fun n1_4 => ?_)
  · refine w_aload_n dX4_count_84 rfl ?_
    refine gf_X4_10 rfl dX4_count_85 ?_
    refine gf_X4_106 rfl (snO sn1) dX4_count_88 ?_
    exact w_iretP rfl dX4_count_91 (by first | exact Or.inl ⟨by omega, rfl, rfl⟩ | (subst k1; exact Or.inr ⟨by decide, rfl, rfl⟩))
  refine w_tcase (5) (tgt := 92) (by omega) dX4_count_1 (by decide) (by decide) rfl (by decide) (fun k1 => ?_) (fun n1_5 => ?_)
  · refine w_aload_n dX4_count_92 rfl ?_
    refine gf_X4_25 rfl dX4_count_93 ?_
    refine gf_X4_91 rfl dX4_count_96 ?_
    exact w_iretP rfl dX4_count_99 (by first | exact Or.inl ⟨by omega, rfl, rfl⟩ | (subst k1; exact Or.inr ⟨by decide, rfl, rfl⟩))
  refine w_tableOut (tgt := 100) (by omega) dX4_count_1 (by omega) (by decide) ?_
  refine w_aload_n dX4_count_100 rfl ?_
  refine w_bipush dX4_count_101 (by decide) ?_
  refine w_cV1 kX4_refuse ml_X4_51 ob_0 rfl (Nat.le_of_ble_eq_true rfl) (by decide) dX4_count_103 (c_refB) (kI (fun e103 m103 q103 => ?_))
  obtain ⟨rfl, rfl⟩ := q103
  exact w_iretP rfl dX4_count_106 (by first | exact Or.inl ⟨by omega, rfl, rfl⟩ | (subst k1; exact Or.inr ⟨by decide, rfl, rfl⟩))
def dgs (μ : gM) : Int := 31 * (31 * itI (fun k x => 31 * x + vw μ 3 11 k) (itI (mxS (vw μ 3)) (itI (mxR (vw μ 3)) (itI (fun k x => 31 * x + (iI (cnt μ k)).toInt) 719 6) (μ 3 0)) (μ 3 1)) 7 + μ 154 0) + μ 154 1
set_option maxRecDepth 100000 in
set_option maxHeartbeats 4000000 in
theorem c_X4_digest {g : gG} {l : Launch} {μ : gM}   (hI : CI μ 3) : CT g l YX4_digest 2 [vR 0] μ (pL fun e μ2 => e = dgs μ ∧ μ = μ2) := by
  have hN := CI_roofs hI
  have hM := CI_storms hI
  have hV := CI.VI hI
  refine CT.of (n := 3) (by decide) rfl ?_
  show WA g l YX4_digest 2 _ 0 [some (vR 0), none, none, none] [] μ
  refine w_ldc2 (719) cl_X4_231 dX4_digest_0 (by decide) ?_
  refine w_lstore_n dX4_digest_3 (by decide) rfl ?_
  refine w_iconst dX4_digest_4 ?_
  refine w_istore_n dX4_digest_5 (by decide) rfl ?_
  refine w_loop (ι := Int × Int) (fun i => match i with | (y, k) => 0 ≤ k ∧ k ≤ 6 ∧ y = itI (fun k x => 31 * x + (iI (cnt μ k)).toInt) 719 k) (fun i => match i with | (y, k) => (6 - k).toNat) (fun i => match i with | (y, k) => [some (vR 0), some (vL y), none, some (vI k)]) (fun i => match i with | (y, k) => μ) ?_ (_, 0) ⟨by omega, by omega, rfl⟩
  intro i_ hinv6 ih6
  obtain ⟨y, k⟩ := i_
  try dsimp only at hinv6 ih6 ⊢
  obtain ⟨a1, a2, a3⟩ := hinv6
  refine w_iload_n dX4_digest_6 rfl ?_
  refine w_iconst dX4_digest_7 ?_
  refine w_icmp_gt (tgt := 30) (by omega) (by omega) dX4_digest_8 (by decide) (fun h8 => ?_) (fun h8 => ?_)
  · have e0 : k = 6 := by omega
    subst e0
    subst a3
    refine w_aload_n dX4_digest_30 rfl ?_
    refine gf_X4_10 rfl dX4_digest_31 ?_
    refine gf_X4_55_1 rfl dX4_digest_34 ?_
    refine w_lload_n dX4_digest_37 rfl ?_
    refine w_cV1 kX0_mixRoofs ml_X4_238 (cnO cn3) rfl (Nat.le_of_ble_eq_true rfl) (by decide) dX4_digest_38 (c_X0_mixRoofs cn3 hI) (kL (fun e38 m38 q38 => ?_))
    obtain ⟨rfl, rfl⟩ := q38
    refine w_lstore_n dX4_digest_41 (by decide) rfl ?_
    refine w_aload_n dX4_digest_42 rfl ?_
    refine gf_X4_10 rfl dX4_digest_43 ?_
    refine gf_X4_55_1 rfl dX4_digest_46 ?_
    refine w_lload_n dX4_digest_49 rfl ?_
    refine w_cV1 kX0_mixStorms ml_X4_242 (cnO cn3) rfl (Nat.le_of_ble_eq_true rfl) (by decide) dX4_digest_50 (c_X0_mixStorms cn3 hI) (kL (fun e50 m50 q50 => ?_))
    obtain ⟨rfl, rfl⟩ := q50
    refine w_lstore_n dX4_digest_53 (by decide) rfl ?_
    refine w_aload_n dX4_digest_54 rfl ?_
    refine gf_X4_10 rfl dX4_digest_55 ?_
    refine gf_X4_55_1 rfl dX4_digest_58 ?_
    refine w_lload_n dX4_digest_61 rfl ?_
    refine w_cV1 kX0_mixGuns ml_X4_245 (cnO cn3) rfl (Nat.le_of_ble_eq_true rfl) (by decide) dX4_digest_62 (c_X0_mixGuns cn3 hI) (kL (fun e62 m62 q62 => ?_))
    obtain ⟨rfl, rfl⟩ := q62
    refine w_lstore_n dX4_digest_65 (by decide) rfl ?_
    refine w_ldc2 (31) cl_X4_233 dX4_digest_66 (by decide) ?_
    refine w_lload_n dX4_digest_69 rfl ?_
    refine w_lmul dX4_digest_70 ?_
    refine w_aload_n dX4_digest_71 rfl ?_
    refine gf_X4_32 rfl dX4_digest_72 ?_
    refine gf_X4_202 rfl dX4_digest_75 ?_
    refine w_ladd dX4_digest_78 ?_
    refine w_lstore_n dX4_digest_79 (by decide) rfl ?_
    refine w_ldc2 (31) cl_X4_233 dX4_digest_80 (by decide) ?_
    refine w_lload_n dX4_digest_83 rfl ?_
    refine w_lmul dX4_digest_84 ?_
    refine w_aload_n dX4_digest_85 rfl ?_
    refine gf_X4_32 rfl dX4_digest_86 ?_
    refine gf_X4_206 rfl dX4_digest_89 ?_
    refine w_ladd dX4_digest_92 ?_
    exact w_lretP rfl dX4_digest_93 (by exact ⟨rfl, rfl⟩)
  · refine w_ldc2 (31) cl_X4_233 dX4_digest_11 (by decide) ?_
    refine w_lload_n dX4_digest_14 rfl ?_
    refine w_lmul dX4_digest_15 ?_
    refine w_aload_n dX4_digest_16 rfl ?_
    refine w_iload_n dX4_digest_17 rfl ?_
    refine w_cV1 kX4_count ml_X4_235 ob_0 rfl (Nat.le_of_ble_eq_true rfl) (by decide) dX4_digest_18 (c_X4_count (by omega) hI) (kI (fun e18 m18 q18 => ?_))
    obtain q18 := q18
    obtain ⟨z1, -, -⟩ | ⟨-, rfl, rfl⟩ := q18
    · exfalso; omega
    refine w_i2lw dX4_digest_21 ?_
    refine w_ladd dX4_digest_22 ?_
    refine w_lstore_n dX4_digest_23 (by decide) rfl ?_
    refine w_iinc dX4_digest_24 rfl (by decide) rfl ?_
    refine w_goto (tgt := 6) dX4_digest_27 (by decide) ?_
    exact ih6 (_, _) ⟨by omega, by omega, by rw [itI_s _ _ a1, ← a3]⟩ (by omega)
set_option maxRecDepth 100000 in
set_option maxHeartbeats 4000000 in
theorem c_X2_put {g : gG} {l : Launch} {μ : gM} {x : Int}  (h0 : 0 ≤ μ 151 0 ∧ μ 151 0 ≤ 250) : CT g l YX2_put 0 [vR 151, vI x] μ (pV fun μ2 => (μ 151 0 = 250 ∧ μ = μ2) ∨ (μ 151 0 < 250 ∧ μ2 = wr (wr μ 152 (μ 151 0) x) 151 0 (μ 151 0 + 1))) := by
  refine CT.of (n := 0) (by decide) rfl ?_
  show WA g l YX2_put 0 _ 0 [some (vR 151), some (vI x)] [] μ
  refine w_aload_n dX2_put_0 rfl ?_
  refine gf_X2_18 rfl dX2_put_1 ?_
  refine w_sipush dX2_put_4 (by decide) ?_
  refine w_icmp_ge (tgt := 30) (by omega) (by omega) dX2_put_7 (by decide) (fun h7 => ?_) (fun h7 => ?_)
  · exact w_vretP rfl dX2_put_30 (by first | exact Or.inl (⟨by omega, rfl⟩) | exact Or.inr (⟨by omega, rfl⟩) | (exfalso; omega))
  · refine w_aload_n dX2_put_10 rfl ?_
    refine gf_X2_9 rfl dX2_put_11 ?_
    refine w_aload_n dX2_put_14 rfl ?_
    refine gf_X2_18 rfl dX2_put_15 ?_
    refine w_iload_n dX2_put_18 rfl ?_
    refine w_iast ar_152 (by omega) dX2_put_19 ?_
    refine w_aload_n dX2_put_20 rfl ?_
    refine w_dup_a dX2_put_21 ?_
    refine gf_X2_18 rfl dX2_put_22 ?_
    rw [wr_o (by decide)]
    refine w_iconst dX2_put_25 ?_
    refine w_iadd dX2_put_26 ?_
    refine pf_X2_18 rfl dX2_put_27 ?_
    exact w_vretP rfl dX2_put_30 (by first | exact Or.inl (⟨by omega, rfl⟩) | exact Or.inr (⟨by omega, rfl⟩) | (exfalso; omega))
