set_option maxRecDepth 100000 in
set_option maxHeartbeats 4000000 in
theorem c_X4_against {g : gG} {l : Launch} {μ : gM}   (hA : AI μ) (hSC : SC μ 3) : CT g l YX4_against 6 [vR 0] μ (pI fun e μ2 => (μ 3 1 = 0 ∧ e = -20 ∧ μ2 = nop μ) ∨ (0 < μ 3 1 ∧ ((0 ≤ e ∧ e < 2 * μ 3 0 ∧ kp (vw μ 3) (μ 3 0) (μ 3 1) e ∧ ∀ j, 0 ≤ j → j < e → ¬ kp (vw μ 3) (μ 3 0) (μ 3 1) j) ∨ (e = -1 ∧ ∀ j, 0 ≤ j → j < 2 * μ 3 0 → ¬ kp (vw μ 3) (μ 3 0) (μ 3 1) j)) ∧ ∃ mt, BC μ mt 155 3 ∧ μ2 = frc mt (fE (vw μ 3) (μ 3 0) (μ 3 1)) (fC (vw μ 3) (μ 3 1)))) := by
  have hI := hSC.1
  have hN := CI_roofs hI
  have hM := CI_storms hI
  have hV := CI.VI hI
  refine CT.of (n := 2) (by decide) rfl ?_
  show WA g l YX4_against 6 _ 0 [some (vR 0), none, none] [] μ
  refine w_aload_n dX4_against_0 rfl ?_
  refine gf_X4_10 rfl dX4_against_1 ?_
  refine gf_X4_55_1 rfl dX4_against_4 ?_
  refine gf_X4_66 rfl (cnO cn3) dX4_against_7 ?_
  refine w_if_ne (tgt := 23) (by omega) dX4_against_10 (by decide) (fun h10 => ?_) (fun h10 => ?_)
  · refine w_aload_n dX4_against_23 rfl ?_
    refine gf_X4_39 rfl dX4_against_24 ?_
    refine w_aload_n dX4_against_27 rfl ?_
    refine gf_X4_10 rfl dX4_against_28 ?_
    refine gf_X4_55_1 rfl dX4_against_31 ?_
    refine w_cV1 kX0_become ml_X4_102 (cnO cn155) rfl (Nat.le_of_ble_eq_true rfl) (by decide) dX4_against_34 (c_X0_become cn155 cn3 (hA 155 cn155) hI (by decide)) (kU (fun m34 q34 => ?_))
    obtain q34 := q34
    have hI1 := q34.ci
    have f := q34.cq
    obtain ⟨f0, f1, f2⟩ := BC_n q34
    have hva : VA (vw m34 155) (vw μ 3) (μ 3 0) (μ 3 1) := CQ_VA f hN.2 hM.2
    have eE : fE (vw m34 155) (m34 155 0) (m34 155 1) = fE (vw μ 3) (μ 3 0) (μ 3 1) := by rw [f0, f1]; exact VA_fE hva hN.2
    have eC : fC (vw m34 155) (m34 155 1) = fC (vw μ 3) (μ 3 1) := by rw [f1]; exact VA_fC hva (Int.le_refl _)
    have hp3 := SC_pos hSC (by omega)
    refine w_aload_n dX4_against_37 rfl ?_
    refine gf_X4_39 rfl dX4_against_38 ?_
    refine w_cV0 kX0_edgeOfBlue ml_X4_138 (cnO cn155) rfl (Nat.le_of_ble_eq_true rfl) (by decide) dX4_against_41 (c_X0_edgeOfBlue cn155 hI1) (kI (fun e41 m41 q41 => ?_))
    obtain ⟨rfl, rfl, b41⟩ := q41
    rw [eE] at b41 ⊢
    refine w_istore_n dX4_against_44 (by decide) rfl ?_
    refine w_aload_n dX4_against_45 rfl ?_
    refine gf_X4_32 rfl dX4_against_46 ?_
    refine w_iload_n dX4_against_49 rfl ?_
    refine w_i2l (by omega) dX4_against_50 ?_
    refine w_aload_n dX4_against_51 rfl ?_
    refine gf_X4_39 rfl dX4_against_52 ?_
    refine w_cV0 kX0_allChances ml_X4_131 (cnO cn155) rfl (Nat.le_of_ble_eq_true rfl) (by decide) dX4_against_55 (c_X0_allChances cn155 hI1) (kI (fun e55 m55 q55 => ?_))
    obtain ⟨rfl, rfl, b55⟩ := q55
    rw [eC] at b55 ⊢
    refine w_i2l (by omega) dX4_against_58 ?_
    refine w_cV2 kX1_become ml_X4_135 ob_154 rfl (Nat.le_of_ble_eq_true rfl) (by decide) dX4_against_59 (c_X1_become (by omega) (by omega)) (kU (fun m59 q59 => ?_))
    obtain rfl := q59
    have hI2 : CI (frc m34 (fE (vw μ 3) (μ 3 0) (μ 3 1)) (fC (vw μ 3) (μ 3 1))) 155 := CI_fr (fun i hi => frc_o (by omega)) hI1
    have eR : frc m34 (fE (vw μ 3) (μ 3 0) (μ 3 1)) (fC (vw μ 3) (μ 3 1)) 155 0 = μ 3 0 := by rw [frc_o (by decide)]; exact f0
    have eS : frc m34 (fE (vw μ 3) (μ 3 0) (μ 3 1)) (fC (vw μ 3) (μ 3 1)) 155 1 = μ 3 1 := by rw [frc_o (by decide)]; exact f1
    have hvb : VA (vw (frc m34 (fE (vw μ 3) (μ 3 0) (μ 3 1)) (fC (vw μ 3) (μ 3 1))) 155) (vw μ 3) (μ 3 0) (μ 3 1) := (vw_fr (fun i hi => frc_o (by omega))).trans hva
    refine w_iconst dX4_against_62 ?_
    refine w_istore_n dX4_against_63 (by decide) rfl ?_
    refine w_loop (ι := Int) (fun k => 0 ≤ k ∧ k ≤ 2 * μ 3 0 ∧ ∀ j, 0 ≤ j → j < k → ¬ kp (vw μ 3) (μ 3 0) (μ 3 1) j) (fun k => (2 * μ 3 0 - k).toNat) (fun k => [some (vR 0), some (vI (fE (vw μ 3) (μ 3 0) (μ 3 1))), some (vI k)]) (fun k => frc m34 (fE (vw μ 3) (μ 3 0) (μ 3 1)) (fC (vw μ 3) (μ 3 1))) ?_ 0 ⟨by omega, by omega, fun j z1 z2 => by omega⟩
    intro i_ hinv64 ih64
    obtain ⟨k, rfl⟩ : ∃ z, z = i_ := ⟨_, rfl⟩
    try dsimp only at hinv64 ih64 ⊢
    obtain ⟨a1, a2, a3⟩ := hinv64
    refine w_iload_n dX4_against_64 rfl ?_
    refine w_iconst dX4_against_65 ?_
    refine w_aload_n dX4_against_66 rfl ?_
    refine gf_X4_39 rfl dX4_against_67 ?_
    refine gf_X4_58 rfl (cnO cn155) dX4_against_70 ?_
    rw [eR]
    refine w_imul dX4_against_73 ?_
    refine w_icmp_ge (tgt := 97) (by omega) (by omega) dX4_against_74 (by decide) (fun h74 => ?_) (fun h74 => ?_)
    · refine w_iconst dX4_against_97 ?_
      exact w_iretP rfl dX4_against_98 (by exact Or.inr ⟨by omega, Or.inr ⟨rfl, fun j z1 z2 => a3 j z1 (by omega)⟩, m34, q34, rfl⟩)
    · refine w_aload_n dX4_against_77 rfl ?_
      refine gf_X4_39 rfl dX4_against_78 ?_
      refine w_iload_n dX4_against_81 rfl ?_
      refine w_iload_n dX4_against_82 rfl ?_
      refine w_cV2 kX0_keepsEdge ml_X4_141 (cnO cn155) rfl (Nat.le_of_ble_eq_true rfl) (by decide) dX4_against_83 (c_X0_keepsEdge cn155 hI2 (by omega) (by omega) (by rw [frc_o (by decide), f.2.2.2.1 _ (by omega) (by omega)]; have := hSC.2.1 (4 * 0 + 2 * k + 0) (by omega) (by omega); omega)) (kI (fun e83 m83 q83 => ?_))
      obtain ⟨q83, rfl⟩ := q83
      rw [kE, eR, eS, VA_fE (VA_pv hvb k) hN.2, show (4 * 0 + 2 * k + 1 : Int) = 2 * k + 1 by omega, frc_o (by decide), f.2.2.2.1 _ (by omega) (by omega)] at q83
      have q83r : e83 = 0 ∨ e83 = 1 := by rcases q83 with ⟨z, -⟩ | ⟨z, -⟩ <;> omega
      refine w_if_eq (tgt := 91) (by omega) dX4_against_86 (by decide) (fun h86 => ?_) (fun h86 => ?_)
      · refine w_iinc dX4_against_91 rfl (by decide) rfl ?_
        refine w_goto (tgt := 64) dX4_against_94 (by decide) ?_
        refine ih64 _ ⟨by omega, by omega, fun j z1 z2 => ?_⟩ (by omega)
        by_cases ej : j = k
        · subst ej
          rcases q83 with ⟨y1, y2⟩ | ⟨y1, y2⟩
          · exfalso; omega
          · rintro ⟨w1, w2⟩
            rcases y2 with y2 | y2
            · exact w1 y2
            · exact y2 w2
        · exact a3 j z1 (by omega)
      · refine w_iload_n dX4_against_89 rfl ?_
        exact w_iretP rfl dX4_against_90 (by rcases q83 with ⟨y1, y2⟩ | ⟨y1, y2⟩; exact Or.inr ⟨by omega, Or.inl ⟨by omega, by omega, y2, a3⟩, m34, q34, rfl⟩; exfalso; omega)
  · refine w_aload_n dX4_against_13 rfl ?_
    refine w_bipush dX4_against_14 (by decide) ?_
    refine w_cV1 kX4_refuse ml_X4_51 ob_0 rfl (Nat.le_of_ble_eq_true rfl) (by decide) dX4_against_16 (c_refN) (kI (fun e16 m16 q16 => ?_))
    obtain ⟨rfl, rfl⟩ := q16
    refine w_pop_i dX4_against_19 ?_
    refine w_bipush dX4_against_20 (by decide) ?_
    exact w_iretP rfl dX4_against_22 (by exact Or.inl ⟨by omega, rfl, rfl⟩)
set_option maxRecDepth 100000 in
set_option maxHeartbeats 4000000 in
theorem c_X4_shield {g : gG} {l : Launch} {μ : gM} {w : Int}  (g1 : -2147483648 ≤ w ∧ w < 2147483648) (hA : AI μ) (hSC : SC μ 3) : CT g l YX4_shield 6 [vR 0, vI w] μ (pI fun e μ2 => (¬ (w = 0 ∨ w = 1) ∧ e = -2 ∧ μ2 = bad μ) ∨ ((w = 0 ∨ w = 1) ∧ μ 3 1 = 0 ∧ e = -3 ∧ μ2 = nop μ) ∨ ((w = 0 ∨ w = 1) ∧ 0 < μ 3 1 ∧ e = (shI (vw μ 3) (μ 3 0) (μ 3 1) w 7).1 ∧ ∃ mt, BC μ mt 155 3 ∧ ((e = -1 ∧ μ2 = mt) ∨ (e ≠ -1 ∧ μ2 = frc mt (shI (vw μ 3) (μ 3 0) (μ 3 1) w 7).2 (fC (vw μ 3) (μ 3 1)))))) := by
  have hI := hSC.1
  have hN := CI_roofs hI
  have hM := CI_storms hI
  have hV := CI.VI hI
  refine CT.of (n := 4) (by decide) rfl ?_
  show WA g l YX4_shield 6 _ 0 [some (vR 0), some (vI w), none, none, none, none] [] μ
  refine w_iload_n dX4_shield_0 rfl ?_
  refine w_cS1 kX4_isPaint ml_X4_81 (Nat.le_of_ble_eq_true rfl) (by decide) dX4_shield_1 (c_X4_isPaint (by omega)) (kI (fun e1 m1 q1 => ?_))
  obtain ⟨q1, rfl⟩ := q1
  refine w_if_ne (tgt := 14) (by omega) dX4_shield_4 (by decide) (fun h4 => ?_) (fun h4 => ?_)
  · refine w_aload_n dX4_shield_14 rfl ?_
    refine gf_X4_10 rfl dX4_shield_15 ?_
    refine gf_X4_55_1 rfl dX4_shield_18 ?_
    refine gf_X4_66 rfl (cnO cn3) dX4_shield_21 ?_
    refine w_if_ne (tgt := 34) (by omega) dX4_shield_24 (by decide) (fun h24 => ?_) (fun h24 => ?_)
    · refine w_aload_n dX4_shield_34 rfl ?_
      refine gf_X4_39 rfl dX4_shield_35 ?_
      refine w_aload_n dX4_shield_38 rfl ?_
      refine gf_X4_10 rfl dX4_shield_39 ?_
      refine gf_X4_55_1 rfl dX4_shield_42 ?_
      refine w_cV1 kX0_become ml_X4_102 (cnO cn155) rfl (Nat.le_of_ble_eq_true rfl) (by decide) dX4_shield_45 (c_X0_become cn155 cn3 (hA 155 cn155) hI (by decide)) (kU (fun m45 q45 => ?_))
      obtain q45 := q45
      have hI1 := q45.ci
      have f := q45.cq
      obtain ⟨f0, f1, f2⟩ := BC_n q45
      have hva : VA (vw m45 155) (vw μ 3) (μ 3 0) (μ 3 1) := CQ_VA f hN.2 hM.2
      have eC : fC (vw m45 155) (m45 155 1) = fC (vw μ 3) (μ 3 1) := by rw [f1]; exact VA_fC hva (Int.le_refl _)
      have hp3 := SC_pos hSC (by omega)
      refine w_iconst dX4_shield_48 ?_
      refine w_istore_n dX4_shield_49 (by decide) rfl ?_
      refine w_iconst dX4_shield_50 ?_
      refine w_istore_n dX4_shield_51 (by decide) rfl ?_
      refine w_iconst dX4_shield_52 ?_
      refine w_istore dX4_shield_53 (by decide) rfl ?_
      refine w_loop (ι := Int × Int × Int) (fun i => match i with | (b, t, k) => 0 ≤ k ∧ k ≤ 7 ∧ (b, t) = shI (vw μ 3) (μ 3 0) (μ 3 1) w k) (fun i => match i with | (b, t, k) => (7 - k).toNat) (fun i => match i with | (b, t, k) => [some (vR 0), some (vI w), some (vI b), some (vI t), some (vI k), none]) (fun i => match i with | (b, t, k) => m45) ?_ (-1, -1, 0) ⟨by omega, by omega, rfl⟩
      intro i_ hinv55 ih55
      obtain ⟨b, t, k⟩ := i_
      try dsimp only at hinv55 ih55 ⊢
      obtain ⟨a1, a2, a3⟩ := hinv55
      have hsb := shI_bd hV hM (μ 3 0) w k.toNat
      rw [Int.toNat_of_nonneg a1, ← a3] at hsb
      dsimp only at hsb
      refine w_iload dX4_shield_55 rfl ?_
      refine w_bipush dX4_shield_57 (by decide) ?_
      refine w_icmp_ge (tgt := 105) (by omega) (by omega) dX4_shield_59 (by decide) (fun h59 => ?_) (fun h59 => ?_)
      · have e0 : k = 7 := by omega
        subst e0
        have e1 : b = (shI (vw μ 3) (μ 3 0) (μ 3 1) w 7).1 := by rw [← a3]
        have e2 : t = (shI (vw μ 3) (μ 3 0) (μ 3 1) w 7).2 := by rw [← a3]
        refine w_iload_n dX4_shield_105 rfl ?_
        refine w_iconst dX4_shield_106 ?_
        refine w_icmp_eq (tgt := 127) (by omega) (by omega) dX4_shield_107 (by decide) (fun h107 => ?_) (fun h107 => ?_)
        · refine w_iload_n dX4_shield_127 rfl ?_
          exact w_iretP rfl dX4_shield_128 (by first | exact Or.inr (Or.inr ⟨by omega, by omega, e1, m45, q45, Or.inl ⟨by omega, rfl⟩⟩) | exact Or.inr (Or.inr ⟨by omega, by omega, e1, m45, q45, Or.inr ⟨by omega, by rw [← e2]⟩⟩))
        · refine w_aload_n dX4_shield_110 rfl ?_
          refine gf_X4_32 rfl dX4_shield_111 ?_
          refine w_iload_n dX4_shield_114 rfl ?_
          refine w_i2l (by omega) dX4_shield_115 ?_
          refine w_aload_n dX4_shield_116 rfl ?_
          refine gf_X4_39 rfl dX4_shield_117 ?_
          refine w_cV0 kX0_allChances ml_X4_131 (cnO cn155) rfl (Nat.le_of_ble_eq_true rfl) (by decide) dX4_shield_120 (c_X0_allChances cn155 hI1) (kI (fun e120 m120 q120 => ?_))
          obtain ⟨rfl, rfl, b120⟩ := q120
          rw [eC] at b120 ⊢
          refine w_i2l (by omega) dX4_shield_123 ?_
          refine w_cV2 kX1_become ml_X4_135 ob_154 rfl (Nat.le_of_ble_eq_true rfl) (by decide) dX4_shield_124 (c_X1_become (by omega) (by omega)) (kU (fun m124 q124 => ?_))
          obtain rfl := q124
          refine w_iload_n dX4_shield_127 rfl ?_
          exact w_iretP rfl dX4_shield_128 (by first | exact Or.inr (Or.inr ⟨by omega, by omega, e1, m45, q45, Or.inl ⟨by omega, rfl⟩⟩) | exact Or.inr (Or.inr ⟨by omega, by omega, e1, m45, q45, Or.inr ⟨by omega, by rw [← e2]⟩⟩))
      · have hg : vw μ 3 11 k = m45 (155 + 11) k := (f.2.2.2.2.2.2.2.2.2.2.2 k (by omega) (by omega)).symm
        refine w_aload_n dX4_shield_62 rfl ?_
        refine gf_X4_39 rfl dX4_shield_63 ?_
        refine gf_X4_73 rfl (cnO cn155) dX4_shield_66 ?_
        refine w_iload dX4_shield_69 rfl ?_
        refine w_ialdB (CI_guns hI1) (cA_guns cn155) (by omega) dX4_shield_71 (fun b71 => ?_)
        refine w_if_ne (tgt := 99) (by omega) dX4_shield_72 (by decide) (fun h72 => ?_) (fun h72 => ?_)
        · refine w_iinc dX4_shield_99 rfl (by decide) rfl ?_
          refine w_goto (tgt := 55) dX4_shield_102 (by decide) ?_
          first
          | exact ih55 (b, t, k + 1) ⟨by dsimp only; omega, by dsimp only; omega, by dsimp only; rw [shI_s a1, ← a3]; dsimp only; rw [if_neg (by rw [hg]; omega)]⟩ (by dsimp only; omega)
          | exact ih55 (k, fO (gv (vw μ 3) k) (μ 3 0) (μ 3 1) w, k + 1) ⟨by dsimp only; omega, by dsimp only; omega, by dsimp only; rw [shI_s a1, ← a3]; dsimp only; rw [if_pos ⟨by rw [hg]; exact h72, by omega⟩]⟩ (by dsimp only; omega)
        · refine w_aload_n dX4_shield_75 rfl ?_
          refine gf_X4_39 rfl dX4_shield_76 ?_
          refine w_iload dX4_shield_79 rfl ?_
          refine w_iload_n dX4_shield_81 rfl ?_
          refine w_cV2 kX0_chancesWithGun ml_X4_150 (cnO cn155) rfl (Nat.le_of_ble_eq_true rfl) (by decide) dX4_shield_82 (c_X0_chancesWithGun cn155 hI1 (by omega) (by omega) h72) (kI (fun e82 m82 q82 => ?_))
          obtain ⟨rfl, rfl, b82⟩ := q82
          rw [vw_wr11, f0, f1, VA_fO (VA_gv hva k) hN.2 w] at b82 ⊢
          refine w_istore dX4_shield_85 (by decide) rfl ?_
          refine w_iload dX4_shield_87 rfl ?_
          refine w_iload_n dX4_shield_89 rfl ?_
          refine w_icmp_le (tgt := 99) (by omega) (by omega) dX4_shield_90 (by decide) (fun h90 => ?_) (fun h90 => ?_)
          · refine w_iinc dX4_shield_99 rfl (by decide) rfl ?_
            refine w_goto (tgt := 55) dX4_shield_102 (by decide) ?_
            refine w_drop 5 ?_
            first
            | exact ih55 (b, t, k + 1) ⟨by dsimp only; omega, by dsimp only; omega, by dsimp only; rw [shI_s a1, ← a3]; dsimp only; rw [if_neg (by rw [hg]; omega)]⟩ (by dsimp only; omega)
            | exact ih55 (k, fO (gv (vw μ 3) k) (μ 3 0) (μ 3 1) w, k + 1) ⟨by dsimp only; omega, by dsimp only; omega, by dsimp only; rw [shI_s a1, ← a3]; dsimp only; rw [if_pos ⟨by rw [hg]; exact h72, by omega⟩]⟩ (by dsimp only; omega)
          · refine w_iload dX4_shield_93 rfl ?_
            refine w_istore_n dX4_shield_95 (by decide) rfl ?_
            refine w_iload dX4_shield_96 rfl ?_
            refine w_istore_n dX4_shield_98 (by decide) rfl ?_
            refine w_iinc dX4_shield_99 rfl (by decide) rfl ?_
            refine w_goto (tgt := 55) dX4_shield_102 (by decide) ?_
            refine w_drop 5 ?_
            first
            | exact ih55 (b, t, k + 1) ⟨by dsimp only; omega, by dsimp only; omega, by dsimp only; rw [shI_s a1, ← a3]; dsimp only; rw [if_neg (by rw [hg]; omega)]⟩ (by dsimp only; omega)
            | exact ih55 (k, fO (gv (vw μ 3) k) (μ 3 0) (μ 3 1) w, k + 1) ⟨by dsimp only; omega, by dsimp only; omega, by dsimp only; rw [shI_s a1, ← a3]; dsimp only; rw [if_pos ⟨by rw [hg]; exact h72, by omega⟩]⟩ (by dsimp only; omega)
    · refine w_aload_n dX4_shield_27 rfl ?_
      refine w_bipush dX4_shield_28 (by decide) ?_
      refine w_cV1 kX4_refuse ml_X4_51 ob_0 rfl (Nat.le_of_ble_eq_true rfl) (by decide) dX4_shield_30 (c_refN) (kI (fun e30 m30 q30 => ?_))
      obtain ⟨rfl, rfl⟩ := q30
      exact w_iretP rfl dX4_shield_33 (by first | exact Or.inl (⟨by omega, rfl, rfl⟩) | exact Or.inr (Or.inl (⟨by omega, by omega, rfl, rfl⟩)) | (exfalso; omega))
  · refine w_aload_n dX4_shield_7 rfl ?_
    refine w_bipush dX4_shield_8 (by decide) ?_
    refine w_cV1 kX4_refuse ml_X4_51 ob_0 rfl (Nat.le_of_ble_eq_true rfl) (by decide) dX4_shield_10 (c_refB) (kI (fun e10 m10 q10 => ?_))
    obtain ⟨rfl, rfl⟩ := q10
    exact w_iretP rfl dX4_shield_13 (by first | exact Or.inl (⟨by omega, rfl, rfl⟩) | exact Or.inr (Or.inl (⟨by omega, by omega, rfl, rfl⟩)) | (exfalso; omega))
set_option maxRecDepth 100000 in
set_option maxHeartbeats 4000000 in
theorem c_X4_drawn {g : gG} {l : Launch} {μ : gM} {sd : Int} {y : Int}  (g1 : -2147483648 ≤ sd ∧ sd < 2147483648) (g2 : -2147483648 ≤ y ∧ y < 2147483648) (hA : AI μ) : CT g l YX4_drawn 4 [vR 0, vI sd, vI y] μ (pI fun e μ2 => (¬ (0 ≤ sd ∧ sd ≤ 999999 ∧ 0 ≤ y ∧ y ≤ 20) ∧ e = -1000 ∧ μ2 = bad μ) ∨ ((0 ≤ sd ∧ sd ≤ 999999 ∧ 0 ≤ y ∧ y ≤ 20) ∧ e = (dwI (vw μ 3) (μ 3 0) (μ 3 1) sd y).2.1 ∧ (∀ a : Nat, (a < 155 ∨ 167 ≤ a) → μ2 a = μ a) ∧ CI μ2 155)) := by
  have hI := hA 3 cn3
  have hN := CI_roofs hI
  have hM := CI_storms hI
  have hV := CI.VI hI
  refine CT.of (n := 8) (by decide) rfl ?_
  show WA g l YX4_drawn 4 _ 0 [some (vR 0), some (vI sd), some (vI y), none, none, none, none, none, none, none, none] [] μ
  refine w_iload_n dX4_drawn_0 rfl ?_
  refine w_iconst dX4_drawn_1 ?_
  refine w_ldc (999999) ci_X4_187 dX4_drawn_2 (by decide) ?_
  refine w_cS3 kX4_within ml_X4_43 (Nat.le_of_ble_eq_true rfl) (by decide) dX4_drawn_4 (c_X4_within (by omega) (by omega) (by omega)) (kI (fun e4 m4 q4 => ?_))
  obtain ⟨q4, rfl⟩ := q4
  refine w_if_eq (tgt := 20) (by omega) dX4_drawn_7 (by decide) (fun h7 => ?_) (fun h7 => ?_)
  · refine w_aload_n dX4_drawn_20 rfl ?_
    refine w_bipush dX4_drawn_21 (by decide) ?_
    refine w_cV1 kX4_refuse ml_X4_51 ob_0 rfl (Nat.le_of_ble_eq_true rfl) (by decide) dX4_drawn_23 (c_refB) (kI (fun e23 m23 q23 => ?_))
    obtain ⟨rfl, rfl⟩ := q23
    refine w_pop_i dX4_drawn_26 ?_
    refine w_sipush dX4_drawn_27 (by decide) ?_
    exact w_iretP rfl dX4_drawn_30 (by exact Or.inl ⟨by omega, rfl, rfl⟩)
  · refine w_iload_n dX4_drawn_10 rfl ?_
    refine w_iconst dX4_drawn_11 ?_
    refine w_bipush dX4_drawn_12 (by decide) ?_
    refine w_cS3 kX4_within ml_X4_43 (Nat.le_of_ble_eq_true rfl) (by decide) dX4_drawn_14 (c_X4_within (by omega) (by omega) (by omega)) (kI (fun e14 m14 q14 => ?_))
    obtain ⟨q14, rfl⟩ := q14
    refine w_if_ne (tgt := 31) (by omega) dX4_drawn_17 (by decide) (fun h17 => ?_) (fun h17 => ?_)
    · refine w_aload_n dX4_drawn_31 rfl ?_
      refine gf_X4_39 rfl dX4_drawn_32 ?_
      refine w_aload_n dX4_drawn_35 rfl ?_
      refine gf_X4_10 rfl dX4_drawn_36 ?_
      refine gf_X4_55_1 rfl dX4_drawn_39 ?_
      refine w_cV1 kX0_become ml_X4_102 (cnO cn155) rfl (Nat.le_of_ble_eq_true rfl) (by decide) dX4_drawn_42 (c_X0_become cn155 cn3 (hA 155 cn155) hI (by decide)) (kU (fun m42 q42 => ?_))
      obtain q42 := q42
      have hI1 := q42.ci
      have f := q42.cq
      obtain ⟨f0, f1, f2⟩ := BC_n q42
      have hva : VA (vw m42 155) (vw μ 3) (μ 3 0) (μ 3 1) := CQ_VA f hN.2 hM.2
      have eC : fC (vw m42 155) (m42 155 1) = fC (vw μ 3) (μ 3 1) := by rw [f1]; exact VA_fC hva (Int.le_refl _)
      refine w_aload_n dX4_drawn_45 rfl ?_
      refine gf_X4_39 rfl dX4_drawn_46 ?_
      refine w_cV0 kX0_allChances ml_X4_131 (cnO cn155) rfl (Nat.le_of_ble_eq_true rfl) (by decide) dX4_drawn_49 (c_X0_allChances cn155 hI1) (kI (fun e49 m49 q49 => ?_))
      obtain ⟨rfl, rfl, b49⟩ := q49
      rw [eC] at b49 ⊢
      refine w_i2l (by omega) dX4_drawn_52 ?_
      refine w_lconst 1 dX4_drawn_53 (by decide) ?_
      refine w_ladd dX4_drawn_54 ?_
      refine w_lstore_n dX4_drawn_55 (by decide) rfl ?_
      refine w_iload_n dX4_drawn_56 rfl ?_
      refine w_i2l (by omega) dX4_drawn_57 ?_
      refine w_lstore dX4_drawn_58 (by decide) rfl ?_
      refine w_iconst dX4_drawn_60 ?_
      refine w_istore dX4_drawn_61 (by decide) rfl ?_
      refine w_iconst dX4_drawn_63 ?_
      refine w_istore dX4_drawn_64 (by decide) rfl ?_
      refine w_loop (ι := Int × Int × Int × gM) (fun i => match i with | (x, a, k, mm) => 0 ≤ k ∧ k ≤ y ∧ DI μ mm (μ 3 0) (μ 3 1) (vw μ 3) sd x a k) (fun i => match i with | (x, a, k, mm) => (y - k).toNat) (fun i => match i with | (x, a, k, mm) => [some (vR 0), some (vI sd), some (vI y), some (vL (fC (vw μ 3) (μ 3 1) + 1)), none, some (vL x), none, some (vI a), some (vI k), none, none]) (fun i => match i with | (x, a, k, mm) => mm) ?_ (sd, 0, 0, m42) ⟨by omega, by omega, rfl, rfl, hva, f0, f1, hI1, fun a ha => q42.fr (by omega), by omega, VA_fC hva (Int.le_refl _)⟩
      intro i_ hinv66 ih66
      obtain ⟨x, a, k, mm⟩ := i_
      try dsimp only at hinv66 ih66 ⊢
      obtain ⟨a1, a2, a3⟩ := hinv66
      obtain ⟨d1, d2, d3, d4, d5, d6, d7, d8, d9⟩ := id a3
      refine w_iload dX4_drawn_66 rfl ?_
      refine w_iload_n dX4_drawn_68 rfl ?_
      refine w_icmp_ge (tgt := 171) (by omega) (by omega) dX4_drawn_69 (by decide) (fun h69 => ?_) (fun h69 => ?_)
      · refine w_iload dX4_drawn_171 rfl ?_
        exact w_iretP rfl dX4_drawn_173 (by first | (exfalso; omega) | (have e0 : k = y := (by omega); subst e0; exact Or.inr ⟨by omega, d2, d7, d6⟩))
      · refine w_lload_n dX4_drawn_72 rfl ?_
        refine w_lconst 0 dX4_drawn_73 (by decide) ?_
        refine w_lcmp_le (tgt := 171) (by omega) (by omega) dX4_drawn_74 dX4_drawn_75 (by decide) (fun h74 => ?_) (fun h74 => ?_)
        · refine w_iload dX4_drawn_171 rfl ?_
          exact w_iretP rfl dX4_drawn_173 (by first | (exfalso; omega) | (have e0 : k = y := (by omega); subst e0; exact Or.inr ⟨by omega, d2, d7, d6⟩))
        · refine w_lload dX4_drawn_78 rfl ?_
          refine w_ldc2 (1103515245) cl_X4_188 dX4_drawn_80 (by decide) ?_
          refine w_lmul dX4_drawn_83 ?_
          refine w_ldc2 (12345) cl_X4_190 dX4_drawn_84 (by decide) ?_
          refine w_ladd dX4_drawn_87 ?_
          refine w_ldc2 (2147483648) cl_X4_192 dX4_drawn_88 (by decide) ?_
          refine w_lrem (by omega) (by omega) dX4_drawn_91 ?_
          refine w_lstore dX4_drawn_92 (by decide) rfl ?_
          have hr1 := Int.emod_nonneg ((x * 1103515245 + 12345) % 2147483648 / 65536) (by omega : fC (vw μ 3) (μ 3 1) + 1 ≠ 0)
          have hr2 := Int.emod_lt_of_pos ((x * 1103515245 + 12345) % 2147483648 / 65536) (by omega : 0 < fC (vw μ 3) (μ 3 1) + 1)
          refine w_aload_n dX4_drawn_94 rfl ?_
          refine gf_X4_39 rfl dX4_drawn_95 ?_
          refine w_lload dX4_drawn_98 rfl ?_
          refine w_ldc2 (65536) cl_X4_194 dX4_drawn_100 (by decide) ?_
          refine w_ldiv (by omega) (by omega) dX4_drawn_103 ?_
          refine w_lload_n dX4_drawn_104 rfl ?_
          refine w_lrem (by omega) (by omega) dX4_drawn_105 ?_
          refine w_cV1 kX0_stormAt ml_X4_196 (cnO cn155) rfl (Nat.le_of_ble_eq_true rfl) (by decide) dX4_drawn_106 (c_X0_stormAt cn155 d6 (by omega)) (kI (fun e106 m106 q106 => ?_))
          obtain ⟨q106, r106, s106, rfl⟩ := q106
          rw [d5] at q106
          have es : e106 = ds (dwI (vw μ 3) (μ 3 0) (μ 3 1) sd k).2.2 (μ 3 1) x := by
            have z := sAt_F (by omega) (sAt_cg (fun j hj => VA_fC d3 hj) q106)
            rw [z]
            unfold ds dx
            rw [← VA_fC d3 (Int.le_refl _), d9]
          have esr : e106 = -1 ∨ (0 ≤ e106 ∧ e106 < μ 3 1) := by
            rcases q106 with ⟨z1, z2, -⟩ | ⟨z1, -⟩
            · exact Or.inr ⟨z1, z2⟩
            · exact Or.inl z1
          refine w_istore dX4_drawn_109 (by decide) rfl ?_
          refine w_iload dX4_drawn_111 rfl ?_
          refine w_iconst dX4_drawn_113 ?_
          refine w_icmp_ne (tgt := 121) (by omega) (by omega) dX4_drawn_114 (by decide) (fun h114 => ?_) (fun h114 => ?_)
          · refine w_aload_n dX4_drawn_121 rfl ?_
            refine gf_X4_39 rfl dX4_drawn_122 ?_
            refine w_iload dX4_drawn_125 rfl ?_
            refine w_cV1 kX0_lead ml_X4_122 (cnO cn155) rfl (Nat.le_of_ble_eq_true rfl) (by decide) dX4_drawn_127 (c_X0_lead cn155 d6 (by omega)) (kI (fun e127 m127 q127 => ?_))
            obtain ⟨rfl, rfl, b127⟩ := q127
            rw [d4, VA_fL d3 hN.2 (by omega)] at b127 ⊢
            refine w_cS1 kX0_winnerBy ml_X4_125 (Nat.le_of_ble_eq_true rfl) (by decide) dX4_drawn_130 (c_X0_winnerBy (by omega)) (kI (fun e130 m130 q130 => ?_))
            obtain ⟨rfl, rfl, b130⟩ := q130
            refine w_istore dX4_drawn_133 (by decide) rfl ?_
            refine w_iload dX4_drawn_135 rfl ?_
            refine w_if_ne (tgt := 146) (by omega) dX4_drawn_137 (by decide) (fun h137 => ?_) (fun h137 => ?_)
            · refine w_iload dX4_drawn_146 rfl ?_
              refine w_iconst dX4_drawn_148 ?_
              refine w_icmp_ne (tgt := 155) (by omega) (by omega) dX4_drawn_149 (by decide) (fun h149 => ?_) (fun h149 => ?_)
              · refine w_aload_n dX4_drawn_155 rfl ?_
                refine gf_X4_39 rfl dX4_drawn_156 ?_
                refine w_iload dX4_drawn_159 rfl ?_
                refine w_cV1 kX0_passYear ml_X4_180 (cnO cn155) rfl (Nat.le_of_ble_eq_true rfl) (by decide) dX4_drawn_161 (c_X0_passYear cn155 d6 (by omega)) (kI (fun e161 m161 q161 => ?_))
                obtain ⟨rfl, rfl⟩ := q161
                rw [d4]
                refine w_pop_i dX4_drawn_164 ?_
                refine w_iinc dX4_drawn_165 rfl (by decide) rfl ?_
                refine w_goto (tgt := 66) dX4_drawn_168 (by decide) ?_
                refine w_drop 9 ?_
                refine w_drop 10 ?_
                first
                | (exfalso; omega)
                | exact ih66 (_, _, _, _) ⟨by dsimp only; omega, by dsimp only; omega, DI_s hN a1 a3 es esr (by unfold dg; rw [if_pos (by omega), Int.add_zero]) _⟩ (by dsimp only; omega)
                | exact ih66 (_, _, _, _) ⟨by dsimp only; omega, by dsimp only; omega, DI_s hN a1 a3 es esr (by unfold dg; rw [if_neg (by omega)]; (repeat' split) <;> omega) _⟩ (by dsimp only; omega)
              · refine w_iinc dX4_drawn_152 rfl (by decide) rfl ?_
                refine w_aload_n dX4_drawn_155 rfl ?_
                refine gf_X4_39 rfl dX4_drawn_156 ?_
                refine w_iload dX4_drawn_159 rfl ?_
                refine w_cV1 kX0_passYear ml_X4_180 (cnO cn155) rfl (Nat.le_of_ble_eq_true rfl) (by decide) dX4_drawn_161 (c_X0_passYear cn155 d6 (by omega)) (kI (fun e161 m161 q161 => ?_))
                obtain ⟨rfl, rfl⟩ := q161
                rw [d4]
                refine w_pop_i dX4_drawn_164 ?_
                refine w_iinc dX4_drawn_165 rfl (by decide) rfl ?_
                refine w_goto (tgt := 66) dX4_drawn_168 (by decide) ?_
                refine w_drop 9 ?_
                refine w_drop 10 ?_
                first
                | (exfalso; omega)
                | exact ih66 (_, _, _, _) ⟨by dsimp only; omega, by dsimp only; omega, DI_s hN a1 a3 es esr (by unfold dg; rw [if_pos (by omega), Int.add_zero]) _⟩ (by dsimp only; omega)
                | exact ih66 (_, _, _, _) ⟨by dsimp only; omega, by dsimp only; omega, DI_s hN a1 a3 es esr (by unfold dg; rw [if_neg (by omega)]; (repeat' split) <;> omega) _⟩ (by dsimp only; omega)
            · refine w_iinc dX4_drawn_140 rfl (by decide) rfl ?_
              refine w_goto (tgt := 155) dX4_drawn_143 (by decide) ?_
              refine w_aload_n dX4_drawn_155 rfl ?_
              refine gf_X4_39 rfl dX4_drawn_156 ?_
              refine w_iload dX4_drawn_159 rfl ?_
              refine w_cV1 kX0_passYear ml_X4_180 (cnO cn155) rfl (Nat.le_of_ble_eq_true rfl) (by decide) dX4_drawn_161 (c_X0_passYear cn155 d6 (by omega)) (kI (fun e161 m161 q161 => ?_))
              obtain ⟨rfl, rfl⟩ := q161
              rw [d4]
              refine w_pop_i dX4_drawn_164 ?_
              refine w_iinc dX4_drawn_165 rfl (by decide) rfl ?_
              refine w_goto (tgt := 66) dX4_drawn_168 (by decide) ?_
              refine w_drop 9 ?_
              refine w_drop 10 ?_
              first
              | (exfalso; omega)
              | exact ih66 (_, _, _, _) ⟨by dsimp only; omega, by dsimp only; omega, DI_s hN a1 a3 es esr (by unfold dg; rw [if_pos (by omega), Int.add_zero]) _⟩ (by dsimp only; omega)
              | exact ih66 (_, _, _, _) ⟨by dsimp only; omega, by dsimp only; omega, DI_s hN a1 a3 es esr (by unfold dg; rw [if_neg (by omega)]; (repeat' split) <;> omega) _⟩ (by dsimp only; omega)
          · refine w_iconst dX4_drawn_117 ?_
            refine w_goto (tgt := 133) dX4_drawn_118 (by decide) ?_
            refine w_istore dX4_drawn_133 (by decide) rfl ?_
            refine w_iload dX4_drawn_135 rfl ?_
            refine w_if_ne (tgt := 146) (by omega) dX4_drawn_137 (by decide) (fun h137 => ?_) (fun h137 => ?_)
            · refine w_iload dX4_drawn_146 rfl ?_
              refine w_iconst dX4_drawn_148 ?_
              refine w_icmp_ne (tgt := 155) (by omega) (by omega) dX4_drawn_149 (by decide) (fun h149 => ?_) (fun h149 => ?_)
              · refine w_aload_n dX4_drawn_155 rfl ?_
                refine gf_X4_39 rfl dX4_drawn_156 ?_
                refine w_iload dX4_drawn_159 rfl ?_
                refine w_cV1 kX0_passYear ml_X4_180 (cnO cn155) rfl (Nat.le_of_ble_eq_true rfl) (by decide) dX4_drawn_161 (c_X0_passYear cn155 d6 (by omega)) (kI (fun e161 m161 q161 => ?_))
                obtain ⟨rfl, rfl⟩ := q161
                rw [d4]
                refine w_pop_i dX4_drawn_164 ?_
                refine w_iinc dX4_drawn_165 rfl (by decide) rfl ?_
                refine w_goto (tgt := 66) dX4_drawn_168 (by decide) ?_
                refine w_drop 9 ?_
                refine w_drop 10 ?_
                first
                | (exfalso; omega)
                | exact ih66 (_, _, _, _) ⟨by dsimp only; omega, by dsimp only; omega, DI_s hN a1 a3 es esr (by unfold dg; rw [if_pos (by omega), Int.add_zero]) _⟩ (by dsimp only; omega)
                | exact ih66 (_, _, _, _) ⟨by dsimp only; omega, by dsimp only; omega, DI_s hN a1 a3 es esr (by unfold dg; rw [if_neg (by omega)]; (repeat' split) <;> omega) _⟩ (by dsimp only; omega)
              · refine w_iinc dX4_drawn_152 rfl (by decide) rfl ?_
                refine w_aload_n dX4_drawn_155 rfl ?_
                refine gf_X4_39 rfl dX4_drawn_156 ?_
                refine w_iload dX4_drawn_159 rfl ?_
                refine w_cV1 kX0_passYear ml_X4_180 (cnO cn155) rfl (Nat.le_of_ble_eq_true rfl) (by decide) dX4_drawn_161 (c_X0_passYear cn155 d6 (by omega)) (kI (fun e161 m161 q161 => ?_))
                obtain ⟨rfl, rfl⟩ := q161
                rw [d4]
                refine w_pop_i dX4_drawn_164 ?_
                refine w_iinc dX4_drawn_165 rfl (by decide) rfl ?_
                refine w_goto (tgt := 66) dX4_drawn_168 (by decide) ?_
                refine w_drop 9 ?_
                refine w_drop 10 ?_
                first
                | (exfalso; omega)
                | exact ih66 (_, _, _, _) ⟨by dsimp only; omega, by dsimp only; omega, DI_s hN a1 a3 es esr (by unfold dg; rw [if_pos (by omega), Int.add_zero]) _⟩ (by dsimp only; omega)
                | exact ih66 (_, _, _, _) ⟨by dsimp only; omega, by dsimp only; omega, DI_s hN a1 a3 es esr (by unfold dg; rw [if_neg (by omega)]; (repeat' split) <;> omega) _⟩ (by dsimp only; omega)
            · refine w_iinc dX4_drawn_140 rfl (by decide) rfl ?_
              refine w_goto (tgt := 155) dX4_drawn_143 (by decide) ?_
              refine w_aload_n dX4_drawn_155 rfl ?_
              refine gf_X4_39 rfl dX4_drawn_156 ?_
              refine w_iload dX4_drawn_159 rfl ?_
              refine w_cV1 kX0_passYear ml_X4_180 (cnO cn155) rfl (Nat.le_of_ble_eq_true rfl) (by decide) dX4_drawn_161 (c_X0_passYear cn155 d6 (by omega)) (kI (fun e161 m161 q161 => ?_))
              obtain ⟨rfl, rfl⟩ := q161
              rw [d4]
              refine w_pop_i dX4_drawn_164 ?_
              refine w_iinc dX4_drawn_165 rfl (by decide) rfl ?_
              refine w_goto (tgt := 66) dX4_drawn_168 (by decide) ?_
              refine w_drop 9 ?_
              refine w_drop 10 ?_
              first
              | (exfalso; omega)
              | exact ih66 (_, _, _, _) ⟨by dsimp only; omega, by dsimp only; omega, DI_s hN a1 a3 es esr (by unfold dg; rw [if_pos (by omega), Int.add_zero]) _⟩ (by dsimp only; omega)
              | exact ih66 (_, _, _, _) ⟨by dsimp only; omega, by dsimp only; omega, DI_s hN a1 a3 es esr (by unfold dg; rw [if_neg (by omega)]; (repeat' split) <;> omega) _⟩ (by dsimp only; omega)
    · refine w_aload_n dX4_drawn_20 rfl ?_
      refine w_bipush dX4_drawn_21 (by decide) ?_
      refine w_cV1 kX4_refuse ml_X4_51 ob_0 rfl (Nat.le_of_ble_eq_true rfl) (by decide) dX4_drawn_23 (c_refB) (kI (fun e23 m23 q23 => ?_))
      obtain ⟨rfl, rfl⟩ := q23
      refine w_pop_i dX4_drawn_26 ?_
      refine w_sipush dX4_drawn_27 (by decide) ?_
      exact w_iretP rfl dX4_drawn_30 (by exact Or.inl ⟨by omega, rfl, rfl⟩)
