set_option maxRecDepth 100000 in
set_option maxHeartbeats 4000000 in
theorem c_X4_type {g : gG} {l : Launch} {μ : gM} {v : Int} {n : Int}  (g1 : -2147483648 ≤ n ∧ n < 2147483648) (h0 : 0 ≤ μ 151 0 ∧ μ 151 0 ≤ 250) : CT g l YX4_type 1 [vR 0, vL v, vI n] μ (pI fun e μ2 => (¬ (1 ≤ n ∧ n ≤ 8) ∧ e = -2 ∧ μ2 = bad μ) ∨ ((1 ≤ n ∧ n ≤ 8) ∧ 250 < μ 151 0 + n ∧ e = -4 ∧ μ2 = ful μ) ∨ ((1 ≤ n ∧ n ≤ 8) ∧ μ 151 0 + n ≤ 250 ∧ e = μ 151 0 + n ∧ μ2 = tM μ 152 151 0 (μ 151 0) v n n)) := by
  refine CT.of (n := 1) (by decide) rfl ?_
  show WA g l YX4_type 1 _ 0 [some (vR 0), some (vL v), none, some (vI n), none] [] μ
  refine w_iload_n dX4_type_0 rfl ?_
  refine w_iconst dX4_type_1 ?_
  refine w_bipush dX4_type_2 (by decide) ?_
  refine w_cS3 kX4_within ml_X4_43 (Nat.le_of_ble_eq_true rfl) (by decide) dX4_type_4 (c_X4_within (by omega) (by omega) (by omega)) (kI (fun e4 m4 q4 => ?_))
  obtain ⟨q4, rfl⟩ := q4
  refine w_if_ne (tgt := 17) (by omega) dX4_type_7 (by decide) (fun h7 => ?_) (fun h7 => ?_)
  · refine w_aload_n dX4_type_17 rfl ?_
    refine gf_X4_25 rfl dX4_type_18 ?_
    refine gf_X4_91 rfl dX4_type_21 ?_
    refine w_iload_n dX4_type_24 rfl ?_
    refine w_iadd dX4_type_25 ?_
    refine w_sipush dX4_type_26 (by decide) ?_
    refine w_icmp_le (tgt := 39) (by omega) (by omega) dX4_type_29 (by decide) (fun h29 => ?_) (fun h29 => ?_)
    · refine w_iload_n dX4_type_39 rfl ?_
      refine w_iconst dX4_type_40 ?_
      refine w_isub dX4_type_41 ?_
      refine w_istore dX4_type_42 (by decide) rfl ?_
      refine w_mu (show tM μ 152 151 0 (μ 151 0) v n (n - 1 - (n - 1)) = μ by rw [show n - 1 - (n - 1) = 0 by omega]; exact tM_0 rfl) ?_
      refine w_loop (ι := Int) (fun k => -1 ≤ k ∧ k < n) (fun k => (k + 1).toNat) (fun k => [some (vR 0), some (vL v), none, some (vI n), some (vI k)]) (fun k => tM μ 152 151 0 (μ 151 0) v n (n - 1 - k)) ?_ (n - 1) ⟨by omega, by omega⟩
      intro i_ hinv44 ih44
      obtain ⟨k, rfl⟩ : ∃ z, z = i_ := ⟨_, rfl⟩
      try dsimp only at hinv44 ih44 ⊢
      obtain ⟨a1, a2⟩ := hinv44
      have eL : tM μ 152 151 0 (μ 151 0) v n (n - 1 - k) 151 0 = μ 151 0 + (n - 1 - k) := by unfold tM; rw [if_neg (by omega), if_pos ⟨rfl, rfl⟩]
      refine w_iload dX4_type_44 rfl ?_
      refine w_if_lt (tgt := 74) (by omega) dX4_type_46 (by decide) (fun h46 => ?_) (fun h46 => ?_)
      · refine w_aload_n dX4_type_74 rfl ?_
        refine gf_X4_25 rfl dX4_type_75 ?_
        refine gf_X4_91 rfl dX4_type_78 ?_
        exact w_iretP rfl dX4_type_81 (by rw [eL]; have e0 : k = -1 := (by omega); subst e0; refine Or.inr (Or.inr ⟨by omega, by omega, by omega, ?_⟩); congr 1; omega)
      · refine w_aload_n dX4_type_49 rfl ?_
        refine gf_X4_25 rfl dX4_type_50 ?_
        refine w_lload_n dX4_type_53 rfl ?_
        refine w_bipush dX4_type_54 (by decide) ?_
        refine w_iload dX4_type_56 rfl ?_
        refine w_imul dX4_type_58 ?_
        refine w_lushr dX4_type_59 ?_
        refine w_l2i dX4_type_60 ?_
        refine w_sipush dX4_type_61 (by decide) ?_
        refine w_iand dX4_type_64 ?_
        refine w_cV1 kX2_put ml_X4_94 ob_151 rfl (Nat.le_of_ble_eq_true rfl) (by decide) dX4_type_65 (c_X2_put (by omega)) (kU (fun m65 q65 => ?_))
        obtain q65 := q65
        obtain ⟨z1, rfl⟩ | ⟨z1, rfl⟩ := q65
        · exfalso; rw [eL] at z1; omega
        rw [eL]
        refine w_iinc dX4_type_68 rfl (by decide) rfl ?_
        refine w_goto (tgt := 44) dX4_type_71 (by decide) ?_
        refine w_mu (?_ : tM μ 152 151 0 (μ 151 0) v n (n - 1 - (k + -1)) = _) (ih44 (k + -1) ⟨by omega, by omega⟩ (by omega))
        rw [show n - 1 - (k + -1) = n - 1 - k + 1 by omega]
        exact (tM_s (by decide) (by omega) (by rw [bAnd_255, show n - 1 - (n - 1 - k) = k by omega])).symm
    · refine w_aload_n dX4_type_32 rfl ?_
      refine w_bipush dX4_type_33 (by decide) ?_
      refine w_cV1 kX4_refuse ml_X4_51 ob_0 rfl (Nat.le_of_ble_eq_true rfl) (by decide) dX4_type_35 (c_refF) (kI (fun e35 m35 q35 => ?_))
      obtain ⟨rfl, rfl⟩ := q35
      exact w_iretP rfl dX4_type_38 (by first | exact Or.inl (⟨by omega, rfl, rfl⟩) | exact Or.inr (Or.inl (⟨by omega, by omega, rfl, rfl⟩)) | (exfalso; omega))
  · refine w_aload_n dX4_type_10 rfl ?_
    refine w_bipush dX4_type_11 (by decide) ?_
    refine w_cV1 kX4_refuse ml_X4_51 ob_0 rfl (Nat.le_of_ble_eq_true rfl) (by decide) dX4_type_13 (c_refB) (kI (fun e13 m13 q13 => ?_))
    obtain ⟨rfl, rfl⟩ := q13
    exact w_iretP rfl dX4_type_16 (by first | exact Or.inl (⟨by omega, rfl, rfl⟩) | exact Or.inr (Or.inl (⟨by omega, by omega, rfl, rfl⟩)) | (exfalso; omega))
set_option maxRecDepth 100000 in
set_option maxHeartbeats 4000000 in
theorem c_X4_recount {g : gG} {l : Launch} {μ : gM} {s : Int} {m : Int}  (g1 : -2147483648 ≤ s ∧ s < 2147483648) (g2 : -2147483648 ≤ m ∧ m < 2147483648) (hSC : SC μ 3) : CT g l YX4_recount 4 [vR 0, vI s, vI m] μ (pI fun e μ2 => (¬ ((0 ≤ s ∧ s < μ 3 1) ∧ 1 ≤ m ∧ m ≤ 8 ∧ m ≤ fA (vw μ 3) (μ 3 0) s 0 + fA (vw μ 3) (μ 3 0) s 1) ∧ e = -2 ∧ μ2 = bad μ) ∨ (((0 ≤ s ∧ s < μ 3 1) ∧ 1 ≤ m ∧ m ≤ 8 ∧ m ≤ fA (vw μ 3) (μ 3 0) s 0 + fA (vw μ 3) (μ 3 0) s 1) ∧ fA (vw μ 3) (μ 3 0) s 0 = fA (vw μ 3) (μ 3 0) s 1 ∧ e = -3 ∧ μ2 = nop μ) ∨ (((0 ≤ s ∧ s < μ 3 1) ∧ 1 ≤ m ∧ m ≤ 8 ∧ m ≤ fA (vw μ 3) (μ 3 0) s 0 + fA (vw μ 3) (μ 3 0) s 1) ∧ fA (vw μ 3) (μ 3 0) s 0 ≠ fA (vw μ 3) (μ 3 0) s 1 ∧ e = 1 ∧ μ2 = frc μ (rS (max (fA (vw μ 3) (μ 3 0) s 0) (fA (vw μ 3) (μ 3 0) s 1)) (min (fA (vw μ 3) (μ 3 0) s 0) (fA (vw μ 3) (μ 3 0) s 1)) m) (chI (max (fA (vw μ 3) (μ 3 0) s 0) (fA (vw μ 3) (μ 3 0) s 1) + min (fA (vw μ 3) (μ 3 0) s 0) (fA (vw μ 3) (μ 3 0) s 1)) m))) := by
  have hI := hSC.1
  have hN := CI_roofs hI
  have hM := CI_storms hI
  have hV := CI.VI hI
  refine CT.of (n := 7) (by decide) rfl ?_
  show WA g l YX4_recount 4 _ 0 [some (vR 0), some (vI s), some (vI m), none, none, none, none, none, none, none] [] μ
  refine w_aload_n dX4_recount_0 rfl ?_
  refine w_iload_n dX4_recount_1 rfl ?_
  refine w_cV1 kX4_isStorm ml_X4_109 ob_0 rfl (Nat.le_of_ble_eq_true rfl) (by decide) dX4_recount_2 (c_X4_isStorm (by omega) hI) (kI (fun e2 m2 q2 => ?_))
  obtain ⟨q2, rfl⟩ := q2
  refine w_if_eq (tgt := 18) (by omega) dX4_recount_5 (by decide) (fun h5 => ?_) (fun h5 => ?_)
  · refine w_aload_n dX4_recount_18 rfl ?_
    refine w_bipush dX4_recount_19 (by decide) ?_
    refine w_cV1 kX4_refuse ml_X4_51 ob_0 rfl (Nat.le_of_ble_eq_true rfl) (by decide) dX4_recount_21 (c_refB) (kI (fun e21 m21 q21 => ?_))
    obtain ⟨rfl, rfl⟩ := q21
    exact w_iretP rfl dX4_recount_24 (by first | exact Or.inl (⟨by omega, rfl, rfl⟩) | exact Or.inr (Or.inl (⟨by omega, by omega, rfl, rfl⟩)) | (exfalso; omega))
  · refine w_iload_n dX4_recount_8 rfl ?_
    refine w_iconst dX4_recount_9 ?_
    refine w_bipush dX4_recount_10 (by decide) ?_
    refine w_cS3 kX4_within ml_X4_43 (Nat.le_of_ble_eq_true rfl) (by decide) dX4_recount_12 (c_X4_within (by omega) (by omega) (by omega)) (kI (fun e12 m12 q12 => ?_))
    obtain ⟨q12, rfl⟩ := q12
    refine w_if_ne (tgt := 25) (by omega) dX4_recount_15 (by decide) (fun h15 => ?_) (fun h15 => ?_)
    · have hA0 := fA_bd9 hSC s (w := 0) (by decide)
      have hA1 := fA_bd9 hSC s (w := 1) (by decide)
      refine w_aload_n dX4_recount_25 rfl ?_
      refine gf_X4_10 rfl dX4_recount_26 ?_
      refine gf_X4_55_1 rfl dX4_recount_29 ?_
      refine w_iload_n dX4_recount_32 rfl ?_
      refine w_iconst dX4_recount_33 ?_
      refine w_cV2 kX0_brokenInAll ml_X4_115 (cnO cn3) rfl (Nat.le_of_ble_eq_true rfl) (by decide) dX4_recount_34 (c_X0_brokenInAll cn3 hI (by omega) (by omega)) (kI (fun e34 m34 q34 => ?_))
      obtain ⟨rfl, rfl, b34⟩ := q34
      refine w_istore_n dX4_recount_37 (by decide) rfl ?_
      refine w_aload_n dX4_recount_38 rfl ?_
      refine gf_X4_10 rfl dX4_recount_39 ?_
      refine gf_X4_55_1 rfl dX4_recount_42 ?_
      refine w_iload_n dX4_recount_45 rfl ?_
      refine w_iconst dX4_recount_46 ?_
      refine w_cV2 kX0_brokenInAll ml_X4_115 (cnO cn3) rfl (Nat.le_of_ble_eq_true rfl) (by decide) dX4_recount_47 (c_X0_brokenInAll cn3 hI (by omega) (by omega)) (kI (fun e47 m47 q47 => ?_))
      obtain ⟨rfl, rfl, b47⟩ := q47
      refine w_istore dX4_recount_50 (by decide) rfl ?_
      refine w_iload_n dX4_recount_52 rfl ?_
      refine w_iload_n dX4_recount_53 rfl ?_
      refine w_iload dX4_recount_54 rfl ?_
      refine w_iadd dX4_recount_56 ?_
      refine w_icmp_le (tgt := 67) (by omega) (by omega) dX4_recount_57 (by decide) (fun h57 => ?_) (fun h57 => ?_)
      · refine w_iload_n dX4_recount_67 rfl ?_
        refine w_iload dX4_recount_68 rfl ?_
        refine w_icmp_ne (tgt := 80) (by omega) (by omega) dX4_recount_70 (by decide) (fun h70 => ?_) (fun h70 => ?_)
        · refine w_iload_n dX4_recount_80 rfl ?_
          refine w_iload dX4_recount_81 rfl ?_
          refine w_max (by omega) (by omega) (by decide) (Nat.le_of_ble_eq_true rfl) ml_X4_165 mt_max_s mt_i mt_max_c dX4_recount_83 ?_
          refine w_istore dX4_recount_86 (by decide) rfl ?_
          refine w_iload_n dX4_recount_88 rfl ?_
          refine w_iload dX4_recount_89 rfl ?_
          refine w_min (by omega) (by omega) (by decide) (Nat.le_of_ble_eq_true rfl) ml_X4_170 mt_min_s mt_i mt_min_c dX4_recount_91 ?_
          refine w_istore dX4_recount_94 (by decide) rfl ?_
          refine w_lconst 0 dX4_recount_96 (by decide) ?_
          refine w_lstore dX4_recount_97 (by decide) rfl ?_
          obtain ⟨M, eM⟩ : ∃ z, z = max (fA (vw μ 3) (μ 3 0) s 0) (fA (vw μ 3) (μ 3 0) s 1) := ⟨_, rfl⟩
          obtain ⟨F, eF⟩ : ∃ z, z = min (fA (vw μ 3) (μ 3 0) s 0) (fA (vw μ 3) (μ 3 0) s 1) := ⟨_, rfl⟩
          rw [← eM, ← eF]
          refine w_iload_n dX4_recount_99 rfl ?_
          refine w_iconst dX4_recount_100 ?_
          refine w_idiv (by omega) (by omega) dX4_recount_101 ?_
          refine w_iconst dX4_recount_102 ?_
          refine w_iadd dX4_recount_103 ?_
          refine w_istore dX4_recount_104 (by decide) rfl ?_
          refine w_drop 3 ?_
          refine w_drop 4 ?_
          refine w_loop (ι := Int × Int) (fun i => match i with | (y, k) => m / 2 + 1 ≤ k ∧ k ≤ m + 1 ∧ y = sI (fun i => chI M (m / 2 + 1 + i) * chI F (m - (m / 2 + 1 + i))) (k - (m / 2 + 1))) (fun i => match i with | (y, k) => (m + 1 - k).toNat) (fun i => match i with | (y, k) => [some (vR 0), some (vI s), some (vI m), none, none, some (vI M), some (vI F), some (vL y), none, some (vI k)]) (fun i => match i with | (y, k) => μ) ?_ (0, m / 2 + 1) ⟨by omega, by omega, by rw [Int.sub_self]; rfl⟩
          intro i_ hinv106 ih106
          obtain ⟨y, k⟩ := i_
          try dsimp only at hinv106 ih106 ⊢
          obtain ⟨a1, a2, a3⟩ := hinv106
          refine w_iload dX4_recount_106 rfl ?_
          refine w_iload_n dX4_recount_108 rfl ?_
          refine w_icmp_gt (tgt := 140) (by omega) (by omega) dX4_recount_109 (by decide) (fun h109 => ?_) (fun h109 => ?_)
          · have e0 : k = m + 1 := by omega
            subst e0
            have ey : y = rS M F m := by rw [a3, rS, show m + 1 - (m / 2 + 1) = m - m / 2 by omega]
            subst ey
            have hrb := rS_bd (a := M) (b := F) (m := m) (by omega) (by omega) (by omega)
            have hcb := chI_bd2 (n := M + F) (k := m) (by omega) (by omega)
            have hcp := chI_pos (n := M + F) (k := m) (by omega) (by omega)
            refine w_aload_n dX4_recount_140 rfl ?_
            refine gf_X4_32 rfl dX4_recount_141 ?_
            refine w_lload dX4_recount_144 rfl ?_
            refine w_iload dX4_recount_146 rfl ?_
            refine w_iload dX4_recount_148 rfl ?_
            refine w_iadd dX4_recount_150 ?_
            refine w_iload_n dX4_recount_151 rfl ?_
            refine w_cS2 kX1_choose ml_X4_173 (Nat.le_of_ble_eq_true rfl) (by decide) dX4_recount_152 (c_X1_choose (by omega) (by omega)) (kL (fun e152 m152 q152 => ?_))
            obtain ⟨rfl, rfl⟩ := q152
            refine w_cV2 kX1_become ml_X4_135 ob_154 rfl (Nat.le_of_ble_eq_true rfl) (by decide) dX4_recount_155 (c_X1_become (by omega) (by omega)) (kU (fun m155 q155 => ?_))
            obtain rfl := q155
            refine w_iconst dX4_recount_158 ?_
            exact w_iretP rfl dX4_recount_159 (by exact Or.inr (Or.inr ⟨by omega, by omega, rfl, rfl⟩))
          · skip
            refine w_lload dX4_recount_112 rfl ?_
            refine w_iload dX4_recount_114 rfl ?_
            refine w_iload dX4_recount_116 rfl ?_
            refine w_cS2 kX1_choose ml_X4_173 (Nat.le_of_ble_eq_true rfl) (by decide) dX4_recount_118 (c_X1_choose (by omega) (by omega)) (kL (fun e118 m118 q118 => ?_))
            obtain ⟨rfl, rfl⟩ := q118
            refine w_iload dX4_recount_121 rfl ?_
            refine w_iload_n dX4_recount_123 rfl ?_
            refine w_iload dX4_recount_124 rfl ?_
            refine w_isub dX4_recount_126 ?_
            refine w_cS2 kX1_choose ml_X4_173 (Nat.le_of_ble_eq_true rfl) (by decide) dX4_recount_127 (c_X1_choose (by omega) (by omega)) (kL (fun e127 m127 q127 => ?_))
            obtain ⟨rfl, rfl⟩ := q127
            refine w_lmul dX4_recount_130 ?_
            refine w_ladd dX4_recount_131 ?_
            refine w_lstore dX4_recount_132 (by decide) rfl ?_
            refine w_iinc dX4_recount_134 rfl (by decide) rfl ?_
            refine w_goto (tgt := 106) dX4_recount_137 (by decide) ?_
            exact ih106 (_, _) ⟨by omega, by omega, by
              dsimp only
              rw [show k + 1 - (m / 2 + 1) = k - (m / 2 + 1) + 1 by omega, sI_s _ (by omega), ← a3]
              try dsimp only
              rw [show m / 2 + 1 + (k - (m / 2 + 1)) = k by omega]⟩ (by omega)
        · refine w_aload_n dX4_recount_73 rfl ?_
          refine w_bipush dX4_recount_74 (by decide) ?_
          refine w_cV1 kX4_refuse ml_X4_51 ob_0 rfl (Nat.le_of_ble_eq_true rfl) (by decide) dX4_recount_76 (c_refN) (kI (fun e76 m76 q76 => ?_))
          obtain ⟨rfl, rfl⟩ := q76
          exact w_iretP rfl dX4_recount_79 (by first | exact Or.inl (⟨by omega, rfl, rfl⟩) | exact Or.inr (Or.inl (⟨by omega, by omega, rfl, rfl⟩)) | (exfalso; omega))
      · refine w_aload_n dX4_recount_60 rfl ?_
        refine w_bipush dX4_recount_61 (by decide) ?_
        refine w_cV1 kX4_refuse ml_X4_51 ob_0 rfl (Nat.le_of_ble_eq_true rfl) (by decide) dX4_recount_63 (c_refB) (kI (fun e63 m63 q63 => ?_))
        obtain ⟨rfl, rfl⟩ := q63
        exact w_iretP rfl dX4_recount_66 (by first | exact Or.inl (⟨by omega, rfl, rfl⟩) | exact Or.inr (Or.inl (⟨by omega, by omega, rfl, rfl⟩)) | (exfalso; omega))
    · refine w_aload_n dX4_recount_18 rfl ?_
      refine w_bipush dX4_recount_19 (by decide) ?_
      refine w_cV1 kX4_refuse ml_X4_51 ob_0 rfl (Nat.le_of_ble_eq_true rfl) (by decide) dX4_recount_21 (c_refB) (kI (fun e21 m21 q21 => ?_))
      obtain ⟨rfl, rfl⟩ := q21
      exact w_iretP rfl dX4_recount_24 (by first | exact Or.inl (⟨by omega, rfl, rfl⟩) | exact Or.inr (Or.inl (⟨by omega, by omega, rfl, rfl⟩)) | (exfalso; omega))
set_option maxRecDepth 100000 in
set_option maxHeartbeats 4000000 in
theorem c_X4_year {g : gG} {l : Launch} {μ : gM} {s : Int}  (g1 : -2147483648 ≤ s ∧ s < 2147483648) (hA : AI μ) (hp1 : PS μ 1) (hu1 : 0 ≤ μ 1 1 ∧ μ 1 1 ≤ 3) : CT g l YX4_year 4 [vR 0, vI s] μ (pI fun e μ2 => (¬ (s = -1 ∨ (0 ≤ s ∧ s < μ 3 1)) ∧ e = -2 ∧ μ2 = bad μ) ∨ ((s = -1 ∨ (0 ≤ s ∧ s < μ 3 1)) ∧ e = fY (vw μ 3) (μ 3 0) s ∧ (∃ μ1 μ3, ((μ1 = μ ∧ μ 1 1 < 3) ∨ (μ1 = mFO μ 1 ∧ μ 1 1 = 3)) ∧ BC μ1 μ3 (μ1 2 (μ1 1 1)).toNat 3 ∧ μ2 = wr (yr (wr μ3 1 1 (μ1 1 1 + 1)) 3 s (μ 3 0)) 3 2 (μ 3 2 + 1)))) := by
  have hI := hA 3 cn3
  have hN := CI_roofs hI
  have hM := CI_storms hI
  have hV := CI.VI hI
  refine CT.of (n := 0) (by decide) rfl ?_
  show WA g l YX4_year 4 _ 0 [some (vR 0), some (vI s)] [] μ
  refine w_iload_n dX4_year_0 rfl ?_
  refine w_iconst dX4_year_1 ?_
  refine w_icmp_eq (tgt := 20) (by omega) (by omega) dX4_year_2 (by decide) (fun h2 => ?_) (fun h2 => ?_)
  · refine w_aload_n dX4_year_20 rfl ?_
    refine gf_X4_10 rfl dX4_year_21 ?_
    refine w_cV0 kX3_remember ml_X4_177 (snO sn1) rfl (Nat.le_of_ble_eq_true rfl) (by decide) dX4_year_24 (c_X3_remember sn1 hA hp1 hu1) (kU (fun m24 q24 => ?_))
    obtain ⟨n24, m324, q24, r24, rfl⟩ := q24
    have key : ∀ i, i < 12 → wr m324 1 1 (n24 1 1 + 1) (3 + i) = μ (3 + i) := by
      intro i hi
      rw [wr_o (by omega)]
      have hp9 : PS n24 1 := by rcases q24 with ⟨rfl, -⟩ | ⟨rfl, -⟩; exact hp1; exact mFO_PS hp1
      have hu9 : 0 ≤ n24 1 1 ∧ n24 1 1 < 3 := by rcases q24 with ⟨rfl, z⟩ | ⟨rfl, -⟩; omega; rw [mFO_u.1]; decide
      have hr9 := psR hp9 hu9
      rw [r24.fr (by omega)]
      rcases q24 with ⟨rfl, -⟩ | ⟨rfl, -⟩; rfl; exact mFO_o (by omega) (by omega)
    have hI9 : CI (wr m324 1 1 (n24 1 1 + 1)) 3 := CI_fr key hI
    have k0 : wr m324 1 1 (n24 1 1 + 1) 3 = μ 3 := key 0 (by decide)
    refine w_aload_n dX4_year_27 rfl ?_
    refine gf_X4_10 rfl dX4_year_28 ?_
    refine gf_X4_55_1 rfl dX4_year_31 ?_
    refine w_iload_n dX4_year_34 rfl ?_
    refine w_cV1 kX0_passYear ml_X4_180 (cnO cn3) rfl (Nat.le_of_ble_eq_true rfl) (by decide) dX4_year_35 (c_X0_passYear cn3 hI9 (by omega)) (kI (fun e35 m35 q35 => ?_))
    obtain ⟨rfl, rfl⟩ := q35
    rw [k0]
    exact w_iretP rfl dX4_year_38 (by exact Or.inr ⟨by omega, by exact VA_fY (m := μ 3 1) (vw_fr key) hN.2 (by omega), n24, m324, q24, r24, rfl⟩)
  · refine w_aload_n dX4_year_5 rfl ?_
    refine w_iload_n dX4_year_6 rfl ?_
    refine w_cV1 kX4_isStorm ml_X4_109 ob_0 rfl (Nat.le_of_ble_eq_true rfl) (by decide) dX4_year_7 (c_X4_isStorm (by omega) hI) (kI (fun e7 m7 q7 => ?_))
    obtain ⟨q7, rfl⟩ := q7
    refine w_if_ne (tgt := 20) (by omega) dX4_year_10 (by decide) (fun h10 => ?_) (fun h10 => ?_)
    · refine w_aload_n dX4_year_20 rfl ?_
      refine gf_X4_10 rfl dX4_year_21 ?_
      refine w_cV0 kX3_remember ml_X4_177 (snO sn1) rfl (Nat.le_of_ble_eq_true rfl) (by decide) dX4_year_24 (c_X3_remember sn1 hA hp1 hu1) (kU (fun m24 q24 => ?_))
      obtain ⟨n24, m324, q24, r24, rfl⟩ := q24
      have key : ∀ i, i < 12 → wr m324 1 1 (n24 1 1 + 1) (3 + i) = μ (3 + i) := by
        intro i hi
        rw [wr_o (by omega)]
        have hp9 : PS n24 1 := by rcases q24 with ⟨rfl, -⟩ | ⟨rfl, -⟩; exact hp1; exact mFO_PS hp1
        have hu9 : 0 ≤ n24 1 1 ∧ n24 1 1 < 3 := by rcases q24 with ⟨rfl, z⟩ | ⟨rfl, -⟩; omega; rw [mFO_u.1]; decide
        have hr9 := psR hp9 hu9
        rw [r24.fr (by omega)]
        rcases q24 with ⟨rfl, -⟩ | ⟨rfl, -⟩; rfl; exact mFO_o (by omega) (by omega)
      have hI9 : CI (wr m324 1 1 (n24 1 1 + 1)) 3 := CI_fr key hI
      have k0 : wr m324 1 1 (n24 1 1 + 1) 3 = μ 3 := key 0 (by decide)
      refine w_aload_n dX4_year_27 rfl ?_
      refine gf_X4_10 rfl dX4_year_28 ?_
      refine gf_X4_55_1 rfl dX4_year_31 ?_
      refine w_iload_n dX4_year_34 rfl ?_
      refine w_cV1 kX0_passYear ml_X4_180 (cnO cn3) rfl (Nat.le_of_ble_eq_true rfl) (by decide) dX4_year_35 (c_X0_passYear cn3 hI9 (by omega)) (kI (fun e35 m35 q35 => ?_))
      obtain ⟨rfl, rfl⟩ := q35
      rw [k0]
      exact w_iretP rfl dX4_year_38 (by exact Or.inr ⟨by omega, by exact VA_fY (m := μ 3 1) (vw_fr key) hN.2 (by omega), n24, m324, q24, r24, rfl⟩)
    · refine w_aload_n dX4_year_13 rfl ?_
      refine w_bipush dX4_year_14 (by decide) ?_
      refine w_cV1 kX4_refuse ml_X4_51 ob_0 rfl (Nat.le_of_ble_eq_true rfl) (by decide) dX4_year_16 (c_refB) (kI (fun e16 m16 q16 => ?_))
      obtain ⟨rfl, rfl⟩ := q16
      exact w_iretP rfl dX4_year_19 (by first | exact Or.inl (⟨by omega, rfl, rfl⟩) | (exfalso; omega))
set_option maxRecDepth 100000 in
set_option maxHeartbeats 4000000 in
theorem c_X4_undo {g : gG} {l : Launch} {μ : gM}   (hA : AI μ) (hp1 : PS μ 1) (hu1 : 0 ≤ μ 1 1 ∧ μ 1 1 ≤ 3) : CT g l YX4_undo 3 [vR 0] μ (pI fun e μ2 => (μ 1 1 = 0 ∧ e = -3 ∧ μ2 = nop μ) ∨ (0 < μ 1 1 ∧ e = 1 ∧ BC (wr μ 1 1 (μ 1 1 - 1)) μ2 3 (μ 2 (μ 1 1 - 1)).toNat)) := by
  refine CT.of (n := 0) (by decide) rfl ?_
  show WA g l YX4_undo 3 _ 0 [some (vR 0)] [] μ
  refine w_aload_n dX4_undo_0 rfl ?_
  refine gf_X4_10 rfl dX4_undo_1 ?_
  refine w_cV0 kX3_goBack ml_X4_183 (snO sn1) rfl (Nat.le_of_ble_eq_true rfl) (by decide) dX4_undo_4 (c_X3_goBack sn1 hA hp1 hu1) (kI (fun e4 m4 q4 => ?_))
  obtain q4 := q4
  have q4r : e4 = 0 ∨ e4 = 1 := by rcases q4 with ⟨z, -⟩ | ⟨z, -⟩ <;> omega
  refine w_if_eq (tgt := 14) (by omega) dX4_undo_7 (by decide) (fun h7 => ?_) (fun h7 => ?_)
  · obtain ⟨rfl, z1, rfl⟩ | ⟨z1, z2, z3⟩ := q4
    rotate_left
    · exfalso; omega
    refine w_aload_n dX4_undo_14 rfl ?_
    refine w_bipush dX4_undo_15 (by decide) ?_
    refine w_cV1 kX4_refuse ml_X4_51 ob_0 rfl (Nat.le_of_ble_eq_true rfl) (by decide) dX4_undo_17 (c_refN) (kI (fun e17 m17 q17 => ?_))
    obtain ⟨rfl, rfl⟩ := q17
    exact w_iretP rfl dX4_undo_20 (by first | exact Or.inl ⟨z1, rfl, rfl⟩ | (rcases q4 with ⟨z1, z2, z3⟩ | ⟨z1, z2, z3⟩; exfalso; omega; exact Or.inr ⟨z2, rfl, z3⟩))
  · refine w_iconst dX4_undo_10 ?_
    refine w_goto (tgt := 20) dX4_undo_11 (by decide) ?_
    exact w_iretP rfl dX4_undo_20 (by first | exact Or.inl ⟨z1, rfl, rfl⟩ | (rcases q4 with ⟨z1, z2, z3⟩ | ⟨z1, z2, z3⟩; exfalso; omega; exact Or.inr ⟨z2, rfl, z3⟩))
set_option maxRecDepth 100000 in
set_option maxHeartbeats 4000000 in
theorem c_X4_image {g : gG} {l : Launch} {μ : gM} {i : Int}  (g1 : -2147483648 ≤ i ∧ i < 2147483648) (hA : AI μ) (hp1 : PS μ 1) (hp51 : PS μ 51) (hp101 : PS μ 101) (hu1 : 0 ≤ μ 1 1 ∧ μ 1 1 ≤ 3) (hu51 : 0 ≤ μ 51 1 ∧ μ 51 1 ≤ 3) (hu101 : 0 ≤ μ 101 1 ∧ μ 101 1 ≤ 3) : CT g l YX4_image 3 [vR 0, vI i] μ (pI fun e μ2 => (¬ (0 ≤ i ∧ i ≤ 1) ∧ e = -2 ∧ μ2 = bad μ) ∨ (i = 0 ∧ e = 1 ∧ ∃ m, SBC μ m 51 1 ∧ μ2 = wr m 51 2 1) ∨ (i = 1 ∧ e = 1 ∧ ∃ m, SBC μ m 101 1 ∧ μ2 = wr m 101 2 1)) := by
  refine CT.of (n := 1) (by decide) rfl ?_
  show WA g l YX4_image 3 _ 0 [some (vR 0), some (vI i), none] [] μ
  refine w_iload_n dX4_image_0 rfl ?_
  refine w_iconst dX4_image_1 ?_
  refine w_iconst dX4_image_2 ?_
  refine w_cS3 kX4_within ml_X4_43 (Nat.le_of_ble_eq_true rfl) (by decide) dX4_image_3 (c_X4_within (by omega) (by omega) (by omega)) (kI (fun e3 m3 q3 => ?_))
  obtain ⟨q3, rfl⟩ := q3
  refine w_if_ne (tgt := 16) (by omega) dX4_image_6 (by decide) (fun h6 => ?_) (fun h6 => ?_)
  · refine w_iload_n dX4_image_16 rfl ?_
    refine w_if_ne (tgt := 27) (by omega) dX4_image_17 (by decide) (fun h17 => ?_) (fun h17 => ?_)
    · refine w_aload_n dX4_image_27 rfl ?_
      refine gf_X4_19 rfl dX4_image_28 ?_
      refine w_astore_n dX4_image_31 (by decide) rfl ?_
      refine w_aload_n dX4_image_32 rfl ?_
      refine w_aload_n dX4_image_33 rfl ?_
      refine gf_X4_10 rfl dX4_image_34 ?_
      refine w_cV1 kX3_become ml_X4_209 (snO sn101) rfl (Nat.le_of_ble_eq_true rfl) (by decide) dX4_image_37 (c_X3_become sn101 sn1 hA hp101 hp1 (by decide) hu1) (kU (fun m37 q37 => ?_))
      obtain q37 := q37
      refine w_aload_n dX4_image_40 rfl ?_
      refine w_iconst dX4_image_41 ?_
      refine pf_X4_212 rfl (snO sn101) (by omega) dX4_image_42 ?_
      refine w_iconst dX4_image_45 ?_
      exact w_iretP rfl dX4_image_46 (by first | exact Or.inr (Or.inl ⟨by omega, rfl, m37, q37, rfl⟩) | exact Or.inr (Or.inr ⟨by omega, rfl, m37, q37, rfl⟩))
    · refine w_aload_n dX4_image_20 rfl ?_
      refine gf_X4_16 rfl dX4_image_21 ?_
      refine w_goto (tgt := 31) dX4_image_24 (by decide) ?_
      refine w_astore_n dX4_image_31 (by decide) rfl ?_
      refine w_aload_n dX4_image_32 rfl ?_
      refine w_aload_n dX4_image_33 rfl ?_
      refine gf_X4_10 rfl dX4_image_34 ?_
      refine w_cV1 kX3_become ml_X4_209 (snO sn51) rfl (Nat.le_of_ble_eq_true rfl) (by decide) dX4_image_37 (c_X3_become sn51 sn1 hA hp51 hp1 (by decide) hu1) (kU (fun m37 q37 => ?_))
      obtain q37 := q37
      refine w_aload_n dX4_image_40 rfl ?_
      refine w_iconst dX4_image_41 ?_
      refine pf_X4_212 rfl (snO sn51) (by omega) dX4_image_42 ?_
      refine w_iconst dX4_image_45 ?_
      exact w_iretP rfl dX4_image_46 (by first | exact Or.inr (Or.inl ⟨by omega, rfl, m37, q37, rfl⟩) | exact Or.inr (Or.inr ⟨by omega, rfl, m37, q37, rfl⟩))
  · refine w_aload_n dX4_image_9 rfl ?_
    refine w_bipush dX4_image_10 (by decide) ?_
    refine w_cV1 kX4_refuse ml_X4_51 ob_0 rfl (Nat.le_of_ble_eq_true rfl) (by decide) dX4_image_12 (c_refB) (kI (fun e12 m12 q12 => ?_))
    obtain ⟨rfl, rfl⟩ := q12
    exact w_iretP rfl dX4_image_15 (by first | exact Or.inl (⟨by omega, rfl, rfl⟩) | (exfalso; omega))
set_option maxRecDepth 100000 in
set_option maxHeartbeats 4000000 in
theorem c_X4_from {g : gG} {l : Launch} {μ : gM} {i : Int}  (g1 : -2147483648 ≤ i ∧ i < 2147483648) (hA : AI μ) (hp1 : PS μ 1) (hp51 : PS μ 51) (hp101 : PS μ 101) (hu1 : 0 ≤ μ 1 1 ∧ μ 1 1 ≤ 3) (hu51 : 0 ≤ μ 51 1 ∧ μ 51 1 ≤ 3) (hu101 : 0 ≤ μ 101 1 ∧ μ 101 1 ≤ 3) (hk51 : μ 51 2 = 0 ∨ μ 51 2 = 1) (hk101 : μ 101 2 = 0 ∨ μ 101 2 = 1) : CT g l YX4_from 3 [vR 0, vI i] μ (pI fun e μ2 => (¬ (0 ≤ i ∧ i ≤ 1) ∧ e = -2 ∧ μ2 = bad μ) ∨ (i = 0 ∧ μ 51 2 = 0 ∧ e = -3 ∧ μ2 = nop μ) ∨ (i = 0 ∧ μ 51 2 = 1 ∧ e = 1 ∧ SBC μ μ2 1 51) ∨ (i = 1 ∧ μ 101 2 = 0 ∧ e = -3 ∧ μ2 = nop μ) ∨ (i = 1 ∧ μ 101 2 = 1 ∧ e = 1 ∧ SBC μ μ2 1 101)) := by
  refine CT.of (n := 1) (by decide) rfl ?_
  show WA g l YX4_from 3 _ 0 [some (vR 0), some (vI i), none] [] μ
  refine w_iload_n dX4_from_0 rfl ?_
  refine w_iconst dX4_from_1 ?_
  refine w_iconst dX4_from_2 ?_
  refine w_cS3 kX4_within ml_X4_43 (Nat.le_of_ble_eq_true rfl) (by decide) dX4_from_3 (c_X4_within (by omega) (by omega) (by omega)) (kI (fun e3 m3 q3 => ?_))
  obtain ⟨q3, rfl⟩ := q3
  refine w_if_ne (tgt := 16) (by omega) dX4_from_6 (by decide) (fun h6 => ?_) (fun h6 => ?_)
  · refine w_iload_n dX4_from_16 rfl ?_
    refine w_if_ne (tgt := 27) (by omega) dX4_from_17 (by decide) (fun h17 => ?_) (fun h17 => ?_)
    · refine w_aload_n dX4_from_27 rfl ?_
      refine gf_X4_19 rfl dX4_from_28 ?_
      refine w_astore_n dX4_from_31 (by decide) rfl ?_
      refine w_aload_n dX4_from_32 rfl ?_
      refine gf_X4_212 rfl (snO sn101) dX4_from_33 ?_
      refine w_if_ne (tgt := 46) (by omega) dX4_from_36 (by decide) (fun h36 => ?_) (fun h36 => ?_)
      · refine w_aload_n dX4_from_46 rfl ?_
        refine gf_X4_10 rfl dX4_from_47 ?_
        refine w_aload_n dX4_from_50 rfl ?_
        refine w_cV1 kX3_become ml_X4_209 (snO sn1) rfl (Nat.le_of_ble_eq_true rfl) (by decide) dX4_from_51 (c_X3_become sn1 sn101 hA hp1 hp101 (by decide) hu101) (kU (fun m51 q51 => ?_))
        obtain q51 := q51
        refine w_iconst dX4_from_54 ?_
        exact w_iretP rfl dX4_from_55 (by first | exact Or.inl (⟨by omega, rfl, rfl⟩) | exact Or.inr (Or.inl (⟨by omega, by omega, rfl, rfl⟩)) | exact Or.inr (Or.inr (Or.inl (⟨by omega, by omega, rfl, q51⟩))) | exact Or.inr (Or.inr (Or.inr (Or.inl (⟨by omega, by omega, rfl, rfl⟩)))) | exact Or.inr (Or.inr (Or.inr (Or.inr (⟨by omega, by omega, rfl, q51⟩)))) | (exfalso; omega))
      · refine w_aload_n dX4_from_39 rfl ?_
        refine w_bipush dX4_from_40 (by decide) ?_
        refine w_cV1 kX4_refuse ml_X4_51 ob_0 rfl (Nat.le_of_ble_eq_true rfl) (by decide) dX4_from_42 (c_refN) (kI (fun e42 m42 q42 => ?_))
        obtain ⟨rfl, rfl⟩ := q42
        exact w_iretP rfl dX4_from_45 (by first | exact Or.inl (⟨by omega, rfl, rfl⟩) | exact Or.inr (Or.inl (⟨by omega, by omega, rfl, rfl⟩)) | exact Or.inr (Or.inr (Or.inl (⟨by omega, by omega, rfl, q51⟩))) | exact Or.inr (Or.inr (Or.inr (Or.inl (⟨by omega, by omega, rfl, rfl⟩)))) | exact Or.inr (Or.inr (Or.inr (Or.inr (⟨by omega, by omega, rfl, q51⟩)))) | (exfalso; omega))
    · refine w_aload_n dX4_from_20 rfl ?_
      refine gf_X4_16 rfl dX4_from_21 ?_
      refine w_goto (tgt := 31) dX4_from_24 (by decide) ?_
      refine w_astore_n dX4_from_31 (by decide) rfl ?_
      refine w_aload_n dX4_from_32 rfl ?_
      refine gf_X4_212 rfl (snO sn51) dX4_from_33 ?_
      refine w_if_ne (tgt := 46) (by omega) dX4_from_36 (by decide) (fun h36 => ?_) (fun h36 => ?_)
      · refine w_aload_n dX4_from_46 rfl ?_
        refine gf_X4_10 rfl dX4_from_47 ?_
        refine w_aload_n dX4_from_50 rfl ?_
        refine w_cV1 kX3_become ml_X4_209 (snO sn1) rfl (Nat.le_of_ble_eq_true rfl) (by decide) dX4_from_51 (c_X3_become sn1 sn51 hA hp1 hp51 (by decide) hu51) (kU (fun m51 q51 => ?_))
        obtain q51 := q51
        refine w_iconst dX4_from_54 ?_
        exact w_iretP rfl dX4_from_55 (by first | exact Or.inl (⟨by omega, rfl, rfl⟩) | exact Or.inr (Or.inl (⟨by omega, by omega, rfl, rfl⟩)) | exact Or.inr (Or.inr (Or.inl (⟨by omega, by omega, rfl, q51⟩))) | exact Or.inr (Or.inr (Or.inr (Or.inl (⟨by omega, by omega, rfl, rfl⟩)))) | exact Or.inr (Or.inr (Or.inr (Or.inr (⟨by omega, by omega, rfl, q51⟩)))) | (exfalso; omega))
      · refine w_aload_n dX4_from_39 rfl ?_
        refine w_bipush dX4_from_40 (by decide) ?_
        refine w_cV1 kX4_refuse ml_X4_51 ob_0 rfl (Nat.le_of_ble_eq_true rfl) (by decide) dX4_from_42 (c_refN) (kI (fun e42 m42 q42 => ?_))
        obtain ⟨rfl, rfl⟩ := q42
        exact w_iretP rfl dX4_from_45 (by first | exact Or.inl (⟨by omega, rfl, rfl⟩) | exact Or.inr (Or.inl (⟨by omega, by omega, rfl, rfl⟩)) | exact Or.inr (Or.inr (Or.inl (⟨by omega, by omega, rfl, q51⟩))) | exact Or.inr (Or.inr (Or.inr (Or.inl (⟨by omega, by omega, rfl, rfl⟩)))) | exact Or.inr (Or.inr (Or.inr (Or.inr (⟨by omega, by omega, rfl, q51⟩)))) | (exfalso; omega))
  · refine w_aload_n dX4_from_9 rfl ?_
    refine w_bipush dX4_from_10 (by decide) ?_
    refine w_cV1 kX4_refuse ml_X4_51 ob_0 rfl (Nat.le_of_ble_eq_true rfl) (by decide) dX4_from_12 (c_refB) (kI (fun e12 m12 q12 => ?_))
    obtain ⟨rfl, rfl⟩ := q12
    exact w_iretP rfl dX4_from_15 (by first | exact Or.inl (⟨by omega, rfl, rfl⟩) | exact Or.inr (Or.inl (⟨by omega, by omega, rfl, rfl⟩)) | exact Or.inr (Or.inr (Or.inl (⟨by omega, by omega, rfl, q51⟩))) | exact Or.inr (Or.inr (Or.inr (Or.inl (⟨by omega, by omega, rfl, rfl⟩)))) | exact Or.inr (Or.inr (Or.inr (Or.inr (⟨by omega, by omega, rfl, q51⟩)))) | (exfalso; omega))
