set_option maxRecDepth 100000 in
set_option maxHeartbeats 4000000 in
theorem c_X0_empty {g : gG} {l : Launch} {μ : gM} {c : Nat} (hc : cn c)   : CT g l YX0_empty 0 [vR c] μ (pV fun μ2 => μ2 = mz (wr (wr (wr μ c 0 0) c 1 0) c 2 0) (c + 11) 7) := by
  refine CT.of (n := 1) (by decide) rfl ?_
  show WA g l YX0_empty 0 _ 0 [some (vR c), none] [] μ
  refine w_aload_n dX0_empty_0 rfl ?_
  refine w_iconst dX0_empty_1 ?_
  refine pf_X0_45 rfl (cnO hc) dX0_empty_2 ?_
  refine w_aload_n dX0_empty_5 rfl ?_
  refine w_iconst dX0_empty_6 ?_
  refine pf_X0_49 rfl (cnO hc) dX0_empty_7 ?_
  refine w_aload_n dX0_empty_10 rfl ?_
  refine w_iconst dX0_empty_11 ?_
  refine pf_X0_52 rfl (cnO hc) dX0_empty_12 ?_
  refine w_iconst dX0_empty_15 ?_
  refine w_istore_n dX0_empty_16 (by decide) rfl ?_
  refine w_mu (mz_0 (wr (wr (wr μ c 0 0) c 1 0) c 2 0) (c + 11)) ?_
  refine w_loop (ι := Int) (fun k => 0 ≤ k ∧ k ≤ 7) (fun k => (7 - k).toNat) (fun k => [some (vR c), some (vI k)]) (fun k => mz (wr (wr (wr μ c 0 0) c 1 0) c 2 0) (c + 11) k) ?_ 0 (by omega)
  intro i_ hinv17 ih17
  obtain ⟨k, rfl⟩ : ∃ z, z = i_ := ⟨_, rfl⟩
  try dsimp only at hinv17 ih17 ⊢
  obtain ⟨h1, h2⟩ := hinv17
  refine w_iload_n dX0_empty_17 rfl ?_
  refine w_bipush dX0_empty_18 (by decide) ?_
  refine w_icmp_ge (tgt := 36) (by omega) (by omega) dX0_empty_20 (by decide) (fun h20 => ?_) (fun h20 => ?_)
  · exact w_vretP rfl dX0_empty_36 (by have e0 : k = 7 := (by omega); rw [e0])
  · refine w_aload_n dX0_empty_23 rfl ?_
    refine gf_X0_42 rfl (cnO hc) dX0_empty_24 ?_
    refine w_iload_n dX0_empty_27 rfl ?_
    refine w_iconst dX0_empty_28 ?_
    refine w_iast (cA_guns hc) (by omega) dX0_empty_29 ?_
    refine w_iinc dX0_empty_30 rfl (by decide) rfl ?_
    refine w_goto (tgt := 17) dX0_empty_33 (by decide) ?_
    rw [mz_s h1]
    exact ih17 _ (by omega) (by omega)
set_option maxRecDepth 100000 in
set_option maxHeartbeats 4000000 in
theorem c_X0_become {g : gG} {l : Launch} {μ : gM} {c : Nat} (hc : cn c) {o : Nat} (ho : cn o)  (hI : CI μ c) (hO : CI μ o) (hd : c + 12 ≤ o ∨ o + 12 ≤ c) : CT g l YX0_become 1 [vR c, vR o] μ (pV fun μ2 => BC μ μ2 c o) := by
  refine CT.of (n := 0) (by decide) rfl ?_
  show WA g l YX0_become 1 _ 0 [some (vR c), some (vR o)] [] μ
  refine w_aload_n dX0_become_0 rfl ?_
  refine w_aload_n dX0_become_1 rfl ?_
  refine gf_X0_45 rfl (cnO ho) dX0_become_2 ?_
  refine pf_X0_45 rfl (cnO hc) dX0_become_5 ?_
  refine w_aload_n dX0_become_8 rfl ?_
  refine w_aload_n dX0_become_9 rfl ?_
  refine gf_X0_49 rfl (cnO ho) dX0_become_10 ?_
  refine pf_X0_49 rfl (cnO hc) dX0_become_13 ?_
  refine w_aload_n dX0_become_16 rfl ?_
  refine w_aload_n dX0_become_17 rfl ?_
  refine gf_X0_52 rfl (cnO ho) dX0_become_18 ?_
  refine pf_X0_52 rfl (cnO hc) dX0_become_21 ?_
  refine w_aload_n dX0_become_24 rfl ?_
  refine gf_X0_9 rfl (cnO ho) dX0_become_25 ?_
  refine w_iconst dX0_become_28 ?_
  refine w_aload_n dX0_become_29 rfl ?_
  refine gf_X0_9 rfl (cnO hc) dX0_become_30 ?_
  refine w_iconst dX0_become_33 ?_
  refine w_bipush dX0_become_34 (by decide) ?_
  refine w_copy (cA_kind ho) (cA_kind hc) rfl (by decide) (Nat.le_of_ble_eq_true rfl) ml_X0_55 ac_n ac_s ac_i dX0_become_36 ?_
  refine w_aload_n dX0_become_39 rfl ?_
  refine gf_X0_15 rfl (cnO ho) dX0_become_40 ?_
  refine w_iconst dX0_become_43 ?_
  refine w_aload_n dX0_become_44 rfl ?_
  refine gf_X0_15 rfl (cnO hc) dX0_become_45 ?_
  refine w_iconst dX0_become_48 ?_
  refine w_bipush dX0_become_49 (by decide) ?_
  refine w_copy (cA_age ho) (cA_age hc) rfl (by decide) (Nat.le_of_ble_eq_true rfl) ml_X0_55 ac_n ac_s ac_i dX0_become_51 ?_
  refine w_aload_n dX0_become_54 rfl ?_
  refine gf_X0_18 rfl (cnO ho) dX0_become_55 ?_
  refine w_iconst dX0_become_58 ?_
  refine w_aload_n dX0_become_59 rfl ?_
  refine gf_X0_18 rfl (cnO hc) dX0_become_60 ?_
  refine w_iconst dX0_become_63 ?_
  refine w_bipush dX0_become_64 (by decide) ?_
  refine w_copy (cA_cover ho) (cA_cover hc) rfl (by decide) (Nat.le_of_ble_eq_true rfl) ml_X0_55 ac_n ac_s ac_i dX0_become_66 ?_
  refine w_aload_n dX0_become_69 rfl ?_
  refine gf_X0_21 rfl (cnO ho) dX0_become_70 ?_
  refine w_iconst dX0_become_73 ?_
  refine w_aload_n dX0_become_74 rfl ?_
  refine gf_X0_21 rfl (cnO hc) dX0_become_75 ?_
  refine w_iconst dX0_become_78 ?_
  refine w_bipush dX0_become_79 (by decide) ?_
  refine w_copy (cA_blue ho) (cA_blue hc) rfl (by decide) (Nat.le_of_ble_eq_true rfl) ml_X0_55 ac_n ac_s ac_i dX0_become_81 ?_
  refine w_aload_n dX0_become_84 rfl ?_
  refine gf_X0_24 rfl (cnO ho) dX0_become_85 ?_
  refine w_iconst dX0_become_88 ?_
  refine w_aload_n dX0_become_89 rfl ?_
  refine gf_X0_24 rfl (cnO hc) dX0_become_90 ?_
  refine w_iconst dX0_become_93 ?_
  refine w_bipush dX0_become_94 (by decide) ?_
  refine w_copy (cA_brown ho) (cA_brown hc) rfl (by decide) (Nat.le_of_ble_eq_true rfl) ml_X0_55 ac_n ac_s ac_i dX0_become_96 ?_
  refine w_aload_n dX0_become_99 rfl ?_
  refine gf_X0_27 rfl (cnO ho) dX0_become_100 ?_
  refine w_iconst dX0_become_103 ?_
  refine w_aload_n dX0_become_104 rfl ?_
  refine gf_X0_27 rfl (cnO hc) dX0_become_105 ?_
  refine w_iconst dX0_become_108 ?_
  refine w_bipush dX0_become_109 (by decide) ?_
  refine w_copy (cA_first ho) (cA_first hc) rfl (by decide) (Nat.le_of_ble_eq_true rfl) ml_X0_55 ac_n ac_s ac_i dX0_become_111 ?_
  refine w_aload_n dX0_become_114 rfl ?_
  refine gf_X0_30 rfl (cnO ho) dX0_become_115 ?_
  refine w_iconst dX0_become_118 ?_
  refine w_aload_n dX0_become_119 rfl ?_
  refine gf_X0_30 rfl (cnO hc) dX0_become_120 ?_
  refine w_iconst dX0_become_123 ?_
  refine w_bipush dX0_become_124 (by decide) ?_
  refine w_copy (cA_last ho) (cA_last hc) rfl (by decide) (Nat.le_of_ble_eq_true rfl) ml_X0_55 ac_n ac_s ac_i dX0_become_126 ?_
  refine w_aload_n dX0_become_129 rfl ?_
  refine gf_X0_33 rfl (cnO ho) dX0_become_130 ?_
  refine w_iconst dX0_become_133 ?_
  refine w_aload_n dX0_become_134 rfl ?_
  refine gf_X0_33 rfl (cnO hc) dX0_become_135 ?_
  refine w_iconst dX0_become_138 ?_
  refine w_bipush dX0_become_139 (by decide) ?_
  refine w_copy (cA_wind ho) (cA_wind hc) rfl (by decide) (Nat.le_of_ble_eq_true rfl) ml_X0_55 ac_n ac_s ac_i dX0_become_141 ?_
  refine w_aload_n dX0_become_144 rfl ?_
  refine gf_X0_36 rfl (cnO ho) dX0_become_145 ?_
  refine w_iconst dX0_become_148 ?_
  refine w_aload_n dX0_become_149 rfl ?_
  refine gf_X0_36 rfl (cnO hc) dX0_become_150 ?_
  refine w_iconst dX0_become_153 ?_
  refine w_bipush dX0_become_154 (by decide) ?_
  refine w_copy (cA_size ho) (cA_size hc) rfl (by decide) (Nat.le_of_ble_eq_true rfl) ml_X0_55 ac_n ac_s ac_i dX0_become_156 ?_
  refine w_aload_n dX0_become_159 rfl ?_
  refine gf_X0_39 rfl (cnO ho) dX0_become_160 ?_
  refine w_iconst dX0_become_163 ?_
  refine w_aload_n dX0_become_164 rfl ?_
  refine gf_X0_39 rfl (cnO hc) dX0_become_165 ?_
  refine w_iconst dX0_become_168 ?_
  refine w_bipush dX0_become_169 (by decide) ?_
  refine w_copy (cA_chance ho) (cA_chance hc) rfl (by decide) (Nat.le_of_ble_eq_true rfl) ml_X0_55 ac_n ac_s ac_i dX0_become_171 ?_
  refine w_aload_n dX0_become_174 rfl ?_
  refine gf_X0_42 rfl (cnO ho) dX0_become_175 ?_
  refine w_iconst dX0_become_178 ?_
  refine w_aload_n dX0_become_179 rfl ?_
  refine gf_X0_42 rfl (cnO hc) dX0_become_180 ?_
  refine w_iconst dX0_become_183 ?_
  refine w_bipush dX0_become_184 (by decide) ?_
  refine w_copy (cA_guns ho) (cA_guns hc) rfl (by decide) (Nat.le_of_ble_eq_true rfl) ml_X0_55 ac_n ac_s ac_i dX0_become_186 ?_
  exact w_vretP rfl dX0_become_189 (by exact mBC_BC hI hO hd)
set_option maxRecDepth 100000 in
set_option maxHeartbeats 4000000 in
theorem c_X0_addRoof {g : gG} {l : Launch} {μ : gM} {c : Nat} (hc : cn c) {k : Int} {a : Int} {b0 : Int} {n0 : Int} {b1 : Int} {n1 : Int}  (hR : 0 ≤ μ c 0 ∧ μ c 0 ≤ 7) : CT g l YX0_addRoof 1 [vR c, vI k, vI a, vI b0, vI n0, vI b1, vI n1] μ (pI fun e μ2 => (e = -4 ∧ μ c 0 = 7 ∧ μ = μ2) ∨ (e = μ c 0 ∧ μ c 0 < 7 ∧ μ2 = mAR μ c (μ c 0) k a b0 n0 b1 n1)) := by
  refine CT.of (n := 0) (by decide) rfl ?_
  show WA g l YX0_addRoof 1 _ 0 [some (vR c), some (vI k), some (vI a), some (vI b0), some (vI n0), some (vI b1), some (vI n1)] [] μ
  refine w_aload_n dX0_addRoof_0 rfl ?_
  refine gf_X0_45 rfl (cnO hc) dX0_addRoof_1 ?_
  refine w_bipush dX0_addRoof_4 (by decide) ?_
  refine w_icmp_lt (tgt := 12) (by omega) (by omega) dX0_addRoof_6 (by decide) (fun h6 => ?_) (fun h6 => ?_)
  · refine w_aload_n dX0_addRoof_12 rfl ?_
    refine gf_X0_9 rfl (cnO hc) dX0_addRoof_13 ?_
    refine w_aload_n dX0_addRoof_16 rfl ?_
    refine gf_X0_45 rfl (cnO hc) dX0_addRoof_17 ?_
    refine w_iload_n dX0_addRoof_20 rfl ?_
    refine w_iast (cA_kind hc) (by omega) dX0_addRoof_21 ?_
    refine w_aload_n dX0_addRoof_22 rfl ?_
    refine gf_X0_15 rfl (cnO hc) dX0_addRoof_23 ?_
    refine w_aload_n dX0_addRoof_26 rfl ?_
    refine gf_X0_45 rfl (cnO hc) dX0_addRoof_27 ?_
    simp only [wrC_1, wrC_2, wrC_3, wrC_4, wrC_5, wrC_6, wrC_7, wrC_8, wrC_9, wrC_10, wrC_11]
    refine w_iload_n dX0_addRoof_30 rfl ?_
    refine w_iast (cA_age hc) (by omega) dX0_addRoof_31 ?_
    refine w_aload_n dX0_addRoof_32 rfl ?_
    refine gf_X0_18 rfl (cnO hc) dX0_addRoof_33 ?_
    refine w_aload_n dX0_addRoof_36 rfl ?_
    refine gf_X0_45 rfl (cnO hc) dX0_addRoof_37 ?_
    simp only [wrC_1, wrC_2, wrC_3, wrC_4, wrC_5, wrC_6, wrC_7, wrC_8, wrC_9, wrC_10, wrC_11]
    refine w_iconst dX0_addRoof_40 ?_
    refine w_iconst dX0_addRoof_41 ?_
    refine w_cS3 kX0_row ml_X0_61 (Nat.le_of_ble_eq_true rfl) (by decide) dX0_addRoof_42 (c_X0_row) (kI (fun e42 m42 q42 => ?_))
    obtain ⟨rfl, rfl⟩ := q42
    refine w_iload_n dX0_addRoof_45 rfl ?_
    refine w_iast (cA_cover hc) (by omega) dX0_addRoof_46 ?_
    refine w_aload_n dX0_addRoof_47 rfl ?_
    refine gf_X0_18 rfl (cnO hc) dX0_addRoof_48 ?_
    refine w_aload_n dX0_addRoof_51 rfl ?_
    refine gf_X0_45 rfl (cnO hc) dX0_addRoof_52 ?_
    simp only [wrC_1, wrC_2, wrC_3, wrC_4, wrC_5, wrC_6, wrC_7, wrC_8, wrC_9, wrC_10, wrC_11]
    refine w_iconst dX0_addRoof_55 ?_
    refine w_iconst dX0_addRoof_56 ?_
    refine w_cS3 kX0_row ml_X0_61 (Nat.le_of_ble_eq_true rfl) (by decide) dX0_addRoof_57 (c_X0_row) (kI (fun e57 m57 q57 => ?_))
    obtain ⟨rfl, rfl⟩ := q57
    refine w_iload dX0_addRoof_60 rfl ?_
    refine w_iast (cA_cover hc) (by omega) dX0_addRoof_62 ?_
    refine w_aload_n dX0_addRoof_63 rfl ?_
    refine gf_X0_18 rfl (cnO hc) dX0_addRoof_64 ?_
    refine w_aload_n dX0_addRoof_67 rfl ?_
    refine gf_X0_45 rfl (cnO hc) dX0_addRoof_68 ?_
    simp only [wrC_1, wrC_2, wrC_3, wrC_4, wrC_5, wrC_6, wrC_7, wrC_8, wrC_9, wrC_10, wrC_11]
    refine w_iconst dX0_addRoof_71 ?_
    refine w_iconst dX0_addRoof_72 ?_
    refine w_cS3 kX0_row ml_X0_61 (Nat.le_of_ble_eq_true rfl) (by decide) dX0_addRoof_73 (c_X0_row) (kI (fun e73 m73 q73 => ?_))
    obtain ⟨rfl, rfl⟩ := q73
    refine w_iload dX0_addRoof_76 rfl ?_
    refine w_iast (cA_cover hc) (by omega) dX0_addRoof_78 ?_
    refine w_aload_n dX0_addRoof_79 rfl ?_
    refine gf_X0_18 rfl (cnO hc) dX0_addRoof_80 ?_
    refine w_aload_n dX0_addRoof_83 rfl ?_
    refine gf_X0_45 rfl (cnO hc) dX0_addRoof_84 ?_
    simp only [wrC_1, wrC_2, wrC_3, wrC_4, wrC_5, wrC_6, wrC_7, wrC_8, wrC_9, wrC_10, wrC_11]
    refine w_iconst dX0_addRoof_87 ?_
    refine w_iconst dX0_addRoof_88 ?_
    refine w_cS3 kX0_row ml_X0_61 (Nat.le_of_ble_eq_true rfl) (by decide) dX0_addRoof_89 (c_X0_row) (kI (fun e89 m89 q89 => ?_))
    obtain ⟨rfl, rfl⟩ := q89
    refine w_iload dX0_addRoof_92 rfl ?_
    refine w_iast (cA_cover hc) (by omega) dX0_addRoof_94 ?_
    refine w_aload_n dX0_addRoof_95 rfl ?_
    refine gf_X0_21 rfl (cnO hc) dX0_addRoof_96 ?_
    refine w_aload_n dX0_addRoof_99 rfl ?_
    refine gf_X0_45 rfl (cnO hc) dX0_addRoof_100 ?_
    simp only [wrC_1, wrC_2, wrC_3, wrC_4, wrC_5, wrC_6, wrC_7, wrC_8, wrC_9, wrC_10, wrC_11]
    refine w_iconst dX0_addRoof_103 ?_
    refine w_iast (cA_blue hc) (by omega) dX0_addRoof_104 ?_
    refine w_aload_n dX0_addRoof_105 rfl ?_
    refine gf_X0_24 rfl (cnO hc) dX0_addRoof_106 ?_
    refine w_aload_n dX0_addRoof_109 rfl ?_
    refine gf_X0_45 rfl (cnO hc) dX0_addRoof_110 ?_
    simp only [wrC_1, wrC_2, wrC_3, wrC_4, wrC_5, wrC_6, wrC_7, wrC_8, wrC_9, wrC_10, wrC_11]
    refine w_iconst dX0_addRoof_113 ?_
    refine w_iast (cA_brown hc) (by omega) dX0_addRoof_114 ?_
    refine w_aload_n dX0_addRoof_115 rfl ?_
    refine w_dup_a dX0_addRoof_116 ?_
    refine gf_X0_45 rfl (cnO hc) dX0_addRoof_117 ?_
    simp only [wrC_1, wrC_2, wrC_3, wrC_4, wrC_5, wrC_6, wrC_7, wrC_8, wrC_9, wrC_10, wrC_11]
    refine w_dup_x1 dX0_addRoof_120 ?_
    refine w_iconst dX0_addRoof_121 ?_
    refine w_iadd dX0_addRoof_122 ?_
    refine pf_X0_45 rfl (cnO hc) dX0_addRoof_123 ?_
    exact w_iretP rfl dX0_addRoof_126 (by right; exact ⟨rfl, by omega, rfl⟩)
  · refine w_bipush dX0_addRoof_9 (by decide) ?_
    exact w_iretP rfl dX0_addRoof_11 (by left; exact ⟨rfl, by omega, rfl⟩)
set_option maxRecDepth 100000 in
set_option maxHeartbeats 4000000 in
theorem c_X0_addStorm {g : gG} {l : Launch} {μ : gM} {c : Nat} (hc : cn c) {f : Int} {t : Int} {w : Int} {z : Int} {h : Int}  (hR : 0 ≤ μ c 1 ∧ μ c 1 ≤ 6) : CT g l YX0_addStorm 0 [vR c, vI f, vI t, vI w, vI z, vI h] μ (pI fun e μ2 => (e = -4 ∧ μ c 1 = 6 ∧ μ = μ2) ∨ (e = μ c 1 ∧ μ c 1 < 6 ∧ μ2 = mAS μ c (μ c 1) f t w z h)) := by
  refine CT.of (n := 0) (by decide) rfl ?_
  show WA g l YX0_addStorm 0 _ 0 [some (vR c), some (vI f), some (vI t), some (vI w), some (vI z), some (vI h)] [] μ
  refine w_aload_n dX0_addStorm_0 rfl ?_
  refine gf_X0_49 rfl (cnO hc) dX0_addStorm_1 ?_
  refine w_bipush dX0_addStorm_4 (by decide) ?_
  refine w_icmp_lt (tgt := 12) (by omega) (by omega) dX0_addStorm_6 (by decide) (fun h6 => ?_) (fun h6 => ?_)
  · refine w_aload_n dX0_addStorm_12 rfl ?_
    refine gf_X0_27 rfl (cnO hc) dX0_addStorm_13 ?_
    refine w_aload_n dX0_addStorm_16 rfl ?_
    refine gf_X0_49 rfl (cnO hc) dX0_addStorm_17 ?_
    refine w_iload_n dX0_addStorm_20 rfl ?_
    refine w_iast (cA_first hc) (by omega) dX0_addStorm_21 ?_
    refine w_aload_n dX0_addStorm_22 rfl ?_
    refine gf_X0_30 rfl (cnO hc) dX0_addStorm_23 ?_
    refine w_aload_n dX0_addStorm_26 rfl ?_
    refine gf_X0_49 rfl (cnO hc) dX0_addStorm_27 ?_
    simp only [wrC_1, wrC_2, wrC_3, wrC_4, wrC_5, wrC_6, wrC_7, wrC_8, wrC_9, wrC_10, wrC_11]
    refine w_iload_n dX0_addStorm_30 rfl ?_
    refine w_iast (cA_last hc) (by omega) dX0_addStorm_31 ?_
    refine w_aload_n dX0_addStorm_32 rfl ?_
    refine gf_X0_33 rfl (cnO hc) dX0_addStorm_33 ?_
    refine w_aload_n dX0_addStorm_36 rfl ?_
    refine gf_X0_49 rfl (cnO hc) dX0_addStorm_37 ?_
    simp only [wrC_1, wrC_2, wrC_3, wrC_4, wrC_5, wrC_6, wrC_7, wrC_8, wrC_9, wrC_10, wrC_11]
    refine w_iload_n dX0_addStorm_40 rfl ?_
    refine w_iast (cA_wind hc) (by omega) dX0_addStorm_41 ?_
    refine w_aload_n dX0_addStorm_42 rfl ?_
    refine gf_X0_36 rfl (cnO hc) dX0_addStorm_43 ?_
    refine w_aload_n dX0_addStorm_46 rfl ?_
    refine gf_X0_49 rfl (cnO hc) dX0_addStorm_47 ?_
    simp only [wrC_1, wrC_2, wrC_3, wrC_4, wrC_5, wrC_6, wrC_7, wrC_8, wrC_9, wrC_10, wrC_11]
    refine w_iload dX0_addStorm_50 rfl ?_
    refine w_iast (cA_size hc) (by omega) dX0_addStorm_52 ?_
    refine w_aload_n dX0_addStorm_53 rfl ?_
    refine gf_X0_39 rfl (cnO hc) dX0_addStorm_54 ?_
    refine w_aload_n dX0_addStorm_57 rfl ?_
    refine gf_X0_49 rfl (cnO hc) dX0_addStorm_58 ?_
    simp only [wrC_1, wrC_2, wrC_3, wrC_4, wrC_5, wrC_6, wrC_7, wrC_8, wrC_9, wrC_10, wrC_11]
    refine w_iload dX0_addStorm_61 rfl ?_
    refine w_iast (cA_chance hc) (by omega) dX0_addStorm_63 ?_
    refine w_aload_n dX0_addStorm_64 rfl ?_
    refine w_dup_a dX0_addStorm_65 ?_
    refine gf_X0_49 rfl (cnO hc) dX0_addStorm_66 ?_
    simp only [wrC_1, wrC_2, wrC_3, wrC_4, wrC_5, wrC_6, wrC_7, wrC_8, wrC_9, wrC_10, wrC_11]
    refine w_dup_x1 dX0_addStorm_69 ?_
    refine w_iconst dX0_addStorm_70 ?_
    refine w_iadd dX0_addStorm_71 ?_
    refine pf_X0_49 rfl (cnO hc) dX0_addStorm_72 ?_
    exact w_iretP rfl dX0_addStorm_75 (by right; exact ⟨rfl, by omega, rfl⟩)
  · refine w_bipush dX0_addStorm_9 (by decide) ?_
    exact w_iretP rfl dX0_addStorm_11 (by left; exact ⟨rfl, by omega, rfl⟩)
set_option maxRecDepth 100000 in
set_option maxHeartbeats 4000000 in
theorem c_X0_breakSlope {g : gG} {l : Launch} {μ : gM} {c : Nat} (hc : cn c) {s : Int} {r : Int} {sl : Int}  (hI : CI μ c) (hs : 0 ≤ s ∧ s < 6) (hr : 0 ≤ r ∧ r < 7) (hsl : 0 ≤ sl ∧ sl ≤ 1) : CT g l YX0_breakSlope 2 [vR c, vI s, vI r, vI sl] μ (pI fun e μ2 => e = fb (vw μ c) s r sl 0 + fb (vw μ c) s r sl 1 ∧ μ2 = wr (wr μ (c + 3) (4 * r + 2 * sl + 0) (μ (c + 3) (4 * r + 2 * sl + 0) - fb (vw μ c) s r sl 0)) (c + 3) (4 * r + 2 * sl + 1) (μ (c + 3) (4 * r + 2 * sl + 1) - fb (vw μ c) s r sl 1)) := by
  refine CT.of (n := 5) (by decide) rfl ?_
  show WA g l YX0_breakSlope 2 _ 0 [some (vR c), some (vI s), some (vI r), some (vI sl), none, none, none, none, none] [] μ
  refine w_aload_n dX0_breakSlope_0 rfl ?_
  refine w_iload_n dX0_breakSlope_1 rfl ?_
  refine w_iload_n dX0_breakSlope_2 rfl ?_
  refine w_iload_n dX0_breakSlope_3 rfl ?_
  refine w_cV3 kX0_toll ml_X0_74 (cnO hc) rfl (Nat.le_of_ble_eq_true rfl) (by decide) dX0_breakSlope_4 (c_X0_toll hc hI (by omega) (by omega) (by omega)) (kI (fun e4 m4 q4 => ?_))
  obtain ⟨rfl, rfl, b4⟩ := q4
  refine w_istore dX0_breakSlope_7 (by decide) rfl ?_
  refine w_iload_n dX0_breakSlope_9 rfl ?_
  refine w_iload_n dX0_breakSlope_10 rfl ?_
  refine w_iconst dX0_breakSlope_11 ?_
  refine w_cS3 kX0_row ml_X0_61 (Nat.le_of_ble_eq_true rfl) (by decide) dX0_breakSlope_12 (c_X0_row) (kI (fun e12 m12 q12 => ?_))
  obtain ⟨rfl, rfl⟩ := q12
  refine w_istore dX0_breakSlope_15 (by decide) rfl ?_
  refine w_iload_n dX0_breakSlope_17 rfl ?_
  refine w_iload_n dX0_breakSlope_18 rfl ?_
  refine w_iconst dX0_breakSlope_19 ?_
  refine w_cS3 kX0_row ml_X0_61 (Nat.le_of_ble_eq_true rfl) (by decide) dX0_breakSlope_20 (c_X0_row) (kI (fun e20 m20 q20 => ?_))
  obtain ⟨rfl, rfl⟩ := q20
  refine w_istore dX0_breakSlope_23 (by decide) rfl ?_
  refine w_iload dX0_breakSlope_25 rfl ?_
  refine w_aload_n dX0_breakSlope_27 rfl ?_
  refine gf_X0_18 rfl (cnO hc) dX0_breakSlope_28 ?_
  refine w_iload dX0_breakSlope_31 rfl ?_
  refine w_ialdB (CI_cover hI) (cA_cover hc) (by omega) dX0_breakSlope_33 (fun b33 => ?_)
  refine w_min (by omega) (by omega) (by decide) (Nat.le_of_ble_eq_true rfl) ml_X0_77 mt_min_s mt_i mt_min_c dX0_breakSlope_34 ?_
  refine w_istore dX0_breakSlope_37 (by decide) rfl ?_
  refine w_iload dX0_breakSlope_39 rfl ?_
  refine w_aload_n dX0_breakSlope_41 rfl ?_
  refine gf_X0_18 rfl (cnO hc) dX0_breakSlope_42 ?_
  refine w_iload dX0_breakSlope_45 rfl ?_
  refine w_ialdB (CI_cover hI) (cA_cover hc) (by omega) dX0_breakSlope_47 (fun b47 => ?_)
  refine w_min (by omega) (by omega) (by decide) (Nat.le_of_ble_eq_true rfl) ml_X0_77 mt_min_s mt_i mt_min_c dX0_breakSlope_48 ?_
  refine w_istore dX0_breakSlope_51 (by decide) rfl ?_
  refine w_aload_n dX0_breakSlope_53 rfl ?_
  refine gf_X0_18 rfl (cnO hc) dX0_breakSlope_54 ?_
  refine w_iload dX0_breakSlope_57 rfl ?_
  refine w_dup2 dX0_breakSlope_59 ?_
  refine w_iald (cA_cover hc) (by omega) dX0_breakSlope_60 ?_
  refine w_iload dX0_breakSlope_61 rfl ?_
  refine w_isub dX0_breakSlope_63 ?_
  refine w_iast (cA_cover hc) (by omega) dX0_breakSlope_64 ?_
  refine w_aload_n dX0_breakSlope_65 rfl ?_
  refine gf_X0_18 rfl (cnO hc) dX0_breakSlope_66 ?_
  refine w_iload dX0_breakSlope_69 rfl ?_
  refine w_dup2 dX0_breakSlope_71 ?_
  refine w_iald (cA_cover hc) (by omega) dX0_breakSlope_72 ?_
  rw [wr_n (show (4 * r + 2 * sl + 1 : Int) ≠ 4 * r + 2 * sl + 0 by omega)]
  refine w_iload dX0_breakSlope_73 rfl ?_
  refine w_isub dX0_breakSlope_75 ?_
  refine w_iast (cA_cover hc) (by omega) dX0_breakSlope_76 ?_
  refine w_iload dX0_breakSlope_77 rfl ?_
  refine w_iload dX0_breakSlope_79 rfl ?_
  refine w_iadd dX0_breakSlope_81 ?_
  exact w_iretP rfl dX0_breakSlope_82 (by exact ⟨rfl, rfl⟩)
set_option maxRecDepth 100000 in
set_option maxHeartbeats 4000000 in
theorem c_X0_passYear {g : gG} {l : Launch} {μ : gM} {c : Nat} (hc : cn c) {s : Int}  (hI : CI μ c) (hs : s = -1 ∨ (0 ≤ s ∧ s < 6)) : CT g l YX0_passYear 3 [vR c, vI s] μ (pI fun e μ2 => e = fY (vw μ c) (μ c 0) s ∧ μ2 = wr (yr μ c s (μ c 0)) c 2 (μ c 2 + 1)) := by
  have hN := CI_roofs hI
  have hM := CI_storms hI
  have hV := CI.VI hI
  refine CT.of (n := 2) (by decide) rfl ?_
  show WA g l YX0_passYear 3 _ 0 [some (vR c), some (vI s), none, none] [] μ
  refine w_iconst dX0_passYear_0 ?_
  refine w_istore_n dX0_passYear_1 (by decide) rfl ?_
  refine w_iconst dX0_passYear_2 ?_
  refine w_istore_n dX0_passYear_3 (by decide) rfl ?_
  refine w_mu (yr_0 μ c s) ?_
  refine w_loop (ι := Int × Int) (fun i => match i with | (a, k) => 0 ≤ k ∧ k ≤ μ c 0 ∧ a = fY (vw μ c) k s) (fun i => match i with | (a, k) => (μ c 0 - k).toNat) (fun i => match i with | (a, k) => [some (vR c), some (vI s), some (vI a), some (vI k)]) (fun i => match i with | (a, k) => yr μ c s k) ?_ (0, 0) ⟨by omega, by omega, rfl⟩
  intro i_ hinv4 ih4
  obtain ⟨a, k⟩ := i_
  try dsimp only at hinv4 ih4 ⊢
  obtain ⟨h1, h2, h3⟩ := hinv4
  have e0 : yr μ c s k c = μ c := yr_o (by omega) (by omega)
  have hI1 := yr_CI (s := s) (n := k) hI
  have hag := CI_age hI k
  refine w_iload_n dX0_passYear_4 rfl ?_
  refine w_aload_n dX0_passYear_5 rfl ?_
  refine gf_X0_45 rfl (cnO hc) dX0_passYear_6 ?_
  rw [e0]
  refine w_icmp_ge (tgt := 60) (by omega) (by omega) dX0_passYear_9 (by decide) (fun h9 => ?_) (fun h9 => ?_)
  · refine w_aload_n dX0_passYear_60 rfl ?_
    refine w_dup_a dX0_passYear_61 ?_
    refine gf_X0_52 rfl (cnO hc) dX0_passYear_62 ?_
    refine w_iconst dX0_passYear_65 ?_
    refine w_iadd dX0_passYear_66 ?_
    refine pf_X0_52 rfl (cnO hc) dX0_passYear_67 ?_
    refine w_iload_n dX0_passYear_70 rfl ?_
    exact w_iretP rfl dX0_passYear_71 (by rw [e0]; have e1 : k = μ c 0 := (by omega); subst e1; exact ⟨h3, rfl⟩)
  · refine w_iload_n dX0_passYear_12 rfl ?_
    refine w_iconst dX0_passYear_13 ?_
    refine w_icmp_eq (tgt := 35) (by omega) (by omega) dX0_passYear_14 (by decide) (fun h14 => ?_) (fun h14 => ?_)
    · refine w_aload_n dX0_passYear_35 rfl ?_
      refine gf_X0_15 rfl (cnO hc) dX0_passYear_36 ?_
      refine w_iload_n dX0_passYear_39 rfl ?_
      refine w_aload_n dX0_passYear_40 rfl ?_
      refine gf_X0_15 rfl (cnO hc) dX0_passYear_41 ?_
      refine w_iload_n dX0_passYear_44 rfl ?_
      refine w_iald (cA_age hc) (by omega) dX0_passYear_45 ?_
      first | rw [yr_2o (by omega)] | rw [wr_o (by omega), wr_o (by omega), wr_o (by omega), wr_o (by omega), yr_2o (by omega)]
      refine w_iconst dX0_passYear_46 ?_
      refine w_iadd dX0_passYear_47 ?_
      refine w_bipush dX0_passYear_48 (by decide) ?_
      refine w_min (by omega) (by omega) (by decide) (Nat.le_of_ble_eq_true rfl) ml_X0_77 mt_min_s mt_i mt_min_c dX0_passYear_50 ?_
      refine w_iast (cA_age hc) (by omega) dX0_passYear_53 ?_
      refine w_iinc dX0_passYear_54 rfl (by decide) rfl ?_
      refine w_goto (tgt := 4) dX0_passYear_57 (by decide) ?_
      first | rw [yr_sm h14 h1 rfl] | rw [yr_s h1 _ _ _ _ _ (by rw [if_neg h14]) (by rw [if_neg h14]) (by rw [if_neg h14]) (by rw [if_neg h14]) rfl]
      exact ih4 (_, _) ⟨by omega, by omega, by rw [fY_s h1, h3]; first | rw [if_neg h14] | (rw [if_pos h14]; omega)⟩ (by omega)
    · have hL0 := fb_le (vw μ c) s k 0 0
      have hL1 := fb_le (vw μ c) s k 0 1
      have hb0 := fb_bd hV s k 0 0
      have hb1 := fb_bd hV s k 0 1
      have hv0 := CI_cover hI (4 * k + 2 * 0 + 0)
      have hv1 := CI_cover hI (4 * k + 2 * 0 + 1)
      simp only [vw_a] at hL0 hL1
      refine w_iload_n dX0_passYear_17 rfl ?_
      refine w_aload_n dX0_passYear_18 rfl ?_
      refine w_iload_n dX0_passYear_19 rfl ?_
      refine w_iload_n dX0_passYear_20 rfl ?_
      refine w_iconst dX0_passYear_21 ?_
      refine w_cV3 kX0_breakSlope ml_X0_105 (cnO hc) rfl (Nat.le_of_ble_eq_true rfl) (by decide) dX0_passYear_22 (c_X0_breakSlope hc hI1 (by omega) (by omega) (by omega)) (kI (fun e22 m22 q22 => ?_))
      obtain ⟨rfl, rfl⟩ := q22
      rw [fb_yr h1 (by decide) (by decide), fb_yr h1 (by decide) (by decide), yr_3o (by omega), yr_3o (by omega)]
      refine w_aload_n dX0_passYear_25 rfl ?_
      refine w_iload_n dX0_passYear_26 rfl ?_
      refine w_iload_n dX0_passYear_27 rfl ?_
      refine w_iconst dX0_passYear_28 ?_
      refine w_cV3 kX0_breakSlope ml_X0_105 (cnO hc) rfl (Nat.le_of_ble_eq_true rfl) (by decide) dX0_passYear_29 (c_X0_breakSlope hc (CI_cover_wr (CI_cover_wr hI1 (x := μ (c + 3) (4 * k + 2 * 0 + 0) - fb (vw μ c) s k 0 0) (by omega)) (x := μ (c + 3) (4 * k + 2 * 0 + 1) - fb (vw μ c) s k 0 1) (by omega)) (by omega) (by omega) (by omega)) (kI (fun e29 m29 q29 => ?_))
      obtain ⟨rfl, rfl⟩ := q29
      rw [fb_yr2 h1 (by decide), fb_yr2 h1 (by decide), wr_n (show (4 * k + 2 * 1 + 0 : Int) ≠ 4 * k + 2 * 0 + 1 by omega), wr_n (show (4 * k + 2 * 1 + 0 : Int) ≠ 4 * k + 2 * 0 + 0 by omega), yr_3o (j := 4 * k + 2 * 1 + 0) (by omega), wr_n (show (4 * k + 2 * 1 + 1 : Int) ≠ 4 * k + 2 * 0 + 1 by omega), wr_n (show (4 * k + 2 * 1 + 1 : Int) ≠ 4 * k + 2 * 0 + 0 by omega), yr_3o (j := 4 * k + 2 * 1 + 1) (by omega)]
      refine w_iadd dX0_passYear_32 ?_
      refine w_iadd dX0_passYear_33 ?_
      refine w_istore_n dX0_passYear_34 (by decide) rfl ?_
      refine w_aload_n dX0_passYear_35 rfl ?_
      refine gf_X0_15 rfl (cnO hc) dX0_passYear_36 ?_
      refine w_iload_n dX0_passYear_39 rfl ?_
      refine w_aload_n dX0_passYear_40 rfl ?_
      refine gf_X0_15 rfl (cnO hc) dX0_passYear_41 ?_
      refine w_iload_n dX0_passYear_44 rfl ?_
      refine w_iald (cA_age hc) (by omega) dX0_passYear_45 ?_
      first | rw [yr_2o (by omega)] | rw [wr_o (by omega), wr_o (by omega), wr_o (by omega), wr_o (by omega), yr_2o (by omega)]
      refine w_iconst dX0_passYear_46 ?_
      refine w_iadd dX0_passYear_47 ?_
      refine w_bipush dX0_passYear_48 (by decide) ?_
      refine w_min (by omega) (by omega) (by decide) (Nat.le_of_ble_eq_true rfl) ml_X0_77 mt_min_s mt_i mt_min_c dX0_passYear_50 ?_
      refine w_iast (cA_age hc) (by omega) dX0_passYear_53 ?_
      refine w_iinc dX0_passYear_54 rfl (by decide) rfl ?_
      refine w_goto (tgt := 4) dX0_passYear_57 (by decide) ?_
      first | rw [yr_sm h14 h1 rfl] | rw [yr_s h1 _ _ _ _ _ (by rw [if_neg h14]) (by rw [if_neg h14]) (by rw [if_neg h14]) (by rw [if_neg h14]) rfl]
      exact ih4 (_, _) ⟨by omega, by omega, by rw [fY_s h1, h3]; first | rw [if_neg h14] | (rw [if_pos h14]; omega)⟩ (by omega)
set_option maxRecDepth 100000 in
set_option maxHeartbeats 4000000 in
theorem c_X0_stormAt {g : gG} {l : Launch} {μ : gM} {c : Nat} (hc : cn c) {x : Int}  (hI : CI μ c) (hx : 0 ≤ x ∧ x < 2147483648) : CT g l YX0_stormAt 0 [vR c, vL x] μ (pI fun e μ2 => sAt (vw μ c) (μ c 1) x e ∧ -1 ≤ e ∧ e < 6 ∧ μ = μ2) := by
  have hN := CI_roofs hI
  have hM := CI_storms hI
  have hV := CI.VI hI
  refine CT.of (n := 3) (by decide) rfl ?_
  show WA g l YX0_stormAt 0 _ 0 [some (vR c), some (vL x), none, none, none, none] [] μ
  refine w_lconst 0 dX0_stormAt_0 (by decide) ?_
  refine w_lstore_n dX0_stormAt_1 (by decide) rfl ?_
  refine w_iconst dX0_stormAt_2 ?_
  refine w_istore dX0_stormAt_3 (by decide) rfl ?_
  refine w_loop (ι := Int × Int) (fun i => match i with | (t, k) => 0 ≤ k ∧ k ≤ μ c 1 ∧ t = fC (vw μ c) k ∧ ∀ j, 0 ≤ j → j < k → fC (vw μ c) (j + 1) ≤ x) (fun i => match i with | (t, k) => (μ c 1 - k).toNat) (fun i => match i with | (t, k) => [some (vR c), some (vL x), none, some (vL t), none, some (vI k)]) (fun i => match i with | (t, k) => μ) ?_ (0, 0) ⟨by omega, by omega, rfl, fun j h1 h2 => by omega⟩
  intro i_ hinv5 ih5
  obtain ⟨t, k⟩ := i_
  try dsimp only at hinv5 ih5 ⊢
  obtain ⟨h1, h2, h3, h4⟩ := hinv5
  have hf := fC_bd hV (m := k) (by omega)
  have hc1 := fC_s (v := (vw μ c)) h1
  simp only [vw_a] at hc1
  refine w_iload dX0_stormAt_5 rfl ?_
  refine w_aload_n dX0_stormAt_7 rfl ?_
  refine gf_X0_49 rfl (cnO hc) dX0_stormAt_8 ?_
  refine w_icmp_ge (tgt := 40) (by omega) (by omega) dX0_stormAt_11 (by decide) (fun h11 => ?_) (fun h11 => ?_)
  · refine w_iconst dX0_stormAt_40 ?_
    exact w_iretP rfl dX0_stormAt_41 (by refine ⟨Or.inr ⟨rfl, fun j q1 q2 => h4 j q1 (by omega)⟩, by omega, by omega, rfl⟩)
  · refine w_lload_n dX0_stormAt_14 rfl ?_
    refine w_aload_n dX0_stormAt_15 rfl ?_
    refine gf_X0_39 rfl (cnO hc) dX0_stormAt_16 ?_
    refine w_iload dX0_stormAt_19 rfl ?_
    refine w_ialdB (CI_chance hI) (cA_chance hc) (by omega) dX0_stormAt_21 (fun b21 => ?_)
    refine w_i2l (by omega) dX0_stormAt_22 ?_
    refine w_ladd dX0_stormAt_23 ?_
    refine w_lstore_n dX0_stormAt_24 (by decide) rfl ?_
    refine w_lload_n dX0_stormAt_25 rfl ?_
    refine w_lload_n dX0_stormAt_26 rfl ?_
    refine w_lcmp_le (tgt := 34) (by omega) (by omega) dX0_stormAt_27 dX0_stormAt_28 (by decide) (fun h27 => ?_) (fun h27 => ?_)
    · refine w_iinc dX0_stormAt_34 rfl (by decide) rfl ?_
      refine w_goto (tgt := 5) dX0_stormAt_37 (by decide) ?_
      exact ih5 (_, _) ⟨by omega, by omega, by dsimp only; omega, fun j q1 q2 => by
        dsimp only at q2
        by_cases e0 : j = k
        · subst e0; omega
        · exact h4 j q1 (by omega)⟩ (by omega)
    · refine w_iload dX0_stormAt_31 rfl ?_
      exact w_iretP rfl dX0_stormAt_33 (by refine ⟨Or.inl ⟨by omega, by omega, by omega, h4⟩, by omega, by omega, rfl⟩)
set_option maxRecDepth 100000 in
set_option maxHeartbeats 4000000 in
theorem c_X0_mixGuns {g : gG} {l : Launch} {μ : gM} {c : Nat} (hc : cn c) {h : Int}  (hI : CI μ c) : CT g l YX0_mixGuns 0 [vR c, vL h] μ (pL fun e μ2 => e = itI (fun k x => 31 * x + (vw μ c) 11 k) h 7 ∧ μ = μ2) := by
  refine CT.of (n := 1) (by decide) rfl ?_
  show WA g l YX0_mixGuns 0 _ 0 [some (vR c), some (vL h), none, none] [] μ
  refine w_iconst dX0_mixGuns_0 ?_
  refine w_istore_n dX0_mixGuns_1 (by decide) rfl ?_
  refine w_loop (ι := Int × Int) (fun i => match i with | (y, k) => 0 ≤ k ∧ k ≤ 7 ∧ y = itI (fun k x => 31 * x + (vw μ c) 11 k) h k) (fun i => match i with | (y, k) => (7 - k).toNat) (fun i => match i with | (y, k) => [some (vR c), some (vL y), none, some (vI k)]) (fun i => match i with | (y, k) => μ) ?_ (_, 0) ⟨by omega, by omega, rfl⟩
  intro i_ hinv2 ih2
  obtain ⟨y, k⟩ := i_
  try dsimp only at hinv2 ih2 ⊢
  obtain ⟨h1, h2, h3⟩ := hinv2
  refine w_iload_n dX0_mixGuns_2 rfl ?_
  refine w_bipush dX0_mixGuns_3 (by decide) ?_
  refine w_icmp_ge (tgt := 28) (by omega) (by omega) dX0_mixGuns_5 (by decide) (fun h5 => ?_) (fun h5 => ?_)
  · refine w_lload_n dX0_mixGuns_28 rfl ?_
    exact w_lretP rfl dX0_mixGuns_29 (by have e0 : k = 7 := (by omega); subst e0; exact ⟨h3, rfl⟩)
  · refine w_ldc2 (31) cl_X0_108 dX0_mixGuns_8 (by decide) ?_
    refine w_lload_n dX0_mixGuns_11 rfl ?_
    refine w_lmul dX0_mixGuns_12 ?_
    refine w_aload_n dX0_mixGuns_13 rfl ?_
    refine gf_X0_42 rfl (cnO hc) dX0_mixGuns_14 ?_
    refine w_iload_n dX0_mixGuns_17 rfl ?_
    refine w_ialdB (CI_guns hI) (cA_guns hc) (by omega) dX0_mixGuns_18 (fun b18 => ?_)
    refine w_i2l (by omega) dX0_mixGuns_19 ?_
    refine w_ladd dX0_mixGuns_20 ?_
    refine w_lstore_n dX0_mixGuns_21 (by decide) rfl ?_
    refine w_iinc dX0_mixGuns_22 rfl (by decide) rfl ?_
    refine w_goto (tgt := 2) dX0_mixGuns_25 (by decide) ?_
    exact ih2 (_, _) ⟨by omega, by omega, by rw [itI_s _ _ h1, ← h3]; rfl⟩ (by omega)
set_option maxRecDepth 100000 in
set_option maxHeartbeats 4000000 in
theorem c_X0_mixStorms {g : gG} {l : Launch} {μ : gM} {c : Nat} (hc : cn c) {h : Int}  (hI : CI μ c) : CT g l YX0_mixStorms 0 [vR c, vL h] μ (pL fun e μ2 => e = itI (mxS (vw μ c)) h (μ c 1) ∧ μ = μ2) := by
  have hN := CI_roofs hI
  have hM := CI_storms hI
  have hV := CI.VI hI
  refine CT.of (n := 1) (by decide) rfl ?_
  show WA g l YX0_mixStorms 0 _ 0 [some (vR c), some (vL h), none, none] [] μ
  refine w_iconst dX0_mixStorms_0 ?_
  refine w_istore_n dX0_mixStorms_1 (by decide) rfl ?_
  refine w_loop (ι := Int × Int) (fun i => match i with | (y, k) => 0 ≤ k ∧ k ≤ μ c 1 ∧ y = itI (mxS (vw μ c)) h k) (fun i => match i with | (y, k) => (μ c 1 - k).toNat) (fun i => match i with | (y, k) => [some (vR c), some (vL y), none, some (vI k)]) (fun i => match i with | (y, k) => μ) ?_ (_, 0) ⟨by omega, by omega, rfl⟩
  intro i_ hinv2 ih2
  obtain ⟨y, k⟩ := i_
  try dsimp only at hinv2 ih2 ⊢
  obtain ⟨h1, h2, h3⟩ := hinv2
  refine w_iload_n dX0_mixStorms_2 rfl ?_
  refine w_aload_n dX0_mixStorms_3 rfl ?_
  refine gf_X0_49 rfl (cnO hc) dX0_mixStorms_4 ?_
  refine w_icmp_ge (tgt := 86) (by omega) (by omega) dX0_mixStorms_7 (by decide) (fun h7 => ?_) (fun h7 => ?_)
  · refine w_lload_n dX0_mixStorms_86 rfl ?_
    exact w_lretP rfl dX0_mixStorms_87 (by have e0 : k = μ c 1 := (by omega); subst e0; exact ⟨h3, rfl⟩)
  · refine w_ldc2 (31) cl_X0_108 dX0_mixStorms_10 (by decide) ?_
    refine w_lload_n dX0_mixStorms_13 rfl ?_
    refine w_lmul dX0_mixStorms_14 ?_
    refine w_aload_n dX0_mixStorms_15 rfl ?_
    refine gf_X0_27 rfl (cnO hc) dX0_mixStorms_16 ?_
    refine w_iload_n dX0_mixStorms_19 rfl ?_
    refine w_ialdB (CI_first hI) (cA_first hc) (by omega) dX0_mixStorms_20 (fun b20 => ?_)
    refine w_i2l (by omega) dX0_mixStorms_21 ?_
    refine w_ladd dX0_mixStorms_22 ?_
    refine w_lstore_n dX0_mixStorms_23 (by decide) rfl ?_
    refine w_ldc2 (31) cl_X0_108 dX0_mixStorms_24 (by decide) ?_
    refine w_lload_n dX0_mixStorms_27 rfl ?_
    refine w_lmul dX0_mixStorms_28 ?_
    refine w_aload_n dX0_mixStorms_29 rfl ?_
    refine gf_X0_30 rfl (cnO hc) dX0_mixStorms_30 ?_
    refine w_iload_n dX0_mixStorms_33 rfl ?_
    refine w_ialdB (CI_last hI) (cA_last hc) (by omega) dX0_mixStorms_34 (fun b34 => ?_)
    refine w_i2l (by omega) dX0_mixStorms_35 ?_
    refine w_ladd dX0_mixStorms_36 ?_
    refine w_lstore_n dX0_mixStorms_37 (by decide) rfl ?_
    refine w_ldc2 (31) cl_X0_108 dX0_mixStorms_38 (by decide) ?_
    refine w_lload_n dX0_mixStorms_41 rfl ?_
    refine w_lmul dX0_mixStorms_42 ?_
    refine w_aload_n dX0_mixStorms_43 rfl ?_
    refine gf_X0_33 rfl (cnO hc) dX0_mixStorms_44 ?_
    refine w_iload_n dX0_mixStorms_47 rfl ?_
    refine w_ialdB (CI_wind hI) (cA_wind hc) (by omega) dX0_mixStorms_48 (fun b48 => ?_)
    refine w_i2l (by omega) dX0_mixStorms_49 ?_
    refine w_ladd dX0_mixStorms_50 ?_
    refine w_lstore_n dX0_mixStorms_51 (by decide) rfl ?_
    refine w_ldc2 (31) cl_X0_108 dX0_mixStorms_52 (by decide) ?_
    refine w_lload_n dX0_mixStorms_55 rfl ?_
    refine w_lmul dX0_mixStorms_56 ?_
    refine w_aload_n dX0_mixStorms_57 rfl ?_
    refine gf_X0_36 rfl (cnO hc) dX0_mixStorms_58 ?_
    refine w_iload_n dX0_mixStorms_61 rfl ?_
    refine w_ialdB (CI_size hI) (cA_size hc) (by omega) dX0_mixStorms_62 (fun b62 => ?_)
    refine w_i2l (by omega) dX0_mixStorms_63 ?_
    refine w_ladd dX0_mixStorms_64 ?_
    refine w_lstore_n dX0_mixStorms_65 (by decide) rfl ?_
    refine w_ldc2 (31) cl_X0_108 dX0_mixStorms_66 (by decide) ?_
    refine w_lload_n dX0_mixStorms_69 rfl ?_
    refine w_lmul dX0_mixStorms_70 ?_
    refine w_aload_n dX0_mixStorms_71 rfl ?_
    refine gf_X0_39 rfl (cnO hc) dX0_mixStorms_72 ?_
    refine w_iload_n dX0_mixStorms_75 rfl ?_
    refine w_ialdB (CI_chance hI) (cA_chance hc) (by omega) dX0_mixStorms_76 (fun b76 => ?_)
    refine w_i2l (by omega) dX0_mixStorms_77 ?_
    refine w_ladd dX0_mixStorms_78 ?_
    refine w_lstore_n dX0_mixStorms_79 (by decide) rfl ?_
    refine w_iinc dX0_mixStorms_80 rfl (by decide) rfl ?_
    refine w_goto (tgt := 2) dX0_mixStorms_83 (by decide) ?_
    exact ih2 (_, _) ⟨by omega, by omega, by rw [itI_s _ _ h1, ← h3]; rfl⟩ (by omega)
set_option maxRecDepth 100000 in
set_option maxHeartbeats 4000000 in
theorem c_X0_mixRoofs {g : gG} {l : Launch} {μ : gM} {c : Nat} (hc : cn c) {h : Int}  (hI : CI μ c) : CT g l YX0_mixRoofs 0 [vR c, vL h] μ (pL fun e μ2 => e = itI (mxR (vw μ c)) h (μ c 0) ∧ μ = μ2) := by
  have hN := CI_roofs hI
  have hM := CI_storms hI
  have hV := CI.VI hI
  refine CT.of (n := 2) (by decide) rfl ?_
  show WA g l YX0_mixRoofs 0 _ 0 [some (vR c), some (vL h), none, none, none] [] μ
  refine w_iconst dX0_mixRoofs_0 ?_
  refine w_istore_n dX0_mixRoofs_1 (by decide) rfl ?_
  refine w_loop (ι := Int × Int) (fun i => match i with | (y, k) => 0 ≤ k ∧ k ≤ μ c 0 ∧ y = itI (mxR (vw μ c)) h k) (fun i => match i with | (y, k) => (μ c 0 - k).toNat) (fun i => match i with | (y, k) => [some (vR c), some (vL y), none, some (vI k), none]) (fun i => match i with | (y, k) => μ) ?_ (_, 0) ⟨by omega, by omega, rfl⟩
  intro i_ hinv2 ih2
  obtain ⟨y, k⟩ := i_
  try dsimp only at hinv2 ih2 ⊢
  obtain ⟨h1, h2, h3⟩ := hinv2
  refine w_iload_n dX0_mixRoofs_2 rfl ?_
  refine w_aload_n dX0_mixRoofs_3 rfl ?_
  refine gf_X0_45 rfl (cnO hc) dX0_mixRoofs_4 ?_
  refine w_icmp_ge (tgt := 106) (by omega) (by omega) dX0_mixRoofs_7 (by decide) (fun h7 => ?_) (fun h7 => ?_)
  · refine w_lload_n dX0_mixRoofs_106 rfl ?_
    exact w_lretP rfl dX0_mixRoofs_107 (by have e0 : k = μ c 0 := (by omega); subst e0; exact ⟨h3, rfl⟩)
  · refine w_ldc2 (31) cl_X0_108 dX0_mixRoofs_10 (by decide) ?_
    refine w_lload_n dX0_mixRoofs_13 rfl ?_
    refine w_lmul dX0_mixRoofs_14 ?_
    refine w_aload_n dX0_mixRoofs_15 rfl ?_
    refine gf_X0_9 rfl (cnO hc) dX0_mixRoofs_16 ?_
    refine w_iload_n dX0_mixRoofs_19 rfl ?_
    refine w_ialdB (CI_kind hI) (cA_kind hc) (by omega) dX0_mixRoofs_20 (fun b20 => ?_)
    refine w_i2l (by omega) dX0_mixRoofs_21 ?_
    refine w_ladd dX0_mixRoofs_22 ?_
    refine w_lstore_n dX0_mixRoofs_23 (by decide) rfl ?_
    refine w_ldc2 (31) cl_X0_108 dX0_mixRoofs_24 (by decide) ?_
    refine w_lload_n dX0_mixRoofs_27 rfl ?_
    refine w_lmul dX0_mixRoofs_28 ?_
    refine w_aload_n dX0_mixRoofs_29 rfl ?_
    refine gf_X0_15 rfl (cnO hc) dX0_mixRoofs_30 ?_
    refine w_iload_n dX0_mixRoofs_33 rfl ?_
    refine w_ialdB (CI_age hI) (cA_age hc) (by omega) dX0_mixRoofs_34 (fun b34 => ?_)
    refine w_i2l (by omega) dX0_mixRoofs_35 ?_
    refine w_ladd dX0_mixRoofs_36 ?_
    refine w_lstore_n dX0_mixRoofs_37 (by decide) rfl ?_
    refine w_iconst dX0_mixRoofs_38 ?_
    refine w_istore dX0_mixRoofs_39 (by decide) rfl ?_
    refine w_loop (ι := Int × Int) (fun i => match i with | (z, i) => 0 ≤ i ∧ i ≤ 4 ∧ z = itI (fun i x => 31 * x + (vw μ c) 3 (4 * k + i)) (31 * (31 * y + (vw μ c) 1 k) + (vw μ c) 2 k) i) (fun i => match i with | (z, i) => (4 - i).toNat) (fun i => match i with | (z, i) => [some (vR c), some (vL z), none, some (vI k), some (vI i)]) (fun i => match i with | (z, i) => μ) ?_ (_, 0) ⟨by omega, by omega, rfl⟩
    intro i_ hinv41 ih41
    obtain ⟨z, i⟩ := i_
    try dsimp only at hinv41 ih41 ⊢
    obtain ⟨g1, g2, g3⟩ := hinv41
    refine w_iload dX0_mixRoofs_41 rfl ?_
    refine w_iconst dX0_mixRoofs_43 ?_
    refine w_icmp_ge (tgt := 72) (by omega) (by omega) dX0_mixRoofs_44 (by decide) (fun h44 => ?_) (fun h44 => ?_)
    · refine w_ldc2 (31) cl_X0_108 dX0_mixRoofs_72 (by decide) ?_
      refine w_lload_n dX0_mixRoofs_75 rfl ?_
      refine w_lmul dX0_mixRoofs_76 ?_
      refine w_aload_n dX0_mixRoofs_77 rfl ?_
      refine gf_X0_21 rfl (cnO hc) dX0_mixRoofs_78 ?_
      refine w_iload_n dX0_mixRoofs_81 rfl ?_
      refine w_ialdB (CI_blue hI) (cA_blue hc) (by omega) dX0_mixRoofs_82 (fun b82 => ?_)
      refine w_i2l (by omega) dX0_mixRoofs_83 ?_
      refine w_ladd dX0_mixRoofs_84 ?_
      refine w_lstore_n dX0_mixRoofs_85 (by decide) rfl ?_
      refine w_ldc2 (31) cl_X0_108 dX0_mixRoofs_86 (by decide) ?_
      refine w_lload_n dX0_mixRoofs_89 rfl ?_
      refine w_lmul dX0_mixRoofs_90 ?_
      refine w_aload_n dX0_mixRoofs_91 rfl ?_
      refine gf_X0_24 rfl (cnO hc) dX0_mixRoofs_92 ?_
      refine w_iload_n dX0_mixRoofs_95 rfl ?_
      refine w_ialdB (CI_brown hI) (cA_brown hc) (by omega) dX0_mixRoofs_96 (fun b96 => ?_)
      refine w_i2l (by omega) dX0_mixRoofs_97 ?_
      refine w_ladd dX0_mixRoofs_98 ?_
      refine w_lstore_n dX0_mixRoofs_99 (by decide) rfl ?_
      refine w_iinc dX0_mixRoofs_100 rfl (by decide) rfl ?_
      refine w_goto (tgt := 2) dX0_mixRoofs_103 (by decide) ?_
      refine w_drop 4 ?_
      exact ih2 (_, _) ⟨by omega, by omega, by rw [itI_s _ _ h1, ← h3]; have e0 : i = 4 := (by omega); subst e0; rw [g3]; rfl⟩ (by omega)
    · refine w_ldc2 (31) cl_X0_108 dX0_mixRoofs_47 (by decide) ?_
      refine w_lload_n dX0_mixRoofs_50 rfl ?_
      refine w_lmul dX0_mixRoofs_51 ?_
      refine w_aload_n dX0_mixRoofs_52 rfl ?_
      refine gf_X0_18 rfl (cnO hc) dX0_mixRoofs_53 ?_
      refine w_iconst dX0_mixRoofs_56 ?_
      refine w_iload_n dX0_mixRoofs_57 rfl ?_
      refine w_imul dX0_mixRoofs_58 ?_
      refine w_iload dX0_mixRoofs_59 rfl ?_
      refine w_iadd dX0_mixRoofs_61 ?_
      refine w_ialdB (CI_cover hI) (cA_cover hc) (by omega) dX0_mixRoofs_62 (fun b62 => ?_)
      refine w_i2l (by omega) dX0_mixRoofs_63 ?_
      refine w_ladd dX0_mixRoofs_64 ?_
      refine w_lstore_n dX0_mixRoofs_65 (by decide) rfl ?_
      refine w_iinc dX0_mixRoofs_66 rfl (by decide) rfl ?_
      refine w_goto (tgt := 41) dX0_mixRoofs_69 (by decide) ?_
      exact ih41 (_, _) ⟨by omega, by omega, by rw [itI_s _ _ g1, ← g3]; rfl⟩ (by omega)
set_option maxRecDepth 100000 in
set_option maxHeartbeats 4000000 in
theorem c_X0_isTold {g : gG} {l : Launch} {μ : gM} {c : Nat} (hc : cn c) {r : Int}  (hI : CI μ c) (hr : 0 ≤ r ∧ r < 7) : CT g l YX0_isTold 0 [vR c, vI r] μ (pI fun e μ2 => ((e = 1 ∧ μ (c + 4) r ≠ -1) ∨ (e = 0 ∧ μ (c + 4) r = -1)) ∧ μ = μ2) := by
  refine CT.of (n := 0) (by decide) rfl ?_
  show WA g l YX0_isTold 0 _ 0 [some (vR c), some (vI r)] [] μ
  refine w_aload_n dX0_isTold_0 rfl ?_
  refine gf_X0_21 rfl (cnO hc) dX0_isTold_1 ?_
  refine w_iload_n dX0_isTold_4 rfl ?_
  refine w_ialdB (CI_blue hI) (cA_blue hc) (by omega) dX0_isTold_5 (fun b5 => ?_)
  refine w_iconst dX0_isTold_6 ?_
  refine w_icmp_eq (tgt := 14) (by omega) (by omega) dX0_isTold_7 (by decide) (fun h7 => ?_) (fun h7 => ?_)
  · refine w_iconst dX0_isTold_14 ?_
    exact w_zretP rfl dX0_isTold_15 (by omega) (by refine ⟨?_, rfl⟩; omega)
  · refine w_iconst dX0_isTold_10 ?_
    refine w_goto (tgt := 15) dX0_isTold_11 (by decide) ?_
    exact w_zretP rfl dX0_isTold_15 (by omega) (by refine ⟨?_, rfl⟩; omega)
set_option maxRecDepth 100000 in
set_option maxHeartbeats 4000000 in
theorem c_X0_breaksAsTold {g : gG} {l : Launch} {μ : gM} {c : Nat} (hc : cn c) {s : Int} {r : Int}  (hI : CI μ c) (hs : 0 ≤ s ∧ s < 6) (hr : 0 ≤ r ∧ r < 7) : CT g l YX0_breaksAsTold 3 [vR c, vI s, vI r] μ (pI fun e μ2 => ((e = 1 ∧ BT (vw μ c) s r) ∨ (e = 0 ∧ ¬ BT (vw μ c) s r)) ∧ μ = μ2) := by
  refine CT.of (n := 0) (by decide) rfl ?_
  show WA g l YX0_breaksAsTold 3 _ 0 [some (vR c), some (vI s), some (vI r)] [] μ
  refine w_aload_n dX0_breaksAsTold_0 rfl ?_
  refine w_iload_n dX0_breaksAsTold_1 rfl ?_
  refine w_iload_n dX0_breaksAsTold_2 rfl ?_
  refine w_iconst dX0_breaksAsTold_3 ?_
  refine w_cV3 kX0_brokenOf ml_X0_80 (cnO hc) rfl (Nat.le_of_ble_eq_true rfl) (by decide) dX0_breaksAsTold_4 (c_X0_brokenOf hc hI (by omega) (by omega) (by omega)) (kI (fun e4 m4 q4 => ?_))
  obtain ⟨rfl, rfl, b4⟩ := q4
  refine w_aload_n dX0_breaksAsTold_7 rfl ?_
  refine gf_X0_21 rfl (cnO hc) dX0_breaksAsTold_8 ?_
  refine w_iload_n dX0_breaksAsTold_11 rfl ?_
  refine w_ialdB (CI_blue hI) (cA_blue hc) (by omega) dX0_breaksAsTold_12 (fun b12 => ?_)
  refine w_icmp_ne (tgt := 36) (by omega) (by omega) dX0_breaksAsTold_13 (by decide) (fun h13 => ?_) (fun h13 => ?_)
  · refine w_iconst dX0_breaksAsTold_36 ?_
    exact w_zretP rfl dX0_breaksAsTold_37 (by omega) (by refine ⟨?_, rfl⟩; first | exact Or.inl ⟨rfl, h13, h29⟩ | exact Or.inr ⟨rfl, fun z => h13 z.1⟩ | exact Or.inr ⟨rfl, fun z => h29 z.2⟩)
  · refine w_aload_n dX0_breaksAsTold_16 rfl ?_
    refine w_iload_n dX0_breaksAsTold_17 rfl ?_
    refine w_iload_n dX0_breaksAsTold_18 rfl ?_
    refine w_iconst dX0_breaksAsTold_19 ?_
    refine w_cV3 kX0_brokenOf ml_X0_80 (cnO hc) rfl (Nat.le_of_ble_eq_true rfl) (by decide) dX0_breaksAsTold_20 (c_X0_brokenOf hc hI (by omega) (by omega) (by omega)) (kI (fun e20 m20 q20 => ?_))
    obtain ⟨rfl, rfl, b20⟩ := q20
    refine w_aload_n dX0_breaksAsTold_23 rfl ?_
    refine gf_X0_24 rfl (cnO hc) dX0_breaksAsTold_24 ?_
    refine w_iload_n dX0_breaksAsTold_27 rfl ?_
    refine w_ialdB (CI_brown hI) (cA_brown hc) (by omega) dX0_breaksAsTold_28 (fun b28 => ?_)
    refine w_icmp_ne (tgt := 36) (by omega) (by omega) dX0_breaksAsTold_29 (by decide) (fun h29 => ?_) (fun h29 => ?_)
    · refine w_iconst dX0_breaksAsTold_36 ?_
      exact w_zretP rfl dX0_breaksAsTold_37 (by omega) (by refine ⟨?_, rfl⟩; first | exact Or.inl ⟨rfl, h13, h29⟩ | exact Or.inr ⟨rfl, fun z => h13 z.1⟩ | exact Or.inr ⟨rfl, fun z => h29 z.2⟩)
    · refine w_iconst dX0_breaksAsTold_32 ?_
      refine w_goto (tgt := 37) dX0_breaksAsTold_33 (by decide) ?_
      exact w_zretP rfl dX0_breaksAsTold_37 (by omega) (by refine ⟨?_, rfl⟩; first | exact Or.inl ⟨rfl, h13, h29⟩ | exact Or.inr ⟨rfl, fun z => h13 z.1⟩ | exact Or.inr ⟨rfl, fun z => h29 z.2⟩)
set_option maxRecDepth 100000 in
set_option maxHeartbeats 4000000 in
theorem c_X0_stormsThatFit {g : gG} {l : Launch} {μ : gM} {c : Nat} (hc : cn c)  (hI : CI μ c) : CT g l YX0_stormsThatFit 4 [vR c] μ (pI fun e μ2 => e = fSt (vw μ c) (μ c 0) (μ c 1) ∧ μ = μ2) := by
  have hN := CI_roofs hI
  have hM := CI_storms hI
  have hV := CI.VI hI
  refine CT.of (n := 4) (by decide) rfl ?_
  show WA g l YX0_stormsThatFit 4 _ 0 [some (vR c), none, none, none, none] [] μ
  refine w_iconst dX0_stormsThatFit_0 ?_
  refine w_istore_n dX0_stormsThatFit_1 (by decide) rfl ?_
  refine w_iconst dX0_stormsThatFit_2 ?_
  refine w_istore_n dX0_stormsThatFit_3 (by decide) rfl ?_
  refine w_loop (ι := Int × Int) (fun i => match i with | (a, k) => 0 ≤ k ∧ k ≤ μ c 1 ∧ a = itI (fun s x => bOr x (@ite _ (fit (vw μ c) (μ c 0) s) (Classical.propDecidable _) (bShl 1 s) 0)) 0 k ∧ (-2147483648 ≤ a ∧ a < 2147483648)) (fun i => match i with | (a, k) => (μ c 1 - k).toNat) (fun i => match i with | (a, k) => [some (vR c), some (vI a), some (vI k), none, none]) (fun i => match i with | (a, k) => μ) ?_ (0, 0) ⟨by omega, by omega, rfl, by omega⟩
  intro i_ hinv4 ih4
  obtain ⟨a, k⟩ := i_
  try dsimp only at hinv4 ih4 ⊢
  obtain ⟨h1, h2, h3, h4⟩ := hinv4
  refine w_iload_n dX0_stormsThatFit_4 rfl ?_
  refine w_aload_n dX0_stormsThatFit_5 rfl ?_
  refine gf_X0_49 rfl (cnO hc) dX0_stormsThatFit_6 ?_
  refine w_icmp_ge (tgt := 77) (by omega) (by omega) dX0_stormsThatFit_9 (by decide) (fun h9 => ?_) (fun h9 => ?_)
  · refine w_iload_n dX0_stormsThatFit_77 rfl ?_
    exact w_iretP rfl dX0_stormsThatFit_78 (by have e0 : k = μ c 1 := (by omega); subst e0; exact ⟨h3, rfl⟩)
  · refine w_iconst dX0_stormsThatFit_12 ?_
    refine w_istore_n dX0_stormsThatFit_13 (by decide) rfl ?_
    refine w_iconst dX0_stormsThatFit_14 ?_
    refine w_istore dX0_stormsThatFit_15 (by decide) rfl ?_
    refine w_loop (ι := Int × Int) (fun i => match i with | (b, r) => 0 ≤ r ∧ r ≤ μ c 0 ∧ ((b = 1 ∧ fit (vw μ c) r k) ∨ (b = 0 ∧ ¬ fit (vw μ c) r k))) (fun i => match i with | (b, r) => (μ c 0 - r).toNat) (fun i => match i with | (b, r) => [some (vR c), some (vI a), some (vI k), some (vI b), some (vI r)]) (fun i => match i with | (b, r) => μ) ?_ (1, 0) ⟨by omega, by omega, Or.inl ⟨rfl, fun r h1 h2 => by omega⟩⟩
    intro i_ hinv17 ih17
    obtain ⟨b, r⟩ := i_
    try dsimp only at hinv17 ih17 ⊢
    obtain ⟨g1, g2, g3⟩ := hinv17
    refine w_iload dX0_stormsThatFit_17 rfl ?_
    refine w_aload_n dX0_stormsThatFit_19 rfl ?_
    refine gf_X0_45 rfl (cnO hc) dX0_stormsThatFit_20 ?_
    refine w_icmp_ge (tgt := 61) (by omega) (by omega) dX0_stormsThatFit_23 (by decide) (fun h23 => ?_) (fun h23 => ?_)
    · refine w_iload_n dX0_stormsThatFit_61 rfl ?_
      refine w_if_eq (tgt := 71) (by omega) dX0_stormsThatFit_62 (by decide) (fun h62 => ?_) (fun h62 => ?_)
      · refine w_iinc dX0_stormsThatFit_71 rfl (by decide) rfl ?_
        refine w_goto (tgt := 4) dX0_stormsThatFit_74 (by decide) ?_
        refine w_drop 3 ?_
        refine w_drop 4 ?_
        have e0 : r = μ c 0 := by omega
        subst e0
        rcases g3 with ⟨x1, x2⟩ | ⟨x1, x2⟩
        · first
          | (exfalso; omega)
          | exact ih4 (bOr a (bShl 1 k), k + 1) ⟨by omega, by omega, by rw [itI_s _ _ h1, ← h3]; dsimp only; rw [if_pos x2], bOr_rg _ _⟩ (by omega)
        · first
          | (exfalso; omega)
          | exact ih4 (a, k + 1) ⟨by omega, by omega, by rw [itI_s _ _ h1, ← h3]; dsimp only; rw [if_neg x2, bOr_0 h4], h4⟩ (by omega)
      · refine w_iload_n dX0_stormsThatFit_65 rfl ?_
        refine w_iconst dX0_stormsThatFit_66 ?_
        refine w_iload_n dX0_stormsThatFit_67 rfl ?_
        refine w_ishl dX0_stormsThatFit_68 ?_
        refine w_ior dX0_stormsThatFit_69 ?_
        refine w_istore_n dX0_stormsThatFit_70 (by decide) rfl ?_
        refine w_iinc dX0_stormsThatFit_71 rfl (by decide) rfl ?_
        refine w_goto (tgt := 4) dX0_stormsThatFit_74 (by decide) ?_
        refine w_drop 3 ?_
        refine w_drop 4 ?_
        have e0 : r = μ c 0 := by omega
        subst e0
        rcases g3 with ⟨x1, x2⟩ | ⟨x1, x2⟩
        · first
          | (exfalso; omega)
          | exact ih4 (bOr a (bShl 1 k), k + 1) ⟨by omega, by omega, by rw [itI_s _ _ h1, ← h3]; dsimp only; rw [if_pos x2], bOr_rg _ _⟩ (by omega)
        · first
          | (exfalso; omega)
          | exact ih4 (a, k + 1) ⟨by omega, by omega, by rw [itI_s _ _ h1, ← h3]; dsimp only; rw [if_neg x2, bOr_0 h4], h4⟩ (by omega)
    · refine w_iload_n dX0_stormsThatFit_26 rfl ?_
      refine w_if_eq (tgt := 53) (by omega) dX0_stormsThatFit_27 (by decide) (fun h27 => ?_) (fun h27 => ?_)
      · refine w_iconst dX0_stormsThatFit_53 ?_
        refine w_istore_n dX0_stormsThatFit_54 (by decide) rfl ?_
        refine w_iinc dX0_stormsThatFit_55 rfl (by decide) rfl ?_
        refine w_goto (tgt := 17) dX0_stormsThatFit_58 (by decide) ?_
        exact ih17 (_, _) ⟨by omega, by omega, by rw [fit_s g1]; simp only [vw_a]; grind⟩ (by omega)
      · refine w_aload_n dX0_stormsThatFit_30 rfl ?_
        refine w_iload dX0_stormsThatFit_31 rfl ?_
        refine w_cV1 kX0_isTold ml_X0_97 (cnO hc) rfl (Nat.le_of_ble_eq_true rfl) (by decide) dX0_stormsThatFit_33 (c_X0_isTold hc hI (by omega)) (kI (fun e33 m33 q33 => ?_))
        obtain ⟨q33, rfl⟩ := q33
        refine w_if_eq (tgt := 49) (by omega) dX0_stormsThatFit_36 (by decide) (fun h36 => ?_) (fun h36 => ?_)
        · refine w_iconst dX0_stormsThatFit_49 ?_
          refine w_goto (tgt := 54) dX0_stormsThatFit_50 (by decide) ?_
          refine w_istore_n dX0_stormsThatFit_54 (by decide) rfl ?_
          refine w_iinc dX0_stormsThatFit_55 rfl (by decide) rfl ?_
          refine w_goto (tgt := 17) dX0_stormsThatFit_58 (by decide) ?_
          exact ih17 (_, _) ⟨by omega, by omega, by rw [fit_s g1]; simp only [vw_a]; grind⟩ (by omega)
        · refine w_aload_n dX0_stormsThatFit_39 rfl ?_
          refine w_iload_n dX0_stormsThatFit_40 rfl ?_
          refine w_iload dX0_stormsThatFit_41 rfl ?_
          refine w_cV2 kX0_breaksAsTold ml_X0_101 (cnO hc) rfl (Nat.le_of_ble_eq_true rfl) (by decide) dX0_stormsThatFit_43 (c_X0_breaksAsTold hc hI (by omega) (by omega)) (kI (fun e43 m43 q43 => ?_))
          obtain ⟨q43, rfl⟩ := q43
          refine w_if_eq (tgt := 53) (by omega) dX0_stormsThatFit_46 (by decide) (fun h46 => ?_) (fun h46 => ?_)
          · refine w_iconst dX0_stormsThatFit_53 ?_
            refine w_istore_n dX0_stormsThatFit_54 (by decide) rfl ?_
            refine w_iinc dX0_stormsThatFit_55 rfl (by decide) rfl ?_
            refine w_goto (tgt := 17) dX0_stormsThatFit_58 (by decide) ?_
            exact ih17 (_, _) ⟨by omega, by omega, by rw [fit_s g1]; simp only [vw_a]; grind⟩ (by omega)
          · refine w_iconst dX0_stormsThatFit_49 ?_
            refine w_goto (tgt := 54) dX0_stormsThatFit_50 (by decide) ?_
            refine w_istore_n dX0_stormsThatFit_54 (by decide) rfl ?_
            refine w_iinc dX0_stormsThatFit_55 rfl (by decide) rfl ?_
            refine w_goto (tgt := 17) dX0_stormsThatFit_58 (by decide) ?_
            exact ih17 (_, _) ⟨by omega, by omega, by rw [fit_s g1]; simp only [vw_a]; grind⟩ (by omega)
set_option maxRecDepth 100000 in
set_option maxHeartbeats 4000000 in
theorem c_X0_roofsByHand {g : gG} {l : Launch} {μ : gM} {c : Nat} (hc : cn c)  (hI : CI μ c) : CT g l YX0_roofsByHand 4 [vR c] μ (pI fun e μ2 => e = fHd (vw μ c) (μ c 0) (μ c 1) ∧ μ = μ2) := by
  have hN := CI_roofs hI
  have hM := CI_storms hI
  have hV := CI.VI hI
  refine CT.of (n := 4) (by decide) rfl ?_
  show WA g l YX0_roofsByHand 4 _ 0 [some (vR c), none, none, none, none] [] μ
  refine w_iconst dX0_roofsByHand_0 ?_
  refine w_istore_n dX0_roofsByHand_1 (by decide) rfl ?_
  refine w_iconst dX0_roofsByHand_2 ?_
  refine w_istore_n dX0_roofsByHand_3 (by decide) rfl ?_
  refine w_loop (ι := Int × Int) (fun i => match i with | (a, k) => 0 ≤ k ∧ k ≤ μ c 0 ∧ a = itI (fun r x => bOr x (@ite _ (hnd (vw μ c) (μ c 1) r) (Classical.propDecidable _) (bShl 1 r) 0)) 0 k ∧ (-2147483648 ≤ a ∧ a < 2147483648)) (fun i => match i with | (a, k) => (μ c 0 - k).toNat) (fun i => match i with | (a, k) => [some (vR c), some (vI a), some (vI k), none, none]) (fun i => match i with | (a, k) => μ) ?_ (0, 0) ⟨by omega, by omega, rfl, by omega⟩
  intro i_ hinv4 ih4
  obtain ⟨a, k⟩ := i_
  try dsimp only at hinv4 ih4 ⊢
  obtain ⟨h1, h2, h3, h4⟩ := hinv4
  refine w_iload_n dX0_roofsByHand_4 rfl ?_
  refine w_aload_n dX0_roofsByHand_5 rfl ?_
  refine gf_X0_45 rfl (cnO hc) dX0_roofsByHand_6 ?_
  refine w_icmp_ge (tgt := 72) (by omega) (by omega) dX0_roofsByHand_9 (by decide) (fun h9 => ?_) (fun h9 => ?_)
  · refine w_iload_n dX0_roofsByHand_72 rfl ?_
    exact w_iretP rfl dX0_roofsByHand_73 (by have e0 : k = μ c 0 := (by omega); subst e0; exact ⟨h3, rfl⟩)
  · refine w_aload_n dX0_roofsByHand_12 rfl ?_
    refine w_iload_n dX0_roofsByHand_13 rfl ?_
    refine w_cV1 kX0_isTold ml_X0_97 (cnO hc) rfl (Nat.le_of_ble_eq_true rfl) (by decide) dX0_roofsByHand_14 (c_X0_isTold hc hI (by omega)) (kI (fun e14 m14 q14 => ?_))
    obtain ⟨q14, rfl⟩ := q14
    refine w_istore_n dX0_roofsByHand_17 (by decide) rfl ?_
    refine w_iconst dX0_roofsByHand_18 ?_
    refine w_istore dX0_roofsByHand_19 (by decide) rfl ?_
    refine w_loop (ι := Int × Int) (fun i => match i with | (b, r) => 0 ≤ r ∧ r ≤ μ c 1 ∧ ((b = 1 ∧ hnd (vw μ c) r k) ∨ (b = 0 ∧ ¬ hnd (vw μ c) r k))) (fun i => match i with | (b, r) => (μ c 1 - r).toNat) (fun i => match i with | (b, r) => [some (vR c), some (vI a), some (vI k), some (vI b), some (vI r)]) (fun i => match i with | (b, r) => μ) ?_ (_, 0) ⟨by omega, by omega, by rw [hnd_0]; simp only [vw_a]; omega⟩
    intro i_ hinv21 ih21
    obtain ⟨b, r⟩ := i_
    try dsimp only at hinv21 ih21 ⊢
    obtain ⟨g1, g2, g3⟩ := hinv21
    refine w_iload dX0_roofsByHand_21 rfl ?_
    refine w_aload_n dX0_roofsByHand_23 rfl ?_
    refine gf_X0_49 rfl (cnO hc) dX0_roofsByHand_24 ?_
    refine w_icmp_ge (tgt := 56) (by omega) (by omega) dX0_roofsByHand_27 (by decide) (fun h27 => ?_) (fun h27 => ?_)
    · refine w_iload_n dX0_roofsByHand_56 rfl ?_
      refine w_if_eq (tgt := 66) (by omega) dX0_roofsByHand_57 (by decide) (fun h57 => ?_) (fun h57 => ?_)
      · refine w_iinc dX0_roofsByHand_66 rfl (by decide) rfl ?_
        refine w_goto (tgt := 4) dX0_roofsByHand_69 (by decide) ?_
        refine w_drop 3 ?_
        refine w_drop 4 ?_
        have e0 : r = μ c 1 := by omega
        subst e0
        rcases g3 with ⟨x1, x2⟩ | ⟨x1, x2⟩
        · first
          | (exfalso; omega)
          | exact ih4 (bOr a (bShl 1 k), k + 1) ⟨by omega, by omega, by rw [itI_s _ _ h1, ← h3]; dsimp only; rw [if_pos x2], bOr_rg _ _⟩ (by omega)
        · first
          | (exfalso; omega)
          | exact ih4 (a, k + 1) ⟨by omega, by omega, by rw [itI_s _ _ h1, ← h3]; dsimp only; rw [if_neg x2, bOr_0 h4], h4⟩ (by omega)
      · refine w_iload_n dX0_roofsByHand_60 rfl ?_
        refine w_iconst dX0_roofsByHand_61 ?_
        refine w_iload_n dX0_roofsByHand_62 rfl ?_
        refine w_ishl dX0_roofsByHand_63 ?_
        refine w_ior dX0_roofsByHand_64 ?_
        refine w_istore_n dX0_roofsByHand_65 (by decide) rfl ?_
        refine w_iinc dX0_roofsByHand_66 rfl (by decide) rfl ?_
        refine w_goto (tgt := 4) dX0_roofsByHand_69 (by decide) ?_
        refine w_drop 3 ?_
        refine w_drop 4 ?_
        have e0 : r = μ c 1 := by omega
        subst e0
        rcases g3 with ⟨x1, x2⟩ | ⟨x1, x2⟩
        · first
          | (exfalso; omega)
          | exact ih4 (bOr a (bShl 1 k), k + 1) ⟨by omega, by omega, by rw [itI_s _ _ h1, ← h3]; dsimp only; rw [if_pos x2], bOr_rg _ _⟩ (by omega)
        · first
          | (exfalso; omega)
          | exact ih4 (a, k + 1) ⟨by omega, by omega, by rw [itI_s _ _ h1, ← h3]; dsimp only; rw [if_neg x2, bOr_0 h4], h4⟩ (by omega)
    · refine w_iload_n dX0_roofsByHand_30 rfl ?_
      refine w_if_eq (tgt := 48) (by omega) dX0_roofsByHand_31 (by decide) (fun h31 => ?_) (fun h31 => ?_)
      · refine w_iconst dX0_roofsByHand_48 ?_
        refine w_istore_n dX0_roofsByHand_49 (by decide) rfl ?_
        refine w_iinc dX0_roofsByHand_50 rfl (by decide) rfl ?_
        refine w_goto (tgt := 21) dX0_roofsByHand_53 (by decide) ?_
        exact ih21 (_, _) ⟨by omega, by omega, by rw [hnd_s g1]; grind⟩ (by omega)
      · refine w_aload_n dX0_roofsByHand_34 rfl ?_
        refine w_iload dX0_roofsByHand_35 rfl ?_
        refine w_iload_n dX0_roofsByHand_37 rfl ?_
        refine w_cV2 kX0_breaksAsTold ml_X0_101 (cnO hc) rfl (Nat.le_of_ble_eq_true rfl) (by decide) dX0_roofsByHand_38 (c_X0_breaksAsTold hc hI (by omega) (by omega)) (kI (fun e38 m38 q38 => ?_))
        obtain ⟨q38, rfl⟩ := q38
        refine w_if_ne (tgt := 48) (by omega) dX0_roofsByHand_41 (by decide) (fun h41 => ?_) (fun h41 => ?_)
        · refine w_iconst dX0_roofsByHand_48 ?_
          refine w_istore_n dX0_roofsByHand_49 (by decide) rfl ?_
          refine w_iinc dX0_roofsByHand_50 rfl (by decide) rfl ?_
          refine w_goto (tgt := 21) dX0_roofsByHand_53 (by decide) ?_
          exact ih21 (_, _) ⟨by omega, by omega, by rw [hnd_s g1]; grind⟩ (by omega)
        · refine w_iconst dX0_roofsByHand_44 ?_
          refine w_goto (tgt := 49) dX0_roofsByHand_45 (by decide) ?_
          refine w_istore_n dX0_roofsByHand_49 (by decide) rfl ?_
          refine w_iinc dX0_roofsByHand_50 rfl (by decide) rfl ?_
          refine w_goto (tgt := 21) dX0_roofsByHand_53 (by decide) ?_
          exact ih21 (_, _) ⟨by omega, by omega, by rw [hnd_s g1]; grind⟩ (by omega)
