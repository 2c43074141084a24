set_option maxRecDepth 100000 in
set_option maxHeartbeats 4000000 in
theorem c_X5_leastOver {g : gG} {l : Launch} {μ : gM}  {v : gV} {n m : Int} (hMV : MV μ v n m) (h19 : ∀ i, 0 ≤ i → i < 4 * n → v 3 i ≤ 19) : CT g l YX5_leastOver 8 [vR 167] μ (pI fun e μ2 => e = fE v n m ∧ μ = μ2 ∧ -54 ≤ fE v n m ∧ fE v n m ≤ 54) := by
  have hMG := hMV.1
  obtain ⟨g1, g2, gV, g4, g5⟩ := id hMG
  have hV := gV.1
  obtain ⟨-, n1, n2, n3, n4⟩ := id hMV
  have hEO := fE_O v n m
  have hEb := fE_bd hV g2 n
  refine CT.of (n := 3) (by decide) rfl ?_
  show WA g l YX5_leastOver 8 _ 0 [some (vR 167), none, none, none] [] μ
  refine w_aload_n dX5_leastOver_0 rfl ?_
  refine w_iconst dX5_leastOver_1 ?_
  refine w_cV1 kX5_chanceOf ml_X5_132 ob_167 rfl (Nat.le_of_ble_eq_true rfl) (by decide) dX5_leastOver_2 (c_X5_chanceOf hMV (by omega)) (kI (fun e2 m2 q2 => ?_))
  obtain ⟨rfl, rfl, b2⟩ := q2
  refine w_aload_n dX5_leastOver_5 rfl ?_
  refine w_iconst dX5_leastOver_6 ?_
  refine w_cV1 kX5_chanceOf ml_X5_132 ob_167 rfl (Nat.le_of_ble_eq_true rfl) (by decide) dX5_leastOver_7 (c_X5_chanceOf hMV (by omega)) (kI (fun e7 m7 q7 => ?_))
  obtain ⟨rfl, rfl, b7⟩ := q7
  refine w_isub dX5_leastOver_10 ?_
  refine w_istore_n dX5_leastOver_11 (by decide) rfl ?_
  rw [← hEO]
  refine w_iconst dX5_leastOver_12 ?_
  refine w_istore_n dX5_leastOver_13 (by decide) rfl ?_
  refine w_loop (ι := Int) (fun k => 0 ≤ k ∧ k ≤ 2 * n) (fun k => (2 * n - k).toNat) (fun k => [some (vR 167), some (vI (fE v n m)), some (vI k), none]) (fun k => μ) ?_ 0 ⟨by omega, by omega⟩
  intro i_ hinv14 ih14
  obtain ⟨k, rfl⟩ : ∃ z, z = i_ := ⟨_, rfl⟩
  try dsimp only at hinv14 ih14 ⊢
  obtain ⟨a1, a2⟩ := hinv14
  refine w_iload_n dX5_leastOver_14 rfl ?_
  refine w_iconst dX5_leastOver_15 ?_
  refine w_aload_n dX5_leastOver_16 rfl ?_
  refine w_cV0 kX5_roofs ml_X5_54 ob_167 rfl (Nat.le_of_ble_eq_true rfl) (by decide) dX5_leastOver_17 (c_X5_roofs) (kI (fun e17 m17 q17 => ?_))
  obtain ⟨rfl, rfl⟩ := q17
  rw [n1]
  refine w_imul dX5_leastOver_20 ?_
  refine w_icmp_ge (tgt := 78) (by omega) (by omega) dX5_leastOver_21 (by decide) (fun h21 => ?_) (fun h21 => ?_)
  · refine w_iload_n dX5_leastOver_78 rfl ?_
    exact w_iretP rfl dX5_leastOver_79 (by exact ⟨rfl, rfl, hEb⟩)
  · refine w_aload_n dX5_leastOver_24 rfl ?_
    refine gf_X5_27 rfl dX5_leastOver_25 ?_
    refine w_iconst dX5_leastOver_28 ?_
    refine w_iload_n dX5_leastOver_29 rfl ?_
    refine w_imul dX5_leastOver_30 ?_
    have hh := n4 (2 * k) (by omega) (by omega)
    have hh1 := n4 (2 * k + 1) (by omega) (by omega)
    have hc0 := hV.2.2.1 (2 * k)
    have hc1 := hV.2.2.1 (2 * k + 1)
    have hd0 := h19 (2 * k) (by omega) (by omega)
    have hd1 := h19 (2 * k + 1) (by omega) (by omega)
    refine w_iald ar_172 (by omega) dX5_leastOver_31 ?_
    refine w_if_le (tgt := 72) (by omega) dX5_leastOver_32 (by decide) (fun h32 => ?_) (fun h32 => ?_)
    · refine w_iinc dX5_leastOver_72 rfl (by decide) rfl ?_
      refine w_goto (tgt := 14) dX5_leastOver_75 (by decide) ?_
      exact ih14 (k + 1) ⟨by omega, by omega⟩ (by omega)
    · refine w_aload_n dX5_leastOver_35 rfl ?_
      refine w_iload_n dX5_leastOver_36 rfl ?_
      refine w_iconst dX5_leastOver_37 ?_
      refine w_iconst dX5_leastOver_38 ?_
      refine w_cV3 kX5_brushOn ml_X5_146 ob_167 rfl (Nat.le_of_ble_eq_true rfl) (by decide) dX5_leastOver_39 (c_X5_brushOn (by omega) (by omega)) (kU (fun m39 q39 => ?_))
      obtain rfl := q39
      have hMB := MV_br (k := k) (who := 1) (x := 1) hMV (by omega) (by rw [← n4 (2 * k + 1) (by omega) (by omega)]; omega) (by rw [show 2 * k + 1 - 1 = 2 * k by omega]; omega)
      have hmo := VL_E (n := n) (m := m) (VL_bv1 (v := v) (n := n) (k := k) (x := 1) (by decide)) hMB.1.2.2.1.1
      have hEO2 := fE_O (bv v k 1 1) n m
      refine w_aload_n dX5_leastOver_42 rfl ?_
      refine w_iconst dX5_leastOver_43 ?_
      refine w_cV1 kX5_chanceOf ml_X5_132 ob_167 rfl (Nat.le_of_ble_eq_true rfl) (by decide) dX5_leastOver_44 (c_X5_chanceOf hMB (by omega)) (kI (fun e44 m44 q44 => ?_))
      obtain ⟨rfl, rfl, b44⟩ := q44
      refine w_aload_n dX5_leastOver_47 rfl ?_
      refine w_iconst dX5_leastOver_48 ?_
      refine w_cV1 kX5_chanceOf ml_X5_132 ob_167 rfl (Nat.le_of_ble_eq_true rfl) (by decide) dX5_leastOver_49 (c_X5_chanceOf hMB (by omega)) (kI (fun e49 m49 q49 => ?_))
      obtain ⟨rfl, rfl, b49⟩ := q49
      refine w_isub dX5_leastOver_52 ?_
      refine w_istore_n dX5_leastOver_53 (by decide) rfl ?_
      refine w_iload_n dX5_leastOver_54 rfl ?_
      refine w_iload_n dX5_leastOver_55 rfl ?_
      refine w_icmp_ge (tgt := 63) (by omega) (by omega) dX5_leastOver_56 (by decide) (fun h56 => ?_) (fun h56 => ?_)
      · refine w_iload_n dX5_leastOver_63 rfl ?_
        refine w_istore_n dX5_leastOver_64 (by decide) rfl ?_
        refine w_aload_n dX5_leastOver_65 rfl ?_
        refine w_iload_n dX5_leastOver_66 rfl ?_
        refine w_iconst dX5_leastOver_67 ?_
        refine w_iconst dX5_leastOver_68 ?_
        refine w_cV3 kX5_brushOn ml_X5_146 ob_167 rfl (Nat.le_of_ble_eq_true rfl) (by decide) dX5_leastOver_69 (c_X5_brushOn (by omega) (by omega)) (kU (fun m69 q69 => ?_))
        obtain rfl := q69
        rw [br_br (by omega) (by omega)]
        refine w_iinc dX5_leastOver_72 rfl (by decide) rfl ?_
        refine w_goto (tgt := 14) dX5_leastOver_75 (by decide) ?_
        refine w_drop 3 ?_
        exact ih14 (k + 1) ⟨by omega, by omega⟩ (by omega)
      · exfalso; omega
set_option maxRecDepth 100000 in
set_option maxHeartbeats 4000000 in
theorem c_X5_against {g : gG} {l : Launch} {μ : gM}  {v : gV} {n m : Int} (hNW : NW μ v n m) (hC : 0 < m → 0 < fC v m) (h9 : ∀ i, 0 ≤ i → i < 4 * n → v 3 i ≤ 9) : CT g l YX5_against 9 [vR 167] μ (pI fun e μ2 => (m = 0 ∧ e = -20 ∧ μ2 = rn μ) ∨ (0 < m ∧ ((0 ≤ e ∧ e < 2 * n ∧ kp v n m e ∧ ∀ j, 0 ≤ j → j < e → ¬ kp v n m j) ∨ (e = -1 ∧ ∀ j, 0 ≤ j → j < 2 * n → ¬ kp v n m j)) ∧ μ2 = frm (tkN μ) (fE v n m) (fC v m))) := by
  have hMG := hNW.1
  obtain ⟨g1, g2, gV, g4, g5⟩ := id hMG
  have hV := gV.1
  obtain ⟨-, n1, n2, n3, n4⟩ := id hNW
  have et : tkN μ 168 = μ 168 := tkN_o (by decide) (by decide)
  refine CT.of (n := 5) (by decide) rfl ?_
  show WA g l YX5_against 9 _ 0 [some (vR 167), none, none, none, none, none] [] μ
  refine w_aload_n dX5_against_0 rfl ?_
  refine w_cV0 kX5_storms ml_X5_62 ob_167 rfl (Nat.le_of_ble_eq_true rfl) (by decide) dX5_against_1 (c_X5_storms) (kI (fun e1 m1 q1 => ?_))
  obtain ⟨rfl, rfl⟩ := q1
  rw [g1]
  refine w_if_ne (tgt := 14) (by omega) dX5_against_4 (by decide) (fun h4 => ?_) (fun h4 => ?_)
  · refine w_aload_n dX5_against_14 rfl ?_
    refine w_cV0 kX5_takeNow ml_X5_121 ob_167 rfl (Nat.le_of_ble_eq_true rfl) (by decide) dX5_against_15 (c_X5_takeNow (by rw [n1]; exact n2)) (kU (fun m15 q15 => ?_))
    obtain rfl := q15
    have hMV := NW_MV hNW
    have hMG := hMV.1
    have nn4 := hMV.2.2.2.2
    have hp3 := hC (by omega)
    have hEb := fE_bd hV g2 n
    refine w_iconst dX5_against_18 ?_
    refine w_istore_n dX5_against_19 (by decide) rfl ?_
    refine w_iconst dX5_against_20 ?_
    refine w_istore_n dX5_against_21 (by decide) rfl ?_
    refine w_iconst dX5_against_22 ?_
    refine w_istore_n dX5_against_23 (by decide) rfl ?_
    refine w_iconst dX5_against_24 ?_
    refine w_istore dX5_against_25 (by decide) rfl ?_
    refine w_loop (ι := Int × Int × Int × Int) (fun i => match i with | (b, t, a, k) => 0 ≤ k ∧ k ≤ 2 * n ∧ (-54 ≤ t ∧ t ≤ 54) ∧ ((a = 0 ∧ b = -1 ∧ t = 0 ∧ (∀ j, 0 ≤ j → j < k → v 3 (2 * j + 1) = 0)) ∨ (a = 1 ∧ 0 ≤ b ∧ b < k ∧ v 3 (2 * b + 1) ≠ 0 ∧ t = fE (pv v b) n m ∧ (∀ j, 0 ≤ j → j < b → v 3 (2 * j + 1) ≠ 0 → fE (pv v j) n m < t) ∧ (∀ j, 0 ≤ j → j < k → v 3 (2 * j + 1) ≠ 0 → fE (pv v j) n m ≤ t)))) (fun i => match i with | (b, t, a, k) => (2 * n - k).toNat) (fun i => match i with | (b, t, a, k) => [some (vR 167), some (vI b), some (vI t), some (vI a), some (vI k), none]) (fun i => match i with | (b, t, a, k) => tkN μ) ?_ (-1, 0, 0, 0) ⟨by omega, by omega, by omega, Or.inl ⟨rfl, rfl, rfl, fun j j1 j2 => by omega⟩⟩
    intro i_ hinv27 ih27
    obtain ⟨b, t, a, k⟩ := i_
    try dsimp only at hinv27 ih27 ⊢
    obtain ⟨a1, a2, at_, a3⟩ := hinv27
    have ha : a = 0 ∨ a = 1 := by rcases a3 with ⟨z, -⟩ | ⟨z, -⟩ <;> omega
    refine w_iload dX5_against_27 rfl ?_
    refine w_iconst dX5_against_29 ?_
    refine w_aload_n dX5_against_30 rfl ?_
    refine w_cV0 kX5_roofs ml_X5_54 ob_167 rfl (Nat.le_of_ble_eq_true rfl) (by decide) dX5_against_31 (c_X5_roofs) (kI (fun e31 m31 q31 => ?_))
    obtain ⟨rfl, rfl⟩ := q31
    rw [et, n1]
    refine w_imul dX5_against_34 ?_
    refine w_icmp_ge (tgt := 98) (by omega) (by omega) dX5_against_35 (by decide) (fun h35 => ?_) (fun h35 => ?_)
    · refine w_aload_n dX5_against_98 rfl ?_
      refine w_cV0 kX5_leastOver ml_X5_156 ob_167 rfl (Nat.le_of_ble_eq_true rfl) (by decide) dX5_against_99 (c_X5_leastOver hMV (fun i i1 i2 => by have y := h9 i i1 i2; omega)) (kI (fun e99 m99 q99 => ?_))
      obtain ⟨rfl, rfl, b99⟩ := q99
      refine w_istore dX5_against_102 (by decide) rfl ?_
      refine w_iload_n dX5_against_104 rfl ?_
      refine w_if_eq (tgt := 114) (by omega) dX5_against_105 (by decide) (fun h105 => ?_) (fun h105 => ?_)
      · refine w_iconst dX5_against_114 ?_
        refine w_istore_n dX5_against_115 (by decide) rfl ?_
        refine w_iload dX5_against_116 rfl ?_
        refine w_istore_n dX5_against_118 (by decide) rfl ?_
        refine w_aload_n dX5_against_119 rfl ?_
        refine w_iload_n dX5_against_120 rfl ?_
        refine w_i2l (by omega) dX5_against_121 ?_
        refine w_aload_n dX5_against_122 rfl ?_
        refine w_cV0 kX5_allChances ml_X5_135 ob_167 rfl (Nat.le_of_ble_eq_true rfl) (by decide) dX5_against_123 (c_X5_allChances hMG) (kI (fun e123 m123 q123 => ?_))
        obtain ⟨rfl, rfl, b123⟩ := q123
        refine w_i2l (by omega) dX5_against_126 ?_
        refine w_cV2 kX5_tell ml_X5_138 ob_167 rfl (Nat.le_of_ble_eq_true rfl) (by decide) dX5_against_127 (c_X5_tell (by omega) (by omega)) (kI (fun e127 m127 q127 => ?_))
        obtain ⟨rfl, rfl⟩ := q127
        refine w_istore dX5_against_130 (by decide) rfl ?_
        refine w_iload_n dX5_against_132 rfl ?_
        exact w_iretP rfl dX5_against_133 (by have ek : k = 2 * n := (by omega); subst ek; refine Or.inr ⟨by omega, Or.inr ⟨rfl, fun j j1 j2 hj => ?_⟩, rfl⟩; rcases a3 with ⟨-, -, -, z⟩ | ⟨za, z1, z2, z3, z4, z5, z6⟩; (exact hj.1 (z j j1 j2)); (have y := z6 j j1 j2 hj.1; have y2 := hj.2; omega))
      · refine w_iload dX5_against_108 rfl ?_
        refine w_iload_n dX5_against_110 rfl ?_
        refine w_icmp_le (tgt := 119) (by omega) (by omega) dX5_against_111 (by decide) (fun h111 => ?_) (fun h111 => ?_)
        · obtain ⟨tt, ett⟩ : ∃ z, z = t := ⟨_, rfl⟩
          refine w_aload_n dX5_against_119 rfl ?_
          refine w_iload_n dX5_against_120 rfl ?_
          refine w_i2l (by omega) dX5_against_121 ?_
          refine w_aload_n dX5_against_122 rfl ?_
          refine w_cV0 kX5_allChances ml_X5_135 ob_167 rfl (Nat.le_of_ble_eq_true rfl) (by decide) dX5_against_123 (c_X5_allChances hMG) (kI (fun e123 m123 q123 => ?_))
          obtain ⟨rfl, rfl, b123⟩ := q123
          refine w_i2l (by omega) dX5_against_126 ?_
          refine w_cV2 kX5_tell ml_X5_138 ob_167 rfl (Nat.le_of_ble_eq_true rfl) (by decide) dX5_against_127 (c_X5_tell (by omega) (by omega)) (kI (fun e127 m127 q127 => ?_))
          obtain ⟨rfl, rfl⟩ := q127
          refine w_istore dX5_against_130 (by decide) rfl ?_
          refine w_iload_n dX5_against_132 rfl ?_
          exact w_iretP rfl dX5_against_133 (by have ek : k = 2 * n := (by omega); subst ek; rcases a3 with ⟨z, -⟩ | ⟨-, z1, z2, z3, z4, z5, z6⟩; (exfalso; omega); have hm := VL_E (n := n) (m := m) (VL_bv0 (v := v) (n := n) (k := b) (x := 1) (by decide)) hV; rw [bv_pv] at hm; have et : t = fE v n m := (by omega); subst et; refine Or.inr ⟨by omega, Or.inl ⟨z1, z2, ⟨z3, z4.symm⟩, fun j j1 j2 hj => ?_⟩, rfl⟩; have y := z5 j j1 j2 hj.1; have y2 := hj.2; omega)
        · refine w_iconst dX5_against_114 ?_
          refine w_istore_n dX5_against_115 (by decide) rfl ?_
          refine w_iload dX5_against_116 rfl ?_
          refine w_istore_n dX5_against_118 (by decide) rfl ?_
          refine w_aload_n dX5_against_119 rfl ?_
          refine w_iload_n dX5_against_120 rfl ?_
          refine w_i2l (by omega) dX5_against_121 ?_
          refine w_aload_n dX5_against_122 rfl ?_
          refine w_cV0 kX5_allChances ml_X5_135 ob_167 rfl (Nat.le_of_ble_eq_true rfl) (by decide) dX5_against_123 (c_X5_allChances hMG) (kI (fun e123 m123 q123 => ?_))
          obtain ⟨rfl, rfl, b123⟩ := q123
          refine w_i2l (by omega) dX5_against_126 ?_
          refine w_cV2 kX5_tell ml_X5_138 ob_167 rfl (Nat.le_of_ble_eq_true rfl) (by decide) dX5_against_127 (c_X5_tell (by omega) (by omega)) (kI (fun e127 m127 q127 => ?_))
          obtain ⟨rfl, rfl⟩ := q127
          refine w_istore dX5_against_130 (by decide) rfl ?_
          refine w_iload_n dX5_against_132 rfl ?_
          exact w_iretP rfl dX5_against_133 (by have ek : k = 2 * n := (by omega); subst ek; refine Or.inr ⟨by omega, Or.inr ⟨rfl, fun j j1 j2 hj => ?_⟩, rfl⟩; rcases a3 with ⟨-, -, -, z⟩ | ⟨za, z1, z2, z3, z4, z5, z6⟩; (exact hj.1 (z j j1 j2)); (have y := z6 j j1 j2 hj.1; have y2 := hj.2; omega))
    · refine w_aload_n dX5_against_38 rfl ?_
      refine gf_X5_27 rfl dX5_against_39 ?_
      refine w_iconst dX5_against_42 ?_
      refine w_iload dX5_against_43 rfl ?_
      refine w_imul dX5_against_45 ?_
      refine w_iconst dX5_against_46 ?_
      refine w_iadd dX5_against_47 ?_
      have hh1 := nn4 (2 * k + 1) (by omega) (by omega)
      have hc0 := hV.2.2.1 (2 * k)
      have hc1 := hV.2.2.1 (2 * k + 1)
      have hd0 := h9 (2 * k) (by omega) (by omega)
      have hd1 := h9 (2 * k + 1) (by omega) (by omega)
      refine w_iald ar_172 (by omega) dX5_against_48 ?_
      refine w_if_le (tgt := 92) (by omega) dX5_against_49 (by decide) (fun h49 => ?_) (fun h49 => ?_)
      · refine w_iinc dX5_against_92 rfl (by decide) rfl ?_
        refine w_goto (tgt := 27) dX5_against_95 (by decide) ?_
        exact ih27 (b, t, a, k + 1) ⟨by dsimp only; omega, by dsimp only; omega, at_, by
          have z0 : v 3 (2 * k + 1) = 0 := by omega
          rcases a3 with ⟨z1, z2, z3, z4⟩ | ⟨z1, z2, z3, z4, z5, z6, z7⟩
          · refine Or.inl ⟨z1, z2, z3, fun j j1 j2 => ?_⟩
            dsimp only at j2
            by_cases ej : j = k
            · rw [ej]; exact z0
            · exact z4 j j1 (by omega)
          · refine Or.inr ⟨z1, z2, by dsimp only; omega, z4, z5, z6, fun j j1 j2 j3 => ?_⟩
            dsimp only at j2
            by_cases ej : j = k
            · rw [ej] at j3; exact absurd z0 j3
            · exact z7 j j1 (by omega) j3⟩ (by dsimp only; omega)
      · refine w_aload_n dX5_against_52 rfl ?_
        refine w_iload dX5_against_53 rfl ?_
        refine w_iconst dX5_against_55 ?_
        refine w_iconst dX5_against_56 ?_
        refine w_cV3 kX5_brushOn ml_X5_146 ob_167 rfl (Nat.le_of_ble_eq_true rfl) (by decide) dX5_against_57 (c_X5_brushOn (by omega) (by omega)) (kU (fun m57 q57 => ?_))
        obtain rfl := q57
        have hMB := MV_br (k := k) (who := 0) (x := 1) hMV (by omega) (by rw [Int.add_zero]; omega) (by rw [show 2 * k + 1 - 0 = 2 * k + 1 by omega]; omega)
        rw [bv_pv] at hMB
        refine w_aload_n dX5_against_60 rfl ?_
        refine w_cV0 kX5_leastOver ml_X5_156 ob_167 rfl (Nat.le_of_ble_eq_true rfl) (by decide) dX5_against_61 (c_X5_leastOver hMB (fun i i1 i2 => by have y := h9 i i1 i2; show pv v k 3 i ≤ 19; unfold pv; (repeat' split) <;> omega)) (kI (fun e61 m61 q61 => ?_))
        obtain ⟨rfl, rfl, b61⟩ := q61
        refine w_istore dX5_against_64 (by decide) rfl ?_
        refine w_aload_n dX5_against_66 rfl ?_
        refine w_iload dX5_against_67 rfl ?_
        refine w_iconst dX5_against_69 ?_
        refine w_iconst dX5_against_70 ?_
        refine w_cV3 kX5_brushOn ml_X5_146 ob_167 rfl (Nat.le_of_ble_eq_true rfl) (by decide) dX5_against_71 (c_X5_brushOn (by omega) (by omega)) (kU (fun m71 q71 => ?_))
        obtain rfl := q71
        rw [br_br (by omega) (by omega)]
        refine w_iload_n dX5_against_74 rfl ?_
        refine w_if_eq (tgt := 84) (by omega) dX5_against_75 (by decide) (fun h75 => ?_) (fun h75 => ?_)
        · refine w_iload dX5_against_84 rfl ?_
          refine w_istore_n dX5_against_86 (by decide) rfl ?_
          refine w_iload dX5_against_87 rfl ?_
          refine w_istore_n dX5_against_89 (by decide) rfl ?_
          refine w_iconst dX5_against_90 ?_
          refine w_istore_n dX5_against_91 (by decide) rfl ?_
          refine w_iinc dX5_against_92 rfl (by decide) rfl ?_
          refine w_goto (tgt := 27) dX5_against_95 (by decide) ?_
          refine w_drop 5 ?_
          exact ih27 (k, fE (pv v k) n m, 1, k + 1) ⟨by dsimp only; omega, by dsimp only; omega, b61, by
            have z0 : v 3 (2 * k + 1) ≠ 0 := by omega
            refine Or.inr ⟨rfl, a1, by dsimp only; omega, z0, rfl, fun j j1 j2 j3 => ?_, fun j j1 j2 j3 => ?_⟩
            · dsimp only at j2 ⊢
              rcases a3 with ⟨z1, z2, z3, z4⟩ | ⟨z1, z2, z3, z4, z5, z6, z7⟩
              · exact absurd (z4 j j1 j2) j3
              · have y := z7 j j1 j2 j3; omega
            · dsimp only at j2 ⊢
              by_cases ej : j = k
              · rw [ej]; omega
              · rcases a3 with ⟨z1, z2, z3, z4⟩ | ⟨z1, z2, z3, z4, z5, z6, z7⟩
                · exact absurd (z4 j j1 (by omega)) j3
                · have y := z7 j j1 (by omega) j3; omega⟩ (by dsimp only; omega)
        · refine w_iload dX5_against_78 rfl ?_
          refine w_iload_n dX5_against_80 rfl ?_
          refine w_icmp_le (tgt := 92) (by omega) (by omega) dX5_against_81 (by decide) (fun h81 => ?_) (fun h81 => ?_)
          · refine w_iinc dX5_against_92 rfl (by decide) rfl ?_
            refine w_goto (tgt := 27) dX5_against_95 (by decide) ?_
            refine w_drop 5 ?_
            exact ih27 (b, t, a, k + 1) ⟨by dsimp only; omega, by dsimp only; omega, at_, by
              have z0 : v 3 (2 * k + 1) ≠ 0 := by omega
              rcases a3 with ⟨z1, z2, z3, z4⟩ | ⟨z1, z2, z3, z4, z5, z6, z7⟩
              · exfalso; omega
              · refine Or.inr ⟨z1, z2, by dsimp only; omega, z4, z5, z6, fun j j1 j2 j3 => ?_⟩
                dsimp only at j2
                by_cases ej : j = k
                · rw [ej]; dsimp only; omega
                · exact z7 j j1 (by omega) j3⟩ (by dsimp only; omega)
          · refine w_iload dX5_against_84 rfl ?_
            refine w_istore_n dX5_against_86 (by decide) rfl ?_
            refine w_iload dX5_against_87 rfl ?_
            refine w_istore_n dX5_against_89 (by decide) rfl ?_
            refine w_iconst dX5_against_90 ?_
            refine w_istore_n dX5_against_91 (by decide) rfl ?_
            refine w_iinc dX5_against_92 rfl (by decide) rfl ?_
            refine w_goto (tgt := 27) dX5_against_95 (by decide) ?_
            refine w_drop 5 ?_
            exact ih27 (k, fE (pv v k) n m, 1, k + 1) ⟨by dsimp only; omega, by dsimp only; omega, b61, by
              have z0 : v 3 (2 * k + 1) ≠ 0 := by omega
              refine Or.inr ⟨rfl, a1, by dsimp only; omega, z0, rfl, fun j j1 j2 j3 => ?_, fun j j1 j2 j3 => ?_⟩
              · dsimp only at j2 ⊢
                rcases a3 with ⟨z1, z2, z3, z4⟩ | ⟨z1, z2, z3, z4, z5, z6, z7⟩
                · exact absurd (z4 j j1 j2) j3
                · have y := z7 j j1 j2 j3; omega
              · dsimp only at j2 ⊢
                by_cases ej : j = k
                · rw [ej]; omega
                · rcases a3 with ⟨z1, z2, z3, z4⟩ | ⟨z1, z2, z3, z4, z5, z6, z7⟩
                  · exact absurd (z4 j j1 (by omega)) j3
                  · have y := z7 j j1 (by omega) j3; omega⟩ (by dsimp only; omega)
  · refine w_aload_n dX5_against_7 rfl ?_
    refine w_bipush dX5_against_8 (by decide) ?_
    refine w_cV1 kX5_no ml_X5_90 ob_167 rfl (Nat.le_of_ble_eq_true rfl) (by decide) dX5_against_10 (c_X5_no) (kI (fun e10 m10 q10 => ?_))
    obtain ⟨rfl, rfl⟩ := q10
    exact w_iretP rfl dX5_against_13 (by first | exact Or.inl (⟨by omega, rfl, rfl⟩) | (exfalso; omega))
set_option maxRecDepth 100000 in
set_option maxHeartbeats 4000000 in
theorem c_X5_shield {g : gG} {l : Launch} {μ : gM} {w : Int} {v : gV} {n m : Int} (r1 : -2147483648 ≤ w ∧ w < 2147483648) (hNW : NW μ v n m) (hC : 0 < m → 0 < fC v m) : CT g l YX5_shield 8 [vR 167, vI w] μ (pI fun e μ2 => (¬ (w = 0 ∨ w = 1) ∧ e = -2 ∧ μ2 = rb μ) ∨ ((w = 0 ∨ w = 1) ∧ m = 0 ∧ e = -3 ∧ μ2 = rn μ) ∨ ((w = 0 ∨ w = 1) ∧ 0 < m ∧ e = (shI v n m w 7).1 ∧ ((e = -1 ∧ μ2 = tkN μ) ∨ (e ≠ -1 ∧ μ2 = frm (tkN μ) (shI v n m w 7).2 (fC v m))))) := by
  have hMG := hNW.1
  obtain ⟨g1, g2, gV, g4, g5⟩ := id hMG
  have hV := gV.1
  obtain ⟨-, n1, n2, n3, n4⟩ := id hNW
  have et : tkN μ 168 = μ 168 := tkN_o (by decide) (by decide)
  refine CT.of (n := 4) (by decide) rfl ?_
  show WA g l YX5_shield 8 _ 0 [some (vR 167), some (vI w), none, none, none, none] [] μ
  refine w_iload_n dX5_shield_0 rfl ?_
  refine w_i2l (by omega) dX5_shield_1 ?_
  refine w_lconst 0 dX5_shield_2 (by decide) ?_
  refine w_lconst 1 dX5_shield_3 (by decide) ?_
  refine w_cS3 kX5_in ml_X5_58 (Nat.le_of_ble_eq_true rfl) (by decide) dX5_shield_4 (c_X5_in (by omega) (by omega) (by omega)) (kI (fun e4 m4 q4 => ?_))
  obtain ⟨q4, rfl⟩ := q4
  refine w_if_ne (tgt := 17) (by omega) dX5_shield_7 (by decide) (fun h7 => ?_) (fun h7 => ?_)
  · refine w_aload_n dX5_shield_17 rfl ?_
    refine w_cV0 kX5_storms ml_X5_62 ob_167 rfl (Nat.le_of_ble_eq_true rfl) (by decide) dX5_shield_18 (c_X5_storms) (kI (fun e18 m18 q18 => ?_))
    obtain ⟨rfl, rfl⟩ := q18
    rw [g1]
    refine w_if_ne (tgt := 31) (by omega) dX5_shield_21 (by decide) (fun h21 => ?_) (fun h21 => ?_)
    · refine w_aload_n dX5_shield_31 rfl ?_
      refine w_cV0 kX5_takeNow ml_X5_121 ob_167 rfl (Nat.le_of_ble_eq_true rfl) (by decide) dX5_shield_32 (c_X5_takeNow (by rw [n1]; exact n2)) (kU (fun m32 q32 => ?_))
      obtain rfl := q32
      have hMV := NW_MV hNW
      have hMG := hMV.1
      have hp3 := hC (by omega)
      refine w_iconst dX5_shield_35 ?_
      refine w_istore_n dX5_shield_36 (by decide) rfl ?_
      refine w_iconst dX5_shield_37 ?_
      refine w_istore_n dX5_shield_38 (by decide) rfl ?_
      refine w_iconst dX5_shield_39 ?_
      refine w_istore dX5_shield_40 (by decide) rfl ?_
      refine w_loop (ι := Int × Int × Int) (fun i => match i with | (b, t, k) => 0 ≤ k ∧ k ≤ 7 ∧ (b, t) = shI v n m w k) (fun i => match i with | (b, t, k) => (7 - k).toNat) (fun i => match i with | (b, t, k) => [some (vR 167), some (vI w), some (vI b), some (vI t), some (vI k), none]) (fun i => match i with | (b, t, k) => tkN μ) ?_ (-1, -1, 0) ⟨by omega, by omega, rfl⟩
      intro i_ hinv42 ih42
      obtain ⟨b, t, k⟩ := i_
      try dsimp only at hinv42 ih42 ⊢
      obtain ⟨a1, a2, a3⟩ := hinv42
      have hsb := shI_bd hV g2 n w k.toNat
      rw [Int.toNat_of_nonneg a1, ← a3] at hsb
      dsimp only at hsb
      refine w_iload dX5_shield_42 rfl ?_
      refine w_bipush dX5_shield_44 (by decide) ?_
      refine w_icmp_ge (tgt := 123) (by omega) (by omega) dX5_shield_46 (by decide) (fun h46 => ?_) (fun h46 => ?_)
      · have e0 : k = 7 := by omega
        subst e0
        have e1 : b = (shI v n m w 7).1 := by rw [← a3]
        have e2 : t = (shI v n m w 7).2 := by rw [← a3]
        refine w_iload_n dX5_shield_123 rfl ?_
        refine w_iconst dX5_shield_124 ?_
        refine w_icmp_ne (tgt := 132) (by omega) (by omega) dX5_shield_125 (by decide) (fun h125 => ?_) (fun h125 => ?_)
        · refine w_aload_n dX5_shield_132 rfl ?_
          refine w_iload_n dX5_shield_133 rfl ?_
          refine w_i2l (by omega) dX5_shield_134 ?_
          refine w_aload_n dX5_shield_135 rfl ?_
          refine w_cV0 kX5_allChances ml_X5_135 ob_167 rfl (Nat.le_of_ble_eq_true rfl) (by decide) dX5_shield_136 (c_X5_allChances hMG) (kI (fun e136 m136 q136 => ?_))
          obtain ⟨rfl, rfl, b136⟩ := q136
          refine w_i2l (by omega) dX5_shield_139 ?_
          refine w_cV2 kX5_tell ml_X5_138 ob_167 rfl (Nat.le_of_ble_eq_true rfl) (by decide) dX5_shield_140 (c_X5_tell (by omega) (by omega)) (kI (fun e140 m140 q140 => ?_))
          obtain ⟨rfl, rfl⟩ := q140
          refine w_istore dX5_shield_143 (by decide) rfl ?_
          refine w_iload_n dX5_shield_145 rfl ?_
          exact w_iretP rfl dX5_shield_146 (by first | exact Or.inr (Or.inr ⟨by omega, by omega, e1, Or.inl ⟨by omega, rfl⟩⟩) | exact Or.inr (Or.inr ⟨by omega, by omega, e1, Or.inr ⟨by omega, by rw [← e2]⟩⟩))
        · refine w_iconst dX5_shield_128 ?_
          refine w_goto (tgt := 143) dX5_shield_129 (by decide) ?_
          refine w_istore dX5_shield_143 (by decide) rfl ?_
          refine w_iload_n dX5_shield_145 rfl ?_
          exact w_iretP rfl dX5_shield_146 (by first | exact Or.inr (Or.inr ⟨by omega, by omega, e1, Or.inl ⟨by omega, rfl⟩⟩) | exact Or.inr (Or.inr ⟨by omega, by omega, e1, Or.inr ⟨by omega, by rw [← e2]⟩⟩))
      · refine w_aload_n dX5_shield_49 rfl ?_
        refine gf_X5_7 rfl dX5_shield_50 ?_
        refine w_bipush dX5_shield_53 (by decide) ?_
        refine w_iload dX5_shield_55 rfl ?_
        refine w_iadd dX5_shield_57 ?_
        skip
        refine w_iald ar_168 (by omega) dX5_shield_58 ?_
        have hg := g5 k (by omega) (by omega)
        have hg2 := hV.2.2.2.2.2 k
        rw [et, hg]
        refine w_if_ne (tgt := 117) (by omega) dX5_shield_59 (by decide) (fun h59 => ?_) (fun h59 => ?_)
        · refine w_iinc dX5_shield_117 rfl (by decide) rfl ?_
          refine w_goto (tgt := 42) dX5_shield_120 (by decide) ?_
          first
          | (exfalso; omega)
          | exact ih42 (b, t, k + 1) ⟨by dsimp only; omega, by dsimp only; omega, by dsimp only; rw [shI_s a1, ← a3]; dsimp only; rw [if_neg (by omega)]⟩ (by dsimp only; omega)
          | exact ih42 (k, fO (gv v k) n m w, k + 1) ⟨by dsimp only; omega, by dsimp only; omega, by dsimp only; rw [shI_s a1, ← a3]; dsimp only; rw [if_pos ⟨h59, by omega⟩]⟩ (by dsimp only; omega)
        · refine w_aload_n dX5_shield_62 rfl ?_
          refine gf_X5_7 rfl dX5_shield_63 ?_
          refine w_bipush dX5_shield_66 (by decide) ?_
          refine w_iload dX5_shield_68 rfl ?_
          refine w_iadd dX5_shield_70 ?_
          refine w_iconst dX5_shield_71 ?_
          refine w_iast ar_168 (by omega) dX5_shield_72 ?_
          have hMB := MV_gv (p := k) hMV (by omega)
          refine w_aload_n dX5_shield_73 rfl ?_
          refine w_iload_n dX5_shield_74 rfl ?_
          refine w_cV1 kX5_chanceOf ml_X5_132 ob_167 rfl (Nat.le_of_ble_eq_true rfl) (by decide) dX5_shield_75 (c_X5_chanceOf hMB (by omega)) (kI (fun e75 m75 q75 => ?_))
          obtain ⟨rfl, rfl, b75⟩ := q75
          refine w_istore dX5_shield_78 (by decide) rfl ?_
          refine w_aload_n dX5_shield_80 rfl ?_
          refine gf_X5_7 rfl dX5_shield_81 ?_
          refine w_bipush dX5_shield_84 (by decide) ?_
          refine w_iload dX5_shield_86 rfl ?_
          refine w_iadd dX5_shield_88 ?_
          refine w_iconst dX5_shield_89 ?_
          refine w_iast ar_168 (by omega) dX5_shield_90 ?_
          rw [wr_wr, wr_same (by rw [et, hg, h59])]
          refine w_iload dX5_shield_91 rfl ?_
          refine w_iload_n dX5_shield_93 rfl ?_
          refine w_icmp_le (tgt := 102) (by omega) (by omega) dX5_shield_94 (by decide) (fun h94 => ?_) (fun h94 => ?_)
          · refine w_iload_n dX5_shield_102 rfl ?_
            refine w_istore_n dX5_shield_103 (by decide) rfl ?_
            refine w_iload dX5_shield_104 rfl ?_
            refine w_iload_n dX5_shield_106 rfl ?_
            refine w_icmp_le (tgt := 115) (by omega) (by omega) dX5_shield_107 (by decide) (fun h107 => ?_) (fun h107 => ?_)
            · refine w_iload_n dX5_shield_115 rfl ?_
              refine w_istore_n dX5_shield_116 (by decide) rfl ?_
              refine w_iinc dX5_shield_117 rfl (by decide) rfl ?_
              refine w_goto (tgt := 42) dX5_shield_120 (by decide) ?_
              refine w_drop 5 ?_
              first
              | (exfalso; omega)
              | exact ih42 (b, t, k + 1) ⟨by dsimp only; omega, by dsimp only; omega, by dsimp only; rw [shI_s a1, ← a3]; dsimp only; rw [if_neg (by omega)]⟩ (by dsimp only; omega)
              | exact ih42 (k, fO (gv v k) n m w, k + 1) ⟨by dsimp only; omega, by dsimp only; omega, by dsimp only; rw [shI_s a1, ← a3]; dsimp only; rw [if_pos ⟨h59, by omega⟩]⟩ (by dsimp only; omega)
            · refine w_iload dX5_shield_110 rfl ?_
              refine w_goto (tgt := 116) dX5_shield_112 (by decide) ?_
              refine w_istore_n dX5_shield_116 (by decide) rfl ?_
              refine w_iinc dX5_shield_117 rfl (by decide) rfl ?_
              refine w_goto (tgt := 42) dX5_shield_120 (by decide) ?_
              refine w_drop 5 ?_
              first
              | (exfalso; omega)
              | exact ih42 (b, t, k + 1) ⟨by dsimp only; omega, by dsimp only; omega, by dsimp only; rw [shI_s a1, ← a3]; dsimp only; rw [if_neg (by omega)]⟩ (by dsimp only; omega)
              | exact ih42 (k, fO (gv v k) n m w, k + 1) ⟨by dsimp only; omega, by dsimp only; omega, by dsimp only; rw [shI_s a1, ← a3]; dsimp only; rw [if_pos ⟨h59, by omega⟩]⟩ (by dsimp only; omega)
          · refine w_iload dX5_shield_97 rfl ?_
            refine w_goto (tgt := 103) dX5_shield_99 (by decide) ?_
            refine w_istore_n dX5_shield_103 (by decide) rfl ?_
            refine w_iload dX5_shield_104 rfl ?_
            refine w_iload_n dX5_shield_106 rfl ?_
            refine w_icmp_le (tgt := 115) (by omega) (by omega) dX5_shield_107 (by decide) (fun h107 => ?_) (fun h107 => ?_)
            · refine w_iload_n dX5_shield_115 rfl ?_
              refine w_istore_n dX5_shield_116 (by decide) rfl ?_
              refine w_iinc dX5_shield_117 rfl (by decide) rfl ?_
              refine w_goto (tgt := 42) dX5_shield_120 (by decide) ?_
              refine w_drop 5 ?_
              first
              | (exfalso; omega)
              | exact ih42 (b, t, k + 1) ⟨by dsimp only; omega, by dsimp only; omega, by dsimp only; rw [shI_s a1, ← a3]; dsimp only; rw [if_neg (by omega)]⟩ (by dsimp only; omega)
              | exact ih42 (k, fO (gv v k) n m w, k + 1) ⟨by dsimp only; omega, by dsimp only; omega, by dsimp only; rw [shI_s a1, ← a3]; dsimp only; rw [if_pos ⟨h59, by omega⟩]⟩ (by dsimp only; omega)
            · refine w_iload dX5_shield_110 rfl ?_
              refine w_goto (tgt := 116) dX5_shield_112 (by decide) ?_
              refine w_istore_n dX5_shield_116 (by decide) rfl ?_
              refine w_iinc dX5_shield_117 rfl (by decide) rfl ?_
              refine w_goto (tgt := 42) dX5_shield_120 (by decide) ?_
              refine w_drop 5 ?_
              first
              | (exfalso; omega)
              | exact ih42 (b, t, k + 1) ⟨by dsimp only; omega, by dsimp only; omega, by dsimp only; rw [shI_s a1, ← a3]; dsimp only; rw [if_neg (by omega)]⟩ (by dsimp only; omega)
              | exact ih42 (k, fO (gv v k) n m w, k + 1) ⟨by dsimp only; omega, by dsimp only; omega, by dsimp only; rw [shI_s a1, ← a3]; dsimp only; rw [if_pos ⟨h59, by omega⟩]⟩ (by dsimp only; omega)
    · refine w_aload_n dX5_shield_24 rfl ?_
      refine w_bipush dX5_shield_25 (by decide) ?_
      refine w_cV1 kX5_no ml_X5_90 ob_167 rfl (Nat.le_of_ble_eq_true rfl) (by decide) dX5_shield_27 (c_X5_no) (kI (fun e27 m27 q27 => ?_))
      obtain ⟨rfl, rfl⟩ := q27
      exact w_iretP rfl dX5_shield_30 (by first | exact Or.inl (⟨by omega, rfl, rfl⟩) | exact Or.inr (Or.inl (⟨by omega, by omega, rfl, rfl⟩)) | (exfalso; omega))
  · refine w_aload_n dX5_shield_10 rfl ?_
    refine w_bipush dX5_shield_11 (by decide) ?_
    refine w_cV1 kX5_bad ml_X5_73 ob_167 rfl (Nat.le_of_ble_eq_true rfl) (by decide) dX5_shield_13 (c_X5_bad) (kI (fun e13 m13 q13 => ?_))
    obtain ⟨rfl, rfl⟩ := q13
    exact w_iretP rfl dX5_shield_16 (by first | exact Or.inl (⟨by omega, rfl, rfl⟩) | exact Or.inr (Or.inl (⟨by omega, by omega, rfl, rfl⟩)) | (exfalso; omega))
