set_option maxRecDepth 100000 in
set_option maxHeartbeats 4000000 in
theorem c_X0_brokenOf {g : gG} {l : Launch} {μ : gM} {c : Nat} (hc : cn c) {s : Int} {r : Int} {w : Int}  (hI : CI μ c) (hs : 0 ≤ s ∧ s < 6) (hr : 0 ≤ r ∧ r < 7) (hw : 0 ≤ w ∧ w ≤ 1) : CT g l YX0_brokenOf 2 [vR c, vI s, vI r, vI w] μ (pI fun e μ2 => e = fB (vw μ c) s r w ∧ μ = μ2 ∧ 0 ≤ fB (vw μ c) s r w ∧ fB (vw μ c) s r w ≤ 36) := by
  refine CT.of (n := 0) (by decide) rfl ?_
  show WA g l YX0_brokenOf 2 _ 0 [some (vR c), some (vI s), some (vI r), some (vI w)] [] μ
  refine w_aload_n dX0_brokenOf_0 rfl ?_
  refine w_iload_n dX0_brokenOf_1 rfl ?_
  refine w_iload_n dX0_brokenOf_2 rfl ?_
  refine w_iconst dX0_brokenOf_3 ?_
  refine w_cV3 kX0_toll ml_X0_74 (cnO hc) rfl (Nat.le_of_ble_eq_true rfl) (by decide) dX0_brokenOf_4 (c_X0_toll hc hI (by omega) (by omega) (by omega)) (kI (fun e4 m4 q4 => ?_))
  obtain ⟨rfl, rfl, b4⟩ := q4
  refine w_aload_n dX0_brokenOf_7 rfl ?_
  refine gf_X0_18 rfl (cnO hc) dX0_brokenOf_8 ?_
  refine w_iload_n dX0_brokenOf_11 rfl ?_
  refine w_iconst dX0_brokenOf_12 ?_
  refine w_iload_n dX0_brokenOf_13 rfl ?_
  refine w_cS3 kX0_row ml_X0_61 (Nat.le_of_ble_eq_true rfl) (by decide) dX0_brokenOf_14 (c_X0_row) (kI (fun e14 m14 q14 => ?_))
  obtain ⟨rfl, rfl⟩ := q14
  refine w_ialdB (CI_cover hI) (cA_cover hc) (by omega) dX0_brokenOf_17 (fun b17 => ?_)
  refine w_min (by omega) (by omega) (by decide) (Nat.le_of_ble_eq_true rfl) ml_X0_77 mt_min_s mt_i mt_min_c dX0_brokenOf_18 ?_
  refine w_aload_n dX0_brokenOf_21 rfl ?_
  refine w_iload_n dX0_brokenOf_22 rfl ?_
  refine w_iload_n dX0_brokenOf_23 rfl ?_
  refine w_iconst dX0_brokenOf_24 ?_
  refine w_cV3 kX0_toll ml_X0_74 (cnO hc) rfl (Nat.le_of_ble_eq_true rfl) (by decide) dX0_brokenOf_25 (c_X0_toll hc hI (by omega) (by omega) (by omega)) (kI (fun e25 m25 q25 => ?_))
  obtain ⟨rfl, rfl, b25⟩ := q25
  refine w_aload_n dX0_brokenOf_28 rfl ?_
  refine gf_X0_18 rfl (cnO hc) dX0_brokenOf_29 ?_
  refine w_iload_n dX0_brokenOf_32 rfl ?_
  refine w_iconst dX0_brokenOf_33 ?_
  refine w_iload_n dX0_brokenOf_34 rfl ?_
  refine w_cS3 kX0_row ml_X0_61 (Nat.le_of_ble_eq_true rfl) (by decide) dX0_brokenOf_35 (c_X0_row) (kI (fun e35 m35 q35 => ?_))
  obtain ⟨rfl, rfl⟩ := q35
  refine w_ialdB (CI_cover hI) (cA_cover hc) (by omega) dX0_brokenOf_38 (fun b38 => ?_)
  refine w_min (by omega) (by omega) (by decide) (Nat.le_of_ble_eq_true rfl) ml_X0_77 mt_min_s mt_i mt_min_c dX0_brokenOf_39 ?_
  refine w_iadd dX0_brokenOf_42 ?_
  exact w_iretP rfl dX0_brokenOf_43 (by exact ⟨rfl, rfl, fB_bd (CI.VI hI) s r w⟩)
set_option maxRecDepth 100000 in
set_option maxHeartbeats 4000000 in
theorem c_X0_brokenInAll {g : gG} {l : Launch} {μ : gM} {c : Nat} (hc : cn c) {s : Int} {w : Int}  (hI : CI μ c) (hs : 0 ≤ s ∧ s < 6) (hw : 0 ≤ w ∧ w ≤ 1) : CT g l YX0_brokenInAll 3 [vR c, vI s, vI w] μ (pI fun e μ2 => e = fA (vw μ c) (μ c 0) s w ∧ μ = μ2 ∧ 0 ≤ fA (vw μ c) (μ c 0) s w ∧ fA (vw μ c) (μ c 0) s w ≤ 252) := by
  have hN := CI_roofs hI
  have hM := CI_storms hI
  have hV := CI.VI hI
  refine CT.of (n := 2) (by decide) rfl ?_
  show WA g l YX0_brokenInAll 3 _ 0 [some (vR c), some (vI s), some (vI w), none, none] [] μ
  refine w_iconst dX0_brokenInAll_0 ?_
  refine w_istore_n dX0_brokenInAll_1 (by decide) rfl ?_
  refine w_iconst dX0_brokenInAll_2 ?_
  refine w_istore dX0_brokenInAll_3 (by decide) rfl ?_
  refine w_loop (ι := Int × Int) (fun i => match i with | (a, k) => 0 ≤ k ∧ k ≤ μ c 0 ∧ a = sI (fun r => fB (vw μ c) s r w) k) (fun i => match i with | (a, k) => (μ c 0 - k).toNat) (fun i => match i with | (a, k) => [some (vR c), some (vI s), some (vI w), some (vI a), some (vI k)]) (fun i => match i with | (a, k) => μ) ?_ (0, 0) ⟨by omega, by omega, rfl⟩
  intro i_ hinv5 ih5
  obtain ⟨a, k⟩ := i_
  try dsimp only at hinv5 ih5 ⊢
  obtain ⟨h1, h2, h3⟩ := hinv5
  refine w_iload dX0_brokenInAll_5 rfl ?_
  refine w_aload_n dX0_brokenInAll_7 rfl ?_
  refine gf_X0_45 rfl (cnO hc) dX0_brokenInAll_8 ?_
  refine w_icmp_ge (tgt := 31) (by omega) (by omega) dX0_brokenInAll_11 (by decide) (fun h11 => ?_) (fun h11 => ?_)
  · refine w_iload_n dX0_brokenInAll_31 rfl ?_
    exact w_iretP rfl dX0_brokenInAll_32 (by have e0 : k = μ c 0 := (by omega); subst e0; exact ⟨h3, rfl, fA_bd hV hN s w⟩)
  · refine w_iload_n dX0_brokenInAll_14 rfl ?_
    refine w_aload_n dX0_brokenInAll_15 rfl ?_
    refine w_iload_n dX0_brokenInAll_16 rfl ?_
    refine w_iload dX0_brokenInAll_17 rfl ?_
    refine w_iload_n dX0_brokenInAll_19 rfl ?_
    refine w_cV3 kX0_brokenOf ml_X0_80 (cnO hc) rfl (Nat.le_of_ble_eq_true rfl) (by decide) dX0_brokenInAll_20 (c_X0_brokenOf hc hI (by omega) (by omega) (by omega)) (kI (fun e20 m20 q20 => ?_))
    obtain ⟨rfl, rfl, b20⟩ := q20
    refine w_iadd dX0_brokenInAll_23 ?_
    refine w_istore_n dX0_brokenInAll_24 (by decide) rfl ?_
    refine w_iinc dX0_brokenInAll_25 rfl (by decide) rfl ?_
    refine w_goto (tgt := 5) dX0_brokenInAll_28 (by decide) ?_
    exact ih5 (_, _) ⟨by omega, by omega, by rw [sI_s _ h1, h3]⟩ (by omega)
set_option maxRecDepth 100000 in
set_option maxHeartbeats 4000000 in
theorem c_X0_lead {g : gG} {l : Launch} {μ : gM} {c : Nat} (hc : cn c) {s : Int}  (hI : CI μ c) (hs : 0 ≤ s ∧ s < 6) : CT g l YX0_lead 3 [vR c, vI s] μ (pI fun e μ2 => e = fL (vw μ c) (μ c 0) s ∧ μ = μ2 ∧ -252 ≤ fL (vw μ c) (μ c 0) s ∧ fL (vw μ c) (μ c 0) s ≤ 252) := by
  have hN := CI_roofs hI
  have hM := CI_storms hI
  have hV := CI.VI hI
  refine CT.of (n := 2) (by decide) rfl ?_
  show WA g l YX0_lead 3 _ 0 [some (vR c), some (vI s), none, none] [] μ
  refine w_iconst dX0_lead_0 ?_
  refine w_istore_n dX0_lead_1 (by decide) rfl ?_
  refine w_iconst dX0_lead_2 ?_
  refine w_istore_n dX0_lead_3 (by decide) rfl ?_
  refine w_loop (ι := Int × Int) (fun i => match i with | (a, k) => 0 ≤ k ∧ k ≤ μ c 0 ∧ a = sI (fun r => fB (vw μ c) s r 0 - fB (vw μ c) s r 1) k) (fun i => match i with | (a, k) => (μ c 0 - k).toNat) (fun i => match i with | (a, k) => [some (vR c), some (vI s), some (vI a), some (vI k)]) (fun i => match i with | (a, k) => μ) ?_ (0, 0) ⟨by omega, by omega, rfl⟩
  intro i_ hinv4 ih4
  obtain ⟨a, k⟩ := i_
  try dsimp only at hinv4 ih4 ⊢
  obtain ⟨h1, h2, h3⟩ := hinv4
  refine w_iload_n dX0_lead_4 rfl ?_
  refine w_aload_n dX0_lead_5 rfl ?_
  refine gf_X0_45 rfl (cnO hc) dX0_lead_6 ?_
  refine w_icmp_ge (tgt := 36) (by omega) (by omega) dX0_lead_9 (by decide) (fun h9 => ?_) (fun h9 => ?_)
  · refine w_iload_n dX0_lead_36 rfl ?_
    exact w_iretP rfl dX0_lead_37 (by have e0 : k = μ c 0 := (by omega); subst e0; exact ⟨h3, rfl, fL_bd hV hN s⟩)
  · refine w_iload_n dX0_lead_12 rfl ?_
    refine w_aload_n dX0_lead_13 rfl ?_
    refine w_iload_n dX0_lead_14 rfl ?_
    refine w_iload_n dX0_lead_15 rfl ?_
    refine w_iconst dX0_lead_16 ?_
    refine w_cV3 kX0_brokenOf ml_X0_80 (cnO hc) rfl (Nat.le_of_ble_eq_true rfl) (by decide) dX0_lead_17 (c_X0_brokenOf hc hI (by omega) (by omega) (by omega)) (kI (fun e17 m17 q17 => ?_))
    obtain ⟨rfl, rfl, b17⟩ := q17
    refine w_aload_n dX0_lead_20 rfl ?_
    refine w_iload_n dX0_lead_21 rfl ?_
    refine w_iload_n dX0_lead_22 rfl ?_
    refine w_iconst dX0_lead_23 ?_
    refine w_cV3 kX0_brokenOf ml_X0_80 (cnO hc) rfl (Nat.le_of_ble_eq_true rfl) (by decide) dX0_lead_24 (c_X0_brokenOf hc hI (by omega) (by omega) (by omega)) (kI (fun e24 m24 q24 => ?_))
    obtain ⟨rfl, rfl, b24⟩ := q24
    refine w_isub dX0_lead_27 ?_
    refine w_iadd dX0_lead_28 ?_
    refine w_istore_n dX0_lead_29 (by decide) rfl ?_
    refine w_iinc dX0_lead_30 rfl (by decide) rfl ?_
    refine w_goto (tgt := 4) dX0_lead_33 (by decide) ?_
    exact ih4 (_, _) ⟨by omega, by omega, by rw [sI_s _ h1, h3]⟩ (by omega)
set_option maxRecDepth 100000 in
set_option maxHeartbeats 4000000 in
theorem c_X0_winnerBy {g : gG} {l : Launch} {μ : gM} {x : Int}  (hx : -2147483648 ≤ x ∧ x < 2147483648) : CT g l YX0_winnerBy 0 [vI x] μ (pI fun e μ2 => e = fW x ∧ μ = μ2 ∧ -1 ≤ fW x ∧ fW x ≤ 1) := by
  refine CT.of (n := 0) (by decide) rfl ?_
  show WA g l YX0_winnerBy 0 _ 0 [some (vI x)] [] μ
  refine w_iload_n dX0_winnerBy_0 rfl ?_
  refine w_if_ne (tgt := 6) (by omega) dX0_winnerBy_1 (by decide) (fun h1 => ?_) (fun h1 => ?_)
  · refine w_iload_n dX0_winnerBy_6 rfl ?_
    refine w_if_le (tgt := 14) (by omega) dX0_winnerBy_7 (by decide) (fun h7 => ?_) (fun h7 => ?_)
    · refine w_iconst dX0_winnerBy_14 ?_
      exact w_iretP rfl dX0_winnerBy_15 (by refine ⟨?_, rfl, fW_bd x⟩; unfold fW; (repeat' split) <;> omega)
    · refine w_iconst dX0_winnerBy_10 ?_
      refine w_goto (tgt := 15) dX0_winnerBy_11 (by decide) ?_
      exact w_iretP rfl dX0_winnerBy_15 (by refine ⟨?_, rfl, fW_bd x⟩; unfold fW; (repeat' split) <;> omega)
  · refine w_iconst dX0_winnerBy_4 ?_
    exact w_iretP rfl dX0_winnerBy_5 (by refine ⟨?_, rfl, fW_bd x⟩; unfold fW; (repeat' split) <;> omega)
set_option maxRecDepth 100000 in
set_option maxHeartbeats 4000000 in
theorem c_X0_isDecidedBy {g : gG} {l : Launch} {μ : gM} {c : Nat} (hc : cn c) {s : Int} {r : Int}  (hI : CI μ c) (hs : 0 ≤ s ∧ s < 6) (hr : 0 ≤ r ∧ r < 7) : CT g l YX0_isDecidedBy 4 [vR c, vI s, vI r] μ (pI fun e μ2 => ((e = 1 ∧ fW (fL (vw μ c) (μ c 0) s) ≠ fW (fL (vw μ c) (μ c 0) s - fB (vw μ c) s r 0 + fB (vw μ c) s r 1)) ∨ (e = 0 ∧ fW (fL (vw μ c) (μ c 0) s) = fW (fL (vw μ c) (μ c 0) s - fB (vw μ c) s r 0 + fB (vw μ c) s r 1))) ∧ μ = μ2) := by
  refine CT.of (n := 2) (by decide) rfl ?_
  show WA g l YX0_isDecidedBy 4 _ 0 [some (vR c), some (vI s), some (vI r), none, none] [] μ
  refine w_aload_n dX0_isDecidedBy_0 rfl ?_
  refine w_iload_n dX0_isDecidedBy_1 rfl ?_
  refine w_cV1 kX0_lead ml_X0_83 (cnO hc) rfl (Nat.le_of_ble_eq_true rfl) (by decide) dX0_isDecidedBy_2 (c_X0_lead hc hI (by omega)) (kI (fun e2 m2 q2 => ?_))
  obtain ⟨rfl, rfl, b2⟩ := q2
  refine w_istore_n dX0_isDecidedBy_5 (by decide) rfl ?_
  refine w_iload_n dX0_isDecidedBy_6 rfl ?_
  refine w_aload_n dX0_isDecidedBy_7 rfl ?_
  refine w_iload_n dX0_isDecidedBy_8 rfl ?_
  refine w_iload_n dX0_isDecidedBy_9 rfl ?_
  refine w_iconst dX0_isDecidedBy_10 ?_
  refine w_cV3 kX0_brokenOf ml_X0_80 (cnO hc) rfl (Nat.le_of_ble_eq_true rfl) (by decide) dX0_isDecidedBy_11 (c_X0_brokenOf hc hI (by omega) (by omega) (by omega)) (kI (fun e11 m11 q11 => ?_))
  obtain ⟨rfl, rfl, b11⟩ := q11
  refine w_isub dX0_isDecidedBy_14 ?_
  refine w_aload_n dX0_isDecidedBy_15 rfl ?_
  refine w_iload_n dX0_isDecidedBy_16 rfl ?_
  refine w_iload_n dX0_isDecidedBy_17 rfl ?_
  refine w_iconst dX0_isDecidedBy_18 ?_
  refine w_cV3 kX0_brokenOf ml_X0_80 (cnO hc) rfl (Nat.le_of_ble_eq_true rfl) (by decide) dX0_isDecidedBy_19 (c_X0_brokenOf hc hI (by omega) (by omega) (by omega)) (kI (fun e19 m19 q19 => ?_))
  obtain ⟨rfl, rfl, b19⟩ := q19
  refine w_iadd dX0_isDecidedBy_22 ?_
  refine w_istore dX0_isDecidedBy_23 (by decide) rfl ?_
  refine w_iload_n dX0_isDecidedBy_25 rfl ?_
  refine w_cS1 kX0_winnerBy ml_X0_87 (Nat.le_of_ble_eq_true rfl) (by decide) dX0_isDecidedBy_26 (c_X0_winnerBy (by omega)) (kI (fun e26 m26 q26 => ?_))
  obtain ⟨rfl, rfl, b26⟩ := q26
  refine w_iload dX0_isDecidedBy_29 rfl ?_
  refine w_cS1 kX0_winnerBy ml_X0_87 (Nat.le_of_ble_eq_true rfl) (by decide) dX0_isDecidedBy_31 (c_X0_winnerBy (by omega)) (kI (fun e31 m31 q31 => ?_))
  obtain ⟨rfl, rfl, b31⟩ := q31
  refine w_icmp_eq (tgt := 41) (by omega) (by omega) dX0_isDecidedBy_34 (by decide) (fun h34 => ?_) (fun h34 => ?_)
  · refine w_iconst dX0_isDecidedBy_41 ?_
    exact w_zretP rfl dX0_isDecidedBy_42 (by omega) (by refine ⟨?_, rfl⟩; omega)
  · refine w_iconst dX0_isDecidedBy_37 ?_
    refine w_goto (tgt := 42) dX0_isDecidedBy_38 (by decide) ?_
    exact w_zretP rfl dX0_isDecidedBy_42 (by omega) (by refine ⟨?_, rfl⟩; omega)
set_option maxRecDepth 100000 in
set_option maxHeartbeats 4000000 in
theorem c_X0_allChances {g : gG} {l : Launch} {μ : gM} {c : Nat} (hc : cn c)  (hI : CI μ c) : CT g l YX0_allChances 0 [vR c] μ (pI fun e μ2 => e = fC (vw μ c) (μ c 1) ∧ μ = μ2 ∧ 0 ≤ fC (vw μ c) (μ c 1) ∧ fC (vw μ c) (μ c 1) ≤ 54) := by
  have hN := CI_roofs hI
  have hM := CI_storms hI
  have hV := CI.VI hI
  refine CT.of (n := 2) (by decide) rfl ?_
  show WA g l YX0_allChances 0 _ 0 [some (vR c), none, none] [] μ
  refine w_iconst dX0_allChances_0 ?_
  refine w_istore_n dX0_allChances_1 (by decide) rfl ?_
  refine w_iconst dX0_allChances_2 ?_
  refine w_istore_n dX0_allChances_3 (by decide) rfl ?_
  refine w_loop (ι := Int × Int) (fun i => match i with | (a, k) => 0 ≤ k ∧ k ≤ μ c 1 ∧ a = sI (fun s => (vw μ c) 10 s) k) (fun i => match i with | (a, k) => (μ c 1 - k).toNat) (fun i => match i with | (a, k) => [some (vR c), some (vI a), some (vI k)]) (fun i => match i with | (a, k) => μ) ?_ (0, 0) ⟨by omega, by omega, rfl⟩
  intro i_ hinv4 ih4
  obtain ⟨a, k⟩ := i_
  try dsimp only at hinv4 ih4 ⊢
  obtain ⟨h1, h2, h3⟩ := hinv4
  refine w_iload_n dX0_allChances_4 rfl ?_
  refine w_aload_n dX0_allChances_5 rfl ?_
  refine gf_X0_49 rfl (cnO hc) dX0_allChances_6 ?_
  refine w_icmp_ge (tgt := 27) (by omega) (by omega) dX0_allChances_9 (by decide) (fun h9 => ?_) (fun h9 => ?_)
  · refine w_iload_n dX0_allChances_27 rfl ?_
    exact w_iretP rfl dX0_allChances_28 (by have e0 : k = μ c 1 := (by omega); subst e0; exact ⟨h3, rfl, fC_bd hV hM⟩)
  · refine w_iload_n dX0_allChances_12 rfl ?_
    refine w_aload_n dX0_allChances_13 rfl ?_
    refine gf_X0_39 rfl (cnO hc) dX0_allChances_14 ?_
    refine w_iload_n dX0_allChances_17 rfl ?_
    refine w_ialdB (CI_chance hI) (cA_chance hc) (by omega) dX0_allChances_18 (fun b18 => ?_)
    refine w_iadd dX0_allChances_19 ?_
    refine w_istore_n dX0_allChances_20 (by decide) rfl ?_
    refine w_iinc dX0_allChances_21 rfl (by decide) rfl ?_
    refine w_goto (tgt := 4) dX0_allChances_24 (by decide) ?_
    exact ih4 (_, _) ⟨by omega, by omega, by rw [sI_s _ h1, h3]; rfl⟩ (by omega)
set_option maxRecDepth 100000 in
set_option maxHeartbeats 4000000 in
theorem c_X0_chancesOf {g : gG} {l : Launch} {μ : gM} {c : Nat} (hc : cn c) {who : Int}  (hI : CI μ c) (hwh : -1 ≤ who ∧ who ≤ 1) : CT g l YX0_chancesOf 4 [vR c, vI who] μ (pI fun e μ2 => e = fO (vw μ c) (μ c 0) (μ c 1) who ∧ μ = μ2 ∧ 0 ≤ fO (vw μ c) (μ c 0) (μ c 1) who ∧ fO (vw μ c) (μ c 0) (μ c 1) who ≤ 54) := by
  have hN := CI_roofs hI
  have hM := CI_storms hI
  have hV := CI.VI hI
  refine CT.of (n := 2) (by decide) rfl ?_
  show WA g l YX0_chancesOf 4 _ 0 [some (vR c), some (vI who), none, none] [] μ
  refine w_iconst dX0_chancesOf_0 ?_
  refine w_istore_n dX0_chancesOf_1 (by decide) rfl ?_
  refine w_iconst dX0_chancesOf_2 ?_
  refine w_istore_n dX0_chancesOf_3 (by decide) rfl ?_
  refine w_loop (ι := Int × Int) (fun i => match i with | (a, k) => 0 ≤ k ∧ k ≤ μ c 1 ∧ a = sI (fun s => if fW (fL (vw μ c) (μ c 0) s) = who then (vw μ c) 10 s else 0) k) (fun i => match i with | (a, k) => (μ c 1 - k).toNat) (fun i => match i with | (a, k) => [some (vR c), some (vI who), some (vI a), some (vI k)]) (fun i => match i with | (a, k) => μ) ?_ (0, 0) ⟨by omega, by omega, rfl⟩
  intro i_ hinv4 ih4
  obtain ⟨a, k⟩ := i_
  try dsimp only at hinv4 ih4 ⊢
  obtain ⟨h1, h2, h3⟩ := hinv4
  refine w_iload_n dX0_chancesOf_4 rfl ?_
  refine w_aload_n dX0_chancesOf_5 rfl ?_
  refine gf_X0_49 rfl (cnO hc) dX0_chancesOf_6 ?_
  refine w_icmp_ge (tgt := 39) (by omega) (by omega) dX0_chancesOf_9 (by decide) (fun h9 => ?_) (fun h9 => ?_)
  · refine w_iload_n dX0_chancesOf_39 rfl ?_
    exact w_iretP rfl dX0_chancesOf_40 (by have e0 : k = μ c 1 := (by omega); subst e0; exact ⟨h3, rfl, fO_bd hV hM _ _⟩)
  · refine w_aload_n dX0_chancesOf_12 rfl ?_
    refine w_iload_n dX0_chancesOf_13 rfl ?_
    refine w_cV1 kX0_lead ml_X0_83 (cnO hc) rfl (Nat.le_of_ble_eq_true rfl) (by decide) dX0_chancesOf_14 (c_X0_lead hc hI (by omega)) (kI (fun e14 m14 q14 => ?_))
    obtain ⟨rfl, rfl, b14⟩ := q14
    refine w_cS1 kX0_winnerBy ml_X0_87 (Nat.le_of_ble_eq_true rfl) (by decide) dX0_chancesOf_17 (c_X0_winnerBy (by omega)) (kI (fun e17 m17 q17 => ?_))
    obtain ⟨rfl, rfl, b17⟩ := q17
    refine w_iload_n dX0_chancesOf_20 rfl ?_
    refine w_icmp_ne (tgt := 33) (by omega) (by omega) dX0_chancesOf_21 (by decide) (fun h21 => ?_) (fun h21 => ?_)
    · refine w_iinc dX0_chancesOf_33 rfl (by decide) rfl ?_
      refine w_goto (tgt := 4) dX0_chancesOf_36 (by decide) ?_
      exact ih4 (_, _) ⟨by omega, by omega, by rw [sI_s _ h1, ← h3]; simp only [vw_a]; split <;> omega⟩ (by omega)
    · refine w_iload_n dX0_chancesOf_24 rfl ?_
      refine w_aload_n dX0_chancesOf_25 rfl ?_
      refine gf_X0_39 rfl (cnO hc) dX0_chancesOf_26 ?_
      refine w_iload_n dX0_chancesOf_29 rfl ?_
      refine w_ialdB (CI_chance hI) (cA_chance hc) (by omega) dX0_chancesOf_30 (fun b30 => ?_)
      refine w_iadd dX0_chancesOf_31 ?_
      refine w_istore_n dX0_chancesOf_32 (by decide) rfl ?_
      refine w_iinc dX0_chancesOf_33 rfl (by decide) rfl ?_
      refine w_goto (tgt := 4) dX0_chancesOf_36 (by decide) ?_
      exact ih4 (_, _) ⟨by omega, by omega, by rw [sI_s _ h1, ← h3]; simp only [vw_a]; split <;> omega⟩ (by omega)
set_option maxRecDepth 100000 in
set_option maxHeartbeats 4000000 in
theorem c_X0_edgeOfBlue {g : gG} {l : Launch} {μ : gM} {c : Nat} (hc : cn c)  (hI : CI μ c) : CT g l YX0_edgeOfBlue 4 [vR c] μ (pI fun e μ2 => e = fE (vw μ c) (μ c 0) (μ c 1) ∧ μ = μ2 ∧ -54 ≤ fE (vw μ c) (μ c 0) (μ c 1) ∧ fE (vw μ c) (μ c 0) (μ c 1) ≤ 54) := by
  have hN := CI_roofs hI
  have hM := CI_storms hI
  have hV := CI.VI hI
  refine CT.of (n := 3) (by decide) rfl ?_
  show WA g l YX0_edgeOfBlue 4 _ 0 [some (vR c), none, none, none] [] μ
  refine w_iconst dX0_edgeOfBlue_0 ?_
  refine w_istore_n dX0_edgeOfBlue_1 (by decide) rfl ?_
  refine w_iconst dX0_edgeOfBlue_2 ?_
  refine w_istore_n dX0_edgeOfBlue_3 (by decide) rfl ?_
  refine w_loop (ι := Int × Int) (fun i => match i with | (a, k) => 0 ≤ k ∧ k ≤ μ c 1 ∧ a = sI (fun s => if fL (vw μ c) (μ c 0) s < 0 then (vw μ c) 10 s else if 0 < fL (vw μ c) (μ c 0) s then - (vw μ c) 10 s else 0) k) (fun i => match i with | (a, k) => (μ c 1 - k).toNat) (fun i => match i with | (a, k) => [some (vR c), some (vI a), some (vI k), none]) (fun i => match i with | (a, k) => μ) ?_ (0, 0) ⟨by omega, by omega, rfl⟩
  intro i_ hinv4 ih4
  obtain ⟨a, k⟩ := i_
  try dsimp only at hinv4 ih4 ⊢
  obtain ⟨h1, h2, h3⟩ := hinv4
  refine w_iload_n dX0_edgeOfBlue_4 rfl ?_
  refine w_aload_n dX0_edgeOfBlue_5 rfl ?_
  refine gf_X0_49 rfl (cnO hc) dX0_edgeOfBlue_6 ?_
  refine w_icmp_ge (tgt := 53) (by omega) (by omega) dX0_edgeOfBlue_9 (by decide) (fun h9 => ?_) (fun h9 => ?_)
  · refine w_iload_n dX0_edgeOfBlue_53 rfl ?_
    exact w_iretP rfl dX0_edgeOfBlue_54 (by have e0 : k = μ c 1 := (by omega); subst e0; exact ⟨h3, rfl, fE_bd hV hM _⟩)
  · refine w_aload_n dX0_edgeOfBlue_12 rfl ?_
    refine w_iload_n dX0_edgeOfBlue_13 rfl ?_
    refine w_cV1 kX0_lead ml_X0_83 (cnO hc) rfl (Nat.le_of_ble_eq_true rfl) (by decide) dX0_edgeOfBlue_14 (c_X0_lead hc hI (by omega)) (kI (fun e14 m14 q14 => ?_))
    obtain ⟨rfl, rfl, b14⟩ := q14
    refine w_istore_n dX0_edgeOfBlue_17 (by decide) rfl ?_
    refine w_iload_n dX0_edgeOfBlue_18 rfl ?_
    refine w_if_ge (tgt := 34) (by omega) dX0_edgeOfBlue_19 (by decide) (fun h19 => ?_) (fun h19 => ?_)
    · refine w_iload_n dX0_edgeOfBlue_34 rfl ?_
      refine w_if_le (tgt := 47) (by omega) dX0_edgeOfBlue_35 (by decide) (fun h35 => ?_) (fun h35 => ?_)
      · refine w_iinc dX0_edgeOfBlue_47 rfl (by decide) rfl ?_
        refine w_goto (tgt := 4) dX0_edgeOfBlue_50 (by decide) ?_
        refine w_drop 3 ?_
        exact ih4 (_, _) ⟨by omega, by omega, by rw [sI_s _ h1, ← h3]; simp only [vw_a]; (repeat' split) <;> omega⟩ (by omega)
      · refine w_iload_n dX0_edgeOfBlue_38 rfl ?_
        refine w_aload_n dX0_edgeOfBlue_39 rfl ?_
        refine gf_X0_39 rfl (cnO hc) dX0_edgeOfBlue_40 ?_
        refine w_iload_n dX0_edgeOfBlue_43 rfl ?_
        refine w_ialdB (CI_chance hI) (cA_chance hc) (by omega) dX0_edgeOfBlue_44 (fun b44 => ?_)
        refine w_isub dX0_edgeOfBlue_45 ?_
        refine w_istore_n dX0_edgeOfBlue_46 (by decide) rfl ?_
        refine w_iinc dX0_edgeOfBlue_47 rfl (by decide) rfl ?_
        refine w_goto (tgt := 4) dX0_edgeOfBlue_50 (by decide) ?_
        refine w_drop 3 ?_
        exact ih4 (_, _) ⟨by omega, by omega, by rw [sI_s _ h1, ← h3]; simp only [vw_a]; (repeat' split) <;> omega⟩ (by omega)
    · refine w_iload_n dX0_edgeOfBlue_22 rfl ?_
      refine w_aload_n dX0_edgeOfBlue_23 rfl ?_
      refine gf_X0_39 rfl (cnO hc) dX0_edgeOfBlue_24 ?_
      refine w_iload_n dX0_edgeOfBlue_27 rfl ?_
      refine w_ialdB (CI_chance hI) (cA_chance hc) (by omega) dX0_edgeOfBlue_28 (fun b28 => ?_)
      refine w_iadd dX0_edgeOfBlue_29 ?_
      refine w_istore_n dX0_edgeOfBlue_30 (by decide) rfl ?_
      refine w_goto (tgt := 47) dX0_edgeOfBlue_31 (by decide) ?_
      refine w_iinc dX0_edgeOfBlue_47 rfl (by decide) rfl ?_
      refine w_goto (tgt := 4) dX0_edgeOfBlue_50 (by decide) ?_
      refine w_drop 3 ?_
      exact ih4 (_, _) ⟨by omega, by omega, by rw [sI_s _ h1, ← h3]; simp only [vw_a]; (repeat' split) <;> omega⟩ (by omega)
set_option maxRecDepth 100000 in
set_option maxHeartbeats 4000000 in
theorem c_X0_chancesWithGun {g : gG} {l : Launch} {μ : gM} {c : Nat} (hc : cn c) {p : Int} {who : Int}  (hI : CI μ c) (hp : 0 ≤ p ∧ p < 7) (hwh : -1 ≤ who ∧ who ≤ 1) (hz : μ (c + 11) p = 0) : CT g l YX0_chancesWithGun 5 [vR c, vI p, vI who] μ (pI fun e μ2 => e = fO (vw (wr μ (c + 11) p 1) c) (μ c 0) (μ c 1) who ∧ μ = μ2 ∧ 0 ≤ fO (vw (wr μ (c + 11) p 1) c) (μ c 0) (μ c 1) who ∧ fO (vw (wr μ (c + 11) p 1) c) (μ c 0) (μ c 1) who ≤ 54) := by
  have hI1 : CI (wr μ (c + 11) p 1) c := CI_guns_wr hI (by decide)
  have e0 : wr μ (c + 11) p 1 c = μ c := wr_o (by omega)
  refine CT.of (n := 1) (by decide) rfl ?_
  show WA g l YX0_chancesWithGun 5 _ 0 [some (vR c), some (vI p), some (vI who), none] [] μ
  refine w_aload_n dX0_chancesWithGun_0 rfl ?_
  refine gf_X0_42 rfl (cnO hc) dX0_chancesWithGun_1 ?_
  refine w_iload_n dX0_chancesWithGun_4 rfl ?_
  refine w_iconst dX0_chancesWithGun_5 ?_
  refine w_iast (cA_guns hc) (by omega) dX0_chancesWithGun_6 ?_
  refine w_aload_n dX0_chancesWithGun_7 rfl ?_
  refine w_iload_n dX0_chancesWithGun_8 rfl ?_
  refine w_cV1 kX0_chancesOf ml_X0_90 (cnO hc) rfl (Nat.le_of_ble_eq_true rfl) (by decide) dX0_chancesWithGun_9 (c_X0_chancesOf hc hI1 (by omega)) (kI (fun e9 m9 q9 => ?_))
  obtain ⟨rfl, rfl, b9⟩ := q9
  rw [e0] at b9 ⊢
  refine w_istore_n dX0_chancesWithGun_12 (by decide) rfl ?_
  refine w_aload_n dX0_chancesWithGun_13 rfl ?_
  refine gf_X0_42 rfl (cnO hc) dX0_chancesWithGun_14 ?_
  refine w_iload_n dX0_chancesWithGun_17 rfl ?_
  refine w_iconst dX0_chancesWithGun_18 ?_
  refine w_iast (cA_guns hc) (by omega) dX0_chancesWithGun_19 ?_
  refine w_iload_n dX0_chancesWithGun_20 rfl ?_
  exact w_iretP rfl dX0_chancesWithGun_21 (by rw [wr_wr, wr_same hz]; exact ⟨rfl, rfl, b9⟩)
set_option maxRecDepth 100000 in
set_option maxHeartbeats 4000000 in
theorem c_X0_keepsEdge {g : gG} {l : Launch} {μ : gM} {c : Nat} (hc : cn c) {k : Int} {x : Int}  (hI : CI μ c) (hk : 0 ≤ k ∧ k < 14) (hx : -100 ≤ x ∧ x ≤ 100) (hcv : μ (c + 3) (4 * 0 + 2 * k + 0) ≤ 19) : CT g l YX0_keepsEdge 5 [vR c, vI k, vI x] μ (pI fun e μ2 => ((e = 1 ∧ μ (c + 3) (4 * 0 + 2 * k + 1) ≠ 0 ∧ fE (vw (wr (wr μ (c + 3) (4 * 0 + 2 * k + 1) (μ (c + 3) (4 * 0 + 2 * k + 1) - 1)) (c + 3) (4 * 0 + 2 * k + 0) (μ (c + 3) (4 * 0 + 2 * k + 0) + 1)) c) (μ c 0) (μ c 1) = x) ∨ (e = 0 ∧ (μ (c + 3) (4 * 0 + 2 * k + 1) = 0 ∨ fE (vw (wr (wr μ (c + 3) (4 * 0 + 2 * k + 1) (μ (c + 3) (4 * 0 + 2 * k + 1) - 1)) (c + 3) (4 * 0 + 2 * k + 0) (μ (c + 3) (4 * 0 + 2 * k + 0) + 1)) c) (μ c 0) (μ c 1) ≠ x))) ∧ μ = μ2) := by
  refine CT.of (n := 3) (by decide) rfl ?_
  show WA g l YX0_keepsEdge 5 _ 0 [some (vR c), some (vI k), some (vI x), none, none, none] [] μ
  refine w_iconst dX0_keepsEdge_0 ?_
  refine w_iload_n dX0_keepsEdge_1 rfl ?_
  refine w_iconst dX0_keepsEdge_2 ?_
  refine w_cS3 kX0_row ml_X0_61 (Nat.le_of_ble_eq_true rfl) (by decide) dX0_keepsEdge_3 (c_X0_row) (kI (fun e3 m3 q3 => ?_))
  obtain ⟨rfl, rfl⟩ := q3
  refine w_istore_n dX0_keepsEdge_6 (by decide) rfl ?_
  refine w_iconst dX0_keepsEdge_7 ?_
  refine w_iload_n dX0_keepsEdge_8 rfl ?_
  refine w_iconst dX0_keepsEdge_9 ?_
  refine w_cS3 kX0_row ml_X0_61 (Nat.le_of_ble_eq_true rfl) (by decide) dX0_keepsEdge_10 (c_X0_row) (kI (fun e10 m10 q10 => ?_))
  obtain ⟨rfl, rfl⟩ := q10
  refine w_istore dX0_keepsEdge_13 (by decide) rfl ?_
  refine w_aload_n dX0_keepsEdge_15 rfl ?_
  refine gf_X0_18 rfl (cnO hc) dX0_keepsEdge_16 ?_
  refine w_iload dX0_keepsEdge_19 rfl ?_
  refine w_ialdB (CI_cover hI) (cA_cover hc) (by omega) dX0_keepsEdge_21 (fun b21 => ?_)
  refine w_if_ne (tgt := 27) (by omega) dX0_keepsEdge_22 (by decide) (fun h22 => ?_) (fun h22 => ?_)
  · have hI1 : CI (wr μ (c + 3) (4 * 0 + 2 * k + 1) (μ (c + 3) (4 * 0 + 2 * k + 1) - 1)) c := CI_cover_wr hI (by omega)
    have hnn : (4 * 0 + 2 * k + 0 : Int) ≠ 4 * 0 + 2 * k + 1 := by omega
    have ew : wr μ (c + 3) (4 * 0 + 2 * k + 1) (μ (c + 3) (4 * 0 + 2 * k + 1) - 1) (c + 3) (4 * 0 + 2 * k + 0) = μ (c + 3) (4 * 0 + 2 * k + 0) := wr_n hnn
    have hb0 := CI_cover hI (4 * 0 + 2 * k + 0)
    have hb1 := hcv
    refine w_aload_n dX0_keepsEdge_27 rfl ?_
    refine gf_X0_18 rfl (cnO hc) dX0_keepsEdge_28 ?_
    refine w_iload dX0_keepsEdge_31 rfl ?_
    refine w_dup2 dX0_keepsEdge_33 ?_
    refine w_iald (cA_cover hc) (by omega) dX0_keepsEdge_34 ?_
    refine w_iconst dX0_keepsEdge_35 ?_
    refine w_isub dX0_keepsEdge_36 ?_
    refine w_iast (cA_cover hc) (by omega) dX0_keepsEdge_37 ?_
    refine w_aload_n dX0_keepsEdge_38 rfl ?_
    refine gf_X0_18 rfl (cnO hc) dX0_keepsEdge_39 ?_
    refine w_iload_n dX0_keepsEdge_42 rfl ?_
    refine w_dup2 dX0_keepsEdge_43 ?_
    refine w_iald (cA_cover hc) (by omega) dX0_keepsEdge_44 ?_
    refine w_iconst dX0_keepsEdge_45 ?_
    refine w_iadd dX0_keepsEdge_46 ?_
    refine w_iast (cA_cover hc) (by omega) dX0_keepsEdge_47 ?_
    have hI2 := CI_cover_wr (i := 4 * 0 + 2 * k + 0) (x := wr μ (c + 3) (4 * 0 + 2 * k + 1) (μ (c + 3) (4 * 0 + 2 * k + 1) - 1) (c + 3) (4 * 0 + 2 * k + 0) + 1) hI1 (by omega)
    have e0 : ∀ (y : Int), wr (wr μ (c + 3) (4 * 0 + 2 * k + 1) (μ (c + 3) (4 * 0 + 2 * k + 1) - 1)) (c + 3) (4 * 0 + 2 * k + 0) y c = μ c := fun y => (wr_o (by omega)).trans (wr_o (by omega))
    refine w_aload_n dX0_keepsEdge_48 rfl ?_
    refine w_cV0 kX0_edgeOfBlue ml_X0_93 (cnO hc) rfl (Nat.le_of_ble_eq_true rfl) (by decide) dX0_keepsEdge_49 (c_X0_edgeOfBlue hc hI2) (kI (fun e49 m49 q49 => ?_))
    obtain ⟨rfl, rfl, b49⟩ := q49
    rw [e0] at b49 ⊢
    refine w_iload_n dX0_keepsEdge_52 rfl ?_
    refine w_icmp_ne (tgt := 60) (by omega) (by omega) dX0_keepsEdge_53 (by decide) (fun h53 => ?_) (fun h53 => ?_)
    · refine w_iconst dX0_keepsEdge_60 ?_
      refine w_istore dX0_keepsEdge_61 (by decide) rfl ?_
      refine w_aload_n dX0_keepsEdge_63 rfl ?_
      refine gf_X0_18 rfl (cnO hc) dX0_keepsEdge_64 ?_
      refine w_iload_n dX0_keepsEdge_67 rfl ?_
      refine w_dup2 dX0_keepsEdge_68 ?_
      refine w_iald (cA_cover hc) (by omega) dX0_keepsEdge_69 ?_
      refine w_iconst dX0_keepsEdge_70 ?_
      refine w_isub dX0_keepsEdge_71 ?_
      refine w_iast (cA_cover hc) (by omega) dX0_keepsEdge_72 ?_
      refine w_aload_n dX0_keepsEdge_73 rfl ?_
      refine gf_X0_18 rfl (cnO hc) dX0_keepsEdge_74 ?_
      refine w_iload dX0_keepsEdge_77 rfl ?_
      refine w_dup2 dX0_keepsEdge_79 ?_
      refine w_iald (cA_cover hc) (by omega) dX0_keepsEdge_80 ?_
      refine w_iconst dX0_keepsEdge_81 ?_
      refine w_iadd dX0_keepsEdge_82 ?_
      refine w_iast (cA_cover hc) (by omega) dX0_keepsEdge_83 ?_
      refine w_iload dX0_keepsEdge_84 rfl ?_
      exact w_zretP rfl dX0_keepsEdge_86 (by omega) (by rw [wr_restore hnn]; refine ⟨?_, rfl⟩; rw [ew] at h53; omega)
    · refine w_iconst dX0_keepsEdge_56 ?_
      refine w_goto (tgt := 61) dX0_keepsEdge_57 (by decide) ?_
      refine w_istore dX0_keepsEdge_61 (by decide) rfl ?_
      refine w_aload_n dX0_keepsEdge_63 rfl ?_
      refine gf_X0_18 rfl (cnO hc) dX0_keepsEdge_64 ?_
      refine w_iload_n dX0_keepsEdge_67 rfl ?_
      refine w_dup2 dX0_keepsEdge_68 ?_
      refine w_iald (cA_cover hc) (by omega) dX0_keepsEdge_69 ?_
      refine w_iconst dX0_keepsEdge_70 ?_
      refine w_isub dX0_keepsEdge_71 ?_
      refine w_iast (cA_cover hc) (by omega) dX0_keepsEdge_72 ?_
      refine w_aload_n dX0_keepsEdge_73 rfl ?_
      refine gf_X0_18 rfl (cnO hc) dX0_keepsEdge_74 ?_
      refine w_iload dX0_keepsEdge_77 rfl ?_
      refine w_dup2 dX0_keepsEdge_79 ?_
      refine w_iald (cA_cover hc) (by omega) dX0_keepsEdge_80 ?_
      refine w_iconst dX0_keepsEdge_81 ?_
      refine w_iadd dX0_keepsEdge_82 ?_
      refine w_iast (cA_cover hc) (by omega) dX0_keepsEdge_83 ?_
      refine w_iload dX0_keepsEdge_84 rfl ?_
      exact w_zretP rfl dX0_keepsEdge_86 (by omega) (by rw [wr_restore hnn]; refine ⟨?_, rfl⟩; rw [ew] at h53; omega)
  · refine w_iconst dX0_keepsEdge_25 ?_
    exact w_zretP rfl dX0_keepsEdge_26 (by omega) (by refine ⟨?_, rfl⟩; omega)
set_option maxRecDepth 100000 in
set_option maxHeartbeats 4000000 in
theorem c_X0_allGuns {g : gG} {l : Launch} {μ : gM} {c : Nat} (hc : cn c)  (hI : CI μ c) : CT g l YX0_allGuns 0 [vR c] μ (pI fun e μ2 => e = sI (fun k => (vw μ c) 11 k) 7 ∧ μ = μ2) := by
  refine CT.of (n := 2) (by decide) rfl ?_
  show WA g l YX0_allGuns 0 _ 0 [some (vR c), none, none] [] μ
  refine w_iconst dX0_allGuns_0 ?_
  refine w_istore_n dX0_allGuns_1 (by decide) rfl ?_
  refine w_iconst dX0_allGuns_2 ?_
  refine w_istore_n dX0_allGuns_3 (by decide) rfl ?_
  refine w_loop (ι := Int × Int) (fun i => match i with | (a, k) => 0 ≤ k ∧ k ≤ 7 ∧ a = sI (fun k => (vw μ c) 11 k) k) (fun i => match i with | (a, k) => (7 - k).toNat) (fun i => match i with | (a, k) => [some (vR c), some (vI a), some (vI k)]) (fun i => match i with | (a, k) => μ) ?_ (0, 0) ⟨by omega, by omega, rfl⟩
  intro i_ hinv4 ih4
  obtain ⟨a, k⟩ := i_
  try dsimp only at hinv4 ih4 ⊢
  obtain ⟨h1, h2, h3⟩ := hinv4
  refine w_iload_n dX0_allGuns_4 rfl ?_
  refine w_bipush dX0_allGuns_5 (by decide) ?_
  refine w_icmp_ge (tgt := 25) (by omega) (by omega) dX0_allGuns_7 (by decide) (fun h7 => ?_) (fun h7 => ?_)
  · refine w_iload_n dX0_allGuns_25 rfl ?_
    exact w_iretP rfl dX0_allGuns_26 (by have e0 : k = 7 := (by omega); subst e0; exact ⟨h3, rfl⟩)
  · refine w_iload_n dX0_allGuns_10 rfl ?_
    refine w_aload_n dX0_allGuns_11 rfl ?_
    refine gf_X0_42 rfl (cnO hc) dX0_allGuns_12 ?_
    refine w_iload_n dX0_allGuns_15 rfl ?_
    refine w_ialdB (CI_guns hI) (cA_guns hc) (by omega) dX0_allGuns_16 (fun b16 => ?_)
    refine w_iadd dX0_allGuns_17 ?_
    refine w_istore_n dX0_allGuns_18 (by decide) rfl ?_
    refine w_iinc dX0_allGuns_19 rfl (by decide) rfl ?_
    refine w_goto (tgt := 4) dX0_allGuns_22 (by decide) ?_
    exact ih4 (_, _) ⟨by omega, by omega, by rw [sI_s _ h1, h3]; rfl⟩ (by omega)
