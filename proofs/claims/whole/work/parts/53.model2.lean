set_option maxRecDepth 100000 in
set_option maxHeartbeats 4000000 in
theorem c_X5_tell {g : gG} {l : Launch} {μ : gM} {a : Int} {b : Int}  (ha : -562949953421312 < a ∧ a < 562949953421312) (hb : 0 < b ∧ b < 562949953421312) : CT g l YX5_tell 0 [vR 167, vL a, vL b] μ (pI fun e μ2 => e = 1 ∧ μ2 = frm μ a b) := by
  have hg : 0 < Int.gcd a b := Int.gcd_pos_of_ne_zero_right a (by omega)
  have hg2 : Int.gcd a b ≤ b.natAbs := Int.gcd_le_natAbs_right a (by omega)
  refine CT.of (n := 6) (by decide) rfl ?_
  show WA g l YX5_tell 0 _ 0 [some (vR 167), some (vL a), none, some (vL b), none, none, none, none, none, none, none] [] μ
  refine w_lload_n dX5_tell_0 rfl ?_
  refine w_lconst 0 dX5_tell_1 (by decide) ?_
  refine w_lcmp_ge (tgt := 11) (by omega) (by omega) dX5_tell_2 dX5_tell_3 (by decide) (fun h2 => ?_) (fun h2 => ?_)
  · refine w_lload_n dX5_tell_11 rfl ?_
    refine w_lstore dX5_tell_12 (by decide) rfl ?_
    refine w_lload_n dX5_tell_14 rfl ?_
    refine w_lstore dX5_tell_15 (by decide) rfl ?_
    refine w_loop (ι := Int × Int) (fun i => match i with | (x, y) => 0 ≤ x ∧ x < 562949953421312 ∧ 0 ≤ y ∧ y < 562949953421312 ∧ Int.gcd x y = Int.gcd a b) (fun i => match i with | (x, y) => y.toNat) (fun i => match i with | (x, y) => [some (vR 167), some (vL a), none, some (vL b), none, some (vL x), none, some (vL y), none, none, none]) (fun i => match i with | (x, y) => μ) ?_ (_, _) ⟨by omega, by omega, by omega, by omega, by first | rfl | exact Int.neg_gcd⟩
    intro i_ hinv17 ih17
    obtain ⟨x, y⟩ := i_
    try dsimp only at hinv17 ih17 ⊢
    obtain ⟨p3, p4, p5, p6, p7⟩ := hinv17
    refine w_lload dX5_tell_17 rfl ?_
    refine w_lconst 0 dX5_tell_19 (by decide) ?_
    refine w_lcmp_eq (tgt := 42) (by omega) (by omega) dX5_tell_20 dX5_tell_21 (by decide) (fun h20 => ?_) (fun h20 => ?_)
    · have hy : y = 0 := by omega
      subst hy
      have hx : x = (Int.gcd a b : Int) := by rw [← p7, Int.gcd_zero_right]; omega
      subst hx
      refine w_aload_n dX5_tell_42 rfl ?_
      refine w_lload_n dX5_tell_43 rfl ?_
      refine w_lload dX5_tell_44 rfl ?_
      refine w_ldivT (by omega) (by omega) dX5_tell_46 ?_
      refine pf_X5_51 rfl dX5_tell_47 ?_
      refine w_aload_n dX5_tell_50 rfl ?_
      refine w_lload_n dX5_tell_51 rfl ?_
      refine w_lload dX5_tell_52 rfl ?_
      refine w_ldivT (by omega) (by omega) dX5_tell_54 ?_
      refine pf_X5_23 rfl dX5_tell_55 ?_
      refine w_iconst dX5_tell_58 ?_
      exact w_iretP rfl dX5_tell_59 (by exact ⟨rfl, rfl⟩)
    · have hm1 := Int.emod_nonneg x (by omega : y ≠ 0)
      have hm2 := Int.emod_lt_of_pos x (by omega : 0 < y)
      refine w_lload dX5_tell_24 rfl ?_
      refine w_lload dX5_tell_26 rfl ?_
      refine w_lrem (by omega) (by omega) dX5_tell_28 ?_
      refine w_lstore dX5_tell_29 (by decide) rfl ?_
      refine w_lload dX5_tell_31 rfl ?_
      refine w_lstore dX5_tell_33 (by decide) rfl ?_
      refine w_lload dX5_tell_35 rfl ?_
      refine w_lstore dX5_tell_37 (by decide) rfl ?_
      refine w_goto (tgt := 17) dX5_tell_39 (by decide) ?_
      refine w_drop 9 ?_
      exact ih17 (y, x % y) ⟨p5, p6, by dsimp only; omega, by dsimp only; omega, by dsimp only; rw [gcd_step p3 (by omega), p7]⟩ (by dsimp only; omega)
  · refine w_lload_n dX5_tell_6 rfl ?_
    refine w_lneg dX5_tell_7 ?_
    refine w_goto (tgt := 12) dX5_tell_8 (by decide) ?_
    refine w_lstore dX5_tell_12 (by decide) rfl ?_
    refine w_lload_n dX5_tell_14 rfl ?_
    refine w_lstore dX5_tell_15 (by decide) rfl ?_
    refine w_loop (ι := Int × Int) (fun i => match i with | (x, y) => 0 ≤ x ∧ x < 562949953421312 ∧ 0 ≤ y ∧ y < 562949953421312 ∧ Int.gcd x y = Int.gcd a b) (fun i => match i with | (x, y) => y.toNat) (fun i => match i with | (x, y) => [some (vR 167), some (vL a), none, some (vL b), none, some (vL x), none, some (vL y), none, none, none]) (fun i => match i with | (x, y) => μ) ?_ (_, _) ⟨by omega, by omega, by omega, by omega, by first | rfl | exact Int.neg_gcd⟩
    intro i_ hinv17 ih17
    obtain ⟨x, y⟩ := i_
    try dsimp only at hinv17 ih17 ⊢
    obtain ⟨p3, p4, p5, p6, p7⟩ := hinv17
    refine w_lload dX5_tell_17 rfl ?_
    refine w_lconst 0 dX5_tell_19 (by decide) ?_
    refine w_lcmp_eq (tgt := 42) (by omega) (by omega) dX5_tell_20 dX5_tell_21 (by decide) (fun h20 => ?_) (fun h20 => ?_)
    · have hy : y = 0 := by omega
      subst hy
      have hx : x = (Int.gcd a b : Int) := by rw [← p7, Int.gcd_zero_right]; omega
      subst hx
      refine w_aload_n dX5_tell_42 rfl ?_
      refine w_lload_n dX5_tell_43 rfl ?_
      refine w_lload dX5_tell_44 rfl ?_
      refine w_ldivT (by omega) (by omega) dX5_tell_46 ?_
      refine pf_X5_51 rfl dX5_tell_47 ?_
      refine w_aload_n dX5_tell_50 rfl ?_
      refine w_lload_n dX5_tell_51 rfl ?_
      refine w_lload dX5_tell_52 rfl ?_
      refine w_ldivT (by omega) (by omega) dX5_tell_54 ?_
      refine pf_X5_23 rfl dX5_tell_55 ?_
      refine w_iconst dX5_tell_58 ?_
      exact w_iretP rfl dX5_tell_59 (by exact ⟨rfl, rfl⟩)
    · have hm1 := Int.emod_nonneg x (by omega : y ≠ 0)
      have hm2 := Int.emod_lt_of_pos x (by omega : 0 < y)
      refine w_lload dX5_tell_24 rfl ?_
      refine w_lload dX5_tell_26 rfl ?_
      refine w_lrem (by omega) (by omega) dX5_tell_28 ?_
      refine w_lstore dX5_tell_29 (by decide) rfl ?_
      refine w_lload dX5_tell_31 rfl ?_
      refine w_lstore dX5_tell_33 (by decide) rfl ?_
      refine w_lload dX5_tell_35 rfl ?_
      refine w_lstore dX5_tell_37 (by decide) rfl ?_
      refine w_goto (tgt := 17) dX5_tell_39 (by decide) ?_
      refine w_drop 9 ?_
      exact ih17 (y, x % y) ⟨p5, p6, by dsimp only; omega, by dsimp only; omega, by dsimp only; rw [gcd_step p3 (by omega), p7]⟩ (by dsimp only; omega)
set_option maxRecDepth 100000 in
set_option maxHeartbeats 4000000 in
theorem c_X5_isRoofTold {g : gG} {l : Launch} {μ : gM} {k : Int} {a : Int} {b0 : Int} {n0 : Int} {b1 : Int} {n1 : Int}  (g0 : -2147483648 ≤ k ∧ k < 2147483648) (g1 : -2147483648 ≤ a ∧ a < 2147483648) (g2 : -2147483648 ≤ b0 ∧ b0 < 2147483648) (g3 : -2147483648 ≤ n0 ∧ n0 < 2147483648) (g4 : -2147483648 ≤ b1 ∧ b1 < 2147483648) (g5 : -2147483648 ≤ n1 ∧ n1 < 2147483648) : CT g l YX5_isRoofTold 1 [vI k, vI a, vI b0, vI n0, vI b1, vI n1] μ (pI fun e μ2 => ((e = 1 ∧ 0 ≤ k ∧ k ≤ 5 ∧ 0 ≤ a ∧ a ≤ 9 ∧ 0 ≤ b0 ∧ b0 ≤ 9 ∧ 0 ≤ n0 ∧ n0 ≤ 9 ∧ 0 ≤ b1 ∧ b1 ≤ 9 ∧ 0 ≤ n1 ∧ n1 ≤ 9) ∨ (e = 0 ∧ ¬ (0 ≤ k ∧ k ≤ 5 ∧ 0 ≤ a ∧ a ≤ 9 ∧ 0 ≤ b0 ∧ b0 ≤ 9 ∧ 0 ≤ n0 ∧ n0 ≤ 9 ∧ 0 ≤ b1 ∧ b1 ≤ 9 ∧ 0 ≤ n1 ∧ n1 ≤ 9))) ∧ μ = μ2) := by
  refine CT.of (n := 1) (by decide) rfl ?_
  show WA g l YX5_isRoofTold 1 _ 0 [some (vI k), some (vI a), some (vI b0), some (vI n0), some (vI b1), some (vI n1), none] [] μ
  refine w_iload_n dX5_isRoofTold_0 rfl ?_
  refine w_i2l (by omega) dX5_isRoofTold_1 ?_
  refine w_lconst 0 dX5_isRoofTold_2 (by decide) ?_
  refine w_ldc2 (5) cl_X5_65 dX5_isRoofTold_3 (by decide) ?_
  refine w_cS3 kX5_in ml_X5_58 (Nat.le_of_ble_eq_true rfl) (by decide) dX5_isRoofTold_6 (c_X5_in (by omega) (by omega) (by omega)) (kI (fun e6 m6 q6 => ?_))
  obtain ⟨q6, rfl⟩ := q6
  refine w_if_eq (tgt := 28) (by omega) dX5_isRoofTold_9 (by decide) (fun h9 => ?_) (fun h9 => ?_)
  · refine w_iconst dX5_isRoofTold_28 ?_
    refine w_istore dX5_isRoofTold_29 (by decide) rfl ?_
    refine w_iload dX5_isRoofTold_31 rfl ?_
    refine w_if_eq (tgt := 90) (by omega) dX5_isRoofTold_33 (by decide) (fun h33 => ?_) (fun h33 => ?_)
    · refine w_iconst dX5_isRoofTold_90 ?_
      exact w_zretP rfl dX5_isRoofTold_91 (by omega) (by refine ⟨?_, rfl⟩; omega)
    · exfalso; omega
  · refine w_iload_n dX5_isRoofTold_12 rfl ?_
    refine w_i2l (by omega) dX5_isRoofTold_13 ?_
    refine w_lconst 0 dX5_isRoofTold_14 (by decide) ?_
    refine w_ldc2 (9) cl_X5_67 dX5_isRoofTold_15 (by decide) ?_
    refine w_cS3 kX5_in ml_X5_58 (Nat.le_of_ble_eq_true rfl) (by decide) dX5_isRoofTold_18 (c_X5_in (by omega) (by omega) (by omega)) (kI (fun e18 m18 q18 => ?_))
    obtain ⟨q18, rfl⟩ := q18
    refine w_if_eq (tgt := 28) (by omega) dX5_isRoofTold_21 (by decide) (fun h21 => ?_) (fun h21 => ?_)
    · refine w_iconst dX5_isRoofTold_28 ?_
      refine w_istore dX5_isRoofTold_29 (by decide) rfl ?_
      refine w_iload dX5_isRoofTold_31 rfl ?_
      refine w_if_eq (tgt := 90) (by omega) dX5_isRoofTold_33 (by decide) (fun h33 => ?_) (fun h33 => ?_)
      · refine w_iconst dX5_isRoofTold_90 ?_
        exact w_zretP rfl dX5_isRoofTold_91 (by omega) (by refine ⟨?_, rfl⟩; omega)
      · exfalso; omega
    · refine w_iconst dX5_isRoofTold_24 ?_
      refine w_goto (tgt := 29) dX5_isRoofTold_25 (by decide) ?_
      refine w_istore dX5_isRoofTold_29 (by decide) rfl ?_
      refine w_iload dX5_isRoofTold_31 rfl ?_
      refine w_if_eq (tgt := 90) (by omega) dX5_isRoofTold_33 (by decide) (fun h33 => ?_) (fun h33 => ?_)
      · exfalso; omega
      · refine w_iload_n dX5_isRoofTold_36 rfl ?_
        refine w_i2l (by omega) dX5_isRoofTold_37 ?_
        refine w_lconst 0 dX5_isRoofTold_38 (by decide) ?_
        refine w_ldc2 (9) cl_X5_67 dX5_isRoofTold_39 (by decide) ?_
        refine w_cS3 kX5_in ml_X5_58 (Nat.le_of_ble_eq_true rfl) (by decide) dX5_isRoofTold_42 (c_X5_in (by omega) (by omega) (by omega)) (kI (fun e42 m42 q42 => ?_))
        obtain ⟨q42, rfl⟩ := q42
        refine w_if_eq (tgt := 90) (by omega) dX5_isRoofTold_45 (by decide) (fun h45 => ?_) (fun h45 => ?_)
        · refine w_iconst dX5_isRoofTold_90 ?_
          exact w_zretP rfl dX5_isRoofTold_91 (by omega) (by refine ⟨?_, rfl⟩; omega)
        · refine w_iload_n dX5_isRoofTold_48 rfl ?_
          refine w_i2l (by omega) dX5_isRoofTold_49 ?_
          refine w_lconst 0 dX5_isRoofTold_50 (by decide) ?_
          refine w_ldc2 (9) cl_X5_67 dX5_isRoofTold_51 (by decide) ?_
          refine w_cS3 kX5_in ml_X5_58 (Nat.le_of_ble_eq_true rfl) (by decide) dX5_isRoofTold_54 (c_X5_in (by omega) (by omega) (by omega)) (kI (fun e54 m54 q54 => ?_))
          obtain ⟨q54, rfl⟩ := q54
          refine w_if_eq (tgt := 90) (by omega) dX5_isRoofTold_57 (by decide) (fun h57 => ?_) (fun h57 => ?_)
          · refine w_iconst dX5_isRoofTold_90 ?_
            exact w_zretP rfl dX5_isRoofTold_91 (by omega) (by refine ⟨?_, rfl⟩; omega)
          · refine w_iload dX5_isRoofTold_60 rfl ?_
            refine w_i2l (by omega) dX5_isRoofTold_62 ?_
            refine w_lconst 0 dX5_isRoofTold_63 (by decide) ?_
            refine w_ldc2 (9) cl_X5_67 dX5_isRoofTold_64 (by decide) ?_
            refine w_cS3 kX5_in ml_X5_58 (Nat.le_of_ble_eq_true rfl) (by decide) dX5_isRoofTold_67 (c_X5_in (by omega) (by omega) (by omega)) (kI (fun e67 m67 q67 => ?_))
            obtain ⟨q67, rfl⟩ := q67
            refine w_if_eq (tgt := 90) (by omega) dX5_isRoofTold_70 (by decide) (fun h70 => ?_) (fun h70 => ?_)
            · refine w_iconst dX5_isRoofTold_90 ?_
              exact w_zretP rfl dX5_isRoofTold_91 (by omega) (by refine ⟨?_, rfl⟩; omega)
            · refine w_iload dX5_isRoofTold_73 rfl ?_
              refine w_i2l (by omega) dX5_isRoofTold_75 ?_
              refine w_lconst 0 dX5_isRoofTold_76 (by decide) ?_
              refine w_ldc2 (9) cl_X5_67 dX5_isRoofTold_77 (by decide) ?_
              refine w_cS3 kX5_in ml_X5_58 (Nat.le_of_ble_eq_true rfl) (by decide) dX5_isRoofTold_80 (c_X5_in (by omega) (by omega) (by omega)) (kI (fun e80 m80 q80 => ?_))
              obtain ⟨q80, rfl⟩ := q80
              refine w_if_eq (tgt := 90) (by omega) dX5_isRoofTold_83 (by decide) (fun h83 => ?_) (fun h83 => ?_)
              · refine w_iconst dX5_isRoofTold_90 ?_
                exact w_zretP rfl dX5_isRoofTold_91 (by omega) (by refine ⟨?_, rfl⟩; omega)
              · refine w_iconst dX5_isRoofTold_86 ?_
                refine w_goto (tgt := 91) dX5_isRoofTold_87 (by decide) ?_
                exact w_zretP rfl dX5_isRoofTold_91 (by omega) (by refine ⟨?_, rfl⟩; omega)
set_option maxRecDepth 100000 in
set_option maxHeartbeats 4000000 in
theorem c_X5_layRoof {g : gG} {l : Launch} {μ : gM} {t len : Nat} (ha : arr t len) {r : Int} {k : Int} {a : Int} {b0 : Int} {n0 : Int} {b1 : Int} {n1 : Int}  (hr : 0 ≤ r ∧ 8 * r + 8 ≤ len) : CT g l YX5_layRoof 0 [vR t, vI r, vI k, vI a, vI b0, vI n0, vI b1, vI n1] μ (pV fun μ2 => μ2 = rw_ μ t (kRf (μ t) r k a b0 n0 b1 n1)) := by
  refine CT.of (n := 1) (by decide) rfl ?_
  show WA g l YX5_layRoof 0 _ 0 [some (vR t), some (vI r), some (vI k), some (vI a), some (vI b0), some (vI n0), some (vI b1), some (vI n1), none] [] μ
  refine w_iconst dX5_layRoof_0 ?_
  refine w_bipush dX5_layRoof_1 (by decide) ?_
  refine w_iload_n dX5_layRoof_3 rfl ?_
  refine w_imul dX5_layRoof_4 ?_
  refine w_iadd dX5_layRoof_5 ?_
  refine w_istore dX5_layRoof_6 (by decide) rfl ?_
  refine w_aload_n dX5_layRoof_8 rfl ?_
  refine w_iload dX5_layRoof_9 rfl ?_
  refine w_iconst dX5_layRoof_11 ?_
  refine w_iadd dX5_layRoof_12 ?_
  refine w_iload_n dX5_layRoof_13 rfl ?_
  refine w_iast ha (by omega) dX5_layRoof_14 ?_
  refine w_aload_n dX5_layRoof_15 rfl ?_
  refine w_iload dX5_layRoof_16 rfl ?_
  refine w_iconst dX5_layRoof_18 ?_
  refine w_iadd dX5_layRoof_19 ?_
  refine w_iload_n dX5_layRoof_20 rfl ?_
  refine w_iast ha (by omega) dX5_layRoof_21 ?_
  refine w_aload_n dX5_layRoof_22 rfl ?_
  refine w_iload dX5_layRoof_23 rfl ?_
  refine w_iconst dX5_layRoof_25 ?_
  refine w_iadd dX5_layRoof_26 ?_
  refine w_iload dX5_layRoof_27 rfl ?_
  refine w_iast ha (by omega) dX5_layRoof_29 ?_
  refine w_aload_n dX5_layRoof_30 rfl ?_
  refine w_iload dX5_layRoof_31 rfl ?_
  refine w_iconst dX5_layRoof_33 ?_
  refine w_iadd dX5_layRoof_34 ?_
  refine w_iconst dX5_layRoof_35 ?_
  refine w_iadd dX5_layRoof_36 ?_
  refine w_iload dX5_layRoof_37 rfl ?_
  refine w_iast ha (by omega) dX5_layRoof_39 ?_
  refine w_aload_n dX5_layRoof_40 rfl ?_
  refine w_iload dX5_layRoof_41 rfl ?_
  refine w_iconst dX5_layRoof_43 ?_
  refine w_iadd dX5_layRoof_44 ?_
  refine w_iconst dX5_layRoof_45 ?_
  refine w_iadd dX5_layRoof_46 ?_
  refine w_iload dX5_layRoof_47 rfl ?_
  refine w_iast ha (by omega) dX5_layRoof_49 ?_
  refine w_aload_n dX5_layRoof_50 rfl ?_
  refine w_iload dX5_layRoof_51 rfl ?_
  refine w_iconst dX5_layRoof_53 ?_
  refine w_iadd dX5_layRoof_54 ?_
  refine w_iconst dX5_layRoof_55 ?_
  refine w_iadd dX5_layRoof_56 ?_
  refine w_iload dX5_layRoof_57 rfl ?_
  refine w_iast ha (by omega) dX5_layRoof_59 ?_
  refine w_aload_n dX5_layRoof_60 rfl ?_
  refine w_iload dX5_layRoof_61 rfl ?_
  refine w_bipush dX5_layRoof_63 (by decide) ?_
  refine w_iadd dX5_layRoof_65 ?_
  refine w_iconst dX5_layRoof_66 ?_
  refine w_iast ha (by omega) dX5_layRoof_67 ?_
  refine w_aload_n dX5_layRoof_68 rfl ?_
  refine w_iload dX5_layRoof_69 rfl ?_
  refine w_bipush dX5_layRoof_71 (by decide) ?_
  refine w_iadd dX5_layRoof_73 ?_
  refine w_iconst dX5_layRoof_74 ?_
  refine w_iadd dX5_layRoof_75 ?_
  refine w_iconst dX5_layRoof_76 ?_
  refine w_iast ha (by omega) dX5_layRoof_77 ?_
  exact w_vretP rfl dX5_layRoof_78 (by rw [wr_ri (μ := μ), wr_rw, wr_rw, wr_rw, wr_rw, wr_rw, wr_rw, wr_rw]; unfold kRf; rw [show (0 + 8 * r + 2 + 1 : Int) = 8 * r + 3 by omega, show (0 + 8 * r + 2 + 2 : Int) = 8 * r + 4 by omega, show (0 + 8 * r + 2 + 3 : Int) = 8 * r + 5 by omega, show (0 + 8 * r + 6 + 1 : Int) = 8 * r + 7 by omega, show (0 + 8 * r + 0 : Int) = 8 * r by omega, show (0 + 8 * r + 1 : Int) = 8 * r + 1 by omega, show (0 + 8 * r + 2 : Int) = 8 * r + 2 by omega, show (0 + 8 * r + 6 : Int) = 8 * r + 6 by omega])
set_option maxRecDepth 100000 in
set_option maxHeartbeats 4000000 in
theorem c_X5_layStorm {g : gG} {l : Launch} {μ : gM} {t len : Nat} (ha : arr t len) {r : Int} {f : Int} {u : Int} {w : Int} {z : Int} {h : Int}  (hr : 0 ≤ r ∧ 56 + 5 * r + 5 ≤ len) : CT g l YX5_layStorm 0 [vR t, vI r, vI f, vI u, vI w, vI z, vI h] μ (pV fun μ2 => μ2 = rw_ μ t (kSt (μ t) r f u w z h)) := by
  refine CT.of (n := 1) (by decide) rfl ?_
  show WA g l YX5_layStorm 0 _ 0 [some (vR t), some (vI r), some (vI f), some (vI u), some (vI w), some (vI z), some (vI h), none] [] μ
  refine w_bipush dX5_layStorm_0 (by decide) ?_
  refine w_iconst dX5_layStorm_2 ?_
  refine w_iload_n dX5_layStorm_3 rfl ?_
  refine w_imul dX5_layStorm_4 ?_
  refine w_iadd dX5_layStorm_5 ?_
  refine w_istore dX5_layStorm_6 (by decide) rfl ?_
  refine w_aload_n dX5_layStorm_8 rfl ?_
  refine w_iload dX5_layStorm_9 rfl ?_
  refine w_iconst dX5_layStorm_11 ?_
  refine w_iadd dX5_layStorm_12 ?_
  refine w_iload_n dX5_layStorm_13 rfl ?_
  refine w_iast ha (by omega) dX5_layStorm_14 ?_
  refine w_aload_n dX5_layStorm_15 rfl ?_
  refine w_iload dX5_layStorm_16 rfl ?_
  refine w_iconst dX5_layStorm_18 ?_
  refine w_iadd dX5_layStorm_19 ?_
  refine w_iload_n dX5_layStorm_20 rfl ?_
  refine w_iast ha (by omega) dX5_layStorm_21 ?_
  refine w_aload_n dX5_layStorm_22 rfl ?_
  refine w_iload dX5_layStorm_23 rfl ?_
  refine w_iconst dX5_layStorm_25 ?_
  refine w_iadd dX5_layStorm_26 ?_
  refine w_iload dX5_layStorm_27 rfl ?_
  refine w_iast ha (by omega) dX5_layStorm_29 ?_
  refine w_aload_n dX5_layStorm_30 rfl ?_
  refine w_iload dX5_layStorm_31 rfl ?_
  refine w_iconst dX5_layStorm_33 ?_
  refine w_iadd dX5_layStorm_34 ?_
  refine w_iload dX5_layStorm_35 rfl ?_
  refine w_iast ha (by omega) dX5_layStorm_37 ?_
  refine w_aload_n dX5_layStorm_38 rfl ?_
  refine w_iload dX5_layStorm_39 rfl ?_
  refine w_iconst dX5_layStorm_41 ?_
  refine w_iadd dX5_layStorm_42 ?_
  refine w_iload dX5_layStorm_43 rfl ?_
  refine w_iast ha (by omega) dX5_layStorm_45 ?_
  exact w_vretP rfl dX5_layStorm_46 (by rw [wr_ri (μ := μ), wr_rw, wr_rw, wr_rw, wr_rw]; unfold kSt; rw [show (56 + 5 * r + 0 : Int) = 56 + 5 * r by omega])
set_option maxRecDepth 100000 in
set_option maxHeartbeats 4000000 in
theorem c_X5_roof {g : gG} {l : Launch} {μ : gM} {k : Int} {a : Int} {b0 : Int} {n0 : Int} {b1 : Int} {n1_ : Int} {n : Int} (r0 : -2147483648 ≤ k ∧ k < 2147483648) (r1 : -2147483648 ≤ a ∧ a < 2147483648) (r2 : -2147483648 ≤ b0 ∧ b0 < 2147483648) (r3 : -2147483648 ≤ n0 ∧ n0 < 2147483648) (r4 : -2147483648 ≤ b1 ∧ b1 < 2147483648) (r5 : -2147483648 ≤ n1_ ∧ n1_ < 2147483648) (n1 : μ 168 93 = n) (n2 : 0 ≤ n ∧ n ≤ 7) : CT g l YX5_roof 2 [vR 167, vI k, vI a, vI b0, vI n0, vI b1, vI n1_] μ (pI fun e μ2 => (¬ (0 ≤ k ∧ k ≤ 5 ∧ 0 ≤ a ∧ a ≤ 9 ∧ 0 ≤ b0 ∧ b0 ≤ 9 ∧ 0 ≤ n0 ∧ n0 ≤ 9 ∧ 0 ≤ b1 ∧ b1 ≤ 9 ∧ 0 ≤ n1_ ∧ n1_ ≤ 9) ∧ e = -2 ∧ μ2 = rb μ) ∨ ((0 ≤ k ∧ k ≤ 5 ∧ 0 ≤ a ∧ a ≤ 9 ∧ 0 ≤ b0 ∧ b0 ≤ 9 ∧ 0 ≤ n0 ∧ n0 ≤ 9 ∧ 0 ≤ b1 ∧ b1 ≤ 9 ∧ 0 ≤ n1_ ∧ n1_ ≤ 9) ∧ n = 7 ∧ e = -4 ∧ μ2 = rf μ) ∨ ((0 ≤ k ∧ k ≤ 5 ∧ 0 ≤ a ∧ a ≤ 9 ∧ 0 ≤ b0 ∧ b0 ≤ 9 ∧ 0 ≤ n0 ∧ n0 ≤ 9 ∧ 0 ≤ b1 ∧ b1 ≤ 9 ∧ 0 ≤ n1_ ∧ n1_ ≤ 9) ∧ n < 7 ∧ e = n ∧ μ2 = rw_ μ 168 (kAR (μ 168) n k a b0 n0 b1 n1_))) := by
  refine CT.of (n := 1) (by decide) rfl ?_
  show WA g l YX5_roof 2 _ 0 [some (vR 167), some (vI k), some (vI a), some (vI b0), some (vI n0), some (vI b1), some (vI n1_), none] [] μ
  refine w_iload_n dX5_roof_0 rfl ?_
  refine w_iload_n dX5_roof_1 rfl ?_
  refine w_iload_n dX5_roof_2 rfl ?_
  refine w_iload dX5_roof_3 rfl ?_
  refine w_iload dX5_roof_5 rfl ?_
  refine w_iload dX5_roof_7 rfl ?_
  refine w_cS6 kX5_isRoofTold ml_X5_69 (Nat.le_of_ble_eq_true rfl) (by decide) dX5_roof_9 (c_X5_isRoofTold (by omega) (by omega) (by omega) (by omega) (by omega) (by omega)) (kI (fun e9 m9 q9 => ?_))
  obtain ⟨q9, rfl⟩ := q9
  refine w_if_ne (tgt := 22) (by omega) dX5_roof_12 (by decide) (fun h12 => ?_) (fun h12 => ?_)
  · refine w_aload_n dX5_roof_22 rfl ?_
    refine w_cV0 kX5_roofs ml_X5_54 ob_167 rfl (Nat.le_of_ble_eq_true rfl) (by decide) dX5_roof_23 (c_X5_roofs) (kI (fun e23 m23 q23 => ?_))
    obtain ⟨rfl, rfl⟩ := q23
    rw [n1]
    refine w_istore dX5_roof_26 (by decide) rfl ?_
    refine w_iload dX5_roof_28 rfl ?_
    refine w_bipush dX5_roof_30 (by decide) ?_
    refine w_icmp_ne (tgt := 40) (by omega) (by omega) dX5_roof_32 (by decide) (fun h32 => ?_) (fun h32 => ?_)
    · refine w_aload_n dX5_roof_40 rfl ?_
      refine gf_X5_7 rfl dX5_roof_41 ?_
      refine w_iload dX5_roof_44 rfl ?_
      refine w_iload_n dX5_roof_46 rfl ?_
      refine w_iload_n dX5_roof_47 rfl ?_
      refine w_iload_n dX5_roof_48 rfl ?_
      refine w_iload dX5_roof_49 rfl ?_
      refine w_iload dX5_roof_51 rfl ?_
      refine w_iload dX5_roof_53 rfl ?_
      refine w_cS8 kX5_layRoof ml_X5_80 (Nat.le_of_ble_eq_true rfl) (by decide) dX5_roof_55 (c_X5_layRoof ar_168 (by omega)) (kU (fun m55 q55 => ?_))
      obtain rfl := q55
      refine w_aload_n dX5_roof_58 rfl ?_
      refine gf_X5_7 rfl dX5_roof_59 ?_
      refine w_bipush dX5_roof_62 (by decide) ?_
      refine w_dup2 dX5_roof_64 ?_
      refine w_iald ar_168 (by omega) dX5_roof_65 ?_
      refine w_iconst dX5_roof_66 ?_
      refine w_iadd dX5_roof_67 ?_
      refine w_iast ar_168 (by omega) dX5_roof_68 ?_
      refine w_iload dX5_roof_69 rfl ?_
      exact w_iretP rfl dX5_roof_71 (by refine Or.inr (Or.inr ⟨by omega, by omega, rfl, ?_⟩); rw [rw_s, wr_rw, kRf_93 (by omega), n1]; rfl)
    · refine w_aload_n dX5_roof_35 rfl ?_
      refine w_cV0 kX5_full ml_X5_77 ob_167 rfl (Nat.le_of_ble_eq_true rfl) (by decide) dX5_roof_36 (c_X5_full) (kI (fun e36 m36 q36 => ?_))
      obtain ⟨rfl, rfl⟩ := q36
      exact w_iretP rfl dX5_roof_39 (by first | exact Or.inl (⟨by omega, rfl, rfl⟩) | exact Or.inr (Or.inl (⟨by omega, by omega, rfl, rfl⟩)) | (exfalso; omega))
  · refine w_aload_n dX5_roof_15 rfl ?_
    refine w_bipush dX5_roof_16 (by decide) ?_
    refine w_cV1 kX5_bad ml_X5_73 ob_167 rfl (Nat.le_of_ble_eq_true rfl) (by decide) dX5_roof_18 (c_X5_bad) (kI (fun e18 m18 q18 => ?_))
    obtain ⟨rfl, rfl⟩ := q18
    exact w_iretP rfl dX5_roof_21 (by first | exact Or.inl (⟨by omega, rfl, rfl⟩) | exact Or.inr (Or.inl (⟨by omega, by omega, rfl, rfl⟩)) | (exfalso; omega))
set_option maxRecDepth 100000 in
set_option maxHeartbeats 4000000 in
theorem c_X5_storm {g : gG} {l : Launch} {μ : gM} {f : Int} {t : Int} {w : Int} {z : Int} {h : Int} {m : Int} (r0 : -2147483648 ≤ f ∧ f < 2147483648) (r1 : -2147483648 ≤ t ∧ t < 2147483648) (r2 : -2147483648 ≤ w ∧ w < 2147483648) (r3 : -2147483648 ≤ z ∧ z < 2147483648) (r4 : -2147483648 ≤ h ∧ h < 2147483648) (g1 : μ 168 94 = m) (g2 : 0 ≤ m ∧ m ≤ 6) : CT g l YX5_storm 1 [vR 167, vI f, vI t, vI w, vI z, vI h] μ (pI fun e μ2 => (¬ (0 ≤ f ∧ f ≤ 6 ∧ f ≤ t ∧ t ≤ 6 ∧ 0 ≤ w ∧ w ≤ 1 ∧ 1 ≤ z ∧ z ≤ 9 ∧ 1 ≤ h ∧ h ≤ 9) ∧ e = -2 ∧ μ2 = rb μ) ∨ ((0 ≤ f ∧ f ≤ 6 ∧ f ≤ t ∧ t ≤ 6 ∧ 0 ≤ w ∧ w ≤ 1 ∧ 1 ≤ z ∧ z ≤ 9 ∧ 1 ≤ h ∧ h ≤ 9) ∧ m = 6 ∧ e = -4 ∧ μ2 = rf μ) ∨ ((0 ≤ f ∧ f ≤ 6 ∧ f ≤ t ∧ t ≤ 6 ∧ 0 ≤ w ∧ w ≤ 1 ∧ 1 ≤ z ∧ z ≤ 9 ∧ 1 ≤ h ∧ h ≤ 9) ∧ m < 6 ∧ e = m ∧ μ2 = rw_ μ 168 (kAS (μ 168) m f t w z h))) := by
  refine CT.of (n := 1) (by decide) rfl ?_
  show WA g l YX5_storm 1 _ 0 [some (vR 167), some (vI f), some (vI t), some (vI w), some (vI z), some (vI h), none] [] μ
  refine w_iload_n dX5_storm_0 rfl ?_
  refine w_i2l (by omega) dX5_storm_1 ?_
  refine w_lconst 0 dX5_storm_2 (by decide) ?_
  refine w_ldc2 (6) cl_X5_84 dX5_storm_3 (by decide) ?_
  refine w_cS3 kX5_in ml_X5_58 (Nat.le_of_ble_eq_true rfl) (by decide) dX5_storm_6 (c_X5_in (by omega) (by omega) (by omega)) (kI (fun e6 m6 q6 => ?_))
  obtain ⟨q6, rfl⟩ := q6
  refine w_if_eq (tgt := 59) (by omega) dX5_storm_9 (by decide) (fun h9 => ?_) (fun h9 => ?_)
  · refine w_aload_n dX5_storm_59 rfl ?_
    refine w_bipush dX5_storm_60 (by decide) ?_
    refine w_cV1 kX5_bad ml_X5_73 ob_167 rfl (Nat.le_of_ble_eq_true rfl) (by decide) dX5_storm_62 (c_X5_bad) (kI (fun e62 m62 q62 => ?_))
    obtain ⟨rfl, rfl⟩ := q62
    exact w_iretP rfl dX5_storm_65 (by first | exact Or.inl (⟨by omega, rfl, rfl⟩) | exact Or.inr (Or.inl (⟨by omega, by omega, rfl, rfl⟩)) | (exfalso; omega))
  · refine w_iload_n dX5_storm_12 rfl ?_
    refine w_i2l (by omega) dX5_storm_13 ?_
    refine w_lconst 0 dX5_storm_14 (by decide) ?_
    refine w_iload_n dX5_storm_15 rfl ?_
    refine w_i2l (by omega) dX5_storm_16 ?_
    refine w_cS3 kX5_in ml_X5_58 (Nat.le_of_ble_eq_true rfl) (by decide) dX5_storm_17 (c_X5_in (by omega) (by omega) (by omega)) (kI (fun e17 m17 q17 => ?_))
    obtain ⟨q17, rfl⟩ := q17
    refine w_if_eq (tgt := 59) (by omega) dX5_storm_20 (by decide) (fun h20 => ?_) (fun h20 => ?_)
    · refine w_aload_n dX5_storm_59 rfl ?_
      refine w_bipush dX5_storm_60 (by decide) ?_
      refine w_cV1 kX5_bad ml_X5_73 ob_167 rfl (Nat.le_of_ble_eq_true rfl) (by decide) dX5_storm_62 (c_X5_bad) (kI (fun e62 m62 q62 => ?_))
      obtain ⟨rfl, rfl⟩ := q62
      exact w_iretP rfl dX5_storm_65 (by first | exact Or.inl (⟨by omega, rfl, rfl⟩) | exact Or.inr (Or.inl (⟨by omega, by omega, rfl, rfl⟩)) | (exfalso; omega))
    · refine w_iload_n dX5_storm_23 rfl ?_
      refine w_i2l (by omega) dX5_storm_24 ?_
      refine w_lconst 0 dX5_storm_25 (by decide) ?_
      refine w_lconst 1 dX5_storm_26 (by decide) ?_
      refine w_cS3 kX5_in ml_X5_58 (Nat.le_of_ble_eq_true rfl) (by decide) dX5_storm_27 (c_X5_in (by omega) (by omega) (by omega)) (kI (fun e27 m27 q27 => ?_))
      obtain ⟨q27, rfl⟩ := q27
      refine w_if_eq (tgt := 59) (by omega) dX5_storm_30 (by decide) (fun h30 => ?_) (fun h30 => ?_)
      · refine w_aload_n dX5_storm_59 rfl ?_
        refine w_bipush dX5_storm_60 (by decide) ?_
        refine w_cV1 kX5_bad ml_X5_73 ob_167 rfl (Nat.le_of_ble_eq_true rfl) (by decide) dX5_storm_62 (c_X5_bad) (kI (fun e62 m62 q62 => ?_))
        obtain ⟨rfl, rfl⟩ := q62
        exact w_iretP rfl dX5_storm_65 (by first | exact Or.inl (⟨by omega, rfl, rfl⟩) | exact Or.inr (Or.inl (⟨by omega, by omega, rfl, rfl⟩)) | (exfalso; omega))
      · refine w_iload dX5_storm_33 rfl ?_
        refine w_i2l (by omega) dX5_storm_35 ?_
        refine w_lconst 1 dX5_storm_36 (by decide) ?_
        refine w_ldc2 (9) cl_X5_67 dX5_storm_37 (by decide) ?_
        refine w_cS3 kX5_in ml_X5_58 (Nat.le_of_ble_eq_true rfl) (by decide) dX5_storm_40 (c_X5_in (by omega) (by omega) (by omega)) (kI (fun e40 m40 q40 => ?_))
        obtain ⟨q40, rfl⟩ := q40
        refine w_if_eq (tgt := 59) (by omega) dX5_storm_43 (by decide) (fun h43 => ?_) (fun h43 => ?_)
        · refine w_aload_n dX5_storm_59 rfl ?_
          refine w_bipush dX5_storm_60 (by decide) ?_
          refine w_cV1 kX5_bad ml_X5_73 ob_167 rfl (Nat.le_of_ble_eq_true rfl) (by decide) dX5_storm_62 (c_X5_bad) (kI (fun e62 m62 q62 => ?_))
          obtain ⟨rfl, rfl⟩ := q62
          exact w_iretP rfl dX5_storm_65 (by first | exact Or.inl (⟨by omega, rfl, rfl⟩) | exact Or.inr (Or.inl (⟨by omega, by omega, rfl, rfl⟩)) | (exfalso; omega))
        · refine w_iload dX5_storm_46 rfl ?_
          refine w_i2l (by omega) dX5_storm_48 ?_
          refine w_lconst 1 dX5_storm_49 (by decide) ?_
          refine w_ldc2 (9) cl_X5_67 dX5_storm_50 (by decide) ?_
          refine w_cS3 kX5_in ml_X5_58 (Nat.le_of_ble_eq_true rfl) (by decide) dX5_storm_53 (c_X5_in (by omega) (by omega) (by omega)) (kI (fun e53 m53 q53 => ?_))
          obtain ⟨q53, rfl⟩ := q53
          refine w_if_ne (tgt := 66) (by omega) dX5_storm_56 (by decide) (fun h56 => ?_) (fun h56 => ?_)
          · refine w_aload_n dX5_storm_66 rfl ?_
            refine w_cV0 kX5_storms ml_X5_62 ob_167 rfl (Nat.le_of_ble_eq_true rfl) (by decide) dX5_storm_67 (c_X5_storms) (kI (fun e67 m67 q67 => ?_))
            obtain ⟨rfl, rfl⟩ := q67
            rw [g1]
            refine w_istore dX5_storm_70 (by decide) rfl ?_
            refine w_iload dX5_storm_72 rfl ?_
            refine w_bipush dX5_storm_74 (by decide) ?_
            refine w_icmp_ne (tgt := 84) (by omega) (by omega) dX5_storm_76 (by decide) (fun h76 => ?_) (fun h76 => ?_)
            · refine w_aload_n dX5_storm_84 rfl ?_
              refine gf_X5_7 rfl dX5_storm_85 ?_
              refine w_iload dX5_storm_88 rfl ?_
              refine w_iload_n dX5_storm_90 rfl ?_
              refine w_iload_n dX5_storm_91 rfl ?_
              refine w_iload_n dX5_storm_92 rfl ?_
              refine w_iload dX5_storm_93 rfl ?_
              refine w_iload dX5_storm_95 rfl ?_
              refine w_cS7 kX5_layStorm ml_X5_86 (Nat.le_of_ble_eq_true rfl) (by decide) dX5_storm_97 (c_X5_layStorm ar_168 (by omega)) (kU (fun m97 q97 => ?_))
              obtain rfl := q97
              refine w_aload_n dX5_storm_100 rfl ?_
              refine gf_X5_7 rfl dX5_storm_101 ?_
              refine w_bipush dX5_storm_104 (by decide) ?_
              refine w_dup2 dX5_storm_106 ?_
              refine w_iald ar_168 (by omega) dX5_storm_107 ?_
              refine w_iconst dX5_storm_108 ?_
              refine w_iadd dX5_storm_109 ?_
              refine w_iast ar_168 (by omega) dX5_storm_110 ?_
              refine w_iload dX5_storm_111 rfl ?_
              exact w_iretP rfl dX5_storm_113 (by refine Or.inr (Or.inr ⟨by omega, by omega, rfl, ?_⟩); rw [rw_s, wr_rw, kSt_94 (by omega), g1]; rfl)
            · refine w_aload_n dX5_storm_79 rfl ?_
              refine w_cV0 kX5_full ml_X5_77 ob_167 rfl (Nat.le_of_ble_eq_true rfl) (by decide) dX5_storm_80 (c_X5_full) (kI (fun e80 m80 q80 => ?_))
              obtain ⟨rfl, rfl⟩ := q80
              exact w_iretP rfl dX5_storm_83 (by first | exact Or.inl (⟨by omega, rfl, rfl⟩) | exact Or.inr (Or.inl (⟨by omega, by omega, rfl, rfl⟩)) | (exfalso; omega))
          · refine w_aload_n dX5_storm_59 rfl ?_
            refine w_bipush dX5_storm_60 (by decide) ?_
            refine w_cV1 kX5_bad ml_X5_73 ob_167 rfl (Nat.le_of_ble_eq_true rfl) (by decide) dX5_storm_62 (c_X5_bad) (kI (fun e62 m62 q62 => ?_))
            obtain ⟨rfl, rfl⟩ := q62
            exact w_iretP rfl dX5_storm_65 (by first | exact Or.inl (⟨by omega, rfl, rfl⟩) | exact Or.inr (Or.inl (⟨by omega, by omega, rfl, rfl⟩)) | (exfalso; omega))
set_option maxRecDepth 100000 in
set_option maxHeartbeats 4000000 in
theorem c_X5_cannon {g : gG} {l : Launch} {μ : gM} {p : Int} {b : Int} {v : gV} {m : Int} (r1 : -2147483648 ≤ p ∧ p < 2147483648) (hb : b = 0 ∨ b = 1) (hMG : MG μ v m) : CT g l YX5_cannon 1 [vR 167, vI p, vI b] μ (pI fun e μ2 => (¬ (0 ≤ p ∧ p ≤ 6) ∧ e = -2 ∧ μ2 = rb μ) ∨ ((0 ≤ p ∧ p ≤ 6) ∧ v 11 p = b ∧ e = -3 ∧ μ2 = rn μ) ∨ ((0 ≤ p ∧ p ≤ 6) ∧ v 11 p ≠ b ∧ e = 1 ∧ μ2 = wr μ 168 (86 + p) b)) := by
  obtain ⟨g1, g2, gV, g4, g5⟩ := id hMG
  have hV := gV.1
  refine CT.of (n := 1) (by decide) rfl ?_
  show WA g l YX5_cannon 1 _ 0 [some (vR 167), some (vI p), some (vI b), none] [] μ
  refine w_iload_n dX5_cannon_0 rfl ?_
  refine w_i2l (by omega) dX5_cannon_1 ?_
  refine w_lconst 0 dX5_cannon_2 (by decide) ?_
  refine w_ldc2 (6) cl_X5_84 dX5_cannon_3 (by decide) ?_
  refine w_cS3 kX5_in ml_X5_58 (Nat.le_of_ble_eq_true rfl) (by decide) dX5_cannon_6 (c_X5_in (by omega) (by omega) (by omega)) (kI (fun e6 m6 q6 => ?_))
  obtain ⟨q6, rfl⟩ := q6
  refine w_if_ne (tgt := 19) (by omega) dX5_cannon_9 (by decide) (fun h9 => ?_) (fun h9 => ?_)
  · refine w_iload_n dX5_cannon_19 rfl ?_
    refine w_if_eq (tgt := 27) (by omega) dX5_cannon_20 (by decide) (fun h20 => ?_) (fun h20 => ?_)
    · refine w_iconst dX5_cannon_27 ?_
      first | (have hb0 : b = 0 := h20; subst hb0) | (have hb1 : b = 1 := (by omega); subst hb1)
      refine w_istore_n dX5_cannon_28 (by decide) rfl ?_
      refine w_aload_n dX5_cannon_29 rfl ?_
      refine gf_X5_7 rfl dX5_cannon_30 ?_
      refine w_bipush dX5_cannon_33 (by decide) ?_
      refine w_iload_n dX5_cannon_35 rfl ?_
      refine w_iadd dX5_cannon_36 ?_
      refine w_iald ar_168 (by omega) dX5_cannon_37 ?_
      have hz := g5 p (by omega) (by omega)
      have hz2 := hV.2.2.2.2.2 p
      rw [hz]
      refine w_iload_n dX5_cannon_38 rfl ?_
      refine w_icmp_ne (tgt := 49) (by omega) (by omega) dX5_cannon_39 (by decide) (fun h39 => ?_) (fun h39 => ?_)
      · refine w_aload_n dX5_cannon_49 rfl ?_
        refine gf_X5_7 rfl dX5_cannon_50 ?_
        refine w_bipush dX5_cannon_53 (by decide) ?_
        refine w_iload_n dX5_cannon_55 rfl ?_
        refine w_iadd dX5_cannon_56 ?_
        refine w_iload_n dX5_cannon_57 rfl ?_
        refine w_iast ar_168 (by omega) dX5_cannon_58 ?_
        refine w_iconst dX5_cannon_59 ?_
        exact w_iretP rfl dX5_cannon_60 (by first | exact Or.inl (⟨by omega, rfl, rfl⟩) | exact Or.inr (Or.inl (⟨by omega, by omega, rfl, rfl⟩)) | exact Or.inr (Or.inr (⟨by omega, by omega, rfl, rfl⟩)) | (exfalso; omega))
      · refine w_aload_n dX5_cannon_42 rfl ?_
        refine w_bipush dX5_cannon_43 (by decide) ?_
        refine w_cV1 kX5_no ml_X5_90 ob_167 rfl (Nat.le_of_ble_eq_true rfl) (by decide) dX5_cannon_45 (c_X5_no) (kI (fun e45 m45 q45 => ?_))
        obtain ⟨rfl, rfl⟩ := q45
        exact w_iretP rfl dX5_cannon_48 (by first | exact Or.inl (⟨by omega, rfl, rfl⟩) | exact Or.inr (Or.inl (⟨by omega, by omega, rfl, rfl⟩)) | exact Or.inr (Or.inr (⟨by omega, by omega, rfl, rfl⟩)) | (exfalso; omega))
    · refine w_iconst dX5_cannon_23 ?_
      refine w_goto (tgt := 28) dX5_cannon_24 (by decide) ?_
      first | (have hb0 : b = 0 := h20; subst hb0) | (have hb1 : b = 1 := (by omega); subst hb1)
      refine w_istore_n dX5_cannon_28 (by decide) rfl ?_
      refine w_aload_n dX5_cannon_29 rfl ?_
      refine gf_X5_7 rfl dX5_cannon_30 ?_
      refine w_bipush dX5_cannon_33 (by decide) ?_
      refine w_iload_n dX5_cannon_35 rfl ?_
      refine w_iadd dX5_cannon_36 ?_
      refine w_iald ar_168 (by omega) dX5_cannon_37 ?_
      have hz := g5 p (by omega) (by omega)
      have hz2 := hV.2.2.2.2.2 p
      rw [hz]
      refine w_iload_n dX5_cannon_38 rfl ?_
      refine w_icmp_ne (tgt := 49) (by omega) (by omega) dX5_cannon_39 (by decide) (fun h39 => ?_) (fun h39 => ?_)
      · refine w_aload_n dX5_cannon_49 rfl ?_
        refine gf_X5_7 rfl dX5_cannon_50 ?_
        refine w_bipush dX5_cannon_53 (by decide) ?_
        refine w_iload_n dX5_cannon_55 rfl ?_
        refine w_iadd dX5_cannon_56 ?_
        refine w_iload_n dX5_cannon_57 rfl ?_
        refine w_iast ar_168 (by omega) dX5_cannon_58 ?_
        refine w_iconst dX5_cannon_59 ?_
        exact w_iretP rfl dX5_cannon_60 (by first | exact Or.inl (⟨by omega, rfl, rfl⟩) | exact Or.inr (Or.inl (⟨by omega, by omega, rfl, rfl⟩)) | exact Or.inr (Or.inr (⟨by omega, by omega, rfl, rfl⟩)) | (exfalso; omega))
      · refine w_aload_n dX5_cannon_42 rfl ?_
        refine w_bipush dX5_cannon_43 (by decide) ?_
        refine w_cV1 kX5_no ml_X5_90 ob_167 rfl (Nat.le_of_ble_eq_true rfl) (by decide) dX5_cannon_45 (c_X5_no) (kI (fun e45 m45 q45 => ?_))
        obtain ⟨rfl, rfl⟩ := q45
        exact w_iretP rfl dX5_cannon_48 (by first | exact Or.inl (⟨by omega, rfl, rfl⟩) | exact Or.inr (Or.inl (⟨by omega, by omega, rfl, rfl⟩)) | exact Or.inr (Or.inr (⟨by omega, by omega, rfl, rfl⟩)) | (exfalso; omega))
  · refine w_aload_n dX5_cannon_12 rfl ?_
    refine w_bipush dX5_cannon_13 (by decide) ?_
    refine w_cV1 kX5_bad ml_X5_73 ob_167 rfl (Nat.le_of_ble_eq_true rfl) (by decide) dX5_cannon_15 (c_X5_bad) (kI (fun e15 m15 q15 => ?_))
    obtain ⟨rfl, rfl⟩ := q15
    exact w_iretP rfl dX5_cannon_18 (by first | exact Or.inl (⟨by omega, rfl, rfl⟩) | exact Or.inr (Or.inl (⟨by omega, by omega, rfl, rfl⟩)) | exact Or.inr (Or.inr (⟨by omega, by omega, rfl, rfl⟩)) | (exfalso; omega))
set_option maxRecDepth 100000 in
set_option maxHeartbeats 4000000 in
theorem c_X5_tiles {g : gG} {l : Launch} {μ : gM} {r : Int} {sl : Int} {w : Int} {v : gV} {n m : Int} (r1 : -2147483648 ≤ r ∧ r < 2147483648) (r2 : -2147483648 ≤ sl ∧ sl < 2147483648) (r3 : -2147483648 ≤ w ∧ w < 2147483648) (hNW : NW μ v n m) : CT g l YX5_tiles 2 [vR 167, vI r, vI sl, vI w] μ (pI fun e μ2 => (¬ (0 ≤ r ∧ r < n ∧ 0 ≤ sl ∧ sl ≤ 1 ∧ (w = 0 ∨ w = 1)) ∧ e = -2 ∧ μ2 = rb μ) ∨ ((0 ≤ r ∧ r < n ∧ 0 ≤ sl ∧ sl ≤ 1 ∧ (w = 0 ∨ w = 1)) ∧ e = v 3 (4 * r + 2 * sl + w) ∧ μ = μ2)) := by
  have hMG := hNW.1
  obtain ⟨g1, g2, gV, g4, g5⟩ := id hMG
  have hV := gV.1
  obtain ⟨-, n1, n2, n3, n4⟩ := id hNW
  refine CT.of (n := 0) (by decide) rfl ?_
  show WA g l YX5_tiles 2 _ 0 [some (vR 167), some (vI r), some (vI sl), some (vI w)] [] μ
  refine w_aload_n dX5_tiles_0 rfl ?_
  refine w_iload_n dX5_tiles_1 rfl ?_
  refine w_cV1 kX5_isRoof ml_X5_93 ob_167 rfl (Nat.le_of_ble_eq_true rfl) (by decide) dX5_tiles_2 (c_X5_isRoof (by omega) n1 n2) (kI (fun e2 m2 q2 => ?_))
  obtain ⟨q2, rfl⟩ := q2
  refine w_if_eq (tgt := 28) (by omega) dX5_tiles_5 (by decide) (fun h5 => ?_) (fun h5 => ?_)
  · refine w_aload_n dX5_tiles_28 rfl ?_
    refine w_bipush dX5_tiles_29 (by decide) ?_
    refine w_cV1 kX5_bad ml_X5_73 ob_167 rfl (Nat.le_of_ble_eq_true rfl) (by decide) dX5_tiles_31 (c_X5_bad) (kI (fun e31 m31 q31 => ?_))
    obtain ⟨rfl, rfl⟩ := q31
    exact w_iretP rfl dX5_tiles_34 (by first | exact Or.inl (⟨by omega, rfl, rfl⟩) | (exfalso; omega))
  · refine w_iload_n dX5_tiles_8 rfl ?_
    refine w_i2l (by omega) dX5_tiles_9 ?_
    refine w_lconst 0 dX5_tiles_10 (by decide) ?_
    refine w_lconst 1 dX5_tiles_11 (by decide) ?_
    refine w_cS3 kX5_in ml_X5_58 (Nat.le_of_ble_eq_true rfl) (by decide) dX5_tiles_12 (c_X5_in (by omega) (by omega) (by omega)) (kI (fun e12 m12 q12 => ?_))
    obtain ⟨q12, rfl⟩ := q12
    refine w_if_eq (tgt := 28) (by omega) dX5_tiles_15 (by decide) (fun h15 => ?_) (fun h15 => ?_)
    · refine w_aload_n dX5_tiles_28 rfl ?_
      refine w_bipush dX5_tiles_29 (by decide) ?_
      refine w_cV1 kX5_bad ml_X5_73 ob_167 rfl (Nat.le_of_ble_eq_true rfl) (by decide) dX5_tiles_31 (c_X5_bad) (kI (fun e31 m31 q31 => ?_))
      obtain ⟨rfl, rfl⟩ := q31
      exact w_iretP rfl dX5_tiles_34 (by first | exact Or.inl (⟨by omega, rfl, rfl⟩) | (exfalso; omega))
    · refine w_iload_n dX5_tiles_18 rfl ?_
      refine w_i2l (by omega) dX5_tiles_19 ?_
      refine w_lconst 0 dX5_tiles_20 (by decide) ?_
      refine w_lconst 1 dX5_tiles_21 (by decide) ?_
      refine w_cS3 kX5_in ml_X5_58 (Nat.le_of_ble_eq_true rfl) (by decide) dX5_tiles_22 (c_X5_in (by omega) (by omega) (by omega)) (kI (fun e22 m22 q22 => ?_))
      obtain ⟨q22, rfl⟩ := q22
      refine w_if_ne (tgt := 35) (by omega) dX5_tiles_25 (by decide) (fun h25 => ?_) (fun h25 => ?_)
      · refine w_aload_n dX5_tiles_35 rfl ?_
        refine gf_X5_7 rfl dX5_tiles_36 ?_
        refine w_iconst dX5_tiles_39 ?_
        refine w_bipush dX5_tiles_40 (by decide) ?_
        refine w_iload_n dX5_tiles_42 rfl ?_
        refine w_imul dX5_tiles_43 ?_
        refine w_iadd dX5_tiles_44 ?_
        refine w_iconst dX5_tiles_45 ?_
        refine w_iadd dX5_tiles_46 ?_
        refine w_iconst dX5_tiles_47 ?_
        refine w_iload_n dX5_tiles_48 rfl ?_
        refine w_imul dX5_tiles_49 ?_
        refine w_iadd dX5_tiles_50 ?_
        refine w_iload_n dX5_tiles_51 rfl ?_
        refine w_iadd dX5_tiles_52 ?_
        refine w_iald ar_168 (by omega) dX5_tiles_53 ?_
        exact w_iretP rfl dX5_tiles_54 (by have hz := n4 r (2 * sl + w) (by omega) (by omega) (by omega) (by omega); rw [show 4 * r + (2 * sl + w) = 4 * r + 2 * sl + w by omega, show 0 + 8 * r + 2 + (2 * sl + w) = 0 + 8 * r + 2 + 2 * sl + w by omega] at hz; exact Or.inr ⟨by omega, hz, rfl⟩)
      · refine w_aload_n dX5_tiles_28 rfl ?_
        refine w_bipush dX5_tiles_29 (by decide) ?_
        refine w_cV1 kX5_bad ml_X5_73 ob_167 rfl (Nat.le_of_ble_eq_true rfl) (by decide) dX5_tiles_31 (c_X5_bad) (kI (fun e31 m31 q31 => ?_))
        obtain ⟨rfl, rfl⟩ := q31
        exact w_iretP rfl dX5_tiles_34 (by first | exact Or.inl (⟨by omega, rfl, rfl⟩) | (exfalso; omega))
set_option maxRecDepth 100000 in
set_option maxHeartbeats 4000000 in
theorem c_X5_takeNow {g : gG} {l : Launch} {μ : gM}   (hn7 : 0 ≤ μ 168 93 ∧ μ 168 93 ≤ 7) : CT g l YX5_takeNow 1 [vR 167] μ (pV fun μ2 => μ2 = tkN μ) := by
  refine CT.of (n := 2) (by decide) rfl ?_
  show WA g l YX5_takeNow 1 _ 0 [some (vR 167), none, none] [] μ
  refine w_iconst dX5_takeNow_0 ?_
  refine w_istore_n dX5_takeNow_1 (by decide) rfl ?_
  refine w_mu (tkR_0 μ) ?_
  refine w_loop (ι := Int) (fun r => 0 ≤ r ∧ r ≤ 7) (fun r => (7 - r).toNat) (fun r => [some (vR 167), some (vI r), none]) (fun r => tkR μ r 0) ?_ 0 ⟨by omega, by omega⟩
  intro i_ hinv2 ih2
  obtain ⟨r, rfl⟩ : ∃ z, z = i_ := ⟨_, rfl⟩
  try dsimp only at hinv2 ih2 ⊢
  obtain ⟨a1, a2⟩ := hinv2
  refine w_iload_n dX5_takeNow_2 rfl ?_
  refine w_bipush dX5_takeNow_3 (by decide) ?_
  refine w_icmp_ge (tgt := 83) (by omega) (by omega) dX5_takeNow_5 (by decide) (fun h5 => ?_) (fun h5 => ?_)
  · exact w_vretP rfl dX5_takeNow_83 (by have e7 : r = 7 := (by omega); subst e7; exact tkR_7 μ)
  · refine w_iconst dX5_takeNow_8 ?_
    refine w_istore_n dX5_takeNow_9 (by decide) rfl ?_
    refine w_loop (ι := Int) (fun j => 0 ≤ j ∧ j ≤ 4) (fun j => (4 - j).toNat) (fun j => [some (vR 167), some (vI r), some (vI j)]) (fun j => tkR μ r j) ?_ 0 ⟨by omega, by omega⟩
    intro i_ hinv10 ih10
    obtain ⟨j, rfl⟩ : ∃ z, z = i_ := ⟨_, rfl⟩
    try dsimp only at hinv10 ih10 ⊢
    obtain ⟨b1, b2⟩ := hinv10
    refine w_iload_n dX5_takeNow_10 rfl ?_
    refine w_iconst dX5_takeNow_11 ?_
    refine w_icmp_ge (tgt := 58) (by omega) (by omega) dX5_takeNow_12 (by decide) (fun h12 => ?_) (fun h12 => ?_)
    · have e4 : j = 4 := by omega
      subst e4
      refine w_aload_n dX5_takeNow_58 rfl ?_
      refine gf_X5_30 rfl dX5_takeNow_59 ?_
      refine w_iload_n dX5_takeNow_62 rfl ?_
      refine w_aload_n dX5_takeNow_63 rfl ?_
      refine gf_X5_7 rfl dX5_takeNow_64 ?_
      refine w_iconst dX5_takeNow_67 ?_
      refine w_bipush dX5_takeNow_68 (by decide) ?_
      refine w_iload_n dX5_takeNow_70 rfl ?_
      refine w_imul dX5_takeNow_71 ?_
      refine w_iadd dX5_takeNow_72 ?_
      refine w_iconst dX5_takeNow_73 ?_
      refine w_iadd dX5_takeNow_74 ?_
      refine w_iald ar_168 (by omega) dX5_takeNow_75 ?_
      refine w_iast ar_173 (by omega) dX5_takeNow_76 ?_
      refine w_iinc dX5_takeNow_77 rfl (by decide) rfl ?_
      refine w_goto (tgt := 2) dX5_takeNow_80 (by decide) ?_
      refine w_drop 2 ?_
      exact w_mu (tkR_t (by omega) (by rw [tkR_o (by decide) (by decide)])).symm (ih2 (r + 1) ⟨by omega, by omega⟩ (by omega))
    · refine w_aload_n dX5_takeNow_15 rfl ?_
      refine gf_X5_27 rfl dX5_takeNow_16 ?_
      refine w_iconst dX5_takeNow_19 ?_
      refine w_iload_n dX5_takeNow_20 rfl ?_
      refine w_imul dX5_takeNow_21 ?_
      refine w_iload_n dX5_takeNow_22 rfl ?_
      refine w_iadd dX5_takeNow_23 ?_
      refine w_iload_n dX5_takeNow_24 rfl ?_
      refine w_aload_n dX5_takeNow_25 rfl ?_
      refine w_cV0 kX5_roofs ml_X5_54 ob_167 rfl (Nat.le_of_ble_eq_true rfl) (by decide) dX5_takeNow_26 (c_X5_roofs) (kI (fun e26 m26 q26 => ?_))
      obtain ⟨rfl, rfl⟩ := q26
      rw [tkR_o (by decide) (by decide)]
      refine w_icmp_ge (tgt := 50) (by omega) (by omega) dX5_takeNow_29 (by decide) (fun h29 => ?_) (fun h29 => ?_)
      · refine w_iconst dX5_takeNow_50 ?_
        refine w_iast ar_172 (by omega) dX5_takeNow_51 ?_
        refine w_iinc dX5_takeNow_52 rfl (by decide) rfl ?_
        refine w_goto (tgt := 10) dX5_takeNow_55 (by decide) ?_
        exact w_mu (tkR_s (by omega) (by omega) (by first | rw [if_pos (by omega)] | rw [if_neg (by omega)])).symm (ih10 (j + 1) ⟨by omega, by omega⟩ (by omega))
      · refine w_aload_n dX5_takeNow_32 rfl ?_
        refine gf_X5_7 rfl dX5_takeNow_33 ?_
        refine w_iconst dX5_takeNow_36 ?_
        refine w_bipush dX5_takeNow_37 (by decide) ?_
        refine w_iload_n dX5_takeNow_39 rfl ?_
        refine w_imul dX5_takeNow_40 ?_
        refine w_iadd dX5_takeNow_41 ?_
        refine w_iconst dX5_takeNow_42 ?_
        refine w_iadd dX5_takeNow_43 ?_
        refine w_iload_n dX5_takeNow_44 rfl ?_
        refine w_iadd dX5_takeNow_45 ?_
        refine w_iald ar_168 (by omega) dX5_takeNow_46 ?_
        rw [tkR_o (by decide) (by decide)]
        refine w_goto (tgt := 51) dX5_takeNow_47 (by decide) ?_
        refine w_iast ar_172 (by omega) dX5_takeNow_51 ?_
        refine w_iinc dX5_takeNow_52 rfl (by decide) rfl ?_
        refine w_goto (tgt := 10) dX5_takeNow_55 (by decide) ?_
        exact w_mu (tkR_s (by omega) (by omega) (by first | rw [if_pos (by omega)] | rw [if_neg (by omega)])).symm (ih10 (j + 1) ⟨by omega, by omega⟩ (by omega))
set_option maxRecDepth 100000 in
set_option maxHeartbeats 4000000 in
theorem c_X5_force {g : gG} {l : Launch} {μ : gM} {s : Int} {r : Int} {sl : Int} {v : gV} {n m : Int} (r1 : -2147483648 ≤ s ∧ s < 2147483648) (r2 : -2147483648 ≤ r ∧ r < 2147483648) (r3 : -2147483648 ≤ sl ∧ sl < 2147483648) (hNW : NW μ v n m) : CT g l YX5_force 3 [vR 167, vI s, vI r, vI sl] μ (pI fun e μ2 => (¬ (0 ≤ s ∧ s < m ∧ 0 ≤ r ∧ r < n ∧ 0 ≤ sl ∧ sl ≤ 1) ∧ e = -2 ∧ μ2 = rb μ) ∨ ((0 ≤ s ∧ s < m ∧ 0 ≤ r ∧ r < n ∧ 0 ≤ sl ∧ sl ≤ 1) ∧ e = fF v s r sl ∧ μ = μ2)) := by
  have hMG := hNW.1
  obtain ⟨g1, g2, gV, g4, g5⟩ := id hMG
  have hV := gV.1
  obtain ⟨-, n1, n2, n3, n4⟩ := id hNW
  refine CT.of (n := 0) (by decide) rfl ?_
  show WA g l YX5_force 3 _ 0 [some (vR 167), some (vI s), some (vI r), some (vI sl)] [] μ
  refine w_aload_n dX5_force_0 rfl ?_
  refine w_iload_n dX5_force_1 rfl ?_
  refine w_cV1 kX5_isStorm ml_X5_104 ob_167 rfl (Nat.le_of_ble_eq_true rfl) (by decide) dX5_force_2 (c_X5_isStorm (by omega) g1 g2) (kI (fun e2 m2 q2 => ?_))
  obtain ⟨q2, rfl⟩ := q2
  refine w_if_eq (tgt := 26) (by omega) dX5_force_5 (by decide) (fun h5 => ?_) (fun h5 => ?_)
  · refine w_aload_n dX5_force_26 rfl ?_
    refine w_bipush dX5_force_27 (by decide) ?_
    refine w_cV1 kX5_bad ml_X5_73 ob_167 rfl (Nat.le_of_ble_eq_true rfl) (by decide) dX5_force_29 (c_X5_bad) (kI (fun e29 m29 q29 => ?_))
    obtain ⟨rfl, rfl⟩ := q29
    exact w_iretP rfl dX5_force_32 (by first | exact Or.inl (⟨by omega, rfl, rfl⟩) | exact Or.inr (⟨by omega, rfl, rfl⟩) | (exfalso; omega))
  · refine w_aload_n dX5_force_8 rfl ?_
    refine w_iload_n dX5_force_9 rfl ?_
    refine w_cV1 kX5_isRoof ml_X5_93 ob_167 rfl (Nat.le_of_ble_eq_true rfl) (by decide) dX5_force_10 (c_X5_isRoof (by omega) n1 n2) (kI (fun e10 m10 q10 => ?_))
    obtain ⟨q10, rfl⟩ := q10
    refine w_if_eq (tgt := 26) (by omega) dX5_force_13 (by decide) (fun h13 => ?_) (fun h13 => ?_)
    · refine w_aload_n dX5_force_26 rfl ?_
      refine w_bipush dX5_force_27 (by decide) ?_
      refine w_cV1 kX5_bad ml_X5_73 ob_167 rfl (Nat.le_of_ble_eq_true rfl) (by decide) dX5_force_29 (c_X5_bad) (kI (fun e29 m29 q29 => ?_))
      obtain ⟨rfl, rfl⟩ := q29
      exact w_iretP rfl dX5_force_32 (by first | exact Or.inl (⟨by omega, rfl, rfl⟩) | exact Or.inr (⟨by omega, rfl, rfl⟩) | (exfalso; omega))
    · refine w_iload_n dX5_force_16 rfl ?_
      refine w_i2l (by omega) dX5_force_17 ?_
      refine w_lconst 0 dX5_force_18 (by decide) ?_
      refine w_lconst 1 dX5_force_19 (by decide) ?_
      refine w_cS3 kX5_in ml_X5_58 (Nat.le_of_ble_eq_true rfl) (by decide) dX5_force_20 (c_X5_in (by omega) (by omega) (by omega)) (kI (fun e20 m20 q20 => ?_))
      obtain ⟨q20, rfl⟩ := q20
      refine w_if_ne (tgt := 33) (by omega) dX5_force_23 (by decide) (fun h23 => ?_) (fun h23 => ?_)
      · refine w_aload_n dX5_force_33 rfl ?_
        refine w_iload_n dX5_force_34 rfl ?_
        refine w_iload_n dX5_force_35 rfl ?_
        refine w_iload_n dX5_force_36 rfl ?_
        refine w_cV3 kX5_forceOf ml_X5_107 ob_167 rfl (Nat.le_of_ble_eq_true rfl) (by decide) dX5_force_37 (c_X5_forceOf hMG (by omega) (by omega) (by omega)) (kI (fun e37 m37 q37 => ?_))
        obtain ⟨rfl, rfl, b37⟩ := q37
        exact w_iretP rfl dX5_force_40 (by first | exact Or.inl (⟨by omega, rfl, rfl⟩) | exact Or.inr (⟨by omega, rfl, rfl⟩) | (exfalso; omega))
      · refine w_aload_n dX5_force_26 rfl ?_
        refine w_bipush dX5_force_27 (by decide) ?_
        refine w_cV1 kX5_bad ml_X5_73 ob_167 rfl (Nat.le_of_ble_eq_true rfl) (by decide) dX5_force_29 (c_X5_bad) (kI (fun e29 m29 q29 => ?_))
        obtain ⟨rfl, rfl⟩ := q29
        exact w_iretP rfl dX5_force_32 (by first | exact Or.inl (⟨by omega, rfl, rfl⟩) | exact Or.inr (⟨by omega, rfl, rfl⟩) | (exfalso; omega))
set_option maxRecDepth 100000 in
set_option maxHeartbeats 4000000 in
theorem c_X5_breaks {g : gG} {l : Launch} {μ : gM} {s : Int} {r : Int} {w : Int} {v : gV} {n m : Int} (r1 : -2147483648 ≤ s ∧ s < 2147483648) (r2 : -2147483648 ≤ r ∧ r < 2147483648) (r3 : -2147483648 ≤ w ∧ w < 2147483648) (hNW : NW μ v n m) : CT g l YX5_breaks 6 [vR 167, vI s, vI r, vI w] μ (pI fun e μ2 => (¬ (0 ≤ s ∧ s < m ∧ (r = -1 ∨ (0 ≤ r ∧ r < n)) ∧ (w = 0 ∨ w = 1)) ∧ e = -2 ∧ μ2 = rb μ) ∨ ((0 ≤ s ∧ s < m ∧ (r = -1 ∨ (0 ≤ r ∧ r < n)) ∧ (w = 0 ∨ w = 1)) ∧ e = (if r = -1 then fA v n s w else fB v s r w) ∧ μ2 = tkN μ)) := by
  have hMG := hNW.1
  obtain ⟨g1, g2, gV, g4, g5⟩ := id hMG
  have hV := gV.1
  obtain ⟨-, n1, n2, n3, n4⟩ := id hNW
  refine CT.of (n := 0) (by decide) rfl ?_
  show WA g l YX5_breaks 6 _ 0 [some (vR 167), some (vI s), some (vI r), some (vI w)] [] μ
  refine w_aload_n dX5_breaks_0 rfl ?_
  refine w_iload_n dX5_breaks_1 rfl ?_
  refine w_cV1 kX5_isStorm ml_X5_104 ob_167 rfl (Nat.le_of_ble_eq_true rfl) (by decide) dX5_breaks_2 (c_X5_isStorm (by omega) g1 g2) (kI (fun e2 m2 q2 => ?_))
  obtain ⟨q2, rfl⟩ := q2
  refine w_if_eq (tgt := 31) (by omega) dX5_breaks_5 (by decide) (fun h5 => ?_) (fun h5 => ?_)
  · refine w_aload_n dX5_breaks_31 rfl ?_
    refine w_bipush dX5_breaks_32 (by decide) ?_
    refine w_cV1 kX5_bad ml_X5_73 ob_167 rfl (Nat.le_of_ble_eq_true rfl) (by decide) dX5_breaks_34 (c_X5_bad) (kI (fun e34 m34 q34 => ?_))
    obtain ⟨rfl, rfl⟩ := q34
    exact w_iretP rfl dX5_breaks_37 (by first | exact Or.inl ⟨by omega, rfl, rfl⟩ | (refine Or.inr ⟨by omega, ?_, rfl⟩; first | rw [if_pos h44] | rw [if_neg h44]))
  · refine w_iload_n dX5_breaks_8 rfl ?_
    refine w_iconst dX5_breaks_9 ?_
    refine w_icmp_eq (tgt := 21) (by omega) (by omega) dX5_breaks_10 (by decide) (fun h10 => ?_) (fun h10 => ?_)
    · refine w_iload_n dX5_breaks_21 rfl ?_
      refine w_i2l (by omega) dX5_breaks_22 ?_
      refine w_lconst 0 dX5_breaks_23 (by decide) ?_
      refine w_lconst 1 dX5_breaks_24 (by decide) ?_
      refine w_cS3 kX5_in ml_X5_58 (Nat.le_of_ble_eq_true rfl) (by decide) dX5_breaks_25 (c_X5_in (by omega) (by omega) (by omega)) (kI (fun e25 m25 q25 => ?_))
      obtain ⟨q25, rfl⟩ := q25
      refine w_if_ne (tgt := 38) (by omega) dX5_breaks_28 (by decide) (fun h28 => ?_) (fun h28 => ?_)
      · refine w_aload_n dX5_breaks_38 rfl ?_
        refine w_cV0 kX5_takeNow ml_X5_121 ob_167 rfl (Nat.le_of_ble_eq_true rfl) (by decide) dX5_breaks_39 (c_X5_takeNow (by rw [n1]; exact n2)) (kU (fun m39 q39 => ?_))
        obtain rfl := q39
        have hMV := NW_MV hNW
        have hMG := hMV.1
        refine w_iload_n dX5_breaks_42 rfl ?_
        refine w_iconst dX5_breaks_43 ?_
        refine w_icmp_ne (tgt := 56) (by omega) (by omega) dX5_breaks_44 (by decide) (fun h44 => ?_) (fun h44 => ?_)
        · refine w_aload_n dX5_breaks_56 rfl ?_
          refine w_iload_n dX5_breaks_57 rfl ?_
          refine w_iload_n dX5_breaks_58 rfl ?_
          refine w_iload_n dX5_breaks_59 rfl ?_
          refine w_cV3 kX5_breaksAll ml_X5_118 ob_167 rfl (Nat.le_of_ble_eq_true rfl) (by decide) dX5_breaks_60 (c_X5_breaksAll hMV (by omega) (by omega) (by omega)) (kI (fun e60 m60 q60 => ?_))
          obtain ⟨rfl, rfl, b60⟩ := q60
          exact w_iretP rfl dX5_breaks_63 (by first | exact Or.inl ⟨by omega, rfl, rfl⟩ | (refine Or.inr ⟨by omega, ?_, rfl⟩; first | rw [if_pos h44] | rw [if_neg h44]))
        · refine w_aload_n dX5_breaks_47 rfl ?_
          refine w_iload_n dX5_breaks_48 rfl ?_
          refine w_iload_n dX5_breaks_49 rfl ?_
          refine w_cV2 kX5_brokenBy ml_X5_124 ob_167 rfl (Nat.le_of_ble_eq_true rfl) (by decide) dX5_breaks_50 (c_X5_brokenBy hMV (by omega) (by omega)) (kI (fun e50 m50 q50 => ?_))
          obtain ⟨rfl, rfl, b50⟩ := q50
          refine w_goto (tgt := 63) dX5_breaks_53 (by decide) ?_
          exact w_iretP rfl dX5_breaks_63 (by first | exact Or.inl ⟨by omega, rfl, rfl⟩ | (refine Or.inr ⟨by omega, ?_, rfl⟩; first | rw [if_pos h44] | rw [if_neg h44]))
      · refine w_aload_n dX5_breaks_31 rfl ?_
        refine w_bipush dX5_breaks_32 (by decide) ?_
        refine w_cV1 kX5_bad ml_X5_73 ob_167 rfl (Nat.le_of_ble_eq_true rfl) (by decide) dX5_breaks_34 (c_X5_bad) (kI (fun e34 m34 q34 => ?_))
        obtain ⟨rfl, rfl⟩ := q34
        exact w_iretP rfl dX5_breaks_37 (by first | exact Or.inl ⟨by omega, rfl, rfl⟩ | (refine Or.inr ⟨by omega, ?_, rfl⟩; first | rw [if_pos h44] | rw [if_neg h44]))
    · refine w_aload_n dX5_breaks_13 rfl ?_
      refine w_iload_n dX5_breaks_14 rfl ?_
      refine w_cV1 kX5_isRoof ml_X5_93 ob_167 rfl (Nat.le_of_ble_eq_true rfl) (by decide) dX5_breaks_15 (c_X5_isRoof (by omega) n1 n2) (kI (fun e15 m15 q15 => ?_))
      obtain ⟨q15, rfl⟩ := q15
      refine w_if_eq (tgt := 31) (by omega) dX5_breaks_18 (by decide) (fun h18 => ?_) (fun h18 => ?_)
      · refine w_aload_n dX5_breaks_31 rfl ?_
        refine w_bipush dX5_breaks_32 (by decide) ?_
        refine w_cV1 kX5_bad ml_X5_73 ob_167 rfl (Nat.le_of_ble_eq_true rfl) (by decide) dX5_breaks_34 (c_X5_bad) (kI (fun e34 m34 q34 => ?_))
        obtain ⟨rfl, rfl⟩ := q34
        exact w_iretP rfl dX5_breaks_37 (by first | exact Or.inl ⟨by omega, rfl, rfl⟩ | (refine Or.inr ⟨by omega, ?_, rfl⟩; first | rw [if_pos h44] | rw [if_neg h44]))
      · refine w_iload_n dX5_breaks_21 rfl ?_
        refine w_i2l (by omega) dX5_breaks_22 ?_
        refine w_lconst 0 dX5_breaks_23 (by decide) ?_
        refine w_lconst 1 dX5_breaks_24 (by decide) ?_
        refine w_cS3 kX5_in ml_X5_58 (Nat.le_of_ble_eq_true rfl) (by decide) dX5_breaks_25 (c_X5_in (by omega) (by omega) (by omega)) (kI (fun e25 m25 q25 => ?_))
        obtain ⟨q25, rfl⟩ := q25
        refine w_if_ne (tgt := 38) (by omega) dX5_breaks_28 (by decide) (fun h28 => ?_) (fun h28 => ?_)
        · refine w_aload_n dX5_breaks_38 rfl ?_
          refine w_cV0 kX5_takeNow ml_X5_121 ob_167 rfl (Nat.le_of_ble_eq_true rfl) (by decide) dX5_breaks_39 (c_X5_takeNow (by rw [n1]; exact n2)) (kU (fun m39 q39 => ?_))
          obtain rfl := q39
          have hMV := NW_MV hNW
          have hMG := hMV.1
          refine w_iload_n dX5_breaks_42 rfl ?_
          refine w_iconst dX5_breaks_43 ?_
          refine w_icmp_ne (tgt := 56) (by omega) (by omega) dX5_breaks_44 (by decide) (fun h44 => ?_) (fun h44 => ?_)
          · refine w_aload_n dX5_breaks_56 rfl ?_
            refine w_iload_n dX5_breaks_57 rfl ?_
            refine w_iload_n dX5_breaks_58 rfl ?_
            refine w_iload_n dX5_breaks_59 rfl ?_
            refine w_cV3 kX5_breaksAll ml_X5_118 ob_167 rfl (Nat.le_of_ble_eq_true rfl) (by decide) dX5_breaks_60 (c_X5_breaksAll hMV (by omega) (by omega) (by omega)) (kI (fun e60 m60 q60 => ?_))
            obtain ⟨rfl, rfl, b60⟩ := q60
            exact w_iretP rfl dX5_breaks_63 (by first | exact Or.inl ⟨by omega, rfl, rfl⟩ | (refine Or.inr ⟨by omega, ?_, rfl⟩; first | rw [if_pos h44] | rw [if_neg h44]))
          · refine w_aload_n dX5_breaks_47 rfl ?_
            refine w_iload_n dX5_breaks_48 rfl ?_
            refine w_iload_n dX5_breaks_49 rfl ?_
            refine w_cV2 kX5_brokenBy ml_X5_124 ob_167 rfl (Nat.le_of_ble_eq_true rfl) (by decide) dX5_breaks_50 (c_X5_brokenBy hMV (by omega) (by omega)) (kI (fun e50 m50 q50 => ?_))
            obtain ⟨rfl, rfl, b50⟩ := q50
            refine w_goto (tgt := 63) dX5_breaks_53 (by decide) ?_
            exact w_iretP rfl dX5_breaks_63 (by first | exact Or.inl ⟨by omega, rfl, rfl⟩ | (refine Or.inr ⟨by omega, ?_, rfl⟩; first | rw [if_pos h44] | rw [if_neg h44]))
        · refine w_aload_n dX5_breaks_31 rfl ?_
          refine w_bipush dX5_breaks_32 (by decide) ?_
          refine w_cV1 kX5_bad ml_X5_73 ob_167 rfl (Nat.le_of_ble_eq_true rfl) (by decide) dX5_breaks_34 (c_X5_bad) (kI (fun e34 m34 q34 => ?_))
          obtain ⟨rfl, rfl⟩ := q34
          exact w_iretP rfl dX5_breaks_37 (by first | exact Or.inl ⟨by omega, rfl, rfl⟩ | (refine Or.inr ⟨by omega, ?_, rfl⟩; first | rw [if_pos h44] | rw [if_neg h44]))
set_option maxRecDepth 100000 in
set_option maxHeartbeats 4000000 in
theorem c_X5_wins {g : gG} {l : Launch} {μ : gM} {s : Int} {v : gV} {n m : Int} (r1 : -2147483648 ≤ s ∧ s < 2147483648) (hNW : NW μ v n m) : CT g l YX5_wins 7 [vR 167, vI s] μ (pI fun e μ2 => (¬ (0 ≤ s ∧ s < m) ∧ e = -2 ∧ μ2 = rb μ) ∨ ((0 ≤ s ∧ s < m) ∧ e = fW (fL v n s) ∧ μ2 = tkN μ)) := by
  have hMG := hNW.1
  obtain ⟨g1, g2, gV, g4, g5⟩ := id hMG
  have hV := gV.1
  obtain ⟨-, n1, n2, n3, n4⟩ := id hNW
  refine CT.of (n := 0) (by decide) rfl ?_
  show WA g l YX5_wins 7 _ 0 [some (vR 167), some (vI s)] [] μ
  refine w_aload_n dX5_wins_0 rfl ?_
  refine w_iload_n dX5_wins_1 rfl ?_
  refine w_cV1 kX5_isStorm ml_X5_104 ob_167 rfl (Nat.le_of_ble_eq_true rfl) (by decide) dX5_wins_2 (c_X5_isStorm (by omega) g1 g2) (kI (fun e2 m2 q2 => ?_))
  obtain ⟨q2, rfl⟩ := q2
  refine w_if_ne (tgt := 15) (by omega) dX5_wins_5 (by decide) (fun h5 => ?_) (fun h5 => ?_)
  · refine w_aload_n dX5_wins_15 rfl ?_
    refine w_cV0 kX5_takeNow ml_X5_121 ob_167 rfl (Nat.le_of_ble_eq_true rfl) (by decide) dX5_wins_16 (c_X5_takeNow (by rw [n1]; exact n2)) (kU (fun m16 q16 => ?_))
    obtain rfl := q16
    have hMV := NW_MV hNW
    have hMG := hMV.1
    refine w_aload_n dX5_wins_19 rfl ?_
    refine w_iload_n dX5_wins_20 rfl ?_
    refine w_cV1 kX5_winner ml_X5_127 ob_167 rfl (Nat.le_of_ble_eq_true rfl) (by decide) dX5_wins_21 (c_X5_winner hMV (by omega)) (kI (fun e21 m21 q21 => ?_))
    obtain ⟨rfl, rfl, b21⟩ := q21
    exact w_iretP rfl dX5_wins_24 (by first | exact Or.inl (⟨by omega, rfl, rfl⟩) | exact Or.inr (⟨by omega, rfl, rfl⟩) | (exfalso; omega))
  · refine w_aload_n dX5_wins_8 rfl ?_
    refine w_bipush dX5_wins_9 (by decide) ?_
    refine w_cV1 kX5_bad ml_X5_73 ob_167 rfl (Nat.le_of_ble_eq_true rfl) (by decide) dX5_wins_11 (c_X5_bad) (kI (fun e11 m11 q11 => ?_))
    obtain ⟨rfl, rfl⟩ := q11
    exact w_iretP rfl dX5_wins_14 (by first | exact Or.inl (⟨by omega, rfl, rfl⟩) | exact Or.inr (⟨by omega, rfl, rfl⟩) | (exfalso; omega))
set_option maxRecDepth 100000 in
set_option maxHeartbeats 4000000 in
theorem c_X5_odds {g : gG} {l : Launch} {μ : gM} {w : Int} {v : gV} {n m : Int} (r1 : -2147483648 ≤ w ∧ w < 2147483648) (hNW : NW μ v n m) (hC : 0 < m → 0 < fC v m) : CT g l YX5_odds 8 [vR 167, vI w] μ (pI fun e μ2 => (¬ (0 ≤ w ∧ w ≤ 2) ∧ e = -2 ∧ μ2 = rb μ) ∨ ((0 ≤ w ∧ w ≤ 2) ∧ m = 0 ∧ e = -3 ∧ μ2 = rn μ) ∨ ((0 ≤ w ∧ w ≤ 2) ∧ 0 < m ∧ e = 1 ∧ μ2 = frm (tkN μ) (fO v n m (if w = 2 then -1 else w)) (fC v m))) := by
  have hMG := hNW.1
  obtain ⟨g1, g2, gV, g4, g5⟩ := id hMG
  have hV := gV.1
  obtain ⟨-, n1, n2, n3, n4⟩ := id hNW
  refine CT.of (n := 0) (by decide) rfl ?_
  show WA g l YX5_odds 8 _ 0 [some (vR 167), some (vI w)] [] μ
  refine w_iload_n dX5_odds_0 rfl ?_
  refine w_i2l (by omega) dX5_odds_1 ?_
  refine w_lconst 0 dX5_odds_2 (by decide) ?_
  refine w_ldc2 (2) cl_X5_130 dX5_odds_3 (by decide) ?_
  refine w_cS3 kX5_in ml_X5_58 (Nat.le_of_ble_eq_true rfl) (by decide) dX5_odds_6 (c_X5_in (by omega) (by omega) (by omega)) (kI (fun e6 m6 q6 => ?_))
  obtain ⟨q6, rfl⟩ := q6
  refine w_if_ne (tgt := 19) (by omega) dX5_odds_9 (by decide) (fun h9 => ?_) (fun h9 => ?_)
  · refine w_aload_n dX5_odds_19 rfl ?_
    refine w_cV0 kX5_storms ml_X5_62 ob_167 rfl (Nat.le_of_ble_eq_true rfl) (by decide) dX5_odds_20 (c_X5_storms) (kI (fun e20 m20 q20 => ?_))
    obtain ⟨rfl, rfl⟩ := q20
    rw [g1]
    refine w_if_ne (tgt := 33) (by omega) dX5_odds_23 (by decide) (fun h23 => ?_) (fun h23 => ?_)
    · have hp3 := hC (by omega)
      refine w_aload_n dX5_odds_33 rfl ?_
      refine w_cV0 kX5_takeNow ml_X5_121 ob_167 rfl (Nat.le_of_ble_eq_true rfl) (by decide) dX5_odds_34 (c_X5_takeNow (by rw [n1]; exact n2)) (kU (fun m34 q34 => ?_))
      obtain rfl := q34
      have hMV := NW_MV hNW
      have hMG := hMV.1
      refine w_aload_n dX5_odds_37 rfl ?_
      refine w_aload_n dX5_odds_38 rfl ?_
      refine w_iload_n dX5_odds_39 rfl ?_
      refine w_iconst dX5_odds_40 ?_
      refine w_icmp_ne (tgt := 48) (by omega) (by omega) dX5_odds_41 (by decide) (fun h41 => ?_) (fun h41 => ?_)
      · refine w_iload_n dX5_odds_48 rfl ?_
        first | (have hw2 : w = 2 := h41; have ew : (if w = 2 then (-1 : Int) else w) = -1 := if_pos hw2) | (have ew : (if w = 2 then (-1 : Int) else w) = w := if_neg h41)
        refine w_cV1 kX5_chanceOf ml_X5_132 ob_167 rfl (Nat.le_of_ble_eq_true rfl) (by decide) dX5_odds_49 (c_X5_chanceOf hMV (by omega)) (kI (fun e49 m49 q49 => ?_))
        obtain ⟨rfl, rfl, b49⟩ := q49
        refine w_i2l (by omega) dX5_odds_52 ?_
        refine w_aload_n dX5_odds_53 rfl ?_
        refine w_cV0 kX5_allChances ml_X5_135 ob_167 rfl (Nat.le_of_ble_eq_true rfl) (by decide) dX5_odds_54 (c_X5_allChances hMG) (kI (fun e54 m54 q54 => ?_))
        obtain ⟨rfl, rfl, b54⟩ := q54
        refine w_i2l (by omega) dX5_odds_57 ?_
        refine w_cV2 kX5_tell ml_X5_138 ob_167 rfl (Nat.le_of_ble_eq_true rfl) (by decide) dX5_odds_58 (c_X5_tell (by omega) (by omega)) (kI (fun e58 m58 q58 => ?_))
        obtain ⟨rfl, rfl⟩ := q58
        exact w_iretP rfl dX5_odds_61 (by refine Or.inr (Or.inr ⟨by omega, by omega, rfl, ?_⟩); rw [ew])
      · refine w_iconst dX5_odds_44 ?_
        refine w_goto (tgt := 49) dX5_odds_45 (by decide) ?_
        first | (have hw2 : w = 2 := h41; have ew : (if w = 2 then (-1 : Int) else w) = -1 := if_pos hw2) | (have ew : (if w = 2 then (-1 : Int) else w) = w := if_neg h41)
        refine w_cV1 kX5_chanceOf ml_X5_132 ob_167 rfl (Nat.le_of_ble_eq_true rfl) (by decide) dX5_odds_49 (c_X5_chanceOf hMV (by omega)) (kI (fun e49 m49 q49 => ?_))
        obtain ⟨rfl, rfl, b49⟩ := q49
        refine w_i2l (by omega) dX5_odds_52 ?_
        refine w_aload_n dX5_odds_53 rfl ?_
        refine w_cV0 kX5_allChances ml_X5_135 ob_167 rfl (Nat.le_of_ble_eq_true rfl) (by decide) dX5_odds_54 (c_X5_allChances hMG) (kI (fun e54 m54 q54 => ?_))
        obtain ⟨rfl, rfl, b54⟩ := q54
        refine w_i2l (by omega) dX5_odds_57 ?_
        refine w_cV2 kX5_tell ml_X5_138 ob_167 rfl (Nat.le_of_ble_eq_true rfl) (by decide) dX5_odds_58 (c_X5_tell (by omega) (by omega)) (kI (fun e58 m58 q58 => ?_))
        obtain ⟨rfl, rfl⟩ := q58
        exact w_iretP rfl dX5_odds_61 (by refine Or.inr (Or.inr ⟨by omega, by omega, rfl, ?_⟩); rw [ew])
    · refine w_aload_n dX5_odds_26 rfl ?_
      refine w_bipush dX5_odds_27 (by decide) ?_
      refine w_cV1 kX5_no ml_X5_90 ob_167 rfl (Nat.le_of_ble_eq_true rfl) (by decide) dX5_odds_29 (c_X5_no) (kI (fun e29 m29 q29 => ?_))
      obtain ⟨rfl, rfl⟩ := q29
      exact w_iretP rfl dX5_odds_32 (by first | exact Or.inl (⟨by omega, rfl, rfl⟩) | exact Or.inr (Or.inl (⟨by omega, by omega, rfl, rfl⟩)) | (exfalso; omega))
  · refine w_aload_n dX5_odds_12 rfl ?_
    refine w_bipush dX5_odds_13 (by decide) ?_
    refine w_cV1 kX5_bad ml_X5_73 ob_167 rfl (Nat.le_of_ble_eq_true rfl) (by decide) dX5_odds_15 (c_X5_bad) (kI (fun e15 m15 q15 => ?_))
    obtain ⟨rfl, rfl⟩ := q15
    exact w_iretP rfl dX5_odds_18 (by first | exact Or.inl (⟨by omega, rfl, rfl⟩) | exact Or.inr (Or.inl (⟨by omega, by omega, rfl, rfl⟩)) | (exfalso; omega))
