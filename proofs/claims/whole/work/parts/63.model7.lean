set_option maxRecDepth 100000 in
set_option maxHeartbeats 4000000 in
theorem c_X5_year {g : gG} {l : Launch} {μ : gM} {s : Int} {v : gV} {n m : Int} (r1 : -2147483648 ≤ s ∧ s < 2147483648) (hNW : NW μ v n m) (hu : 0 ≤ μ 168 96 ∧ μ 168 96 ≤ 3) : CT g l YX5_year 5 [vR 167, vI s] μ (pI fun e μ2 => (¬ (s = -1 ∨ (0 ≤ s ∧ s < m)) ∧ e = -2 ∧ μ2 = rb μ) ∨ ((s = -1 ∨ (0 ≤ s ∧ s < m)) ∧ e = fY v n s ∧ (∀ a, a ≠ 168 → a ≠ 172 → a ≠ 173 → μ2 a = μ a) ∧ μ2 168 = kYR (kKY (μ 168)) (yv v n s) n)) := by
  have hMG := hNW.1
  obtain ⟨g1, g2, gV, g4, g5⟩ := id hMG
  have hV := gV.1
  obtain ⟨-, n1, n2, n3, n4⟩ := id hNW
  refine CT.of (n := 3) (by decide) rfl ?_
  show WA g l YX5_year 5 _ 0 [some (vR 167), some (vI s), none, none, none] [] μ
  refine w_iload_n dX5_year_0 rfl ?_
  refine w_iconst dX5_year_1 ?_
  refine w_icmp_eq (tgt := 20) (by omega) (by omega) dX5_year_2 (by decide) (fun h2 => ?_) (fun h2 => ?_)
  · refine w_aload_n dX5_year_20 rfl ?_
    refine w_cV0 kX5_keepYear ml_X5_177 ob_167 rfl (Nat.le_of_ble_eq_true rfl) (by decide) dX5_year_21 (c_X5_keepYear hu) (kU (fun m21 q21 => ?_))
    obtain rfl := q21
    refine w_aload_n dX5_year_24 rfl ?_
    refine w_cV0 kX5_takeNow ml_X5_121 ob_167 rfl (Nat.le_of_ble_eq_true rfl) (by decide) dX5_year_25 (c_X5_takeNow (by rw [rw_s, kKY_lt hu (by decide), n1]; exact n2)) (kU (fun m25 q25 => ?_))
    obtain rfl := q25
    have hNW2 : NW (rw_ μ 168 (kKY (μ 168))) v n m := NW_cg (fun j j1 j2 => by rw [rw_s]; exact kKY_lt hu (by omega)) hNW
    have hMV := NW_MV hNW2
    refine w_aload_n dX5_year_28 rfl ?_
    refine w_iload_n dX5_year_29 rfl ?_
    refine w_cV1 kX5_goYear ml_X5_180 ob_167 rfl (Nat.le_of_ble_eq_true rfl) (by decide) dX5_year_30 (c_X5_goYear hMV (by omega)) (kI (fun e30 m30 q30 => ?_))
    obtain ⟨rfl, f30, v30⟩ := q30
    have e30 : m30 168 = (kKY (μ 168)) := by rw [f30 168 (by decide) (by decide), tkN_o (by decide) (by decide), rw_s]
    have w3 := v30.2.2.2.2
    have w2 := v30.2.2.2.1
    refine w_istore_n dX5_year_33 (by decide) rfl ?_
    refine w_iconst dX5_year_34 ?_
    refine w_istore_n dX5_year_35 (by decide) rfl ?_
    refine w_mu (show rw_ m30 168 (kYq (kKY (μ 168)) (yv v n s) 0 0) = m30 by rw [kYq_0]; exact rw_e e30) ?_
    refine w_loop (ι := Int) (fun r => 0 ≤ r ∧ r ≤ 7 ∧ r ≤ n) (fun r => (n - r).toNat) (fun r => [some (vR 167), some (vI s), some (vI (fY v n s)), some (vI r), none]) (fun r => rw_ m30 168 (kYq (kKY (μ 168)) (yv v n s) r 0)) ?_ 0 ⟨by omega, by omega, by omega⟩
    intro i_ hinv36 ih36
    obtain ⟨r, rfl⟩ : ∃ z, z = i_ := ⟨_, rfl⟩
    try dsimp only at hinv36 ih36 ⊢
    obtain ⟨a1, a2, a3⟩ := hinv36
    refine w_iload_n dX5_year_36 rfl ?_
    refine w_aload_n dX5_year_37 rfl ?_
    refine w_cV0 kX5_roofs ml_X5_54 ob_167 rfl (Nat.le_of_ble_eq_true rfl) (by decide) dX5_year_38 (c_X5_roofs) (kI (fun e38 m38 q38 => ?_))
    obtain ⟨rfl, rfl⟩ := q38
    rw [rw_s, kYq_h0 a2 (by decide), kKY_lt hu (by decide), n1]
    refine w_icmp_ge (tgt := 111) (by omega) (by omega) dX5_year_41 (by decide) (fun h41 => ?_) (fun h41 => ?_)
    · have er : n = r := by omega
      subst er
      refine w_aload_n dX5_year_111 rfl ?_
      refine gf_X5_7 rfl dX5_year_112 ?_
      refine w_bipush dX5_year_115 (by decide) ?_
      refine w_dup2 dX5_year_117 ?_
      refine w_iald ar_168 (by omega) dX5_year_118 ?_
      refine w_iconst dX5_year_119 ?_
      refine w_iadd dX5_year_120 ?_
      refine w_iast ar_168 (by omega) dX5_year_121 ?_
      refine w_iload_n dX5_year_122 rfl ?_
      exact w_iretP rfl dX5_year_123 (by refine Or.inr ⟨by omega, rfl, fun a z1 z2 z3 => ?_, ?_⟩; (rw [wr_o z1, rw_o z1, f30 a z2 z3, tkN_o z2 z3, rw_o z1]); (rw [wr_rw, rw_s, rw_s, kYq_95 a2]; rfl))
    · refine w_iconst dX5_year_44 ?_
      refine w_istore dX5_year_45 (by decide) rfl ?_
      refine w_loop (ι := Int) (fun j => 0 ≤ j ∧ j ≤ 4) (fun j => (4 - j).toNat) (fun j => [some (vR 167), some (vI s), some (vI (fY v n s)), some (vI r), some (vI j)]) (fun j => rw_ m30 168 (kYq (kKY (μ 168)) (yv v n s) r j)) ?_ 0 ⟨by omega, by omega⟩
      intro i_ hinv47 ih47
      obtain ⟨j, rfl⟩ : ∃ z, z = i_ := ⟨_, rfl⟩
      try dsimp only at hinv47 ih47 ⊢
      obtain ⟨b1, b2⟩ := hinv47
      refine w_iload dX5_year_47 rfl ?_
      refine w_iconst dX5_year_49 ?_
      refine w_icmp_ge (tgt := 86) (by omega) (by omega) dX5_year_50 (by decide) (fun h50 => ?_) (fun h50 => ?_)
      · have e4 : j = 4 := by omega
        subst e4
        refine w_aload_n dX5_year_86 rfl ?_
        refine gf_X5_7 rfl dX5_year_87 ?_
        refine w_iconst dX5_year_90 ?_
        refine w_bipush dX5_year_91 (by decide) ?_
        refine w_iload_n dX5_year_93 rfl ?_
        refine w_imul dX5_year_94 ?_
        refine w_iadd dX5_year_95 ?_
        refine w_iconst dX5_year_96 ?_
        refine w_iadd dX5_year_97 ?_
        refine w_aload_n dX5_year_98 rfl ?_
        refine gf_X5_30 rfl dX5_year_99 ?_
        refine w_iload_n dX5_year_102 rfl ?_
        refine w_iald ar_173 (by omega) dX5_year_103 ?_
        refine w_iast ar_168 (by omega) dX5_year_104 ?_
        refine w_iinc dX5_year_105 rfl (by decide) rfl ?_
        refine w_goto (tgt := 36) dX5_year_108 (by decide) ?_
        refine w_drop 4 ?_
        refine w_mu ?_ (ih36 (r + 1) ⟨by omega, by omega, by omega⟩ (by omega))
        rw [wr_rw, rw_o (by decide), kYq_t a1 (by omega) (w2 r (by omega) (by omega)).2.1]
      · refine w_aload_n dX5_year_53 rfl ?_
        refine gf_X5_7 rfl dX5_year_54 ?_
        refine w_iconst dX5_year_57 ?_
        refine w_bipush dX5_year_58 (by decide) ?_
        refine w_iload_n dX5_year_60 rfl ?_
        refine w_imul dX5_year_61 ?_
        refine w_iadd dX5_year_62 ?_
        refine w_iconst dX5_year_63 ?_
        refine w_iadd dX5_year_64 ?_
        refine w_iload dX5_year_65 rfl ?_
        refine w_iadd dX5_year_67 ?_
        refine w_aload_n dX5_year_68 rfl ?_
        refine gf_X5_27 rfl dX5_year_69 ?_
        refine w_iconst dX5_year_72 ?_
        refine w_iload_n dX5_year_73 rfl ?_
        refine w_imul dX5_year_74 ?_
        refine w_iload dX5_year_75 rfl ?_
        refine w_iadd dX5_year_77 ?_
        refine w_iald ar_172 (by omega) dX5_year_78 ?_
        refine w_iast ar_168 (by omega) dX5_year_79 ?_
        refine w_iinc dX5_year_80 rfl (by decide) rfl ?_
        refine w_goto (tgt := 47) dX5_year_83 (by decide) ?_
        refine w_mu ?_ (ih47 (j + 1) ⟨by omega, by omega⟩ (by omega))
        rw [wr_rw, rw_o (by decide), kYq_s a1 (by omega) (by omega) (w3 (4 * r + j) (by omega) (by omega))]
  · refine w_aload_n dX5_year_5 rfl ?_
    refine w_iload_n dX5_year_6 rfl ?_
    refine w_cV1 kX5_isStorm ml_X5_104 ob_167 rfl (Nat.le_of_ble_eq_true rfl) (by decide) dX5_year_7 (c_X5_isStorm (by omega) g1 g2) (kI (fun e7 m7 q7 => ?_))
    obtain ⟨q7, rfl⟩ := q7
    refine w_if_ne (tgt := 20) (by omega) dX5_year_10 (by decide) (fun h10 => ?_) (fun h10 => ?_)
    · refine w_aload_n dX5_year_20 rfl ?_
      refine w_cV0 kX5_keepYear ml_X5_177 ob_167 rfl (Nat.le_of_ble_eq_true rfl) (by decide) dX5_year_21 (c_X5_keepYear hu) (kU (fun m21 q21 => ?_))
      obtain rfl := q21
      refine w_aload_n dX5_year_24 rfl ?_
      refine w_cV0 kX5_takeNow ml_X5_121 ob_167 rfl (Nat.le_of_ble_eq_true rfl) (by decide) dX5_year_25 (c_X5_takeNow (by rw [rw_s, kKY_lt hu (by decide), n1]; exact n2)) (kU (fun m25 q25 => ?_))
      obtain rfl := q25
      have hNW2 : NW (rw_ μ 168 (kKY (μ 168))) v n m := NW_cg (fun j j1 j2 => by rw [rw_s]; exact kKY_lt hu (by omega)) hNW
      have hMV := NW_MV hNW2
      refine w_aload_n dX5_year_28 rfl ?_
      refine w_iload_n dX5_year_29 rfl ?_
      refine w_cV1 kX5_goYear ml_X5_180 ob_167 rfl (Nat.le_of_ble_eq_true rfl) (by decide) dX5_year_30 (c_X5_goYear hMV (by omega)) (kI (fun e30 m30 q30 => ?_))
      obtain ⟨rfl, f30, v30⟩ := q30
      have e30 : m30 168 = (kKY (μ 168)) := by rw [f30 168 (by decide) (by decide), tkN_o (by decide) (by decide), rw_s]
      have w3 := v30.2.2.2.2
      have w2 := v30.2.2.2.1
      refine w_istore_n dX5_year_33 (by decide) rfl ?_
      refine w_iconst dX5_year_34 ?_
      refine w_istore_n dX5_year_35 (by decide) rfl ?_
      refine w_mu (show rw_ m30 168 (kYq (kKY (μ 168)) (yv v n s) 0 0) = m30 by rw [kYq_0]; exact rw_e e30) ?_
      refine w_loop (ι := Int) (fun r => 0 ≤ r ∧ r ≤ 7 ∧ r ≤ n) (fun r => (n - r).toNat) (fun r => [some (vR 167), some (vI s), some (vI (fY v n s)), some (vI r), none]) (fun r => rw_ m30 168 (kYq (kKY (μ 168)) (yv v n s) r 0)) ?_ 0 ⟨by omega, by omega, by omega⟩
      intro i_ hinv36 ih36
      obtain ⟨r, rfl⟩ : ∃ z, z = i_ := ⟨_, rfl⟩
      try dsimp only at hinv36 ih36 ⊢
      obtain ⟨a1, a2, a3⟩ := hinv36
      refine w_iload_n dX5_year_36 rfl ?_
      refine w_aload_n dX5_year_37 rfl ?_
      refine w_cV0 kX5_roofs ml_X5_54 ob_167 rfl (Nat.le_of_ble_eq_true rfl) (by decide) dX5_year_38 (c_X5_roofs) (kI (fun e38 m38 q38 => ?_))
      obtain ⟨rfl, rfl⟩ := q38
      rw [rw_s, kYq_h0 a2 (by decide), kKY_lt hu (by decide), n1]
      refine w_icmp_ge (tgt := 111) (by omega) (by omega) dX5_year_41 (by decide) (fun h41 => ?_) (fun h41 => ?_)
      · have er : n = r := by omega
        subst er
        refine w_aload_n dX5_year_111 rfl ?_
        refine gf_X5_7 rfl dX5_year_112 ?_
        refine w_bipush dX5_year_115 (by decide) ?_
        refine w_dup2 dX5_year_117 ?_
        refine w_iald ar_168 (by omega) dX5_year_118 ?_
        refine w_iconst dX5_year_119 ?_
        refine w_iadd dX5_year_120 ?_
        refine w_iast ar_168 (by omega) dX5_year_121 ?_
        refine w_iload_n dX5_year_122 rfl ?_
        exact w_iretP rfl dX5_year_123 (by refine Or.inr ⟨by omega, rfl, fun a z1 z2 z3 => ?_, ?_⟩; (rw [wr_o z1, rw_o z1, f30 a z2 z3, tkN_o z2 z3, rw_o z1]); (rw [wr_rw, rw_s, rw_s, kYq_95 a2]; rfl))
      · refine w_iconst dX5_year_44 ?_
        refine w_istore dX5_year_45 (by decide) rfl ?_
        refine w_loop (ι := Int) (fun j => 0 ≤ j ∧ j ≤ 4) (fun j => (4 - j).toNat) (fun j => [some (vR 167), some (vI s), some (vI (fY v n s)), some (vI r), some (vI j)]) (fun j => rw_ m30 168 (kYq (kKY (μ 168)) (yv v n s) r j)) ?_ 0 ⟨by omega, by omega⟩
        intro i_ hinv47 ih47
        obtain ⟨j, rfl⟩ : ∃ z, z = i_ := ⟨_, rfl⟩
        try dsimp only at hinv47 ih47 ⊢
        obtain ⟨b1, b2⟩ := hinv47
        refine w_iload dX5_year_47 rfl ?_
        refine w_iconst dX5_year_49 ?_
        refine w_icmp_ge (tgt := 86) (by omega) (by omega) dX5_year_50 (by decide) (fun h50 => ?_) (fun h50 => ?_)
        · have e4 : j = 4 := by omega
          subst e4
          refine w_aload_n dX5_year_86 rfl ?_
          refine gf_X5_7 rfl dX5_year_87 ?_
          refine w_iconst dX5_year_90 ?_
          refine w_bipush dX5_year_91 (by decide) ?_
          refine w_iload_n dX5_year_93 rfl ?_
          refine w_imul dX5_year_94 ?_
          refine w_iadd dX5_year_95 ?_
          refine w_iconst dX5_year_96 ?_
          refine w_iadd dX5_year_97 ?_
          refine w_aload_n dX5_year_98 rfl ?_
          refine gf_X5_30 rfl dX5_year_99 ?_
          refine w_iload_n dX5_year_102 rfl ?_
          refine w_iald ar_173 (by omega) dX5_year_103 ?_
          refine w_iast ar_168 (by omega) dX5_year_104 ?_
          refine w_iinc dX5_year_105 rfl (by decide) rfl ?_
          refine w_goto (tgt := 36) dX5_year_108 (by decide) ?_
          refine w_drop 4 ?_
          refine w_mu ?_ (ih36 (r + 1) ⟨by omega, by omega, by omega⟩ (by omega))
          rw [wr_rw, rw_o (by decide), kYq_t a1 (by omega) (w2 r (by omega) (by omega)).2.1]
        · refine w_aload_n dX5_year_53 rfl ?_
          refine gf_X5_7 rfl dX5_year_54 ?_
          refine w_iconst dX5_year_57 ?_
          refine w_bipush dX5_year_58 (by decide) ?_
          refine w_iload_n dX5_year_60 rfl ?_
          refine w_imul dX5_year_61 ?_
          refine w_iadd dX5_year_62 ?_
          refine w_iconst dX5_year_63 ?_
          refine w_iadd dX5_year_64 ?_
          refine w_iload dX5_year_65 rfl ?_
          refine w_iadd dX5_year_67 ?_
          refine w_aload_n dX5_year_68 rfl ?_
          refine gf_X5_27 rfl dX5_year_69 ?_
          refine w_iconst dX5_year_72 ?_
          refine w_iload_n dX5_year_73 rfl ?_
          refine w_imul dX5_year_74 ?_
          refine w_iload dX5_year_75 rfl ?_
          refine w_iadd dX5_year_77 ?_
          refine w_iald ar_172 (by omega) dX5_year_78 ?_
          refine w_iast ar_168 (by omega) dX5_year_79 ?_
          refine w_iinc dX5_year_80 rfl (by decide) rfl ?_
          refine w_goto (tgt := 47) dX5_year_83 (by decide) ?_
          refine w_mu ?_ (ih47 (j + 1) ⟨by omega, by omega⟩ (by omega))
          rw [wr_rw, rw_o (by decide), kYq_s a1 (by omega) (by omega) (w3 (4 * r + j) (by omega) (by omega))]
    · refine w_aload_n dX5_year_13 rfl ?_
      refine w_bipush dX5_year_14 (by decide) ?_
      refine w_cV1 kX5_bad ml_X5_73 ob_167 rfl (Nat.le_of_ble_eq_true rfl) (by decide) dX5_year_16 (c_X5_bad) (kI (fun e16 m16 q16 => ?_))
      obtain ⟨rfl, rfl⟩ := q16
      exact w_iretP rfl dX5_year_19 (by first | exact Or.inl (⟨by omega, rfl, rfl⟩) | (exfalso; omega))
set_option maxRecDepth 100000 in
set_option maxHeartbeats 4000000 in
theorem c_X5_undo {g : gG} {l : Launch} {μ : gM}   (hu : 0 ≤ μ 168 96 ∧ μ 168 96 ≤ 3) : CT g l YX5_undo 1 [vR 167] μ (pI fun e μ2 => (μ 168 96 = 0 ∧ e = -3 ∧ μ2 = rn μ) ∨ (0 < μ 168 96 ∧ e = 1 ∧ μ2 = rw_ μ 168 (kUN (μ 168)))) := by
  refine CT.of (n := 2) (by decide) rfl ?_
  show WA g l YX5_undo 1 _ 0 [some (vR 167), none, none] [] μ
  refine w_aload_n dX5_undo_0 rfl ?_
  refine gf_X5_7 rfl dX5_undo_1 ?_
  refine w_bipush dX5_undo_4 (by decide) ?_
  refine w_iald ar_168 (by omega) dX5_undo_6 ?_
  refine w_if_ne (tgt := 17) (by omega) dX5_undo_7 (by decide) (fun h7 => ?_) (fun h7 => ?_)
  · refine w_aload_n dX5_undo_17 rfl ?_
    refine gf_X5_7 rfl dX5_undo_18 ?_
    refine w_bipush dX5_undo_21 (by decide) ?_
    refine w_dup2 dX5_undo_23 ?_
    refine w_iald ar_168 (by omega) dX5_undo_24 ?_
    refine w_iconst dX5_undo_25 ?_
    refine w_isub dX5_undo_26 ?_
    refine w_iast ar_168 (by omega) dX5_undo_27 ?_
    refine w_aload_n dX5_undo_28 rfl ?_
    refine gf_X5_7 rfl dX5_undo_29 ?_
    refine w_bipush dX5_undo_32 (by decide) ?_
    refine w_dup2 dX5_undo_34 ?_
    refine w_iald ar_168 (by omega) dX5_undo_35 ?_
    refine w_iconst dX5_undo_36 ?_
    refine w_isub dX5_undo_37 ?_
    refine w_iast ar_168 (by omega) dX5_undo_38 ?_
    refine w_bipush dX5_undo_39 (by decide) ?_
    refine w_bipush dX5_undo_41 (by decide) ?_
    refine w_aload_n dX5_undo_43 rfl ?_
    refine gf_X5_7 rfl dX5_undo_44 ?_
    refine w_bipush dX5_undo_47 (by decide) ?_
    refine w_iald ar_168 (by omega) dX5_undo_49 ?_
    rw [wr_n (by decide), wr_s]
    refine w_imul dX5_undo_50 ?_
    refine w_iadd dX5_undo_51 ?_
    refine w_istore_n dX5_undo_52 (by decide) rfl ?_
    refine w_iconst dX5_undo_53 ?_
    refine w_istore_n dX5_undo_54 (by decide) rfl ?_
    refine w_mu (show rw_ μ 168 (cX (kup (kup (μ 168) 96 (μ 168 96 - 1)) 95 (μ 168 95 - 1)) (kup (kup (μ 168) 96 (μ 168 96 - 1)) 95 (μ 168 95 - 1)) 0 (97 + 95 * (μ 168 96 - 1)) 0) = _ by rw [cX_0, wr_n (by decide), wr_ri (μ := μ), wr_rw]) ?_
    refine w_loop (ι := Int) (fun k => 0 ≤ k ∧ k ≤ 95) (fun k => (95 - k).toNat) (fun k => [some (vR 167), some (vI (97 + 95 * (μ 168 96 - 1))), some (vI k)]) (fun k => rw_ μ 168 (cX (kup (kup (μ 168) 96 (μ 168 96 - 1)) 95 (μ 168 95 - 1)) (kup (kup (μ 168) 96 (μ 168 96 - 1)) 95 (μ 168 95 - 1)) 0 (97 + 95 * (μ 168 96 - 1)) k)) ?_ 0 ⟨by omega, by omega⟩
    intro i_ hinv55 ih55
    obtain ⟨k, rfl⟩ : ∃ z, z = i_ := ⟨_, rfl⟩
    try dsimp only at hinv55 ih55 ⊢
    obtain ⟨a1, a2⟩ := hinv55
    refine w_iload_n dX5_undo_55 rfl ?_
    refine w_bipush dX5_undo_56 (by decide) ?_
    refine w_icmp_ge (tgt := 81) (by omega) (by omega) dX5_undo_58 (by decide) (fun h58 => ?_) (fun h58 => ?_)
    · have e95 : k = 95 := by omega
      subst e95
      refine w_iconst dX5_undo_81 ?_
      exact w_iretP rfl dX5_undo_82 (by first | exact Or.inl (⟨by omega, rfl, rfl⟩) | exact Or.inr (⟨by omega, rfl, rfl⟩) | (exfalso; omega))
    · refine w_aload_n dX5_undo_61 rfl ?_
      refine gf_X5_7 rfl dX5_undo_62 ?_
      refine w_iload_n dX5_undo_65 rfl ?_
      refine w_aload_n dX5_undo_66 rfl ?_
      refine gf_X5_7 rfl dX5_undo_67 ?_
      refine w_iload_n dX5_undo_70 rfl ?_
      refine w_iload_n dX5_undo_71 rfl ?_
      refine w_iadd dX5_undo_72 ?_
      refine w_iald ar_168 (by omega) dX5_undo_73 ?_
      refine w_iast ar_168 (by omega) dX5_undo_74 ?_
      refine w_iinc dX5_undo_75 rfl (by decide) rfl ?_
      refine w_goto (tgt := 55) dX5_undo_78 (by decide) ?_
      refine w_mu ?_ (ih55 (k + 1) ⟨by omega, by omega⟩ (by omega))
      rw [wr_rw, rw_s, cX_s a1 (by omega) (cX_o (by omega))]
  · refine w_aload_n dX5_undo_10 rfl ?_
    refine w_bipush dX5_undo_11 (by decide) ?_
    refine w_cV1 kX5_no ml_X5_90 ob_167 rfl (Nat.le_of_ble_eq_true rfl) (by decide) dX5_undo_13 (c_X5_no) (kI (fun e13 m13 q13 => ?_))
    obtain ⟨rfl, rfl⟩ := q13
    exact w_iretP rfl dX5_undo_16 (by first | exact Or.inl (⟨by omega, rfl, rfl⟩) | exact Or.inr (⟨by omega, rfl, rfl⟩) | (exfalso; omega))
set_option maxRecDepth 100000 in
set_option maxHeartbeats 4000000 in
theorem c_X5_drawn {g : gG} {l : Launch} {μ : gM} {sd : Int} {y : Int} {v : gV} {n m : Int} (r1 : -2147483648 ≤ sd ∧ sd < 2147483648) (r2 : -2147483648 ≤ y ∧ y < 2147483648) (hNW : NW μ v n m) : CT g l YX5_drawn 7 [vR 167, vI sd, vI y] μ (pI fun e μ2 => (¬ (0 ≤ sd ∧ sd ≤ 999999 ∧ 0 ≤ y ∧ y ≤ 20) ∧ e = -1000 ∧ μ2 = rb μ) ∨ ((0 ≤ sd ∧ sd ≤ 999999 ∧ 0 ≤ y ∧ y ≤ 20) ∧ e = (dwI v n m sd y).2.1 ∧ (∀ a, a ≠ 172 → a ≠ 173 → μ2 a = μ a))) := by
  have hMG := hNW.1
  obtain ⟨g1, g2, gV, g4, g5⟩ := id hMG
  have hV := gV.1
  obtain ⟨-, n1, n2, n3, n4⟩ := id hNW
  refine CT.of (n := 9) (by decide) rfl ?_
  show WA g l YX5_drawn 7 _ 0 [some (vR 167), some (vI sd), some (vI y), none, none, none, none, none, none, none, none, none] [] μ
  refine w_iload_n dX5_drawn_0 rfl ?_
  refine w_i2l (by omega) dX5_drawn_1 ?_
  refine w_lconst 0 dX5_drawn_2 (by decide) ?_
  refine w_ldc2 (999999) cl_X5_183 dX5_drawn_3 (by decide) ?_
  refine w_cS3 kX5_in ml_X5_58 (Nat.le_of_ble_eq_true rfl) (by decide) dX5_drawn_6 (c_X5_in (by omega) (by omega) (by omega)) (kI (fun e6 m6 q6 => ?_))
  obtain ⟨q6, rfl⟩ := q6
  refine w_if_eq (tgt := 24) (by omega) dX5_drawn_9 (by decide) (fun h9 => ?_) (fun h9 => ?_)
  · refine w_aload_n dX5_drawn_24 rfl ?_
    refine w_sipush dX5_drawn_25 (by decide) ?_
    refine w_cV1 kX5_bad ml_X5_73 ob_167 rfl (Nat.le_of_ble_eq_true rfl) (by decide) dX5_drawn_28 (c_X5_bad) (kI (fun e28 m28 q28 => ?_))
    obtain ⟨rfl, rfl⟩ := q28
    exact w_iretP rfl dX5_drawn_31 (by first | exact Or.inl (⟨by omega, rfl, rfl⟩) | (exfalso; omega))
  · refine w_iload_n dX5_drawn_12 rfl ?_
    refine w_i2l (by omega) dX5_drawn_13 ?_
    refine w_lconst 0 dX5_drawn_14 (by decide) ?_
    refine w_ldc2 (20) cl_X5_185 dX5_drawn_15 (by decide) ?_
    refine w_cS3 kX5_in ml_X5_58 (Nat.le_of_ble_eq_true rfl) (by decide) dX5_drawn_18 (c_X5_in (by omega) (by omega) (by omega)) (kI (fun e18 m18 q18 => ?_))
    obtain ⟨q18, rfl⟩ := q18
    refine w_if_ne (tgt := 32) (by omega) dX5_drawn_21 (by decide) (fun h21 => ?_) (fun h21 => ?_)
    · refine w_aload_n dX5_drawn_32 rfl ?_
      refine w_cV0 kX5_takeNow ml_X5_121 ob_167 rfl (Nat.le_of_ble_eq_true rfl) (by decide) dX5_drawn_33 (c_X5_takeNow (by rw [n1]; exact n2)) (kU (fun m33 q33 => ?_))
      obtain rfl := q33
      have hMV := NW_MV hNW
      have a60 : ∀ a, a ≠ 172 → a ≠ 173 → tkN μ a = μ a := fun a z1 z2 => tkN_o z1 z2
      refine w_iload_n dX5_drawn_36 rfl ?_
      refine w_i2l (by omega) dX5_drawn_37 ?_
      refine w_lstore_n dX5_drawn_38 (by decide) rfl ?_
      refine w_iconst dX5_drawn_39 ?_
      refine w_istore dX5_drawn_40 (by decide) rfl ?_
      refine w_iconst dX5_drawn_42 ?_
      refine w_istore dX5_drawn_43 (by decide) rfl ?_
      refine w_loop (ι := Int × Int × Int × gM) (fun i => match i with | (x, ov, k, m_) => 0 ≤ k ∧ k ≤ y ∧ x = (dwI v n m sd k).1 ∧ ov = (dwI v n m sd k).2.1 ∧ (0 ≤ x ∧ x < 2147483648) ∧ (∀ a, a ≠ 172 → a ≠ 173 → m_ a = μ a) ∧ MV m_ (dwI v n m sd k).2.2 n m) (fun i => match i with | (x, ov, k, m_) => (y - k).toNat) (fun i => match i with | (x, ov, k, m_) => [some (vR 167), some (vI sd), some (vI y), some (vL x), none, some (vI ov), some (vI k), none, none, none, none, none]) (fun i => match i with | (x, ov, k, m_) => m_) ?_ (sd, 0, 0, tkN μ) ⟨by omega, by omega, rfl, rfl, by omega, a60, hMV⟩
      intro i_ hinv45 ih45
      obtain ⟨x, ov, k, m_⟩ := i_
      try dsimp only at hinv45 ih45 ⊢
      obtain ⟨a1, a2, a3, a4, a5, a6, hMV2⟩ := hinv45
      obtain ⟨V, eV⟩ : ∃ z, z = (dwI v n m sd k).2.2 := ⟨_, rfl⟩
      rw [← eV] at hMV2
      have e168 : m_ 168 = μ 168 := a6 168 (by decide) (by decide)
      have gg4 := hMV2.1.2.2.2.1
      have hV2 := hMV2.1.2.2.1.1
      refine w_iload dX5_drawn_45 rfl ?_
      refine w_iload_n dX5_drawn_47 rfl ?_
      refine w_icmp_ge (tgt := 225) (by omega) (by omega) dX5_drawn_48 (by decide) (fun h48 => ?_) (fun h48 => ?_)
      · refine w_iload dX5_drawn_225 rfl ?_
        exact w_iretP rfl dX5_drawn_227 (by have ek : y = k := (by omega); subst ek; exact Or.inr ⟨by omega, a4, a6⟩)
      · refine w_lload_n dX5_drawn_51 rfl ?_
        refine w_ldc2 (1103515245) cl_X5_187 dX5_drawn_52 (by decide) ?_
        refine w_lmul dX5_drawn_55 ?_
        refine w_ldc2 (12345) cl_X5_189 dX5_drawn_56 (by decide) ?_
        refine w_ladd dX5_drawn_59 ?_
        refine w_ldc2 (2147483648) cl_X5_191 dX5_drawn_60 (by decide) ?_
        refine w_lrem (by omega) (by omega) dX5_drawn_63 ?_
        refine w_lstore_n dX5_drawn_64 (by decide) rfl ?_
        refine w_lload_n dX5_drawn_65 rfl ?_
        refine w_ldc2 (65536) cl_X5_193 dX5_drawn_66 (by decide) ?_
        refine w_ldiv (by omega) (by omega) dX5_drawn_69 ?_
        have hx0 : 0 ≤ (x * 1103515245 + 12345) % 2147483648 := Int.emod_nonneg _ (by decide)
        have hx1 : (x * 1103515245 + 12345) % 2147483648 < 2147483648 := Int.emod_lt_of_pos _ (by decide)
        refine w_aload_n dX5_drawn_70 rfl ?_
        refine w_cV0 kX5_allChances ml_X5_135 ob_167 rfl (Nat.le_of_ble_eq_true rfl) (by decide) dX5_drawn_71 (c_X5_allChances hMV2.1) (kI (fun e71 m71 q71 => ?_))
        obtain ⟨rfl, rfl, b71⟩ := q71
        refine w_iconst dX5_drawn_74 ?_
        refine w_iadd dX5_drawn_75 ?_
        refine w_i2l (by omega) dX5_drawn_76 ?_
        refine w_lrem (by omega) (by omega) dX5_drawn_77 ?_
        refine w_l2i dX5_drawn_78 ?_
        obtain ⟨R, eR⟩ : ∃ z, z = ((x * 1103515245 + 12345) % 2147483648) / 65536 % (fC V m + 1) := ⟨_, rfl⟩
        rw [← eR]
        have hR : 0 ≤ R ∧ R < fC V m + 1 := by rw [eR]; exact ⟨Int.emod_nonneg _ (by omega), Int.emod_lt_of_pos _ (by omega)⟩
        refine w_istore dX5_drawn_79 (by decide) rfl ?_
        refine w_iconst dX5_drawn_81 ?_
        refine w_istore dX5_drawn_82 (by decide) rfl ?_
        refine w_iload dX5_drawn_84 rfl ?_
        refine w_aload_n dX5_drawn_86 rfl ?_
        refine w_cV0 kX5_storms ml_X5_62 ob_167 rfl (Nat.le_of_ble_eq_true rfl) (by decide) dX5_drawn_87 (c_X5_storms) (kI (fun e87 m87 q87 => ?_))
        obtain ⟨rfl, rfl⟩ := q87
        rw [e168, g1]
        refine w_icmp_ge (tgt := 102) (by omega) (by omega) dX5_drawn_90 (by decide) (fun h90 => ?_) (fun h90 => ?_)
        · refine w_iconst dX5_drawn_102 ?_
          refine w_istore dX5_drawn_103 (by decide) rfl ?_
          refine w_loop (ι := Int × Int) (fun i => match i with | (s, t) => 0 ≤ s ∧ s ≤ m ∧ (s < m → t = fC V (s + 1)) ∧ (0 ≤ t ∧ t ≤ 54) ∧ (∀ j, 0 ≤ j → j < s → fC V (j + 1) ≤ R)) (fun i => match i with | (s, t) => (m - s).toNat) (fun i => match i with | (s, t) => [some (vR 167), some (vI sd), some (vI y), some (vL ((x * 1103515245 + 12345) % 2147483648)), none, some (vI ov), some (vI k), some (vI R), some (vI s), some (vI t), none, none]) (fun i => match i with | (s, t) => m_) ?_ (0, _) ⟨by omega, by omega, fun z => by first | (exfalso; omega) | (rw [fC_s (by decide)]; show _ = 0 + _; rw [Int.zero_add]; exact ht0), by omega, fun j j1 j2 => by omega⟩
          intro i_ hinv105 ih105
          obtain ⟨s, t⟩ := i_
          try dsimp only at hinv105 ih105 ⊢
          obtain ⟨c1, c2, c3, c4, c5⟩ := hinv105
          refine w_iload dX5_drawn_105 rfl ?_
          refine w_aload_n dX5_drawn_107 rfl ?_
          refine w_cV0 kX5_storms ml_X5_62 ob_167 rfl (Nat.le_of_ble_eq_true rfl) (by decide) dX5_drawn_108 (c_X5_storms) (kI (fun e108 m108 q108 => ?_))
          obtain ⟨rfl, rfl⟩ := q108
          rw [e168, g1]
          refine w_icmp_ge (tgt := 152) (by omega) (by omega) dX5_drawn_111 (by decide) (fun h111 => ?_) (fun h111 => ?_)
          · refine w_iload dX5_drawn_152 rfl ?_
            refine w_aload_n dX5_drawn_154 rfl ?_
            refine w_cV0 kX5_storms ml_X5_62 ob_167 rfl (Nat.le_of_ble_eq_true rfl) (by decide) dX5_drawn_155 (c_X5_storms) (kI (fun e155 m155 q155 => ?_))
            obtain ⟨rfl, rfl⟩ := q155
            rw [e168, g1]
            refine w_icmp_ge (tgt := 170) (by omega) (by omega) dX5_drawn_158 (by decide) (fun h158 => ?_) (fun h158 => ?_)
            · refine w_iconst dX5_drawn_170 ?_
              refine w_istore dX5_drawn_171 (by decide) rfl ?_
              refine w_iload dX5_drawn_173 rfl ?_
              refine w_iload dX5_drawn_175 rfl ?_
              refine w_if_ne (tgt := 184) (by omega) dX5_drawn_177 (by decide) (fun h177 => ?_) (fun h177 => ?_)
              · refine w_iload dX5_drawn_184 rfl ?_
                refine w_iconst dX5_drawn_186 ?_
                refine w_icmp_ne (tgt := 194) (by omega) (by omega) dX5_drawn_187 (by decide) (fun h187 => ?_) (fun h187 => ?_)
                · refine w_iconst dX5_drawn_194 ?_
                  refine w_iadd dX5_drawn_195 ?_
                  refine w_istore dX5_drawn_196 (by decide) rfl ?_
                  refine w_aload_n dX5_drawn_198 rfl ?_
                  refine w_iload dX5_drawn_199 rfl ?_
                  refine w_aload_n dX5_drawn_201 rfl ?_
                  refine w_cV0 kX5_storms ml_X5_62 ob_167 rfl (Nat.le_of_ble_eq_true rfl) (by decide) dX5_drawn_202 (c_X5_storms) (kI (fun e202 m202 q202 => ?_))
                  obtain ⟨rfl, rfl⟩ := q202
                  rw [e168, g1]
                  refine w_icmp_ge (tgt := 213) (by omega) (by omega) dX5_drawn_205 (by decide) (fun h205 => ?_) (fun h205 => ?_)
                  · refine w_iconst dX5_drawn_213 ?_
                    refine w_cV1 kX5_goYear ml_X5_180 ob_167 rfl (Nat.le_of_ble_eq_true rfl) (by decide) dX5_drawn_214 (c_X5_goYear hMV2 (by omega)) (kI (fun e214 m214 q214 => ?_))
                    obtain ⟨rfl, f214, v214⟩ := q214
                    refine w_istore dX5_drawn_217 (by decide) rfl ?_
                    refine w_iinc dX5_drawn_219 rfl (by decide) rfl ?_
                    refine w_goto (tgt := 45) dX5_drawn_222 (by decide) ?_
                    refine w_drop 7 ?_
                    refine w_drop 8 ?_
                    refine w_drop 9 ?_
                    refine w_drop 10 ?_
                    refine w_drop 11 ?_
                    have hsat : sAt V m R (-1) := Or.inr ⟨rfl, fun j j1 j2 => c5 j j1 (by omega)⟩
                    have hds : (-1) = ds V m x := (sAt_F g2.1 hsat).trans (by rw [eR]; rfl)
                    have hdg : (0 : Int) = dg V n (-1) := by unfold dg; rw [if_pos rfl]
                    have eD := dwI_s (v := v) (n := n) (m := m) (seed := sd) a1
                    rw [← a3, ← a4, ← eV, ← hds, ← hdg] at eD
                    refine ih45 (((x * 1103515245 + 12345) % 2147483648), ov + (0), k + 1, m214) ⟨by dsimp only; omega, by dsimp only; omega, ?_, ?_, by dsimp only; omega, fun a z1 z2 => ?_, ?_⟩ (by dsimp only; omega)
                    · dsimp only; rw [eD]; rfl
                    · dsimp only; rw [eD]
                    · dsimp only; rw [f214 a z1 z2]; exact a6 a z1 z2
                    · dsimp only; rw [eD]; exact v214
                  · exfalso; omega
                · exfalso; omega
              · exfalso; omega
            · exfalso; omega
          · refine w_iload dX5_drawn_114 rfl ?_
            refine w_iload dX5_drawn_116 rfl ?_
            refine w_icmp_gt (tgt := 152) (by omega) (by omega) dX5_drawn_118 (by decide) (fun h118 => ?_) (fun h118 => ?_)
            · refine w_iload dX5_drawn_152 rfl ?_
              refine w_aload_n dX5_drawn_154 rfl ?_
              refine w_cV0 kX5_storms ml_X5_62 ob_167 rfl (Nat.le_of_ble_eq_true rfl) (by decide) dX5_drawn_155 (c_X5_storms) (kI (fun e155 m155 q155 => ?_))
              obtain ⟨rfl, rfl⟩ := q155
              rw [e168, g1]
              refine w_icmp_ge (tgt := 170) (by omega) (by omega) dX5_drawn_158 (by decide) (fun h158 => ?_) (fun h158 => ?_)
              · exfalso; omega
              · refine w_aload_n dX5_drawn_161 rfl ?_
                refine w_iload dX5_drawn_162 rfl ?_
                refine w_cV1 kX5_winner ml_X5_127 ob_167 rfl (Nat.le_of_ble_eq_true rfl) (by decide) dX5_drawn_164 (c_X5_winner hMV2 (by omega)) (kI (fun e164 m164 q164 => ?_))
                obtain ⟨rfl, rfl, b164⟩ := q164
                refine w_goto (tgt := 171) dX5_drawn_167 (by decide) ?_
                refine w_istore dX5_drawn_171 (by decide) rfl ?_
                refine w_iload dX5_drawn_173 rfl ?_
                refine w_iload dX5_drawn_175 rfl ?_
                refine w_if_ne (tgt := 184) (by omega) dX5_drawn_177 (by decide) (fun h177 => ?_) (fun h177 => ?_)
                · refine w_iload dX5_drawn_184 rfl ?_
                  refine w_iconst dX5_drawn_186 ?_
                  refine w_icmp_ne (tgt := 194) (by omega) (by omega) dX5_drawn_187 (by decide) (fun h187 => ?_) (fun h187 => ?_)
                  · refine w_iconst dX5_drawn_194 ?_
                    refine w_iadd dX5_drawn_195 ?_
                    refine w_istore dX5_drawn_196 (by decide) rfl ?_
                    refine w_aload_n dX5_drawn_198 rfl ?_
                    refine w_iload dX5_drawn_199 rfl ?_
                    refine w_aload_n dX5_drawn_201 rfl ?_
                    refine w_cV0 kX5_storms ml_X5_62 ob_167 rfl (Nat.le_of_ble_eq_true rfl) (by decide) dX5_drawn_202 (c_X5_storms) (kI (fun e202 m202 q202 => ?_))
                    obtain ⟨rfl, rfl⟩ := q202
                    rw [e168, g1]
                    refine w_icmp_ge (tgt := 213) (by omega) (by omega) dX5_drawn_205 (by decide) (fun h205 => ?_) (fun h205 => ?_)
                    · exfalso; omega
                    · refine w_iload dX5_drawn_208 rfl ?_
                      refine w_goto (tgt := 214) dX5_drawn_210 (by decide) ?_
                      refine w_cV1 kX5_goYear ml_X5_180 ob_167 rfl (Nat.le_of_ble_eq_true rfl) (by decide) dX5_drawn_214 (c_X5_goYear hMV2 (by omega)) (kI (fun e214 m214 q214 => ?_))
                      obtain ⟨rfl, f214, v214⟩ := q214
                      refine w_istore dX5_drawn_217 (by decide) rfl ?_
                      refine w_iinc dX5_drawn_219 rfl (by decide) rfl ?_
                      refine w_goto (tgt := 45) dX5_drawn_222 (by decide) ?_
                      refine w_drop 7 ?_
                      refine w_drop 8 ?_
                      refine w_drop 9 ?_
                      refine w_drop 10 ?_
                      refine w_drop 11 ?_
                      have hsat : sAt V m R (s) := Or.inl ⟨c1, by omega, by have := c3 (by omega); omega, c5⟩
                      have hds : (s) = ds V m x := (sAt_F g2.1 hsat).trans (by rw [eR]; rfl)
                      have hdg : (0 : Int) = dg V n (s) := by unfold dg; rw [if_neg (by omega)]; (repeat' split) <;> omega
                      have eD := dwI_s (v := v) (n := n) (m := m) (seed := sd) a1
                      rw [← a3, ← a4, ← eV, ← hds, ← hdg] at eD
                      refine ih45 (((x * 1103515245 + 12345) % 2147483648), ov + (0), k + 1, m214) ⟨by dsimp only; omega, by dsimp only; omega, ?_, ?_, by dsimp only; omega, fun a z1 z2 => ?_, ?_⟩ (by dsimp only; omega)
                      · dsimp only; rw [eD]; rfl
                      · dsimp only; rw [eD]
                      · dsimp only; rw [f214 a z1 z2]; exact a6 a z1 z2
                      · dsimp only; rw [eD]; exact v214
                  · refine w_iconst dX5_drawn_190 ?_
                    refine w_goto (tgt := 195) dX5_drawn_191 (by decide) ?_
                    refine w_iadd dX5_drawn_195 ?_
                    refine w_istore dX5_drawn_196 (by decide) rfl ?_
                    refine w_aload_n dX5_drawn_198 rfl ?_
                    refine w_iload dX5_drawn_199 rfl ?_
                    refine w_aload_n dX5_drawn_201 rfl ?_
                    refine w_cV0 kX5_storms ml_X5_62 ob_167 rfl (Nat.le_of_ble_eq_true rfl) (by decide) dX5_drawn_202 (c_X5_storms) (kI (fun e202 m202 q202 => ?_))
                    obtain ⟨rfl, rfl⟩ := q202
                    rw [e168, g1]
                    refine w_icmp_ge (tgt := 213) (by omega) (by omega) dX5_drawn_205 (by decide) (fun h205 => ?_) (fun h205 => ?_)
                    · exfalso; omega
                    · refine w_iload dX5_drawn_208 rfl ?_
                      refine w_goto (tgt := 214) dX5_drawn_210 (by decide) ?_
                      refine w_cV1 kX5_goYear ml_X5_180 ob_167 rfl (Nat.le_of_ble_eq_true rfl) (by decide) dX5_drawn_214 (c_X5_goYear hMV2 (by omega)) (kI (fun e214 m214 q214 => ?_))
                      obtain ⟨rfl, f214, v214⟩ := q214
                      refine w_istore dX5_drawn_217 (by decide) rfl ?_
                      refine w_iinc dX5_drawn_219 rfl (by decide) rfl ?_
                      refine w_goto (tgt := 45) dX5_drawn_222 (by decide) ?_
                      refine w_drop 7 ?_
                      refine w_drop 8 ?_
                      refine w_drop 9 ?_
                      refine w_drop 10 ?_
                      refine w_drop 11 ?_
                      have hsat : sAt V m R (s) := Or.inl ⟨c1, by omega, by have := c3 (by omega); omega, c5⟩
                      have hds : (s) = ds V m x := (sAt_F g2.1 hsat).trans (by rw [eR]; rfl)
                      have hdg : (-1 : Int) = dg V n (s) := by unfold dg; rw [if_neg (by omega)]; (repeat' split) <;> omega
                      have eD := dwI_s (v := v) (n := n) (m := m) (seed := sd) a1
                      rw [← a3, ← a4, ← eV, ← hds, ← hdg] at eD
                      refine ih45 (((x * 1103515245 + 12345) % 2147483648), ov + (-1), k + 1, m214) ⟨by dsimp only; omega, by dsimp only; omega, ?_, ?_, by dsimp only; omega, fun a z1 z2 => ?_, ?_⟩ (by dsimp only; omega)
                      · dsimp only; rw [eD]; rfl
                      · dsimp only; rw [eD]
                      · dsimp only; rw [f214 a z1 z2]; exact a6 a z1 z2
                      · dsimp only; rw [eD]; exact v214
                · refine w_iconst dX5_drawn_180 ?_
                  refine w_goto (tgt := 195) dX5_drawn_181 (by decide) ?_
                  refine w_iadd dX5_drawn_195 ?_
                  refine w_istore dX5_drawn_196 (by decide) rfl ?_
                  refine w_aload_n dX5_drawn_198 rfl ?_
                  refine w_iload dX5_drawn_199 rfl ?_
                  refine w_aload_n dX5_drawn_201 rfl ?_
                  refine w_cV0 kX5_storms ml_X5_62 ob_167 rfl (Nat.le_of_ble_eq_true rfl) (by decide) dX5_drawn_202 (c_X5_storms) (kI (fun e202 m202 q202 => ?_))
                  obtain ⟨rfl, rfl⟩ := q202
                  rw [e168, g1]
                  refine w_icmp_ge (tgt := 213) (by omega) (by omega) dX5_drawn_205 (by decide) (fun h205 => ?_) (fun h205 => ?_)
                  · exfalso; omega
                  · refine w_iload dX5_drawn_208 rfl ?_
                    refine w_goto (tgt := 214) dX5_drawn_210 (by decide) ?_
                    refine w_cV1 kX5_goYear ml_X5_180 ob_167 rfl (Nat.le_of_ble_eq_true rfl) (by decide) dX5_drawn_214 (c_X5_goYear hMV2 (by omega)) (kI (fun e214 m214 q214 => ?_))
                    obtain ⟨rfl, f214, v214⟩ := q214
                    refine w_istore dX5_drawn_217 (by decide) rfl ?_
                    refine w_iinc dX5_drawn_219 rfl (by decide) rfl ?_
                    refine w_goto (tgt := 45) dX5_drawn_222 (by decide) ?_
                    refine w_drop 7 ?_
                    refine w_drop 8 ?_
                    refine w_drop 9 ?_
                    refine w_drop 10 ?_
                    refine w_drop 11 ?_
                    have hsat : sAt V m R (s) := Or.inl ⟨c1, by omega, by have := c3 (by omega); omega, c5⟩
                    have hds : (s) = ds V m x := (sAt_F g2.1 hsat).trans (by rw [eR]; rfl)
                    have hdg : (1 : Int) = dg V n (s) := by unfold dg; rw [if_neg (by omega)]; (repeat' split) <;> omega
                    have eD := dwI_s (v := v) (n := n) (m := m) (seed := sd) a1
                    rw [← a3, ← a4, ← eV, ← hds, ← hdg] at eD
                    refine ih45 (((x * 1103515245 + 12345) % 2147483648), ov + (1), k + 1, m214) ⟨by dsimp only; omega, by dsimp only; omega, ?_, ?_, by dsimp only; omega, fun a z1 z2 => ?_, ?_⟩ (by dsimp only; omega)
                    · dsimp only; rw [eD]; rfl
                    · dsimp only; rw [eD]
                    · dsimp only; rw [f214 a z1 z2]; exact a6 a z1 z2
                    · dsimp only; rw [eD]; exact v214
            · refine w_iinc dX5_drawn_121 rfl (by decide) rfl ?_
              refine w_iload dX5_drawn_124 rfl ?_
              refine w_iload dX5_drawn_126 rfl ?_
              refine w_aload_n dX5_drawn_128 rfl ?_
              refine w_cV0 kX5_storms ml_X5_62 ob_167 rfl (Nat.le_of_ble_eq_true rfl) (by decide) dX5_drawn_129 (c_X5_storms) (kI (fun e129 m129 q129 => ?_))
              obtain ⟨rfl, rfl⟩ := q129
              rw [e168, g1]
              refine w_icmp_ge (tgt := 145) (by omega) (by omega) dX5_drawn_132 (by decide) (fun h132 => ?_) (fun h132 => ?_)
              · refine w_iconst dX5_drawn_145 ?_
                refine w_iadd dX5_drawn_146 ?_
                refine w_istore dX5_drawn_147 (by decide) rfl ?_
                refine w_goto (tgt := 105) dX5_drawn_149 (by decide) ?_
                refine ih105 (s + 1, _) ⟨by dsimp only; omega, by dsimp only; omega, fun z => ?_, ?_, fun j j1 j2 => ?_⟩ (by dsimp only; omega)
                · dsimp only at z ⊢
                  first
                  | (exfalso; omega)
                  | (rw [fC_s (by omega), ← c3 (by omega), ht1])
                · dsimp only
                  have y1 := fC_bd hV2 (m := s + 1) (by omega)
                  have y2 := c3 (by omega)
                  first
                  | omega
                  | (have y3 := fC_bd hV2 (m := s + 1 + 1) (by omega)
                     rw [fC_s (by omega)] at y3
                     omega)
                · dsimp only at j2
                  by_cases ej : j = s
                  · have y2 := c3 (by omega)
                    rw [ej, ← y2]; omega
                  · exact c5 j j1 (by omega)
              · refine w_aload_n dX5_drawn_135 rfl ?_
                refine w_iload dX5_drawn_136 rfl ?_
                refine w_iconst dX5_drawn_138 ?_
                refine w_cV2 kX5_of ml_X5_97 ob_167 rfl (Nat.le_of_ble_eq_true rfl) (by decide) dX5_drawn_139 (c_X5_of (by omega) (by omega)) (kI (fun e139 m139 q139 => ?_))
                obtain ⟨rfl, rfl⟩ := q139
                have ht1 := (gg4 (s + 1) (by omega) (by omega)).2.2.2.2
                have ht9 := hV2.2.2.2.2.1 (s + 1)
                refine w_goto (tgt := 146) dX5_drawn_142 (by decide) ?_
                refine w_iadd dX5_drawn_146 ?_
                refine w_istore dX5_drawn_147 (by decide) rfl ?_
                refine w_goto (tgt := 105) dX5_drawn_149 (by decide) ?_
                refine ih105 (s + 1, _) ⟨by dsimp only; omega, by dsimp only; omega, fun z => ?_, ?_, fun j j1 j2 => ?_⟩ (by dsimp only; omega)
                · dsimp only at z ⊢
                  first
                  | (exfalso; omega)
                  | (rw [fC_s (by omega), ← c3 (by omega), ht1])
                · dsimp only
                  have y1 := fC_bd hV2 (m := s + 1) (by omega)
                  have y2 := c3 (by omega)
                  first
                  | omega
                  | (have y3 := fC_bd hV2 (m := s + 1 + 1) (by omega)
                     rw [fC_s (by omega)] at y3
                     omega)
                · dsimp only at j2
                  by_cases ej : j = s
                  · have y2 := c3 (by omega)
                    rw [ej, ← y2]; omega
                  · exact c5 j j1 (by omega)
        · refine w_aload_n dX5_drawn_93 rfl ?_
          refine w_iconst dX5_drawn_94 ?_
          refine w_iconst dX5_drawn_95 ?_
          refine w_cV2 kX5_of ml_X5_97 ob_167 rfl (Nat.le_of_ble_eq_true rfl) (by decide) dX5_drawn_96 (c_X5_of (by omega) (by omega)) (kI (fun e96 m96 q96 => ?_))
          obtain ⟨rfl, rfl⟩ := q96
          have ht0 := (gg4 0 (by omega) (by omega)).2.2.2.2
          have ht9 := hV2.2.2.2.2.1 0
          refine w_goto (tgt := 103) dX5_drawn_99 (by decide) ?_
          refine w_istore dX5_drawn_103 (by decide) rfl ?_
          refine w_loop (ι := Int × Int) (fun i => match i with | (s, t) => 0 ≤ s ∧ s ≤ m ∧ (s < m → t = fC V (s + 1)) ∧ (0 ≤ t ∧ t ≤ 54) ∧ (∀ j, 0 ≤ j → j < s → fC V (j + 1) ≤ R)) (fun i => match i with | (s, t) => (m - s).toNat) (fun i => match i with | (s, t) => [some (vR 167), some (vI sd), some (vI y), some (vL ((x * 1103515245 + 12345) % 2147483648)), none, some (vI ov), some (vI k), some (vI R), some (vI s), some (vI t), none, none]) (fun i => match i with | (s, t) => m_) ?_ (0, _) ⟨by omega, by omega, fun z => by first | (exfalso; omega) | (rw [fC_s (by decide)]; show _ = 0 + _; rw [Int.zero_add]; exact ht0), by omega, fun j j1 j2 => by omega⟩
          intro i_ hinv105 ih105
          obtain ⟨s, t⟩ := i_
          try dsimp only at hinv105 ih105 ⊢
          obtain ⟨c1, c2, c3, c4, c5⟩ := hinv105
          refine w_iload dX5_drawn_105 rfl ?_
          refine w_aload_n dX5_drawn_107 rfl ?_
          refine w_cV0 kX5_storms ml_X5_62 ob_167 rfl (Nat.le_of_ble_eq_true rfl) (by decide) dX5_drawn_108 (c_X5_storms) (kI (fun e108 m108 q108 => ?_))
          obtain ⟨rfl, rfl⟩ := q108
          rw [e168, g1]
          refine w_icmp_ge (tgt := 152) (by omega) (by omega) dX5_drawn_111 (by decide) (fun h111 => ?_) (fun h111 => ?_)
          · refine w_iload dX5_drawn_152 rfl ?_
            refine w_aload_n dX5_drawn_154 rfl ?_
            refine w_cV0 kX5_storms ml_X5_62 ob_167 rfl (Nat.le_of_ble_eq_true rfl) (by decide) dX5_drawn_155 (c_X5_storms) (kI (fun e155 m155 q155 => ?_))
            obtain ⟨rfl, rfl⟩ := q155
            rw [e168, g1]
            refine w_icmp_ge (tgt := 170) (by omega) (by omega) dX5_drawn_158 (by decide) (fun h158 => ?_) (fun h158 => ?_)
            · refine w_iconst dX5_drawn_170 ?_
              refine w_istore dX5_drawn_171 (by decide) rfl ?_
              refine w_iload dX5_drawn_173 rfl ?_
              refine w_iload dX5_drawn_175 rfl ?_
              refine w_if_ne (tgt := 184) (by omega) dX5_drawn_177 (by decide) (fun h177 => ?_) (fun h177 => ?_)
              · refine w_iload dX5_drawn_184 rfl ?_
                refine w_iconst dX5_drawn_186 ?_
                refine w_icmp_ne (tgt := 194) (by omega) (by omega) dX5_drawn_187 (by decide) (fun h187 => ?_) (fun h187 => ?_)
                · refine w_iconst dX5_drawn_194 ?_
                  refine w_iadd dX5_drawn_195 ?_
                  refine w_istore dX5_drawn_196 (by decide) rfl ?_
                  refine w_aload_n dX5_drawn_198 rfl ?_
                  refine w_iload dX5_drawn_199 rfl ?_
                  refine w_aload_n dX5_drawn_201 rfl ?_
                  refine w_cV0 kX5_storms ml_X5_62 ob_167 rfl (Nat.le_of_ble_eq_true rfl) (by decide) dX5_drawn_202 (c_X5_storms) (kI (fun e202 m202 q202 => ?_))
                  obtain ⟨rfl, rfl⟩ := q202
                  rw [e168, g1]
                  refine w_icmp_ge (tgt := 213) (by omega) (by omega) dX5_drawn_205 (by decide) (fun h205 => ?_) (fun h205 => ?_)
                  · refine w_iconst dX5_drawn_213 ?_
                    refine w_cV1 kX5_goYear ml_X5_180 ob_167 rfl (Nat.le_of_ble_eq_true rfl) (by decide) dX5_drawn_214 (c_X5_goYear hMV2 (by omega)) (kI (fun e214 m214 q214 => ?_))
                    obtain ⟨rfl, f214, v214⟩ := q214
                    refine w_istore dX5_drawn_217 (by decide) rfl ?_
                    refine w_iinc dX5_drawn_219 rfl (by decide) rfl ?_
                    refine w_goto (tgt := 45) dX5_drawn_222 (by decide) ?_
                    refine w_drop 7 ?_
                    refine w_drop 8 ?_
                    refine w_drop 9 ?_
                    refine w_drop 10 ?_
                    refine w_drop 11 ?_
                    have hsat : sAt V m R (-1) := Or.inr ⟨rfl, fun j j1 j2 => c5 j j1 (by omega)⟩
                    have hds : (-1) = ds V m x := (sAt_F g2.1 hsat).trans (by rw [eR]; rfl)
                    have hdg : (0 : Int) = dg V n (-1) := by unfold dg; rw [if_pos rfl]
                    have eD := dwI_s (v := v) (n := n) (m := m) (seed := sd) a1
                    rw [← a3, ← a4, ← eV, ← hds, ← hdg] at eD
                    refine ih45 (((x * 1103515245 + 12345) % 2147483648), ov + (0), k + 1, m214) ⟨by dsimp only; omega, by dsimp only; omega, ?_, ?_, by dsimp only; omega, fun a z1 z2 => ?_, ?_⟩ (by dsimp only; omega)
                    · dsimp only; rw [eD]; rfl
                    · dsimp only; rw [eD]
                    · dsimp only; rw [f214 a z1 z2]; exact a6 a z1 z2
                    · dsimp only; rw [eD]; exact v214
                  · exfalso; omega
                · exfalso; omega
              · exfalso; omega
            · exfalso; omega
          · refine w_iload dX5_drawn_114 rfl ?_
            refine w_iload dX5_drawn_116 rfl ?_
            refine w_icmp_gt (tgt := 152) (by omega) (by omega) dX5_drawn_118 (by decide) (fun h118 => ?_) (fun h118 => ?_)
            · refine w_iload dX5_drawn_152 rfl ?_
              refine w_aload_n dX5_drawn_154 rfl ?_
              refine w_cV0 kX5_storms ml_X5_62 ob_167 rfl (Nat.le_of_ble_eq_true rfl) (by decide) dX5_drawn_155 (c_X5_storms) (kI (fun e155 m155 q155 => ?_))
              obtain ⟨rfl, rfl⟩ := q155
              rw [e168, g1]
              refine w_icmp_ge (tgt := 170) (by omega) (by omega) dX5_drawn_158 (by decide) (fun h158 => ?_) (fun h158 => ?_)
              · exfalso; omega
              · refine w_aload_n dX5_drawn_161 rfl ?_
                refine w_iload dX5_drawn_162 rfl ?_
                refine w_cV1 kX5_winner ml_X5_127 ob_167 rfl (Nat.le_of_ble_eq_true rfl) (by decide) dX5_drawn_164 (c_X5_winner hMV2 (by omega)) (kI (fun e164 m164 q164 => ?_))
                obtain ⟨rfl, rfl, b164⟩ := q164
                refine w_goto (tgt := 171) dX5_drawn_167 (by decide) ?_
                refine w_istore dX5_drawn_171 (by decide) rfl ?_
                refine w_iload dX5_drawn_173 rfl ?_
                refine w_iload dX5_drawn_175 rfl ?_
                refine w_if_ne (tgt := 184) (by omega) dX5_drawn_177 (by decide) (fun h177 => ?_) (fun h177 => ?_)
                · refine w_iload dX5_drawn_184 rfl ?_
                  refine w_iconst dX5_drawn_186 ?_
                  refine w_icmp_ne (tgt := 194) (by omega) (by omega) dX5_drawn_187 (by decide) (fun h187 => ?_) (fun h187 => ?_)
                  · refine w_iconst dX5_drawn_194 ?_
                    refine w_iadd dX5_drawn_195 ?_
                    refine w_istore dX5_drawn_196 (by decide) rfl ?_
                    refine w_aload_n dX5_drawn_198 rfl ?_
                    refine w_iload dX5_drawn_199 rfl ?_
                    refine w_aload_n dX5_drawn_201 rfl ?_
                    refine w_cV0 kX5_storms ml_X5_62 ob_167 rfl (Nat.le_of_ble_eq_true rfl) (by decide) dX5_drawn_202 (c_X5_storms) (kI (fun e202 m202 q202 => ?_))
                    obtain ⟨rfl, rfl⟩ := q202
                    rw [e168, g1]
                    refine w_icmp_ge (tgt := 213) (by omega) (by omega) dX5_drawn_205 (by decide) (fun h205 => ?_) (fun h205 => ?_)
                    · exfalso; omega
                    · refine w_iload dX5_drawn_208 rfl ?_
                      refine w_goto (tgt := 214) dX5_drawn_210 (by decide) ?_
                      refine w_cV1 kX5_goYear ml_X5_180 ob_167 rfl (Nat.le_of_ble_eq_true rfl) (by decide) dX5_drawn_214 (c_X5_goYear hMV2 (by omega)) (kI (fun e214 m214 q214 => ?_))
                      obtain ⟨rfl, f214, v214⟩ := q214
                      refine w_istore dX5_drawn_217 (by decide) rfl ?_
                      refine w_iinc dX5_drawn_219 rfl (by decide) rfl ?_
                      refine w_goto (tgt := 45) dX5_drawn_222 (by decide) ?_
                      refine w_drop 7 ?_
                      refine w_drop 8 ?_
                      refine w_drop 9 ?_
                      refine w_drop 10 ?_
                      refine w_drop 11 ?_
                      have hsat : sAt V m R (s) := Or.inl ⟨c1, by omega, by have := c3 (by omega); omega, c5⟩
                      have hds : (s) = ds V m x := (sAt_F g2.1 hsat).trans (by rw [eR]; rfl)
                      have hdg : (0 : Int) = dg V n (s) := by unfold dg; rw [if_neg (by omega)]; (repeat' split) <;> omega
                      have eD := dwI_s (v := v) (n := n) (m := m) (seed := sd) a1
                      rw [← a3, ← a4, ← eV, ← hds, ← hdg] at eD
                      refine ih45 (((x * 1103515245 + 12345) % 2147483648), ov + (0), k + 1, m214) ⟨by dsimp only; omega, by dsimp only; omega, ?_, ?_, by dsimp only; omega, fun a z1 z2 => ?_, ?_⟩ (by dsimp only; omega)
                      · dsimp only; rw [eD]; rfl
                      · dsimp only; rw [eD]
                      · dsimp only; rw [f214 a z1 z2]; exact a6 a z1 z2
                      · dsimp only; rw [eD]; exact v214
                  · refine w_iconst dX5_drawn_190 ?_
                    refine w_goto (tgt := 195) dX5_drawn_191 (by decide) ?_
                    refine w_iadd dX5_drawn_195 ?_
                    refine w_istore dX5_drawn_196 (by decide) rfl ?_
                    refine w_aload_n dX5_drawn_198 rfl ?_
                    refine w_iload dX5_drawn_199 rfl ?_
                    refine w_aload_n dX5_drawn_201 rfl ?_
                    refine w_cV0 kX5_storms ml_X5_62 ob_167 rfl (Nat.le_of_ble_eq_true rfl) (by decide) dX5_drawn_202 (c_X5_storms) (kI (fun e202 m202 q202 => ?_))
                    obtain ⟨rfl, rfl⟩ := q202
                    rw [e168, g1]
                    refine w_icmp_ge (tgt := 213) (by omega) (by omega) dX5_drawn_205 (by decide) (fun h205 => ?_) (fun h205 => ?_)
                    · exfalso; omega
                    · refine w_iload dX5_drawn_208 rfl ?_
                      refine w_goto (tgt := 214) dX5_drawn_210 (by decide) ?_
                      refine w_cV1 kX5_goYear ml_X5_180 ob_167 rfl (Nat.le_of_ble_eq_true rfl) (by decide) dX5_drawn_214 (c_X5_goYear hMV2 (by omega)) (kI (fun e214 m214 q214 => ?_))
                      obtain ⟨rfl, f214, v214⟩ := q214
                      refine w_istore dX5_drawn_217 (by decide) rfl ?_
                      refine w_iinc dX5_drawn_219 rfl (by decide) rfl ?_
                      refine w_goto (tgt := 45) dX5_drawn_222 (by decide) ?_
                      refine w_drop 7 ?_
                      refine w_drop 8 ?_
                      refine w_drop 9 ?_
                      refine w_drop 10 ?_
                      refine w_drop 11 ?_
                      have hsat : sAt V m R (s) := Or.inl ⟨c1, by omega, by have := c3 (by omega); omega, c5⟩
                      have hds : (s) = ds V m x := (sAt_F g2.1 hsat).trans (by rw [eR]; rfl)
                      have hdg : (-1 : Int) = dg V n (s) := by unfold dg; rw [if_neg (by omega)]; (repeat' split) <;> omega
                      have eD := dwI_s (v := v) (n := n) (m := m) (seed := sd) a1
                      rw [← a3, ← a4, ← eV, ← hds, ← hdg] at eD
                      refine ih45 (((x * 1103515245 + 12345) % 2147483648), ov + (-1), k + 1, m214) ⟨by dsimp only; omega, by dsimp only; omega, ?_, ?_, by dsimp only; omega, fun a z1 z2 => ?_, ?_⟩ (by dsimp only; omega)
                      · dsimp only; rw [eD]; rfl
                      · dsimp only; rw [eD]
                      · dsimp only; rw [f214 a z1 z2]; exact a6 a z1 z2
                      · dsimp only; rw [eD]; exact v214
                · refine w_iconst dX5_drawn_180 ?_
                  refine w_goto (tgt := 195) dX5_drawn_181 (by decide) ?_
                  refine w_iadd dX5_drawn_195 ?_
                  refine w_istore dX5_drawn_196 (by decide) rfl ?_
                  refine w_aload_n dX5_drawn_198 rfl ?_
                  refine w_iload dX5_drawn_199 rfl ?_
                  refine w_aload_n dX5_drawn_201 rfl ?_
                  refine w_cV0 kX5_storms ml_X5_62 ob_167 rfl (Nat.le_of_ble_eq_true rfl) (by decide) dX5_drawn_202 (c_X5_storms) (kI (fun e202 m202 q202 => ?_))
                  obtain ⟨rfl, rfl⟩ := q202
                  rw [e168, g1]
                  refine w_icmp_ge (tgt := 213) (by omega) (by omega) dX5_drawn_205 (by decide) (fun h205 => ?_) (fun h205 => ?_)
                  · exfalso; omega
                  · refine w_iload dX5_drawn_208 rfl ?_
                    refine w_goto (tgt := 214) dX5_drawn_210 (by decide) ?_
                    refine w_cV1 kX5_goYear ml_X5_180 ob_167 rfl (Nat.le_of_ble_eq_true rfl) (by decide) dX5_drawn_214 (c_X5_goYear hMV2 (by omega)) (kI (fun e214 m214 q214 => ?_))
                    obtain ⟨rfl, f214, v214⟩ := q214
                    refine w_istore dX5_drawn_217 (by decide) rfl ?_
                    refine w_iinc dX5_drawn_219 rfl (by decide) rfl ?_
                    refine w_goto (tgt := 45) dX5_drawn_222 (by decide) ?_
                    refine w_drop 7 ?_
                    refine w_drop 8 ?_
                    refine w_drop 9 ?_
                    refine w_drop 10 ?_
                    refine w_drop 11 ?_
                    have hsat : sAt V m R (s) := Or.inl ⟨c1, by omega, by have := c3 (by omega); omega, c5⟩
                    have hds : (s) = ds V m x := (sAt_F g2.1 hsat).trans (by rw [eR]; rfl)
                    have hdg : (1 : Int) = dg V n (s) := by unfold dg; rw [if_neg (by omega)]; (repeat' split) <;> omega
                    have eD := dwI_s (v := v) (n := n) (m := m) (seed := sd) a1
                    rw [← a3, ← a4, ← eV, ← hds, ← hdg] at eD
                    refine ih45 (((x * 1103515245 + 12345) % 2147483648), ov + (1), k + 1, m214) ⟨by dsimp only; omega, by dsimp only; omega, ?_, ?_, by dsimp only; omega, fun a z1 z2 => ?_, ?_⟩ (by dsimp only; omega)
                    · dsimp only; rw [eD]; rfl
                    · dsimp only; rw [eD]
                    · dsimp only; rw [f214 a z1 z2]; exact a6 a z1 z2
                    · dsimp only; rw [eD]; exact v214
            · refine w_iinc dX5_drawn_121 rfl (by decide) rfl ?_
              refine w_iload dX5_drawn_124 rfl ?_
              refine w_iload dX5_drawn_126 rfl ?_
              refine w_aload_n dX5_drawn_128 rfl ?_
              refine w_cV0 kX5_storms ml_X5_62 ob_167 rfl (Nat.le_of_ble_eq_true rfl) (by decide) dX5_drawn_129 (c_X5_storms) (kI (fun e129 m129 q129 => ?_))
              obtain ⟨rfl, rfl⟩ := q129
              rw [e168, g1]
              refine w_icmp_ge (tgt := 145) (by omega) (by omega) dX5_drawn_132 (by decide) (fun h132 => ?_) (fun h132 => ?_)
              · refine w_iconst dX5_drawn_145 ?_
                refine w_iadd dX5_drawn_146 ?_
                refine w_istore dX5_drawn_147 (by decide) rfl ?_
                refine w_goto (tgt := 105) dX5_drawn_149 (by decide) ?_
                refine ih105 (s + 1, _) ⟨by dsimp only; omega, by dsimp only; omega, fun z => ?_, ?_, fun j j1 j2 => ?_⟩ (by dsimp only; omega)
                · dsimp only at z ⊢
                  first
                  | (exfalso; omega)
                  | (rw [fC_s (by omega), ← c3 (by omega), ht1])
                · dsimp only
                  have y1 := fC_bd hV2 (m := s + 1) (by omega)
                  have y2 := c3 (by omega)
                  first
                  | omega
                  | (have y3 := fC_bd hV2 (m := s + 1 + 1) (by omega)
                     rw [fC_s (by omega)] at y3
                     omega)
                · dsimp only at j2
                  by_cases ej : j = s
                  · have y2 := c3 (by omega)
                    rw [ej, ← y2]; omega
                  · exact c5 j j1 (by omega)
              · refine w_aload_n dX5_drawn_135 rfl ?_
                refine w_iload dX5_drawn_136 rfl ?_
                refine w_iconst dX5_drawn_138 ?_
                refine w_cV2 kX5_of ml_X5_97 ob_167 rfl (Nat.le_of_ble_eq_true rfl) (by decide) dX5_drawn_139 (c_X5_of (by omega) (by omega)) (kI (fun e139 m139 q139 => ?_))
                obtain ⟨rfl, rfl⟩ := q139
                have ht1 := (gg4 (s + 1) (by omega) (by omega)).2.2.2.2
                have ht9 := hV2.2.2.2.2.1 (s + 1)
                refine w_goto (tgt := 146) dX5_drawn_142 (by decide) ?_
                refine w_iadd dX5_drawn_146 ?_
                refine w_istore dX5_drawn_147 (by decide) rfl ?_
                refine w_goto (tgt := 105) dX5_drawn_149 (by decide) ?_
                refine ih105 (s + 1, _) ⟨by dsimp only; omega, by dsimp only; omega, fun z => ?_, ?_, fun j j1 j2 => ?_⟩ (by dsimp only; omega)
                · dsimp only at z ⊢
                  first
                  | (exfalso; omega)
                  | (rw [fC_s (by omega), ← c3 (by omega), ht1])
                · dsimp only
                  have y1 := fC_bd hV2 (m := s + 1) (by omega)
                  have y2 := c3 (by omega)
                  first
                  | omega
                  | (have y3 := fC_bd hV2 (m := s + 1 + 1) (by omega)
                     rw [fC_s (by omega)] at y3
                     omega)
                · dsimp only at j2
                  by_cases ej : j = s
                  · have y2 := c3 (by omega)
                    rw [ej, ← y2]; omega
                  · exact c5 j j1 (by omega)
    · refine w_aload_n dX5_drawn_24 rfl ?_
      refine w_sipush dX5_drawn_25 (by decide) ?_
      refine w_cV1 kX5_bad ml_X5_73 ob_167 rfl (Nat.le_of_ble_eq_true rfl) (by decide) dX5_drawn_28 (c_X5_bad) (kI (fun e28 m28 q28 => ?_))
      obtain ⟨rfl, rfl⟩ := q28
      exact w_iretP rfl dX5_drawn_31 (by first | exact Or.inl (⟨by omega, rfl, rfl⟩) | (exfalso; omega))
set_option maxRecDepth 100000 in
set_option maxHeartbeats 4000000 in
theorem c_X5_type {g : gG} {l : Launch} {μ : gM} {v : Int} {n : Int}  (r1 : -2147483648 ≤ n ∧ n < 2147483648) (h0 : 0 ≤ μ 167 13 ∧ μ 167 13 ≤ 250) : CT g l YX5_type 1 [vR 167, vL v, vI n] μ (pI fun e μ2 => (¬ (1 ≤ n ∧ n ≤ 8) ∧ e = -2 ∧ μ2 = rb μ) ∨ ((1 ≤ n ∧ n ≤ 8) ∧ 250 < μ 167 13 + n ∧ e = -4 ∧ μ2 = rf μ) ∨ ((1 ≤ n ∧ n ≤ 8) ∧ μ 167 13 + n ≤ 250 ∧ e = μ 167 13 + n ∧ μ2 = tM μ 177 167 13 (μ 167 13) v n n)) := by
  refine CT.of (n := 1) (by decide) rfl ?_
  show WA g l YX5_type 1 _ 0 [some (vR 167), some (vL v), none, some (vI n), none] [] μ
  refine w_iload_n dX5_type_0 rfl ?_
  refine w_i2l (by omega) dX5_type_1 ?_
  refine w_lconst 1 dX5_type_2 (by decide) ?_
  refine w_ldc2 (8) cl_X5_171 dX5_type_3 (by decide) ?_
  refine w_cS3 kX5_in ml_X5_58 (Nat.le_of_ble_eq_true rfl) (by decide) dX5_type_6 (c_X5_in (by omega) (by omega) (by omega)) (kI (fun e6 m6 q6 => ?_))
  obtain ⟨q6, rfl⟩ := q6
  refine w_if_ne (tgt := 19) (by omega) dX5_type_9 (by decide) (fun h9 => ?_) (fun h9 => ?_)
  · refine w_aload_n dX5_type_19 rfl ?_
    refine gf_X5_195 rfl dX5_type_20 ?_
    refine w_iload_n dX5_type_23 rfl ?_
    refine w_iadd dX5_type_24 ?_
    refine w_sipush dX5_type_25 (by decide) ?_
    refine w_icmp_le (tgt := 36) (by omega) (by omega) dX5_type_28 (by decide) (fun h28 => ?_) (fun h28 => ?_)
    · refine w_iload_n dX5_type_36 rfl ?_
      refine w_iconst dX5_type_37 ?_
      refine w_isub dX5_type_38 ?_
      refine w_istore dX5_type_39 (by decide) rfl ?_
      refine w_mu (show tM μ 177 167 13 (μ 167 13) v n (n - 1 - (n - 1)) = μ by rw [show n - 1 - (n - 1) = 0 by omega]; exact tM_0 rfl) ?_
      refine w_loop (ι := Int) (fun k => -1 ≤ k ∧ k < n) (fun k => (k + 1).toNat) (fun k => [some (vR 167), some (vL v), none, some (vI n), some (vI k)]) (fun k => tM μ 177 167 13 (μ 167 13) v n (n - 1 - k)) ?_ (n - 1) ⟨by omega, by omega⟩
      intro i_ hinv41 ih41
      obtain ⟨k, rfl⟩ : ∃ z, z = i_ := ⟨_, rfl⟩
      try dsimp only at hinv41 ih41 ⊢
      obtain ⟨a1, a2⟩ := hinv41
      have eL : tM μ 177 167 13 (μ 167 13) v n (n - 1 - k) 167 13 = μ 167 13 + (n - 1 - k) := by unfold tM; rw [if_neg (by omega), if_pos ⟨rfl, rfl⟩]
      refine w_iload dX5_type_41 rfl ?_
      refine w_if_lt (tgt := 83) (by omega) dX5_type_43 (by decide) (fun h43 => ?_) (fun h43 => ?_)
      · refine w_aload_n dX5_type_83 rfl ?_
        refine gf_X5_195 rfl dX5_type_84 ?_
        exact w_iretP rfl dX5_type_87 (by rw [eL]; have e0 : k = -1 := (by omega); subst e0; refine Or.inr (Or.inr ⟨by omega, by omega, by omega, ?_⟩); congr 1; omega)
      · refine w_aload_n dX5_type_46 rfl ?_
        refine gf_X5_42 rfl dX5_type_47 ?_
        refine w_aload_n dX5_type_50 rfl ?_
        refine gf_X5_195 rfl dX5_type_51 ?_
        rw [eL]
        refine w_lload_n dX5_type_54 rfl ?_
        refine w_bipush dX5_type_55 (by decide) ?_
        refine w_iload dX5_type_57 rfl ?_
        refine w_imul dX5_type_59 ?_
        refine w_lushr dX5_type_60 ?_
        refine w_ldc2 (255) cl_X5_198 dX5_type_61 (by decide) ?_
        refine w_land dX5_type_64 ?_
        refine w_l2i dX5_type_65 ?_
        refine w_iast ar_177 (by omega) dX5_type_66 ?_
        refine w_aload_n dX5_type_67 rfl ?_
        refine w_dup_a dX5_type_68 ?_
        refine gf_X5_195 rfl dX5_type_69 ?_
        rw [wr_o (by decide), eL]
        refine w_iconst dX5_type_72 ?_
        refine w_iadd dX5_type_73 ?_
        refine pf_X5_195 rfl dX5_type_74 ?_
        refine w_iinc dX5_type_77 rfl (by decide) rfl ?_
        refine w_goto (tgt := 41) dX5_type_80 (by decide) ?_
        refine w_mu (?_ : tM μ 177 167 13 (μ 167 13) v n (n - 1 - (k + -1)) = _) (ih41 (k + -1) ⟨by omega, by omega⟩ (by omega))
        rw [show n - 1 - (k + -1) = n - 1 - k + 1 by omega]
        exact (tM_s (by decide) (by omega) (by rw [lAnd_255, show n - 1 - (n - 1 - k) = k by omega])).symm
    · refine w_aload_n dX5_type_31 rfl ?_
      refine w_cV0 kX5_full ml_X5_77 ob_167 rfl (Nat.le_of_ble_eq_true rfl) (by decide) dX5_type_32 (c_X5_full) (kI (fun e32 m32 q32 => ?_))
      obtain ⟨rfl, rfl⟩ := q32
      exact w_iretP rfl dX5_type_35 (by first | exact Or.inl (⟨by omega, rfl, rfl⟩) | exact Or.inr (Or.inl (⟨by omega, by omega, rfl, rfl⟩)) | (exfalso; omega))
  · refine w_aload_n dX5_type_12 rfl ?_
    refine w_bipush dX5_type_13 (by decide) ?_
    refine w_cV1 kX5_bad ml_X5_73 ob_167 rfl (Nat.le_of_ble_eq_true rfl) (by decide) dX5_type_15 (c_X5_bad) (kI (fun e15 m15 q15 => ?_))
    obtain ⟨rfl, rfl⟩ := q15
    exact w_iretP rfl dX5_type_18 (by first | exact Or.inl (⟨by omega, rfl, rfl⟩) | exact Or.inr (Or.inl (⟨by omega, by omega, rfl, rfl⟩)) | (exfalso; omega))
set_option maxRecDepth 100000 in
set_option maxHeartbeats 4000000 in
theorem c_X5_clear {g : gG} {l : Launch} {μ : gM}    : CT g l YX5_clear 0 [vR 167] μ (pI fun e μ2 => e = μ 167 13 ∧ μ2 = wr μ 167 13 0) := by
  refine CT.of (n := 1) (by decide) rfl ?_
  show WA g l YX5_clear 0 _ 0 [some (vR 167), none] [] μ
  refine w_aload_n dX5_clear_0 rfl ?_
  refine gf_X5_195 rfl dX5_clear_1 ?_
  refine w_istore_n dX5_clear_4 (by decide) rfl ?_
  refine w_aload_n dX5_clear_5 rfl ?_
  refine w_iconst dX5_clear_6 ?_
  refine pf_X5_195 rfl dX5_clear_7 ?_
  refine w_iload_n dX5_clear_10 rfl ?_
  exact w_iretP rfl dX5_clear_11 (by exact ⟨rfl, rfl⟩)
set_option maxRecDepth 100000 in
set_option maxHeartbeats 4000000 in
theorem c_X5_part {g : gG} {l : Launch} {μ : gM} {w : Int}  (r1 : -2147483648 ≤ w ∧ w < 2147483648) : CT g l YX5_part 1 [vR 167, vI w] μ (pL fun e μ2 => (¬ (0 ≤ w ∧ w ≤ 1) ∧ e = -1000 ∧ μ2 = rb μ) ∨ (w = 0 ∧ e = μ 167 4 ∧ μ = μ2) ∨ (w = 1 ∧ e = μ 167 5 ∧ μ = μ2)) := by
  refine CT.of (n := 0) (by decide) rfl ?_
  show WA g l YX5_part 1 _ 0 [some (vR 167), some (vI w)] [] μ
  refine w_iload_n dX5_part_0 rfl ?_
  refine w_if_ne (tgt := 11) (by omega) dX5_part_1 (by decide) (fun h1 => ?_) (fun h1 => ?_)
  · refine w_iload_n dX5_part_11 rfl ?_
    refine w_iconst dX5_part_12 ?_
    refine w_icmp_ne (tgt := 23) (by omega) (by omega) dX5_part_13 (by decide) (fun h13 => ?_) (fun h13 => ?_)
    · refine w_aload_n dX5_part_23 rfl ?_
      refine w_sipush dX5_part_24 (by decide) ?_
      refine w_cV1 kX5_bad ml_X5_73 ob_167 rfl (Nat.le_of_ble_eq_true rfl) (by decide) dX5_part_27 (c_X5_bad) (kI (fun e27 m27 q27 => ?_))
      obtain ⟨rfl, rfl⟩ := q27
      refine w_i2l (by omega) dX5_part_30 ?_
      exact w_lretP rfl dX5_part_31 (by first | exact Or.inl (⟨by omega, rfl, rfl⟩) | exact Or.inr (Or.inl (⟨by omega, rfl, rfl⟩)) | exact Or.inr (Or.inr (⟨by omega, rfl, rfl⟩)) | (exfalso; omega))
    · refine w_aload_n dX5_part_16 rfl ?_
      refine gf_X5_23 rfl dX5_part_17 ?_
      refine w_goto (tgt := 31) dX5_part_20 (by decide) ?_
      exact w_lretP rfl dX5_part_31 (by first | exact Or.inl (⟨by omega, rfl, rfl⟩) | exact Or.inr (Or.inl (⟨by omega, rfl, rfl⟩)) | exact Or.inr (Or.inr (⟨by omega, rfl, rfl⟩)) | (exfalso; omega))
  · refine w_aload_n dX5_part_4 rfl ?_
    refine gf_X5_51 rfl dX5_part_5 ?_
    refine w_goto (tgt := 31) dX5_part_8 (by decide) ?_
    exact w_lretP rfl dX5_part_31 (by first | exact Or.inl (⟨by omega, rfl, rfl⟩) | exact Or.inr (Or.inl (⟨by omega, rfl, rfl⟩)) | exact Or.inr (Or.inr (⟨by omega, rfl, rfl⟩)) | (exfalso; omega))
set_option maxRecDepth 100000 in
set_option maxHeartbeats 4000000 in
theorem c_X5_image {g : gG} {l : Launch} {μ : gM} {i : Int}  (r1 : -2147483648 ≤ i ∧ i < 2147483648) : CT g l YX5_image 1 [vR 167, vI i] μ (pI fun e μ2 => (¬ (0 ≤ i ∧ i ≤ 1) ∧ e = -2 ∧ μ2 = rb μ) ∨ ((0 ≤ i ∧ i ≤ 1) ∧ e = 1 ∧ μ2 = wr (rw_ μ 169 (cX (μ 169) (μ 168) (382 * i) 0 382)) 170 i 1)) := by
  refine CT.of (n := 1) (by decide) rfl ?_
  show WA g l YX5_image 1 _ 0 [some (vR 167), some (vI i), none] [] μ
  refine w_iload_n dX5_image_0 rfl ?_
  refine w_i2l (by omega) dX5_image_1 ?_
  refine w_lconst 0 dX5_image_2 (by decide) ?_
  refine w_lconst 1 dX5_image_3 (by decide) ?_
  refine w_cS3 kX5_in ml_X5_58 (Nat.le_of_ble_eq_true rfl) (by decide) dX5_image_4 (c_X5_in (by omega) (by omega) (by omega)) (kI (fun e4 m4 q4 => ?_))
  obtain ⟨q4, rfl⟩ := q4
  refine w_if_ne (tgt := 17) (by omega) dX5_image_7 (by decide) (fun h7 => ?_) (fun h7 => ?_)
  · refine w_iconst dX5_image_17 ?_
    refine w_istore_n dX5_image_18 (by decide) rfl ?_
    refine w_mu (show rw_ μ 169 (cX (μ 169) (μ 168) (382 * i) 0 0) = μ by rw [cX_0, rw_i]) ?_
    refine w_loop (ι := Int) (fun k => 0 ≤ k ∧ k ≤ 382) (fun k => (382 - k).toNat) (fun k => [some (vR 167), some (vI i), some (vI k)]) (fun k => rw_ μ 169 (cX (μ 169) (μ 168) (382 * i) 0 k)) ?_ 0 ⟨by omega, by omega⟩
    intro i_ hinv19 ih19
    obtain ⟨k, rfl⟩ : ∃ z, z = i_ := ⟨_, rfl⟩
    try dsimp only at hinv19 ih19 ⊢
    obtain ⟨a1, a2⟩ := hinv19
    refine w_iload_n dX5_image_19 rfl ?_
    refine w_sipush dX5_image_20 (by decide) ?_
    refine w_icmp_ge (tgt := 50) (by omega) (by omega) dX5_image_23 (by decide) (fun h23 => ?_) (fun h23 => ?_)
    · have e82 : k = 382 := by omega
      subst e82
      refine w_aload_n dX5_image_50 rfl ?_
      refine gf_X5_16 rfl dX5_image_51 ?_
      refine w_iload_n dX5_image_54 rfl ?_
      refine w_iconst dX5_image_55 ?_
      refine w_zast ar_170 (by omega) (by omega) dX5_image_56 ?_
      refine w_iconst dX5_image_57 ?_
      exact w_iretP rfl dX5_image_58 (by first | exact Or.inl (⟨by omega, rfl, rfl⟩) | exact Or.inr (⟨by omega, rfl, rfl⟩) | (exfalso; omega))
    · refine w_aload_n dX5_image_26 rfl ?_
      refine gf_X5_13 rfl dX5_image_27 ?_
      refine w_sipush dX5_image_30 (by decide) ?_
      refine w_iload_n dX5_image_33 rfl ?_
      refine w_imul dX5_image_34 ?_
      refine w_iload_n dX5_image_35 rfl ?_
      refine w_iadd dX5_image_36 ?_
      refine w_aload_n dX5_image_37 rfl ?_
      refine gf_X5_7 rfl dX5_image_38 ?_
      refine w_iload_n dX5_image_41 rfl ?_
      refine w_iald ar_168 (by omega) dX5_image_42 ?_
      refine w_iast ar_169 (by omega) dX5_image_43 ?_
      refine w_iinc dX5_image_44 rfl (by decide) rfl ?_
      refine w_goto (tgt := 19) dX5_image_47 (by decide) ?_
      refine w_mu ?_ (ih19 (k + 1) ⟨by omega, by omega⟩ (by omega))
      rw [wr_rw, rw_o (by decide), cX_s a1 rfl (by rw [Int.zero_add])]
  · refine w_aload_n dX5_image_10 rfl ?_
    refine w_bipush dX5_image_11 (by decide) ?_
    refine w_cV1 kX5_bad ml_X5_73 ob_167 rfl (Nat.le_of_ble_eq_true rfl) (by decide) dX5_image_13 (c_X5_bad) (kI (fun e13 m13 q13 => ?_))
    obtain ⟨rfl, rfl⟩ := q13
    exact w_iretP rfl dX5_image_16 (by first | exact Or.inl (⟨by omega, rfl, rfl⟩) | exact Or.inr (⟨by omega, rfl, rfl⟩) | (exfalso; omega))
set_option maxRecDepth 100000 in
set_option maxHeartbeats 4000000 in
theorem c_X5_from {g : gG} {l : Launch} {μ : gM} {i : Int}  (r1 : -2147483648 ≤ i ∧ i < 2147483648) (hz : 0 ≤ i → i ≤ 1 → (μ 170 i = 0 ∨ μ 170 i = 1)) : CT g l YX5_from 1 [vR 167, vI i] μ (pI fun e μ2 => (¬ (0 ≤ i ∧ i ≤ 1) ∧ e = -2 ∧ μ2 = rb μ) ∨ ((0 ≤ i ∧ i ≤ 1) ∧ μ 170 i = 0 ∧ e = -3 ∧ μ2 = rn μ) ∨ ((0 ≤ i ∧ i ≤ 1) ∧ μ 170 i = 1 ∧ e = 1 ∧ μ2 = rw_ μ 168 (cX (μ 168) (μ 169) 0 (382 * i) 382))) := by
  refine CT.of (n := 1) (by decide) rfl ?_
  show WA g l YX5_from 1 _ 0 [some (vR 167), some (vI i), none] [] μ
  refine w_iload_n dX5_from_0 rfl ?_
  refine w_i2l (by omega) dX5_from_1 ?_
  refine w_lconst 0 dX5_from_2 (by decide) ?_
  refine w_lconst 1 dX5_from_3 (by decide) ?_
  refine w_cS3 kX5_in ml_X5_58 (Nat.le_of_ble_eq_true rfl) (by decide) dX5_from_4 (c_X5_in (by omega) (by omega) (by omega)) (kI (fun e4 m4 q4 => ?_))
  obtain ⟨q4, rfl⟩ := q4
  refine w_if_ne (tgt := 17) (by omega) dX5_from_7 (by decide) (fun h7 => ?_) (fun h7 => ?_)
  · refine w_aload_n dX5_from_17 rfl ?_
    refine gf_X5_16 rfl dX5_from_18 ?_
    refine w_iload_n dX5_from_21 rfl ?_
    refine w_zald ar_170 (by omega) dX5_from_22 ?_
    have hz1 := hz (by omega) (by omega)
    refine w_if_ne (tgt := 33) (by omega) dX5_from_23 (by decide) (fun h23 => ?_) (fun h23 => ?_)
    · refine w_iconst dX5_from_33 ?_
      refine w_istore_n dX5_from_34 (by decide) rfl ?_
      refine w_mu (show rw_ μ 168 (cX (μ 168) (μ 169) 0 (382 * i) 0) = μ by rw [cX_0, rw_i]) ?_
      refine w_loop (ι := Int) (fun k => 0 ≤ k ∧ k ≤ 382) (fun k => (382 - k).toNat) (fun k => [some (vR 167), some (vI i), some (vI k)]) (fun k => rw_ μ 168 (cX (μ 168) (μ 169) 0 (382 * i) k)) ?_ 0 ⟨by omega, by omega⟩
      intro i_ hinv35 ih35
      obtain ⟨k, rfl⟩ : ∃ z, z = i_ := ⟨_, rfl⟩
      try dsimp only at hinv35 ih35 ⊢
      obtain ⟨a1, a2⟩ := hinv35
      refine w_iload_n dX5_from_35 rfl ?_
      refine w_sipush dX5_from_36 (by decide) ?_
      refine w_icmp_ge (tgt := 66) (by omega) (by omega) dX5_from_39 (by decide) (fun h39 => ?_) (fun h39 => ?_)
      · have e82 : k = 382 := by omega
        subst e82
        refine w_iconst dX5_from_66 ?_
        exact w_iretP rfl dX5_from_67 (by first | exact Or.inl (⟨by omega, rfl, rfl⟩) | exact Or.inr (Or.inl (⟨by omega, by omega, rfl, rfl⟩)) | exact Or.inr (Or.inr (⟨by omega, by omega, rfl, rfl⟩)) | (exfalso; omega))
      · refine w_aload_n dX5_from_42 rfl ?_
        refine gf_X5_7 rfl dX5_from_43 ?_
        refine w_iload_n dX5_from_46 rfl ?_
        refine w_aload_n dX5_from_47 rfl ?_
        refine gf_X5_13 rfl dX5_from_48 ?_
        refine w_sipush dX5_from_51 (by decide) ?_
        refine w_iload_n dX5_from_54 rfl ?_
        refine w_imul dX5_from_55 ?_
        refine w_iload_n dX5_from_56 rfl ?_
        refine w_iadd dX5_from_57 ?_
        refine w_iald ar_169 (by omega) dX5_from_58 ?_
        refine w_iast ar_168 (by omega) dX5_from_59 ?_
        refine w_iinc dX5_from_60 rfl (by decide) rfl ?_
        refine w_goto (tgt := 35) dX5_from_63 (by decide) ?_
        refine w_mu ?_ (ih35 (k + 1) ⟨by omega, by omega⟩ (by omega))
        rw [wr_rw, rw_o (by decide), cX_s a1 (by omega) rfl]
    · refine w_aload_n dX5_from_26 rfl ?_
      refine w_bipush dX5_from_27 (by decide) ?_
      refine w_cV1 kX5_no ml_X5_90 ob_167 rfl (Nat.le_of_ble_eq_true rfl) (by decide) dX5_from_29 (c_X5_no) (kI (fun e29 m29 q29 => ?_))
      obtain ⟨rfl, rfl⟩ := q29
      exact w_iretP rfl dX5_from_32 (by first | exact Or.inl (⟨by omega, rfl, rfl⟩) | exact Or.inr (Or.inl (⟨by omega, by omega, rfl, rfl⟩)) | exact Or.inr (Or.inr (⟨by omega, by omega, rfl, rfl⟩)) | (exfalso; omega))
  · refine w_aload_n dX5_from_10 rfl ?_
    refine w_bipush dX5_from_11 (by decide) ?_
    refine w_cV1 kX5_bad ml_X5_73 ob_167 rfl (Nat.le_of_ble_eq_true rfl) (by decide) dX5_from_13 (c_X5_bad) (kI (fun e13 m13 q13 => ?_))
    obtain ⟨rfl, rfl⟩ := q13
    exact w_iretP rfl dX5_from_16 (by first | exact Or.inl (⟨by omega, rfl, rfl⟩) | exact Or.inr (Or.inl (⟨by omega, by omega, rfl, rfl⟩)) | exact Or.inr (Or.inr (⟨by omega, by omega, rfl, rfl⟩)) | (exfalso; omega))
set_option maxRecDepth 100000 in
set_option maxHeartbeats 4000000 in
theorem c_X5_status {g : gG} {l : Launch} {μ : gM} {w : Int}  (r1 : -2147483648 ≤ w ∧ w < 2147483648) : CT g l YX5_status 1 [vR 167, vI w] μ (pI fun e μ2 => (¬ (0 ≤ w ∧ w ≤ 2) ∧ e = -1 ∧ μ2 = rb μ) ∨ ((0 ≤ w ∧ w ≤ 2) ∧ e = μ 171 w ∧ μ = μ2)) := by
  refine CT.of (n := 0) (by decide) rfl ?_
  show WA g l YX5_status 1 _ 0 [some (vR 167), some (vI w)] [] μ
  refine w_iload_n dX5_status_0 rfl ?_
  refine w_i2l (by omega) dX5_status_1 ?_
  refine w_lconst 0 dX5_status_2 (by decide) ?_
  refine w_ldc2 (2) cl_X5_130 dX5_status_3 (by decide) ?_
  refine w_cS3 kX5_in ml_X5_58 (Nat.le_of_ble_eq_true rfl) (by decide) dX5_status_6 (c_X5_in (by omega) (by omega) (by omega)) (kI (fun e6 m6 q6 => ?_))
  obtain ⟨q6, rfl⟩ := q6
  refine w_if_eq (tgt := 21) (by omega) dX5_status_9 (by decide) (fun h9 => ?_) (fun h9 => ?_)
  · refine w_aload_n dX5_status_21 rfl ?_
    refine w_iconst dX5_status_22 ?_
    refine w_cV1 kX5_bad ml_X5_73 ob_167 rfl (Nat.le_of_ble_eq_true rfl) (by decide) dX5_status_23 (c_X5_bad) (kI (fun e23 m23 q23 => ?_))
    obtain ⟨rfl, rfl⟩ := q23
    exact w_iretP rfl dX5_status_26 (by first | exact Or.inl (⟨by omega, rfl, rfl⟩) | exact Or.inr (⟨by omega, rfl, rfl⟩) | (exfalso; omega))
  · refine w_aload_n dX5_status_12 rfl ?_
    refine gf_X5_20 rfl dX5_status_13 ?_
    refine w_iload_n dX5_status_16 rfl ?_
    refine w_iald ar_171 (by omega) dX5_status_17 ?_
    refine w_goto (tgt := 26) dX5_status_18 (by decide) ?_
    exact w_iretP rfl dX5_status_26 (by first | exact Or.inl (⟨by omega, rfl, rfl⟩) | exact Or.inr (⟨by omega, rfl, rfl⟩) | (exfalso; omega))
set_option maxRecDepth 100000 in
set_option maxHeartbeats 4000000 in
theorem c_X5_cannons {g : gG} {l : Launch} {μ : gM}    : CT g l YX5_cannons 0 [vR 167] μ (pI fun e μ2 => e = sI (fun k => μ 168 (86 + k)) 7 ∧ μ = μ2) := by
  refine CT.of (n := 2) (by decide) rfl ?_
  show WA g l YX5_cannons 0 _ 0 [some (vR 167), none, none] [] μ
  refine w_iconst dX5_cannons_0 ?_
  refine w_istore_n dX5_cannons_1 (by decide) rfl ?_
  refine w_iconst dX5_cannons_2 ?_
  refine w_istore_n dX5_cannons_3 (by decide) rfl ?_
  refine w_loop (ι := Int × Int) (fun i => match i with | (a, k) => 0 ≤ k ∧ k ≤ 7 ∧ a = sI (fun k => μ 168 (86 + k)) k) (fun i => match i with | (a, k) => (7 - k).toNat) (fun i => match i with | (a, k) => [some (vR 167), some (vI a), some (vI k)]) (fun i => match i with | (a, k) => μ) ?_ (0, 0) ⟨by omega, by omega, rfl⟩
  intro i_ hinv4 ih4
  obtain ⟨a, k⟩ := i_
  try dsimp only at hinv4 ih4 ⊢
  obtain ⟨h1, h2, h3⟩ := hinv4
  refine w_iload_n dX5_cannons_4 rfl ?_
  refine w_bipush dX5_cannons_5 (by decide) ?_
  refine w_icmp_ge (tgt := 28) (by omega) (by omega) dX5_cannons_7 (by decide) (fun h7 => ?_) (fun h7 => ?_)
  · refine w_iload_n dX5_cannons_28 rfl ?_
    exact w_iretP rfl dX5_cannons_29 (by have e0 : k = 7 := (by omega); subst e0; exact ⟨h3, rfl⟩)
  · refine w_iload_n dX5_cannons_10 rfl ?_
    refine w_aload_n dX5_cannons_11 rfl ?_
    refine gf_X5_7 rfl dX5_cannons_12 ?_
    refine w_bipush dX5_cannons_15 (by decide) ?_
    refine w_iload_n dX5_cannons_17 rfl ?_
    refine w_iadd dX5_cannons_18 ?_
    refine w_iald ar_168 (by omega) dX5_cannons_19 ?_
    refine w_iadd dX5_cannons_20 ?_
    refine w_istore_n dX5_cannons_21 (by decide) rfl ?_
    refine w_iinc dX5_cannons_22 rfl (by decide) rfl ?_
    refine w_goto (tgt := 4) dX5_cannons_25 (by decide) ?_
    exact ih4 (_, _) ⟨by omega, by omega, by rw [sI_s _ h1, h3]⟩ (by omega)
set_option maxRecDepth 100000 in
set_option maxHeartbeats 4000000 in
theorem c_X5_counted {g : gG} {l : Launch} {μ : gM} {w : Int}  (hw : 0 ≤ w ∧ w ≤ 5) : CT g l YX5_counted 1 [vR 167, vI w] μ (pI fun e μ2 => e = cntm μ w ∧ μ = μ2) := by
  refine CT.of (n := 0) (by decide) rfl ?_
  show WA g l YX5_counted 1 _ 0 [some (vR 167), some (vI w)] [] μ
  refine w_iload_n dX5_counted_0 rfl ?_
  refine w_if_ne (tgt := 11) (by omega) dX5_counted_1 (by decide) (fun h1 => ?_) (fun h1 => ?_)
  · refine w_iload_n dX5_counted_11 rfl ?_
    refine w_iconst dX5_counted_12 ?_
    refine w_icmp_ne (tgt := 23) (by omega) (by omega) dX5_counted_13 (by decide) (fun h13 => ?_) (fun h13 => ?_)
    · refine w_iload_n dX5_counted_23 rfl ?_
      refine w_iconst dX5_counted_24 ?_
      refine w_icmp_ne (tgt := 35) (by omega) (by omega) dX5_counted_25 (by decide) (fun h25 => ?_) (fun h25 => ?_)
      · refine w_iload_n dX5_counted_35 rfl ?_
        refine w_iconst dX5_counted_36 ?_
        refine w_icmp_ne (tgt := 50) (by omega) (by omega) dX5_counted_37 (by decide) (fun h37 => ?_) (fun h37 => ?_)
        · refine w_iload_n dX5_counted_50 rfl ?_
          refine w_iconst dX5_counted_51 ?_
          refine w_icmp_ne (tgt := 65) (by omega) (by omega) dX5_counted_52 (by decide) (fun h52 => ?_) (fun h52 => ?_)
          · refine w_aload_n dX5_counted_65 rfl ?_
            refine gf_X5_195 rfl dX5_counted_66 ?_
            exact w_iretP rfl dX5_counted_69 (by refine ⟨?_, rfl⟩; unfold cntm; (repeat (first | rw [if_pos (by omega)] | rw [if_neg (by omega)])))
          · refine w_aload_n dX5_counted_55 rfl ?_
            refine gf_X5_7 rfl dX5_counted_56 ?_
            refine w_bipush dX5_counted_59 (by decide) ?_
            refine w_iald ar_168 (by omega) dX5_counted_61 ?_
            refine w_goto (tgt := 69) dX5_counted_62 (by decide) ?_
            exact w_iretP rfl dX5_counted_69 (by refine ⟨?_, rfl⟩; unfold cntm; (repeat (first | rw [if_pos (by omega)] | rw [if_neg (by omega)])))
        · refine w_aload_n dX5_counted_40 rfl ?_
          refine gf_X5_7 rfl dX5_counted_41 ?_
          refine w_bipush dX5_counted_44 (by decide) ?_
          refine w_iald ar_168 (by omega) dX5_counted_46 ?_
          refine w_goto (tgt := 69) dX5_counted_47 (by decide) ?_
          exact w_iretP rfl dX5_counted_69 (by refine ⟨?_, rfl⟩; unfold cntm; (repeat (first | rw [if_pos (by omega)] | rw [if_neg (by omega)])))
      · refine w_aload_n dX5_counted_28 rfl ?_
        refine w_cV0 kX5_cannons ml_X5_253 ob_167 rfl (Nat.le_of_ble_eq_true rfl) (by decide) dX5_counted_29 (c_X5_cannons) (kI (fun e29 m29 q29 => ?_))
        obtain ⟨rfl, rfl⟩ := q29
        refine w_goto (tgt := 69) dX5_counted_32 (by decide) ?_
        exact w_iretP rfl dX5_counted_69 (by refine ⟨?_, rfl⟩; unfold cntm; (repeat (first | rw [if_pos (by omega)] | rw [if_neg (by omega)])))
    · refine w_aload_n dX5_counted_16 rfl ?_
      refine w_cV0 kX5_storms ml_X5_62 ob_167 rfl (Nat.le_of_ble_eq_true rfl) (by decide) dX5_counted_17 (c_X5_storms) (kI (fun e17 m17 q17 => ?_))
      obtain ⟨rfl, rfl⟩ := q17
      refine w_goto (tgt := 69) dX5_counted_20 (by decide) ?_
      exact w_iretP rfl dX5_counted_69 (by refine ⟨?_, rfl⟩; unfold cntm; (repeat (first | rw [if_pos (by omega)] | rw [if_neg (by omega)])))
  · refine w_aload_n dX5_counted_4 rfl ?_
    refine w_cV0 kX5_roofs ml_X5_54 ob_167 rfl (Nat.le_of_ble_eq_true rfl) (by decide) dX5_counted_5 (c_X5_roofs) (kI (fun e5 m5 q5 => ?_))
    obtain ⟨rfl, rfl⟩ := q5
    refine w_goto (tgt := 69) dX5_counted_8 (by decide) ?_
    exact w_iretP rfl dX5_counted_69 (by refine ⟨?_, rfl⟩; unfold cntm; (repeat (first | rw [if_pos (by omega)] | rw [if_neg (by omega)])))
set_option maxRecDepth 100000 in
set_option maxHeartbeats 4000000 in
theorem c_X5_count {g : gG} {l : Launch} {μ : gM} {w : Int}  (r1 : -2147483648 ≤ w ∧ w < 2147483648) : CT g l YX5_count 2 [vR 167, vI w] μ (pI fun e μ2 => (¬ (0 ≤ w ∧ w ≤ 5) ∧ e = -2 ∧ μ2 = rb μ) ∨ ((0 ≤ w ∧ w ≤ 5) ∧ e = cntm μ w ∧ μ = μ2)) := by
  refine CT.of (n := 0) (by decide) rfl ?_
  show WA g l YX5_count 2 _ 0 [some (vR 167), some (vI w)] [] μ
  refine w_iload_n dX5_count_0 rfl ?_
  refine w_i2l (by omega) dX5_count_1 ?_
  refine w_lconst 0 dX5_count_2 (by decide) ?_
  refine w_ldc2 (5) cl_X5_65 dX5_count_3 (by decide) ?_
  refine w_cS3 kX5_in ml_X5_58 (Nat.le_of_ble_eq_true rfl) (by decide) dX5_count_6 (c_X5_in (by omega) (by omega) (by omega)) (kI (fun e6 m6 q6 => ?_))
  obtain ⟨q6, rfl⟩ := q6
  refine w_if_eq (tgt := 20) (by omega) dX5_count_9 (by decide) (fun h9 => ?_) (fun h9 => ?_)
  · refine w_aload_n dX5_count_20 rfl ?_
    refine w_bipush dX5_count_21 (by decide) ?_
    refine w_cV1 kX5_bad ml_X5_73 ob_167 rfl (Nat.le_of_ble_eq_true rfl) (by decide) dX5_count_23 (c_X5_bad) (kI (fun e23 m23 q23 => ?_))
    obtain ⟨rfl, rfl⟩ := q23
    exact w_iretP rfl dX5_count_26 (by first | exact Or.inl (⟨by omega, rfl, rfl⟩) | exact Or.inr (⟨by omega, rfl, rfl⟩) | (exfalso; omega))
  · refine w_aload_n dX5_count_12 rfl ?_
    refine w_iload_n dX5_count_13 rfl ?_
    refine w_cV1 kX5_counted ml_X5_256 ob_167 rfl (Nat.le_of_ble_eq_true rfl) (by decide) dX5_count_14 (c_X5_counted (by omega)) (kI (fun e14 m14 q14 => ?_))
    obtain ⟨rfl, rfl⟩ := q14
    refine w_goto (tgt := 26) dX5_count_17 (by decide) ?_
    exact w_iretP rfl dX5_count_26 (by first | exact Or.inl (⟨by omega, rfl, rfl⟩) | exact Or.inr (⟨by omega, rfl, rfl⟩) | (exfalso; omega))
set_option maxRecDepth 100000 in
set_option maxHeartbeats 4000000 in
theorem c_X5_sums {g : gG} {l : Launch} {μ : gM} {h : Int} {f : Int} {c : Int}  (hf : 0 ≤ f ∧ 0 ≤ c ∧ f + c ≤ 382) : CT g l YX5_sums 0 [vR 167, vL h, vI f, vI c] μ (pL fun e μ2 => e = sms μ h f c ∧ μ = μ2) := by
  refine CT.of (n := 3) (by decide) rfl ?_
  show WA g l YX5_sums 0 _ 0 [some (vR 167), some (vL h), none, some (vI f), some (vI c), none, none, none] [] μ
  refine w_lload_n dX5_sums_0 rfl ?_
  refine w_lstore dX5_sums_1 (by decide) rfl ?_
  refine w_iconst dX5_sums_3 ?_
  refine w_istore dX5_sums_4 (by decide) rfl ?_
  refine w_loop (ι := Int × Int) (fun i => match i with | (y, k) => 0 ≤ k ∧ k ≤ c ∧ y = sms μ h f k) (fun i => match i with | (y, k) => (c - k).toNat) (fun i => match i with | (y, k) => [some (vR 167), some (vL h), none, some (vI f), some (vI c), some (vL y), none, some (vI k)]) (fun i => match i with | (y, k) => μ) ?_ (_, 0) ⟨by omega, by omega, rfl⟩
  intro i_ hinv6 ih6
  obtain ⟨y, k⟩ := i_
  try dsimp only at hinv6 ih6 ⊢
  obtain ⟨a1, a2, a3⟩ := hinv6
  refine w_iload dX5_sums_6 rfl ?_
  refine w_iload dX5_sums_8 rfl ?_
  refine w_icmp_ge (tgt := 38) (by omega) (by omega) dX5_sums_10 (by decide) (fun h10 => ?_) (fun h10 => ?_)
  · refine w_lload dX5_sums_38 rfl ?_
    exact w_lretP rfl dX5_sums_40 (by have e0 : c = k := (by omega); subst e0; exact ⟨a3, rfl⟩)
  · refine w_ldc2 (31) cl_X5_259 dX5_sums_13 (by decide) ?_
    refine w_lload dX5_sums_16 rfl ?_
    refine w_lmul dX5_sums_18 ?_
    refine w_aload_n dX5_sums_19 rfl ?_
    refine gf_X5_7 rfl dX5_sums_20 ?_
    refine w_iload_n dX5_sums_23 rfl ?_
    refine w_iload dX5_sums_24 rfl ?_
    refine w_iadd dX5_sums_26 ?_
    refine w_iald ar_168 (by omega) dX5_sums_27 ?_
    refine w_i2lw dX5_sums_28 ?_
    refine w_ladd dX5_sums_29 ?_
    refine w_lstore dX5_sums_30 (by decide) rfl ?_
    refine w_iinc dX5_sums_32 rfl (by decide) rfl ?_
    refine w_goto (tgt := 6) dX5_sums_35 (by decide) ?_
    exact ih6 (_, _) ⟨by omega, by omega, by rw [a3]; unfold sms; rw [itI_s _ _ a1]⟩ (by omega)
set_option maxRecDepth 100000 in
set_option maxHeartbeats 4000000 in
theorem c_X5_digest {g : gG} {l : Launch} {μ : gM}  {n m : Int} (n1 : μ 168 93 = n) (n2 : 0 ≤ n ∧ n ≤ 7) (g1 : μ 168 94 = m) (g2 : 0 ≤ m ∧ m ≤ 6) : CT g l YX5_digest 2 [vR 167] μ (pL fun e μ2 => e = dgm μ ∧ μ = μ2) := by
  refine CT.of (n := 3) (by decide) rfl ?_
  show WA g l YX5_digest 2 _ 0 [some (vR 167), none, none, none] [] μ
  refine w_ldc2 (719) cl_X5_261 dX5_digest_0 (by decide) ?_
  refine w_lstore_n dX5_digest_3 (by decide) rfl ?_
  refine w_iconst dX5_digest_4 ?_
  refine w_istore_n dX5_digest_5 (by decide) rfl ?_
  refine w_loop (ι := Int × Int) (fun i => match i with | (y, k) => 0 ≤ k ∧ k ≤ 6 ∧ y = itI (fun k x => 31 * x + (iI (cntm μ k)).toInt) 719 k) (fun i => match i with | (y, k) => (6 - k).toNat) (fun i => match i with | (y, k) => [some (vR 167), some (vL y), none, some (vI k)]) (fun i => match i with | (y, k) => μ) ?_ (_, 0) ⟨by omega, by omega, rfl⟩
  intro i_ hinv6 ih6
  obtain ⟨y, k⟩ := i_
  try dsimp only at hinv6 ih6 ⊢
  obtain ⟨a1, a2, a3⟩ := hinv6
  refine w_iload_n dX5_digest_6 rfl ?_
  refine w_bipush dX5_digest_7 (by decide) ?_
  refine w_icmp_ge (tgt := 31) (by omega) (by omega) dX5_digest_9 (by decide) (fun h9 => ?_) (fun h9 => ?_)
  · have e0 : k = 6 := by omega
    subst e0
    subst a3
    refine w_aload_n dX5_digest_31 rfl ?_
    refine w_lload_n dX5_digest_32 rfl ?_
    refine w_iconst dX5_digest_33 ?_
    refine w_bipush dX5_digest_34 (by decide) ?_
    refine w_aload_n dX5_digest_36 rfl ?_
    refine w_cV0 kX5_roofs ml_X5_54 ob_167 rfl (Nat.le_of_ble_eq_true rfl) (by decide) dX5_digest_37 (c_X5_roofs) (kI (fun e37 m37 q37 => ?_))
    obtain ⟨rfl, rfl⟩ := q37
    refine w_imul dX5_digest_40 ?_
    refine w_cV3 kX5_sums ml_X5_263 ob_167 rfl (Nat.le_of_ble_eq_true rfl) (by decide) dX5_digest_41 (c_X5_sums (by omega)) (kL (fun e41 m41 q41 => ?_))
    obtain ⟨rfl, rfl⟩ := q41
    refine w_lstore_n dX5_digest_44 (by decide) rfl ?_
    refine w_aload_n dX5_digest_45 rfl ?_
    refine w_lload_n dX5_digest_46 rfl ?_
    refine w_bipush dX5_digest_47 (by decide) ?_
    refine w_iconst dX5_digest_49 ?_
    refine w_aload_n dX5_digest_50 rfl ?_
    refine w_cV0 kX5_storms ml_X5_62 ob_167 rfl (Nat.le_of_ble_eq_true rfl) (by decide) dX5_digest_51 (c_X5_storms) (kI (fun e51 m51 q51 => ?_))
    obtain ⟨rfl, rfl⟩ := q51
    refine w_imul dX5_digest_54 ?_
    refine w_cV3 kX5_sums ml_X5_263 ob_167 rfl (Nat.le_of_ble_eq_true rfl) (by decide) dX5_digest_55 (c_X5_sums (by omega)) (kL (fun e55 m55 q55 => ?_))
    obtain ⟨rfl, rfl⟩ := q55
    refine w_lstore_n dX5_digest_58 (by decide) rfl ?_
    refine w_aload_n dX5_digest_59 rfl ?_
    refine w_lload_n dX5_digest_60 rfl ?_
    refine w_bipush dX5_digest_61 (by decide) ?_
    refine w_bipush dX5_digest_63 (by decide) ?_
    refine w_cV3 kX5_sums ml_X5_263 ob_167 rfl (Nat.le_of_ble_eq_true rfl) (by decide) dX5_digest_65 (c_X5_sums (by omega)) (kL (fun e65 m65 q65 => ?_))
    obtain ⟨rfl, rfl⟩ := q65
    refine w_lstore_n dX5_digest_68 (by decide) rfl ?_
    refine w_ldc2 (31) cl_X5_259 dX5_digest_69 (by decide) ?_
    refine w_ldc2 (31) cl_X5_259 dX5_digest_72 (by decide) ?_
    refine w_lload_n dX5_digest_75 rfl ?_
    refine w_lmul dX5_digest_76 ?_
    refine w_aload_n dX5_digest_77 rfl ?_
    refine gf_X5_51 rfl dX5_digest_78 ?_
    refine w_ladd dX5_digest_81 ?_
    refine w_lmul dX5_digest_82 ?_
    refine w_aload_n dX5_digest_83 rfl ?_
    refine gf_X5_23 rfl dX5_digest_84 ?_
    refine w_ladd dX5_digest_87 ?_
    exact w_lretP rfl dX5_digest_88 (by exact ⟨rfl, rfl⟩)
  · refine w_ldc2 (31) cl_X5_259 dX5_digest_12 (by decide) ?_
    refine w_lload_n dX5_digest_15 rfl ?_
    refine w_lmul dX5_digest_16 ?_
    refine w_aload_n dX5_digest_17 rfl ?_
    refine w_iload_n dX5_digest_18 rfl ?_
    refine w_cV1 kX5_counted ml_X5_256 ob_167 rfl (Nat.le_of_ble_eq_true rfl) (by decide) dX5_digest_19 (c_X5_counted (by omega)) (kI (fun e19 m19 q19 => ?_))
    obtain ⟨rfl, rfl⟩ := q19
    refine w_i2lw dX5_digest_22 ?_
    refine w_ladd dX5_digest_23 ?_
    refine w_lstore_n dX5_digest_24 (by decide) rfl ?_
    refine w_iinc dX5_digest_25 rfl (by decide) rfl ?_
    refine w_goto (tgt := 6) dX5_digest_28 (by decide) ?_
    exact ih6 (_, _) ⟨by omega, by omega, by rw [itI_s _ _ a1, ← a3]⟩ (by omega)
