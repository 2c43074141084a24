set_option maxRecDepth 100000 in
set_option maxHeartbeats 4000000 in
theorem c_X5_findDecided {g : gG} {l : Launch} {μ : gM} {r : Int} {v : gV} {n m : Int} (hNW : NW μ v n m) (hr : 0 ≤ r ∧ r < n) : CT g l YX5_findDecided 7 [vR 167, vI r] μ (pI fun e μ2 => e = fD v n m r ∧ (∀ a, a ≠ 172 → a ≠ 173 → a ≠ 175 → a ≠ 176 → μ2 a = μ a) ∧ (∀ j, 0 ≤ j → j < m → μ2 176 j = ift (dcd v n j r) 1 0)) := by
  have hMG := hNW.1
  obtain ⟨g1, g2, gV, g4, g5⟩ := id hMG
  have hV := gV.1
  obtain ⟨-, n1, n2, n3, n4⟩ := id hNW
  have et : tkN μ 168 = μ 168 := tkN_o (by decide) (by decide)
  have hMV := NW_MV hNW
  refine CT.of (n := 2) (by decide) rfl ?_
  show WA g l YX5_findDecided 7 _ 0 [some (vR 167), some (vI r), none, none] [] μ
  refine w_aload_n dX5_findDecided_0 rfl ?_
  refine w_cV0 kX5_takeNow ml_X5_121 ob_167 rfl (Nat.le_of_ble_eq_true rfl) (by decide) dX5_findDecided_1 (c_X5_takeNow (by rw [n1]; exact n2)) (kU (fun m1 q1 => ?_))
  obtain rfl := q1
  refine w_iconst dX5_findDecided_4 ?_
  refine w_istore_n dX5_findDecided_5 (by decide) rfl ?_
  refine w_loop (ι := Int × gM) (fun i => match i with | (k, m_) => 0 ≤ k ∧ k ≤ m ∧ (∀ a, a ≠ 175 → m_ a = tkN μ a) ∧ (∀ j, 0 ≤ j → j < k → m_ 175 j = fW (fL v n j))) (fun i => match i with | (k, m_) => (m - k).toNat) (fun i => match i with | (k, m_) => [some (vR 167), some (vI r), some (vI k), none]) (fun i => match i with | (k, m_) => m_) ?_ (0, tkN μ) ⟨by omega, by omega, fun a _ => rfl, fun j j1 j2 => by omega⟩
  intro i_ hinv6 ih6
  obtain ⟨k, m_⟩ := i_
  try dsimp only at hinv6 ih6 ⊢
  obtain ⟨a1, a2, a3, a4⟩ := hinv6
  have e8 : m_ 168 = μ 168 := by rw [a3 168 (by decide)]; exact et
  have hMW := MV_fr (a3 168 (by decide)) (a3 172 (by decide)) (a3 173 (by decide)) hMV
  refine w_iload_n dX5_findDecided_6 rfl ?_
  refine w_aload_n dX5_findDecided_7 rfl ?_
  refine w_cV0 kX5_storms ml_X5_62 ob_167 rfl (Nat.le_of_ble_eq_true rfl) (by decide) dX5_findDecided_8 (c_X5_storms) (kI (fun e8 m8 q8 => ?_))
  obtain ⟨rfl, rfl⟩ := q8
  rw [e8, g1]
  refine w_icmp_ge (tgt := 31) (by omega) (by omega) dX5_findDecided_11 (by decide) (fun h11 => ?_) (fun h11 => ?_)
  · have ek : m = k := by omega
    subst ek
    refine w_iconst dX5_findDecided_31 ?_
    refine w_istore_n dX5_findDecided_32 (by decide) rfl ?_
    refine w_loop (ι := Int × gM) (fun i => match i with | (k2, m2) => 0 ≤ k2 ∧ k2 ≤ 4 ∧ (∀ a, a ≠ 172 → m2 a = m_ a) ∧ (∀ i, m2 172 i = if 4 * r ≤ i ∧ i < 4 * r + k2 then 0 else tkN μ 172 i)) (fun i => match i with | (k2, m2) => (4 - k2).toNat) (fun i => match i with | (k2, m2) => [some (vR 167), some (vI r), some (vI k2), none]) (fun i => match i with | (k2, m2) => m2) ?_ (0, m_) ⟨by omega, by omega, fun a _ => rfl, fun i => by rw [if_neg (by omega), a3 172 (by decide)]⟩
    intro i_ hinv33 ih33
    obtain ⟨k2, m2⟩ := i_
    try dsimp only at hinv33 ih33 ⊢
    obtain ⟨b1, b2, b3, b4⟩ := hinv33
    refine w_iload_n dX5_findDecided_33 rfl ?_
    refine w_iconst dX5_findDecided_34 ?_
    refine w_icmp_ge (tgt := 55) (by omega) (by omega) dX5_findDecided_35 (by decide) (fun h35 => ?_) (fun h35 => ?_)
    · have ek4 : k2 = 4 := by omega
      subst ek4
      refine w_iconst dX5_findDecided_55 ?_
      refine w_istore_n dX5_findDecided_56 (by decide) rfl ?_
      refine w_iconst dX5_findDecided_57 ?_
      refine w_istore_n dX5_findDecided_58 (by decide) rfl ?_
      refine w_loop (ι := Int × Int × gM) (fun i => match i with | (c, k, m3) => 0 ≤ k ∧ k ≤ m ∧ c = fD v n k r ∧ (∀ a, a ≠ 176 → m3 a = m2 a) ∧ (∀ j, 0 ≤ j → j < k → m3 176 j = ift (dcd v n j r) 1 0)) (fun i => match i with | (c, k, m3) => (m - k).toNat) (fun i => match i with | (c, k, m3) => [some (vR 167), some (vI r), some (vI c), some (vI k)]) (fun i => match i with | (c, k, m3) => m3) ?_ (0, 0, m2) ⟨by omega, by omega, rfl, fun a _ => rfl, fun j j1 j2 => by omega⟩
      intro i_ hinv59 ih59
      obtain ⟨c, k, m3⟩ := i_
      try dsimp only at hinv59 ih59 ⊢
      obtain ⟨c1, c2, cD, c3, c4⟩ := hinv59
      have e8 : m3 168 = μ 168 := by rw [c3 168 (by decide), b3 168 (by decide), a3 168 (by decide)]; exact et
      have hMZ : MV m3 (zv v r) n m := MV_zv hMV (by rw [e8, et]) (by rw [c3 173 (by decide), b3 173 (by decide), a3 173 (by decide)]) (fun i i1 i2 => by rw [c3 172 (by decide)]; exact b4 i)
      refine w_iload_n dX5_findDecided_59 rfl ?_
      refine w_aload_n dX5_findDecided_60 rfl ?_
      refine w_cV0 kX5_storms ml_X5_62 ob_167 rfl (Nat.le_of_ble_eq_true rfl) (by decide) dX5_findDecided_61 (c_X5_storms) (kI (fun e61 m61 q61 => ?_))
      obtain ⟨rfl, rfl⟩ := q61
      rw [e8, g1]
      refine w_icmp_ge (tgt := 115) (by omega) (by omega) dX5_findDecided_64 (by decide) (fun h64 => ?_) (fun h64 => ?_)
      · refine w_iload_n dX5_findDecided_115 rfl ?_
        exact w_iretP rfl dX5_findDecided_116 (by have ek3 : k = m := (by omega); subst ek3; refine ⟨cD, fun a z1 z2 z3 z4 => ?_, c4⟩; rw [c3 a z4, b3 a z1, a3 a z3]; exact tkN_o z1 z2)
      · refine w_aload_n dX5_findDecided_67 rfl ?_
        refine gf_X5_39 rfl dX5_findDecided_68 ?_
        refine w_iload_n dX5_findDecided_71 rfl ?_
        refine w_aload_n dX5_findDecided_72 rfl ?_
        refine w_iload_n dX5_findDecided_73 rfl ?_
        refine w_cV1 kX5_winner ml_X5_127 ob_167 rfl (Nat.le_of_ble_eq_true rfl) (by decide) dX5_findDecided_74 (c_X5_winner hMZ (by omega)) (kI (fun e74 m74 q74 => ?_))
        obtain ⟨rfl, rfl, b74⟩ := q74
        rw [zv_L hV hr] at b74 ⊢
        have fw1 := fW_bd (fL v n k)
        have ebp : m3 175 k = fW (fL v n k) := by rw [c3 175 (by decide), b3 175 (by decide)]; exact a4 k (by omega) (by omega)
        refine w_aload_n dX5_findDecided_77 rfl ?_
        refine gf_X5_36 rfl dX5_findDecided_78 ?_
        refine w_iload_n dX5_findDecided_81 rfl ?_
        refine w_iald ar_175 (by omega) dX5_findDecided_82 ?_
        rw [ebp]
        refine w_icmp_eq (tgt := 90) (by omega) (by omega) dX5_findDecided_83 (by decide) (fun h83 => ?_) (fun h83 => ?_)
        · refine w_iconst dX5_findDecided_90 ?_
          refine w_zast ar_176 (by omega) (by omega) dX5_findDecided_91 ?_
          refine w_iload_n dX5_findDecided_92 rfl ?_
          refine w_aload_n dX5_findDecided_93 rfl ?_
          refine gf_X5_39 rfl dX5_findDecided_94 ?_
          refine w_iload_n dX5_findDecided_97 rfl ?_
          refine w_zald ar_176 (by omega) dX5_findDecided_98 ?_
          rw [wr_s]
          refine w_if_eq (tgt := 106) (by omega) dX5_findDecided_99 (by decide) (fun h99 => ?_) (fun h99 => ?_)
          · refine w_iconst dX5_findDecided_106 ?_
            refine w_iadd dX5_findDecided_107 ?_
            refine w_istore_n dX5_findDecided_108 (by decide) rfl ?_
            refine w_iinc dX5_findDecided_109 rfl (by decide) rfl ?_
            refine w_goto (tgt := 59) dX5_findDecided_112 (by decide) ?_
            first
            | (exfalso; omega)
            | (have hd : dcd v n k r := fun z => h83 z.symm
               refine ih59 (c + 1, k + 1, wr m3 176 k 1) ⟨by dsimp only; omega, by dsimp only; omega, fD_y c1 cD hd, fun a ha => ?_, fun j j1 j2 => ?_⟩ (by dsimp only; omega)
               · dsimp only; rw [wr_o ha]; exact c3 a ha
               · dsimp only at j2 ⊢
                 by_cases ej : j = k
                 · rw [ej, wr_s, ift_p hd]
                 · rw [wr_n ej]; exact c4 j j1 (by omega))
            | (have hd : ¬ dcd v n k r := fun z => z h83.symm
               refine ih59 (c + 0, k + 1, wr m3 176 k 0) ⟨by dsimp only; omega, by dsimp only; omega, fD_n c1 cD hd, fun a ha => ?_, fun j j1 j2 => ?_⟩ (by dsimp only; omega)
               · dsimp only; rw [wr_o ha]; exact c3 a ha
               · dsimp only at j2 ⊢
                 by_cases ej : j = k
                 · rw [ej, wr_s, ift_n hd]
                 · rw [wr_n ej]; exact c4 j j1 (by omega))
          · refine w_iconst dX5_findDecided_102 ?_
            refine w_goto (tgt := 107) dX5_findDecided_103 (by decide) ?_
            refine w_iadd dX5_findDecided_107 ?_
            refine w_istore_n dX5_findDecided_108 (by decide) rfl ?_
            refine w_iinc dX5_findDecided_109 rfl (by decide) rfl ?_
            refine w_goto (tgt := 59) dX5_findDecided_112 (by decide) ?_
            first
            | (exfalso; omega)
            | (have hd : dcd v n k r := fun z => h83 z.symm
               refine ih59 (c + 1, k + 1, wr m3 176 k 1) ⟨by dsimp only; omega, by dsimp only; omega, fD_y c1 cD hd, fun a ha => ?_, fun j j1 j2 => ?_⟩ (by dsimp only; omega)
               · dsimp only; rw [wr_o ha]; exact c3 a ha
               · dsimp only at j2 ⊢
                 by_cases ej : j = k
                 · rw [ej, wr_s, ift_p hd]
                 · rw [wr_n ej]; exact c4 j j1 (by omega))
            | (have hd : ¬ dcd v n k r := fun z => z h83.symm
               refine ih59 (c + 0, k + 1, wr m3 176 k 0) ⟨by dsimp only; omega, by dsimp only; omega, fD_n c1 cD hd, fun a ha => ?_, fun j j1 j2 => ?_⟩ (by dsimp only; omega)
               · dsimp only; rw [wr_o ha]; exact c3 a ha
               · dsimp only at j2 ⊢
                 by_cases ej : j = k
                 · rw [ej, wr_s, ift_n hd]
                 · rw [wr_n ej]; exact c4 j j1 (by omega))
        · refine w_iconst dX5_findDecided_86 ?_
          refine w_goto (tgt := 91) dX5_findDecided_87 (by decide) ?_
          refine w_zast ar_176 (by omega) (by omega) dX5_findDecided_91 ?_
          refine w_iload_n dX5_findDecided_92 rfl ?_
          refine w_aload_n dX5_findDecided_93 rfl ?_
          refine gf_X5_39 rfl dX5_findDecided_94 ?_
          refine w_iload_n dX5_findDecided_97 rfl ?_
          refine w_zald ar_176 (by omega) dX5_findDecided_98 ?_
          rw [wr_s]
          refine w_if_eq (tgt := 106) (by omega) dX5_findDecided_99 (by decide) (fun h99 => ?_) (fun h99 => ?_)
          · refine w_iconst dX5_findDecided_106 ?_
            refine w_iadd dX5_findDecided_107 ?_
            refine w_istore_n dX5_findDecided_108 (by decide) rfl ?_
            refine w_iinc dX5_findDecided_109 rfl (by decide) rfl ?_
            refine w_goto (tgt := 59) dX5_findDecided_112 (by decide) ?_
            first
            | (exfalso; omega)
            | (have hd : dcd v n k r := fun z => h83 z.symm
               refine ih59 (c + 1, k + 1, wr m3 176 k 1) ⟨by dsimp only; omega, by dsimp only; omega, fD_y c1 cD hd, fun a ha => ?_, fun j j1 j2 => ?_⟩ (by dsimp only; omega)
               · dsimp only; rw [wr_o ha]; exact c3 a ha
               · dsimp only at j2 ⊢
                 by_cases ej : j = k
                 · rw [ej, wr_s, ift_p hd]
                 · rw [wr_n ej]; exact c4 j j1 (by omega))
            | (have hd : ¬ dcd v n k r := fun z => z h83.symm
               refine ih59 (c + 0, k + 1, wr m3 176 k 0) ⟨by dsimp only; omega, by dsimp only; omega, fD_n c1 cD hd, fun a ha => ?_, fun j j1 j2 => ?_⟩ (by dsimp only; omega)
               · dsimp only; rw [wr_o ha]; exact c3 a ha
               · dsimp only at j2 ⊢
                 by_cases ej : j = k
                 · rw [ej, wr_s, ift_n hd]
                 · rw [wr_n ej]; exact c4 j j1 (by omega))
          · refine w_iconst dX5_findDecided_102 ?_
            refine w_goto (tgt := 107) dX5_findDecided_103 (by decide) ?_
            refine w_iadd dX5_findDecided_107 ?_
            refine w_istore_n dX5_findDecided_108 (by decide) rfl ?_
            refine w_iinc dX5_findDecided_109 rfl (by decide) rfl ?_
            refine w_goto (tgt := 59) dX5_findDecided_112 (by decide) ?_
            first
            | (exfalso; omega)
            | (have hd : dcd v n k r := fun z => h83 z.symm
               refine ih59 (c + 1, k + 1, wr m3 176 k 1) ⟨by dsimp only; omega, by dsimp only; omega, fD_y c1 cD hd, fun a ha => ?_, fun j j1 j2 => ?_⟩ (by dsimp only; omega)
               · dsimp only; rw [wr_o ha]; exact c3 a ha
               · dsimp only at j2 ⊢
                 by_cases ej : j = k
                 · rw [ej, wr_s, ift_p hd]
                 · rw [wr_n ej]; exact c4 j j1 (by omega))
            | (have hd : ¬ dcd v n k r := fun z => z h83.symm
               refine ih59 (c + 0, k + 1, wr m3 176 k 0) ⟨by dsimp only; omega, by dsimp only; omega, fD_n c1 cD hd, fun a ha => ?_, fun j j1 j2 => ?_⟩ (by dsimp only; omega)
               · dsimp only; rw [wr_o ha]; exact c3 a ha
               · dsimp only at j2 ⊢
                 by_cases ej : j = k
                 · rw [ej, wr_s, ift_n hd]
                 · rw [wr_n ej]; exact c4 j j1 (by omega))
    · refine w_aload_n dX5_findDecided_38 rfl ?_
      refine gf_X5_27 rfl dX5_findDecided_39 ?_
      refine w_iconst dX5_findDecided_42 ?_
      refine w_iload_n dX5_findDecided_43 rfl ?_
      refine w_imul dX5_findDecided_44 ?_
      refine w_iload_n dX5_findDecided_45 rfl ?_
      refine w_iadd dX5_findDecided_46 ?_
      refine w_iconst dX5_findDecided_47 ?_
      refine w_iast ar_172 (by omega) dX5_findDecided_48 ?_
      refine w_iinc dX5_findDecided_49 rfl (by decide) rfl ?_
      refine w_goto (tgt := 33) dX5_findDecided_52 (by decide) ?_
      refine ih33 (k2 + 1, wr m2 172 (4 * r + k2) 0) ⟨by dsimp only; omega, by dsimp only; omega, fun a ha => ?_, fun i => ?_⟩ (by dsimp only; omega)
      · dsimp only; rw [wr_o ha]; exact b3 a ha
      · dsimp only
        by_cases ej : i = 4 * r + k2
        · rw [ej, wr_s, if_pos (by omega)]
        · rw [wr_n ej, b4 i]; (repeat' split) <;> omega
  · refine w_aload_n dX5_findDecided_14 rfl ?_
    refine gf_X5_36 rfl dX5_findDecided_15 ?_
    refine w_iload_n dX5_findDecided_18 rfl ?_
    refine w_aload_n dX5_findDecided_19 rfl ?_
    refine w_iload_n dX5_findDecided_20 rfl ?_
    refine w_cV1 kX5_winner ml_X5_127 ob_167 rfl (Nat.le_of_ble_eq_true rfl) (by decide) dX5_findDecided_21 (c_X5_winner hMW (by omega)) (kI (fun e21 m21 q21 => ?_))
    obtain ⟨rfl, rfl, b21⟩ := q21
    refine w_iast ar_175 (by omega) dX5_findDecided_24 ?_
    refine w_iinc dX5_findDecided_25 rfl (by decide) rfl ?_
    refine w_goto (tgt := 6) dX5_findDecided_28 (by decide) ?_
    refine ih6 (k + 1, wr m_ 175 k (fW (fL v n k))) ⟨by dsimp only; omega, by dsimp only; omega, fun a ha => ?_, fun j j1 j2 => ?_⟩ (by dsimp only; omega)
    · dsimp only; rw [wr_o ha]; exact a3 a ha
    · dsimp only at j2 ⊢
      by_cases ej : j = k
      · rw [ej, wr_s]
      · rw [wr_n ej]; exact a4 j j1 (by omega)
set_option maxRecDepth 100000 in
set_option maxHeartbeats 4000000 in
theorem c_X5_decides {g : gG} {l : Launch} {μ : gM} {r : Int} {v : gV} {n m : Int} (r1 : -2147483648 ≤ r ∧ r < 2147483648) (hNW : NW μ v n m) : CT g l YX5_decides 8 [vR 167, vI r] μ (pI fun e μ2 => (¬ (0 ≤ r ∧ r < n) ∧ e = -2 ∧ μ2 = rb μ) ∨ ((0 ≤ r ∧ r < n) ∧ e = fD v n m r ∧ (∀ a, a ≠ 172 → a ≠ 173 → a ≠ 175 → a ≠ 176 → μ2 a = μ a))) := by
  have hMG := hNW.1
  obtain ⟨g1, g2, gV, g4, g5⟩ := id hMG
  have hV := gV.1
  obtain ⟨-, n1, n2, n3, n4⟩ := id hNW
  refine CT.of (n := 0) (by decide) rfl ?_
  show WA g l YX5_decides 8 _ 0 [some (vR 167), some (vI r)] [] μ
  refine w_aload_n dX5_decides_0 rfl ?_
  refine w_iload_n dX5_decides_1 rfl ?_
  refine w_cV1 kX5_isRoof ml_X5_93 ob_167 rfl (Nat.le_of_ble_eq_true rfl) (by decide) dX5_decides_2 (c_X5_isRoof (by omega) n1 n2) (kI (fun e2 m2 q2 => ?_))
  obtain ⟨q2, rfl⟩ := q2
  refine w_if_eq (tgt := 16) (by omega) dX5_decides_5 (by decide) (fun h5 => ?_) (fun h5 => ?_)
  · refine w_aload_n dX5_decides_16 rfl ?_
    refine w_bipush dX5_decides_17 (by decide) ?_
    refine w_cV1 kX5_bad ml_X5_73 ob_167 rfl (Nat.le_of_ble_eq_true rfl) (by decide) dX5_decides_19 (c_X5_bad) (kI (fun e19 m19 q19 => ?_))
    obtain ⟨rfl, rfl⟩ := q19
    exact w_iretP rfl dX5_decides_22 (by exact Or.inl ⟨by omega, rfl, rfl⟩)
  · refine w_aload_n dX5_decides_8 rfl ?_
    refine w_iload_n dX5_decides_9 rfl ?_
    refine w_cV1 kX5_findDecided ml_X5_159 ob_167 rfl (Nat.le_of_ble_eq_true rfl) (by decide) dX5_decides_10 (c_X5_findDecided hNW (by omega)) (kI (fun e10 m10 q10 => ?_))
    obtain ⟨rfl, f10, d10⟩ := q10
    refine w_goto (tgt := 22) dX5_decides_13 (by decide) ?_
    exact w_iretP rfl dX5_decides_22 (by exact Or.inr ⟨by omega, rfl, f10⟩)
set_option maxRecDepth 100000 in
set_option maxHeartbeats 4000000 in
theorem c_X5_power {g : gG} {l : Launch} {μ : gM} {r : Int} {v : gV} {n m : Int} (r1 : -2147483648 ≤ r ∧ r < 2147483648) (hNW : NW μ v n m) (hC : 0 < m → 0 < fC v m) : CT g l YX5_power 8 [vR 167, vI r] μ (pI fun e μ2 => (¬ (0 ≤ r ∧ r < n) ∧ e = -2 ∧ μ2 = rb μ) ∨ ((0 ≤ r ∧ r < n) ∧ m = 0 ∧ e = -3 ∧ μ2 = rn μ) ∨ ((0 ≤ r ∧ r < n) ∧ 0 < m ∧ e = 1 ∧ ∃ m1, (∀ a, a ≠ 172 → a ≠ 173 → a ≠ 175 → a ≠ 176 → m1 a = μ a) ∧ μ2 = frm m1 (fP v n m r) (fC v m))) := by
  have hMG := hNW.1
  obtain ⟨g1, g2, gV, g4, g5⟩ := id hMG
  have hV := gV.1
  obtain ⟨-, n1, n2, n3, n4⟩ := id hNW
  refine CT.of (n := 3) (by decide) rfl ?_
  show WA g l YX5_power 8 _ 0 [some (vR 167), some (vI r), none, none, none] [] μ
  refine w_aload_n dX5_power_0 rfl ?_
  refine w_iload_n dX5_power_1 rfl ?_
  refine w_cV1 kX5_isRoof ml_X5_93 ob_167 rfl (Nat.le_of_ble_eq_true rfl) (by decide) dX5_power_2 (c_X5_isRoof (by omega) n1 n2) (kI (fun e2 m2 q2 => ?_))
  obtain ⟨q2, rfl⟩ := q2
  refine w_if_ne (tgt := 15) (by omega) dX5_power_5 (by decide) (fun h5 => ?_) (fun h5 => ?_)
  · refine w_aload_n dX5_power_15 rfl ?_
    refine w_cV0 kX5_storms ml_X5_62 ob_167 rfl (Nat.le_of_ble_eq_true rfl) (by decide) dX5_power_16 (c_X5_storms) (kI (fun e16 m16 q16 => ?_))
    obtain ⟨rfl, rfl⟩ := q16
    rw [g1]
    refine w_if_ne (tgt := 29) (by omega) dX5_power_19 (by decide) (fun h19 => ?_) (fun h19 => ?_)
    · refine w_aload_n dX5_power_29 rfl ?_
      refine w_iload_n dX5_power_30 rfl ?_
      refine w_cV1 kX5_findDecided ml_X5_159 ob_167 rfl (Nat.le_of_ble_eq_true rfl) (by decide) dX5_power_31 (c_X5_findDecided hNW (by omega)) (kI (fun e31 m31 q31 => ?_))
      obtain ⟨rfl, f31, d31⟩ := q31
      have e168 : m31 168 = μ 168 := f31 168 (by decide) (by decide) (by decide) (by decide)
      refine w_istore_n dX5_power_34 (by decide) rfl ?_
      refine w_iconst dX5_power_35 ?_
      refine w_istore_n dX5_power_36 (by decide) rfl ?_
      refine w_iconst dX5_power_37 ?_
      refine w_istore dX5_power_38 (by decide) rfl ?_
      refine w_drop 2 ?_
      refine w_loop (ι := Int × Int) (fun i => match i with | (a, k) => 0 ≤ k ∧ k ≤ m ∧ a = fP v n k r) (fun i => match i with | (a, k) => (m - k).toNat) (fun i => match i with | (a, k) => [some (vR 167), some (vI r), none, some (vI a), some (vI k)]) (fun i => match i with | (a, k) => m31) ?_ (0, 0) ⟨by omega, by omega, rfl⟩
      intro i_ hinv40 ih40
      obtain ⟨a, k⟩ := i_
      try dsimp only at hinv40 ih40 ⊢
      obtain ⟨a1, a2, a3⟩ := hinv40
      refine w_iload dX5_power_40 rfl ?_
      refine w_aload_n dX5_power_42 rfl ?_
      refine w_cV0 kX5_storms ml_X5_62 ob_167 rfl (Nat.le_of_ble_eq_true rfl) (by decide) dX5_power_43 (c_X5_storms) (kI (fun e43 m43 q43 => ?_))
      obtain ⟨rfl, rfl⟩ := q43
      rw [e168, g1]
      refine w_icmp_ge (tgt := 79) (by omega) (by omega) dX5_power_46 (by decide) (fun h46 => ?_) (fun h46 => ?_)
      · have ek : m = k := by omega
        subst ek
        have hfp := fP_bd hV g2 n r
        have hp3 := hC (by omega)
        subst a3
        refine w_aload_n dX5_power_79 rfl ?_
        refine w_iload_n dX5_power_80 rfl ?_
        refine w_i2l (by omega) dX5_power_81 ?_
        refine w_aload_n dX5_power_82 rfl ?_
        refine w_cV0 kX5_allChances ml_X5_135 ob_167 rfl (Nat.le_of_ble_eq_true rfl) (by decide) dX5_power_83 (c_X5_allChances (MG_fr e168 hMG)) (kI (fun e83 m83 q83 => ?_))
        obtain ⟨rfl, rfl, b83⟩ := q83
        refine w_i2l (by omega) dX5_power_86 ?_
        refine w_cV2 kX5_tell ml_X5_138 ob_167 rfl (Nat.le_of_ble_eq_true rfl) (by decide) dX5_power_87 (c_X5_tell (by omega) (by omega)) (kI (fun e87 m87 q87 => ?_))
        obtain ⟨rfl, rfl⟩ := q87
        exact w_iretP rfl dX5_power_90 (by exact Or.inr (Or.inr ⟨by omega, by omega, rfl, m31, f31, rfl⟩))
      · refine w_iload_n dX5_power_49 rfl ?_
        refine w_aload_n dX5_power_50 rfl ?_
        refine gf_X5_39 rfl dX5_power_51 ?_
        refine w_iload dX5_power_54 rfl ?_
        refine w_zald ar_176 (by omega) dX5_power_56 ?_
        rw [d31 k (by omega) (by omega)]
        have hi01 : ift (dcd v n k r) (1 : Int) 0 = 0 ∨ ift (dcd v n k r) (1 : Int) 0 = 1 := by
          by_cases z : dcd v n k r
          · exact Or.inr (ift_p z)
          · exact Or.inl (ift_n z)
        refine w_if_eq (tgt := 70) (by omega) dX5_power_57 (by decide) (fun h57 => ?_) (fun h57 => ?_)
        · refine w_iconst dX5_power_70 ?_
          have hd : ¬ dcd v n k r := by
            intro z
            rw [ift_p z] at h57
            omega
          refine w_iadd dX5_power_71 ?_
          refine w_istore_n dX5_power_72 (by decide) rfl ?_
          refine w_iinc dX5_power_73 rfl (by decide) rfl ?_
          refine w_goto (tgt := 40) dX5_power_76 (by decide) ?_
          first
          | exact ih40 (_, _) ⟨by omega, by omega, fP_y a1 a3 hd⟩ (by omega)
          | exact ih40 (_, _) ⟨by omega, by omega, fP_n a1 a3 hd⟩ (by omega)
        · refine w_aload_n dX5_power_60 rfl ?_
          refine w_iload dX5_power_61 rfl ?_
          refine w_iconst dX5_power_63 ?_
          refine w_cV2 kX5_of ml_X5_97 ob_167 rfl (Nat.le_of_ble_eq_true rfl) (by decide) dX5_power_64 (c_X5_of (by omega) (by omega)) (kI (fun e64 m64 q64 => ?_))
          obtain ⟨rfl, rfl⟩ := q64
          refine w_goto (tgt := 71) dX5_power_67 (by decide) ?_
          rw [e168, (g4 k (by omega) (by omega)).2.2.2.2]
          have hd : dcd v n k r := by
            by_cases z : dcd v n k r
            · exact z
            · exact absurd (ift_n z) h57
          refine w_iadd dX5_power_71 ?_
          refine w_istore_n dX5_power_72 (by decide) rfl ?_
          refine w_iinc dX5_power_73 rfl (by decide) rfl ?_
          refine w_goto (tgt := 40) dX5_power_76 (by decide) ?_
          first
          | exact ih40 (_, _) ⟨by omega, by omega, fP_y a1 a3 hd⟩ (by omega)
          | exact ih40 (_, _) ⟨by omega, by omega, fP_n a1 a3 hd⟩ (by omega)
    · refine w_aload_n dX5_power_22 rfl ?_
      refine w_bipush dX5_power_23 (by decide) ?_
      refine w_cV1 kX5_no ml_X5_90 ob_167 rfl (Nat.le_of_ble_eq_true rfl) (by decide) dX5_power_25 (c_X5_no) (kI (fun e25 m25 q25 => ?_))
      obtain ⟨rfl, rfl⟩ := q25
      exact w_iretP rfl dX5_power_28 (by first | exact Or.inl (⟨by omega, rfl, rfl⟩) | exact Or.inr (Or.inl (⟨by omega, by omega, rfl, rfl⟩)) | (exfalso; omega))
  · refine w_aload_n dX5_power_8 rfl ?_
    refine w_bipush dX5_power_9 (by decide) ?_
    refine w_cV1 kX5_bad ml_X5_73 ob_167 rfl (Nat.le_of_ble_eq_true rfl) (by decide) dX5_power_11 (c_X5_bad) (kI (fun e11 m11 q11 => ?_))
    obtain ⟨rfl, rfl⟩ := q11
    exact w_iretP rfl dX5_power_14 (by first | exact Or.inl (⟨by omega, rfl, rfl⟩) | exact Or.inr (Or.inl (⟨by omega, by omega, rfl, rfl⟩)) | (exfalso; omega))
set_option maxRecDepth 100000 in
set_option maxHeartbeats 4000000 in
theorem c_X5_shards {g : gG} {l : Launch} {μ : gM} {r : Int} {b : Int} {y : Int} {n : Int} (r1 : -2147483648 ≤ r ∧ r < 2147483648) (r2 : -2147483648 ≤ b ∧ b < 2147483648) (r3 : -2147483648 ≤ y ∧ y < 2147483648) (n1 : μ 168 93 = n) (n2 : 0 ≤ n ∧ n ≤ 7) : CT g l YX5_shards 2 [vR 167, vI r, vI b, vI y] μ (pI fun e μ2 => (¬ ((0 ≤ r ∧ r < n) ∧ ((b = -1 ∧ y = -1) ∨ (0 ≤ b ∧ b ≤ 18 ∧ 0 ≤ y ∧ y ≤ 18))) ∧ e = -2 ∧ μ2 = rb μ) ∨ (((0 ≤ r ∧ r < n) ∧ ((b = -1 ∧ y = -1) ∨ (0 ≤ b ∧ b ≤ 18 ∧ 0 ≤ y ∧ y ≤ 18))) ∧ e = 1 ∧ μ2 = wr (wr μ 168 (0 + 8 * r + 6) b) 168 (0 + 8 * r + 6 + 1) y)) := by
  refine CT.of (n := 1) (by decide) rfl ?_
  show WA g l YX5_shards 2 _ 0 [some (vR 167), some (vI r), some (vI b), some (vI y), none] [] μ
  refine w_iload_n dX5_shards_0 rfl ?_
  refine w_iconst dX5_shards_1 ?_
  refine w_icmp_ne (tgt := 14) (by omega) (by omega) dX5_shards_2 (by decide) (fun h2 => ?_) (fun h2 => ?_)
  · refine w_iconst dX5_shards_14 ?_
    refine w_istore dX5_shards_15 (by decide) rfl ?_
    refine w_aload_n dX5_shards_17 rfl ?_
    refine w_iload_n dX5_shards_18 rfl ?_
    refine w_cV1 kX5_isRoof ml_X5_93 ob_167 rfl (Nat.le_of_ble_eq_true rfl) (by decide) dX5_shards_19 (c_X5_isRoof (by omega) n1 n2) (kI (fun e19 m19 q19 => ?_))
    obtain ⟨q19, rfl⟩ := q19
    refine w_if_eq (tgt := 54) (by omega) dX5_shards_22 (by decide) (fun h22 => ?_) (fun h22 => ?_)
    · refine w_aload_n dX5_shards_54 rfl ?_
      refine w_bipush dX5_shards_55 (by decide) ?_
      refine w_cV1 kX5_bad ml_X5_73 ob_167 rfl (Nat.le_of_ble_eq_true rfl) (by decide) dX5_shards_57 (c_X5_bad) (kI (fun e57 m57 q57 => ?_))
      obtain ⟨rfl, rfl⟩ := q57
      exact w_iretP rfl dX5_shards_60 (by first | exact Or.inl (⟨by omega, rfl, rfl⟩) | exact Or.inr (⟨by omega, rfl, rfl⟩) | (exfalso; omega))
    · refine w_iload dX5_shards_25 rfl ?_
      refine w_if_ne (tgt := 61) (by omega) dX5_shards_27 (by decide) (fun h27 => ?_) (fun h27 => ?_)
      · exfalso; omega
      · refine w_iload_n dX5_shards_30 rfl ?_
        refine w_i2l (by omega) dX5_shards_31 ?_
        refine w_lconst 0 dX5_shards_32 (by decide) ?_
        refine w_ldc2 (18) cl_X5_162 dX5_shards_33 (by decide) ?_
        refine w_cS3 kX5_in ml_X5_58 (Nat.le_of_ble_eq_true rfl) (by decide) dX5_shards_36 (c_X5_in (by omega) (by omega) (by omega)) (kI (fun e36 m36 q36 => ?_))
        obtain ⟨q36, rfl⟩ := q36
        refine w_if_eq (tgt := 54) (by omega) dX5_shards_39 (by decide) (fun h39 => ?_) (fun h39 => ?_)
        · refine w_aload_n dX5_shards_54 rfl ?_
          refine w_bipush dX5_shards_55 (by decide) ?_
          refine w_cV1 kX5_bad ml_X5_73 ob_167 rfl (Nat.le_of_ble_eq_true rfl) (by decide) dX5_shards_57 (c_X5_bad) (kI (fun e57 m57 q57 => ?_))
          obtain ⟨rfl, rfl⟩ := q57
          exact w_iretP rfl dX5_shards_60 (by first | exact Or.inl (⟨by omega, rfl, rfl⟩) | exact Or.inr (⟨by omega, rfl, rfl⟩) | (exfalso; omega))
        · refine w_iload_n dX5_shards_42 rfl ?_
          refine w_i2l (by omega) dX5_shards_43 ?_
          refine w_lconst 0 dX5_shards_44 (by decide) ?_
          refine w_ldc2 (18) cl_X5_162 dX5_shards_45 (by decide) ?_
          refine w_cS3 kX5_in ml_X5_58 (Nat.le_of_ble_eq_true rfl) (by decide) dX5_shards_48 (c_X5_in (by omega) (by omega) (by omega)) (kI (fun e48 m48 q48 => ?_))
          obtain ⟨q48, rfl⟩ := q48
          refine w_if_ne (tgt := 61) (by omega) dX5_shards_51 (by decide) (fun h51 => ?_) (fun h51 => ?_)
          · refine w_aload_n dX5_shards_61 rfl ?_
            refine gf_X5_7 rfl dX5_shards_62 ?_
            refine w_iconst dX5_shards_65 ?_
            refine w_bipush dX5_shards_66 (by decide) ?_
            refine w_iload_n dX5_shards_68 rfl ?_
            refine w_imul dX5_shards_69 ?_
            refine w_iadd dX5_shards_70 ?_
            refine w_bipush dX5_shards_71 (by decide) ?_
            refine w_iadd dX5_shards_73 ?_
            refine w_iload_n dX5_shards_74 rfl ?_
            refine w_iast ar_168 (by omega) dX5_shards_75 ?_
            refine w_aload_n dX5_shards_76 rfl ?_
            refine gf_X5_7 rfl dX5_shards_77 ?_
            refine w_iconst dX5_shards_80 ?_
            refine w_bipush dX5_shards_81 (by decide) ?_
            refine w_iload_n dX5_shards_83 rfl ?_
            refine w_imul dX5_shards_84 ?_
            refine w_iadd dX5_shards_85 ?_
            refine w_bipush dX5_shards_86 (by decide) ?_
            refine w_iadd dX5_shards_88 ?_
            refine w_iconst dX5_shards_89 ?_
            refine w_iadd dX5_shards_90 ?_
            refine w_iload_n dX5_shards_91 rfl ?_
            refine w_iast ar_168 (by omega) dX5_shards_92 ?_
            refine w_iconst dX5_shards_93 ?_
            exact w_iretP rfl dX5_shards_94 (by first | exact Or.inl (⟨by omega, rfl, rfl⟩) | exact Or.inr (⟨by omega, rfl, rfl⟩) | (exfalso; omega))
          · refine w_aload_n dX5_shards_54 rfl ?_
            refine w_bipush dX5_shards_55 (by decide) ?_
            refine w_cV1 kX5_bad ml_X5_73 ob_167 rfl (Nat.le_of_ble_eq_true rfl) (by decide) dX5_shards_57 (c_X5_bad) (kI (fun e57 m57 q57 => ?_))
            obtain ⟨rfl, rfl⟩ := q57
            exact w_iretP rfl dX5_shards_60 (by first | exact Or.inl (⟨by omega, rfl, rfl⟩) | exact Or.inr (⟨by omega, rfl, rfl⟩) | (exfalso; omega))
  · refine w_iload_n dX5_shards_5 rfl ?_
    refine w_iconst dX5_shards_6 ?_
    refine w_icmp_ne (tgt := 14) (by omega) (by omega) dX5_shards_7 (by decide) (fun h7 => ?_) (fun h7 => ?_)
    · refine w_iconst dX5_shards_14 ?_
      refine w_istore dX5_shards_15 (by decide) rfl ?_
      refine w_aload_n dX5_shards_17 rfl ?_
      refine w_iload_n dX5_shards_18 rfl ?_
      refine w_cV1 kX5_isRoof ml_X5_93 ob_167 rfl (Nat.le_of_ble_eq_true rfl) (by decide) dX5_shards_19 (c_X5_isRoof (by omega) n1 n2) (kI (fun e19 m19 q19 => ?_))
      obtain ⟨q19, rfl⟩ := q19
      refine w_if_eq (tgt := 54) (by omega) dX5_shards_22 (by decide) (fun h22 => ?_) (fun h22 => ?_)
      · refine w_aload_n dX5_shards_54 rfl ?_
        refine w_bipush dX5_shards_55 (by decide) ?_
        refine w_cV1 kX5_bad ml_X5_73 ob_167 rfl (Nat.le_of_ble_eq_true rfl) (by decide) dX5_shards_57 (c_X5_bad) (kI (fun e57 m57 q57 => ?_))
        obtain ⟨rfl, rfl⟩ := q57
        exact w_iretP rfl dX5_shards_60 (by first | exact Or.inl (⟨by omega, rfl, rfl⟩) | exact Or.inr (⟨by omega, rfl, rfl⟩) | (exfalso; omega))
      · refine w_iload dX5_shards_25 rfl ?_
        refine w_if_ne (tgt := 61) (by omega) dX5_shards_27 (by decide) (fun h27 => ?_) (fun h27 => ?_)
        · exfalso; omega
        · refine w_iload_n dX5_shards_30 rfl ?_
          refine w_i2l (by omega) dX5_shards_31 ?_
          refine w_lconst 0 dX5_shards_32 (by decide) ?_
          refine w_ldc2 (18) cl_X5_162 dX5_shards_33 (by decide) ?_
          refine w_cS3 kX5_in ml_X5_58 (Nat.le_of_ble_eq_true rfl) (by decide) dX5_shards_36 (c_X5_in (by omega) (by omega) (by omega)) (kI (fun e36 m36 q36 => ?_))
          obtain ⟨q36, rfl⟩ := q36
          refine w_if_eq (tgt := 54) (by omega) dX5_shards_39 (by decide) (fun h39 => ?_) (fun h39 => ?_)
          · refine w_aload_n dX5_shards_54 rfl ?_
            refine w_bipush dX5_shards_55 (by decide) ?_
            refine w_cV1 kX5_bad ml_X5_73 ob_167 rfl (Nat.le_of_ble_eq_true rfl) (by decide) dX5_shards_57 (c_X5_bad) (kI (fun e57 m57 q57 => ?_))
            obtain ⟨rfl, rfl⟩ := q57
            exact w_iretP rfl dX5_shards_60 (by first | exact Or.inl (⟨by omega, rfl, rfl⟩) | exact Or.inr (⟨by omega, rfl, rfl⟩) | (exfalso; omega))
          · refine w_iload_n dX5_shards_42 rfl ?_
            refine w_i2l (by omega) dX5_shards_43 ?_
            refine w_lconst 0 dX5_shards_44 (by decide) ?_
            refine w_ldc2 (18) cl_X5_162 dX5_shards_45 (by decide) ?_
            refine w_cS3 kX5_in ml_X5_58 (Nat.le_of_ble_eq_true rfl) (by decide) dX5_shards_48 (c_X5_in (by omega) (by omega) (by omega)) (kI (fun e48 m48 q48 => ?_))
            obtain ⟨q48, rfl⟩ := q48
            refine w_if_ne (tgt := 61) (by omega) dX5_shards_51 (by decide) (fun h51 => ?_) (fun h51 => ?_)
            · refine w_aload_n dX5_shards_61 rfl ?_
              refine gf_X5_7 rfl dX5_shards_62 ?_
              refine w_iconst dX5_shards_65 ?_
              refine w_bipush dX5_shards_66 (by decide) ?_
              refine w_iload_n dX5_shards_68 rfl ?_
              refine w_imul dX5_shards_69 ?_
              refine w_iadd dX5_shards_70 ?_
              refine w_bipush dX5_shards_71 (by decide) ?_
              refine w_iadd dX5_shards_73 ?_
              refine w_iload_n dX5_shards_74 rfl ?_
              refine w_iast ar_168 (by omega) dX5_shards_75 ?_
              refine w_aload_n dX5_shards_76 rfl ?_
              refine gf_X5_7 rfl dX5_shards_77 ?_
              refine w_iconst dX5_shards_80 ?_
              refine w_bipush dX5_shards_81 (by decide) ?_
              refine w_iload_n dX5_shards_83 rfl ?_
              refine w_imul dX5_shards_84 ?_
              refine w_iadd dX5_shards_85 ?_
              refine w_bipush dX5_shards_86 (by decide) ?_
              refine w_iadd dX5_shards_88 ?_
              refine w_iconst dX5_shards_89 ?_
              refine w_iadd dX5_shards_90 ?_
              refine w_iload_n dX5_shards_91 rfl ?_
              refine w_iast ar_168 (by omega) dX5_shards_92 ?_
              refine w_iconst dX5_shards_93 ?_
              exact w_iretP rfl dX5_shards_94 (by first | exact Or.inl (⟨by omega, rfl, rfl⟩) | exact Or.inr (⟨by omega, rfl, rfl⟩) | (exfalso; omega))
            · refine w_aload_n dX5_shards_54 rfl ?_
              refine w_bipush dX5_shards_55 (by decide) ?_
              refine w_cV1 kX5_bad ml_X5_73 ob_167 rfl (Nat.le_of_ble_eq_true rfl) (by decide) dX5_shards_57 (c_X5_bad) (kI (fun e57 m57 q57 => ?_))
              obtain ⟨rfl, rfl⟩ := q57
              exact w_iretP rfl dX5_shards_60 (by first | exact Or.inl (⟨by omega, rfl, rfl⟩) | exact Or.inr (⟨by omega, rfl, rfl⟩) | (exfalso; omega))
    · refine w_iconst dX5_shards_10 ?_
      refine w_goto (tgt := 15) dX5_shards_11 (by decide) ?_
      refine w_istore dX5_shards_15 (by decide) rfl ?_
      refine w_aload_n dX5_shards_17 rfl ?_
      refine w_iload_n dX5_shards_18 rfl ?_
      refine w_cV1 kX5_isRoof ml_X5_93 ob_167 rfl (Nat.le_of_ble_eq_true rfl) (by decide) dX5_shards_19 (c_X5_isRoof (by omega) n1 n2) (kI (fun e19 m19 q19 => ?_))
      obtain ⟨q19, rfl⟩ := q19
      refine w_if_eq (tgt := 54) (by omega) dX5_shards_22 (by decide) (fun h22 => ?_) (fun h22 => ?_)
      · refine w_aload_n dX5_shards_54 rfl ?_
        refine w_bipush dX5_shards_55 (by decide) ?_
        refine w_cV1 kX5_bad ml_X5_73 ob_167 rfl (Nat.le_of_ble_eq_true rfl) (by decide) dX5_shards_57 (c_X5_bad) (kI (fun e57 m57 q57 => ?_))
        obtain ⟨rfl, rfl⟩ := q57
        exact w_iretP rfl dX5_shards_60 (by first | exact Or.inl (⟨by omega, rfl, rfl⟩) | exact Or.inr (⟨by omega, rfl, rfl⟩) | (exfalso; omega))
      · refine w_iload dX5_shards_25 rfl ?_
        refine w_if_ne (tgt := 61) (by omega) dX5_shards_27 (by decide) (fun h27 => ?_) (fun h27 => ?_)
        · refine w_aload_n dX5_shards_61 rfl ?_
          refine gf_X5_7 rfl dX5_shards_62 ?_
          refine w_iconst dX5_shards_65 ?_
          refine w_bipush dX5_shards_66 (by decide) ?_
          refine w_iload_n dX5_shards_68 rfl ?_
          refine w_imul dX5_shards_69 ?_
          refine w_iadd dX5_shards_70 ?_
          refine w_bipush dX5_shards_71 (by decide) ?_
          refine w_iadd dX5_shards_73 ?_
          refine w_iload_n dX5_shards_74 rfl ?_
          refine w_iast ar_168 (by omega) dX5_shards_75 ?_
          refine w_aload_n dX5_shards_76 rfl ?_
          refine gf_X5_7 rfl dX5_shards_77 ?_
          refine w_iconst dX5_shards_80 ?_
          refine w_bipush dX5_shards_81 (by decide) ?_
          refine w_iload_n dX5_shards_83 rfl ?_
          refine w_imul dX5_shards_84 ?_
          refine w_iadd dX5_shards_85 ?_
          refine w_bipush dX5_shards_86 (by decide) ?_
          refine w_iadd dX5_shards_88 ?_
          refine w_iconst dX5_shards_89 ?_
          refine w_iadd dX5_shards_90 ?_
          refine w_iload_n dX5_shards_91 rfl ?_
          refine w_iast ar_168 (by omega) dX5_shards_92 ?_
          refine w_iconst dX5_shards_93 ?_
          exact w_iretP rfl dX5_shards_94 (by first | exact Or.inl (⟨by omega, rfl, rfl⟩) | exact Or.inr (⟨by omega, rfl, rfl⟩) | (exfalso; omega))
        · exfalso; omega
set_option maxRecDepth 100000 in
set_option maxHeartbeats 4000000 in
theorem c_X5_isTold {g : gG} {l : Launch} {μ : gM} {r : Int} {v : gV} {n m : Int} (hMV : MV μ v n m) (hr : 0 ≤ r ∧ r < n) : CT g l YX5_isTold 0 [vR 167, vI r] μ (pI fun e μ2 => ((e = 1 ∧ v 4 r ≠ -1) ∨ (e = 0 ∧ v 4 r = -1)) ∧ μ = μ2) := by
  have hMG := hMV.1
  obtain ⟨g1, g2, gV, g4, g5⟩ := id hMG
  have hV := gV.1
  obtain ⟨-, n1, n2, n3, n4⟩ := id hMV
  obtain ⟨r1, r2, r3, r4⟩ := n3 r hr.1 hr.2
  have s4 := gV.2.2.2.2.1 r
  refine CT.of (n := 0) (by decide) rfl ?_
  show WA g l YX5_isTold 0 _ 0 [some (vR 167), some (vI r)] [] μ
  refine w_aload_n dX5_isTold_0 rfl ?_
  refine gf_X5_7 rfl dX5_isTold_1 ?_
  refine w_iconst dX5_isTold_4 ?_
  refine w_bipush dX5_isTold_5 (by decide) ?_
  refine w_iload_n dX5_isTold_7 rfl ?_
  refine w_imul dX5_isTold_8 ?_
  refine w_iadd dX5_isTold_9 ?_
  refine w_bipush dX5_isTold_10 (by decide) ?_
  refine w_iadd dX5_isTold_12 ?_
  refine w_iald ar_168 (by omega) dX5_isTold_13 ?_
  refine w_iconst dX5_isTold_14 ?_
  refine w_icmp_eq (tgt := 22) (by omega) (by omega) dX5_isTold_15 (by decide) (fun h15 => ?_) (fun h15 => ?_)
  · refine w_iconst dX5_isTold_22 ?_
    exact w_zretP rfl dX5_isTold_23 (by omega) (by refine ⟨?_, rfl⟩; omega)
  · refine w_iconst dX5_isTold_18 ?_
    refine w_goto (tgt := 23) dX5_isTold_19 (by decide) ?_
    exact w_zretP rfl dX5_isTold_23 (by omega) (by refine ⟨?_, rfl⟩; omega)
set_option maxRecDepth 100000 in
set_option maxHeartbeats 4000000 in
theorem c_X5_breaksSo {g : gG} {l : Launch} {μ : gM} {s : Int} {r : Int} {v : gV} {n m : Int} (hMV : MV μ v n m) (hs : 0 ≤ s ∧ s < m) (hr : 0 ≤ r ∧ r < n) : CT g l YX5_breaksSo 5 [vR 167, vI s, vI r] μ (pI fun e μ2 => ((e = 1 ∧ BT v s r) ∨ (e = 0 ∧ ¬ (BT v s r))) ∧ μ = μ2) := by
  have hMG := hMV.1
  obtain ⟨g1, g2, gV, g4, g5⟩ := id hMG
  have hV := gV.1
  obtain ⟨-, n1, n2, n3, n4⟩ := id hMV
  obtain ⟨r1, r2, r3, r4⟩ := n3 r hr.1 hr.2
  have s4 := gV.2.2.2.2.1 r
  have s5 := gV.2.2.2.2.2 r
  refine CT.of (n := 1) (by decide) rfl ?_
  show WA g l YX5_breaksSo 5 _ 0 [some (vR 167), some (vI s), some (vI r), none] [] μ
  refine w_aload_n dX5_breaksSo_0 rfl ?_
  refine w_iload_n dX5_breaksSo_1 rfl ?_
  refine w_iload_n dX5_breaksSo_2 rfl ?_
  refine w_iconst dX5_breaksSo_3 ?_
  refine w_cV3 kX5_breaksAll ml_X5_118 ob_167 rfl (Nat.le_of_ble_eq_true rfl) (by decide) dX5_breaksSo_4 (c_X5_breaksAll hMV (by omega) (by omega) (by omega)) (kI (fun e4 m4 q4 => ?_))
  obtain ⟨rfl, rfl, b4⟩ := q4
  refine w_aload_n dX5_breaksSo_7 rfl ?_
  refine gf_X5_7 rfl dX5_breaksSo_8 ?_
  refine w_iconst dX5_breaksSo_11 ?_
  refine w_bipush dX5_breaksSo_12 (by decide) ?_
  refine w_iload_n dX5_breaksSo_14 rfl ?_
  refine w_imul dX5_breaksSo_15 ?_
  refine w_iadd dX5_breaksSo_16 ?_
  refine w_bipush dX5_breaksSo_17 (by decide) ?_
  refine w_iadd dX5_breaksSo_19 ?_
  refine w_iald ar_168 (by omega) dX5_breaksSo_20 ?_
  refine w_icmp_ne (tgt := 28) (by omega) (by omega) dX5_breaksSo_21 (by decide) (fun h21 => ?_) (fun h21 => ?_)
  · refine w_iconst dX5_breaksSo_28 ?_
    refine w_istore_n dX5_breaksSo_29 (by decide) rfl ?_
    refine w_iload_n dX5_breaksSo_30 rfl ?_
    refine w_if_eq (tgt := 64) (by omega) dX5_breaksSo_31 (by decide) (fun h31 => ?_) (fun h31 => ?_)
    · refine w_iconst dX5_breaksSo_64 ?_
      exact w_zretP rfl dX5_breaksSo_65 (by omega) (by refine ⟨?_, rfl⟩; unfold BT; omega)
    · exfalso; omega
  · refine w_iconst dX5_breaksSo_24 ?_
    refine w_goto (tgt := 29) dX5_breaksSo_25 (by decide) ?_
    refine w_istore_n dX5_breaksSo_29 (by decide) rfl ?_
    refine w_iload_n dX5_breaksSo_30 rfl ?_
    refine w_if_eq (tgt := 64) (by omega) dX5_breaksSo_31 (by decide) (fun h31 => ?_) (fun h31 => ?_)
    · exfalso; omega
    · refine w_aload_n dX5_breaksSo_34 rfl ?_
      refine w_iload_n dX5_breaksSo_35 rfl ?_
      refine w_iload_n dX5_breaksSo_36 rfl ?_
      refine w_iconst dX5_breaksSo_37 ?_
      refine w_cV3 kX5_breaksAll ml_X5_118 ob_167 rfl (Nat.le_of_ble_eq_true rfl) (by decide) dX5_breaksSo_38 (c_X5_breaksAll hMV (by omega) (by omega) (by omega)) (kI (fun e38 m38 q38 => ?_))
      obtain ⟨rfl, rfl, b38⟩ := q38
      refine w_aload_n dX5_breaksSo_41 rfl ?_
      refine gf_X5_7 rfl dX5_breaksSo_42 ?_
      refine w_iconst dX5_breaksSo_45 ?_
      refine w_bipush dX5_breaksSo_46 (by decide) ?_
      refine w_iload_n dX5_breaksSo_48 rfl ?_
      refine w_imul dX5_breaksSo_49 ?_
      refine w_iadd dX5_breaksSo_50 ?_
      refine w_bipush dX5_breaksSo_51 (by decide) ?_
      refine w_iadd dX5_breaksSo_53 ?_
      refine w_iconst dX5_breaksSo_54 ?_
      refine w_iadd dX5_breaksSo_55 ?_
      refine w_iald ar_168 (by omega) dX5_breaksSo_56 ?_
      refine w_icmp_ne (tgt := 64) (by omega) (by omega) dX5_breaksSo_57 (by decide) (fun h57 => ?_) (fun h57 => ?_)
      · refine w_iconst dX5_breaksSo_64 ?_
        exact w_zretP rfl dX5_breaksSo_65 (by omega) (by refine ⟨?_, rfl⟩; unfold BT; omega)
      · refine w_iconst dX5_breaksSo_60 ?_
        refine w_goto (tgt := 65) dX5_breaksSo_61 (by decide) ?_
        exact w_zretP rfl dX5_breaksSo_65 (by omega) (by refine ⟨?_, rfl⟩; unfold BT; omega)
set_option maxRecDepth 100000 in
set_option maxHeartbeats 4000000 in
theorem c_X5_which {g : gG} {l : Launch} {μ : gM} {w : Int} {v : gV} {n m : Int} (r1 : -2147483648 ≤ w ∧ w < 2147483648) (hNW : NW μ v n m) : CT g l YX5_which 6 [vR 167, vI w] μ (pI fun e μ2 => (¬ (0 ≤ w ∧ w ≤ 1) ∧ e = -2 ∧ μ2 = rb μ) ∨ ((0 ≤ w ∧ w ≤ 1) ∧ e = (if w = 0 then fSt v n m else fHd v n m) ∧ μ2 = tkN μ)) := by
  have hMG := hNW.1
  obtain ⟨g1, g2, gV, g4, g5⟩ := id hMG
  have hV := gV.1
  obtain ⟨-, n1, n2, n3, n4⟩ := id hNW
  have et : tkN μ 168 = μ 168 := tkN_o (by decide) (by decide)
  have hMV := NW_MV hNW
  refine CT.of (n := 5) (by decide) rfl ?_
  show WA g l YX5_which 6 _ 0 [some (vR 167), some (vI w), none, none, none, none, none] [] μ
  refine w_iload_n dX5_which_0 rfl ?_
  refine w_i2l (by omega) dX5_which_1 ?_
  refine w_lconst 0 dX5_which_2 (by decide) ?_
  refine w_lconst 1 dX5_which_3 (by decide) ?_
  refine w_cS3 kX5_in ml_X5_58 (Nat.le_of_ble_eq_true rfl) (by decide) dX5_which_4 (c_X5_in (by omega) (by omega) (by omega)) (kI (fun e4 m4 q4 => ?_))
  obtain ⟨q4, rfl⟩ := q4
  refine w_if_ne (tgt := 17) (by omega) dX5_which_7 (by decide) (fun h7 => ?_) (fun h7 => ?_)
  · refine w_aload_n dX5_which_17 rfl ?_
    refine w_cV0 kX5_takeNow ml_X5_121 ob_167 rfl (Nat.le_of_ble_eq_true rfl) (by decide) dX5_which_18 (c_X5_takeNow (by rw [n1]; exact n2)) (kU (fun m18 q18 => ?_))
    obtain rfl := q18
    refine w_iconst dX5_which_21 ?_
    refine w_istore_n dX5_which_22 (by decide) rfl ?_
    refine w_iconst dX5_which_23 ?_
    refine w_istore_n dX5_which_24 (by decide) rfl ?_
    refine w_iconst dX5_which_25 ?_
    refine w_istore dX5_which_26 (by decide) rfl ?_
    refine w_loop (ι := Int × Int) (fun i => match i with | (a, k) => 0 ≤ k ∧ k ≤ m ∧ a = itI (fun s x => bOr x (@ite _ (fit v n s) (Classical.propDecidable _) (bShl 1 s) 0)) 0 k) (fun i => match i with | (a, k) => (m - k).toNat) (fun i => match i with | (a, k) => [some (vR 167), some (vI w), some (vI a), some (vI 0), some (vI k), none, none]) (fun i => match i with | (a, k) => tkN μ) ?_ (0, 0) ⟨by omega, by omega, rfl⟩
    intro i_ hinv28 ih28
    obtain ⟨a, k⟩ := i_
    try dsimp only at hinv28 ih28 ⊢
    obtain ⟨h1, h2, h3⟩ := hinv28
    refine w_iload dX5_which_28 rfl ?_
    refine w_aload_n dX5_which_30 rfl ?_
    refine w_cV0 kX5_storms ml_X5_62 ob_167 rfl (Nat.le_of_ble_eq_true rfl) (by decide) dX5_which_31 (c_X5_storms) (kI (fun e31 m31 q31 => ?_))
    obtain ⟨rfl, rfl⟩ := q31
    rw [et, g1]
    refine w_icmp_ge (tgt := 112) (by omega) (by omega) dX5_which_34 (by decide) (fun h34 => ?_) (fun h34 => ?_)
    · have ek : m = k := by omega
      subst ek
      have ea : a = fSt v n m := h3
      subst ea
      refine w_iconst dX5_which_112 ?_
      refine w_istore dX5_which_113 (by decide) rfl ?_
      refine w_loop (ι := Int × Int) (fun i => match i with | (c, k) => 0 ≤ k ∧ k ≤ n ∧ c = itI (fun r x => bOr x (@ite _ (hnd v m r) (Classical.propDecidable _) (bShl 1 r) 0)) 0 k) (fun i => match i with | (c, k) => (n - k).toNat) (fun i => match i with | (c, k) => [some (vR 167), some (vI w), some (vI (fSt v n m)), some (vI c), some (vI k), none, none]) (fun i => match i with | (c, k) => tkN μ) ?_ (0, 0) ⟨by omega, by omega, rfl⟩
      intro i_ hinv115 ih115
      obtain ⟨c, k⟩ := i_
      try dsimp only at hinv115 ih115 ⊢
      obtain ⟨h1, h2, h3⟩ := hinv115
      refine w_iload dX5_which_115 rfl ?_
      refine w_aload_n dX5_which_117 rfl ?_
      refine w_cV0 kX5_roofs ml_X5_54 ob_167 rfl (Nat.le_of_ble_eq_true rfl) (by decide) dX5_which_118 (c_X5_roofs) (kI (fun e118 m118 q118 => ?_))
      obtain ⟨rfl, rfl⟩ := q118
      rw [et, n1]
      refine w_icmp_ge (tgt := 199) (by omega) (by omega) dX5_which_121 (by decide) (fun h121 => ?_) (fun h121 => ?_)
      · have ek : n = k := by omega
        subst ek
        have ec : c = fHd v n m := h3
        subst ec
        refine w_iload_n dX5_which_199 rfl ?_
        refine w_if_ne (tgt := 207) (by omega) dX5_which_200 (by decide) (fun h200 => ?_) (fun h200 => ?_)
        · refine w_iload_n dX5_which_207 rfl ?_
          exact w_iretP rfl dX5_which_208 (by first | exact Or.inl ⟨by omega, rfl, rfl⟩ | (refine Or.inr ⟨by omega, ?_, rfl⟩; first | rw [if_pos h200] | rw [if_neg h200]))
        · refine w_iload_n dX5_which_203 rfl ?_
          refine w_goto (tgt := 208) dX5_which_204 (by decide) ?_
          exact w_iretP rfl dX5_which_208 (by first | exact Or.inl ⟨by omega, rfl, rfl⟩ | (refine Or.inr ⟨by omega, ?_, rfl⟩; first | rw [if_pos h200] | rw [if_neg h200]))
      · refine w_iconst dX5_which_124 ?_
        refine w_istore dX5_which_125 (by decide) rfl ?_
        refine w_iconst dX5_which_127 ?_
        refine w_istore dX5_which_128 (by decide) rfl ?_
        refine w_loop (ι := Int × Int) (fun i => match i with | (b, s) => 0 ≤ s ∧ s ≤ m ∧ ((b = 1 ∧ ∃ j, 0 ≤ j ∧ j < s ∧ BT v j k) ∨ (b = 0 ∧ ∀ j, 0 ≤ j → j < s → ¬ BT v j k))) (fun i => match i with | (b, s) => (m - s).toNat) (fun i => match i with | (b, s) => [some (vR 167), some (vI w), some (vI (fSt v n m)), some (vI c), some (vI k), some (vI b), some (vI s)]) (fun i => match i with | (b, s) => tkN μ) ?_ (0, 0) ⟨by omega, by omega, Or.inr ⟨rfl, fun j j1 j2 => by omega⟩⟩
        intro i_ hinv130 ih130
        obtain ⟨b, s⟩ := i_
        try dsimp only at hinv130 ih130 ⊢
        obtain ⟨y1, y2, y3⟩ := hinv130
        have yr : b = 0 ∨ b = 1 := by rcases y3 with ⟨z, -⟩ | ⟨z, -⟩ <;> omega
        refine w_iload dX5_which_130 rfl ?_
        refine w_aload_n dX5_which_132 rfl ?_
        refine w_cV0 kX5_storms ml_X5_62 ob_167 rfl (Nat.le_of_ble_eq_true rfl) (by decide) dX5_which_133 (c_X5_storms) (kI (fun e133 m133 q133 => ?_))
        obtain ⟨rfl, rfl⟩ := q133
        rw [et, g1]
        refine w_icmp_ge (tgt := 168) (by omega) (by omega) dX5_which_136 (by decide) (fun h136 => ?_) (fun h136 => ?_)
        · refine w_iload_n dX5_which_168 rfl ?_
          refine w_aload_n dX5_which_169 rfl ?_
          refine w_iload dX5_which_170 rfl ?_
          refine w_cV1 kX5_isTold ml_X5_164 ob_167 rfl (Nat.le_of_ble_eq_true rfl) (by decide) dX5_which_172 (c_X5_isTold hMV (by omega)) (kI (fun e172 m172 q172 => ?_))
          obtain ⟨q172, rfl⟩ := q172
          refine w_if_eq (tgt := 190) (by omega) dX5_which_175 (by decide) (fun h175 => ?_) (fun h175 => ?_)
          · refine w_iconst dX5_which_190 ?_
            refine w_ior dX5_which_191 ?_
            refine w_istore_n dX5_which_192 (by decide) rfl ?_
            refine w_iinc dX5_which_193 rfl (by decide) rfl ?_
            refine w_goto (tgt := 115) dX5_which_196 (by decide) ?_
            refine w_drop 5 ?_
            refine w_drop 6 ?_
            have e0 : m = s := by omega
            subst e0
            have x2 : ¬ hnd v m k := by rintro ⟨z1, z2⟩; rcases q172 with ⟨x, -⟩ | ⟨-, x⟩; (exfalso; omega); (exact z1 x)
            exact ih115 (bOr c 0, k + 1) ⟨by dsimp only; omega, by dsimp only; omega, by dsimp only; rw [itI_s _ _ h1, ← h3]; (try dsimp only); rw [if_neg x2]⟩ (by dsimp only; omega)
          · refine w_iload dX5_which_178 rfl ?_
            refine w_if_ne (tgt := 190) (by omega) dX5_which_180 (by decide) (fun h180 => ?_) (fun h180 => ?_)
            · refine w_iconst dX5_which_190 ?_
              refine w_ior dX5_which_191 ?_
              refine w_istore_n dX5_which_192 (by decide) rfl ?_
              refine w_iinc dX5_which_193 rfl (by decide) rfl ?_
              refine w_goto (tgt := 115) dX5_which_196 (by decide) ?_
              refine w_drop 5 ?_
              refine w_drop 6 ?_
              have e0 : m = s := by omega
              subst e0
              have x2 : ¬ hnd v m k := by rintro ⟨z1, z2⟩; rcases y3 with ⟨z, z3, z4, z5, z6⟩ | ⟨z, -⟩; (exact z2 z3 z4 z5 z6); (exfalso; omega)
              exact ih115 (bOr c 0, k + 1) ⟨by dsimp only; omega, by dsimp only; omega, by dsimp only; rw [itI_s _ _ h1, ← h3]; (try dsimp only); rw [if_neg x2]⟩ (by dsimp only; omega)
            · refine w_iconst dX5_which_183 ?_
              refine w_iload dX5_which_184 rfl ?_
              refine w_ishl dX5_which_186 ?_
              refine w_goto (tgt := 191) dX5_which_187 (by decide) ?_
              refine w_ior dX5_which_191 ?_
              refine w_istore_n dX5_which_192 (by decide) rfl ?_
              refine w_iinc dX5_which_193 rfl (by decide) rfl ?_
              refine w_goto (tgt := 115) dX5_which_196 (by decide) ?_
              refine w_drop 5 ?_
              refine w_drop 6 ?_
              have e0 : m = s := by omega
              subst e0
              have x2 : hnd v m k := ⟨by rcases q172 with ⟨-, x⟩ | ⟨x, -⟩; (exact x); (exfalso; omega), by rcases y3 with ⟨z, -⟩ | ⟨z, z2⟩; (exfalso; omega); exact z2⟩
              exact ih115 (bOr c (bShl 1 k), k + 1) ⟨by dsimp only; omega, by dsimp only; omega, by dsimp only; rw [itI_s _ _ h1, ← h3]; (try dsimp only); rw [if_pos x2]⟩ (by dsimp only; omega)
        · refine w_iload dX5_which_139 rfl ?_
          refine w_if_ne (tgt := 155) (by omega) dX5_which_141 (by decide) (fun h141 => ?_) (fun h141 => ?_)
          · refine w_iconst dX5_which_155 ?_
            refine w_goto (tgt := 160) dX5_which_156 (by decide) ?_
            refine w_istore dX5_which_160 (by decide) rfl ?_
            refine w_iinc dX5_which_162 rfl (by decide) rfl ?_
            refine w_goto (tgt := 130) dX5_which_165 (by decide) ?_
            refine ih130 (1, s + 1) ⟨by dsimp only; omega, by dsimp only; omega, ?_⟩ (by dsimp only; omega)
            dsimp only
            refine Or.inl ⟨rfl, ?_⟩
            rcases y3 with ⟨z, z3, z4, z5, z6⟩ | ⟨z, -⟩
            · exact ⟨z3, z4, by omega, z6⟩
            · exfalso; omega
          · refine w_aload_n dX5_which_144 rfl ?_
            refine w_iload dX5_which_145 rfl ?_
            refine w_iload dX5_which_147 rfl ?_
            refine w_cV2 kX5_breaksSo ml_X5_167 ob_167 rfl (Nat.le_of_ble_eq_true rfl) (by decide) dX5_which_149 (c_X5_breaksSo hMV (by omega) (by omega)) (kI (fun e149 m149 q149 => ?_))
            obtain ⟨q149, rfl⟩ := q149
            have qr149 : e149 = 0 ∨ e149 = 1 := by rcases q149 with ⟨z, -⟩ | ⟨z, -⟩ <;> omega
            refine w_if_eq (tgt := 159) (by omega) dX5_which_152 (by decide) (fun h152 => ?_) (fun h152 => ?_)
            · refine w_iconst dX5_which_159 ?_
              refine w_istore dX5_which_160 (by decide) rfl ?_
              refine w_iinc dX5_which_162 rfl (by decide) rfl ?_
              refine w_goto (tgt := 130) dX5_which_165 (by decide) ?_
              refine ih130 (0, s + 1) ⟨by dsimp only; omega, by dsimp only; omega, ?_⟩ (by dsimp only; omega)
              dsimp only
              refine Or.inr ⟨rfl, fun j j1 j2 => ?_⟩
              rcases y3 with ⟨z, -⟩ | ⟨z, z2⟩
              · exfalso; omega
              · by_cases ej : j = s
                · rcases q149 with ⟨x, -⟩ | ⟨-, x⟩
                  · exfalso; omega
                  · rw [ej]; exact x
                · exact z2 j j1 (by omega)
            · refine w_iconst dX5_which_155 ?_
              refine w_goto (tgt := 160) dX5_which_156 (by decide) ?_
              refine w_istore dX5_which_160 (by decide) rfl ?_
              refine w_iinc dX5_which_162 rfl (by decide) rfl ?_
              refine w_goto (tgt := 130) dX5_which_165 (by decide) ?_
              refine ih130 (1, s + 1) ⟨by dsimp only; omega, by dsimp only; omega, ?_⟩ (by dsimp only; omega)
              dsimp only
              refine Or.inl ⟨rfl, ?_⟩
              rcases q149 with ⟨-, x⟩ | ⟨x, -⟩
              · exact ⟨s, y1, by omega, x⟩
              · exfalso; omega
    · refine w_iconst dX5_which_37 ?_
      refine w_istore dX5_which_38 (by decide) rfl ?_
      refine w_iconst dX5_which_40 ?_
      refine w_istore dX5_which_41 (by decide) rfl ?_
      refine w_loop (ι := Int × Int) (fun i => match i with | (b, r) => 0 ≤ r ∧ r ≤ n ∧ ((b = 1 ∧ fit v r k) ∨ (b = 0 ∧ ¬ fit v r k))) (fun i => match i with | (b, r) => (n - r).toNat) (fun i => match i with | (b, r) => [some (vR 167), some (vI w), some (vI a), some (vI 0), some (vI k), some (vI b), some (vI r)]) (fun i => match i with | (b, r) => tkN μ) ?_ (1, 0) ⟨by omega, by omega, Or.inl ⟨rfl, fun r z1 z2 => by omega⟩⟩
      intro i_ hinv43 ih43
      obtain ⟨b, r⟩ := i_
      try dsimp only at hinv43 ih43 ⊢
      obtain ⟨y1, y2, y3⟩ := hinv43
      have yr : b = 0 ∨ b = 1 := by rcases y3 with ⟨z, -⟩ | ⟨z, -⟩ <;> omega
      refine w_iload dX5_which_43 rfl ?_
      refine w_aload_n dX5_which_45 rfl ?_
      refine w_cV0 kX5_roofs ml_X5_54 ob_167 rfl (Nat.le_of_ble_eq_true rfl) (by decide) dX5_which_46 (c_X5_roofs) (kI (fun e46 m46 q46 => ?_))
      obtain ⟨rfl, rfl⟩ := q46
      rw [et, n1]
      refine w_icmp_ge (tgt := 90) (by omega) (by omega) dX5_which_49 (by decide) (fun h49 => ?_) (fun h49 => ?_)
      · refine w_iload_n dX5_which_90 rfl ?_
        refine w_iload dX5_which_91 rfl ?_
        refine w_if_eq (tgt := 103) (by omega) dX5_which_93 (by decide) (fun h93 => ?_) (fun h93 => ?_)
        · refine w_iconst dX5_which_103 ?_
          refine w_ior dX5_which_104 ?_
          refine w_istore_n dX5_which_105 (by decide) rfl ?_
          refine w_iinc dX5_which_106 rfl (by decide) rfl ?_
          refine w_goto (tgt := 28) dX5_which_109 (by decide) ?_
          refine w_drop 5 ?_
          refine w_drop 6 ?_
          have e0 : n = r := by omega
          subst e0
          rcases y3 with ⟨x1, x2⟩ | ⟨x1, x2⟩
          · first
            | (exfalso; omega)
            | exact ih28 (bOr a (bShl 1 k), k + 1) ⟨by dsimp only; omega, by dsimp only; omega, by dsimp only; rw [itI_s _ _ h1, ← h3]; (try dsimp only); rw [if_pos x2]⟩ (by dsimp only; omega)
          · first
            | (exfalso; omega)
            | exact ih28 (bOr a 0, k + 1) ⟨by dsimp only; omega, by dsimp only; omega, by dsimp only; rw [itI_s _ _ h1, ← h3]; (try dsimp only); rw [if_neg x2]⟩ (by dsimp only; omega)
        · refine w_iconst dX5_which_96 ?_
          refine w_iload dX5_which_97 rfl ?_
          refine w_ishl dX5_which_99 ?_
          refine w_goto (tgt := 104) dX5_which_100 (by decide) ?_
          refine w_ior dX5_which_104 ?_
          refine w_istore_n dX5_which_105 (by decide) rfl ?_
          refine w_iinc dX5_which_106 rfl (by decide) rfl ?_
          refine w_goto (tgt := 28) dX5_which_109 (by decide) ?_
          refine w_drop 5 ?_
          refine w_drop 6 ?_
          have e0 : n = r := by omega
          subst e0
          rcases y3 with ⟨x1, x2⟩ | ⟨x1, x2⟩
          · first
            | (exfalso; omega)
            | exact ih28 (bOr a (bShl 1 k), k + 1) ⟨by dsimp only; omega, by dsimp only; omega, by dsimp only; rw [itI_s _ _ h1, ← h3]; (try dsimp only); rw [if_pos x2]⟩ (by dsimp only; omega)
          · first
            | (exfalso; omega)
            | exact ih28 (bOr a 0, k + 1) ⟨by dsimp only; omega, by dsimp only; omega, by dsimp only; rw [itI_s _ _ h1, ← h3]; (try dsimp only); rw [if_neg x2]⟩ (by dsimp only; omega)
      · refine w_iload dX5_which_52 rfl ?_
        refine w_if_eq (tgt := 81) (by omega) dX5_which_54 (by decide) (fun h54 => ?_) (fun h54 => ?_)
        · refine w_iconst dX5_which_81 ?_
          refine w_istore dX5_which_82 (by decide) rfl ?_
          refine w_iinc dX5_which_84 rfl (by decide) rfl ?_
          refine w_goto (tgt := 43) dX5_which_87 (by decide) ?_
          exact ih43 (_, _) ⟨by omega, by omega, by rw [fit_s y1]; grind⟩ (by omega)
        · refine w_aload_n dX5_which_57 rfl ?_
          refine w_iload dX5_which_58 rfl ?_
          refine w_cV1 kX5_isTold ml_X5_164 ob_167 rfl (Nat.le_of_ble_eq_true rfl) (by decide) dX5_which_60 (c_X5_isTold hMV (by omega)) (kI (fun e60 m60 q60 => ?_))
          obtain ⟨q60, rfl⟩ := q60
          refine w_if_eq (tgt := 77) (by omega) dX5_which_63 (by decide) (fun h63 => ?_) (fun h63 => ?_)
          · refine w_iconst dX5_which_77 ?_
            refine w_goto (tgt := 82) dX5_which_78 (by decide) ?_
            refine w_istore dX5_which_82 (by decide) rfl ?_
            refine w_iinc dX5_which_84 rfl (by decide) rfl ?_
            refine w_goto (tgt := 43) dX5_which_87 (by decide) ?_
            exact ih43 (_, _) ⟨by omega, by omega, by rw [fit_s y1]; grind⟩ (by omega)
          · refine w_aload_n dX5_which_66 rfl ?_
            refine w_iload dX5_which_67 rfl ?_
            refine w_iload dX5_which_69 rfl ?_
            refine w_cV2 kX5_breaksSo ml_X5_167 ob_167 rfl (Nat.le_of_ble_eq_true rfl) (by decide) dX5_which_71 (c_X5_breaksSo hMV (by omega) (by omega)) (kI (fun e71 m71 q71 => ?_))
            obtain ⟨q71, rfl⟩ := q71
            have qr71 : e71 = 0 ∨ e71 = 1 := by rcases q71 with ⟨z, -⟩ | ⟨z, -⟩ <;> omega
            refine w_if_eq (tgt := 81) (by omega) dX5_which_74 (by decide) (fun h74 => ?_) (fun h74 => ?_)
            · refine w_iconst dX5_which_81 ?_
              refine w_istore dX5_which_82 (by decide) rfl ?_
              refine w_iinc dX5_which_84 rfl (by decide) rfl ?_
              refine w_goto (tgt := 43) dX5_which_87 (by decide) ?_
              exact ih43 (_, _) ⟨by omega, by omega, by rw [fit_s y1]; grind⟩ (by omega)
            · refine w_iconst dX5_which_77 ?_
              refine w_goto (tgt := 82) dX5_which_78 (by decide) ?_
              refine w_istore dX5_which_82 (by decide) rfl ?_
              refine w_iinc dX5_which_84 rfl (by decide) rfl ?_
              refine w_goto (tgt := 43) dX5_which_87 (by decide) ?_
              exact ih43 (_, _) ⟨by omega, by omega, by rw [fit_s y1]; grind⟩ (by omega)
  · refine w_aload_n dX5_which_10 rfl ?_
    refine w_bipush dX5_which_11 (by decide) ?_
    refine w_cV1 kX5_bad ml_X5_73 ob_167 rfl (Nat.le_of_ble_eq_true rfl) (by decide) dX5_which_13 (c_X5_bad) (kI (fun e13 m13 q13 => ?_))
    obtain ⟨rfl, rfl⟩ := q13
    exact w_iretP rfl dX5_which_16 (by first | exact Or.inl ⟨by omega, rfl, rfl⟩ | (refine Or.inr ⟨by omega, ?_, rfl⟩; first | rw [if_pos h200] | rw [if_neg h200]))
