set_option maxRecDepth 100000 in
set_option maxHeartbeats 4000000 in
theorem c_X5_choose {g : gG} {l : Launch} {μ : gM} {n : Int} {k : Int}  (hn : 0 ≤ n ∧ n ≤ 252) (hk : 0 ≤ k ∧ k ≤ 8) : CT g l YX5_choose 0 [vI n, vI k] μ (pL fun e μ2 => e = chI n k ∧ μ = μ2) := by
  refine CT.of (n := 3) (by decide) rfl ?_
  show WA g l YX5_choose 0 _ 0 [some (vI n), some (vI k), none, none, none] [] μ
  refine w_lconst 1 dX5_choose_0 (by decide) ?_
  refine w_lstore_n dX5_choose_1 (by decide) rfl ?_
  refine w_iconst dX5_choose_2 ?_
  refine w_istore dX5_choose_3 (by decide) rfl ?_
  refine w_loop (ι := Int × Int) (fun i => match i with | (w, i) => 0 ≤ i ∧ i ≤ k ∧ w = chI n i) (fun i => match i with | (w, i) => (k - i).toNat) (fun i => match i with | (w, i) => [some (vI n), some (vI k), some (vL w), none, some (vI i)]) (fun i => match i with | (w, i) => μ) ?_ (1, 0) ⟨by omega, by omega, rfl⟩
  intro i_ hinv5 ih5
  obtain ⟨w, i⟩ := i_
  try dsimp only at hinv5 ih5 ⊢
  obtain ⟨h1, h2, h3⟩ := hinv5
  have hb := chI_bd2 hn (k := i) (by omega)
  refine w_iload dX5_choose_5 rfl ?_
  refine w_iload_n dX5_choose_7 rfl ?_
  refine w_icmp_ge (tgt := 31) (by omega) (by omega) dX5_choose_8 (by decide) (fun h8 => ?_) (fun h8 => ?_)
  · refine w_lload_n dX5_choose_31 rfl ?_
    exact w_lretP rfl dX5_choose_32 (by have e0 : i = k := (by omega); subst e0; exact ⟨h3, rfl⟩)
  · have hq := ch_step (n := n) (x := n - i) (i := i + 1) hb (by rcases (by omega : i ≤ n ∨ n < i) with q | q; exact Or.inl (by omega); exact Or.inr (chI_z hn.1 q)) (by omega) (by omega)
    rw [← h3] at hq
    refine w_lload_n dX5_choose_11 rfl ?_
    refine w_iload_n dX5_choose_12 rfl ?_
    refine w_iload dX5_choose_13 rfl ?_
    refine w_isub dX5_choose_15 ?_
    refine w_i2l (by omega) dX5_choose_16 ?_
    refine w_lmul dX5_choose_17 ?_
    refine w_iload dX5_choose_18 rfl ?_
    refine w_iconst dX5_choose_20 ?_
    refine w_iadd dX5_choose_21 ?_
    refine w_i2l (by omega) dX5_choose_22 ?_
    refine w_ldiv (by omega) (by omega) dX5_choose_23 ?_
    refine w_lstore_n dX5_choose_24 (by decide) rfl ?_
    refine w_iinc dX5_choose_25 rfl (by decide) rfl ?_
    refine w_goto (tgt := 5) dX5_choose_28 (by decide) ?_
    exact ih5 (_, _) ⟨by omega, by omega, by rw [chI_s n h1, ← h3]⟩ (by omega)
set_option maxRecDepth 100000 in
set_option maxHeartbeats 4000000 in
theorem c_X5_recount {g : gG} {l : Launch} {μ : gM} {s : Int} {q : Int} {v : gV} {n m : Int} (r1 : -2147483648 ≤ s ∧ s < 2147483648) (r2 : -2147483648 ≤ q ∧ q < 2147483648) (hNW : NW μ v n m) (h9 : ∀ i, 0 ≤ i → i < 4 * n → v 3 i ≤ 9) : CT g l YX5_recount 6 [vR 167, vI s, vI q] μ (pI fun e μ2 => (¬ ((0 ≤ s ∧ s < m) ∧ 1 ≤ q ∧ q ≤ 8 ∧ q ≤ fA v n s 0 + fA v n s 1) ∧ e = -2 ∧ (μ2 = rb μ ∨ μ2 = rb (tkN μ))) ∨ (((0 ≤ s ∧ s < m) ∧ 1 ≤ q ∧ q ≤ 8 ∧ q ≤ fA v n s 0 + fA v n s 1) ∧ fA v n s 0 = fA v n s 1 ∧ e = -3 ∧ μ2 = rn (tkN μ)) ∨ (((0 ≤ s ∧ s < m) ∧ 1 ≤ q ∧ q ≤ 8 ∧ q ≤ fA v n s 0 + fA v n s 1) ∧ fA v n s 0 ≠ fA v n s 1 ∧ e = 1 ∧ μ2 = frm (tkN μ) (rS (max (fA v n s 0) (fA v n s 1)) (min (fA v n s 0) (fA v n s 1)) q) (chI (max (fA v n s 0) (fA v n s 1) + min (fA v n s 0) (fA v n s 1)) q))) := by
  have hMG := hNW.1
  obtain ⟨g1, g2, gV, g4, g5⟩ := id hMG
  have hV := gV.1
  obtain ⟨-, n1, n2, n3, n4⟩ := id hNW
  refine CT.of (n := 7) (by decide) rfl ?_
  show WA g l YX5_recount 6 _ 0 [some (vR 167), some (vI s), some (vI q), none, none, none, none, none, none, none] [] μ
  refine w_aload_n dX5_recount_0 rfl ?_
  refine w_iload_n dX5_recount_1 rfl ?_
  refine w_cV1 kX5_isStorm ml_X5_104 ob_167 rfl (Nat.le_of_ble_eq_true rfl) (by decide) dX5_recount_2 (c_X5_isStorm (by omega) g1 g2) (kI (fun e2 m2 q2 => ?_))
  obtain ⟨q2, rfl⟩ := q2
  refine w_if_eq (tgt := 20) (by omega) dX5_recount_5 (by decide) (fun h5 => ?_) (fun h5 => ?_)
  · refine w_aload_n dX5_recount_20 rfl ?_
    refine w_bipush dX5_recount_21 (by decide) ?_
    refine w_cV1 kX5_bad ml_X5_73 ob_167 rfl (Nat.le_of_ble_eq_true rfl) (by decide) dX5_recount_23 (c_X5_bad) (kI (fun e23 m23 q23 => ?_))
    obtain ⟨rfl, rfl⟩ := q23
    exact w_iretP rfl dX5_recount_26 (by exact Or.inl ⟨by omega, rfl, Or.inl rfl⟩)
  · refine w_iload_n dX5_recount_8 rfl ?_
    refine w_i2l (by omega) dX5_recount_9 ?_
    refine w_lconst 1 dX5_recount_10 (by decide) ?_
    refine w_ldc2 (8) cl_X5_171 dX5_recount_11 (by decide) ?_
    refine w_cS3 kX5_in ml_X5_58 (Nat.le_of_ble_eq_true rfl) (by decide) dX5_recount_14 (c_X5_in (by omega) (by omega) (by omega)) (kI (fun e14 m14 q14 => ?_))
    obtain ⟨q14, rfl⟩ := q14
    refine w_if_ne (tgt := 27) (by omega) dX5_recount_17 (by decide) (fun h17 => ?_) (fun h17 => ?_)
    · refine w_aload_n dX5_recount_27 rfl ?_
      refine w_cV0 kX5_takeNow ml_X5_121 ob_167 rfl (Nat.le_of_ble_eq_true rfl) (by decide) dX5_recount_28 (c_X5_takeNow (by rw [n1]; exact n2)) (kU (fun m28 q28 => ?_))
      obtain rfl := q28
      have hMV := NW_MV hNW
      have hMG := hMV.1
      have hA0 := fA_b9 hV n2 h9 s (w := 0) (by decide)
      have hA1 := fA_b9 hV n2 h9 s (w := 1) (by decide)
      refine w_aload_n dX5_recount_31 rfl ?_
      refine w_iload_n dX5_recount_32 rfl ?_
      refine w_iconst dX5_recount_33 ?_
      refine w_cV2 kX5_brokenBy ml_X5_124 ob_167 rfl (Nat.le_of_ble_eq_true rfl) (by decide) dX5_recount_34 (c_X5_brokenBy hMV (by omega) (by omega)) (kI (fun e34 m34 q34 => ?_))
      obtain ⟨rfl, rfl, b34⟩ := q34
      refine w_istore_n dX5_recount_37 (by decide) rfl ?_
      refine w_aload_n dX5_recount_38 rfl ?_
      refine w_iload_n dX5_recount_39 rfl ?_
      refine w_iconst dX5_recount_40 ?_
      refine w_cV2 kX5_brokenBy ml_X5_124 ob_167 rfl (Nat.le_of_ble_eq_true rfl) (by decide) dX5_recount_41 (c_X5_brokenBy hMV (by omega) (by omega)) (kI (fun e41 m41 q41 => ?_))
      obtain ⟨rfl, rfl, b41⟩ := q41
      refine w_istore dX5_recount_44 (by decide) rfl ?_
      refine w_iload_n dX5_recount_46 rfl ?_
      refine w_iload_n dX5_recount_47 rfl ?_
      refine w_iload dX5_recount_48 rfl ?_
      refine w_iadd dX5_recount_50 ?_
      refine w_icmp_le (tgt := 61) (by omega) (by omega) dX5_recount_51 (by decide) (fun h51 => ?_) (fun h51 => ?_)
      · refine w_iload_n dX5_recount_61 rfl ?_
        refine w_iload dX5_recount_62 rfl ?_
        refine w_icmp_ne (tgt := 74) (by omega) (by omega) dX5_recount_64 (by decide) (fun h64 => ?_) (fun h64 => ?_)
        · refine w_iload_n dX5_recount_74 rfl ?_
          refine w_iload dX5_recount_75 rfl ?_
          refine w_icmp_le (tgt := 84) (by omega) (by omega) dX5_recount_77 (by decide) (fun h77 => ?_) (fun h77 => ?_)
          · refine w_iload dX5_recount_84 rfl ?_
            refine w_istore dX5_recount_86 (by decide) rfl ?_
            refine w_iload_n dX5_recount_88 rfl ?_
            refine w_iload dX5_recount_89 rfl ?_
            refine w_icmp_le (tgt := 99) (by omega) (by omega) dX5_recount_91 (by decide) (fun h91 => ?_) (fun h91 => ?_)
            · refine w_iload_n dX5_recount_99 rfl ?_
              refine w_istore dX5_recount_100 (by decide) rfl ?_
              obtain ⟨M, eM⟩ : ∃ z, z = fA v n s 1 := ⟨_, rfl⟩
              obtain ⟨F, eF⟩ : ∃ z, z = fA v n s 0 := ⟨_, rfl⟩
              rw [← eM, ← eF]
              refine w_lconst 0 dX5_recount_102 (by decide) ?_
              refine w_lstore dX5_recount_103 (by decide) rfl ?_
              refine w_iconst dX5_recount_105 ?_
              refine w_istore dX5_recount_106 (by decide) rfl ?_
              refine w_drop 3 ?_
              refine w_drop 4 ?_
              refine w_loop (ι := Int × Int) (fun i => match i with | (y, k) => 0 ≤ k ∧ k ≤ q + 1 ∧ y = sI (fun k => if 2 * k > q ∧ k ≤ M ∧ q - k ≤ F then chI M k * chI F (q - k) else 0) k) (fun i => match i with | (y, k) => (q + 1 - k).toNat) (fun i => match i with | (y, k) => [some (vR 167), some (vI s), some (vI q), none, none, some (vI M), some (vI F), some (vL y), none, some (vI k)]) (fun i => match i with | (y, k) => tkN μ) ?_ (0, 0) ⟨by omega, by omega, rfl⟩
              intro i_ hinv108 ih108
              obtain ⟨y, k⟩ := i_
              try dsimp only at hinv108 ih108 ⊢
              obtain ⟨a1, a2, a3⟩ := hinv108
              refine w_iload dX5_recount_108 rfl ?_
              refine w_iload_n dX5_recount_110 rfl ?_
              refine w_icmp_gt (tgt := 170) (by omega) (by omega) dX5_recount_111 (by decide) (fun h111 => ?_) (fun h111 => ?_)
              · have e0 : k = q + 1 := by omega
                subst e0
                have ey : y = rS M F q := a3.trans (rS_rT (a := M) (b := F) (m := q) (by omega) (by omega) (by omega))
                subst ey
                have hrb := rS_bd (a := M) (b := F) (m := q) (by omega) (by omega) (by omega)
                have hcb := chI_bd2 (n := M + F) (k := q) (by omega) (by omega)
                have hcp := chI_pos (n := M + F) (k := q) (by omega) (by omega)
                refine w_aload_n dX5_recount_170 rfl ?_
                refine w_lload dX5_recount_171 rfl ?_
                refine w_iload dX5_recount_173 rfl ?_
                refine w_iload dX5_recount_175 rfl ?_
                refine w_iadd dX5_recount_177 ?_
                refine w_iload_n dX5_recount_178 rfl ?_
                refine w_cS2 kX5_choose ml_X5_173 (Nat.le_of_ble_eq_true rfl) (by decide) dX5_recount_179 (c_X5_choose (by omega) (by omega)) (kL (fun e179 m179 q179 => ?_))
                obtain ⟨rfl, rfl⟩ := q179
                refine w_cV2 kX5_tell ml_X5_138 ob_167 rfl (Nat.le_of_ble_eq_true rfl) (by decide) dX5_recount_182 (c_X5_tell (by omega) (by omega)) (kI (fun e182 m182 q182 => ?_))
                obtain ⟨rfl, rfl⟩ := q182
                exact w_iretP rfl dX5_recount_185 (by rw [show max F M = M by omega, show min F M = F by omega]; exact Or.inr (Or.inr ⟨by omega, by omega, rfl, rfl⟩))
              · refine w_lload dX5_recount_114 rfl ?_
                refine w_iconst dX5_recount_116 ?_
                refine w_iload dX5_recount_117 rfl ?_
                refine w_imul dX5_recount_119 ?_
                refine w_iload_n dX5_recount_120 rfl ?_
                refine w_icmp_le (tgt := 160) (by omega) (by omega) dX5_recount_121 (by decide) (fun h121 => ?_) (fun h121 => ?_)
                · refine w_lconst 0 dX5_recount_160 (by decide) ?_
                  refine w_ladd dX5_recount_161 ?_
                  refine w_lstore dX5_recount_162 (by decide) rfl ?_
                  refine w_iinc dX5_recount_164 rfl (by decide) rfl ?_
                  refine w_goto (tgt := 108) dX5_recount_167 (by decide) ?_
                  first
                  | exact ih108 (_, _) ⟨by omega, by omega, by rw [sI_s _ a1, ← a3]; (try dsimp only); rw [if_pos (by omega)]⟩ (by omega)
                  | exact ih108 (_, _) ⟨by omega, by omega, by rw [sI_s _ a1, ← a3]; (try dsimp only); rw [if_neg (by omega)]⟩ (by omega)
                · refine w_iload dX5_recount_124 rfl ?_
                  refine w_iload dX5_recount_126 rfl ?_
                  refine w_icmp_gt (tgt := 160) (by omega) (by omega) dX5_recount_128 (by decide) (fun h128 => ?_) (fun h128 => ?_)
                  · refine w_lconst 0 dX5_recount_160 (by decide) ?_
                    refine w_ladd dX5_recount_161 ?_
                    refine w_lstore dX5_recount_162 (by decide) rfl ?_
                    refine w_iinc dX5_recount_164 rfl (by decide) rfl ?_
                    refine w_goto (tgt := 108) dX5_recount_167 (by decide) ?_
                    first
                    | exact ih108 (_, _) ⟨by omega, by omega, by rw [sI_s _ a1, ← a3]; (try dsimp only); rw [if_pos (by omega)]⟩ (by omega)
                    | exact ih108 (_, _) ⟨by omega, by omega, by rw [sI_s _ a1, ← a3]; (try dsimp only); rw [if_neg (by omega)]⟩ (by omega)
                  · refine w_iload_n dX5_recount_131 rfl ?_
                    refine w_iload dX5_recount_132 rfl ?_
                    refine w_isub dX5_recount_134 ?_
                    refine w_iload dX5_recount_135 rfl ?_
                    refine w_icmp_gt (tgt := 160) (by omega) (by omega) dX5_recount_137 (by decide) (fun h137 => ?_) (fun h137 => ?_)
                    · refine w_lconst 0 dX5_recount_160 (by decide) ?_
                      refine w_ladd dX5_recount_161 ?_
                      refine w_lstore dX5_recount_162 (by decide) rfl ?_
                      refine w_iinc dX5_recount_164 rfl (by decide) rfl ?_
                      refine w_goto (tgt := 108) dX5_recount_167 (by decide) ?_
                      first
                      | exact ih108 (_, _) ⟨by omega, by omega, by rw [sI_s _ a1, ← a3]; (try dsimp only); rw [if_pos (by omega)]⟩ (by omega)
                      | exact ih108 (_, _) ⟨by omega, by omega, by rw [sI_s _ a1, ← a3]; (try dsimp only); rw [if_neg (by omega)]⟩ (by omega)
                    · refine w_iload dX5_recount_140 rfl ?_
                      refine w_iload dX5_recount_142 rfl ?_
                      refine w_cS2 kX5_choose ml_X5_173 (Nat.le_of_ble_eq_true rfl) (by decide) dX5_recount_144 (c_X5_choose (by omega) (by omega)) (kL (fun e144 m144 q144 => ?_))
                      obtain ⟨rfl, rfl⟩ := q144
                      refine w_iload dX5_recount_147 rfl ?_
                      refine w_iload_n dX5_recount_149 rfl ?_
                      refine w_iload dX5_recount_150 rfl ?_
                      refine w_isub dX5_recount_152 ?_
                      refine w_cS2 kX5_choose ml_X5_173 (Nat.le_of_ble_eq_true rfl) (by decide) dX5_recount_153 (c_X5_choose (by omega) (by omega)) (kL (fun e153 m153 q153 => ?_))
                      obtain ⟨rfl, rfl⟩ := q153
                      refine w_lmul dX5_recount_156 ?_
                      refine w_goto (tgt := 161) dX5_recount_157 (by decide) ?_
                      refine w_ladd dX5_recount_161 ?_
                      refine w_lstore dX5_recount_162 (by decide) rfl ?_
                      refine w_iinc dX5_recount_164 rfl (by decide) rfl ?_
                      refine w_goto (tgt := 108) dX5_recount_167 (by decide) ?_
                      first
                      | exact ih108 (_, _) ⟨by omega, by omega, by rw [sI_s _ a1, ← a3]; (try dsimp only); rw [if_pos (by omega)]⟩ (by omega)
                      | exact ih108 (_, _) ⟨by omega, by omega, by rw [sI_s _ a1, ← a3]; (try dsimp only); rw [if_neg (by omega)]⟩ (by omega)
            · exfalso; omega
          · refine w_iload_n dX5_recount_80 rfl ?_
            refine w_goto (tgt := 86) dX5_recount_81 (by decide) ?_
            refine w_istore dX5_recount_86 (by decide) rfl ?_
            refine w_iload_n dX5_recount_88 rfl ?_
            refine w_iload dX5_recount_89 rfl ?_
            refine w_icmp_le (tgt := 99) (by omega) (by omega) dX5_recount_91 (by decide) (fun h91 => ?_) (fun h91 => ?_)
            · exfalso; omega
            · refine w_iload dX5_recount_94 rfl ?_
              refine w_goto (tgt := 100) dX5_recount_96 (by decide) ?_
              refine w_istore dX5_recount_100 (by decide) rfl ?_
              obtain ⟨M, eM⟩ : ∃ z, z = fA v n s 0 := ⟨_, rfl⟩
              obtain ⟨F, eF⟩ : ∃ z, z = fA v n s 1 := ⟨_, rfl⟩
              rw [← eM, ← eF]
              refine w_lconst 0 dX5_recount_102 (by decide) ?_
              refine w_lstore dX5_recount_103 (by decide) rfl ?_
              refine w_iconst dX5_recount_105 ?_
              refine w_istore dX5_recount_106 (by decide) rfl ?_
              refine w_drop 3 ?_
              refine w_drop 4 ?_
              refine w_loop (ι := Int × Int) (fun i => match i with | (y, k) => 0 ≤ k ∧ k ≤ q + 1 ∧ y = sI (fun k => if 2 * k > q ∧ k ≤ M ∧ q - k ≤ F then chI M k * chI F (q - k) else 0) k) (fun i => match i with | (y, k) => (q + 1 - k).toNat) (fun i => match i with | (y, k) => [some (vR 167), some (vI s), some (vI q), none, none, some (vI M), some (vI F), some (vL y), none, some (vI k)]) (fun i => match i with | (y, k) => tkN μ) ?_ (0, 0) ⟨by omega, by omega, rfl⟩
              intro i_ hinv108 ih108
              obtain ⟨y, k⟩ := i_
              try dsimp only at hinv108 ih108 ⊢
              obtain ⟨a1, a2, a3⟩ := hinv108
              refine w_iload dX5_recount_108 rfl ?_
              refine w_iload_n dX5_recount_110 rfl ?_
              refine w_icmp_gt (tgt := 170) (by omega) (by omega) dX5_recount_111 (by decide) (fun h111 => ?_) (fun h111 => ?_)
              · have e0 : k = q + 1 := by omega
                subst e0
                have ey : y = rS M F q := a3.trans (rS_rT (a := M) (b := F) (m := q) (by omega) (by omega) (by omega))
                subst ey
                have hrb := rS_bd (a := M) (b := F) (m := q) (by omega) (by omega) (by omega)
                have hcb := chI_bd2 (n := M + F) (k := q) (by omega) (by omega)
                have hcp := chI_pos (n := M + F) (k := q) (by omega) (by omega)
                refine w_aload_n dX5_recount_170 rfl ?_
                refine w_lload dX5_recount_171 rfl ?_
                refine w_iload dX5_recount_173 rfl ?_
                refine w_iload dX5_recount_175 rfl ?_
                refine w_iadd dX5_recount_177 ?_
                refine w_iload_n dX5_recount_178 rfl ?_
                refine w_cS2 kX5_choose ml_X5_173 (Nat.le_of_ble_eq_true rfl) (by decide) dX5_recount_179 (c_X5_choose (by omega) (by omega)) (kL (fun e179 m179 q179 => ?_))
                obtain ⟨rfl, rfl⟩ := q179
                refine w_cV2 kX5_tell ml_X5_138 ob_167 rfl (Nat.le_of_ble_eq_true rfl) (by decide) dX5_recount_182 (c_X5_tell (by omega) (by omega)) (kI (fun e182 m182 q182 => ?_))
                obtain ⟨rfl, rfl⟩ := q182
                exact w_iretP rfl dX5_recount_185 (by rw [show max M F = M by omega, show min M F = F by omega]; exact Or.inr (Or.inr ⟨by omega, by omega, rfl, rfl⟩))
              · refine w_lload dX5_recount_114 rfl ?_
                refine w_iconst dX5_recount_116 ?_
                refine w_iload dX5_recount_117 rfl ?_
                refine w_imul dX5_recount_119 ?_
                refine w_iload_n dX5_recount_120 rfl ?_
                refine w_icmp_le (tgt := 160) (by omega) (by omega) dX5_recount_121 (by decide) (fun h121 => ?_) (fun h121 => ?_)
                · refine w_lconst 0 dX5_recount_160 (by decide) ?_
                  refine w_ladd dX5_recount_161 ?_
                  refine w_lstore dX5_recount_162 (by decide) rfl ?_
                  refine w_iinc dX5_recount_164 rfl (by decide) rfl ?_
                  refine w_goto (tgt := 108) dX5_recount_167 (by decide) ?_
                  first
                  | exact ih108 (_, _) ⟨by omega, by omega, by rw [sI_s _ a1, ← a3]; (try dsimp only); rw [if_pos (by omega)]⟩ (by omega)
                  | exact ih108 (_, _) ⟨by omega, by omega, by rw [sI_s _ a1, ← a3]; (try dsimp only); rw [if_neg (by omega)]⟩ (by omega)
                · refine w_iload dX5_recount_124 rfl ?_
                  refine w_iload dX5_recount_126 rfl ?_
                  refine w_icmp_gt (tgt := 160) (by omega) (by omega) dX5_recount_128 (by decide) (fun h128 => ?_) (fun h128 => ?_)
                  · refine w_lconst 0 dX5_recount_160 (by decide) ?_
                    refine w_ladd dX5_recount_161 ?_
                    refine w_lstore dX5_recount_162 (by decide) rfl ?_
                    refine w_iinc dX5_recount_164 rfl (by decide) rfl ?_
                    refine w_goto (tgt := 108) dX5_recount_167 (by decide) ?_
                    first
                    | exact ih108 (_, _) ⟨by omega, by omega, by rw [sI_s _ a1, ← a3]; (try dsimp only); rw [if_pos (by omega)]⟩ (by omega)
                    | exact ih108 (_, _) ⟨by omega, by omega, by rw [sI_s _ a1, ← a3]; (try dsimp only); rw [if_neg (by omega)]⟩ (by omega)
                  · refine w_iload_n dX5_recount_131 rfl ?_
                    refine w_iload dX5_recount_132 rfl ?_
                    refine w_isub dX5_recount_134 ?_
                    refine w_iload dX5_recount_135 rfl ?_
                    refine w_icmp_gt (tgt := 160) (by omega) (by omega) dX5_recount_137 (by decide) (fun h137 => ?_) (fun h137 => ?_)
                    · refine w_lconst 0 dX5_recount_160 (by decide) ?_
                      refine w_ladd dX5_recount_161 ?_
                      refine w_lstore dX5_recount_162 (by decide) rfl ?_
                      refine w_iinc dX5_recount_164 rfl (by decide) rfl ?_
                      refine w_goto (tgt := 108) dX5_recount_167 (by decide) ?_
                      first
                      | exact ih108 (_, _) ⟨by omega, by omega, by rw [sI_s _ a1, ← a3]; (try dsimp only); rw [if_pos (by omega)]⟩ (by omega)
                      | exact ih108 (_, _) ⟨by omega, by omega, by rw [sI_s _ a1, ← a3]; (try dsimp only); rw [if_neg (by omega)]⟩ (by omega)
                    · refine w_iload dX5_recount_140 rfl ?_
                      refine w_iload dX5_recount_142 rfl ?_
                      refine w_cS2 kX5_choose ml_X5_173 (Nat.le_of_ble_eq_true rfl) (by decide) dX5_recount_144 (c_X5_choose (by omega) (by omega)) (kL (fun e144 m144 q144 => ?_))
                      obtain ⟨rfl, rfl⟩ := q144
                      refine w_iload dX5_recount_147 rfl ?_
                      refine w_iload_n dX5_recount_149 rfl ?_
                      refine w_iload dX5_recount_150 rfl ?_
                      refine w_isub dX5_recount_152 ?_
                      refine w_cS2 kX5_choose ml_X5_173 (Nat.le_of_ble_eq_true rfl) (by decide) dX5_recount_153 (c_X5_choose (by omega) (by omega)) (kL (fun e153 m153 q153 => ?_))
                      obtain ⟨rfl, rfl⟩ := q153
                      refine w_lmul dX5_recount_156 ?_
                      refine w_goto (tgt := 161) dX5_recount_157 (by decide) ?_
                      refine w_ladd dX5_recount_161 ?_
                      refine w_lstore dX5_recount_162 (by decide) rfl ?_
                      refine w_iinc dX5_recount_164 rfl (by decide) rfl ?_
                      refine w_goto (tgt := 108) dX5_recount_167 (by decide) ?_
                      first
                      | exact ih108 (_, _) ⟨by omega, by omega, by rw [sI_s _ a1, ← a3]; (try dsimp only); rw [if_pos (by omega)]⟩ (by omega)
                      | exact ih108 (_, _) ⟨by omega, by omega, by rw [sI_s _ a1, ← a3]; (try dsimp only); rw [if_neg (by omega)]⟩ (by omega)
        · refine w_aload_n dX5_recount_67 rfl ?_
          refine w_bipush dX5_recount_68 (by decide) ?_
          refine w_cV1 kX5_no ml_X5_90 ob_167 rfl (Nat.le_of_ble_eq_true rfl) (by decide) dX5_recount_70 (c_X5_no) (kI (fun e70 m70 q70 => ?_))
          obtain ⟨rfl, rfl⟩ := q70
          exact w_iretP rfl dX5_recount_73 (by exact Or.inr (Or.inl ⟨by omega, by omega, rfl, rfl⟩))
      · refine w_aload_n dX5_recount_54 rfl ?_
        refine w_bipush dX5_recount_55 (by decide) ?_
        refine w_cV1 kX5_bad ml_X5_73 ob_167 rfl (Nat.le_of_ble_eq_true rfl) (by decide) dX5_recount_57 (c_X5_bad) (kI (fun e57 m57 q57 => ?_))
        obtain ⟨rfl, rfl⟩ := q57
        exact w_iretP rfl dX5_recount_60 (by exact Or.inl ⟨by omega, rfl, Or.inr rfl⟩)
    · refine w_aload_n dX5_recount_20 rfl ?_
      refine w_bipush dX5_recount_21 (by decide) ?_
      refine w_cV1 kX5_bad ml_X5_73 ob_167 rfl (Nat.le_of_ble_eq_true rfl) (by decide) dX5_recount_23 (c_X5_bad) (kI (fun e23 m23 q23 => ?_))
      obtain ⟨rfl, rfl⟩ := q23
      exact w_iretP rfl dX5_recount_26 (by exact Or.inl ⟨by omega, rfl, Or.inl rfl⟩)
set_option maxRecDepth 100000 in
set_option maxHeartbeats 4000000 in
theorem c_X5_goYear {g : gG} {l : Launch} {μ : gM} {s : Int} {v : gV} {n m : Int} (hMV : MV μ v n m) (hs : s = -1 ∨ (0 ≤ s ∧ s < m)) : CT g l YX5_goYear 4 [vR 167, vI s] μ (pI fun e μ2 => e = fY v n s ∧ (∀ a, a ≠ 172 → a ≠ 173 → μ2 a = μ a) ∧ MV μ2 (yv v n s) n m) := by
  have hMG := hMV.1
  obtain ⟨g1, g2, gV, g4, g5⟩ := id hMG
  have hV := gV.1
  obtain ⟨-, n1, n2, n3, n4⟩ := id hMV
  refine CT.of (n := 3) (by decide) rfl ?_
  show WA g l YX5_goYear 4 _ 0 [some (vR 167), some (vI s), none, none, none] [] μ
  refine w_iconst dX5_goYear_0 ?_
  refine w_istore_n dX5_goYear_1 (by decide) rfl ?_
  refine w_iconst dX5_goYear_2 ?_
  refine w_istore_n dX5_goYear_3 (by decide) rfl ?_
  refine w_loop (ι := Int × Int × gM) (fun i => match i with | (b, k, m_) => 0 ≤ k ∧ k ≤ 4 * n ∧ b = sI (fbq v s) k ∧ (∀ a, a ≠ 172 → m_ a = μ a) ∧ (∀ i, 0 ≤ i → i < 4 * n → m_ 172 i = if i < k then v 3 i - fbq v s i else v 3 i)) (fun i => match i with | (b, k, m_) => (4 * n - k).toNat) (fun i => match i with | (b, k, m_) => [some (vR 167), some (vI s), some (vI b), some (vI k), none]) (fun i => match i with | (b, k, m_) => m_) ?_ (0, 0, μ) ⟨by omega, by omega, rfl, fun a _ => rfl, fun i i1 i2 => by rw [if_neg (by omega)]; exact n4 i i1 i2⟩
  intro i_ hinv4 ih4
  obtain ⟨b, k, m_⟩ := i_
  try dsimp only at hinv4 ih4 ⊢
  obtain ⟨a1, a2, a3, a4, a5⟩ := hinv4
  have e8 : m_ 168 = μ 168 := a4 168 (by decide)
  have hMH := MV_hv (m := m_) hMV (a4 168 (by decide)) (a4 173 (by decide)) (fun i i1 i2 => by have y := fbq_bd hV s i; have y2 := hV.2.2.1 i; rw [a5 i i1 i2]; split <;> omega)
  refine w_iload_n dX5_goYear_4 rfl ?_
  refine w_iconst dX5_goYear_5 ?_
  refine w_aload_n dX5_goYear_6 rfl ?_
  refine w_cV0 kX5_roofs ml_X5_54 ob_167 rfl (Nat.le_of_ble_eq_true rfl) (by decide) dX5_goYear_7 (c_X5_roofs) (kI (fun e7 m7 q7 => ?_))
  obtain ⟨rfl, rfl⟩ := q7
  rw [e8, n1]
  refine w_imul dX5_goYear_10 ?_
  refine w_icmp_ge (tgt := 63) (by omega) (by omega) dX5_goYear_11 (by decide) (fun h11 => ?_) (fun h11 => ?_)
  · have ek : k = 4 * n := by omega
    subst ek
    rw [fY_q (by omega)] at a3
    subst a3
    refine w_iconst dX5_goYear_63 ?_
    refine w_istore_n dX5_goYear_64 (by decide) rfl ?_
    refine w_loop (ι := Int × gM) (fun i => match i with | (k2, m2) => 0 ≤ k2 ∧ k2 ≤ n ∧ (∀ a, a ≠ 173 → m2 a = m_ a) ∧ (∀ i, 0 ≤ i → i < n → m2 173 i = if i < k2 then min (v 2 i + 1) 9 else v 2 i)) (fun i => match i with | (k2, m2) => (n - k2).toNat) (fun i => match i with | (k2, m2) => [some (vR 167), some (vI s), some (vI (fY v n s)), some (vI k2), none]) (fun i => match i with | (k2, m2) => m2) ?_ (0, m_) ⟨by omega, by omega, fun a _ => rfl, fun i i1 i2 => by rw [if_neg (by omega), a4 173 (by decide)]; exact (n3 i i1 i2).2.1⟩
    intro i_ hinv65 ih65
    obtain ⟨k2, m2⟩ := i_
    try dsimp only at hinv65 ih65 ⊢
    obtain ⟨b1, b2, b3, b4⟩ := hinv65
    have e9 : m2 168 = μ 168 := by rw [b3 168 (by decide)]; exact e8
    refine w_iload_n dX5_goYear_65 rfl ?_
    refine w_aload_n dX5_goYear_66 rfl ?_
    refine w_cV0 kX5_roofs ml_X5_54 ob_167 rfl (Nat.le_of_ble_eq_true rfl) (by decide) dX5_goYear_67 (c_X5_roofs) (kI (fun e67 m67 q67 => ?_))
    obtain ⟨rfl, rfl⟩ := q67
    rw [e9, n1]
    refine w_icmp_ge (tgt := 109) (by omega) (by omega) dX5_goYear_70 (by decide) (fun h70 => ?_) (fun h70 => ?_)
    · refine w_iload_n dX5_goYear_109 rfl ?_
      exact w_iretP rfl dX5_goYear_110 (by have ek2 : n = k2 := (by omega); subst ek2; refine ⟨rfl, fun a z1 z2 => ?_, MV_yv hMV e9 (fun i i1 i2 => ?_) (fun i i1 i2 => ?_)⟩; (rw [b3 a z2, a4 a z1]); (rw [b4 i i1 i2, if_pos i2]); (rw [b3 172 (by decide), a5 i i1 i2, if_pos i2]))
    · refine w_aload_n dX5_goYear_73 rfl ?_
      refine gf_X5_30 rfl dX5_goYear_74 ?_
      refine w_iload_n dX5_goYear_77 rfl ?_
      refine w_aload_n dX5_goYear_78 rfl ?_
      refine gf_X5_30 rfl dX5_goYear_79 ?_
      refine w_iload_n dX5_goYear_82 rfl ?_
      refine w_iald ar_173 (by omega) dX5_goYear_83 ?_
      have hg := b4 k2 (by omega) (by omega)
      rw [if_neg (by omega)] at hg
      have hg2 := hV.2.1 k2
      rw [hg]
      refine w_bipush dX5_goYear_84 (by decide) ?_
      refine w_icmp_ne (tgt := 94) (by omega) (by omega) dX5_goYear_86 (by decide) (fun h86 => ?_) (fun h86 => ?_)
      · refine w_aload_n dX5_goYear_94 rfl ?_
        refine gf_X5_30 rfl dX5_goYear_95 ?_
        refine w_iload_n dX5_goYear_98 rfl ?_
        refine w_iald ar_173 (by omega) dX5_goYear_99 ?_
        rw [hg]
        refine w_iconst dX5_goYear_100 ?_
        refine w_iadd dX5_goYear_101 ?_
        refine w_iast ar_173 (by omega) dX5_goYear_102 ?_
        refine w_iinc dX5_goYear_103 rfl (by decide) rfl ?_
        refine w_goto (tgt := 65) dX5_goYear_106 (by decide) ?_
        refine ih65 (k2 + 1, wr m2 173 k2 (v 2 k2 + 1)) ⟨by dsimp only; omega, by dsimp only; omega, fun a ha => ?_, fun i i1 i2 => ?_⟩ (by dsimp only; omega)
        · dsimp only; rw [wr_o ha]; exact b3 a ha
        · dsimp only
          by_cases ei : i = k2
          · subst ei; rw [wr_s, if_pos (by omega)]; omega
          · rw [wr_n ei, b4 i i1 i2]; (repeat' split) <;> omega
      · refine w_bipush dX5_goYear_89 (by decide) ?_
        refine w_goto (tgt := 102) dX5_goYear_91 (by decide) ?_
        refine w_iast ar_173 (by omega) dX5_goYear_102 ?_
        refine w_iinc dX5_goYear_103 rfl (by decide) rfl ?_
        refine w_goto (tgt := 65) dX5_goYear_106 (by decide) ?_
        refine ih65 (k2 + 1, wr m2 173 k2 (9)) ⟨by dsimp only; omega, by dsimp only; omega, fun a ha => ?_, fun i i1 i2 => ?_⟩ (by dsimp only; omega)
        · dsimp only; rw [wr_o ha]; exact b3 a ha
        · dsimp only
          by_cases ei : i = k2
          · subst ei; rw [wr_s, if_pos (by omega)]; omega
          · rw [wr_n ei, b4 i i1 i2]; (repeat' split) <;> omega
  · have hk3 : m_ 172 k = v 3 k := by rw [a5 k (by omega) (by omega), if_neg (by omega)]
    refine w_iload_n dX5_goYear_14 rfl ?_
    refine w_iconst dX5_goYear_15 ?_
    refine w_icmp_ne (tgt := 23) (by omega) (by omega) dX5_goYear_16 (by decide) (fun h16 => ?_) (fun h16 => ?_)
    · refine w_aload_n dX5_goYear_23 rfl ?_
      refine w_iload_n dX5_goYear_24 rfl ?_
      refine w_iload_n dX5_goYear_25 rfl ?_
      refine w_iconst dX5_goYear_26 ?_
      refine w_idiv (by omega) (by omega) dX5_goYear_27 ?_
      refine w_iload_n dX5_goYear_28 rfl ?_
      refine w_iconst dX5_goYear_29 ?_
      refine w_idiv (by omega) (by omega) dX5_goYear_30 ?_
      refine w_iconst dX5_goYear_31 ?_
      refine w_irem (by omega) (by omega) dX5_goYear_32 ?_
      refine w_iload_n dX5_goYear_33 rfl ?_
      refine w_iconst dX5_goYear_34 ?_
      refine w_irem (by omega) (by omega) dX5_goYear_35 ?_
      refine w_cV4 kX5_breaksOf ml_X5_114 ob_167 rfl (Nat.le_of_ble_eq_true rfl) (by decide) dX5_goYear_36 (c_X5_breaksOf hMH (by omega) (by omega) (by omega) (by omega)) (kI (fun e36 m36 q36 => ?_))
      obtain ⟨rfl, rfl, b36⟩ := q36
      rw [fbq_hv (by omega) (by omega) hk3] at b36 ⊢
      refine w_istore dX5_goYear_39 (by decide) rfl ?_
      refine w_aload_n dX5_goYear_41 rfl ?_
      refine gf_X5_27 rfl dX5_goYear_42 ?_
      refine w_iload_n dX5_goYear_45 rfl ?_
      refine w_dup2 dX5_goYear_46 ?_
      refine w_iald ar_172 (by omega) dX5_goYear_47 ?_
      refine w_iload dX5_goYear_48 rfl ?_
      refine w_isub dX5_goYear_50 ?_
      refine w_iast ar_172 (by omega) dX5_goYear_51 ?_
      refine w_iload_n dX5_goYear_52 rfl ?_
      refine w_iload dX5_goYear_53 rfl ?_
      refine w_iadd dX5_goYear_55 ?_
      refine w_istore_n dX5_goYear_56 (by decide) rfl ?_
      refine w_iinc dX5_goYear_57 rfl (by decide) rfl ?_
      refine w_goto (tgt := 4) dX5_goYear_60 (by decide) ?_
      refine w_drop 4 ?_
      refine ih4 (b + fbq v s k, k + 1, wr m_ 172 k (m_ 172 k - fbq v s k)) ⟨by dsimp only; omega, by dsimp only; omega, ?_, fun a ha => ?_, fun i i1 i2 => ?_⟩ (by dsimp only; omega)
      · dsimp only; rw [sI_s _ a1, ← a3]
      · dsimp only; rw [wr_o ha]; exact a4 a ha
      · dsimp only
        by_cases ei : i = k
        · subst ei; rw [wr_s, hk3, if_pos (by omega)]
        · rw [wr_n ei, a5 i i1 i2]; (repeat' split) <;> omega
    · have hz : fbq v s k = 0 := by unfold fbq; rw [if_pos h16]
      refine w_iconst dX5_goYear_19 ?_
      refine w_goto (tgt := 39) dX5_goYear_20 (by decide) ?_
      refine w_istore dX5_goYear_39 (by decide) rfl ?_
      refine w_aload_n dX5_goYear_41 rfl ?_
      refine gf_X5_27 rfl dX5_goYear_42 ?_
      refine w_iload_n dX5_goYear_45 rfl ?_
      refine w_dup2 dX5_goYear_46 ?_
      refine w_iald ar_172 (by omega) dX5_goYear_47 ?_
      refine w_iload dX5_goYear_48 rfl ?_
      refine w_isub dX5_goYear_50 ?_
      refine w_iast ar_172 (by omega) dX5_goYear_51 ?_
      refine w_iload_n dX5_goYear_52 rfl ?_
      refine w_iload dX5_goYear_53 rfl ?_
      refine w_iadd dX5_goYear_55 ?_
      refine w_istore_n dX5_goYear_56 (by decide) rfl ?_
      refine w_iinc dX5_goYear_57 rfl (by decide) rfl ?_
      refine w_goto (tgt := 4) dX5_goYear_60 (by decide) ?_
      refine w_drop 4 ?_
      refine ih4 (b + 0, k + 1, wr m_ 172 k (m_ 172 k - 0)) ⟨by dsimp only; omega, by dsimp only; omega, ?_, fun a ha => ?_, fun i i1 i2 => ?_⟩ (by dsimp only; omega)
      · dsimp only; rw [sI_s _ a1, ← a3, hz]
      · dsimp only; rw [wr_o ha]; exact a4 a ha
      · dsimp only
        by_cases ei : i = k
        · subst ei; rw [wr_s, hk3, if_pos (by omega), hz]
        · rw [wr_n ei, a5 i i1 i2]; (repeat' split) <;> omega
set_option maxRecDepth 100000 in
set_option maxHeartbeats 4000000 in
theorem c_X5_keepYear {g : gG} {l : Launch} {μ : gM}   (hu : 0 ≤ μ 168 96 ∧ μ 168 96 ≤ 3) : CT g l YX5_keepYear 0 [vR 167] μ (pV fun μ2 => μ2 = rw_ μ 168 (kKY (μ 168))) := by
  have hfu := kFO_u hu
  refine CT.of (n := 2) (by decide) rfl ?_
  show WA g l YX5_keepYear 0 _ 0 [some (vR 167), none, none] [] μ
  refine w_aload_n dX5_keepYear_0 rfl ?_
  refine gf_X5_7 rfl dX5_keepYear_1 ?_
  refine w_bipush dX5_keepYear_4 (by decide) ?_
  refine w_iald ar_168 (by omega) dX5_keepYear_6 ?_
  refine w_iconst dX5_keepYear_7 ?_
  refine w_icmp_ne (tgt := 53) (by omega) (by omega) dX5_keepYear_8 (by decide) (fun h8 => ?_) (fun h8 => ?_)
  · refine w_mu (show rw_ μ 168 (kFO (μ 168)) = _ by unfold kFO; rw [if_neg h8, rw_i]) ?_
    refine w_bipush dX5_keepYear_53 (by decide) ?_
    refine w_bipush dX5_keepYear_55 (by decide) ?_
    refine w_aload_n dX5_keepYear_57 rfl ?_
    refine gf_X5_7 rfl dX5_keepYear_58 ?_
    refine w_bipush dX5_keepYear_61 (by decide) ?_
    refine w_iald ar_168 (by omega) dX5_keepYear_63 ?_
    rw [rw_s]
    refine w_imul dX5_keepYear_64 ?_
    refine w_iadd dX5_keepYear_65 ?_
    refine w_istore_n dX5_keepYear_66 (by decide) rfl ?_
    refine w_iconst dX5_keepYear_67 ?_
    refine w_istore_n dX5_keepYear_68 (by decide) rfl ?_
    refine w_mu (show rw_ μ 168 (cX (kFO (μ 168)) (kFO (μ 168)) (97 + 95 * kFO (μ 168) 96) 0 0) = _ by rw [cX_0]) ?_
    refine w_loop (ι := Int) (fun k2 => 0 ≤ k2 ∧ k2 ≤ 95) (fun k2 => (95 - k2).toNat) (fun k2 => [some (vR 167), some (vI (97 + 95 * kFO (μ 168) 96)), some (vI k2)]) (fun k2 => rw_ μ 168 (cX (kFO (μ 168)) (kFO (μ 168)) (97 + 95 * kFO (μ 168) 96) 0 k2)) ?_ 0 ⟨by omega, by omega⟩
    intro i_ hinv69 ih69
    obtain ⟨k2, rfl⟩ : ∃ z, z = i_ := ⟨_, rfl⟩
    try dsimp only at hinv69 ih69 ⊢
    obtain ⟨b1, b2⟩ := hinv69
    refine w_iload_n dX5_keepYear_69 rfl ?_
    refine w_bipush dX5_keepYear_70 (by decide) ?_
    refine w_icmp_ge (tgt := 95) (by omega) (by omega) dX5_keepYear_72 (by decide) (fun h72 => ?_) (fun h72 => ?_)
    · have ek2 : k2 = 95 := by omega
      subst ek2
      refine w_aload_n dX5_keepYear_95 rfl ?_
      refine gf_X5_7 rfl dX5_keepYear_96 ?_
      refine w_bipush dX5_keepYear_99 (by decide) ?_
      refine w_dup2 dX5_keepYear_101 ?_
      refine w_iald ar_168 (by omega) dX5_keepYear_102 ?_
      refine w_iconst dX5_keepYear_103 ?_
      refine w_iadd dX5_keepYear_104 ?_
      refine w_iast ar_168 (by omega) dX5_keepYear_105 ?_
      exact w_vretP rfl dX5_keepYear_106 (by rw [wr_rw, rw_s, cX_o (by omega)]; rfl)
    · refine w_aload_n dX5_keepYear_75 rfl ?_
      refine gf_X5_7 rfl dX5_keepYear_76 ?_
      refine w_iload_n dX5_keepYear_79 rfl ?_
      refine w_iload_n dX5_keepYear_80 rfl ?_
      refine w_iadd dX5_keepYear_81 ?_
      refine w_aload_n dX5_keepYear_82 rfl ?_
      refine gf_X5_7 rfl dX5_keepYear_83 ?_
      refine w_iload_n dX5_keepYear_86 rfl ?_
      refine w_iald ar_168 (by omega) dX5_keepYear_87 ?_
      refine w_iast ar_168 (by omega) dX5_keepYear_88 ?_
      refine w_iinc dX5_keepYear_89 rfl (by decide) rfl ?_
      refine w_goto (tgt := 69) dX5_keepYear_92 (by decide) ?_
      refine w_mu ?_ (ih69 (k2 + 1) ⟨by omega, by omega⟩ (by omega))
      rw [wr_rw, rw_s, cX_s b1 rfl (by rw [cX_o (by omega), Int.zero_add])]
  · refine w_iconst dX5_keepYear_11 ?_
    refine w_istore_n dX5_keepYear_12 (by decide) rfl ?_
    refine w_mu (show rw_ μ 168 (cX (μ 168) (μ 168) 97 192 0) = μ by rw [cX_0, rw_i]) ?_
    refine w_loop (ι := Int) (fun k => 0 ≤ k ∧ k ≤ 190) (fun k => (190 - k).toNat) (fun k => [some (vR 167), some (vI k), none]) (fun k => rw_ μ 168 (cX (μ 168) (μ 168) 97 192 k)) ?_ 0 ⟨by omega, by omega⟩
    intro i_ hinv13 ih13
    obtain ⟨k, rfl⟩ : ∃ z, z = i_ := ⟨_, rfl⟩
    try dsimp only at hinv13 ih13 ⊢
    obtain ⟨a1, a2⟩ := hinv13
    refine w_iload_n dX5_keepYear_13 rfl ?_
    refine w_sipush dX5_keepYear_14 (by decide) ?_
    refine w_icmp_ge (tgt := 45) (by omega) (by omega) dX5_keepYear_17 (by decide) (fun h17 => ?_) (fun h17 => ?_)
    · refine w_aload_n dX5_keepYear_45 rfl ?_
      refine gf_X5_7 rfl dX5_keepYear_46 ?_
      refine w_bipush dX5_keepYear_49 (by decide) ?_
      refine w_iconst dX5_keepYear_51 ?_
      refine w_iast ar_168 (by omega) dX5_keepYear_52 ?_
      have ek : k = 190 := by omega
      subst ek
      refine w_mu (show rw_ μ 168 (kFO (μ 168)) = _ by rw [wr_rw]; unfold kFO; rw [if_pos (by omega)]) ?_
      refine w_bipush dX5_keepYear_53 (by decide) ?_
      refine w_bipush dX5_keepYear_55 (by decide) ?_
      refine w_aload_n dX5_keepYear_57 rfl ?_
      refine gf_X5_7 rfl dX5_keepYear_58 ?_
      refine w_bipush dX5_keepYear_61 (by decide) ?_
      refine w_iald ar_168 (by omega) dX5_keepYear_63 ?_
      rw [rw_s]
      refine w_imul dX5_keepYear_64 ?_
      refine w_iadd dX5_keepYear_65 ?_
      refine w_istore_n dX5_keepYear_66 (by decide) rfl ?_
      refine w_iconst dX5_keepYear_67 ?_
      refine w_istore_n dX5_keepYear_68 (by decide) rfl ?_
      refine w_mu (show rw_ μ 168 (cX (kFO (μ 168)) (kFO (μ 168)) (97 + 95 * kFO (μ 168) 96) 0 0) = _ by rw [cX_0]) ?_
      refine w_loop (ι := Int) (fun k2 => 0 ≤ k2 ∧ k2 ≤ 95) (fun k2 => (95 - k2).toNat) (fun k2 => [some (vR 167), some (vI (97 + 95 * kFO (μ 168) 96)), some (vI k2)]) (fun k2 => rw_ μ 168 (cX (kFO (μ 168)) (kFO (μ 168)) (97 + 95 * kFO (μ 168) 96) 0 k2)) ?_ 0 ⟨by omega, by omega⟩
      intro i_ hinv69 ih69
      obtain ⟨k2, rfl⟩ : ∃ z, z = i_ := ⟨_, rfl⟩
      try dsimp only at hinv69 ih69 ⊢
      obtain ⟨b1, b2⟩ := hinv69
      refine w_iload_n dX5_keepYear_69 rfl ?_
      refine w_bipush dX5_keepYear_70 (by decide) ?_
      refine w_icmp_ge (tgt := 95) (by omega) (by omega) dX5_keepYear_72 (by decide) (fun h72 => ?_) (fun h72 => ?_)
      · have ek2 : k2 = 95 := by omega
        subst ek2
        refine w_aload_n dX5_keepYear_95 rfl ?_
        refine gf_X5_7 rfl dX5_keepYear_96 ?_
        refine w_bipush dX5_keepYear_99 (by decide) ?_
        refine w_dup2 dX5_keepYear_101 ?_
        refine w_iald ar_168 (by omega) dX5_keepYear_102 ?_
        refine w_iconst dX5_keepYear_103 ?_
        refine w_iadd dX5_keepYear_104 ?_
        refine w_iast ar_168 (by omega) dX5_keepYear_105 ?_
        exact w_vretP rfl dX5_keepYear_106 (by rw [wr_rw, rw_s, cX_o (by omega)]; rfl)
      · refine w_aload_n dX5_keepYear_75 rfl ?_
        refine gf_X5_7 rfl dX5_keepYear_76 ?_
        refine w_iload_n dX5_keepYear_79 rfl ?_
        refine w_iload_n dX5_keepYear_80 rfl ?_
        refine w_iadd dX5_keepYear_81 ?_
        refine w_aload_n dX5_keepYear_82 rfl ?_
        refine gf_X5_7 rfl dX5_keepYear_83 ?_
        refine w_iload_n dX5_keepYear_86 rfl ?_
        refine w_iald ar_168 (by omega) dX5_keepYear_87 ?_
        refine w_iast ar_168 (by omega) dX5_keepYear_88 ?_
        refine w_iinc dX5_keepYear_89 rfl (by decide) rfl ?_
        refine w_goto (tgt := 69) dX5_keepYear_92 (by decide) ?_
        refine w_mu ?_ (ih69 (k2 + 1) ⟨by omega, by omega⟩ (by omega))
        rw [wr_rw, rw_s, cX_s b1 rfl (by rw [cX_o (by omega), Int.zero_add])]
    · refine w_aload_n dX5_keepYear_20 rfl ?_
      refine gf_X5_7 rfl dX5_keepYear_21 ?_
      refine w_bipush dX5_keepYear_24 (by decide) ?_
      refine w_iload_n dX5_keepYear_26 rfl ?_
      refine w_iadd dX5_keepYear_27 ?_
      refine w_aload_n dX5_keepYear_28 rfl ?_
      refine gf_X5_7 rfl dX5_keepYear_29 ?_
      refine w_sipush dX5_keepYear_32 (by decide) ?_
      refine w_iload_n dX5_keepYear_35 rfl ?_
      refine w_iadd dX5_keepYear_36 ?_
      refine w_iald ar_168 (by omega) dX5_keepYear_37 ?_
      refine w_iast ar_168 (by omega) dX5_keepYear_38 ?_
      refine w_iinc dX5_keepYear_39 rfl (by decide) rfl ?_
      refine w_goto (tgt := 13) dX5_keepYear_42 (by decide) ?_
      refine w_mu ?_ (ih13 (k + 1) ⟨by omega, by omega⟩ (by omega))
      rw [wr_rw, rw_s, cX_s a1 rfl (cX_o (by omega))]
