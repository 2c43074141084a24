set_option maxRecDepth 100000 in
set_option maxHeartbeats 4000000 in
theorem c_iwR {g : gG} {l : Launch} {μ : gM}  {T : Int → Int} {L p : Int} (hT : μ 177 = T) (hL : μ 167 13 = L) (hX : TXo T L) (ht : tkm μ T L p) (hp0 : 0 ≤ p ∧ p ≤ L) : CT g l YX5_isWord 0 [vR 167, vI 114, vI 111, vI 111, vI 102, vI 0, vI 0] μ (pI fun e μ2 => ((e = 1 ∧ isW T L p wRoof) ∨ (e = 0 ∧ ¬ (isW T L p wRoof))) ∧ μ = μ2) := by
  have hX1 := hX.1
  have hA := tA_bd T hp0.2
  have hE := tE_bd T hp0.2
  have hSb := tS_bd T L p
  refine CT.of (n := 3) (by decide) rfl ?_
  show WA g l YX5_isWord 0 _ 0 [some (vR 167), some (vI 114), some (vI 111), some (vI 111), some (vI 102), some (vI 0), some (vI 0), none, none, none] [] μ
  refine w_iload dX5_isWord_0 rfl ?_
  refine w_if_ne (tgt := 9) (by omega) dX5_isWord_2 (by decide) (fun h2 => ?_) (fun h2 => ?_)
  · exfalso; omega
  · refine w_iconst dX5_isWord_5 ?_
    refine w_goto (tgt := 20) dX5_isWord_6 (by decide) ?_
    refine w_istore dX5_isWord_20 (by decide) rfl ?_
    refine w_aload_n dX5_isWord_22 rfl ?_
    refine gf_X5_214 rfl dX5_isWord_23 ?_
    rw [ht.2.2.1]
    refine w_iconst dX5_isWord_26 ?_
    refine w_icmp_ne (tgt := 43) (by omega) (by omega) dX5_isWord_27 (by decide) (fun h27 => ?_) (fun h27 => ?_)
    · refine w_iconst dX5_isWord_43 ?_
      refine w_istore dX5_isWord_44 (by decide) rfl ?_
      refine w_iconst dX5_isWord_46 ?_
      refine w_istore dX5_isWord_47 (by decide) rfl ?_
      refine w_loop (ι := Int × Int) (fun i => match i with | (b, k) => 0 ≤ k ∧ k ≤ 4 ∧ ((b = 1 ∧ tS T L p = 1 ∧ tE T L p - tA T L p = wRoof.length ∧ ∀ j : Nat, (j : Int) < k → T (tA T L p + j) = wRoof.getD j 0) ∨ (b = 0 ∧ ¬ isW T L p wRoof))) (fun i => match i with | (b, k) => (4 - k).toNat) (fun i => match i with | (b, k) => [some (vR 167), some (vI 114), some (vI 111), some (vI 111), some (vI 102), some (vI 0), some (vI 0), some (vI 4), some (vI b), some (vI k)]) (fun i => match i with | (b, k) => μ) ?_ (_, 0) ⟨by decide, by decide, by first | exact Or.inl ⟨rfl, by omega, (by show tE T L p - tA T L p = 4; omega), fun j j1 => by omega⟩ | (refine Or.inr ⟨rfl, fun z => ?_⟩; have z1 := z.1; have z2 : tE T L p - tA T L p = 4 := z.2.1; omega)⟩
      intro i_ hinv49 ih49
      obtain ⟨b, k⟩ := i_
      try dsimp only at hinv49 ih49 ⊢
      obtain ⟨y1_, y2, y3⟩ := hinv49
      have yr : b = 0 ∨ b = 1 := by rcases y3 with ⟨z, -⟩ | ⟨z, -⟩ <;> omega
      refine w_iload dX5_isWord_49 rfl ?_
      refine w_iload dX5_isWord_51 rfl ?_
      refine w_icmp_ge (tgt := 142) (by omega) (by omega) dX5_isWord_53 (by decide) (fun h53 => ?_) (fun h53 => ?_)
      · refine w_iload dX5_isWord_142 rfl ?_
        exact w_zretP rfl dX5_isWord_144 (by omega) (by refine ⟨?_, rfl⟩; rcases y3 with ⟨z, z1, z2, z3⟩ | ⟨z, z1⟩; (first | (exfalso; omega) | exact Or.inl ⟨z, z1, z2, fun j j1 => z3 j (by have : wRoof.length = 4 := rfl; omega)⟩); exact Or.inr ⟨z, z1⟩)
      · refine w_iload dX5_isWord_56 rfl ?_
        refine w_if_eq (tgt := 142) (by omega) dX5_isWord_58 (by decide) (fun h58 => ?_) (fun h58 => ?_)
        · refine w_iload dX5_isWord_142 rfl ?_
          exact w_zretP rfl dX5_isWord_144 (by omega) (by refine ⟨?_, rfl⟩; rcases y3 with ⟨z, z1, z2, z3⟩ | ⟨z, z1⟩; (first | (exfalso; omega) | exact Or.inl ⟨z, z1, z2, fun j j1 => z3 j (by have : wRoof.length = 4 := rfl; omega)⟩); exact Or.inr ⟨z, z1⟩)
        · obtain y1 : tS T L p = 1 ∧ tE T L p - tA T L p = wRoof.length ∧ ∀ j : Nat, (j : Int) < k → T (tA T L p + j) = wRoof.getD j 0 := by
            rcases y3 with ⟨-, z⟩ | ⟨z, -⟩
            · exact z
            · exfalso; omega
          have hlen2 : tE T L p - tA T L p = 4 := y1.2.1
          refine w_aload_n dX5_isWord_61 rfl ?_
          refine gf_X5_42 rfl dX5_isWord_62 ?_
          refine w_aload_n dX5_isWord_65 rfl ?_
          refine gf_X5_208 rfl dX5_isWord_66 ?_
          rw [ht.1]
          refine w_iload dX5_isWord_69 rfl ?_
          refine w_iadd dX5_isWord_71 ?_
          have hb := hX.2 (tA T L p + k) (by omega) (by omega)
          refine w_iald ar_177 (by omega) dX5_isWord_72 ?_
          rw [hT]
          refine w_iload dX5_isWord_73 rfl ?_
          refine w_if_ne (tgt := 82) (by omega) dX5_isWord_75 (by decide) (fun h75 => ?_) (fun h75 => ?_)
          · refine w_iload dX5_isWord_82 rfl ?_
            refine w_iconst dX5_isWord_84 ?_
            refine w_icmp_ne (tgt := 92) (by omega) (by omega) dX5_isWord_85 (by decide) (fun h85 => ?_) (fun h85 => ?_)
            · refine w_iload dX5_isWord_92 rfl ?_
              refine w_iconst dX5_isWord_94 ?_
              refine w_icmp_ne (tgt := 102) (by omega) (by omega) dX5_isWord_95 (by decide) (fun h95 => ?_) (fun h95 => ?_)
              · refine w_iload dX5_isWord_102 rfl ?_
                refine w_iconst dX5_isWord_104 ?_
                refine w_icmp_ne (tgt := 113) (by omega) (by omega) dX5_isWord_105 (by decide) (fun h105 => ?_) (fun h105 => ?_)
                · exfalso; omega
                · refine w_iload dX5_isWord_108 rfl ?_
                  refine w_goto (tgt := 126) dX5_isWord_110 (by decide) ?_
                  refine w_icmp_ne (tgt := 133) (by omega) (by omega) dX5_isWord_126 (by decide) (fun h126 => ?_) (fun h126 => ?_)
                  · refine w_iconst dX5_isWord_133 ?_
                    refine w_istore dX5_isWord_134 (by decide) rfl ?_
                    refine w_iinc dX5_isWord_136 rfl (by decide) rfl ?_
                    refine w_goto (tgt := 49) dX5_isWord_139 (by decide) ?_
                    have ek : k = 3 := by omega
                    subst ek
                    refine ih49 (0, 3 + 1) ⟨by decide, by decide, Or.inr ⟨rfl, fun z => ?_⟩⟩ (by dsimp only; omega)
                    exact h126 (z.2.2 3 (by decide))
                  · refine w_iconst dX5_isWord_129 ?_
                    refine w_goto (tgt := 134) dX5_isWord_130 (by decide) ?_
                    refine w_istore dX5_isWord_134 (by decide) rfl ?_
                    refine w_iinc dX5_isWord_136 rfl (by decide) rfl ?_
                    refine w_goto (tgt := 49) dX5_isWord_139 (by decide) ?_
                    have ek : k = 3 := by omega
                    subst ek
                    refine ih49 (1, 3 + 1) ⟨by decide, by decide, Or.inl ⟨rfl, y1.1, y1.2.1, fun j j1 => ?_⟩⟩ (by dsimp only; omega)
                    dsimp only at j1
                    by_cases ej : j = 3
                    · subst ej; exact h126
                    · exact y1.2.2 j (by omega)
              · refine w_iload_n dX5_isWord_98 rfl ?_
                refine w_goto (tgt := 126) dX5_isWord_99 (by decide) ?_
                refine w_icmp_ne (tgt := 133) (by omega) (by omega) dX5_isWord_126 (by decide) (fun h126 => ?_) (fun h126 => ?_)
                · refine w_iconst dX5_isWord_133 ?_
                  refine w_istore dX5_isWord_134 (by decide) rfl ?_
                  refine w_iinc dX5_isWord_136 rfl (by decide) rfl ?_
                  refine w_goto (tgt := 49) dX5_isWord_139 (by decide) ?_
                  have ek : k = 2 := by omega
                  subst ek
                  refine ih49 (0, 2 + 1) ⟨by decide, by decide, Or.inr ⟨rfl, fun z => ?_⟩⟩ (by dsimp only; omega)
                  exact h126 (z.2.2 2 (by decide))
                · refine w_iconst dX5_isWord_129 ?_
                  refine w_goto (tgt := 134) dX5_isWord_130 (by decide) ?_
                  refine w_istore dX5_isWord_134 (by decide) rfl ?_
                  refine w_iinc dX5_isWord_136 rfl (by decide) rfl ?_
                  refine w_goto (tgt := 49) dX5_isWord_139 (by decide) ?_
                  have ek : k = 2 := by omega
                  subst ek
                  refine ih49 (1, 2 + 1) ⟨by decide, by decide, Or.inl ⟨rfl, y1.1, y1.2.1, fun j j1 => ?_⟩⟩ (by dsimp only; omega)
                  dsimp only at j1
                  by_cases ej : j = 2
                  · subst ej; exact h126
                  · exact y1.2.2 j (by omega)
            · refine w_iload_n dX5_isWord_88 rfl ?_
              refine w_goto (tgt := 126) dX5_isWord_89 (by decide) ?_
              refine w_icmp_ne (tgt := 133) (by omega) (by omega) dX5_isWord_126 (by decide) (fun h126 => ?_) (fun h126 => ?_)
              · refine w_iconst dX5_isWord_133 ?_
                refine w_istore dX5_isWord_134 (by decide) rfl ?_
                refine w_iinc dX5_isWord_136 rfl (by decide) rfl ?_
                refine w_goto (tgt := 49) dX5_isWord_139 (by decide) ?_
                have ek : k = 1 := by omega
                subst ek
                refine ih49 (0, 1 + 1) ⟨by decide, by decide, Or.inr ⟨rfl, fun z => ?_⟩⟩ (by dsimp only; omega)
                exact h126 (z.2.2 1 (by decide))
              · refine w_iconst dX5_isWord_129 ?_
                refine w_goto (tgt := 134) dX5_isWord_130 (by decide) ?_
                refine w_istore dX5_isWord_134 (by decide) rfl ?_
                refine w_iinc dX5_isWord_136 rfl (by decide) rfl ?_
                refine w_goto (tgt := 49) dX5_isWord_139 (by decide) ?_
                have ek : k = 1 := by omega
                subst ek
                refine ih49 (1, 1 + 1) ⟨by decide, by decide, Or.inl ⟨rfl, y1.1, y1.2.1, fun j j1 => ?_⟩⟩ (by dsimp only; omega)
                dsimp only at j1
                by_cases ej : j = 1
                · subst ej; exact h126
                · exact y1.2.2 j (by omega)
          · refine w_iload_n dX5_isWord_78 rfl ?_
            refine w_goto (tgt := 126) dX5_isWord_79 (by decide) ?_
            refine w_icmp_ne (tgt := 133) (by omega) (by omega) dX5_isWord_126 (by decide) (fun h126 => ?_) (fun h126 => ?_)
            · refine w_iconst dX5_isWord_133 ?_
              refine w_istore dX5_isWord_134 (by decide) rfl ?_
              refine w_iinc dX5_isWord_136 rfl (by decide) rfl ?_
              refine w_goto (tgt := 49) dX5_isWord_139 (by decide) ?_
              have ek : k = 0 := by omega
              subst ek
              refine ih49 (0, 0 + 1) ⟨by decide, by decide, Or.inr ⟨rfl, fun z => ?_⟩⟩ (by dsimp only; omega)
              exact h126 (z.2.2 0 (by decide))
            · refine w_iconst dX5_isWord_129 ?_
              refine w_goto (tgt := 134) dX5_isWord_130 (by decide) ?_
              refine w_istore dX5_isWord_134 (by decide) rfl ?_
              refine w_iinc dX5_isWord_136 rfl (by decide) rfl ?_
              refine w_goto (tgt := 49) dX5_isWord_139 (by decide) ?_
              have ek : k = 0 := by omega
              subst ek
              refine ih49 (1, 0 + 1) ⟨by decide, by decide, Or.inl ⟨rfl, y1.1, y1.2.1, fun j j1 => ?_⟩⟩ (by dsimp only; omega)
              dsimp only at j1
              by_cases ej : j = 0
              · subst ej; exact h126
              · exact y1.2.2 j (by omega)
    · refine w_aload_n dX5_isWord_30 rfl ?_
      refine gf_X5_211 rfl dX5_isWord_31 ?_
      have hlen : μ 167 15 = tE T L p - tA T L p := by have := ht.1; have := ht.2.1; omega
      rw [hlen]
      refine w_iload dX5_isWord_34 rfl ?_
      refine w_icmp_ne (tgt := 43) (by omega) (by omega) dX5_isWord_36 (by decide) (fun h36 => ?_) (fun h36 => ?_)
      · refine w_iconst dX5_isWord_43 ?_
        refine w_istore dX5_isWord_44 (by decide) rfl ?_
        refine w_iconst dX5_isWord_46 ?_
        refine w_istore dX5_isWord_47 (by decide) rfl ?_
        refine w_loop (ι := Int × Int) (fun i => match i with | (b, k) => 0 ≤ k ∧ k ≤ 4 ∧ ((b = 1 ∧ tS T L p = 1 ∧ tE T L p - tA T L p = wRoof.length ∧ ∀ j : Nat, (j : Int) < k → T (tA T L p + j) = wRoof.getD j 0) ∨ (b = 0 ∧ ¬ isW T L p wRoof))) (fun i => match i with | (b, k) => (4 - k).toNat) (fun i => match i with | (b, k) => [some (vR 167), some (vI 114), some (vI 111), some (vI 111), some (vI 102), some (vI 0), some (vI 0), some (vI 4), some (vI b), some (vI k)]) (fun i => match i with | (b, k) => μ) ?_ (_, 0) ⟨by decide, by decide, by first | exact Or.inl ⟨rfl, by omega, (by show tE T L p - tA T L p = 4; omega), fun j j1 => by omega⟩ | (refine Or.inr ⟨rfl, fun z => ?_⟩; have z1 := z.1; have z2 : tE T L p - tA T L p = 4 := z.2.1; omega)⟩
        intro i_ hinv49 ih49
        obtain ⟨b, k⟩ := i_
        try dsimp only at hinv49 ih49 ⊢
        obtain ⟨y1_, y2, y3⟩ := hinv49
        have yr : b = 0 ∨ b = 1 := by rcases y3 with ⟨z, -⟩ | ⟨z, -⟩ <;> omega
        refine w_iload dX5_isWord_49 rfl ?_
        refine w_iload dX5_isWord_51 rfl ?_
        refine w_icmp_ge (tgt := 142) (by omega) (by omega) dX5_isWord_53 (by decide) (fun h53 => ?_) (fun h53 => ?_)
        · refine w_iload dX5_isWord_142 rfl ?_
          exact w_zretP rfl dX5_isWord_144 (by omega) (by refine ⟨?_, rfl⟩; rcases y3 with ⟨z, z1, z2, z3⟩ | ⟨z, z1⟩; (first | (exfalso; omega) | exact Or.inl ⟨z, z1, z2, fun j j1 => z3 j (by have : wRoof.length = 4 := rfl; omega)⟩); exact Or.inr ⟨z, z1⟩)
        · refine w_iload dX5_isWord_56 rfl ?_
          refine w_if_eq (tgt := 142) (by omega) dX5_isWord_58 (by decide) (fun h58 => ?_) (fun h58 => ?_)
          · refine w_iload dX5_isWord_142 rfl ?_
            exact w_zretP rfl dX5_isWord_144 (by omega) (by refine ⟨?_, rfl⟩; rcases y3 with ⟨z, z1, z2, z3⟩ | ⟨z, z1⟩; (first | (exfalso; omega) | exact Or.inl ⟨z, z1, z2, fun j j1 => z3 j (by have : wRoof.length = 4 := rfl; omega)⟩); exact Or.inr ⟨z, z1⟩)
          · obtain y1 : tS T L p = 1 ∧ tE T L p - tA T L p = wRoof.length ∧ ∀ j : Nat, (j : Int) < k → T (tA T L p + j) = wRoof.getD j 0 := by
              rcases y3 with ⟨-, z⟩ | ⟨z, -⟩
              · exact z
              · exfalso; omega
            have hlen2 : tE T L p - tA T L p = 4 := y1.2.1
            refine w_aload_n dX5_isWord_61 rfl ?_
            refine gf_X5_42 rfl dX5_isWord_62 ?_
            refine w_aload_n dX5_isWord_65 rfl ?_
            refine gf_X5_208 rfl dX5_isWord_66 ?_
            rw [ht.1]
            refine w_iload dX5_isWord_69 rfl ?_
            refine w_iadd dX5_isWord_71 ?_
            have hb := hX.2 (tA T L p + k) (by omega) (by omega)
            refine w_iald ar_177 (by omega) dX5_isWord_72 ?_
            rw [hT]
            refine w_iload dX5_isWord_73 rfl ?_
            refine w_if_ne (tgt := 82) (by omega) dX5_isWord_75 (by decide) (fun h75 => ?_) (fun h75 => ?_)
            · refine w_iload dX5_isWord_82 rfl ?_
              refine w_iconst dX5_isWord_84 ?_
              refine w_icmp_ne (tgt := 92) (by omega) (by omega) dX5_isWord_85 (by decide) (fun h85 => ?_) (fun h85 => ?_)
              · refine w_iload dX5_isWord_92 rfl ?_
                refine w_iconst dX5_isWord_94 ?_
                refine w_icmp_ne (tgt := 102) (by omega) (by omega) dX5_isWord_95 (by decide) (fun h95 => ?_) (fun h95 => ?_)
                · refine w_iload dX5_isWord_102 rfl ?_
                  refine w_iconst dX5_isWord_104 ?_
                  refine w_icmp_ne (tgt := 113) (by omega) (by omega) dX5_isWord_105 (by decide) (fun h105 => ?_) (fun h105 => ?_)
                  · exfalso; omega
                  · refine w_iload dX5_isWord_108 rfl ?_
                    refine w_goto (tgt := 126) dX5_isWord_110 (by decide) ?_
                    refine w_icmp_ne (tgt := 133) (by omega) (by omega) dX5_isWord_126 (by decide) (fun h126 => ?_) (fun h126 => ?_)
                    · refine w_iconst dX5_isWord_133 ?_
                      refine w_istore dX5_isWord_134 (by decide) rfl ?_
                      refine w_iinc dX5_isWord_136 rfl (by decide) rfl ?_
                      refine w_goto (tgt := 49) dX5_isWord_139 (by decide) ?_
                      have ek : k = 3 := by omega
                      subst ek
                      refine ih49 (0, 3 + 1) ⟨by decide, by decide, Or.inr ⟨rfl, fun z => ?_⟩⟩ (by dsimp only; omega)
                      exact h126 (z.2.2 3 (by decide))
                    · refine w_iconst dX5_isWord_129 ?_
                      refine w_goto (tgt := 134) dX5_isWord_130 (by decide) ?_
                      refine w_istore dX5_isWord_134 (by decide) rfl ?_
                      refine w_iinc dX5_isWord_136 rfl (by decide) rfl ?_
                      refine w_goto (tgt := 49) dX5_isWord_139 (by decide) ?_
                      have ek : k = 3 := by omega
                      subst ek
                      refine ih49 (1, 3 + 1) ⟨by decide, by decide, Or.inl ⟨rfl, y1.1, y1.2.1, fun j j1 => ?_⟩⟩ (by dsimp only; omega)
                      dsimp only at j1
                      by_cases ej : j = 3
                      · subst ej; exact h126
                      · exact y1.2.2 j (by omega)
                · refine w_iload_n dX5_isWord_98 rfl ?_
                  refine w_goto (tgt := 126) dX5_isWord_99 (by decide) ?_
                  refine w_icmp_ne (tgt := 133) (by omega) (by omega) dX5_isWord_126 (by decide) (fun h126 => ?_) (fun h126 => ?_)
                  · refine w_iconst dX5_isWord_133 ?_
                    refine w_istore dX5_isWord_134 (by decide) rfl ?_
                    refine w_iinc dX5_isWord_136 rfl (by decide) rfl ?_
                    refine w_goto (tgt := 49) dX5_isWord_139 (by decide) ?_
                    have ek : k = 2 := by omega
                    subst ek
                    refine ih49 (0, 2 + 1) ⟨by decide, by decide, Or.inr ⟨rfl, fun z => ?_⟩⟩ (by dsimp only; omega)
                    exact h126 (z.2.2 2 (by decide))
                  · refine w_iconst dX5_isWord_129 ?_
                    refine w_goto (tgt := 134) dX5_isWord_130 (by decide) ?_
                    refine w_istore dX5_isWord_134 (by decide) rfl ?_
                    refine w_iinc dX5_isWord_136 rfl (by decide) rfl ?_
                    refine w_goto (tgt := 49) dX5_isWord_139 (by decide) ?_
                    have ek : k = 2 := by omega
                    subst ek
                    refine ih49 (1, 2 + 1) ⟨by decide, by decide, Or.inl ⟨rfl, y1.1, y1.2.1, fun j j1 => ?_⟩⟩ (by dsimp only; omega)
                    dsimp only at j1
                    by_cases ej : j = 2
                    · subst ej; exact h126
                    · exact y1.2.2 j (by omega)
              · refine w_iload_n dX5_isWord_88 rfl ?_
                refine w_goto (tgt := 126) dX5_isWord_89 (by decide) ?_
                refine w_icmp_ne (tgt := 133) (by omega) (by omega) dX5_isWord_126 (by decide) (fun h126 => ?_) (fun h126 => ?_)
                · refine w_iconst dX5_isWord_133 ?_
                  refine w_istore dX5_isWord_134 (by decide) rfl ?_
                  refine w_iinc dX5_isWord_136 rfl (by decide) rfl ?_
                  refine w_goto (tgt := 49) dX5_isWord_139 (by decide) ?_
                  have ek : k = 1 := by omega
                  subst ek
                  refine ih49 (0, 1 + 1) ⟨by decide, by decide, Or.inr ⟨rfl, fun z => ?_⟩⟩ (by dsimp only; omega)
                  exact h126 (z.2.2 1 (by decide))
                · refine w_iconst dX5_isWord_129 ?_
                  refine w_goto (tgt := 134) dX5_isWord_130 (by decide) ?_
                  refine w_istore dX5_isWord_134 (by decide) rfl ?_
                  refine w_iinc dX5_isWord_136 rfl (by decide) rfl ?_
                  refine w_goto (tgt := 49) dX5_isWord_139 (by decide) ?_
                  have ek : k = 1 := by omega
                  subst ek
                  refine ih49 (1, 1 + 1) ⟨by decide, by decide, Or.inl ⟨rfl, y1.1, y1.2.1, fun j j1 => ?_⟩⟩ (by dsimp only; omega)
                  dsimp only at j1
                  by_cases ej : j = 1
                  · subst ej; exact h126
                  · exact y1.2.2 j (by omega)
            · refine w_iload_n dX5_isWord_78 rfl ?_
              refine w_goto (tgt := 126) dX5_isWord_79 (by decide) ?_
              refine w_icmp_ne (tgt := 133) (by omega) (by omega) dX5_isWord_126 (by decide) (fun h126 => ?_) (fun h126 => ?_)
              · refine w_iconst dX5_isWord_133 ?_
                refine w_istore dX5_isWord_134 (by decide) rfl ?_
                refine w_iinc dX5_isWord_136 rfl (by decide) rfl ?_
                refine w_goto (tgt := 49) dX5_isWord_139 (by decide) ?_
                have ek : k = 0 := by omega
                subst ek
                refine ih49 (0, 0 + 1) ⟨by decide, by decide, Or.inr ⟨rfl, fun z => ?_⟩⟩ (by dsimp only; omega)
                exact h126 (z.2.2 0 (by decide))
              · refine w_iconst dX5_isWord_129 ?_
                refine w_goto (tgt := 134) dX5_isWord_130 (by decide) ?_
                refine w_istore dX5_isWord_134 (by decide) rfl ?_
                refine w_iinc dX5_isWord_136 rfl (by decide) rfl ?_
                refine w_goto (tgt := 49) dX5_isWord_139 (by decide) ?_
                have ek : k = 0 := by omega
                subst ek
                refine ih49 (1, 0 + 1) ⟨by decide, by decide, Or.inl ⟨rfl, y1.1, y1.2.1, fun j j1 => ?_⟩⟩ (by dsimp only; omega)
                dsimp only at j1
                by_cases ej : j = 0
                · subst ej; exact h126
                · exact y1.2.2 j (by omega)
      · refine w_iconst dX5_isWord_39 ?_
        refine w_goto (tgt := 44) dX5_isWord_40 (by decide) ?_
        refine w_istore dX5_isWord_44 (by decide) rfl ?_
        refine w_iconst dX5_isWord_46 ?_
        refine w_istore dX5_isWord_47 (by decide) rfl ?_
        refine w_loop (ι := Int × Int) (fun i => match i with | (b, k) => 0 ≤ k ∧ k ≤ 4 ∧ ((b = 1 ∧ tS T L p = 1 ∧ tE T L p - tA T L p = wRoof.length ∧ ∀ j : Nat, (j : Int) < k → T (tA T L p + j) = wRoof.getD j 0) ∨ (b = 0 ∧ ¬ isW T L p wRoof))) (fun i => match i with | (b, k) => (4 - k).toNat) (fun i => match i with | (b, k) => [some (vR 167), some (vI 114), some (vI 111), some (vI 111), some (vI 102), some (vI 0), some (vI 0), some (vI 4), some (vI b), some (vI k)]) (fun i => match i with | (b, k) => μ) ?_ (_, 0) ⟨by decide, by decide, by first | exact Or.inl ⟨rfl, by omega, (by show tE T L p - tA T L p = 4; omega), fun j j1 => by omega⟩ | (refine Or.inr ⟨rfl, fun z => ?_⟩; have z1 := z.1; have z2 : tE T L p - tA T L p = 4 := z.2.1; omega)⟩
        intro i_ hinv49 ih49
        obtain ⟨b, k⟩ := i_
        try dsimp only at hinv49 ih49 ⊢
        obtain ⟨y1_, y2, y3⟩ := hinv49
        have yr : b = 0 ∨ b = 1 := by rcases y3 with ⟨z, -⟩ | ⟨z, -⟩ <;> omega
        refine w_iload dX5_isWord_49 rfl ?_
        refine w_iload dX5_isWord_51 rfl ?_
        refine w_icmp_ge (tgt := 142) (by omega) (by omega) dX5_isWord_53 (by decide) (fun h53 => ?_) (fun h53 => ?_)
        · refine w_iload dX5_isWord_142 rfl ?_
          exact w_zretP rfl dX5_isWord_144 (by omega) (by refine ⟨?_, rfl⟩; rcases y3 with ⟨z, z1, z2, z3⟩ | ⟨z, z1⟩; (first | (exfalso; omega) | exact Or.inl ⟨z, z1, z2, fun j j1 => z3 j (by have : wRoof.length = 4 := rfl; omega)⟩); exact Or.inr ⟨z, z1⟩)
        · refine w_iload dX5_isWord_56 rfl ?_
          refine w_if_eq (tgt := 142) (by omega) dX5_isWord_58 (by decide) (fun h58 => ?_) (fun h58 => ?_)
          · refine w_iload dX5_isWord_142 rfl ?_
            exact w_zretP rfl dX5_isWord_144 (by omega) (by refine ⟨?_, rfl⟩; rcases y3 with ⟨z, z1, z2, z3⟩ | ⟨z, z1⟩; (first | (exfalso; omega) | exact Or.inl ⟨z, z1, z2, fun j j1 => z3 j (by have : wRoof.length = 4 := rfl; omega)⟩); exact Or.inr ⟨z, z1⟩)
          · obtain y1 : tS T L p = 1 ∧ tE T L p - tA T L p = wRoof.length ∧ ∀ j : Nat, (j : Int) < k → T (tA T L p + j) = wRoof.getD j 0 := by
              rcases y3 with ⟨-, z⟩ | ⟨z, -⟩
              · exact z
              · exfalso; omega
            have hlen2 : tE T L p - tA T L p = 4 := y1.2.1
            refine w_aload_n dX5_isWord_61 rfl ?_
            refine gf_X5_42 rfl dX5_isWord_62 ?_
            refine w_aload_n dX5_isWord_65 rfl ?_
            refine gf_X5_208 rfl dX5_isWord_66 ?_
            rw [ht.1]
            refine w_iload dX5_isWord_69 rfl ?_
            refine w_iadd dX5_isWord_71 ?_
            have hb := hX.2 (tA T L p + k) (by omega) (by omega)
            refine w_iald ar_177 (by omega) dX5_isWord_72 ?_
            rw [hT]
            refine w_iload dX5_isWord_73 rfl ?_
            refine w_if_ne (tgt := 82) (by omega) dX5_isWord_75 (by decide) (fun h75 => ?_) (fun h75 => ?_)
            · refine w_iload dX5_isWord_82 rfl ?_
              refine w_iconst dX5_isWord_84 ?_
              refine w_icmp_ne (tgt := 92) (by omega) (by omega) dX5_isWord_85 (by decide) (fun h85 => ?_) (fun h85 => ?_)
              · refine w_iload dX5_isWord_92 rfl ?_
                refine w_iconst dX5_isWord_94 ?_
                refine w_icmp_ne (tgt := 102) (by omega) (by omega) dX5_isWord_95 (by decide) (fun h95 => ?_) (fun h95 => ?_)
                · refine w_iload dX5_isWord_102 rfl ?_
                  refine w_iconst dX5_isWord_104 ?_
                  refine w_icmp_ne (tgt := 113) (by omega) (by omega) dX5_isWord_105 (by decide) (fun h105 => ?_) (fun h105 => ?_)
                  · exfalso; omega
                  · refine w_iload dX5_isWord_108 rfl ?_
                    refine w_goto (tgt := 126) dX5_isWord_110 (by decide) ?_
                    refine w_icmp_ne (tgt := 133) (by omega) (by omega) dX5_isWord_126 (by decide) (fun h126 => ?_) (fun h126 => ?_)
                    · refine w_iconst dX5_isWord_133 ?_
                      refine w_istore dX5_isWord_134 (by decide) rfl ?_
                      refine w_iinc dX5_isWord_136 rfl (by decide) rfl ?_
                      refine w_goto (tgt := 49) dX5_isWord_139 (by decide) ?_
                      have ek : k = 3 := by omega
                      subst ek
                      refine ih49 (0, 3 + 1) ⟨by decide, by decide, Or.inr ⟨rfl, fun z => ?_⟩⟩ (by dsimp only; omega)
                      exact h126 (z.2.2 3 (by decide))
                    · refine w_iconst dX5_isWord_129 ?_
                      refine w_goto (tgt := 134) dX5_isWord_130 (by decide) ?_
                      refine w_istore dX5_isWord_134 (by decide) rfl ?_
                      refine w_iinc dX5_isWord_136 rfl (by decide) rfl ?_
                      refine w_goto (tgt := 49) dX5_isWord_139 (by decide) ?_
                      have ek : k = 3 := by omega
                      subst ek
                      refine ih49 (1, 3 + 1) ⟨by decide, by decide, Or.inl ⟨rfl, y1.1, y1.2.1, fun j j1 => ?_⟩⟩ (by dsimp only; omega)
                      dsimp only at j1
                      by_cases ej : j = 3
                      · subst ej; exact h126
                      · exact y1.2.2 j (by omega)
                · refine w_iload_n dX5_isWord_98 rfl ?_
                  refine w_goto (tgt := 126) dX5_isWord_99 (by decide) ?_
                  refine w_icmp_ne (tgt := 133) (by omega) (by omega) dX5_isWord_126 (by decide) (fun h126 => ?_) (fun h126 => ?_)
                  · refine w_iconst dX5_isWord_133 ?_
                    refine w_istore dX5_isWord_134 (by decide) rfl ?_
                    refine w_iinc dX5_isWord_136 rfl (by decide) rfl ?_
                    refine w_goto (tgt := 49) dX5_isWord_139 (by decide) ?_
                    have ek : k = 2 := by omega
                    subst ek
                    refine ih49 (0, 2 + 1) ⟨by decide, by decide, Or.inr ⟨rfl, fun z => ?_⟩⟩ (by dsimp only; omega)
                    exact h126 (z.2.2 2 (by decide))
                  · refine w_iconst dX5_isWord_129 ?_
                    refine w_goto (tgt := 134) dX5_isWord_130 (by decide) ?_
                    refine w_istore dX5_isWord_134 (by decide) rfl ?_
                    refine w_iinc dX5_isWord_136 rfl (by decide) rfl ?_
                    refine w_goto (tgt := 49) dX5_isWord_139 (by decide) ?_
                    have ek : k = 2 := by omega
                    subst ek
                    refine ih49 (1, 2 + 1) ⟨by decide, by decide, Or.inl ⟨rfl, y1.1, y1.2.1, fun j j1 => ?_⟩⟩ (by dsimp only; omega)
                    dsimp only at j1
                    by_cases ej : j = 2
                    · subst ej; exact h126
                    · exact y1.2.2 j (by omega)
              · refine w_iload_n dX5_isWord_88 rfl ?_
                refine w_goto (tgt := 126) dX5_isWord_89 (by decide) ?_
                refine w_icmp_ne (tgt := 133) (by omega) (by omega) dX5_isWord_126 (by decide) (fun h126 => ?_) (fun h126 => ?_)
                · refine w_iconst dX5_isWord_133 ?_
                  refine w_istore dX5_isWord_134 (by decide) rfl ?_
                  refine w_iinc dX5_isWord_136 rfl (by decide) rfl ?_
                  refine w_goto (tgt := 49) dX5_isWord_139 (by decide) ?_
                  have ek : k = 1 := by omega
                  subst ek
                  refine ih49 (0, 1 + 1) ⟨by decide, by decide, Or.inr ⟨rfl, fun z => ?_⟩⟩ (by dsimp only; omega)
                  exact h126 (z.2.2 1 (by decide))
                · refine w_iconst dX5_isWord_129 ?_
                  refine w_goto (tgt := 134) dX5_isWord_130 (by decide) ?_
                  refine w_istore dX5_isWord_134 (by decide) rfl ?_
                  refine w_iinc dX5_isWord_136 rfl (by decide) rfl ?_
                  refine w_goto (tgt := 49) dX5_isWord_139 (by decide) ?_
                  have ek : k = 1 := by omega
                  subst ek
                  refine ih49 (1, 1 + 1) ⟨by decide, by decide, Or.inl ⟨rfl, y1.1, y1.2.1, fun j j1 => ?_⟩⟩ (by dsimp only; omega)
                  dsimp only at j1
                  by_cases ej : j = 1
                  · subst ej; exact h126
                  · exact y1.2.2 j (by omega)
            · refine w_iload_n dX5_isWord_78 rfl ?_
              refine w_goto (tgt := 126) dX5_isWord_79 (by decide) ?_
              refine w_icmp_ne (tgt := 133) (by omega) (by omega) dX5_isWord_126 (by decide) (fun h126 => ?_) (fun h126 => ?_)
              · refine w_iconst dX5_isWord_133 ?_
                refine w_istore dX5_isWord_134 (by decide) rfl ?_
                refine w_iinc dX5_isWord_136 rfl (by decide) rfl ?_
                refine w_goto (tgt := 49) dX5_isWord_139 (by decide) ?_
                have ek : k = 0 := by omega
                subst ek
                refine ih49 (0, 0 + 1) ⟨by decide, by decide, Or.inr ⟨rfl, fun z => ?_⟩⟩ (by dsimp only; omega)
                exact h126 (z.2.2 0 (by decide))
              · refine w_iconst dX5_isWord_129 ?_
                refine w_goto (tgt := 134) dX5_isWord_130 (by decide) ?_
                refine w_istore dX5_isWord_134 (by decide) rfl ?_
                refine w_iinc dX5_isWord_136 rfl (by decide) rfl ?_
                refine w_goto (tgt := 49) dX5_isWord_139 (by decide) ?_
                have ek : k = 0 := by omega
                subst ek
                refine ih49 (1, 0 + 1) ⟨by decide, by decide, Or.inl ⟨rfl, y1.1, y1.2.1, fun j j1 => ?_⟩⟩ (by dsimp only; omega)
                dsimp only at j1
                by_cases ej : j = 0
                · subst ej; exact h126
                · exact y1.2.2 j (by omega)
set_option maxRecDepth 100000 in
set_option maxHeartbeats 4000000 in
theorem c_iwS {g : gG} {l : Launch} {μ : gM}  {T : Int → Int} {L p : Int} (hT : μ 177 = T) (hL : μ 167 13 = L) (hX : TXo T L) (ht : tkm μ T L p) (hp0 : 0 ≤ p ∧ p ≤ L) : CT g l YX5_isWord 0 [vR 167, vI 115, vI 116, vI 111, vI 114, vI 109, vI 0] μ (pI fun e μ2 => ((e = 1 ∧ isW T L p wStorm) ∨ (e = 0 ∧ ¬ (isW T L p wStorm))) ∧ μ = μ2) := by
  have hX1 := hX.1
  have hA := tA_bd T hp0.2
  have hE := tE_bd T hp0.2
  have hSb := tS_bd T L p
  refine CT.of (n := 3) (by decide) rfl ?_
  show WA g l YX5_isWord 0 _ 0 [some (vR 167), some (vI 115), some (vI 116), some (vI 111), some (vI 114), some (vI 109), some (vI 0), none, none, none] [] μ
  refine w_iload dX5_isWord_0 rfl ?_
  refine w_if_ne (tgt := 9) (by omega) dX5_isWord_2 (by decide) (fun h2 => ?_) (fun h2 => ?_)
  · refine w_iload dX5_isWord_9 rfl ?_
    refine w_if_ne (tgt := 18) (by omega) dX5_isWord_11 (by decide) (fun h11 => ?_) (fun h11 => ?_)
    · exfalso; omega
    · refine w_iconst dX5_isWord_14 ?_
      refine w_goto (tgt := 20) dX5_isWord_15 (by decide) ?_
      refine w_istore dX5_isWord_20 (by decide) rfl ?_
      refine w_aload_n dX5_isWord_22 rfl ?_
      refine gf_X5_214 rfl dX5_isWord_23 ?_
      rw [ht.2.2.1]
      refine w_iconst dX5_isWord_26 ?_
      refine w_icmp_ne (tgt := 43) (by omega) (by omega) dX5_isWord_27 (by decide) (fun h27 => ?_) (fun h27 => ?_)
      · refine w_iconst dX5_isWord_43 ?_
        refine w_istore dX5_isWord_44 (by decide) rfl ?_
        refine w_iconst dX5_isWord_46 ?_
        refine w_istore dX5_isWord_47 (by decide) rfl ?_
        refine w_loop (ι := Int × Int) (fun i => match i with | (b, k) => 0 ≤ k ∧ k ≤ 5 ∧ ((b = 1 ∧ tS T L p = 1 ∧ tE T L p - tA T L p = wStorm.length ∧ ∀ j : Nat, (j : Int) < k → T (tA T L p + j) = wStorm.getD j 0) ∨ (b = 0 ∧ ¬ isW T L p wStorm))) (fun i => match i with | (b, k) => (5 - k).toNat) (fun i => match i with | (b, k) => [some (vR 167), some (vI 115), some (vI 116), some (vI 111), some (vI 114), some (vI 109), some (vI 0), some (vI 5), some (vI b), some (vI k)]) (fun i => match i with | (b, k) => μ) ?_ (_, 0) ⟨by decide, by decide, by first | exact Or.inl ⟨rfl, by omega, (by show tE T L p - tA T L p = 5; omega), fun j j1 => by omega⟩ | (refine Or.inr ⟨rfl, fun z => ?_⟩; have z1 := z.1; have z2 : tE T L p - tA T L p = 5 := z.2.1; omega)⟩
        intro i_ hinv49 ih49
        obtain ⟨b, k⟩ := i_
        try dsimp only at hinv49 ih49 ⊢
        obtain ⟨y1_, y2, y3⟩ := hinv49
        have yr : b = 0 ∨ b = 1 := by rcases y3 with ⟨z, -⟩ | ⟨z, -⟩ <;> omega
        refine w_iload dX5_isWord_49 rfl ?_
        refine w_iload dX5_isWord_51 rfl ?_
        refine w_icmp_ge (tgt := 142) (by omega) (by omega) dX5_isWord_53 (by decide) (fun h53 => ?_) (fun h53 => ?_)
        · refine w_iload dX5_isWord_142 rfl ?_
          exact w_zretP rfl dX5_isWord_144 (by omega) (by refine ⟨?_, rfl⟩; rcases y3 with ⟨z, z1, z2, z3⟩ | ⟨z, z1⟩; (first | (exfalso; omega) | exact Or.inl ⟨z, z1, z2, fun j j1 => z3 j (by have : wStorm.length = 5 := rfl; omega)⟩); exact Or.inr ⟨z, z1⟩)
        · refine w_iload dX5_isWord_56 rfl ?_
          refine w_if_eq (tgt := 142) (by omega) dX5_isWord_58 (by decide) (fun h58 => ?_) (fun h58 => ?_)
          · refine w_iload dX5_isWord_142 rfl ?_
            exact w_zretP rfl dX5_isWord_144 (by omega) (by refine ⟨?_, rfl⟩; rcases y3 with ⟨z, z1, z2, z3⟩ | ⟨z, z1⟩; (first | (exfalso; omega) | exact Or.inl ⟨z, z1, z2, fun j j1 => z3 j (by have : wStorm.length = 5 := rfl; omega)⟩); exact Or.inr ⟨z, z1⟩)
          · obtain y1 : tS T L p = 1 ∧ tE T L p - tA T L p = wStorm.length ∧ ∀ j : Nat, (j : Int) < k → T (tA T L p + j) = wStorm.getD j 0 := by
              rcases y3 with ⟨-, z⟩ | ⟨z, -⟩
              · exact z
              · exfalso; omega
            have hlen2 : tE T L p - tA T L p = 5 := y1.2.1
            refine w_aload_n dX5_isWord_61 rfl ?_
            refine gf_X5_42 rfl dX5_isWord_62 ?_
            refine w_aload_n dX5_isWord_65 rfl ?_
            refine gf_X5_208 rfl dX5_isWord_66 ?_
            rw [ht.1]
            refine w_iload dX5_isWord_69 rfl ?_
            refine w_iadd dX5_isWord_71 ?_
            have hb := hX.2 (tA T L p + k) (by omega) (by omega)
            refine w_iald ar_177 (by omega) dX5_isWord_72 ?_
            rw [hT]
            refine w_iload dX5_isWord_73 rfl ?_
            refine w_if_ne (tgt := 82) (by omega) dX5_isWord_75 (by decide) (fun h75 => ?_) (fun h75 => ?_)
            · refine w_iload dX5_isWord_82 rfl ?_
              refine w_iconst dX5_isWord_84 ?_
              refine w_icmp_ne (tgt := 92) (by omega) (by omega) dX5_isWord_85 (by decide) (fun h85 => ?_) (fun h85 => ?_)
              · refine w_iload dX5_isWord_92 rfl ?_
                refine w_iconst dX5_isWord_94 ?_
                refine w_icmp_ne (tgt := 102) (by omega) (by omega) dX5_isWord_95 (by decide) (fun h95 => ?_) (fun h95 => ?_)
                · refine w_iload dX5_isWord_102 rfl ?_
                  refine w_iconst dX5_isWord_104 ?_
                  refine w_icmp_ne (tgt := 113) (by omega) (by omega) dX5_isWord_105 (by decide) (fun h105 => ?_) (fun h105 => ?_)
                  · refine w_iload dX5_isWord_113 rfl ?_
                    refine w_iconst dX5_isWord_115 ?_
                    refine w_icmp_ne (tgt := 124) (by omega) (by omega) dX5_isWord_116 (by decide) (fun h116 => ?_) (fun h116 => ?_)
                    · exfalso; omega
                    · refine w_iload dX5_isWord_119 rfl ?_
                      refine w_goto (tgt := 126) dX5_isWord_121 (by decide) ?_
                      refine w_icmp_ne (tgt := 133) (by omega) (by omega) dX5_isWord_126 (by decide) (fun h126 => ?_) (fun h126 => ?_)
                      · refine w_iconst dX5_isWord_133 ?_
                        refine w_istore dX5_isWord_134 (by decide) rfl ?_
                        refine w_iinc dX5_isWord_136 rfl (by decide) rfl ?_
                        refine w_goto (tgt := 49) dX5_isWord_139 (by decide) ?_
                        have ek : k = 4 := by omega
                        subst ek
                        refine ih49 (0, 4 + 1) ⟨by decide, by decide, Or.inr ⟨rfl, fun z => ?_⟩⟩ (by dsimp only; omega)
                        exact h126 (z.2.2 4 (by decide))
                      · refine w_iconst dX5_isWord_129 ?_
                        refine w_goto (tgt := 134) dX5_isWord_130 (by decide) ?_
                        refine w_istore dX5_isWord_134 (by decide) rfl ?_
                        refine w_iinc dX5_isWord_136 rfl (by decide) rfl ?_
                        refine w_goto (tgt := 49) dX5_isWord_139 (by decide) ?_
                        have ek : k = 4 := by omega
                        subst ek
                        refine ih49 (1, 4 + 1) ⟨by decide, by decide, Or.inl ⟨rfl, y1.1, y1.2.1, fun j j1 => ?_⟩⟩ (by dsimp only; omega)
                        dsimp only at j1
                        by_cases ej : j = 4
                        · subst ej; exact h126
                        · exact y1.2.2 j (by omega)
                  · refine w_iload dX5_isWord_108 rfl ?_
                    refine w_goto (tgt := 126) dX5_isWord_110 (by decide) ?_
                    refine w_icmp_ne (tgt := 133) (by omega) (by omega) dX5_isWord_126 (by decide) (fun h126 => ?_) (fun h126 => ?_)
                    · refine w_iconst dX5_isWord_133 ?_
                      refine w_istore dX5_isWord_134 (by decide) rfl ?_
                      refine w_iinc dX5_isWord_136 rfl (by decide) rfl ?_
                      refine w_goto (tgt := 49) dX5_isWord_139 (by decide) ?_
                      have ek : k = 3 := by omega
                      subst ek
                      refine ih49 (0, 3 + 1) ⟨by decide, by decide, Or.inr ⟨rfl, fun z => ?_⟩⟩ (by dsimp only; omega)
                      exact h126 (z.2.2 3 (by decide))
                    · refine w_iconst dX5_isWord_129 ?_
                      refine w_goto (tgt := 134) dX5_isWord_130 (by decide) ?_
                      refine w_istore dX5_isWord_134 (by decide) rfl ?_
                      refine w_iinc dX5_isWord_136 rfl (by decide) rfl ?_
                      refine w_goto (tgt := 49) dX5_isWord_139 (by decide) ?_
                      have ek : k = 3 := by omega
                      subst ek
                      refine ih49 (1, 3 + 1) ⟨by decide, by decide, Or.inl ⟨rfl, y1.1, y1.2.1, fun j j1 => ?_⟩⟩ (by dsimp only; omega)
                      dsimp only at j1
                      by_cases ej : j = 3
                      · subst ej; exact h126
                      · exact y1.2.2 j (by omega)
                · refine w_iload_n dX5_isWord_98 rfl ?_
                  refine w_goto (tgt := 126) dX5_isWord_99 (by decide) ?_
                  refine w_icmp_ne (tgt := 133) (by omega) (by omega) dX5_isWord_126 (by decide) (fun h126 => ?_) (fun h126 => ?_)
                  · refine w_iconst dX5_isWord_133 ?_
                    refine w_istore dX5_isWord_134 (by decide) rfl ?_
                    refine w_iinc dX5_isWord_136 rfl (by decide) rfl ?_
                    refine w_goto (tgt := 49) dX5_isWord_139 (by decide) ?_
                    have ek : k = 2 := by omega
                    subst ek
                    refine ih49 (0, 2 + 1) ⟨by decide, by decide, Or.inr ⟨rfl, fun z => ?_⟩⟩ (by dsimp only; omega)
                    exact h126 (z.2.2 2 (by decide))
                  · refine w_iconst dX5_isWord_129 ?_
                    refine w_goto (tgt := 134) dX5_isWord_130 (by decide) ?_
                    refine w_istore dX5_isWord_134 (by decide) rfl ?_
                    refine w_iinc dX5_isWord_136 rfl (by decide) rfl ?_
                    refine w_goto (tgt := 49) dX5_isWord_139 (by decide) ?_
                    have ek : k = 2 := by omega
                    subst ek
                    refine ih49 (1, 2 + 1) ⟨by decide, by decide, Or.inl ⟨rfl, y1.1, y1.2.1, fun j j1 => ?_⟩⟩ (by dsimp only; omega)
                    dsimp only at j1
                    by_cases ej : j = 2
                    · subst ej; exact h126
                    · exact y1.2.2 j (by omega)
              · refine w_iload_n dX5_isWord_88 rfl ?_
                refine w_goto (tgt := 126) dX5_isWord_89 (by decide) ?_
                refine w_icmp_ne (tgt := 133) (by omega) (by omega) dX5_isWord_126 (by decide) (fun h126 => ?_) (fun h126 => ?_)
                · refine w_iconst dX5_isWord_133 ?_
                  refine w_istore dX5_isWord_134 (by decide) rfl ?_
                  refine w_iinc dX5_isWord_136 rfl (by decide) rfl ?_
                  refine w_goto (tgt := 49) dX5_isWord_139 (by decide) ?_
                  have ek : k = 1 := by omega
                  subst ek
                  refine ih49 (0, 1 + 1) ⟨by decide, by decide, Or.inr ⟨rfl, fun z => ?_⟩⟩ (by dsimp only; omega)
                  exact h126 (z.2.2 1 (by decide))
                · refine w_iconst dX5_isWord_129 ?_
                  refine w_goto (tgt := 134) dX5_isWord_130 (by decide) ?_
                  refine w_istore dX5_isWord_134 (by decide) rfl ?_
                  refine w_iinc dX5_isWord_136 rfl (by decide) rfl ?_
                  refine w_goto (tgt := 49) dX5_isWord_139 (by decide) ?_
                  have ek : k = 1 := by omega
                  subst ek
                  refine ih49 (1, 1 + 1) ⟨by decide, by decide, Or.inl ⟨rfl, y1.1, y1.2.1, fun j j1 => ?_⟩⟩ (by dsimp only; omega)
                  dsimp only at j1
                  by_cases ej : j = 1
                  · subst ej; exact h126
                  · exact y1.2.2 j (by omega)
            · refine w_iload_n dX5_isWord_78 rfl ?_
              refine w_goto (tgt := 126) dX5_isWord_79 (by decide) ?_
              refine w_icmp_ne (tgt := 133) (by omega) (by omega) dX5_isWord_126 (by decide) (fun h126 => ?_) (fun h126 => ?_)
              · refine w_iconst dX5_isWord_133 ?_
                refine w_istore dX5_isWord_134 (by decide) rfl ?_
                refine w_iinc dX5_isWord_136 rfl (by decide) rfl ?_
                refine w_goto (tgt := 49) dX5_isWord_139 (by decide) ?_
                have ek : k = 0 := by omega
                subst ek
                refine ih49 (0, 0 + 1) ⟨by decide, by decide, Or.inr ⟨rfl, fun z => ?_⟩⟩ (by dsimp only; omega)
                exact h126 (z.2.2 0 (by decide))
              · refine w_iconst dX5_isWord_129 ?_
                refine w_goto (tgt := 134) dX5_isWord_130 (by decide) ?_
                refine w_istore dX5_isWord_134 (by decide) rfl ?_
                refine w_iinc dX5_isWord_136 rfl (by decide) rfl ?_
                refine w_goto (tgt := 49) dX5_isWord_139 (by decide) ?_
                have ek : k = 0 := by omega
                subst ek
                refine ih49 (1, 0 + 1) ⟨by decide, by decide, Or.inl ⟨rfl, y1.1, y1.2.1, fun j j1 => ?_⟩⟩ (by dsimp only; omega)
                dsimp only at j1
                by_cases ej : j = 0
                · subst ej; exact h126
                · exact y1.2.2 j (by omega)
      · refine w_aload_n dX5_isWord_30 rfl ?_
        refine gf_X5_211 rfl dX5_isWord_31 ?_
        have hlen : μ 167 15 = tE T L p - tA T L p := by have := ht.1; have := ht.2.1; omega
        rw [hlen]
        refine w_iload dX5_isWord_34 rfl ?_
        refine w_icmp_ne (tgt := 43) (by omega) (by omega) dX5_isWord_36 (by decide) (fun h36 => ?_) (fun h36 => ?_)
        · refine w_iconst dX5_isWord_43 ?_
          refine w_istore dX5_isWord_44 (by decide) rfl ?_
          refine w_iconst dX5_isWord_46 ?_
          refine w_istore dX5_isWord_47 (by decide) rfl ?_
          refine w_loop (ι := Int × Int) (fun i => match i with | (b, k) => 0 ≤ k ∧ k ≤ 5 ∧ ((b = 1 ∧ tS T L p = 1 ∧ tE T L p - tA T L p = wStorm.length ∧ ∀ j : Nat, (j : Int) < k → T (tA T L p + j) = wStorm.getD j 0) ∨ (b = 0 ∧ ¬ isW T L p wStorm))) (fun i => match i with | (b, k) => (5 - k).toNat) (fun i => match i with | (b, k) => [some (vR 167), some (vI 115), some (vI 116), some (vI 111), some (vI 114), some (vI 109), some (vI 0), some (vI 5), some (vI b), some (vI k)]) (fun i => match i with | (b, k) => μ) ?_ (_, 0) ⟨by decide, by decide, by first | exact Or.inl ⟨rfl, by omega, (by show tE T L p - tA T L p = 5; omega), fun j j1 => by omega⟩ | (refine Or.inr ⟨rfl, fun z => ?_⟩; have z1 := z.1; have z2 : tE T L p - tA T L p = 5 := z.2.1; omega)⟩
          intro i_ hinv49 ih49
          obtain ⟨b, k⟩ := i_
          try dsimp only at hinv49 ih49 ⊢
          obtain ⟨y1_, y2, y3⟩ := hinv49
          have yr : b = 0 ∨ b = 1 := by rcases y3 with ⟨z, -⟩ | ⟨z, -⟩ <;> omega
          refine w_iload dX5_isWord_49 rfl ?_
          refine w_iload dX5_isWord_51 rfl ?_
          refine w_icmp_ge (tgt := 142) (by omega) (by omega) dX5_isWord_53 (by decide) (fun h53 => ?_) (fun h53 => ?_)
          · refine w_iload dX5_isWord_142 rfl ?_
            exact w_zretP rfl dX5_isWord_144 (by omega) (by refine ⟨?_, rfl⟩; rcases y3 with ⟨z, z1, z2, z3⟩ | ⟨z, z1⟩; (first | (exfalso; omega) | exact Or.inl ⟨z, z1, z2, fun j j1 => z3 j (by have : wStorm.length = 5 := rfl; omega)⟩); exact Or.inr ⟨z, z1⟩)
          · refine w_iload dX5_isWord_56 rfl ?_
            refine w_if_eq (tgt := 142) (by omega) dX5_isWord_58 (by decide) (fun h58 => ?_) (fun h58 => ?_)
            · refine w_iload dX5_isWord_142 rfl ?_
              exact w_zretP rfl dX5_isWord_144 (by omega) (by refine ⟨?_, rfl⟩; rcases y3 with ⟨z, z1, z2, z3⟩ | ⟨z, z1⟩; (first | (exfalso; omega) | exact Or.inl ⟨z, z1, z2, fun j j1 => z3 j (by have : wStorm.length = 5 := rfl; omega)⟩); exact Or.inr ⟨z, z1⟩)
            · obtain y1 : tS T L p = 1 ∧ tE T L p - tA T L p = wStorm.length ∧ ∀ j : Nat, (j : Int) < k → T (tA T L p + j) = wStorm.getD j 0 := by
                rcases y3 with ⟨-, z⟩ | ⟨z, -⟩
                · exact z
                · exfalso; omega
              have hlen2 : tE T L p - tA T L p = 5 := y1.2.1
              refine w_aload_n dX5_isWord_61 rfl ?_
              refine gf_X5_42 rfl dX5_isWord_62 ?_
              refine w_aload_n dX5_isWord_65 rfl ?_
              refine gf_X5_208 rfl dX5_isWord_66 ?_
              rw [ht.1]
              refine w_iload dX5_isWord_69 rfl ?_
              refine w_iadd dX5_isWord_71 ?_
              have hb := hX.2 (tA T L p + k) (by omega) (by omega)
              refine w_iald ar_177 (by omega) dX5_isWord_72 ?_
              rw [hT]
              refine w_iload dX5_isWord_73 rfl ?_
              refine w_if_ne (tgt := 82) (by omega) dX5_isWord_75 (by decide) (fun h75 => ?_) (fun h75 => ?_)
              · refine w_iload dX5_isWord_82 rfl ?_
                refine w_iconst dX5_isWord_84 ?_
                refine w_icmp_ne (tgt := 92) (by omega) (by omega) dX5_isWord_85 (by decide) (fun h85 => ?_) (fun h85 => ?_)
                · refine w_iload dX5_isWord_92 rfl ?_
                  refine w_iconst dX5_isWord_94 ?_
                  refine w_icmp_ne (tgt := 102) (by omega) (by omega) dX5_isWord_95 (by decide) (fun h95 => ?_) (fun h95 => ?_)
                  · refine w_iload dX5_isWord_102 rfl ?_
                    refine w_iconst dX5_isWord_104 ?_
                    refine w_icmp_ne (tgt := 113) (by omega) (by omega) dX5_isWord_105 (by decide) (fun h105 => ?_) (fun h105 => ?_)
                    · refine w_iload dX5_isWord_113 rfl ?_
                      refine w_iconst dX5_isWord_115 ?_
                      refine w_icmp_ne (tgt := 124) (by omega) (by omega) dX5_isWord_116 (by decide) (fun h116 => ?_) (fun h116 => ?_)
                      · exfalso; omega
                      · refine w_iload dX5_isWord_119 rfl ?_
                        refine w_goto (tgt := 126) dX5_isWord_121 (by decide) ?_
                        refine w_icmp_ne (tgt := 133) (by omega) (by omega) dX5_isWord_126 (by decide) (fun h126 => ?_) (fun h126 => ?_)
                        · refine w_iconst dX5_isWord_133 ?_
                          refine w_istore dX5_isWord_134 (by decide) rfl ?_
                          refine w_iinc dX5_isWord_136 rfl (by decide) rfl ?_
                          refine w_goto (tgt := 49) dX5_isWord_139 (by decide) ?_
                          have ek : k = 4 := by omega
                          subst ek
                          refine ih49 (0, 4 + 1) ⟨by decide, by decide, Or.inr ⟨rfl, fun z => ?_⟩⟩ (by dsimp only; omega)
                          exact h126 (z.2.2 4 (by decide))
                        · refine w_iconst dX5_isWord_129 ?_
                          refine w_goto (tgt := 134) dX5_isWord_130 (by decide) ?_
                          refine w_istore dX5_isWord_134 (by decide) rfl ?_
                          refine w_iinc dX5_isWord_136 rfl (by decide) rfl ?_
                          refine w_goto (tgt := 49) dX5_isWord_139 (by decide) ?_
                          have ek : k = 4 := by omega
                          subst ek
                          refine ih49 (1, 4 + 1) ⟨by decide, by decide, Or.inl ⟨rfl, y1.1, y1.2.1, fun j j1 => ?_⟩⟩ (by dsimp only; omega)
                          dsimp only at j1
                          by_cases ej : j = 4
                          · subst ej; exact h126
                          · exact y1.2.2 j (by omega)
                    · refine w_iload dX5_isWord_108 rfl ?_
                      refine w_goto (tgt := 126) dX5_isWord_110 (by decide) ?_
                      refine w_icmp_ne (tgt := 133) (by omega) (by omega) dX5_isWord_126 (by decide) (fun h126 => ?_) (fun h126 => ?_)
                      · refine w_iconst dX5_isWord_133 ?_
                        refine w_istore dX5_isWord_134 (by decide) rfl ?_
                        refine w_iinc dX5_isWord_136 rfl (by decide) rfl ?_
                        refine w_goto (tgt := 49) dX5_isWord_139 (by decide) ?_
                        have ek : k = 3 := by omega
                        subst ek
                        refine ih49 (0, 3 + 1) ⟨by decide, by decide, Or.inr ⟨rfl, fun z => ?_⟩⟩ (by dsimp only; omega)
                        exact h126 (z.2.2 3 (by decide))
                      · refine w_iconst dX5_isWord_129 ?_
                        refine w_goto (tgt := 134) dX5_isWord_130 (by decide) ?_
                        refine w_istore dX5_isWord_134 (by decide) rfl ?_
                        refine w_iinc dX5_isWord_136 rfl (by decide) rfl ?_
                        refine w_goto (tgt := 49) dX5_isWord_139 (by decide) ?_
                        have ek : k = 3 := by omega
                        subst ek
                        refine ih49 (1, 3 + 1) ⟨by decide, by decide, Or.inl ⟨rfl, y1.1, y1.2.1, fun j j1 => ?_⟩⟩ (by dsimp only; omega)
                        dsimp only at j1
                        by_cases ej : j = 3
                        · subst ej; exact h126
                        · exact y1.2.2 j (by omega)
                  · refine w_iload_n dX5_isWord_98 rfl ?_
                    refine w_goto (tgt := 126) dX5_isWord_99 (by decide) ?_
                    refine w_icmp_ne (tgt := 133) (by omega) (by omega) dX5_isWord_126 (by decide) (fun h126 => ?_) (fun h126 => ?_)
                    · refine w_iconst dX5_isWord_133 ?_
                      refine w_istore dX5_isWord_134 (by decide) rfl ?_
                      refine w_iinc dX5_isWord_136 rfl (by decide) rfl ?_
                      refine w_goto (tgt := 49) dX5_isWord_139 (by decide) ?_
                      have ek : k = 2 := by omega
                      subst ek
                      refine ih49 (0, 2 + 1) ⟨by decide, by decide, Or.inr ⟨rfl, fun z => ?_⟩⟩ (by dsimp only; omega)
                      exact h126 (z.2.2 2 (by decide))
                    · refine w_iconst dX5_isWord_129 ?_
                      refine w_goto (tgt := 134) dX5_isWord_130 (by decide) ?_
                      refine w_istore dX5_isWord_134 (by decide) rfl ?_
                      refine w_iinc dX5_isWord_136 rfl (by decide) rfl ?_
                      refine w_goto (tgt := 49) dX5_isWord_139 (by decide) ?_
                      have ek : k = 2 := by omega
                      subst ek
                      refine ih49 (1, 2 + 1) ⟨by decide, by decide, Or.inl ⟨rfl, y1.1, y1.2.1, fun j j1 => ?_⟩⟩ (by dsimp only; omega)
                      dsimp only at j1
                      by_cases ej : j = 2
                      · subst ej; exact h126
                      · exact y1.2.2 j (by omega)
                · refine w_iload_n dX5_isWord_88 rfl ?_
                  refine w_goto (tgt := 126) dX5_isWord_89 (by decide) ?_
                  refine w_icmp_ne (tgt := 133) (by omega) (by omega) dX5_isWord_126 (by decide) (fun h126 => ?_) (fun h126 => ?_)
                  · refine w_iconst dX5_isWord_133 ?_
                    refine w_istore dX5_isWord_134 (by decide) rfl ?_
                    refine w_iinc dX5_isWord_136 rfl (by decide) rfl ?_
                    refine w_goto (tgt := 49) dX5_isWord_139 (by decide) ?_
                    have ek : k = 1 := by omega
                    subst ek
                    refine ih49 (0, 1 + 1) ⟨by decide, by decide, Or.inr ⟨rfl, fun z => ?_⟩⟩ (by dsimp only; omega)
                    exact h126 (z.2.2 1 (by decide))
                  · refine w_iconst dX5_isWord_129 ?_
                    refine w_goto (tgt := 134) dX5_isWord_130 (by decide) ?_
                    refine w_istore dX5_isWord_134 (by decide) rfl ?_
                    refine w_iinc dX5_isWord_136 rfl (by decide) rfl ?_
                    refine w_goto (tgt := 49) dX5_isWord_139 (by decide) ?_
                    have ek : k = 1 := by omega
                    subst ek
                    refine ih49 (1, 1 + 1) ⟨by decide, by decide, Or.inl ⟨rfl, y1.1, y1.2.1, fun j j1 => ?_⟩⟩ (by dsimp only; omega)
                    dsimp only at j1
                    by_cases ej : j = 1
                    · subst ej; exact h126
                    · exact y1.2.2 j (by omega)
              · refine w_iload_n dX5_isWord_78 rfl ?_
                refine w_goto (tgt := 126) dX5_isWord_79 (by decide) ?_
                refine w_icmp_ne (tgt := 133) (by omega) (by omega) dX5_isWord_126 (by decide) (fun h126 => ?_) (fun h126 => ?_)
                · refine w_iconst dX5_isWord_133 ?_
                  refine w_istore dX5_isWord_134 (by decide) rfl ?_
                  refine w_iinc dX5_isWord_136 rfl (by decide) rfl ?_
                  refine w_goto (tgt := 49) dX5_isWord_139 (by decide) ?_
                  have ek : k = 0 := by omega
                  subst ek
                  refine ih49 (0, 0 + 1) ⟨by decide, by decide, Or.inr ⟨rfl, fun z => ?_⟩⟩ (by dsimp only; omega)
                  exact h126 (z.2.2 0 (by decide))
                · refine w_iconst dX5_isWord_129 ?_
                  refine w_goto (tgt := 134) dX5_isWord_130 (by decide) ?_
                  refine w_istore dX5_isWord_134 (by decide) rfl ?_
                  refine w_iinc dX5_isWord_136 rfl (by decide) rfl ?_
                  refine w_goto (tgt := 49) dX5_isWord_139 (by decide) ?_
                  have ek : k = 0 := by omega
                  subst ek
                  refine ih49 (1, 0 + 1) ⟨by decide, by decide, Or.inl ⟨rfl, y1.1, y1.2.1, fun j j1 => ?_⟩⟩ (by dsimp only; omega)
                  dsimp only at j1
                  by_cases ej : j = 0
                  · subst ej; exact h126
                  · exact y1.2.2 j (by omega)
        · refine w_iconst dX5_isWord_39 ?_
          refine w_goto (tgt := 44) dX5_isWord_40 (by decide) ?_
          refine w_istore dX5_isWord_44 (by decide) rfl ?_
          refine w_iconst dX5_isWord_46 ?_
          refine w_istore dX5_isWord_47 (by decide) rfl ?_
          refine w_loop (ι := Int × Int) (fun i => match i with | (b, k) => 0 ≤ k ∧ k ≤ 5 ∧ ((b = 1 ∧ tS T L p = 1 ∧ tE T L p - tA T L p = wStorm.length ∧ ∀ j : Nat, (j : Int) < k → T (tA T L p + j) = wStorm.getD j 0) ∨ (b = 0 ∧ ¬ isW T L p wStorm))) (fun i => match i with | (b, k) => (5 - k).toNat) (fun i => match i with | (b, k) => [some (vR 167), some (vI 115), some (vI 116), some (vI 111), some (vI 114), some (vI 109), some (vI 0), some (vI 5), some (vI b), some (vI k)]) (fun i => match i with | (b, k) => μ) ?_ (_, 0) ⟨by decide, by decide, by first | exact Or.inl ⟨rfl, by omega, (by show tE T L p - tA T L p = 5; omega), fun j j1 => by omega⟩ | (refine Or.inr ⟨rfl, fun z => ?_⟩; have z1 := z.1; have z2 : tE T L p - tA T L p = 5 := z.2.1; omega)⟩
          intro i_ hinv49 ih49
          obtain ⟨b, k⟩ := i_
          try dsimp only at hinv49 ih49 ⊢
          obtain ⟨y1_, y2, y3⟩ := hinv49
          have yr : b = 0 ∨ b = 1 := by rcases y3 with ⟨z, -⟩ | ⟨z, -⟩ <;> omega
          refine w_iload dX5_isWord_49 rfl ?_
          refine w_iload dX5_isWord_51 rfl ?_
          refine w_icmp_ge (tgt := 142) (by omega) (by omega) dX5_isWord_53 (by decide) (fun h53 => ?_) (fun h53 => ?_)
          · refine w_iload dX5_isWord_142 rfl ?_
            exact w_zretP rfl dX5_isWord_144 (by omega) (by refine ⟨?_, rfl⟩; rcases y3 with ⟨z, z1, z2, z3⟩ | ⟨z, z1⟩; (first | (exfalso; omega) | exact Or.inl ⟨z, z1, z2, fun j j1 => z3 j (by have : wStorm.length = 5 := rfl; omega)⟩); exact Or.inr ⟨z, z1⟩)
          · refine w_iload dX5_isWord_56 rfl ?_
            refine w_if_eq (tgt := 142) (by omega) dX5_isWord_58 (by decide) (fun h58 => ?_) (fun h58 => ?_)
            · refine w_iload dX5_isWord_142 rfl ?_
              exact w_zretP rfl dX5_isWord_144 (by omega) (by refine ⟨?_, rfl⟩; rcases y3 with ⟨z, z1, z2, z3⟩ | ⟨z, z1⟩; (first | (exfalso; omega) | exact Or.inl ⟨z, z1, z2, fun j j1 => z3 j (by have : wStorm.length = 5 := rfl; omega)⟩); exact Or.inr ⟨z, z1⟩)
            · obtain y1 : tS T L p = 1 ∧ tE T L p - tA T L p = wStorm.length ∧ ∀ j : Nat, (j : Int) < k → T (tA T L p + j) = wStorm.getD j 0 := by
                rcases y3 with ⟨-, z⟩ | ⟨z, -⟩
                · exact z
                · exfalso; omega
              have hlen2 : tE T L p - tA T L p = 5 := y1.2.1
              refine w_aload_n dX5_isWord_61 rfl ?_
              refine gf_X5_42 rfl dX5_isWord_62 ?_
              refine w_aload_n dX5_isWord_65 rfl ?_
              refine gf_X5_208 rfl dX5_isWord_66 ?_
              rw [ht.1]
              refine w_iload dX5_isWord_69 rfl ?_
              refine w_iadd dX5_isWord_71 ?_
              have hb := hX.2 (tA T L p + k) (by omega) (by omega)
              refine w_iald ar_177 (by omega) dX5_isWord_72 ?_
              rw [hT]
              refine w_iload dX5_isWord_73 rfl ?_
              refine w_if_ne (tgt := 82) (by omega) dX5_isWord_75 (by decide) (fun h75 => ?_) (fun h75 => ?_)
              · refine w_iload dX5_isWord_82 rfl ?_
                refine w_iconst dX5_isWord_84 ?_
                refine w_icmp_ne (tgt := 92) (by omega) (by omega) dX5_isWord_85 (by decide) (fun h85 => ?_) (fun h85 => ?_)
                · refine w_iload dX5_isWord_92 rfl ?_
                  refine w_iconst dX5_isWord_94 ?_
                  refine w_icmp_ne (tgt := 102) (by omega) (by omega) dX5_isWord_95 (by decide) (fun h95 => ?_) (fun h95 => ?_)
                  · refine w_iload dX5_isWord_102 rfl ?_
                    refine w_iconst dX5_isWord_104 ?_
                    refine w_icmp_ne (tgt := 113) (by omega) (by omega) dX5_isWord_105 (by decide) (fun h105 => ?_) (fun h105 => ?_)
                    · refine w_iload dX5_isWord_113 rfl ?_
                      refine w_iconst dX5_isWord_115 ?_
                      refine w_icmp_ne (tgt := 124) (by omega) (by omega) dX5_isWord_116 (by decide) (fun h116 => ?_) (fun h116 => ?_)
                      · exfalso; omega
                      · refine w_iload dX5_isWord_119 rfl ?_
                        refine w_goto (tgt := 126) dX5_isWord_121 (by decide) ?_
                        refine w_icmp_ne (tgt := 133) (by omega) (by omega) dX5_isWord_126 (by decide) (fun h126 => ?_) (fun h126 => ?_)
                        · refine w_iconst dX5_isWord_133 ?_
                          refine w_istore dX5_isWord_134 (by decide) rfl ?_
                          refine w_iinc dX5_isWord_136 rfl (by decide) rfl ?_
                          refine w_goto (tgt := 49) dX5_isWord_139 (by decide) ?_
                          have ek : k = 4 := by omega
                          subst ek
                          refine ih49 (0, 4 + 1) ⟨by decide, by decide, Or.inr ⟨rfl, fun z => ?_⟩⟩ (by dsimp only; omega)
                          exact h126 (z.2.2 4 (by decide))
                        · refine w_iconst dX5_isWord_129 ?_
                          refine w_goto (tgt := 134) dX5_isWord_130 (by decide) ?_
                          refine w_istore dX5_isWord_134 (by decide) rfl ?_
                          refine w_iinc dX5_isWord_136 rfl (by decide) rfl ?_
                          refine w_goto (tgt := 49) dX5_isWord_139 (by decide) ?_
                          have ek : k = 4 := by omega
                          subst ek
                          refine ih49 (1, 4 + 1) ⟨by decide, by decide, Or.inl ⟨rfl, y1.1, y1.2.1, fun j j1 => ?_⟩⟩ (by dsimp only; omega)
                          dsimp only at j1
                          by_cases ej : j = 4
                          · subst ej; exact h126
                          · exact y1.2.2 j (by omega)
                    · refine w_iload dX5_isWord_108 rfl ?_
                      refine w_goto (tgt := 126) dX5_isWord_110 (by decide) ?_
                      refine w_icmp_ne (tgt := 133) (by omega) (by omega) dX5_isWord_126 (by decide) (fun h126 => ?_) (fun h126 => ?_)
                      · refine w_iconst dX5_isWord_133 ?_
                        refine w_istore dX5_isWord_134 (by decide) rfl ?_
                        refine w_iinc dX5_isWord_136 rfl (by decide) rfl ?_
                        refine w_goto (tgt := 49) dX5_isWord_139 (by decide) ?_
                        have ek : k = 3 := by omega
                        subst ek
                        refine ih49 (0, 3 + 1) ⟨by decide, by decide, Or.inr ⟨rfl, fun z => ?_⟩⟩ (by dsimp only; omega)
                        exact h126 (z.2.2 3 (by decide))
                      · refine w_iconst dX5_isWord_129 ?_
                        refine w_goto (tgt := 134) dX5_isWord_130 (by decide) ?_
                        refine w_istore dX5_isWord_134 (by decide) rfl ?_
                        refine w_iinc dX5_isWord_136 rfl (by decide) rfl ?_
                        refine w_goto (tgt := 49) dX5_isWord_139 (by decide) ?_
                        have ek : k = 3 := by omega
                        subst ek
                        refine ih49 (1, 3 + 1) ⟨by decide, by decide, Or.inl ⟨rfl, y1.1, y1.2.1, fun j j1 => ?_⟩⟩ (by dsimp only; omega)
                        dsimp only at j1
                        by_cases ej : j = 3
                        · subst ej; exact h126
                        · exact y1.2.2 j (by omega)
                  · refine w_iload_n dX5_isWord_98 rfl ?_
                    refine w_goto (tgt := 126) dX5_isWord_99 (by decide) ?_
                    refine w_icmp_ne (tgt := 133) (by omega) (by omega) dX5_isWord_126 (by decide) (fun h126 => ?_) (fun h126 => ?_)
                    · refine w_iconst dX5_isWord_133 ?_
                      refine w_istore dX5_isWord_134 (by decide) rfl ?_
                      refine w_iinc dX5_isWord_136 rfl (by decide) rfl ?_
                      refine w_goto (tgt := 49) dX5_isWord_139 (by decide) ?_
                      have ek : k = 2 := by omega
                      subst ek
                      refine ih49 (0, 2 + 1) ⟨by decide, by decide, Or.inr ⟨rfl, fun z => ?_⟩⟩ (by dsimp only; omega)
                      exact h126 (z.2.2 2 (by decide))
                    · refine w_iconst dX5_isWord_129 ?_
                      refine w_goto (tgt := 134) dX5_isWord_130 (by decide) ?_
                      refine w_istore dX5_isWord_134 (by decide) rfl ?_
                      refine w_iinc dX5_isWord_136 rfl (by decide) rfl ?_
                      refine w_goto (tgt := 49) dX5_isWord_139 (by decide) ?_
                      have ek : k = 2 := by omega
                      subst ek
                      refine ih49 (1, 2 + 1) ⟨by decide, by decide, Or.inl ⟨rfl, y1.1, y1.2.1, fun j j1 => ?_⟩⟩ (by dsimp only; omega)
                      dsimp only at j1
                      by_cases ej : j = 2
                      · subst ej; exact h126
                      · exact y1.2.2 j (by omega)
                · refine w_iload_n dX5_isWord_88 rfl ?_
                  refine w_goto (tgt := 126) dX5_isWord_89 (by decide) ?_
                  refine w_icmp_ne (tgt := 133) (by omega) (by omega) dX5_isWord_126 (by decide) (fun h126 => ?_) (fun h126 => ?_)
                  · refine w_iconst dX5_isWord_133 ?_
                    refine w_istore dX5_isWord_134 (by decide) rfl ?_
                    refine w_iinc dX5_isWord_136 rfl (by decide) rfl ?_
                    refine w_goto (tgt := 49) dX5_isWord_139 (by decide) ?_
                    have ek : k = 1 := by omega
                    subst ek
                    refine ih49 (0, 1 + 1) ⟨by decide, by decide, Or.inr ⟨rfl, fun z => ?_⟩⟩ (by dsimp only; omega)
                    exact h126 (z.2.2 1 (by decide))
                  · refine w_iconst dX5_isWord_129 ?_
                    refine w_goto (tgt := 134) dX5_isWord_130 (by decide) ?_
                    refine w_istore dX5_isWord_134 (by decide) rfl ?_
                    refine w_iinc dX5_isWord_136 rfl (by decide) rfl ?_
                    refine w_goto (tgt := 49) dX5_isWord_139 (by decide) ?_
                    have ek : k = 1 := by omega
                    subst ek
                    refine ih49 (1, 1 + 1) ⟨by decide, by decide, Or.inl ⟨rfl, y1.1, y1.2.1, fun j j1 => ?_⟩⟩ (by dsimp only; omega)
                    dsimp only at j1
                    by_cases ej : j = 1
                    · subst ej; exact h126
                    · exact y1.2.2 j (by omega)
              · refine w_iload_n dX5_isWord_78 rfl ?_
                refine w_goto (tgt := 126) dX5_isWord_79 (by decide) ?_
                refine w_icmp_ne (tgt := 133) (by omega) (by omega) dX5_isWord_126 (by decide) (fun h126 => ?_) (fun h126 => ?_)
                · refine w_iconst dX5_isWord_133 ?_
                  refine w_istore dX5_isWord_134 (by decide) rfl ?_
                  refine w_iinc dX5_isWord_136 rfl (by decide) rfl ?_
                  refine w_goto (tgt := 49) dX5_isWord_139 (by decide) ?_
                  have ek : k = 0 := by omega
                  subst ek
                  refine ih49 (0, 0 + 1) ⟨by decide, by decide, Or.inr ⟨rfl, fun z => ?_⟩⟩ (by dsimp only; omega)
                  exact h126 (z.2.2 0 (by decide))
                · refine w_iconst dX5_isWord_129 ?_
                  refine w_goto (tgt := 134) dX5_isWord_130 (by decide) ?_
                  refine w_istore dX5_isWord_134 (by decide) rfl ?_
                  refine w_iinc dX5_isWord_136 rfl (by decide) rfl ?_
                  refine w_goto (tgt := 49) dX5_isWord_139 (by decide) ?_
                  have ek : k = 0 := by omega
                  subst ek
                  refine ih49 (1, 0 + 1) ⟨by decide, by decide, Or.inl ⟨rfl, y1.1, y1.2.1, fun j j1 => ?_⟩⟩ (by dsimp only; omega)
                  dsimp only at j1
                  by_cases ej : j = 0
                  · subst ej; exact h126
                  · exact y1.2.2 j (by omega)
  · exfalso; omega
set_option maxRecDepth 100000 in
set_option maxHeartbeats 4000000 in
theorem c_iwC {g : gG} {l : Launch} {μ : gM}  {T : Int → Int} {L p : Int} (hT : μ 177 = T) (hL : μ 167 13 = L) (hX : TXo T L) (ht : tkm μ T L p) (hp0 : 0 ≤ p ∧ p ≤ L) : CT g l YX5_isWord 0 [vR 167, vI 99, vI 97, vI 110, vI 110, vI 111, vI 110] μ (pI fun e μ2 => ((e = 1 ∧ isW T L p wCannon) ∨ (e = 0 ∧ ¬ (isW T L p wCannon))) ∧ μ = μ2) := by
  have hX1 := hX.1
  have hA := tA_bd T hp0.2
  have hE := tE_bd T hp0.2
  have hSb := tS_bd T L p
  refine CT.of (n := 3) (by decide) rfl ?_
  show WA g l YX5_isWord 0 _ 0 [some (vR 167), some (vI 99), some (vI 97), some (vI 110), some (vI 110), some (vI 111), some (vI 110), none, none, none] [] μ
  refine w_iload dX5_isWord_0 rfl ?_
  refine w_if_ne (tgt := 9) (by omega) dX5_isWord_2 (by decide) (fun h2 => ?_) (fun h2 => ?_)
  · refine w_iload dX5_isWord_9 rfl ?_
    refine w_if_ne (tgt := 18) (by omega) dX5_isWord_11 (by decide) (fun h11 => ?_) (fun h11 => ?_)
    · refine w_bipush dX5_isWord_18 (by decide) ?_
      refine w_istore dX5_isWord_20 (by decide) rfl ?_
      refine w_aload_n dX5_isWord_22 rfl ?_
      refine gf_X5_214 rfl dX5_isWord_23 ?_
      rw [ht.2.2.1]
      refine w_iconst dX5_isWord_26 ?_
      refine w_icmp_ne (tgt := 43) (by omega) (by omega) dX5_isWord_27 (by decide) (fun h27 => ?_) (fun h27 => ?_)
      · refine w_iconst dX5_isWord_43 ?_
        refine w_istore dX5_isWord_44 (by decide) rfl ?_
        refine w_iconst dX5_isWord_46 ?_
        refine w_istore dX5_isWord_47 (by decide) rfl ?_
        refine w_loop (ι := Int × Int) (fun i => match i with | (b, k) => 0 ≤ k ∧ k ≤ 6 ∧ ((b = 1 ∧ tS T L p = 1 ∧ tE T L p - tA T L p = wCannon.length ∧ ∀ j : Nat, (j : Int) < k → T (tA T L p + j) = wCannon.getD j 0) ∨ (b = 0 ∧ ¬ isW T L p wCannon))) (fun i => match i with | (b, k) => (6 - k).toNat) (fun i => match i with | (b, k) => [some (vR 167), some (vI 99), some (vI 97), some (vI 110), some (vI 110), some (vI 111), some (vI 110), some (vI 6), some (vI b), some (vI k)]) (fun i => match i with | (b, k) => μ) ?_ (_, 0) ⟨by decide, by decide, by first | exact Or.inl ⟨rfl, by omega, (by show tE T L p - tA T L p = 6; omega), fun j j1 => by omega⟩ | (refine Or.inr ⟨rfl, fun z => ?_⟩; have z1 := z.1; have z2 : tE T L p - tA T L p = 6 := z.2.1; omega)⟩
        intro i_ hinv49 ih49
        obtain ⟨b, k⟩ := i_
        try dsimp only at hinv49 ih49 ⊢
        obtain ⟨y1_, y2, y3⟩ := hinv49
        have yr : b = 0 ∨ b = 1 := by rcases y3 with ⟨z, -⟩ | ⟨z, -⟩ <;> omega
        refine w_iload dX5_isWord_49 rfl ?_
        refine w_iload dX5_isWord_51 rfl ?_
        refine w_icmp_ge (tgt := 142) (by omega) (by omega) dX5_isWord_53 (by decide) (fun h53 => ?_) (fun h53 => ?_)
        · refine w_iload dX5_isWord_142 rfl ?_
          exact w_zretP rfl dX5_isWord_144 (by omega) (by refine ⟨?_, rfl⟩; rcases y3 with ⟨z, z1, z2, z3⟩ | ⟨z, z1⟩; (first | (exfalso; omega) | exact Or.inl ⟨z, z1, z2, fun j j1 => z3 j (by have : wCannon.length = 6 := rfl; omega)⟩); exact Or.inr ⟨z, z1⟩)
        · refine w_iload dX5_isWord_56 rfl ?_
          refine w_if_eq (tgt := 142) (by omega) dX5_isWord_58 (by decide) (fun h58 => ?_) (fun h58 => ?_)
          · refine w_iload dX5_isWord_142 rfl ?_
            exact w_zretP rfl dX5_isWord_144 (by omega) (by refine ⟨?_, rfl⟩; rcases y3 with ⟨z, z1, z2, z3⟩ | ⟨z, z1⟩; (first | (exfalso; omega) | exact Or.inl ⟨z, z1, z2, fun j j1 => z3 j (by have : wCannon.length = 6 := rfl; omega)⟩); exact Or.inr ⟨z, z1⟩)
          · obtain y1 : tS T L p = 1 ∧ tE T L p - tA T L p = wCannon.length ∧ ∀ j : Nat, (j : Int) < k → T (tA T L p + j) = wCannon.getD j 0 := by
              rcases y3 with ⟨-, z⟩ | ⟨z, -⟩
              · exact z
              · exfalso; omega
            have hlen2 : tE T L p - tA T L p = 6 := y1.2.1
            refine w_aload_n dX5_isWord_61 rfl ?_
            refine gf_X5_42 rfl dX5_isWord_62 ?_
            refine w_aload_n dX5_isWord_65 rfl ?_
            refine gf_X5_208 rfl dX5_isWord_66 ?_
            rw [ht.1]
            refine w_iload dX5_isWord_69 rfl ?_
            refine w_iadd dX5_isWord_71 ?_
            have hb := hX.2 (tA T L p + k) (by omega) (by omega)
            refine w_iald ar_177 (by omega) dX5_isWord_72 ?_
            rw [hT]
            refine w_iload dX5_isWord_73 rfl ?_
            refine w_if_ne (tgt := 82) (by omega) dX5_isWord_75 (by decide) (fun h75 => ?_) (fun h75 => ?_)
            · refine w_iload dX5_isWord_82 rfl ?_
              refine w_iconst dX5_isWord_84 ?_
              refine w_icmp_ne (tgt := 92) (by omega) (by omega) dX5_isWord_85 (by decide) (fun h85 => ?_) (fun h85 => ?_)
              · refine w_iload dX5_isWord_92 rfl ?_
                refine w_iconst dX5_isWord_94 ?_
                refine w_icmp_ne (tgt := 102) (by omega) (by omega) dX5_isWord_95 (by decide) (fun h95 => ?_) (fun h95 => ?_)
                · refine w_iload dX5_isWord_102 rfl ?_
                  refine w_iconst dX5_isWord_104 ?_
                  refine w_icmp_ne (tgt := 113) (by omega) (by omega) dX5_isWord_105 (by decide) (fun h105 => ?_) (fun h105 => ?_)
                  · refine w_iload dX5_isWord_113 rfl ?_
                    refine w_iconst dX5_isWord_115 ?_
                    refine w_icmp_ne (tgt := 124) (by omega) (by omega) dX5_isWord_116 (by decide) (fun h116 => ?_) (fun h116 => ?_)
                    · refine w_iload dX5_isWord_124 rfl ?_
                      refine w_icmp_ne (tgt := 133) (by omega) (by omega) dX5_isWord_126 (by decide) (fun h126 => ?_) (fun h126 => ?_)
                      · refine w_iconst dX5_isWord_133 ?_
                        refine w_istore dX5_isWord_134 (by decide) rfl ?_
                        refine w_iinc dX5_isWord_136 rfl (by decide) rfl ?_
                        refine w_goto (tgt := 49) dX5_isWord_139 (by decide) ?_
                        have ek : k = 5 := by omega
                        subst ek
                        refine ih49 (0, 5 + 1) ⟨by decide, by decide, Or.inr ⟨rfl, fun z => ?_⟩⟩ (by dsimp only; omega)
                        exact h126 (z.2.2 5 (by decide))
                      · refine w_iconst dX5_isWord_129 ?_
                        refine w_goto (tgt := 134) dX5_isWord_130 (by decide) ?_
                        refine w_istore dX5_isWord_134 (by decide) rfl ?_
                        refine w_iinc dX5_isWord_136 rfl (by decide) rfl ?_
                        refine w_goto (tgt := 49) dX5_isWord_139 (by decide) ?_
                        have ek : k = 5 := by omega
                        subst ek
                        refine ih49 (1, 5 + 1) ⟨by decide, by decide, Or.inl ⟨rfl, y1.1, y1.2.1, fun j j1 => ?_⟩⟩ (by dsimp only; omega)
                        dsimp only at j1
                        by_cases ej : j = 5
                        · subst ej; exact h126
                        · exact y1.2.2 j (by omega)
                    · refine w_iload dX5_isWord_119 rfl ?_
                      refine w_goto (tgt := 126) dX5_isWord_121 (by decide) ?_
                      refine w_icmp_ne (tgt := 133) (by omega) (by omega) dX5_isWord_126 (by decide) (fun h126 => ?_) (fun h126 => ?_)
                      · refine w_iconst dX5_isWord_133 ?_
                        refine w_istore dX5_isWord_134 (by decide) rfl ?_
                        refine w_iinc dX5_isWord_136 rfl (by decide) rfl ?_
                        refine w_goto (tgt := 49) dX5_isWord_139 (by decide) ?_
                        have ek : k = 4 := by omega
                        subst ek
                        refine ih49 (0, 4 + 1) ⟨by decide, by decide, Or.inr ⟨rfl, fun z => ?_⟩⟩ (by dsimp only; omega)
                        exact h126 (z.2.2 4 (by decide))
                      · refine w_iconst dX5_isWord_129 ?_
                        refine w_goto (tgt := 134) dX5_isWord_130 (by decide) ?_
                        refine w_istore dX5_isWord_134 (by decide) rfl ?_
                        refine w_iinc dX5_isWord_136 rfl (by decide) rfl ?_
                        refine w_goto (tgt := 49) dX5_isWord_139 (by decide) ?_
                        have ek : k = 4 := by omega
                        subst ek
                        refine ih49 (1, 4 + 1) ⟨by decide, by decide, Or.inl ⟨rfl, y1.1, y1.2.1, fun j j1 => ?_⟩⟩ (by dsimp only; omega)
                        dsimp only at j1
                        by_cases ej : j = 4
                        · subst ej; exact h126
                        · exact y1.2.2 j (by omega)
                  · refine w_iload dX5_isWord_108 rfl ?_
                    refine w_goto (tgt := 126) dX5_isWord_110 (by decide) ?_
                    refine w_icmp_ne (tgt := 133) (by omega) (by omega) dX5_isWord_126 (by decide) (fun h126 => ?_) (fun h126 => ?_)
                    · refine w_iconst dX5_isWord_133 ?_
                      refine w_istore dX5_isWord_134 (by decide) rfl ?_
                      refine w_iinc dX5_isWord_136 rfl (by decide) rfl ?_
                      refine w_goto (tgt := 49) dX5_isWord_139 (by decide) ?_
                      have ek : k = 3 := by omega
                      subst ek
                      refine ih49 (0, 3 + 1) ⟨by decide, by decide, Or.inr ⟨rfl, fun z => ?_⟩⟩ (by dsimp only; omega)
                      exact h126 (z.2.2 3 (by decide))
                    · refine w_iconst dX5_isWord_129 ?_
                      refine w_goto (tgt := 134) dX5_isWord_130 (by decide) ?_
                      refine w_istore dX5_isWord_134 (by decide) rfl ?_
                      refine w_iinc dX5_isWord_136 rfl (by decide) rfl ?_
                      refine w_goto (tgt := 49) dX5_isWord_139 (by decide) ?_
                      have ek : k = 3 := by omega
                      subst ek
                      refine ih49 (1, 3 + 1) ⟨by decide, by decide, Or.inl ⟨rfl, y1.1, y1.2.1, fun j j1 => ?_⟩⟩ (by dsimp only; omega)
                      dsimp only at j1
                      by_cases ej : j = 3
                      · subst ej; exact h126
                      · exact y1.2.2 j (by omega)
                · refine w_iload_n dX5_isWord_98 rfl ?_
                  refine w_goto (tgt := 126) dX5_isWord_99 (by decide) ?_
                  refine w_icmp_ne (tgt := 133) (by omega) (by omega) dX5_isWord_126 (by decide) (fun h126 => ?_) (fun h126 => ?_)
                  · refine w_iconst dX5_isWord_133 ?_
                    refine w_istore dX5_isWord_134 (by decide) rfl ?_
                    refine w_iinc dX5_isWord_136 rfl (by decide) rfl ?_
                    refine w_goto (tgt := 49) dX5_isWord_139 (by decide) ?_
                    have ek : k = 2 := by omega
                    subst ek
                    refine ih49 (0, 2 + 1) ⟨by decide, by decide, Or.inr ⟨rfl, fun z => ?_⟩⟩ (by dsimp only; omega)
                    exact h126 (z.2.2 2 (by decide))
                  · refine w_iconst dX5_isWord_129 ?_
                    refine w_goto (tgt := 134) dX5_isWord_130 (by decide) ?_
                    refine w_istore dX5_isWord_134 (by decide) rfl ?_
                    refine w_iinc dX5_isWord_136 rfl (by decide) rfl ?_
                    refine w_goto (tgt := 49) dX5_isWord_139 (by decide) ?_
                    have ek : k = 2 := by omega
                    subst ek
                    refine ih49 (1, 2 + 1) ⟨by decide, by decide, Or.inl ⟨rfl, y1.1, y1.2.1, fun j j1 => ?_⟩⟩ (by dsimp only; omega)
                    dsimp only at j1
                    by_cases ej : j = 2
                    · subst ej; exact h126
                    · exact y1.2.2 j (by omega)
              · refine w_iload_n dX5_isWord_88 rfl ?_
                refine w_goto (tgt := 126) dX5_isWord_89 (by decide) ?_
                refine w_icmp_ne (tgt := 133) (by omega) (by omega) dX5_isWord_126 (by decide) (fun h126 => ?_) (fun h126 => ?_)
                · refine w_iconst dX5_isWord_133 ?_
                  refine w_istore dX5_isWord_134 (by decide) rfl ?_
                  refine w_iinc dX5_isWord_136 rfl (by decide) rfl ?_
                  refine w_goto (tgt := 49) dX5_isWord_139 (by decide) ?_
                  have ek : k = 1 := by omega
                  subst ek
                  refine ih49 (0, 1 + 1) ⟨by decide, by decide, Or.inr ⟨rfl, fun z => ?_⟩⟩ (by dsimp only; omega)
                  exact h126 (z.2.2 1 (by decide))
                · refine w_iconst dX5_isWord_129 ?_
                  refine w_goto (tgt := 134) dX5_isWord_130 (by decide) ?_
                  refine w_istore dX5_isWord_134 (by decide) rfl ?_
                  refine w_iinc dX5_isWord_136 rfl (by decide) rfl ?_
                  refine w_goto (tgt := 49) dX5_isWord_139 (by decide) ?_
                  have ek : k = 1 := by omega
                  subst ek
                  refine ih49 (1, 1 + 1) ⟨by decide, by decide, Or.inl ⟨rfl, y1.1, y1.2.1, fun j j1 => ?_⟩⟩ (by dsimp only; omega)
                  dsimp only at j1
                  by_cases ej : j = 1
                  · subst ej; exact h126
                  · exact y1.2.2 j (by omega)
            · refine w_iload_n dX5_isWord_78 rfl ?_
              refine w_goto (tgt := 126) dX5_isWord_79 (by decide) ?_
              refine w_icmp_ne (tgt := 133) (by omega) (by omega) dX5_isWord_126 (by decide) (fun h126 => ?_) (fun h126 => ?_)
              · refine w_iconst dX5_isWord_133 ?_
                refine w_istore dX5_isWord_134 (by decide) rfl ?_
                refine w_iinc dX5_isWord_136 rfl (by decide) rfl ?_
                refine w_goto (tgt := 49) dX5_isWord_139 (by decide) ?_
                have ek : k = 0 := by omega
                subst ek
                refine ih49 (0, 0 + 1) ⟨by decide, by decide, Or.inr ⟨rfl, fun z => ?_⟩⟩ (by dsimp only; omega)
                exact h126 (z.2.2 0 (by decide))
              · refine w_iconst dX5_isWord_129 ?_
                refine w_goto (tgt := 134) dX5_isWord_130 (by decide) ?_
                refine w_istore dX5_isWord_134 (by decide) rfl ?_
                refine w_iinc dX5_isWord_136 rfl (by decide) rfl ?_
                refine w_goto (tgt := 49) dX5_isWord_139 (by decide) ?_
                have ek : k = 0 := by omega
                subst ek
                refine ih49 (1, 0 + 1) ⟨by decide, by decide, Or.inl ⟨rfl, y1.1, y1.2.1, fun j j1 => ?_⟩⟩ (by dsimp only; omega)
                dsimp only at j1
                by_cases ej : j = 0
                · subst ej; exact h126
                · exact y1.2.2 j (by omega)
      · refine w_aload_n dX5_isWord_30 rfl ?_
        refine gf_X5_211 rfl dX5_isWord_31 ?_
        have hlen : μ 167 15 = tE T L p - tA T L p := by have := ht.1; have := ht.2.1; omega
        rw [hlen]
        refine w_iload dX5_isWord_34 rfl ?_
        refine w_icmp_ne (tgt := 43) (by omega) (by omega) dX5_isWord_36 (by decide) (fun h36 => ?_) (fun h36 => ?_)
        · refine w_iconst dX5_isWord_43 ?_
          refine w_istore dX5_isWord_44 (by decide) rfl ?_
          refine w_iconst dX5_isWord_46 ?_
          refine w_istore dX5_isWord_47 (by decide) rfl ?_
          refine w_loop (ι := Int × Int) (fun i => match i with | (b, k) => 0 ≤ k ∧ k ≤ 6 ∧ ((b = 1 ∧ tS T L p = 1 ∧ tE T L p - tA T L p = wCannon.length ∧ ∀ j : Nat, (j : Int) < k → T (tA T L p + j) = wCannon.getD j 0) ∨ (b = 0 ∧ ¬ isW T L p wCannon))) (fun i => match i with | (b, k) => (6 - k).toNat) (fun i => match i with | (b, k) => [some (vR 167), some (vI 99), some (vI 97), some (vI 110), some (vI 110), some (vI 111), some (vI 110), some (vI 6), some (vI b), some (vI k)]) (fun i => match i with | (b, k) => μ) ?_ (_, 0) ⟨by decide, by decide, by first | exact Or.inl ⟨rfl, by omega, (by show tE T L p - tA T L p = 6; omega), fun j j1 => by omega⟩ | (refine Or.inr ⟨rfl, fun z => ?_⟩; have z1 := z.1; have z2 : tE T L p - tA T L p = 6 := z.2.1; omega)⟩
          intro i_ hinv49 ih49
          obtain ⟨b, k⟩ := i_
          try dsimp only at hinv49 ih49 ⊢
          obtain ⟨y1_, y2, y3⟩ := hinv49
          have yr : b = 0 ∨ b = 1 := by rcases y3 with ⟨z, -⟩ | ⟨z, -⟩ <;> omega
          refine w_iload dX5_isWord_49 rfl ?_
          refine w_iload dX5_isWord_51 rfl ?_
          refine w_icmp_ge (tgt := 142) (by omega) (by omega) dX5_isWord_53 (by decide) (fun h53 => ?_) (fun h53 => ?_)
          · refine w_iload dX5_isWord_142 rfl ?_
            exact w_zretP rfl dX5_isWord_144 (by omega) (by refine ⟨?_, rfl⟩; rcases y3 with ⟨z, z1, z2, z3⟩ | ⟨z, z1⟩; (first | (exfalso; omega) | exact Or.inl ⟨z, z1, z2, fun j j1 => z3 j (by have : wCannon.length = 6 := rfl; omega)⟩); exact Or.inr ⟨z, z1⟩)
          · refine w_iload dX5_isWord_56 rfl ?_
            refine w_if_eq (tgt := 142) (by omega) dX5_isWord_58 (by decide) (fun h58 => ?_) (fun h58 => ?_)
            · refine w_iload dX5_isWord_142 rfl ?_
              exact w_zretP rfl dX5_isWord_144 (by omega) (by refine ⟨?_, rfl⟩; rcases y3 with ⟨z, z1, z2, z3⟩ | ⟨z, z1⟩; (first | (exfalso; omega) | exact Or.inl ⟨z, z1, z2, fun j j1 => z3 j (by have : wCannon.length = 6 := rfl; omega)⟩); exact Or.inr ⟨z, z1⟩)
            · obtain y1 : tS T L p = 1 ∧ tE T L p - tA T L p = wCannon.length ∧ ∀ j : Nat, (j : Int) < k → T (tA T L p + j) = wCannon.getD j 0 := by
                rcases y3 with ⟨-, z⟩ | ⟨z, -⟩
                · exact z
                · exfalso; omega
              have hlen2 : tE T L p - tA T L p = 6 := y1.2.1
              refine w_aload_n dX5_isWord_61 rfl ?_
              refine gf_X5_42 rfl dX5_isWord_62 ?_
              refine w_aload_n dX5_isWord_65 rfl ?_
              refine gf_X5_208 rfl dX5_isWord_66 ?_
              rw [ht.1]
              refine w_iload dX5_isWord_69 rfl ?_
              refine w_iadd dX5_isWord_71 ?_
              have hb := hX.2 (tA T L p + k) (by omega) (by omega)
              refine w_iald ar_177 (by omega) dX5_isWord_72 ?_
              rw [hT]
              refine w_iload dX5_isWord_73 rfl ?_
              refine w_if_ne (tgt := 82) (by omega) dX5_isWord_75 (by decide) (fun h75 => ?_) (fun h75 => ?_)
              · refine w_iload dX5_isWord_82 rfl ?_
                refine w_iconst dX5_isWord_84 ?_
                refine w_icmp_ne (tgt := 92) (by omega) (by omega) dX5_isWord_85 (by decide) (fun h85 => ?_) (fun h85 => ?_)
                · refine w_iload dX5_isWord_92 rfl ?_
                  refine w_iconst dX5_isWord_94 ?_
                  refine w_icmp_ne (tgt := 102) (by omega) (by omega) dX5_isWord_95 (by decide) (fun h95 => ?_) (fun h95 => ?_)
                  · refine w_iload dX5_isWord_102 rfl ?_
                    refine w_iconst dX5_isWord_104 ?_
                    refine w_icmp_ne (tgt := 113) (by omega) (by omega) dX5_isWord_105 (by decide) (fun h105 => ?_) (fun h105 => ?_)
                    · refine w_iload dX5_isWord_113 rfl ?_
                      refine w_iconst dX5_isWord_115 ?_
                      refine w_icmp_ne (tgt := 124) (by omega) (by omega) dX5_isWord_116 (by decide) (fun h116 => ?_) (fun h116 => ?_)
                      · refine w_iload dX5_isWord_124 rfl ?_
                        refine w_icmp_ne (tgt := 133) (by omega) (by omega) dX5_isWord_126 (by decide) (fun h126 => ?_) (fun h126 => ?_)
                        · refine w_iconst dX5_isWord_133 ?_
                          refine w_istore dX5_isWord_134 (by decide) rfl ?_
                          refine w_iinc dX5_isWord_136 rfl (by decide) rfl ?_
                          refine w_goto (tgt := 49) dX5_isWord_139 (by decide) ?_
                          have ek : k = 5 := by omega
                          subst ek
                          refine ih49 (0, 5 + 1) ⟨by decide, by decide, Or.inr ⟨rfl, fun z => ?_⟩⟩ (by dsimp only; omega)
                          exact h126 (z.2.2 5 (by decide))
                        · refine w_iconst dX5_isWord_129 ?_
                          refine w_goto (tgt := 134) dX5_isWord_130 (by decide) ?_
                          refine w_istore dX5_isWord_134 (by decide) rfl ?_
                          refine w_iinc dX5_isWord_136 rfl (by decide) rfl ?_
                          refine w_goto (tgt := 49) dX5_isWord_139 (by decide) ?_
                          have ek : k = 5 := by omega
                          subst ek
                          refine ih49 (1, 5 + 1) ⟨by decide, by decide, Or.inl ⟨rfl, y1.1, y1.2.1, fun j j1 => ?_⟩⟩ (by dsimp only; omega)
                          dsimp only at j1
                          by_cases ej : j = 5
                          · subst ej; exact h126
                          · exact y1.2.2 j (by omega)
                      · refine w_iload dX5_isWord_119 rfl ?_
                        refine w_goto (tgt := 126) dX5_isWord_121 (by decide) ?_
                        refine w_icmp_ne (tgt := 133) (by omega) (by omega) dX5_isWord_126 (by decide) (fun h126 => ?_) (fun h126 => ?_)
                        · refine w_iconst dX5_isWord_133 ?_
                          refine w_istore dX5_isWord_134 (by decide) rfl ?_
                          refine w_iinc dX5_isWord_136 rfl (by decide) rfl ?_
                          refine w_goto (tgt := 49) dX5_isWord_139 (by decide) ?_
                          have ek : k = 4 := by omega
                          subst ek
                          refine ih49 (0, 4 + 1) ⟨by decide, by decide, Or.inr ⟨rfl, fun z => ?_⟩⟩ (by dsimp only; omega)
                          exact h126 (z.2.2 4 (by decide))
                        · refine w_iconst dX5_isWord_129 ?_
                          refine w_goto (tgt := 134) dX5_isWord_130 (by decide) ?_
                          refine w_istore dX5_isWord_134 (by decide) rfl ?_
                          refine w_iinc dX5_isWord_136 rfl (by decide) rfl ?_
                          refine w_goto (tgt := 49) dX5_isWord_139 (by decide) ?_
                          have ek : k = 4 := by omega
                          subst ek
                          refine ih49 (1, 4 + 1) ⟨by decide, by decide, Or.inl ⟨rfl, y1.1, y1.2.1, fun j j1 => ?_⟩⟩ (by dsimp only; omega)
                          dsimp only at j1
                          by_cases ej : j = 4
                          · subst ej; exact h126
                          · exact y1.2.2 j (by omega)
                    · refine w_iload dX5_isWord_108 rfl ?_
                      refine w_goto (tgt := 126) dX5_isWord_110 (by decide) ?_
                      refine w_icmp_ne (tgt := 133) (by omega) (by omega) dX5_isWord_126 (by decide) (fun h126 => ?_) (fun h126 => ?_)
                      · refine w_iconst dX5_isWord_133 ?_
                        refine w_istore dX5_isWord_134 (by decide) rfl ?_
                        refine w_iinc dX5_isWord_136 rfl (by decide) rfl ?_
                        refine w_goto (tgt := 49) dX5_isWord_139 (by decide) ?_
                        have ek : k = 3 := by omega
                        subst ek
                        refine ih49 (0, 3 + 1) ⟨by decide, by decide, Or.inr ⟨rfl, fun z => ?_⟩⟩ (by dsimp only; omega)
                        exact h126 (z.2.2 3 (by decide))
                      · refine w_iconst dX5_isWord_129 ?_
                        refine w_goto (tgt := 134) dX5_isWord_130 (by decide) ?_
                        refine w_istore dX5_isWord_134 (by decide) rfl ?_
                        refine w_iinc dX5_isWord_136 rfl (by decide) rfl ?_
                        refine w_goto (tgt := 49) dX5_isWord_139 (by decide) ?_
                        have ek : k = 3 := by omega
                        subst ek
                        refine ih49 (1, 3 + 1) ⟨by decide, by decide, Or.inl ⟨rfl, y1.1, y1.2.1, fun j j1 => ?_⟩⟩ (by dsimp only; omega)
                        dsimp only at j1
                        by_cases ej : j = 3
                        · subst ej; exact h126
                        · exact y1.2.2 j (by omega)
                  · refine w_iload_n dX5_isWord_98 rfl ?_
                    refine w_goto (tgt := 126) dX5_isWord_99 (by decide) ?_
                    refine w_icmp_ne (tgt := 133) (by omega) (by omega) dX5_isWord_126 (by decide) (fun h126 => ?_) (fun h126 => ?_)
                    · refine w_iconst dX5_isWord_133 ?_
                      refine w_istore dX5_isWord_134 (by decide) rfl ?_
                      refine w_iinc dX5_isWord_136 rfl (by decide) rfl ?_
                      refine w_goto (tgt := 49) dX5_isWord_139 (by decide) ?_
                      have ek : k = 2 := by omega
                      subst ek
                      refine ih49 (0, 2 + 1) ⟨by decide, by decide, Or.inr ⟨rfl, fun z => ?_⟩⟩ (by dsimp only; omega)
                      exact h126 (z.2.2 2 (by decide))
                    · refine w_iconst dX5_isWord_129 ?_
                      refine w_goto (tgt := 134) dX5_isWord_130 (by decide) ?_
                      refine w_istore dX5_isWord_134 (by decide) rfl ?_
                      refine w_iinc dX5_isWord_136 rfl (by decide) rfl ?_
                      refine w_goto (tgt := 49) dX5_isWord_139 (by decide) ?_
                      have ek : k = 2 := by omega
                      subst ek
                      refine ih49 (1, 2 + 1) ⟨by decide, by decide, Or.inl ⟨rfl, y1.1, y1.2.1, fun j j1 => ?_⟩⟩ (by dsimp only; omega)
                      dsimp only at j1
                      by_cases ej : j = 2
                      · subst ej; exact h126
                      · exact y1.2.2 j (by omega)
                · refine w_iload_n dX5_isWord_88 rfl ?_
                  refine w_goto (tgt := 126) dX5_isWord_89 (by decide) ?_
                  refine w_icmp_ne (tgt := 133) (by omega) (by omega) dX5_isWord_126 (by decide) (fun h126 => ?_) (fun h126 => ?_)
                  · refine w_iconst dX5_isWord_133 ?_
                    refine w_istore dX5_isWord_134 (by decide) rfl ?_
                    refine w_iinc dX5_isWord_136 rfl (by decide) rfl ?_
                    refine w_goto (tgt := 49) dX5_isWord_139 (by decide) ?_
                    have ek : k = 1 := by omega
                    subst ek
                    refine ih49 (0, 1 + 1) ⟨by decide, by decide, Or.inr ⟨rfl, fun z => ?_⟩⟩ (by dsimp only; omega)
                    exact h126 (z.2.2 1 (by decide))
                  · refine w_iconst dX5_isWord_129 ?_
                    refine w_goto (tgt := 134) dX5_isWord_130 (by decide) ?_
                    refine w_istore dX5_isWord_134 (by decide) rfl ?_
                    refine w_iinc dX5_isWord_136 rfl (by decide) rfl ?_
                    refine w_goto (tgt := 49) dX5_isWord_139 (by decide) ?_
                    have ek : k = 1 := by omega
                    subst ek
                    refine ih49 (1, 1 + 1) ⟨by decide, by decide, Or.inl ⟨rfl, y1.1, y1.2.1, fun j j1 => ?_⟩⟩ (by dsimp only; omega)
                    dsimp only at j1
                    by_cases ej : j = 1
                    · subst ej; exact h126
                    · exact y1.2.2 j (by omega)
              · refine w_iload_n dX5_isWord_78 rfl ?_
                refine w_goto (tgt := 126) dX5_isWord_79 (by decide) ?_
                refine w_icmp_ne (tgt := 133) (by omega) (by omega) dX5_isWord_126 (by decide) (fun h126 => ?_) (fun h126 => ?_)
                · refine w_iconst dX5_isWord_133 ?_
                  refine w_istore dX5_isWord_134 (by decide) rfl ?_
                  refine w_iinc dX5_isWord_136 rfl (by decide) rfl ?_
                  refine w_goto (tgt := 49) dX5_isWord_139 (by decide) ?_
                  have ek : k = 0 := by omega
                  subst ek
                  refine ih49 (0, 0 + 1) ⟨by decide, by decide, Or.inr ⟨rfl, fun z => ?_⟩⟩ (by dsimp only; omega)
                  exact h126 (z.2.2 0 (by decide))
                · refine w_iconst dX5_isWord_129 ?_
                  refine w_goto (tgt := 134) dX5_isWord_130 (by decide) ?_
                  refine w_istore dX5_isWord_134 (by decide) rfl ?_
                  refine w_iinc dX5_isWord_136 rfl (by decide) rfl ?_
                  refine w_goto (tgt := 49) dX5_isWord_139 (by decide) ?_
                  have ek : k = 0 := by omega
                  subst ek
                  refine ih49 (1, 0 + 1) ⟨by decide, by decide, Or.inl ⟨rfl, y1.1, y1.2.1, fun j j1 => ?_⟩⟩ (by dsimp only; omega)
                  dsimp only at j1
                  by_cases ej : j = 0
                  · subst ej; exact h126
                  · exact y1.2.2 j (by omega)
        · refine w_iconst dX5_isWord_39 ?_
          refine w_goto (tgt := 44) dX5_isWord_40 (by decide) ?_
          refine w_istore dX5_isWord_44 (by decide) rfl ?_
          refine w_iconst dX5_isWord_46 ?_
          refine w_istore dX5_isWord_47 (by decide) rfl ?_
          refine w_loop (ι := Int × Int) (fun i => match i with | (b, k) => 0 ≤ k ∧ k ≤ 6 ∧ ((b = 1 ∧ tS T L p = 1 ∧ tE T L p - tA T L p = wCannon.length ∧ ∀ j : Nat, (j : Int) < k → T (tA T L p + j) = wCannon.getD j 0) ∨ (b = 0 ∧ ¬ isW T L p wCannon))) (fun i => match i with | (b, k) => (6 - k).toNat) (fun i => match i with | (b, k) => [some (vR 167), some (vI 99), some (vI 97), some (vI 110), some (vI 110), some (vI 111), some (vI 110), some (vI 6), some (vI b), some (vI k)]) (fun i => match i with | (b, k) => μ) ?_ (_, 0) ⟨by decide, by decide, by first | exact Or.inl ⟨rfl, by omega, (by show tE T L p - tA T L p = 6; omega), fun j j1 => by omega⟩ | (refine Or.inr ⟨rfl, fun z => ?_⟩; have z1 := z.1; have z2 : tE T L p - tA T L p = 6 := z.2.1; omega)⟩
          intro i_ hinv49 ih49
          obtain ⟨b, k⟩ := i_
          try dsimp only at hinv49 ih49 ⊢
          obtain ⟨y1_, y2, y3⟩ := hinv49
          have yr : b = 0 ∨ b = 1 := by rcases y3 with ⟨z, -⟩ | ⟨z, -⟩ <;> omega
          refine w_iload dX5_isWord_49 rfl ?_
          refine w_iload dX5_isWord_51 rfl ?_
          refine w_icmp_ge (tgt := 142) (by omega) (by omega) dX5_isWord_53 (by decide) (fun h53 => ?_) (fun h53 => ?_)
          · refine w_iload dX5_isWord_142 rfl ?_
            exact w_zretP rfl dX5_isWord_144 (by omega) (by refine ⟨?_, rfl⟩; rcases y3 with ⟨z, z1, z2, z3⟩ | ⟨z, z1⟩; (first | (exfalso; omega) | exact Or.inl ⟨z, z1, z2, fun j j1 => z3 j (by have : wCannon.length = 6 := rfl; omega)⟩); exact Or.inr ⟨z, z1⟩)
          · refine w_iload dX5_isWord_56 rfl ?_
            refine w_if_eq (tgt := 142) (by omega) dX5_isWord_58 (by decide) (fun h58 => ?_) (fun h58 => ?_)
            · refine w_iload dX5_isWord_142 rfl ?_
              exact w_zretP rfl dX5_isWord_144 (by omega) (by refine ⟨?_, rfl⟩; rcases y3 with ⟨z, z1, z2, z3⟩ | ⟨z, z1⟩; (first | (exfalso; omega) | exact Or.inl ⟨z, z1, z2, fun j j1 => z3 j (by have : wCannon.length = 6 := rfl; omega)⟩); exact Or.inr ⟨z, z1⟩)
            · obtain y1 : tS T L p = 1 ∧ tE T L p - tA T L p = wCannon.length ∧ ∀ j : Nat, (j : Int) < k → T (tA T L p + j) = wCannon.getD j 0 := by
                rcases y3 with ⟨-, z⟩ | ⟨z, -⟩
                · exact z
                · exfalso; omega
              have hlen2 : tE T L p - tA T L p = 6 := y1.2.1
              refine w_aload_n dX5_isWord_61 rfl ?_
              refine gf_X5_42 rfl dX5_isWord_62 ?_
              refine w_aload_n dX5_isWord_65 rfl ?_
              refine gf_X5_208 rfl dX5_isWord_66 ?_
              rw [ht.1]
              refine w_iload dX5_isWord_69 rfl ?_
              refine w_iadd dX5_isWord_71 ?_
              have hb := hX.2 (tA T L p + k) (by omega) (by omega)
              refine w_iald ar_177 (by omega) dX5_isWord_72 ?_
              rw [hT]
              refine w_iload dX5_isWord_73 rfl ?_
              refine w_if_ne (tgt := 82) (by omega) dX5_isWord_75 (by decide) (fun h75 => ?_) (fun h75 => ?_)
              · refine w_iload dX5_isWord_82 rfl ?_
                refine w_iconst dX5_isWord_84 ?_
                refine w_icmp_ne (tgt := 92) (by omega) (by omega) dX5_isWord_85 (by decide) (fun h85 => ?_) (fun h85 => ?_)
                · refine w_iload dX5_isWord_92 rfl ?_
                  refine w_iconst dX5_isWord_94 ?_
                  refine w_icmp_ne (tgt := 102) (by omega) (by omega) dX5_isWord_95 (by decide) (fun h95 => ?_) (fun h95 => ?_)
                  · refine w_iload dX5_isWord_102 rfl ?_
                    refine w_iconst dX5_isWord_104 ?_
                    refine w_icmp_ne (tgt := 113) (by omega) (by omega) dX5_isWord_105 (by decide) (fun h105 => ?_) (fun h105 => ?_)
                    · refine w_iload dX5_isWord_113 rfl ?_
                      refine w_iconst dX5_isWord_115 ?_
                      refine w_icmp_ne (tgt := 124) (by omega) (by omega) dX5_isWord_116 (by decide) (fun h116 => ?_) (fun h116 => ?_)
                      · refine w_iload dX5_isWord_124 rfl ?_
                        refine w_icmp_ne (tgt := 133) (by omega) (by omega) dX5_isWord_126 (by decide) (fun h126 => ?_) (fun h126 => ?_)
                        · refine w_iconst dX5_isWord_133 ?_
                          refine w_istore dX5_isWord_134 (by decide) rfl ?_
                          refine w_iinc dX5_isWord_136 rfl (by decide) rfl ?_
                          refine w_goto (tgt := 49) dX5_isWord_139 (by decide) ?_
                          have ek : k = 5 := by omega
                          subst ek
                          refine ih49 (0, 5 + 1) ⟨by decide, by decide, Or.inr ⟨rfl, fun z => ?_⟩⟩ (by dsimp only; omega)
                          exact h126 (z.2.2 5 (by decide))
                        · refine w_iconst dX5_isWord_129 ?_
                          refine w_goto (tgt := 134) dX5_isWord_130 (by decide) ?_
                          refine w_istore dX5_isWord_134 (by decide) rfl ?_
                          refine w_iinc dX5_isWord_136 rfl (by decide) rfl ?_
                          refine w_goto (tgt := 49) dX5_isWord_139 (by decide) ?_
                          have ek : k = 5 := by omega
                          subst ek
                          refine ih49 (1, 5 + 1) ⟨by decide, by decide, Or.inl ⟨rfl, y1.1, y1.2.1, fun j j1 => ?_⟩⟩ (by dsimp only; omega)
                          dsimp only at j1
                          by_cases ej : j = 5
                          · subst ej; exact h126
                          · exact y1.2.2 j (by omega)
                      · refine w_iload dX5_isWord_119 rfl ?_
                        refine w_goto (tgt := 126) dX5_isWord_121 (by decide) ?_
                        refine w_icmp_ne (tgt := 133) (by omega) (by omega) dX5_isWord_126 (by decide) (fun h126 => ?_) (fun h126 => ?_)
                        · refine w_iconst dX5_isWord_133 ?_
                          refine w_istore dX5_isWord_134 (by decide) rfl ?_
                          refine w_iinc dX5_isWord_136 rfl (by decide) rfl ?_
                          refine w_goto (tgt := 49) dX5_isWord_139 (by decide) ?_
                          have ek : k = 4 := by omega
                          subst ek
                          refine ih49 (0, 4 + 1) ⟨by decide, by decide, Or.inr ⟨rfl, fun z => ?_⟩⟩ (by dsimp only; omega)
                          exact h126 (z.2.2 4 (by decide))
                        · refine w_iconst dX5_isWord_129 ?_
                          refine w_goto (tgt := 134) dX5_isWord_130 (by decide) ?_
                          refine w_istore dX5_isWord_134 (by decide) rfl ?_
                          refine w_iinc dX5_isWord_136 rfl (by decide) rfl ?_
                          refine w_goto (tgt := 49) dX5_isWord_139 (by decide) ?_
                          have ek : k = 4 := by omega
                          subst ek
                          refine ih49 (1, 4 + 1) ⟨by decide, by decide, Or.inl ⟨rfl, y1.1, y1.2.1, fun j j1 => ?_⟩⟩ (by dsimp only; omega)
                          dsimp only at j1
                          by_cases ej : j = 4
                          · subst ej; exact h126
                          · exact y1.2.2 j (by omega)
                    · refine w_iload dX5_isWord_108 rfl ?_
                      refine w_goto (tgt := 126) dX5_isWord_110 (by decide) ?_
                      refine w_icmp_ne (tgt := 133) (by omega) (by omega) dX5_isWord_126 (by decide) (fun h126 => ?_) (fun h126 => ?_)
                      · refine w_iconst dX5_isWord_133 ?_
                        refine w_istore dX5_isWord_134 (by decide) rfl ?_
                        refine w_iinc dX5_isWord_136 rfl (by decide) rfl ?_
                        refine w_goto (tgt := 49) dX5_isWord_139 (by decide) ?_
                        have ek : k = 3 := by omega
                        subst ek
                        refine ih49 (0, 3 + 1) ⟨by decide, by decide, Or.inr ⟨rfl, fun z => ?_⟩⟩ (by dsimp only; omega)
                        exact h126 (z.2.2 3 (by decide))
                      · refine w_iconst dX5_isWord_129 ?_
                        refine w_goto (tgt := 134) dX5_isWord_130 (by decide) ?_
                        refine w_istore dX5_isWord_134 (by decide) rfl ?_
                        refine w_iinc dX5_isWord_136 rfl (by decide) rfl ?_
                        refine w_goto (tgt := 49) dX5_isWord_139 (by decide) ?_
                        have ek : k = 3 := by omega
                        subst ek
                        refine ih49 (1, 3 + 1) ⟨by decide, by decide, Or.inl ⟨rfl, y1.1, y1.2.1, fun j j1 => ?_⟩⟩ (by dsimp only; omega)
                        dsimp only at j1
                        by_cases ej : j = 3
                        · subst ej; exact h126
                        · exact y1.2.2 j (by omega)
                  · refine w_iload_n dX5_isWord_98 rfl ?_
                    refine w_goto (tgt := 126) dX5_isWord_99 (by decide) ?_
                    refine w_icmp_ne (tgt := 133) (by omega) (by omega) dX5_isWord_126 (by decide) (fun h126 => ?_) (fun h126 => ?_)
                    · refine w_iconst dX5_isWord_133 ?_
                      refine w_istore dX5_isWord_134 (by decide) rfl ?_
                      refine w_iinc dX5_isWord_136 rfl (by decide) rfl ?_
                      refine w_goto (tgt := 49) dX5_isWord_139 (by decide) ?_
                      have ek : k = 2 := by omega
                      subst ek
                      refine ih49 (0, 2 + 1) ⟨by decide, by decide, Or.inr ⟨rfl, fun z => ?_⟩⟩ (by dsimp only; omega)
                      exact h126 (z.2.2 2 (by decide))
                    · refine w_iconst dX5_isWord_129 ?_
                      refine w_goto (tgt := 134) dX5_isWord_130 (by decide) ?_
                      refine w_istore dX5_isWord_134 (by decide) rfl ?_
                      refine w_iinc dX5_isWord_136 rfl (by decide) rfl ?_
                      refine w_goto (tgt := 49) dX5_isWord_139 (by decide) ?_
                      have ek : k = 2 := by omega
                      subst ek
                      refine ih49 (1, 2 + 1) ⟨by decide, by decide, Or.inl ⟨rfl, y1.1, y1.2.1, fun j j1 => ?_⟩⟩ (by dsimp only; omega)
                      dsimp only at j1
                      by_cases ej : j = 2
                      · subst ej; exact h126
                      · exact y1.2.2 j (by omega)
                · refine w_iload_n dX5_isWord_88 rfl ?_
                  refine w_goto (tgt := 126) dX5_isWord_89 (by decide) ?_
                  refine w_icmp_ne (tgt := 133) (by omega) (by omega) dX5_isWord_126 (by decide) (fun h126 => ?_) (fun h126 => ?_)
                  · refine w_iconst dX5_isWord_133 ?_
                    refine w_istore dX5_isWord_134 (by decide) rfl ?_
                    refine w_iinc dX5_isWord_136 rfl (by decide) rfl ?_
                    refine w_goto (tgt := 49) dX5_isWord_139 (by decide) ?_
                    have ek : k = 1 := by omega
                    subst ek
                    refine ih49 (0, 1 + 1) ⟨by decide, by decide, Or.inr ⟨rfl, fun z => ?_⟩⟩ (by dsimp only; omega)
                    exact h126 (z.2.2 1 (by decide))
                  · refine w_iconst dX5_isWord_129 ?_
                    refine w_goto (tgt := 134) dX5_isWord_130 (by decide) ?_
                    refine w_istore dX5_isWord_134 (by decide) rfl ?_
                    refine w_iinc dX5_isWord_136 rfl (by decide) rfl ?_
                    refine w_goto (tgt := 49) dX5_isWord_139 (by decide) ?_
                    have ek : k = 1 := by omega
                    subst ek
                    refine ih49 (1, 1 + 1) ⟨by decide, by decide, Or.inl ⟨rfl, y1.1, y1.2.1, fun j j1 => ?_⟩⟩ (by dsimp only; omega)
                    dsimp only at j1
                    by_cases ej : j = 1
                    · subst ej; exact h126
                    · exact y1.2.2 j (by omega)
              · refine w_iload_n dX5_isWord_78 rfl ?_
                refine w_goto (tgt := 126) dX5_isWord_79 (by decide) ?_
                refine w_icmp_ne (tgt := 133) (by omega) (by omega) dX5_isWord_126 (by decide) (fun h126 => ?_) (fun h126 => ?_)
                · refine w_iconst dX5_isWord_133 ?_
                  refine w_istore dX5_isWord_134 (by decide) rfl ?_
                  refine w_iinc dX5_isWord_136 rfl (by decide) rfl ?_
                  refine w_goto (tgt := 49) dX5_isWord_139 (by decide) ?_
                  have ek : k = 0 := by omega
                  subst ek
                  refine ih49 (0, 0 + 1) ⟨by decide, by decide, Or.inr ⟨rfl, fun z => ?_⟩⟩ (by dsimp only; omega)
                  exact h126 (z.2.2 0 (by decide))
                · refine w_iconst dX5_isWord_129 ?_
                  refine w_goto (tgt := 134) dX5_isWord_130 (by decide) ?_
                  refine w_istore dX5_isWord_134 (by decide) rfl ?_
                  refine w_iinc dX5_isWord_136 rfl (by decide) rfl ?_
                  refine w_goto (tgt := 49) dX5_isWord_139 (by decide) ?_
                  have ek : k = 0 := by omega
                  subst ek
                  refine ih49 (1, 0 + 1) ⟨by decide, by decide, Or.inl ⟨rfl, y1.1, y1.2.1, fun j j1 => ?_⟩⟩ (by dsimp only; omega)
                  dsimp only at j1
                  by_cases ej : j = 0
                  · subst ej; exact h126
                  · exact y1.2.2 j (by omega)
    · exfalso; omega
  · exfalso; omega
set_option maxRecDepth 100000 in
set_option maxHeartbeats 4000000 in
theorem c_X5_takes {g : gG} {l : Launch} {μ : gM} {k : Int} {lo : Int} {hi : Int} {T : Int → Int} {L p : Int} (hT : μ 177 = T) (hL : μ 167 13 = L) (hX : TXo T L) (ht : tkm μ T L p) (hp0 : 0 ≤ p ∧ p ≤ L) (hk : 0 ≤ k ∧ k < 6) (h1 : 0 ≤ lo ∧ lo ≤ 255) (h2 : 0 ≤ hi ∧ hi ≤ 255) : CT g l YX5_takes 4 [vR 167, vI k, vI lo, vI hi] μ (pI fun e μ2 => TKQ T L p k lo hi μ e μ2) := by
  have hSb := tS_bd T L p
  refine CT.of (n := 0) (by decide) rfl ?_
  show WA g l YX5_takes 4 _ 0 [some (vR 167), some (vI k), some (vI lo), some (vI hi)] [] μ
  refine w_aload_n dX5_takes_0 rfl ?_
  refine gf_X5_214 rfl dX5_takes_1 ?_
  rw [ht.2.2.1]
  refine w_iconst dX5_takes_4 ?_
  refine w_icmp_ne (tgt := 23) (by omega) (by omega) dX5_takes_5 (by decide) (fun h5 => ?_) (fun h5 => ?_)
  · refine w_iconst dX5_takes_23 ?_
    exact w_zretP rfl dX5_takes_24 (by omega) (by exact Or.inr ⟨rfl, by omega, rfl⟩)
  · refine w_aload_n dX5_takes_8 rfl ?_
    refine gf_X5_217 rfl dX5_takes_9 ?_
    rw [ht.2.2.2 h5]
    have hvb := tV_bd h5
    refine w_i2l (by omega) dX5_takes_12 ?_
    refine w_iload_n dX5_takes_13 rfl ?_
    refine w_i2l (by omega) dX5_takes_14 ?_
    refine w_iload_n dX5_takes_15 rfl ?_
    refine w_i2l (by omega) dX5_takes_16 ?_
    refine w_cS3 kX5_in ml_X5_58 (Nat.le_of_ble_eq_true rfl) (by decide) dX5_takes_17 (c_X5_in (by omega) (by omega) (by omega)) (kI (fun e17 m17 q17 => ?_))
    obtain ⟨q17, rfl⟩ := q17
    refine w_if_ne (tgt := 25) (by omega) dX5_takes_20 (by decide) (fun h20 => ?_) (fun h20 => ?_)
    · refine w_aload_n dX5_takes_25 rfl ?_
      refine gf_X5_48 rfl dX5_takes_26 ?_
      refine w_iload_n dX5_takes_29 rfl ?_
      refine w_aload_n dX5_takes_30 rfl ?_
      refine gf_X5_217 rfl dX5_takes_31 ?_
      rw [ht.2.2.2 h5]
      refine w_iast ar_179 (by omega) dX5_takes_34 ?_
      refine w_aload_n dX5_takes_35 rfl ?_
      refine w_cV0 kX5_goOn ml_X5_230 ob_167 rfl (Nat.le_of_ble_eq_true rfl) (by decide) dX5_takes_36 (c_X5_goOn (T := T) (L := L) (p := p) (by rw [wr_o (by decide)]; exact hT) (by rw [wr_o (by decide)]; exact hL) hX (tkm_fr (wr_o (by decide)) ht) hp0) (kU (fun m36 q36 => ?_))
      obtain ⟨t36, s36⟩ := q36
      refine w_iconst dX5_takes_39 ?_
      exact w_zretP rfl dX5_takes_40 (by omega) (by refine Or.inl ⟨rfl, by omega, t36, ?_, fun j hj => ?_, fun a a1 a2 => ?_, fun j hj => ?_⟩; (rw [s36.1 179 (by decide), wr_s]); (rw [s36.1 179 (by decide), wr_n hj]); (rw [s36.1 a a1, wr_o a2]); (rw [s36.2 j hj, wr_o (by decide)]))
    · refine w_iconst dX5_takes_23 ?_
      exact w_zretP rfl dX5_takes_24 (by omega) (by exact Or.inr ⟨rfl, by omega, rfl⟩)
set_option maxRecDepth 100000 in
set_option maxHeartbeats 4000000 in
theorem c_X5_readsRoof {g : gG} {l : Launch} {μ : gM}  {T : Int → Int} {L p : Int} (hT : μ 177 = T) (hL : μ 167 13 = L) (hX : TXo T L) (ht : tkm μ T L p) (hp0 : 0 ≤ p ∧ p ≤ L) (hK : KI (μ 178)) : CT g l YX5_readsRoof 5 [vR 167] μ (pI fun e μ2 => ITQ T L (if μ 178 93 < 7 then nq T L roofR (tE T L p) else (0, p)) (kAR (μ 178) (μ 178 93) (qv T L p 0) (qv T L p 1) (qv T L p 2) (qv T L p 3) (qv T L p 4) (qv T L p 5)) μ e μ2) := by
  have hK1 := hK.1
  have hP := tE_p T hp0
  refine CT.of (n := 3) (by decide) rfl ?_
  show WA g l YX5_readsRoof 5 _ 0 [some (vR 167), none, none, none] [] μ
  refine w_aload_n dX5_readsRoof_0 rfl ?_
  refine gf_X5_45 rfl dX5_readsRoof_1 ?_
  refine w_bipush dX5_readsRoof_4 (by decide) ?_
  refine w_iald ar_178 (by omega) dX5_readsRoof_6 ?_
  refine w_istore_n dX5_readsRoof_7 (by decide) rfl ?_
  refine w_iload_n dX5_readsRoof_8 rfl ?_
  refine w_bipush dX5_readsRoof_9 (by decide) ?_
  refine w_icmp_ne (tgt := 16) (by omega) (by omega) dX5_readsRoof_11 (by decide) (fun h11 => ?_) (fun h11 => ?_)
  · refine w_aload_n dX5_readsRoof_16 rfl ?_
    refine w_cV0 kX5_goOn ml_X5_230 ob_167 rfl (Nat.le_of_ble_eq_true rfl) (by decide) dX5_readsRoof_17 (c_X5_goOn (T := T) (L := L) (p := p) hT hL hX ht hp0) (kU (fun m17 q17 => ?_))
    obtain ⟨t17, s17⟩ := q17
    refine w_aload_n dX5_readsRoof_20 rfl ?_
    refine w_iconst dX5_readsRoof_21 ?_
    refine w_iconst dX5_readsRoof_22 ?_
    refine w_iconst dX5_readsRoof_23 ?_
    refine w_cV3 kX5_takes ml_X5_233 ob_167 rfl (Nat.le_of_ble_eq_true rfl) (by decide) dX5_readsRoof_24 (c_X5_takes (T := T) (L := L) (p := (tE T L p)) (s17.stv.T hT) (s17.stv.L hL) hX t17 hP (by omega) (by decide) (by decide)) (kI (fun e24 m24 q24 => ?_))
    obtain q24 := q24
    have hR0 := RQ_0 q24 t17 hP
    have s24 := s17.stv.trans q24.s
    refine w_istore_n dX5_readsRoof_27 (by decide) rfl ?_
    refine w_iconst dX5_readsRoof_28 ?_
    refine w_istore_n dX5_readsRoof_29 (by decide) rfl ?_
    refine w_loop (ι := Int × Int × gM) (fun i => match i with | (b, k, m_) => 1 ≤ k ∧ k ≤ 6 ∧ RQ T L (tE T L p) b k m_ ∧ stv μ m_) (fun i => match i with | (b, k, m_) => (6 - k).toNat) (fun i => match i with | (b, k, m_) => [some (vR 167), some (vI (μ 178 93)), some (vI b), some (vI k)]) (fun i => match i with | (b, k, m_) => m_) ?_ (e24, 1, m24) ⟨by decide, by decide, hR0, s24⟩
    intro i_ hinv30 ih30
    obtain ⟨b, k, m_⟩ := i_
    try dsimp only at hinv30 ih30 ⊢
    obtain ⟨a1, a2, hRQ, hs⟩ := hinv30
    have hbb := RQ_b hRQ
    refine w_iload_n dX5_readsRoof_30 rfl ?_
    refine w_bipush dX5_readsRoof_31 (by decide) ?_
    refine w_icmp_ge (tgt := 55) (by omega) (by omega) dX5_readsRoof_33 (by decide) (fun h33 => ?_) (fun h33 => ?_)
    · have e78 : m_ 178 = μ 178 := hs.1 178 (by decide) (by decide)
      refine w_aload_n dX5_readsRoof_55 rfl ?_
      refine gf_X5_45 rfl dX5_readsRoof_56 ?_
      refine w_iload_n dX5_readsRoof_59 rfl ?_
      refine w_aload_n dX5_readsRoof_60 rfl ?_
      refine gf_X5_48 rfl dX5_readsRoof_61 ?_
      refine w_iconst dX5_readsRoof_64 ?_
      refine w_iald ar_179 (by omega) dX5_readsRoof_65 ?_
      refine w_aload_n dX5_readsRoof_66 rfl ?_
      refine gf_X5_48 rfl dX5_readsRoof_67 ?_
      refine w_iconst dX5_readsRoof_70 ?_
      refine w_iald ar_179 (by omega) dX5_readsRoof_71 ?_
      refine w_aload_n dX5_readsRoof_72 rfl ?_
      refine gf_X5_48 rfl dX5_readsRoof_73 ?_
      refine w_iconst dX5_readsRoof_76 ?_
      refine w_iald ar_179 (by omega) dX5_readsRoof_77 ?_
      refine w_aload_n dX5_readsRoof_78 rfl ?_
      refine gf_X5_48 rfl dX5_readsRoof_79 ?_
      refine w_iconst dX5_readsRoof_82 ?_
      refine w_iald ar_179 (by omega) dX5_readsRoof_83 ?_
      refine w_aload_n dX5_readsRoof_84 rfl ?_
      refine gf_X5_48 rfl dX5_readsRoof_85 ?_
      refine w_iconst dX5_readsRoof_88 ?_
      refine w_iald ar_179 (by omega) dX5_readsRoof_89 ?_
      refine w_aload_n dX5_readsRoof_90 rfl ?_
      refine gf_X5_48 rfl dX5_readsRoof_91 ?_
      refine w_iconst dX5_readsRoof_94 ?_
      refine w_iald ar_179 (by omega) dX5_readsRoof_95 ?_
      refine w_cS8 kX5_layRoof ml_X5_80 (Nat.le_of_ble_eq_true rfl) (by decide) dX5_readsRoof_96 (c_X5_layRoof ar_178 (by omega)) (kU (fun m96 q96 => ?_))
      obtain rfl := q96
      refine w_aload_n dX5_readsRoof_99 rfl ?_
      refine gf_X5_45 rfl dX5_readsRoof_100 ?_
      refine w_bipush dX5_readsRoof_103 (by decide) ?_
      refine w_dup2 dX5_readsRoof_105 ?_
      refine w_iald ar_178 (by omega) dX5_readsRoof_106 ?_
      refine w_iconst dX5_readsRoof_107 ?_
      refine w_iadd dX5_readsRoof_108 ?_
      refine w_iast ar_178 (by omega) dX5_readsRoof_109 ?_
      refine w_iload_n dX5_readsRoof_110 rfl ?_
      exact w_zretP rfl dX5_readsRoof_111 (by omega) (by rw [rw_s, wr_rw, e78, kAR_f rfl (by omega), if_pos (show μ 178 93 < 7 by omega)]; have hsm : smm μ (rw_ m_ 178 (kAR (μ 178) (μ 178 93) (m_ 179 0) (m_ 179 1) (m_ 179 2) (m_ 179 3) (m_ 179 4) (m_ 179 5))) := ⟨fun a z1 z2 z3 => (rw_o z2).trans (hs.1 a z1 z3), fun j hj => (congrFun (rw_o (by decide)) j).trans (hs.2 j hj)⟩; rcases hRQ with ⟨zb, tk1, vl1, nq1⟩ | ⟨zb, q, hq, tk1, nq1⟩; rotate_left; (exact ⟨q, hq, tkm_fr (rw_o (by decide)) tk1, hsm, Or.inr ⟨zb, nq1⟩⟩); have k6 : k = 6 := (by omega); subst k6; refine ⟨_, pk_bd T hP 6, tkm_fr (rw_o (by decide)) tk1, hsm, Or.inl ⟨zb, nq1, ?_⟩⟩; rw [rw_s, vl1 0 (by decide) (by decide), vl1 1 (by decide) (by decide), vl1 2 (by decide) (by decide), vl1 3 (by decide) (by decide), vl1 4 (by decide) (by decide), vl1 5 (by decide) (by decide)]; rfl)
    · refine w_iload_n dX5_readsRoof_36 rfl ?_
      refine w_if_eq (tgt := 55) (by omega) dX5_readsRoof_37 (by decide) (fun h37 => ?_) (fun h37 => ?_)
      · have e78 : m_ 178 = μ 178 := hs.1 178 (by decide) (by decide)
        refine w_aload_n dX5_readsRoof_55 rfl ?_
        refine gf_X5_45 rfl dX5_readsRoof_56 ?_
        refine w_iload_n dX5_readsRoof_59 rfl ?_
        refine w_aload_n dX5_readsRoof_60 rfl ?_
        refine gf_X5_48 rfl dX5_readsRoof_61 ?_
        refine w_iconst dX5_readsRoof_64 ?_
        refine w_iald ar_179 (by omega) dX5_readsRoof_65 ?_
        refine w_aload_n dX5_readsRoof_66 rfl ?_
        refine gf_X5_48 rfl dX5_readsRoof_67 ?_
        refine w_iconst dX5_readsRoof_70 ?_
        refine w_iald ar_179 (by omega) dX5_readsRoof_71 ?_
        refine w_aload_n dX5_readsRoof_72 rfl ?_
        refine gf_X5_48 rfl dX5_readsRoof_73 ?_
        refine w_iconst dX5_readsRoof_76 ?_
        refine w_iald ar_179 (by omega) dX5_readsRoof_77 ?_
        refine w_aload_n dX5_readsRoof_78 rfl ?_
        refine gf_X5_48 rfl dX5_readsRoof_79 ?_
        refine w_iconst dX5_readsRoof_82 ?_
        refine w_iald ar_179 (by omega) dX5_readsRoof_83 ?_
        refine w_aload_n dX5_readsRoof_84 rfl ?_
        refine gf_X5_48 rfl dX5_readsRoof_85 ?_
        refine w_iconst dX5_readsRoof_88 ?_
        refine w_iald ar_179 (by omega) dX5_readsRoof_89 ?_
        refine w_aload_n dX5_readsRoof_90 rfl ?_
        refine gf_X5_48 rfl dX5_readsRoof_91 ?_
        refine w_iconst dX5_readsRoof_94 ?_
        refine w_iald ar_179 (by omega) dX5_readsRoof_95 ?_
        refine w_cS8 kX5_layRoof ml_X5_80 (Nat.le_of_ble_eq_true rfl) (by decide) dX5_readsRoof_96 (c_X5_layRoof ar_178 (by omega)) (kU (fun m96 q96 => ?_))
        obtain rfl := q96
        refine w_aload_n dX5_readsRoof_99 rfl ?_
        refine gf_X5_45 rfl dX5_readsRoof_100 ?_
        refine w_bipush dX5_readsRoof_103 (by decide) ?_
        refine w_dup2 dX5_readsRoof_105 ?_
        refine w_iald ar_178 (by omega) dX5_readsRoof_106 ?_
        refine w_iconst dX5_readsRoof_107 ?_
        refine w_iadd dX5_readsRoof_108 ?_
        refine w_iast ar_178 (by omega) dX5_readsRoof_109 ?_
        refine w_iload_n dX5_readsRoof_110 rfl ?_
        exact w_zretP rfl dX5_readsRoof_111 (by omega) (by rw [rw_s, wr_rw, e78, kAR_f rfl (by omega), if_pos (show μ 178 93 < 7 by omega)]; have hsm : smm μ (rw_ m_ 178 (kAR (μ 178) (μ 178 93) (m_ 179 0) (m_ 179 1) (m_ 179 2) (m_ 179 3) (m_ 179 4) (m_ 179 5))) := ⟨fun a z1 z2 z3 => (rw_o z2).trans (hs.1 a z1 z3), fun j hj => (congrFun (rw_o (by decide)) j).trans (hs.2 j hj)⟩; rcases hRQ with ⟨zb, tk1, vl1, nq1⟩ | ⟨zb, q, hq, tk1, nq1⟩; rotate_left; (exact ⟨q, hq, tkm_fr (rw_o (by decide)) tk1, hsm, Or.inr ⟨zb, nq1⟩⟩); have k6 : k = 6 := (by omega); subst k6; refine ⟨_, pk_bd T hP 6, tkm_fr (rw_o (by decide)) tk1, hsm, Or.inl ⟨zb, nq1, ?_⟩⟩; rw [rw_s, vl1 0 (by decide) (by decide), vl1 1 (by decide) (by decide), vl1 2 (by decide) (by decide), vl1 3 (by decide) (by decide), vl1 4 (by decide) (by decide), vl1 5 (by decide) (by decide)]; rfl)
      · obtain tk1 : tkm m_ T L (pk_ T L (tE T L p) k.toNat) := by
          rcases hRQ with ⟨-, z, -⟩ | ⟨z, -⟩
          · exact z
          · exfalso; omega
        refine w_aload_n dX5_readsRoof_40 rfl ?_
        refine w_iload_n dX5_readsRoof_41 rfl ?_
        refine w_iconst dX5_readsRoof_42 ?_
        refine w_bipush dX5_readsRoof_43 (by decide) ?_
        refine w_cV3 kX5_takes ml_X5_233 ob_167 rfl (Nat.le_of_ble_eq_true rfl) (by decide) dX5_readsRoof_45 (c_X5_takes (T := T) (L := L) (p := pk_ T L (tE T L p) k.toNat) (hs.T hT) (hs.L hL) hX tk1 (pk_bd T hP k.toNat) (by omega) (by decide) (by decide)) (kI (fun e45 m45 q45 => ?_))
        obtain q45 := q45
        have hb1_ : b = 1 := by omega
        subst hb1_
        have hR1 := RQ_s hRQ (by omega) hP q45
        have s45 := hs.trans q45.s
        refine w_istore_n dX5_readsRoof_48 (by decide) rfl ?_
        refine w_iinc dX5_readsRoof_49 rfl (by decide) rfl ?_
        refine w_goto (tgt := 30) dX5_readsRoof_52 (by decide) ?_
        exact ih30 (e45, k + 1, m45) ⟨by dsimp only; omega, by dsimp only; omega, hR1, s45⟩ (by dsimp only; omega)
  · refine w_iconst dX5_readsRoof_14 ?_
    exact w_zretP rfl dX5_readsRoof_15 (by omega) (by refine ⟨p, hp0, ht, smm.refl _, Or.inr ⟨rfl, if_neg (by omega)⟩⟩)
set_option maxRecDepth 100000 in
set_option maxHeartbeats 4000000 in
theorem c_X5_readsStorm {g : gG} {l : Launch} {μ : gM}  {T : Int → Int} {L p : Int} (hT : μ 177 = T) (hL : μ 167 13 = L) (hX : TXo T L) (ht : tkm μ T L p) (hp0 : 0 ≤ p ∧ p ≤ L) (hK : KI (μ 178)) : CT g l YX5_readsStorm 5 [vR 167] μ (pI fun e μ2 => ITQ T L (if μ 178 94 < 6 then nq T L (stormR (tV T L (tE T L p))) (tE T L p) else (0, p)) (kAS (μ 178) (μ 178 94) (qv T L p 0) (qv T L p 1) (qv T L p 2) (qv T L p 3) (qv T L p 4)) μ e μ2) := by
  have hK1 := hK.2.1
  have hP := tE_p T hp0
  refine CT.of (n := 1) (by decide) rfl ?_
  show WA g l YX5_readsStorm 5 _ 0 [some (vR 167), none] [] μ
  refine w_aload_n dX5_readsStorm_0 rfl ?_
  refine gf_X5_45 rfl dX5_readsStorm_1 ?_
  refine w_bipush dX5_readsStorm_4 (by decide) ?_
  refine w_iald ar_178 (by omega) dX5_readsStorm_6 ?_
  refine w_istore_n dX5_readsStorm_7 (by decide) rfl ?_
  refine w_iload_n dX5_readsStorm_8 rfl ?_
  refine w_bipush dX5_readsStorm_9 (by decide) ?_
  refine w_icmp_ne (tgt := 16) (by omega) (by omega) dX5_readsStorm_11 (by decide) (fun h11 => ?_) (fun h11 => ?_)
  · refine w_aload_n dX5_readsStorm_16 rfl ?_
    refine w_cV0 kX5_goOn ml_X5_230 ob_167 rfl (Nat.le_of_ble_eq_true rfl) (by decide) dX5_readsStorm_17 (c_X5_goOn (T := T) (L := L) (p := p) hT hL hX ht hp0) (kU (fun m17 q17 => ?_))
    obtain ⟨t17, s17⟩ := q17
    refine w_aload_n dX5_readsStorm_20 rfl ?_
    refine w_iconst dX5_readsStorm_21 ?_
    refine w_iconst dX5_readsStorm_22 ?_
    refine w_bipush dX5_readsStorm_23 (by decide) ?_
    refine w_cV3 kX5_takes ml_X5_233 ob_167 rfl (Nat.le_of_ble_eq_true rfl) (by decide) dX5_readsStorm_25 (c_X5_takes (T := T) (L := L) (p := pk_ T L (tE T L p) 0) (s17.stv.T hT) (s17.stv.L hL) hX t17 (pk_bd T hP 0) (by omega) (by decide) (by decide)) (kI (fun e25 m25 q25 => ?_))
    obtain q25 := q25
    have qe25 := q25.e
    have s25 := (s17.stv).trans q25.s
    refine w_if_eq (tgt := 79) (by omega) dX5_readsStorm_28 (by decide) (fun h28 => ?_) (fun h28 => ?_)
    · refine w_iconst dX5_readsStorm_79 ?_
      exact w_zretP rfl dX5_readsStorm_80 (by omega) (by obtain ⟨z1, z2⟩ := q25.n (by omega); rw [if_pos (show μ 178 94 < 6 by omega)]; refine ⟨pk_ T L (tE T L p) 0, pk_bd T hP 0, z2 ▸ t17, s25.smm, Or.inr ⟨rfl, ?_⟩⟩; unfold stormR; exact nq_n z1)
    · have y25 := q25.y (by omega)
      refine w_aload_n dX5_readsStorm_31 rfl ?_
      refine w_iconst dX5_readsStorm_32 ?_
      refine w_aload_n dX5_readsStorm_33 rfl ?_
      refine gf_X5_48 rfl dX5_readsStorm_34 ?_
      refine w_iconst dX5_readsStorm_37 ?_
      refine w_iald ar_179 (by omega) dX5_readsStorm_38 ?_
      rw [y25.2.2.1]
      refine w_bipush dX5_readsStorm_39 (by decide) ?_
      refine w_cV3 kX5_takes ml_X5_233 ob_167 rfl (Nat.le_of_ble_eq_true rfl) (by decide) dX5_readsStorm_41 (c_X5_takes (T := T) (L := L) (p := pk_ T L (tE T L p) 1) (s25.T hT) (s25.L hL) hX y25.2.1 (pk_bd T hP 1) (by omega) (by have := y25.1.2; omega) (by decide)) (kI (fun e41 m41 q41 => ?_))
      obtain q41 := q41
      have qe41 := q41.e
      have s41 := (s25).trans q41.s
      refine w_if_eq (tgt := 79) (by omega) dX5_readsStorm_44 (by decide) (fun h44 => ?_) (fun h44 => ?_)
      · refine w_iconst dX5_readsStorm_79 ?_
        exact w_zretP rfl dX5_readsStorm_80 (by omega) (by obtain ⟨z1, z2⟩ := q41.n (by omega); rw [if_pos (show μ 178 94 < 6 by omega)]; refine ⟨pk_ T L (tE T L p) 1, pk_bd T hP 1, z2 ▸ y25.2.1, s41.smm, Or.inr ⟨rfl, ?_⟩⟩; unfold stormR; exact (nq_y y25.1).trans (nq_n z1))
      · have y41 := q41.y (by omega)
        refine w_aload_n dX5_readsStorm_47 rfl ?_
        refine w_iconst dX5_readsStorm_48 ?_
        refine w_iconst dX5_readsStorm_49 ?_
        refine w_iconst dX5_readsStorm_50 ?_
        refine w_cV3 kX5_takes ml_X5_233 ob_167 rfl (Nat.le_of_ble_eq_true rfl) (by decide) dX5_readsStorm_51 (c_X5_takes (T := T) (L := L) (p := pk_ T L (tE T L p) 2) (s41.T hT) (s41.L hL) hX y41.2.1 (pk_bd T hP 2) (by omega) (by decide) (by decide)) (kI (fun e51 m51 q51 => ?_))
        obtain q51 := q51
        have qe51 := q51.e
        have s51 := (s41).trans q51.s
        refine w_if_eq (tgt := 79) (by omega) dX5_readsStorm_54 (by decide) (fun h54 => ?_) (fun h54 => ?_)
        · refine w_iconst dX5_readsStorm_79 ?_
          exact w_zretP rfl dX5_readsStorm_80 (by omega) (by obtain ⟨z1, z2⟩ := q51.n (by omega); rw [if_pos (show μ 178 94 < 6 by omega)]; refine ⟨pk_ T L (tE T L p) 2, pk_bd T hP 2, z2 ▸ y41.2.1, s51.smm, Or.inr ⟨rfl, ?_⟩⟩; unfold stormR; exact (nq_y y25.1).trans ((nq_y y41.1).trans (nq_n z1)))
        · have y51 := q51.y (by omega)
          refine w_aload_n dX5_readsStorm_57 rfl ?_
          refine w_iconst dX5_readsStorm_58 ?_
          refine w_iconst dX5_readsStorm_59 ?_
          refine w_bipush dX5_readsStorm_60 (by decide) ?_
          refine w_cV3 kX5_takes ml_X5_233 ob_167 rfl (Nat.le_of_ble_eq_true rfl) (by decide) dX5_readsStorm_62 (c_X5_takes (T := T) (L := L) (p := pk_ T L (tE T L p) 3) (s51.T hT) (s51.L hL) hX y51.2.1 (pk_bd T hP 3) (by omega) (by decide) (by decide)) (kI (fun e62 m62 q62 => ?_))
          obtain q62 := q62
          have qe62 := q62.e
          have s62 := (s51).trans q62.s
          refine w_if_eq (tgt := 79) (by omega) dX5_readsStorm_65 (by decide) (fun h65 => ?_) (fun h65 => ?_)
          · refine w_iconst dX5_readsStorm_79 ?_
            exact w_zretP rfl dX5_readsStorm_80 (by omega) (by obtain ⟨z1, z2⟩ := q62.n (by omega); rw [if_pos (show μ 178 94 < 6 by omega)]; refine ⟨pk_ T L (tE T L p) 3, pk_bd T hP 3, z2 ▸ y51.2.1, s62.smm, Or.inr ⟨rfl, ?_⟩⟩; unfold stormR; exact (nq_y y25.1).trans ((nq_y y41.1).trans ((nq_y y51.1).trans (nq_n z1))))
          · have y62 := q62.y (by omega)
            refine w_aload_n dX5_readsStorm_68 rfl ?_
            refine w_iconst dX5_readsStorm_69 ?_
            refine w_iconst dX5_readsStorm_70 ?_
            refine w_bipush dX5_readsStorm_71 (by decide) ?_
            refine w_cV3 kX5_takes ml_X5_233 ob_167 rfl (Nat.le_of_ble_eq_true rfl) (by decide) dX5_readsStorm_73 (c_X5_takes (T := T) (L := L) (p := pk_ T L (tE T L p) 4) (s62.T hT) (s62.L hL) hX y62.2.1 (pk_bd T hP 4) (by omega) (by decide) (by decide)) (kI (fun e73 m73 q73 => ?_))
            obtain q73 := q73
            have qe73 := q73.e
            have s73 := (s62).trans q73.s
            refine w_if_ne (tgt := 81) (by omega) dX5_readsStorm_76 (by decide) (fun h76 => ?_) (fun h76 => ?_)
            · have y73 := q73.y (by omega)
              have e78 : m73 178 = μ 178 := s73.1 178 (by decide) (by decide)
              have w0_ : m73 179 0 = qv T L p 0 := by rw [y73.2.2.2 0 (by decide), y62.2.2.2 0 (by decide), y51.2.2.2 0 (by decide), y41.2.2.2 0 (by decide), y25.2.2.1]; rfl
              have w1_ : m73 179 1 = qv T L p 1 := by rw [y73.2.2.2 1 (by decide), y62.2.2.2 1 (by decide), y51.2.2.2 1 (by decide), y41.2.2.1]; rfl
              have w2_ : m73 179 2 = qv T L p 2 := by rw [y73.2.2.2 2 (by decide), y62.2.2.2 2 (by decide), y51.2.2.1]; rfl
              have w3_ : m73 179 3 = qv T L p 3 := by rw [y73.2.2.2 3 (by decide), y62.2.2.1]; rfl
              have w4_ : m73 179 4 = qv T L p 4 := by rw [y73.2.2.1]; rfl
              refine w_aload_n dX5_readsStorm_81 rfl ?_
              refine gf_X5_45 rfl dX5_readsStorm_82 ?_
              refine w_iload_n dX5_readsStorm_85 rfl ?_
              refine w_aload_n dX5_readsStorm_86 rfl ?_
              refine gf_X5_48 rfl dX5_readsStorm_87 ?_
              refine w_iconst dX5_readsStorm_90 ?_
              refine w_iald ar_179 (by omega) dX5_readsStorm_91 ?_
              refine w_aload_n dX5_readsStorm_92 rfl ?_
              refine gf_X5_48 rfl dX5_readsStorm_93 ?_
              refine w_iconst dX5_readsStorm_96 ?_
              refine w_iald ar_179 (by omega) dX5_readsStorm_97 ?_
              refine w_aload_n dX5_readsStorm_98 rfl ?_
              refine gf_X5_48 rfl dX5_readsStorm_99 ?_
              refine w_iconst dX5_readsStorm_102 ?_
              refine w_iald ar_179 (by omega) dX5_readsStorm_103 ?_
              refine w_aload_n dX5_readsStorm_104 rfl ?_
              refine gf_X5_48 rfl dX5_readsStorm_105 ?_
              refine w_iconst dX5_readsStorm_108 ?_
              refine w_iald ar_179 (by omega) dX5_readsStorm_109 ?_
              refine w_aload_n dX5_readsStorm_110 rfl ?_
              refine gf_X5_48 rfl dX5_readsStorm_111 ?_
              refine w_iconst dX5_readsStorm_114 ?_
              refine w_iald ar_179 (by omega) dX5_readsStorm_115 ?_
              rw [w0_, w1_, w2_, w3_, w4_]
              refine w_cS7 kX5_layStorm ml_X5_86 (Nat.le_of_ble_eq_true rfl) (by decide) dX5_readsStorm_116 (c_X5_layStorm ar_178 (by omega)) (kU (fun m116 q116 => ?_))
              obtain rfl := q116
              refine w_aload_n dX5_readsStorm_119 rfl ?_
              refine gf_X5_45 rfl dX5_readsStorm_120 ?_
              refine w_bipush dX5_readsStorm_123 (by decide) ?_
              refine w_dup2 dX5_readsStorm_125 ?_
              refine w_iald ar_178 (by omega) dX5_readsStorm_126 ?_
              refine w_iconst dX5_readsStorm_127 ?_
              refine w_iadd dX5_readsStorm_128 ?_
              refine w_iast ar_178 (by omega) dX5_readsStorm_129 ?_
              refine w_iconst dX5_readsStorm_130 ?_
              exact w_zretP rfl dX5_readsStorm_131 (by omega) (by rw [rw_s, wr_rw, e78, kAS_f rfl (by omega), if_pos (show μ 178 94 < 6 by omega)]; refine ⟨pk_ T L (tE T L p) 5, pk_bd T hP 5, tkm_fr (rw_o (by decide)) y73.2.1, ⟨fun a z1 z2 z3 => (rw_o z2).trans (s73.1 a z1 z3), fun j hj => (congrFun (rw_o (by decide)) j).trans (s73.2 j hj)⟩, Or.inl ⟨rfl, ?_, rw_s⟩⟩; unfold stormR; exact (nq_y y25.1).trans ((nq_y y41.1).trans ((nq_y y51.1).trans ((nq_y y62.1).trans ((nq_y y73.1).trans (rfl))))))
            · refine w_iconst dX5_readsStorm_79 ?_
              exact w_zretP rfl dX5_readsStorm_80 (by omega) (by obtain ⟨z1, z2⟩ := q73.n (by omega); rw [if_pos (show μ 178 94 < 6 by omega)]; refine ⟨pk_ T L (tE T L p) 4, pk_bd T hP 4, z2 ▸ y62.2.1, s73.smm, Or.inr ⟨rfl, ?_⟩⟩; unfold stormR; exact (nq_y y25.1).trans ((nq_y y41.1).trans ((nq_y y51.1).trans ((nq_y y62.1).trans (nq_n z1)))))
  · refine w_iconst dX5_readsStorm_14 ?_
    exact w_zretP rfl dX5_readsStorm_15 (by omega) (by refine ⟨p, hp0, ht, smm.refl _, Or.inr ⟨rfl, if_neg (by omega)⟩⟩)
set_option maxRecDepth 100000 in
set_option maxHeartbeats 4000000 in
theorem c_X5_readsCannon {g : gG} {l : Launch} {μ : gM}  {T : Int → Int} {L p : Int} (hT : μ 177 = T) (hL : μ 167 13 = L) (hX : TXo T L) (ht : tkm μ T L p) (hp0 : 0 ≤ p ∧ p ≤ L) (hK : KI (μ 178)) : CT g l YX5_readsCannon 4 [vR 167] μ (pI fun e μ2 => ITQ T L (if tS T L (tE T L p) = 2 ∧ 0 ≤ tV T L (tE T L p) ∧ tV T L (tE T L p) ≤ 6 then (if μ 178 (86 + tV T L (tE T L p)) = 0 then nq T L [] (tE T L (tE T L p)) else (0, (tE T L p))) else (0, (tE T L p))) (kup (μ 178) (86 + qv T L p 0) 1) μ e μ2) := by
  have hP := tE_p T hp0
  have hSb := tS_bd T L (tE T L p)
  have eq0 : qv T L p 0 = tV T L (tE T L p) := rfl
  refine CT.of (n := 0) (by decide) rfl ?_
  show WA g l YX5_readsCannon 4 _ 0 [some (vR 167)] [] μ
  refine w_aload_n dX5_readsCannon_0 rfl ?_
  refine w_cV0 kX5_goOn ml_X5_230 ob_167 rfl (Nat.le_of_ble_eq_true rfl) (by decide) dX5_readsCannon_1 (c_X5_goOn (T := T) (L := L) (p := p) hT hL hX ht hp0) (kU (fun m1 q1 => ?_))
  obtain ⟨t1, s1⟩ := q1
  have e78 : m1 178 = μ 178 := s1.1 178 (by decide)
  refine w_aload_n dX5_readsCannon_4 rfl ?_
  refine gf_X5_214 rfl dX5_readsCannon_5 ?_
  rw [t1.2.2.1]
  refine w_iconst dX5_readsCannon_8 ?_
  refine w_icmp_ne (tgt := 43) (by omega) (by omega) dX5_readsCannon_9 (by decide) (fun h9 => ?_) (fun h9 => ?_)
  · refine w_iconst dX5_readsCannon_43 ?_
    exact w_zretP rfl dX5_readsCannon_44 (by omega) (by have ez : (if tS T L (tE T L p) = 2 ∧ 0 ≤ tV T L (tE T L p) ∧ tV T L (tE T L p) ≤ 6 then (if μ 178 (86 + tV T L (tE T L p)) = 0 then nq T L [] (tE T L (tE T L p)) else (0, (tE T L p))) else (0, (tE T L p))) = (0, (tE T L p)) := (if_neg (by omega)); rw [ez]; exact ⟨(tE T L p), hP, t1, s1.smm, Or.inr ⟨rfl, rfl⟩⟩)
  · refine w_aload_n dX5_readsCannon_12 rfl ?_
    refine gf_X5_217 rfl dX5_readsCannon_13 ?_
    rw [t1.2.2.2 h9]
    have hvb := tV_bd h9
    refine w_i2l (by omega) dX5_readsCannon_16 ?_
    refine w_lconst 0 dX5_readsCannon_17 (by decide) ?_
    refine w_ldc2 (6) cl_X5_84 dX5_readsCannon_18 (by decide) ?_
    refine w_cS3 kX5_in ml_X5_58 (Nat.le_of_ble_eq_true rfl) (by decide) dX5_readsCannon_21 (c_X5_in (by omega) (by omega) (by omega)) (kI (fun e21 m21 q21 => ?_))
    obtain ⟨q21, rfl⟩ := q21
    refine w_if_eq (tgt := 43) (by omega) dX5_readsCannon_24 (by decide) (fun h24 => ?_) (fun h24 => ?_)
    · refine w_iconst dX5_readsCannon_43 ?_
      exact w_zretP rfl dX5_readsCannon_44 (by omega) (by have ez : (if tS T L (tE T L p) = 2 ∧ 0 ≤ tV T L (tE T L p) ∧ tV T L (tE T L p) ≤ 6 then (if μ 178 (86 + tV T L (tE T L p)) = 0 then nq T L [] (tE T L (tE T L p)) else (0, (tE T L p))) else (0, (tE T L p))) = (0, (tE T L p)) := (if_neg (by omega)); rw [ez]; exact ⟨(tE T L p), hP, t1, s1.smm, Or.inr ⟨rfl, rfl⟩⟩)
    · refine w_aload_n dX5_readsCannon_27 rfl ?_
      refine gf_X5_45 rfl dX5_readsCannon_28 ?_
      refine w_bipush dX5_readsCannon_31 (by decide) ?_
      refine w_aload_n dX5_readsCannon_33 rfl ?_
      refine gf_X5_217 rfl dX5_readsCannon_34 ?_
      rw [t1.2.2.2 h9]
      refine w_iadd dX5_readsCannon_37 ?_
      refine w_iald ar_178 (by omega) dX5_readsCannon_38 ?_
      rw [e78]
      have hg := hK.2.2 (tV T L (tE T L p)) (by omega) (by omega)
      refine w_iconst dX5_readsCannon_39 ?_
      refine w_icmp_ne (tgt := 45) (by omega) (by omega) dX5_readsCannon_40 (by decide) (fun h40 => ?_) (fun h40 => ?_)
      · refine w_aload_n dX5_readsCannon_45 rfl ?_
        refine gf_X5_45 rfl dX5_readsCannon_46 ?_
        refine w_bipush dX5_readsCannon_49 (by decide) ?_
        refine w_aload_n dX5_readsCannon_51 rfl ?_
        refine gf_X5_217 rfl dX5_readsCannon_52 ?_
        rw [t1.2.2.2 h9]
        refine w_iadd dX5_readsCannon_55 ?_
        refine w_iconst dX5_readsCannon_56 ?_
        refine w_iast ar_178 (by omega) dX5_readsCannon_57 ?_
        refine w_aload_n dX5_readsCannon_58 rfl ?_
        refine w_cV0 kX5_goOn ml_X5_230 ob_167 rfl (Nat.le_of_ble_eq_true rfl) (by decide) dX5_readsCannon_59 (c_X5_goOn (T := T) (L := L) (p := tE T L p) (by rw [wr_o (by decide)]; exact s1.smm.T hT) (by rw [wr_o (by decide)]; exact s1.smm.L hL) hX (tkm_fr (wr_o (by decide)) t1) hP) (kU (fun m59 q59 => ?_))
        obtain ⟨t59, s59⟩ := q59
        refine w_iconst dX5_readsCannon_62 ?_
        exact w_zretP rfl dX5_readsCannon_63 (by omega) (by have ez : (if tS T L (tE T L p) = 2 ∧ 0 ≤ tV T L (tE T L p) ∧ tV T L (tE T L p) ≤ 6 then (if μ 178 (86 + tV T L (tE T L p)) = 0 then nq T L [] (tE T L (tE T L p)) else (0, (tE T L p))) else (0, (tE T L p))) = nq T L [] (tE T L (tE T L p)) := (if_pos (by omega)).trans (if_pos (by omega)); rw [ez, eq0]; refine ⟨tE T L (tE T L p), tE_p T hP, t59, ⟨fun a z1 z2 z3 => ?_, fun j hj => ?_⟩, Or.inl ⟨rfl, rfl, ?_⟩⟩; (rw [s59.1 a z1, wr_o z2, s1.1 a z1]); (rw [s59.2 j hj, wr_o (by decide), s1.2 j hj]); (rw [s59.1 178 (by decide), wr_ri (μ := m1), rw_s, e78]))
      · refine w_iconst dX5_readsCannon_43 ?_
        exact w_zretP rfl dX5_readsCannon_44 (by omega) (by have ez : (if tS T L (tE T L p) = 2 ∧ 0 ≤ tV T L (tE T L p) ∧ tV T L (tE T L p) ≤ 6 then (if μ 178 (86 + tV T L (tE T L p)) = 0 then nq T L [] (tE T L (tE T L p)) else (0, (tE T L p))) else (0, (tE T L p))) = (0, (tE T L p)) := ((if_pos (by omega)).trans (if_neg (by omega))); rw [ez]; exact ⟨(tE T L p), hP, t1, s1.smm, Or.inr ⟨rfl, rfl⟩⟩)
set_option maxRecDepth 100000 in
set_option maxHeartbeats 4000000 in
theorem c_X5_readsItem {g : gG} {l : Launch} {μ : gM}  {T : Int → Int} {L p : Int} (hT : μ 177 = T) (hL : μ 167 13 = L) (hX : TXo T L) (ht : tkm μ T L p) (hp0 : 0 ≤ p ∧ p ≤ L) (hK : KI (μ 178)) : CT g l YX5_readsItem 6 [vR 167] μ (pI fun e μ2 => ITQ T L (iqE T L (μ 178) p) (iqK T L (μ 178) p) μ e μ2) := by
  refine CT.of (n := 0) (by decide) rfl ?_
  show WA g l YX5_readsItem 6 _ 0 [some (vR 167)] [] μ
  refine w_aload_n dX5_readsItem_0 rfl ?_
  refine w_bipush dX5_readsItem_1 (by decide) ?_
  refine w_bipush dX5_readsItem_3 (by decide) ?_
  refine w_bipush dX5_readsItem_5 (by decide) ?_
  refine w_bipush dX5_readsItem_7 (by decide) ?_
  refine w_iconst dX5_readsItem_9 ?_
  refine w_iconst dX5_readsItem_10 ?_
  refine w_cV6 kX5_isWord ml_X5_237 ob_167 rfl (Nat.le_of_ble_eq_true rfl) (by decide) dX5_readsItem_11 (c_iwR hT hL hX ht hp0) (kI (fun e11 m11 q11 => ?_))
  obtain ⟨q11, rfl⟩ := q11
  have qr11 : e11 = 0 ∨ e11 = 1 := by rcases q11 with ⟨z, -⟩ | ⟨z, -⟩ <;> omega
  refine w_if_eq (tgt := 22) (by omega) dX5_readsItem_14 (by decide) (fun h14 => ?_) (fun h14 => ?_)
  · have hw11 : ¬ isW T L p wRoof := by
      rcases q11 with ⟨z, -⟩ | ⟨-, z⟩
      · exfalso; omega
      · exact z
    refine w_aload_n dX5_readsItem_22 rfl ?_
    refine w_bipush dX5_readsItem_23 (by decide) ?_
    refine w_bipush dX5_readsItem_25 (by decide) ?_
    refine w_bipush dX5_readsItem_27 (by decide) ?_
    refine w_bipush dX5_readsItem_29 (by decide) ?_
    refine w_bipush dX5_readsItem_31 (by decide) ?_
    refine w_iconst dX5_readsItem_33 ?_
    refine w_cV6 kX5_isWord ml_X5_237 ob_167 rfl (Nat.le_of_ble_eq_true rfl) (by decide) dX5_readsItem_34 (c_iwS hT hL hX ht hp0) (kI (fun e34 m34 q34 => ?_))
    obtain ⟨q34, rfl⟩ := q34
    have qr34 : e34 = 0 ∨ e34 = 1 := by rcases q34 with ⟨z, -⟩ | ⟨z, -⟩ <;> omega
    refine w_if_eq (tgt := 45) (by omega) dX5_readsItem_37 (by decide) (fun h37 => ?_) (fun h37 => ?_)
    · have hw34 : ¬ isW T L p wStorm := by
        rcases q34 with ⟨z, -⟩ | ⟨-, z⟩
        · exfalso; omega
        · exact z
      refine w_aload_n dX5_readsItem_45 rfl ?_
      refine w_bipush dX5_readsItem_46 (by decide) ?_
      refine w_bipush dX5_readsItem_48 (by decide) ?_
      refine w_bipush dX5_readsItem_50 (by decide) ?_
      refine w_bipush dX5_readsItem_52 (by decide) ?_
      refine w_bipush dX5_readsItem_54 (by decide) ?_
      refine w_bipush dX5_readsItem_56 (by decide) ?_
      refine w_cV6 kX5_isWord ml_X5_237 ob_167 rfl (Nat.le_of_ble_eq_true rfl) (by decide) dX5_readsItem_58 (c_iwC hT hL hX ht hp0) (kI (fun e58 m58 q58 => ?_))
      obtain ⟨q58, rfl⟩ := q58
      have qr58 : e58 = 0 ∨ e58 = 1 := by rcases q58 with ⟨z, -⟩ | ⟨z, -⟩ <;> omega
      refine w_if_eq (tgt := 75) (by omega) dX5_readsItem_61 (by decide) (fun h61 => ?_) (fun h61 => ?_)
      · have hw58 : ¬ isW T L p wCannon := by
          rcases q58 with ⟨z, -⟩ | ⟨-, z⟩
          · exfalso; omega
          · exact z
        refine w_iconst dX5_readsItem_75 ?_
        exact w_zretP rfl dX5_readsItem_76 (by omega) (by rw [show iqE T L (μ 178) p = (0, p) from (ift_n hw11).trans ((ift_n hw34).trans (ift_n hw58))]; exact ⟨p, hp0, ht, smm.refl _, Or.inr ⟨rfl, rfl⟩⟩)
      · have hw58 : isW T L p wCannon := by
          rcases q58 with ⟨-, z⟩ | ⟨z, -⟩
          · exact z
          · exfalso; omega
        refine w_aload_n dX5_readsItem_64 rfl ?_
        refine w_cV0 kX5_readsCannon ml_X5_247 ob_167 rfl (Nat.le_of_ble_eq_true rfl) (by decide) dX5_readsItem_65 (c_X5_readsCannon hT hL hX ht hp0 hK) (kI (fun e65 m65 q65 => ?_))
        obtain q65 := q65
        have qr65 := q65.e
        refine w_if_eq (tgt := 75) (by omega) dX5_readsItem_68 (by decide) (fun h68 => ?_) (fun h68 => ?_)
        · refine w_iconst dX5_readsItem_75 ?_
          exact w_zretP rfl dX5_readsItem_76 (by omega) (by rw [show iqE T L (μ 178) p = _ from (ift_n hw11).trans ((ift_n hw34).trans (ift_p hw58)), show iqK T L (μ 178) p = _ from (ift_n hw11).trans (ift_n hw34)]; have e1_ : e65 = 0 := (by omega); rw [e1_] at q65; exact q65)
        · refine w_iconst dX5_readsItem_71 ?_
          refine w_goto (tgt := 76) dX5_readsItem_72 (by decide) ?_
          exact w_zretP rfl dX5_readsItem_76 (by omega) (by rw [show iqE T L (μ 178) p = _ from (ift_n hw11).trans ((ift_n hw34).trans (ift_p hw58)), show iqK T L (μ 178) p = _ from (ift_n hw11).trans (ift_n hw34)]; have e1_ : e65 = 1 := (by omega); rw [e1_] at q65; exact q65)
    · have hw34 : isW T L p wStorm := by
        rcases q34 with ⟨-, z⟩ | ⟨z, -⟩
        · exact z
        · exfalso; omega
      refine w_aload_n dX5_readsItem_40 rfl ?_
      refine w_cV0 kX5_readsStorm ml_X5_244 ob_167 rfl (Nat.le_of_ble_eq_true rfl) (by decide) dX5_readsItem_41 (c_X5_readsStorm hT hL hX ht hp0 hK) (kI (fun e41 m41 q41 => ?_))
      obtain q41 := q41
      have qr41 := q41.e
      exact w_zretP rfl dX5_readsItem_44 (by omega) (by rw [show iqE T L (μ 178) p = _ from (ift_n hw11).trans (ift_p hw34), show iqK T L (μ 178) p = _ from (ift_n hw11).trans (ift_p hw34)]; exact q41)
  · have hw11 : isW T L p wRoof := by
      rcases q11 with ⟨-, z⟩ | ⟨z, -⟩
      · exact z
      · exfalso; omega
    refine w_aload_n dX5_readsItem_17 rfl ?_
    refine w_cV0 kX5_readsRoof ml_X5_240 ob_167 rfl (Nat.le_of_ble_eq_true rfl) (by decide) dX5_readsItem_18 (c_X5_readsRoof hT hL hX ht hp0 hK) (kI (fun e18 m18 q18 => ?_))
    obtain q18 := q18
    have qr18 := q18.e
    exact w_zretP rfl dX5_readsItem_21 (by omega) (by rw [show iqE T L (μ 178) p = _ from ift_p hw11, show iqK T L (μ 178) p = _ from ift_p hw11]; exact q18)
