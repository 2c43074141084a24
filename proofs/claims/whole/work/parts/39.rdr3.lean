theorem cn_far1 {c : Nat} (hc : cn c) : (151 < c ∨ c + 12 ≤ 151) ∧ (152 < c ∨ c + 12 ≤ 152) ∧ (153 < c ∨ c + 12 ≤ 153) := by
  have h := cn_all (p := fun c => decide ((151 < c ∨ c + 12 ≤ 151) ∧ (152 < c ∨ c + 12 ≤ 152) ∧ (153 < c ∨ c + 12 ≤ 153))) (by decide) hc
  simpa using h
set_option maxRecDepth 100000 in
set_option maxHeartbeats 4000000 in
theorem c_X2_readRoof {g : gG} {l : Launch} {μ : gM} {c : Nat} (hc : cn c) {T : Int → Int} {L p : Int} (hT : μ 152 = T) (hL : μ 151 0 = L) (hX : TXo T L) (hp : μ 151 4 = p) (hp0 : 0 ≤ p ∧ p ≤ L) (hR : 0 ≤ μ c 0 ∧ μ c 0 < 7) : CT g l YX2_readRoof 3 [vR 151, vR c] μ (pI fun e μ2 => tok μ2 T L (nq T L roofR p).2 ∧ e = (nq T L roofR p).1 ∧ smc c μ μ2 ∧ ((e = 0 ∧ ∀ i, i < 12 → μ2 (c + i) = μ (c + i)) ∨ (e = 1 ∧ ((tS T L (pk_ T L p 0) = 2 ∧ 0 ≤ (tV T L (pk_ T L p 0)) ∧ (tV T L (pk_ T L p 0)) ≤ 5) ∧ (tS T L (pk_ T L p 1) = 2 ∧ 0 ≤ (tV T L (pk_ T L p 1)) ∧ (tV T L (pk_ T L p 1)) ≤ 9) ∧ (tS T L (pk_ T L p 2) = 2 ∧ 0 ≤ (tV T L (pk_ T L p 2)) ∧ (tV T L (pk_ T L p 2)) ≤ 9) ∧ (tS T L (pk_ T L p 3) = 2 ∧ 0 ≤ (tV T L (pk_ T L p 3)) ∧ (tV T L (pk_ T L p 3)) ≤ 9) ∧ (tS T L (pk_ T L p 4) = 2 ∧ 0 ≤ (tV T L (pk_ T L p 4)) ∧ (tV T L (pk_ T L p 4)) ≤ 9) ∧ (tS T L (pk_ T L p 5) = 2 ∧ 0 ≤ (tV T L (pk_ T L p 5)) ∧ (tV T L (pk_ T L p 5)) ≤ 9)) ∧ ∀ i, i < 12 → μ2 (c + i) = mAR μ c (μ c 0) (tV T L (pk_ T L p 0)) (tV T L (pk_ T L p 1)) (tV T L (pk_ T L p 2)) (tV T L (pk_ T L p 3)) (tV T L (pk_ T L p 4)) (tV T L (pk_ T L p 5)) (c + i)))) := by
  refine CT.of (n := 1) (by decide) rfl ?_
  show WA g l YX2_readRoof 3 _ 0 [some (vR 151), some (vR c), none] [] μ
  refine w_aload_n dX2_readRoof_0 rfl ?_
  refine w_iconst dX2_readRoof_1 ?_
  refine w_iconst dX2_readRoof_2 ?_
  refine w_iconst dX2_readRoof_3 ?_
  refine w_cV3 kX2_readNumber ml_X2_68 ob_151 rfl (Nat.le_of_ble_eq_true rfl) (by decide) dX2_readRoof_4 (c_X2_readNumber (T := T) (L := L) (p := pk_ T L p 0) hT hL hX hp hp0 (by decide) (by decide) (by decide)) (kI (fun e4 m4 q4 => ?_))
  obtain ⟨t4, s4, n4, q4⟩ := q4
  have hT4 : m4 152 = T := s4.1.trans hT
  have hL4 : m4 151 0 = L := s4.2.1.trans hL
  have hp4 : m4 151 4 = pk_ T L p 1 := t4.2.1
  have hq4 : 0 ≤ pk_ T L p 1 ∧ pk_ T L p 1 ≤ L := tE_p T hp0
  have u4 : sme μ m4 := s4
  have qr4 : e4 = 0 ∨ e4 = 1 := by rcases q4 with ⟨z, -⟩ | ⟨z, -⟩ <;> omega
  refine w_if_eq (tgt := 76) (by omega) dX2_readRoof_7 (by decide) (fun h7 => ?_) (fun h7 => ?_)
  · refine w_iconst dX2_readRoof_76 ?_
    refine w_istore_n dX2_readRoof_77 (by decide) rfl ?_
    refine w_iload_n dX2_readRoof_78 rfl ?_
    refine w_if_eq (tgt := 123) (by omega) dX2_readRoof_79 (by decide) (fun h79 => ?_) (fun h79 => ?_)
    · refine w_iload_n dX2_readRoof_123 rfl ?_
      exact w_zretP rfl dX2_readRoof_124 (by omega) (by rcases q4 with ⟨zz, -⟩ | ⟨-, zz⟩; (exact absurd zz (by omega)); have ez : nq T L roofR p = (0, pk_ T L p 0) := (by unfold roofR; exact nq_n zz); rw [ez]; exact ⟨t4, rfl, u4.smc, Or.inl ⟨rfl, fun i hi => u4.2.2 _ (cn_rd hc hi).1 (cn_rd hc hi).2.2.1⟩⟩)
    · exfalso; omega
  · obtain ⟨-, c4, v4⟩ | ⟨zz, -⟩ := q4
    rotate_left
    · exact absurd zz h7
    refine w_aload_n dX2_readRoof_10 rfl ?_
    refine w_iconst dX2_readRoof_11 ?_
    refine w_iconst dX2_readRoof_12 ?_
    refine w_bipush dX2_readRoof_13 (by decide) ?_
    refine w_cV3 kX2_readNumber ml_X2_68 ob_151 rfl (Nat.le_of_ble_eq_true rfl) (by decide) dX2_readRoof_15 (c_X2_readNumber (T := T) (L := L) (p := pk_ T L p 1) hT4 hL4 hX hp4 hq4 (by decide) (by decide) (by decide)) (kI (fun e15 m15 q15 => ?_))
    obtain ⟨t15, s15, n15, q15⟩ := q15
    have hT15 : m15 152 = T := s15.1.trans hT4
    have hL15 : m15 151 0 = L := s15.2.1.trans hL4
    have hp15 : m15 151 4 = pk_ T L p 2 := t15.2.1
    have hq15 : 0 ≤ pk_ T L p 2 ∧ pk_ T L p 2 ≤ L := tE_p T hq4
    have u15 : sme μ m15 := u4.trans s15
    have qr15 : e15 = 0 ∨ e15 = 1 := by rcases q15 with ⟨z, -⟩ | ⟨z, -⟩ <;> omega
    refine w_if_eq (tgt := 76) (by omega) dX2_readRoof_18 (by decide) (fun h18 => ?_) (fun h18 => ?_)
    · refine w_iconst dX2_readRoof_76 ?_
      refine w_istore_n dX2_readRoof_77 (by decide) rfl ?_
      refine w_iload_n dX2_readRoof_78 rfl ?_
      refine w_if_eq (tgt := 123) (by omega) dX2_readRoof_79 (by decide) (fun h79 => ?_) (fun h79 => ?_)
      · refine w_iload_n dX2_readRoof_123 rfl ?_
        exact w_zretP rfl dX2_readRoof_124 (by omega) (by rcases q15 with ⟨zz, -⟩ | ⟨-, zz⟩; (exact absurd zz (by omega)); have ez : nq T L roofR p = (0, pk_ T L p 1) := (by unfold roofR; exact (nq_y c4).trans (nq_n zz)); rw [ez]; exact ⟨t15, rfl, u15.smc, Or.inl ⟨rfl, fun i hi => u15.2.2 _ (cn_rd hc hi).1 (cn_rd hc hi).2.2.1⟩⟩)
      · exfalso; omega
    · obtain ⟨-, c15, v15⟩ | ⟨zz, -⟩ := q15
      rotate_left
      · exact absurd zz h18
      refine w_aload_n dX2_readRoof_21 rfl ?_
      refine w_iconst dX2_readRoof_22 ?_
      refine w_iconst dX2_readRoof_23 ?_
      refine w_bipush dX2_readRoof_24 (by decide) ?_
      refine w_cV3 kX2_readNumber ml_X2_68 ob_151 rfl (Nat.le_of_ble_eq_true rfl) (by decide) dX2_readRoof_26 (c_X2_readNumber (T := T) (L := L) (p := pk_ T L p 2) hT15 hL15 hX hp15 hq15 (by decide) (by decide) (by decide)) (kI (fun e26 m26 q26 => ?_))
      obtain ⟨t26, s26, n26, q26⟩ := q26
      have hT26 : m26 152 = T := s26.1.trans hT15
      have hL26 : m26 151 0 = L := s26.2.1.trans hL15
      have hp26 : m26 151 4 = pk_ T L p 3 := t26.2.1
      have hq26 : 0 ≤ pk_ T L p 3 ∧ pk_ T L p 3 ≤ L := tE_p T hq15
      have u26 : sme μ m26 := u15.trans s26
      have qr26 : e26 = 0 ∨ e26 = 1 := by rcases q26 with ⟨z, -⟩ | ⟨z, -⟩ <;> omega
      refine w_if_eq (tgt := 76) (by omega) dX2_readRoof_29 (by decide) (fun h29 => ?_) (fun h29 => ?_)
      · refine w_iconst dX2_readRoof_76 ?_
        refine w_istore_n dX2_readRoof_77 (by decide) rfl ?_
        refine w_iload_n dX2_readRoof_78 rfl ?_
        refine w_if_eq (tgt := 123) (by omega) dX2_readRoof_79 (by decide) (fun h79 => ?_) (fun h79 => ?_)
        · refine w_iload_n dX2_readRoof_123 rfl ?_
          exact w_zretP rfl dX2_readRoof_124 (by omega) (by rcases q26 with ⟨zz, -⟩ | ⟨-, zz⟩; (exact absurd zz (by omega)); have ez : nq T L roofR p = (0, pk_ T L p 2) := (by unfold roofR; exact (nq_y c4).trans ((nq_y c15).trans (nq_n zz))); rw [ez]; exact ⟨t26, rfl, u26.smc, Or.inl ⟨rfl, fun i hi => u26.2.2 _ (cn_rd hc hi).1 (cn_rd hc hi).2.2.1⟩⟩)
        · exfalso; omega
      · obtain ⟨-, c26, v26⟩ | ⟨zz, -⟩ := q26
        rotate_left
        · exact absurd zz h29
        refine w_aload_n dX2_readRoof_32 rfl ?_
        refine w_iconst dX2_readRoof_33 ?_
        refine w_iconst dX2_readRoof_34 ?_
        refine w_bipush dX2_readRoof_35 (by decide) ?_
        refine w_cV3 kX2_readNumber ml_X2_68 ob_151 rfl (Nat.le_of_ble_eq_true rfl) (by decide) dX2_readRoof_37 (c_X2_readNumber (T := T) (L := L) (p := pk_ T L p 3) hT26 hL26 hX hp26 hq26 (by decide) (by decide) (by decide)) (kI (fun e37 m37 q37 => ?_))
        obtain ⟨t37, s37, n37, q37⟩ := q37
        have hT37 : m37 152 = T := s37.1.trans hT26
        have hL37 : m37 151 0 = L := s37.2.1.trans hL26
        have hp37 : m37 151 4 = pk_ T L p 4 := t37.2.1
        have hq37 : 0 ≤ pk_ T L p 4 ∧ pk_ T L p 4 ≤ L := tE_p T hq26
        have u37 : sme μ m37 := u26.trans s37
        have qr37 : e37 = 0 ∨ e37 = 1 := by rcases q37 with ⟨z, -⟩ | ⟨z, -⟩ <;> omega
        refine w_if_eq (tgt := 76) (by omega) dX2_readRoof_40 (by decide) (fun h40 => ?_) (fun h40 => ?_)
        · refine w_iconst dX2_readRoof_76 ?_
          refine w_istore_n dX2_readRoof_77 (by decide) rfl ?_
          refine w_iload_n dX2_readRoof_78 rfl ?_
          refine w_if_eq (tgt := 123) (by omega) dX2_readRoof_79 (by decide) (fun h79 => ?_) (fun h79 => ?_)
          · refine w_iload_n dX2_readRoof_123 rfl ?_
            exact w_zretP rfl dX2_readRoof_124 (by omega) (by rcases q37 with ⟨zz, -⟩ | ⟨-, zz⟩; (exact absurd zz (by omega)); have ez : nq T L roofR p = (0, pk_ T L p 3) := (by unfold roofR; exact (nq_y c4).trans ((nq_y c15).trans ((nq_y c26).trans (nq_n zz)))); rw [ez]; exact ⟨t37, rfl, u37.smc, Or.inl ⟨rfl, fun i hi => u37.2.2 _ (cn_rd hc hi).1 (cn_rd hc hi).2.2.1⟩⟩)
          · exfalso; omega
        · obtain ⟨-, c37, v37⟩ | ⟨zz, -⟩ := q37
          rotate_left
          · exact absurd zz h40
          refine w_aload_n dX2_readRoof_43 rfl ?_
          refine w_iconst dX2_readRoof_44 ?_
          refine w_iconst dX2_readRoof_45 ?_
          refine w_bipush dX2_readRoof_46 (by decide) ?_
          refine w_cV3 kX2_readNumber ml_X2_68 ob_151 rfl (Nat.le_of_ble_eq_true rfl) (by decide) dX2_readRoof_48 (c_X2_readNumber (T := T) (L := L) (p := pk_ T L p 4) hT37 hL37 hX hp37 hq37 (by decide) (by decide) (by decide)) (kI (fun e48 m48 q48 => ?_))
          obtain ⟨t48, s48, n48, q48⟩ := q48
          have hT48 : m48 152 = T := s48.1.trans hT37
          have hL48 : m48 151 0 = L := s48.2.1.trans hL37
          have hp48 : m48 151 4 = pk_ T L p 5 := t48.2.1
          have hq48 : 0 ≤ pk_ T L p 5 ∧ pk_ T L p 5 ≤ L := tE_p T hq37
          have u48 : sme μ m48 := u37.trans s48
          have qr48 : e48 = 0 ∨ e48 = 1 := by rcases q48 with ⟨z, -⟩ | ⟨z, -⟩ <;> omega
          refine w_if_eq (tgt := 76) (by omega) dX2_readRoof_51 (by decide) (fun h51 => ?_) (fun h51 => ?_)
          · refine w_iconst dX2_readRoof_76 ?_
            refine w_istore_n dX2_readRoof_77 (by decide) rfl ?_
            refine w_iload_n dX2_readRoof_78 rfl ?_
            refine w_if_eq (tgt := 123) (by omega) dX2_readRoof_79 (by decide) (fun h79 => ?_) (fun h79 => ?_)
            · refine w_iload_n dX2_readRoof_123 rfl ?_
              exact w_zretP rfl dX2_readRoof_124 (by omega) (by rcases q48 with ⟨zz, -⟩ | ⟨-, zz⟩; (exact absurd zz (by omega)); have ez : nq T L roofR p = (0, pk_ T L p 4) := (by unfold roofR; exact (nq_y c4).trans ((nq_y c15).trans ((nq_y c26).trans ((nq_y c37).trans (nq_n zz))))); rw [ez]; exact ⟨t48, rfl, u48.smc, Or.inl ⟨rfl, fun i hi => u48.2.2 _ (cn_rd hc hi).1 (cn_rd hc hi).2.2.1⟩⟩)
            · exfalso; omega
          · obtain ⟨-, c48, v48⟩ | ⟨zz, -⟩ := q48
            rotate_left
            · exact absurd zz h51
            refine w_aload_n dX2_readRoof_54 rfl ?_
            refine w_iconst dX2_readRoof_55 ?_
            refine w_iconst dX2_readRoof_56 ?_
            refine w_bipush dX2_readRoof_57 (by decide) ?_
            refine w_cV3 kX2_readNumber ml_X2_68 ob_151 rfl (Nat.le_of_ble_eq_true rfl) (by decide) dX2_readRoof_59 (c_X2_readNumber (T := T) (L := L) (p := pk_ T L p 5) hT48 hL48 hX hp48 hq48 (by decide) (by decide) (by decide)) (kI (fun e59 m59 q59 => ?_))
            obtain ⟨t59, s59, n59, q59⟩ := q59
            have hT59 : m59 152 = T := s59.1.trans hT48
            have hL59 : m59 151 0 = L := s59.2.1.trans hL48
            have hp59 : m59 151 4 = pk_ T L p 6 := t59.2.1
            have hq59 : 0 ≤ pk_ T L p 6 ∧ pk_ T L p 6 ≤ L := tE_p T hq48
            have u59 : sme μ m59 := u48.trans s59
            have qr59 : e59 = 0 ∨ e59 = 1 := by rcases q59 with ⟨z, -⟩ | ⟨z, -⟩ <;> omega
            refine w_if_eq (tgt := 76) (by omega) dX2_readRoof_62 (by decide) (fun h62 => ?_) (fun h62 => ?_)
            · refine w_iconst dX2_readRoof_76 ?_
              refine w_istore_n dX2_readRoof_77 (by decide) rfl ?_
              refine w_iload_n dX2_readRoof_78 rfl ?_
              refine w_if_eq (tgt := 123) (by omega) dX2_readRoof_79 (by decide) (fun h79 => ?_) (fun h79 => ?_)
              · refine w_iload_n dX2_readRoof_123 rfl ?_
                exact w_zretP rfl dX2_readRoof_124 (by omega) (by rcases q59 with ⟨zz, -⟩ | ⟨-, zz⟩; (exact absurd zz (by omega)); have ez : nq T L roofR p = (0, pk_ T L p 5) := (by unfold roofR; exact (nq_y c4).trans ((nq_y c15).trans ((nq_y c26).trans ((nq_y c37).trans ((nq_y c48).trans (nq_n zz)))))); rw [ez]; exact ⟨t59, rfl, u59.smc, Or.inl ⟨rfl, fun i hi => u59.2.2 _ (cn_rd hc hi).1 (cn_rd hc hi).2.2.1⟩⟩)
              · exfalso; omega
            · obtain ⟨-, c59, v59⟩ | ⟨zz, -⟩ := q59
              rotate_left
              · exact absurd zz h62
              refine w_aload_n dX2_readRoof_65 rfl ?_
              refine w_cV0 kX2_readStop ml_X2_72 ob_151 rfl (Nat.le_of_ble_eq_true rfl) (by decide) dX2_readRoof_66 (c_X2_readStop (T := T) (L := L) (p := pk_ T L p 6) hT59 hL59 hX hp59 hq59) (kI (fun e66 m66 q66 => ?_))
              obtain ⟨t66, s66, n66, q66⟩ := q66
              have u66 : sme μ m66 := u59.trans s66
              have qr66 : e66 = 0 ∨ e66 = 1 := by rcases q66 with ⟨z, -⟩ | ⟨z, -⟩ <;> omega
              refine w_if_eq (tgt := 76) (by omega) dX2_readRoof_69 (by decide) (fun h69 => ?_) (fun h69 => ?_)
              · refine w_iconst dX2_readRoof_76 ?_
                refine w_istore_n dX2_readRoof_77 (by decide) rfl ?_
                refine w_iload_n dX2_readRoof_78 rfl ?_
                refine w_if_eq (tgt := 123) (by omega) dX2_readRoof_79 (by decide) (fun h79 => ?_) (fun h79 => ?_)
                · refine w_iload_n dX2_readRoof_123 rfl ?_
                  exact w_zretP rfl dX2_readRoof_124 (by omega) (by rcases q66 with ⟨zz, -⟩ | ⟨-, zz⟩; (exact absurd zz (by omega)); have ez : nq T L roofR p = (0, pk_ T L p 6) := (by unfold roofR; exact (nq_y c4).trans ((nq_y c15).trans ((nq_y c26).trans ((nq_y c37).trans ((nq_y c48).trans ((nq_y c59).trans (nq_f zz))))))); rw [ez]; exact ⟨t66, rfl, u66.smc, Or.inl ⟨rfl, fun i hi => u66.2.2 _ (cn_rd hc hi).1 (cn_rd hc hi).2.2.1⟩⟩)
                · exfalso; omega
              · obtain ⟨-, c66⟩ | ⟨zz, -⟩ := q66
                rotate_left
                · exact absurd zz h69
                have w0_ : m66 153 0 = (tV T L (pk_ T L p 0)) := by rw [n66, n59 0 (by decide), n48 0 (by decide), n37 0 (by decide), n26 0 (by decide), n15 0 (by decide)]; exact v4
                have w1_ : m66 153 1 = (tV T L (pk_ T L p 1)) := by rw [n66, n59 1 (by decide), n48 1 (by decide), n37 1 (by decide), n26 1 (by decide)]; exact v15
                have w2_ : m66 153 2 = (tV T L (pk_ T L p 2)) := by rw [n66, n59 2 (by decide), n48 2 (by decide), n37 2 (by decide)]; exact v26
                have w3_ : m66 153 3 = (tV T L (pk_ T L p 3)) := by rw [n66, n59 3 (by decide), n48 3 (by decide)]; exact v37
                have w4_ : m66 153 4 = (tV T L (pk_ T L p 4)) := by rw [n66, n59 4 (by decide)]; exact v48
                have w5_ : m66 153 5 = (tV T L (pk_ T L p 5)) := by rw [n66]; exact v59
                refine w_iconst dX2_readRoof_72 ?_
                refine w_goto (tgt := 77) dX2_readRoof_73 (by decide) ?_
                refine w_istore_n dX2_readRoof_77 (by decide) rfl ?_
                refine w_iload_n dX2_readRoof_78 rfl ?_
                refine w_if_eq (tgt := 123) (by omega) dX2_readRoof_79 (by decide) (fun h79 => ?_) (fun h79 => ?_)
                · exfalso; omega
                · refine w_aload_n dX2_readRoof_82 rfl ?_
                  refine w_aload_n dX2_readRoof_83 rfl ?_
                  refine gf_X2_15 rfl dX2_readRoof_84 ?_
                  refine w_iconst dX2_readRoof_87 ?_
                  refine w_iald ar_153 (by omega) dX2_readRoof_88 ?_
                  refine w_aload_n dX2_readRoof_89 rfl ?_
                  refine gf_X2_15 rfl dX2_readRoof_90 ?_
                  refine w_iconst dX2_readRoof_93 ?_
                  refine w_iald ar_153 (by omega) dX2_readRoof_94 ?_
                  refine w_aload_n dX2_readRoof_95 rfl ?_
                  refine gf_X2_15 rfl dX2_readRoof_96 ?_
                  refine w_iconst dX2_readRoof_99 ?_
                  refine w_iald ar_153 (by omega) dX2_readRoof_100 ?_
                  refine w_aload_n dX2_readRoof_101 rfl ?_
                  refine gf_X2_15 rfl dX2_readRoof_102 ?_
                  refine w_iconst dX2_readRoof_105 ?_
                  refine w_iald ar_153 (by omega) dX2_readRoof_106 ?_
                  refine w_aload_n dX2_readRoof_107 rfl ?_
                  refine gf_X2_15 rfl dX2_readRoof_108 ?_
                  refine w_iconst dX2_readRoof_111 ?_
                  refine w_iald ar_153 (by omega) dX2_readRoof_112 ?_
                  refine w_aload_n dX2_readRoof_113 rfl ?_
                  refine gf_X2_15 rfl dX2_readRoof_114 ?_
                  refine w_iconst dX2_readRoof_117 ?_
                  refine w_iald ar_153 (by omega) dX2_readRoof_118 ?_
                  rw [w0_, w1_, w2_, w3_, w4_, w5_]
                  refine w_cV6 kX0_addRoof ml_X2_76 (cnO hc) rfl (Nat.le_of_ble_eq_true rfl) (by decide) dX2_readRoof_119 (c_X0_addRoof hc (by rw [u66.2.2 c (cn_rd hc (i := 0) (by decide)).1 (cn_rd hc (i := 0) (by decide)).2.2.1]; omega)) (kI (fun e119 m119 q119 => ?_))
                  obtain q119 := q119
                  refine w_pop_i dX2_readRoof_122 ?_
                  refine w_iload_n dX2_readRoof_123 rfl ?_
                  exact w_zretP rfl dX2_readRoof_124 (by omega) (by have ec : m66 c = μ c := u66.2.2 c (cn_rd hc (i := 0) (by decide)).1 (cn_rd hc (i := 0) (by decide)).2.2.1; rcases q119 with ⟨-, zz, -⟩ | ⟨-, -, rfl⟩; (exfalso; rw [ec] at zz; omega); have ez : nq T L roofR p = (1, pk_ T L p 6) := (by unfold roofR; exact (nq_y c4).trans ((nq_y c15).trans ((nq_y c26).trans ((nq_y c37).trans ((nq_y c48).trans ((nq_y c59).trans (nq_t c66))))))); rw [ez, ec]; refine ⟨⟨?_, ?_, ?_⟩, rfl, ⟨?_, ?_, fun a z1 z2 z3 => ?_⟩, Or.inr ⟨rfl, ⟨c4, c15, c26, c37, c48, c59⟩, fun i hi => ?_⟩⟩; rw [mAR_o (by have := cn_far1 hc; omega)]; exact t66.1; rw [mAR_o (by have := cn_far1 hc; omega)]; exact t66.2.1; rw [mAR_o (by have := cn_far1 hc; omega)]; exact t66.2.2; rw [mAR_o (by have := cn_far1 hc; omega)]; exact u66.1; rw [mAR_o (by have := cn_far1 hc; omega)]; exact u66.2.1; rw [mAR_o (by omega)]; exact u66.2.2 a z1 z2; exact mAR_cg (u66.2.2 _ (cn_rd hc hi).1 (cn_rd hc hi).2.2.1))
set_option maxRecDepth 100000 in
set_option maxHeartbeats 4000000 in
theorem c_X2_readStorm {g : gG} {l : Launch} {μ : gM} {c : Nat} (hc : cn c) {T : Int → Int} {L p : Int} (hT : μ 152 = T) (hL : μ 151 0 = L) (hX : TXo T L) (hp : μ 151 4 = p) (hp0 : 0 ≤ p ∧ p ≤ L) (hR : 0 ≤ μ c 1 ∧ μ c 1 < 6) : CT g l YX2_readStorm 3 [vR 151, vR c] μ (pI fun e μ2 => tok μ2 T L (nq T L (stormR (tV T L (pk_ T L p 0))) p).2 ∧ e = (nq T L (stormR (tV T L (pk_ T L p 0))) p).1 ∧ smc c μ μ2 ∧ ((e = 0 ∧ ∀ i, i < 12 → μ2 (c + i) = μ (c + i)) ∨ (e = 1 ∧ ((tS T L (pk_ T L p 0) = 2 ∧ 0 ≤ (tV T L (pk_ T L p 0)) ∧ (tV T L (pk_ T L p 0)) ≤ 6) ∧ (tS T L (pk_ T L p 1) = 2 ∧ (tV T L (pk_ T L p 0)) ≤ (tV T L (pk_ T L p 1)) ∧ (tV T L (pk_ T L p 1)) ≤ 6) ∧ (tS T L (pk_ T L p 2) = 2 ∧ 0 ≤ (tV T L (pk_ T L p 2)) ∧ (tV T L (pk_ T L p 2)) ≤ 1) ∧ (tS T L (pk_ T L p 3) = 2 ∧ 1 ≤ (tV T L (pk_ T L p 3)) ∧ (tV T L (pk_ T L p 3)) ≤ 9) ∧ (tS T L (pk_ T L p 4) = 2 ∧ 1 ≤ (tV T L (pk_ T L p 4)) ∧ (tV T L (pk_ T L p 4)) ≤ 9)) ∧ ∀ i, i < 12 → μ2 (c + i) = mAS μ c (μ c 1) (tV T L (pk_ T L p 0)) (tV T L (pk_ T L p 1)) (tV T L (pk_ T L p 2)) (tV T L (pk_ T L p 3)) (tV T L (pk_ T L p 4)) (c + i)))) := by
  refine CT.of (n := 1) (by decide) rfl ?_
  show WA g l YX2_readStorm 3 _ 0 [some (vR 151), some (vR c), none] [] μ
  refine w_aload_n dX2_readStorm_0 rfl ?_
  refine w_iconst dX2_readStorm_1 ?_
  refine w_iconst dX2_readStorm_2 ?_
  refine w_bipush dX2_readStorm_3 (by decide) ?_
  refine w_cV3 kX2_readNumber ml_X2_68 ob_151 rfl (Nat.le_of_ble_eq_true rfl) (by decide) dX2_readStorm_5 (c_X2_readNumber (T := T) (L := L) (p := pk_ T L p 0) hT hL hX hp hp0 (by decide) (by decide) (by decide)) (kI (fun e5 m5 q5 => ?_))
  obtain ⟨t5, s5, n5, q5⟩ := q5
  have hT5 : m5 152 = T := s5.1.trans hT
  have hL5 : m5 151 0 = L := s5.2.1.trans hL
  have hp5 : m5 151 4 = pk_ T L p 1 := t5.2.1
  have hq5 : 0 ≤ pk_ T L p 1 ∧ pk_ T L p 1 ≤ L := tE_p T hp0
  have u5 : sme μ m5 := s5
  have qr5 : e5 = 0 ∨ e5 = 1 := by rcases q5 with ⟨z, -⟩ | ⟨z, -⟩ <;> omega
  refine w_if_eq (tgt := 70) (by omega) dX2_readStorm_8 (by decide) (fun h8 => ?_) (fun h8 => ?_)
  · refine w_iconst dX2_readStorm_70 ?_
    refine w_istore_n dX2_readStorm_71 (by decide) rfl ?_
    refine w_iload_n dX2_readStorm_72 rfl ?_
    refine w_if_eq (tgt := 111) (by omega) dX2_readStorm_73 (by decide) (fun h73 => ?_) (fun h73 => ?_)
    · refine w_iload_n dX2_readStorm_111 rfl ?_
      exact w_zretP rfl dX2_readStorm_112 (by omega) (by rcases q5 with ⟨zz, -⟩ | ⟨-, zz⟩; (exact absurd zz (by omega)); have ez : nq T L (stormR (tV T L (pk_ T L p 0))) p = (0, pk_ T L p 0) := (by unfold stormR; exact nq_n zz); rw [ez]; exact ⟨t5, rfl, u5.smc, Or.inl ⟨rfl, fun i hi => u5.2.2 _ (cn_rd hc hi).1 (cn_rd hc hi).2.2.1⟩⟩)
    · exfalso; omega
  · obtain ⟨-, c5, v5⟩ | ⟨zz, -⟩ := q5
    rotate_left
    · exact absurd zz h8
    refine w_aload_n dX2_readStorm_11 rfl ?_
    refine w_iconst dX2_readStorm_12 ?_
    refine w_aload_n dX2_readStorm_13 rfl ?_
    refine gf_X2_15 rfl dX2_readStorm_14 ?_
    refine w_iconst dX2_readStorm_17 ?_
    refine w_iald ar_153 (by omega) dX2_readStorm_18 ?_
    rw [v5]
    refine w_bipush dX2_readStorm_19 (by decide) ?_
    refine w_cV3 kX2_readNumber ml_X2_68 ob_151 rfl (Nat.le_of_ble_eq_true rfl) (by decide) dX2_readStorm_21 (c_X2_readNumber (T := T) (L := L) (p := pk_ T L p 1) hT5 hL5 hX hp5 hq5 (by decide) (by have := c5; omega) (by decide)) (kI (fun e21 m21 q21 => ?_))
    obtain ⟨t21, s21, n21, q21⟩ := q21
    have hT21 : m21 152 = T := s21.1.trans hT5
    have hL21 : m21 151 0 = L := s21.2.1.trans hL5
    have hp21 : m21 151 4 = pk_ T L p 2 := t21.2.1
    have hq21 : 0 ≤ pk_ T L p 2 ∧ pk_ T L p 2 ≤ L := tE_p T hq5
    have u21 : sme μ m21 := u5.trans s21
    have qr21 : e21 = 0 ∨ e21 = 1 := by rcases q21 with ⟨z, -⟩ | ⟨z, -⟩ <;> omega
    refine w_if_eq (tgt := 70) (by omega) dX2_readStorm_24 (by decide) (fun h24 => ?_) (fun h24 => ?_)
    · refine w_iconst dX2_readStorm_70 ?_
      refine w_istore_n dX2_readStorm_71 (by decide) rfl ?_
      refine w_iload_n dX2_readStorm_72 rfl ?_
      refine w_if_eq (tgt := 111) (by omega) dX2_readStorm_73 (by decide) (fun h73 => ?_) (fun h73 => ?_)
      · refine w_iload_n dX2_readStorm_111 rfl ?_
        exact w_zretP rfl dX2_readStorm_112 (by omega) (by rcases q21 with ⟨zz, -⟩ | ⟨-, zz⟩; (exact absurd zz (by omega)); have ez : nq T L (stormR (tV T L (pk_ T L p 0))) p = (0, pk_ T L p 1) := (by unfold stormR; exact (nq_y c5).trans (nq_n zz)); rw [ez]; exact ⟨t21, rfl, u21.smc, Or.inl ⟨rfl, fun i hi => u21.2.2 _ (cn_rd hc hi).1 (cn_rd hc hi).2.2.1⟩⟩)
      · exfalso; omega
    · obtain ⟨-, c21, v21⟩ | ⟨zz, -⟩ := q21
      rotate_left
      · exact absurd zz h24
      refine w_aload_n dX2_readStorm_27 rfl ?_
      refine w_iconst dX2_readStorm_28 ?_
      refine w_iconst dX2_readStorm_29 ?_
      refine w_iconst dX2_readStorm_30 ?_
      refine w_cV3 kX2_readNumber ml_X2_68 ob_151 rfl (Nat.le_of_ble_eq_true rfl) (by decide) dX2_readStorm_31 (c_X2_readNumber (T := T) (L := L) (p := pk_ T L p 2) hT21 hL21 hX hp21 hq21 (by decide) (by decide) (by decide)) (kI (fun e31 m31 q31 => ?_))
      obtain ⟨t31, s31, n31, q31⟩ := q31
      have hT31 : m31 152 = T := s31.1.trans hT21
      have hL31 : m31 151 0 = L := s31.2.1.trans hL21
      have hp31 : m31 151 4 = pk_ T L p 3 := t31.2.1
      have hq31 : 0 ≤ pk_ T L p 3 ∧ pk_ T L p 3 ≤ L := tE_p T hq21
      have u31 : sme μ m31 := u21.trans s31
      have qr31 : e31 = 0 ∨ e31 = 1 := by rcases q31 with ⟨z, -⟩ | ⟨z, -⟩ <;> omega
      refine w_if_eq (tgt := 70) (by omega) dX2_readStorm_34 (by decide) (fun h34 => ?_) (fun h34 => ?_)
      · refine w_iconst dX2_readStorm_70 ?_
        refine w_istore_n dX2_readStorm_71 (by decide) rfl ?_
        refine w_iload_n dX2_readStorm_72 rfl ?_
        refine w_if_eq (tgt := 111) (by omega) dX2_readStorm_73 (by decide) (fun h73 => ?_) (fun h73 => ?_)
        · refine w_iload_n dX2_readStorm_111 rfl ?_
          exact w_zretP rfl dX2_readStorm_112 (by omega) (by rcases q31 with ⟨zz, -⟩ | ⟨-, zz⟩; (exact absurd zz (by omega)); have ez : nq T L (stormR (tV T L (pk_ T L p 0))) p = (0, pk_ T L p 2) := (by unfold stormR; exact (nq_y c5).trans ((nq_y c21).trans (nq_n zz))); rw [ez]; exact ⟨t31, rfl, u31.smc, Or.inl ⟨rfl, fun i hi => u31.2.2 _ (cn_rd hc hi).1 (cn_rd hc hi).2.2.1⟩⟩)
        · exfalso; omega
      · obtain ⟨-, c31, v31⟩ | ⟨zz, -⟩ := q31
        rotate_left
        · exact absurd zz h34
        refine w_aload_n dX2_readStorm_37 rfl ?_
        refine w_iconst dX2_readStorm_38 ?_
        refine w_iconst dX2_readStorm_39 ?_
        refine w_bipush dX2_readStorm_40 (by decide) ?_
        refine w_cV3 kX2_readNumber ml_X2_68 ob_151 rfl (Nat.le_of_ble_eq_true rfl) (by decide) dX2_readStorm_42 (c_X2_readNumber (T := T) (L := L) (p := pk_ T L p 3) hT31 hL31 hX hp31 hq31 (by decide) (by decide) (by decide)) (kI (fun e42 m42 q42 => ?_))
        obtain ⟨t42, s42, n42, q42⟩ := q42
        have hT42 : m42 152 = T := s42.1.trans hT31
        have hL42 : m42 151 0 = L := s42.2.1.trans hL31
        have hp42 : m42 151 4 = pk_ T L p 4 := t42.2.1
        have hq42 : 0 ≤ pk_ T L p 4 ∧ pk_ T L p 4 ≤ L := tE_p T hq31
        have u42 : sme μ m42 := u31.trans s42
        have qr42 : e42 = 0 ∨ e42 = 1 := by rcases q42 with ⟨z, -⟩ | ⟨z, -⟩ <;> omega
        refine w_if_eq (tgt := 70) (by omega) dX2_readStorm_45 (by decide) (fun h45 => ?_) (fun h45 => ?_)
        · refine w_iconst dX2_readStorm_70 ?_
          refine w_istore_n dX2_readStorm_71 (by decide) rfl ?_
          refine w_iload_n dX2_readStorm_72 rfl ?_
          refine w_if_eq (tgt := 111) (by omega) dX2_readStorm_73 (by decide) (fun h73 => ?_) (fun h73 => ?_)
          · refine w_iload_n dX2_readStorm_111 rfl ?_
            exact w_zretP rfl dX2_readStorm_112 (by omega) (by rcases q42 with ⟨zz, -⟩ | ⟨-, zz⟩; (exact absurd zz (by omega)); have ez : nq T L (stormR (tV T L (pk_ T L p 0))) p = (0, pk_ T L p 3) := (by unfold stormR; exact (nq_y c5).trans ((nq_y c21).trans ((nq_y c31).trans (nq_n zz)))); rw [ez]; exact ⟨t42, rfl, u42.smc, Or.inl ⟨rfl, fun i hi => u42.2.2 _ (cn_rd hc hi).1 (cn_rd hc hi).2.2.1⟩⟩)
          · exfalso; omega
        · obtain ⟨-, c42, v42⟩ | ⟨zz, -⟩ := q42
          rotate_left
          · exact absurd zz h45
          refine w_aload_n dX2_readStorm_48 rfl ?_
          refine w_iconst dX2_readStorm_49 ?_
          refine w_iconst dX2_readStorm_50 ?_
          refine w_bipush dX2_readStorm_51 (by decide) ?_
          refine w_cV3 kX2_readNumber ml_X2_68 ob_151 rfl (Nat.le_of_ble_eq_true rfl) (by decide) dX2_readStorm_53 (c_X2_readNumber (T := T) (L := L) (p := pk_ T L p 4) hT42 hL42 hX hp42 hq42 (by decide) (by decide) (by decide)) (kI (fun e53 m53 q53 => ?_))
          obtain ⟨t53, s53, n53, q53⟩ := q53
          have hT53 : m53 152 = T := s53.1.trans hT42
          have hL53 : m53 151 0 = L := s53.2.1.trans hL42
          have hp53 : m53 151 4 = pk_ T L p 5 := t53.2.1
          have hq53 : 0 ≤ pk_ T L p 5 ∧ pk_ T L p 5 ≤ L := tE_p T hq42
          have u53 : sme μ m53 := u42.trans s53
          have qr53 : e53 = 0 ∨ e53 = 1 := by rcases q53 with ⟨z, -⟩ | ⟨z, -⟩ <;> omega
          refine w_if_eq (tgt := 70) (by omega) dX2_readStorm_56 (by decide) (fun h56 => ?_) (fun h56 => ?_)
          · refine w_iconst dX2_readStorm_70 ?_
            refine w_istore_n dX2_readStorm_71 (by decide) rfl ?_
            refine w_iload_n dX2_readStorm_72 rfl ?_
            refine w_if_eq (tgt := 111) (by omega) dX2_readStorm_73 (by decide) (fun h73 => ?_) (fun h73 => ?_)
            · refine w_iload_n dX2_readStorm_111 rfl ?_
              exact w_zretP rfl dX2_readStorm_112 (by omega) (by rcases q53 with ⟨zz, -⟩ | ⟨-, zz⟩; (exact absurd zz (by omega)); have ez : nq T L (stormR (tV T L (pk_ T L p 0))) p = (0, pk_ T L p 4) := (by unfold stormR; exact (nq_y c5).trans ((nq_y c21).trans ((nq_y c31).trans ((nq_y c42).trans (nq_n zz))))); rw [ez]; exact ⟨t53, rfl, u53.smc, Or.inl ⟨rfl, fun i hi => u53.2.2 _ (cn_rd hc hi).1 (cn_rd hc hi).2.2.1⟩⟩)
            · exfalso; omega
          · obtain ⟨-, c53, v53⟩ | ⟨zz, -⟩ := q53
            rotate_left
            · exact absurd zz h56
            refine w_aload_n dX2_readStorm_59 rfl ?_
            refine w_cV0 kX2_readStop ml_X2_72 ob_151 rfl (Nat.le_of_ble_eq_true rfl) (by decide) dX2_readStorm_60 (c_X2_readStop (T := T) (L := L) (p := pk_ T L p 5) hT53 hL53 hX hp53 hq53) (kI (fun e60 m60 q60 => ?_))
            obtain ⟨t60, s60, n60, q60⟩ := q60
            have u60 : sme μ m60 := u53.trans s60
            have qr60 : e60 = 0 ∨ e60 = 1 := by rcases q60 with ⟨z, -⟩ | ⟨z, -⟩ <;> omega
            refine w_if_eq (tgt := 70) (by omega) dX2_readStorm_63 (by decide) (fun h63 => ?_) (fun h63 => ?_)
            · refine w_iconst dX2_readStorm_70 ?_
              refine w_istore_n dX2_readStorm_71 (by decide) rfl ?_
              refine w_iload_n dX2_readStorm_72 rfl ?_
              refine w_if_eq (tgt := 111) (by omega) dX2_readStorm_73 (by decide) (fun h73 => ?_) (fun h73 => ?_)
              · refine w_iload_n dX2_readStorm_111 rfl ?_
                exact w_zretP rfl dX2_readStorm_112 (by omega) (by rcases q60 with ⟨zz, -⟩ | ⟨-, zz⟩; (exact absurd zz (by omega)); have ez : nq T L (stormR (tV T L (pk_ T L p 0))) p = (0, pk_ T L p 5) := (by unfold stormR; exact (nq_y c5).trans ((nq_y c21).trans ((nq_y c31).trans ((nq_y c42).trans ((nq_y c53).trans (nq_f zz)))))); rw [ez]; exact ⟨t60, rfl, u60.smc, Or.inl ⟨rfl, fun i hi => u60.2.2 _ (cn_rd hc hi).1 (cn_rd hc hi).2.2.1⟩⟩)
              · exfalso; omega
            · obtain ⟨-, c60⟩ | ⟨zz, -⟩ := q60
              rotate_left
              · exact absurd zz h63
              have w0_ : m60 153 0 = (tV T L (pk_ T L p 0)) := by rw [n60, n53 0 (by decide), n42 0 (by decide), n31 0 (by decide), n21 0 (by decide)]; exact v5
              have w1_ : m60 153 1 = (tV T L (pk_ T L p 1)) := by rw [n60, n53 1 (by decide), n42 1 (by decide), n31 1 (by decide)]; exact v21
              have w2_ : m60 153 2 = (tV T L (pk_ T L p 2)) := by rw [n60, n53 2 (by decide), n42 2 (by decide)]; exact v31
              have w3_ : m60 153 3 = (tV T L (pk_ T L p 3)) := by rw [n60, n53 3 (by decide)]; exact v42
              have w4_ : m60 153 4 = (tV T L (pk_ T L p 4)) := by rw [n60]; exact v53
              refine w_iconst dX2_readStorm_66 ?_
              refine w_goto (tgt := 71) dX2_readStorm_67 (by decide) ?_
              refine w_istore_n dX2_readStorm_71 (by decide) rfl ?_
              refine w_iload_n dX2_readStorm_72 rfl ?_
              refine w_if_eq (tgt := 111) (by omega) dX2_readStorm_73 (by decide) (fun h73 => ?_) (fun h73 => ?_)
              · exfalso; omega
              · refine w_aload_n dX2_readStorm_76 rfl ?_
                refine w_aload_n dX2_readStorm_77 rfl ?_
                refine gf_X2_15 rfl dX2_readStorm_78 ?_
                refine w_iconst dX2_readStorm_81 ?_
                refine w_iald ar_153 (by omega) dX2_readStorm_82 ?_
                refine w_aload_n dX2_readStorm_83 rfl ?_
                refine gf_X2_15 rfl dX2_readStorm_84 ?_
                refine w_iconst dX2_readStorm_87 ?_
                refine w_iald ar_153 (by omega) dX2_readStorm_88 ?_
                refine w_aload_n dX2_readStorm_89 rfl ?_
                refine gf_X2_15 rfl dX2_readStorm_90 ?_
                refine w_iconst dX2_readStorm_93 ?_
                refine w_iald ar_153 (by omega) dX2_readStorm_94 ?_
                refine w_aload_n dX2_readStorm_95 rfl ?_
                refine gf_X2_15 rfl dX2_readStorm_96 ?_
                refine w_iconst dX2_readStorm_99 ?_
                refine w_iald ar_153 (by omega) dX2_readStorm_100 ?_
                refine w_aload_n dX2_readStorm_101 rfl ?_
                refine gf_X2_15 rfl dX2_readStorm_102 ?_
                refine w_iconst dX2_readStorm_105 ?_
                refine w_iald ar_153 (by omega) dX2_readStorm_106 ?_
                rw [w0_, w1_, w2_, w3_, w4_]
                refine w_cV5 kX0_addStorm ml_X2_80 (cnO hc) rfl (Nat.le_of_ble_eq_true rfl) (by decide) dX2_readStorm_107 (c_X0_addStorm hc (by rw [u60.2.2 c (cn_rd hc (i := 0) (by decide)).1 (cn_rd hc (i := 0) (by decide)).2.2.1]; omega)) (kI (fun e107 m107 q107 => ?_))
                obtain q107 := q107
                refine w_pop_i dX2_readStorm_110 ?_
                refine w_iload_n dX2_readStorm_111 rfl ?_
                exact w_zretP rfl dX2_readStorm_112 (by omega) (by have ec : m60 c = μ c := u60.2.2 c (cn_rd hc (i := 0) (by decide)).1 (cn_rd hc (i := 0) (by decide)).2.2.1; rcases q107 with ⟨-, zz, -⟩ | ⟨-, -, rfl⟩; (exfalso; rw [ec] at zz; omega); have ez : nq T L (stormR (tV T L (pk_ T L p 0))) p = (1, pk_ T L p 5) := (by unfold stormR; exact (nq_y c5).trans ((nq_y c21).trans ((nq_y c31).trans ((nq_y c42).trans ((nq_y c53).trans (nq_t c60)))))); rw [ez, ec]; refine ⟨⟨?_, ?_, ?_⟩, rfl, ⟨?_, ?_, fun a z1 z2 z3 => ?_⟩, Or.inr ⟨rfl, ⟨c5, c21, c31, c42, c53⟩, fun i hi => ?_⟩⟩; rw [mAS_o (by have := cn_far1 hc; omega)]; exact t60.1; rw [mAS_o (by have := cn_far1 hc; omega)]; exact t60.2.1; rw [mAS_o (by have := cn_far1 hc; omega)]; exact t60.2.2; rw [mAS_o (by have := cn_far1 hc; omega)]; exact u60.1; rw [mAS_o (by have := cn_far1 hc; omega)]; exact u60.2.1; rw [mAS_o (by omega)]; exact u60.2.2 a z1 z2; exact mAS_cg (u60.2.2 _ (cn_rd hc hi).1 (cn_rd hc hi).2.2.1))
