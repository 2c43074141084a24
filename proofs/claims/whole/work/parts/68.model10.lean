theorem mz_KA {μ : gM} : KA (mz μ 178 95 178) (fun _ => 0) := by
  intro j a b
  unfold mz
  rw [if_pos ⟨rfl, a, b⟩]
theorem mz_KI {μ : gM} : KI (mz μ 178 95 178) := by
  have h := mz_KA (μ := μ)
  refine ⟨by rw [h 93 (by decide) (by decide)]; decide, by rw [h 94 (by decide) (by decide)]; decide, fun j a b => Or.inl (h _ (by omega) (by omega))⟩
theorem smm.fr {μ μ2 : gM} (h : smm μ μ2) : (∀ a, a ≠ 167 → a ≠ 168 → a ≠ 178 → a ≠ 179 → μ2 a = μ a) ∧ (∀ j, j < 14 → μ2 167 j = μ 167 j) := ⟨fun a a1 _ a3 a4 => h.1 a a1 a3 a4, h.2⟩
set_option maxRecDepth 100000 in
set_option maxHeartbeats 4000000 in
theorem c_X5_read {g : gG} {l : Launch} {μ : gM}  {T : Int → Int} {L : Int} (hT : μ 177 = T) (hL : μ 167 13 = L) (hX : TXo T L) : CT g l YX5_read 7 [vR 167] μ (pI fun e μ2 => e = (rl T L 251 (fun _ => 0) 0 0).1 ∧ ((∀ a, a ≠ 167 → a ≠ 168 → a ≠ 178 → a ≠ 179 → μ2 a = μ a) ∧ (∀ j, j < 14 → μ2 167 j = μ 167 j)) ∧ ((e < 0 ∧ μ2 168 = μ 168) ∨ (0 ≤ e ∧ (∀ j, 0 ≤ j → j < 95 → μ2 168 j = (rl T L 251 (fun _ => 0) 0 0).2 j) ∧ μ2 168 95 = 0 ∧ μ2 168 96 = 0))) := by
  have hX1 := hX.1
  refine CT.of (n := 2) (by decide) rfl ?_
  show WA g l YX5_read 7 _ 0 [some (vR 167), none, none] [] μ
  refine w_iconst dX5_read_0 ?_
  refine w_istore_n dX5_read_1 (by decide) rfl ?_
  refine w_mu (mz_0 μ 178) ?_
  refine w_loop (ι := Int) (fun k => 0 ≤ k ∧ k ≤ 95) (fun k => (95 - k).toNat) (fun k => [some (vR 167), some (vI k), none]) (fun k => mz μ 178 k) ?_ 0 ⟨by omega, by omega⟩
  intro i_ hinv2 ih2
  obtain ⟨k, rfl⟩ : ∃ z, z = i_ := ⟨_, rfl⟩
  try dsimp only at hinv2 ih2 ⊢
  obtain ⟨a1, a2⟩ := hinv2
  refine w_iload_n dX5_read_2 rfl ?_
  refine w_bipush dX5_read_3 (by decide) ?_
  refine w_icmp_ge (tgt := 21) (by omega) (by omega) dX5_read_5 (by decide) (fun h5 => ?_) (fun h5 => ?_)
  · have e95 : k = 95 := by omega
    subst e95
    refine w_iconst dX5_read_21 ?_
    refine w_istore_n dX5_read_22 (by decide) rfl ?_
    refine w_aload_n dX5_read_23 rfl ?_
    refine w_iconst dX5_read_24 ?_
    refine w_cV1 kX5_look ml_X5_226 ob_167 rfl (Nat.le_of_ble_eq_true rfl) (by decide) dX5_read_25 (c_X5_look (T := T) (L := L) (by rw [mz_o (by decide)]; exact hT) (by rw [mz_o (by decide)]; exact hL) hX (by omega)) (kU (fun m25 q25 => ?_))
    obtain ⟨t25, s25⟩ := q25
    have e78 : m25 178 = mz μ 178 95 178 := s25.1 178 (by decide)
    have s0_ : smm μ m25 := ⟨fun a z1 z2 z3 => (s25.1 a z1).trans (mz_o z2), fun j hj => (s25.2 j hj).trans (by rw [mz_o (by decide)])⟩
    refine w_loop (ι := Int × Int × gM) (fun i => match i with | (n, p, m_) => (0 ≤ n ∧ n ≤ p ∧ p ≤ L) ∧ tkm m_ T L p ∧ smm μ m_ ∧ KI (m_ 178) ∧ rl T L (251 - n).toNat (m_ 178) p n = rl T L 251 (mz μ 178 95 178) 0 0) (fun i => match i with | (n, p, m_) => (L - p).toNat) (fun i => match i with | (n, p, m_) => [some (vR 167), some (vI n), none]) (fun i => match i with | (n, p, m_) => m_) ?_ (0, 0, m25) ⟨by omega, t25, s0_, by rw [e78]; exact mz_KI, by rw [e78]; rfl⟩
    intro i_ hinv28 ih28
    obtain ⟨n, p, m_⟩ := i_
    try dsimp only at hinv28 ih28 ⊢
    obtain ⟨b1, ht, hs, hKI, hrl⟩ := hinv28
    have hSb := tS_bd T L p
    refine w_aload_n dX5_read_28 rfl ?_
    refine gf_X5_214 rfl dX5_read_29 ?_
    rw [ht.2.2.1]
    refine w_if_eq (tgt := 68) (by omega) dX5_read_32 (by decide) (fun h32 => ?_) (fun h32 => ?_)
    · have hts : tS T L p = 0 := h32
      refine w_iconst dX5_read_68 ?_
      refine w_istore_n dX5_read_69 (by decide) rfl ?_
      refine w_mu (show rw_ m_ 168 (cX (m_ 168) (m_ 178) 0 0 0) = m_ by rw [cX_0, rw_i]) ?_
      refine w_loop (ι := Int) (fun k2 => 0 ≤ k2 ∧ k2 ≤ 95) (fun k2 => (95 - k2).toNat) (fun k2 => [some (vR 167), some (vI n), some (vI k2)]) (fun k2 => rw_ m_ 168 (cX (m_ 168) (m_ 178) 0 0 k2)) ?_ 0 ⟨by omega, by omega⟩
      intro i_ hinv70 ih70
      obtain ⟨k2, rfl⟩ : ∃ z, z = i_ := ⟨_, rfl⟩
      try dsimp only at hinv70 ih70 ⊢
      obtain ⟨c1, c2⟩ := hinv70
      refine w_iload_n dX5_read_70 rfl ?_
      refine w_bipush dX5_read_71 (by decide) ?_
      refine w_icmp_ge (tgt := 94) (by omega) (by omega) dX5_read_73 (by decide) (fun h73 => ?_) (fun h73 => ?_)
      · have e95b : k2 = 95 := by omega
        subst e95b
        refine w_aload_n dX5_read_94 rfl ?_
        refine gf_X5_7 rfl dX5_read_95 ?_
        refine w_bipush dX5_read_98 (by decide) ?_
        refine w_iconst dX5_read_100 ?_
        refine w_iast ar_168 (by omega) dX5_read_101 ?_
        refine w_aload_n dX5_read_102 rfl ?_
        refine gf_X5_7 rfl dX5_read_103 ?_
        refine w_bipush dX5_read_106 (by decide) ?_
        refine w_iconst dX5_read_108 ?_
        refine w_iast ar_168 (by omega) dX5_read_109 ?_
        refine w_iload_n dX5_read_110 rfl ?_
        exact w_iretP rfl dX5_read_111 (by rw [rl_0 hts] at hrl; have hka := rl_KA (T := T) (L := L) 251 (p := 0) (n := 0) (mz_KA (μ := μ)); rw [← hrl] at hka; refine ⟨hka.1, ⟨fun a z1 z2 z3 z4 => ?_, fun j hj => ?_⟩, Or.inr ⟨b1.1, fun j j1 j2 => ?_, ?_, ?_⟩⟩; (rw [wr_o z2, wr_o z2, rw_o z2]; exact hs.1 a z1 z3 z4); (rw [wr_o (by decide), wr_o (by decide), rw_o (by decide)]; exact hs.2 j hj); (rw [wr_n (by omega), wr_n (by omega), rw_s, cX_i (by omega), ← hka.2 j j1 j2, Int.zero_add, Int.sub_zero]); (rw [wr_n (by decide), wr_s]); (rw [wr_s]))
      · refine w_aload_n dX5_read_76 rfl ?_
        refine gf_X5_7 rfl dX5_read_77 ?_
        refine w_iload_n dX5_read_80 rfl ?_
        refine w_aload_n dX5_read_81 rfl ?_
        refine gf_X5_45 rfl dX5_read_82 ?_
        refine w_iload_n dX5_read_85 rfl ?_
        refine w_iald ar_178 (by omega) dX5_read_86 ?_
        refine w_iast ar_168 (by omega) dX5_read_87 ?_
        refine w_iinc dX5_read_88 rfl (by decide) rfl ?_
        refine w_goto (tgt := 70) dX5_read_91 (by decide) ?_
        refine w_mu ?_ (ih70 (k2 + 1) ⟨by omega, by omega⟩ (by omega))
        rw [wr_rw, rw_o (by decide), cX_s c1 (by omega) (by rw [Int.zero_add])]
    · have hs0 : tS T L p ≠ 0 := h32
      refine w_aload_n dX5_read_35 rfl ?_
      refine w_cV0 kX5_readsItem ml_X5_250 ob_167 rfl (Nat.le_of_ble_eq_true rfl) (by decide) dX5_read_36 (c_X5_readsItem (T := T) (L := L) (p := p) (hs.T hT) (hs.L hL) hX ht (by omega) hKI) (kI (fun e36 m36 q36 => ?_))
      obtain q36 := q36
      have qe := q36.e
      obtain ⟨q, hq, tq, sq, hq_⟩ := q36
      have hSq := tS_bd T L q
      refine w_if_eq (tgt := 50) (by omega) dX5_read_39 (by decide) (fun h39 => ?_) (fun h39 => ?_)
      · refine w_bipush dX5_read_50 (by decide) ?_
        refine w_aload_n dX5_read_52 rfl ?_
        refine gf_X5_208 rfl dX5_read_53 ?_
        refine w_isub dX5_read_56 ?_
        exact w_iretP rfl dX5_read_57 (by have ez : (iqE T L (m_ 178) p) = (0, q) := (by rcases hq_ with ⟨z, z2, -⟩ | ⟨z, z2⟩; (exfalso; omega); exact z2); have er : rl T L (251 - n).toNat (m_ 178) p n = (-10 - tA T L q, m_ 178) := (by rw [rl_2 (f2 := (250 - n).toNat) (by omega) hs0 (by rw [ez]; exact (by decide : (0 : Int) ≠ 1)), ez]); rw [hrl] at er; have eA := tA_bd T (L := L) (p := q) hq.2; refine ⟨?_, (hs.trans sq).fr, Or.inl ⟨by rw [tq.1]; omega, (hs.trans sq).1 168 (by decide) (by decide) (by decide)⟩⟩; rw [tq.1, ← (rl_KA 251 mz_KA).1, er])
      · refine w_aload_n dX5_read_42 rfl ?_
        refine gf_X5_214 rfl dX5_read_43 ?_
        rw [tq.2.2.1]
        refine w_iconst dX5_read_46 ?_
        refine w_icmp_eq (tgt := 58) (by omega) (by omega) dX5_read_47 (by decide) (fun h47 => ?_) (fun h47 => ?_)
        · refine w_aload_n dX5_read_58 rfl ?_
          refine w_cV0 kX5_goOn ml_X5_230 ob_167 rfl (Nat.le_of_ble_eq_true rfl) (by decide) dX5_read_59 (c_X5_goOn (T := T) (L := L) (p := q) ((hs.trans sq).T hT) ((hs.trans sq).L hL) hX tq hq) (kU (fun m59 q59 => ?_))
          obtain ⟨t59, s59⟩ := q59
          refine w_iinc dX5_read_62 rfl (by decide) rfl ?_
          refine w_goto (tgt := 28) dX5_read_65 (by decide) ?_
          have e1 := tE_bd T (L := L) (p := q) hq.2
          have e2 := tA_bd T (L := L) (p := q) hq.2
          obtain ⟨ez, eK⟩ : iqE T L (m_ 178) p = (1, q) ∧ m36 178 = iqK T L (m_ 178) p := by
            rcases hq_ with ⟨z, z2, z3⟩ | ⟨z, z2⟩
            · exact ⟨by rw [z2, if_pos h47], z3⟩
            · exfalso; omega
          have ib := (iqE_bd T (m_ 178) (p := p) (L := L) (by omega)).2.2.2 (by rw [ez])
          rw [ez] at ib
          dsimp only at ib
          have e78_ : m59 178 = iqK T L (m_ 178) p := (s59.1 178 (by decide)).trans eK
          refine ih28 (n + 1, tE T L q, m59) ⟨by dsimp only; omega, t59, (hs.trans sq).trans s59.smm, ?_, ?_⟩ (by dsimp only; omega)
          · dsimp only; rw [e78_]; exact KI_iq hKI (by rw [ez])
          · dsimp only; rw [e78_, ← hrl, rl_1 (f := (251 - n).toNat) (f2 := (251 - (n + 1)).toNat) (by omega) hs0 (by rw [ez]), ez]
        · refine w_bipush dX5_read_50 (by decide) ?_
          refine w_aload_n dX5_read_52 rfl ?_
          refine gf_X5_208 rfl dX5_read_53 ?_
          refine w_isub dX5_read_56 ?_
          exact w_iretP rfl dX5_read_57 (by have ez : (iqE T L (m_ 178) p) = (0, q) := (by rcases hq_ with ⟨z, z2, -⟩ | ⟨z, z2⟩; (rw [z2, if_neg h47]); exact z2); have er : rl T L (251 - n).toNat (m_ 178) p n = (-10 - tA T L q, m_ 178) := (by rw [rl_2 (f2 := (250 - n).toNat) (by omega) hs0 (by rw [ez]; exact (by decide : (0 : Int) ≠ 1)), ez]); rw [hrl] at er; have eA := tA_bd T (L := L) (p := q) hq.2; refine ⟨?_, (hs.trans sq).fr, Or.inl ⟨by rw [tq.1]; omega, (hs.trans sq).1 168 (by decide) (by decide) (by decide)⟩⟩; rw [tq.1, ← (rl_KA 251 mz_KA).1, er])
  · refine w_aload_n dX5_read_8 rfl ?_
    refine gf_X5_45 rfl dX5_read_9 ?_
    refine w_iload_n dX5_read_12 rfl ?_
    refine w_iconst dX5_read_13 ?_
    refine w_iast ar_178 (by omega) dX5_read_14 ?_
    refine w_iinc dX5_read_15 rfl (by decide) rfl ?_
    refine w_goto (tgt := 2) dX5_read_18 (by decide) ?_
    exact w_mu (mz_s a1).symm (ih2 (k + 1) ⟨by omega, by omega⟩ (by omega))
