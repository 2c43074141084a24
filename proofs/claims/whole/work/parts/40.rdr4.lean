set_option maxRecDepth 100000 in
set_option maxHeartbeats 4000000 in
theorem c_X2_readCannon {g : gG} {l : Launch} {μ : gM} {c : Nat} (hc : cn c) {T : Int → Int} {L p : Int} (hT : μ 152 = T) (hL : μ 151 0 = L) (hX : TXo T L) (hp : μ 151 4 = p) (hp0 : 0 ≤ p ∧ p ≤ L) (hI : CI μ c) : CT g l YX2_readCannon 3 [vR 151, vR c] μ (pI fun e μ2 => tok μ2 T L (if tS T L p = 2 ∧ 0 ≤ tV T L p ∧ tV T L p ≤ 6 then (if μ (c + 11) (tV T L p) = 0 then nq T L [] (tE T L p) else (0, p)) else (0, p)).2 ∧ e = (if tS T L p = 2 ∧ 0 ≤ tV T L p ∧ tV T L p ≤ 6 then (if μ (c + 11) (tV T L p) = 0 then nq T L [] (tE T L p) else (0, p)) else (0, p)).1 ∧ smc c μ μ2 ∧ ((e = 0 ∧ ∀ i, i < 12 → μ2 (c + i) = μ (c + i)) ∨ (e = 1 ∧ (0 ≤ tV T L p ∧ tV T L p ≤ 6) ∧ ∀ i, i < 12 → μ2 (c + i) = wr μ (c + 11) (tV T L p) 1 (c + i)))) := by
  have n151 : (151 : Nat) ≠ c + 11 := fun z => (cn_rd hc (i := 11) (by decide)).1 z.symm
  have n152 : (152 : Nat) ≠ c + 11 := fun z => (cn_rd hc (i := 11) (by decide)).2.1 z.symm
  refine CT.of (n := 1) (by decide) rfl ?_
  show WA g l YX2_readCannon 3 _ 0 [some (vR 151), some (vR c), none] [] μ
  refine w_aload_n dX2_readCannon_0 rfl ?_
  refine w_iconst dX2_readCannon_1 ?_
  refine w_iconst dX2_readCannon_2 ?_
  refine w_bipush dX2_readCannon_3 (by decide) ?_
  refine w_cV3 kX2_readNumber ml_X2_68 ob_151 rfl (Nat.le_of_ble_eq_true rfl) (by decide) dX2_readCannon_5 (c_X2_readNumber (T := T) (L := L) (p := p) hT hL hX hp hp0 (by decide) (by decide) (by decide)) (kI (fun e5 m5 q5 => ?_))
  obtain ⟨t5, s5, n5, q5⟩ := q5
  have qr5 : e5 = 0 ∨ e5 = 1 := by rcases q5 with ⟨z, -⟩ | ⟨z, -⟩ <;> omega
  have hI5 : CI m5 c := CI_fr (fun i hi => s5.2.2 _ (cn_rd hc hi).1 (cn_rd hc hi).2.2.1) hI
  have eg : m5 (c + 11) = μ (c + 11) := s5.2.2 _ (cn_rd hc (i := 11) (by decide)).1 (cn_rd hc (i := 11) (by decide)).2.2.1
  refine w_if_eq (tgt := 36) (by omega) dX2_readCannon_8 (by decide) (fun h8 => ?_) (fun h8 => ?_)
  · refine w_iconst dX2_readCannon_36 ?_
    refine w_istore_n dX2_readCannon_37 (by decide) rfl ?_
    refine w_iload_n dX2_readCannon_38 rfl ?_
    refine w_if_eq (tgt := 54) (by omega) dX2_readCannon_39 (by decide) (fun h39 => ?_) (fun h39 => ?_)
    · refine w_iload_n dX2_readCannon_54 rfl ?_
      exact w_zretP rfl dX2_readCannon_55 (by omega) (by rcases q5 with ⟨zz, -⟩ | ⟨-, zz⟩; (exact absurd zz (by omega)); have ez : (if tS T L p = 2 ∧ 0 ≤ tV T L p ∧ tV T L p ≤ 6 then (if μ (c + 11) (tV T L p) = 0 then nq T L [] (tE T L p) else (0, p)) else (0, p)) = (0, p) := if_neg zz; rw [ez]; exact ⟨t5, rfl, s5.smc, Or.inl ⟨rfl, fun i hi => s5.2.2 _ (cn_rd hc hi).1 (cn_rd hc hi).2.2.1⟩⟩)
    · exfalso; omega
  · obtain ⟨-, c5, v5⟩ | ⟨zz, -⟩ := q5
    rotate_left
    · exact absurd zz h8
    refine w_aload_n dX2_readCannon_11 rfl ?_
    refine gf_X2_84 rfl (cnO hc) dX2_readCannon_12 ?_
    refine w_aload_n dX2_readCannon_15 rfl ?_
    refine gf_X2_15 rfl dX2_readCannon_16 ?_
    refine w_iconst dX2_readCannon_19 ?_
    refine w_iald ar_153 (by omega) dX2_readCannon_20 ?_
    rw [v5]
    refine w_ialdB (CI_guns hI5) (cA_guns hc) (by omega) dX2_readCannon_21 (fun b21 => ?_)
    refine w_if_ne (tgt := 36) (by omega) dX2_readCannon_22 (by decide) (fun h22 => ?_) (fun h22 => ?_)
    · refine w_iconst dX2_readCannon_36 ?_
      refine w_istore_n dX2_readCannon_37 (by decide) rfl ?_
      refine w_iload_n dX2_readCannon_38 rfl ?_
      refine w_if_eq (tgt := 54) (by omega) dX2_readCannon_39 (by decide) (fun h39 => ?_) (fun h39 => ?_)
      · refine w_iload_n dX2_readCannon_54 rfl ?_
        exact w_zretP rfl dX2_readCannon_55 (by omega) (by have ez : (if tS T L p = 2 ∧ 0 ≤ tV T L p ∧ tV T L p ≤ 6 then (if μ (c + 11) (tV T L p) = 0 then nq T L [] (tE T L p) else (0, p)) else (0, p)) = (0, p) := (if_pos c5).trans (if_neg (by rw [← eg]; exact h22)); rw [ez]; exact ⟨t5, rfl, s5.smc, Or.inl ⟨rfl, fun i hi => s5.2.2 _ (cn_rd hc hi).1 (cn_rd hc hi).2.2.1⟩⟩)
      · exfalso; omega
    · have g0 : μ (c + 11) (tV T L p) = 0 := by rw [← eg]; exact h22
      refine w_aload_n dX2_readCannon_25 rfl ?_
      refine w_cV0 kX2_readStop ml_X2_72 ob_151 rfl (Nat.le_of_ble_eq_true rfl) (by decide) dX2_readCannon_26 (c_X2_readStop (T := T) (L := L) (p := tE T L p) (s5.1.trans hT) (s5.2.1.trans hL) hX t5.2.1 (tE_p T hp0)) (kI (fun e26 m26 q26 => ?_))
      obtain ⟨t26, s26, n26, q26⟩ := q26
      have qr26 : e26 = 0 ∨ e26 = 1 := by rcases q26 with ⟨z, -⟩ | ⟨z, -⟩ <;> omega
      have u26 : sme μ m26 := s5.trans s26
      refine w_if_eq (tgt := 36) (by omega) dX2_readCannon_29 (by decide) (fun h29 => ?_) (fun h29 => ?_)
      · refine w_iconst dX2_readCannon_36 ?_
        refine w_istore_n dX2_readCannon_37 (by decide) rfl ?_
        refine w_iload_n dX2_readCannon_38 rfl ?_
        refine w_if_eq (tgt := 54) (by omega) dX2_readCannon_39 (by decide) (fun h39 => ?_) (fun h39 => ?_)
        · refine w_iload_n dX2_readCannon_54 rfl ?_
          exact w_zretP rfl dX2_readCannon_55 (by omega) (by rcases q26 with ⟨zz, -⟩ | ⟨-, zz⟩; (exact absurd zz (by omega)); have ez : (if tS T L p = 2 ∧ 0 ≤ tV T L p ∧ tV T L p ≤ 6 then (if μ (c + 11) (tV T L p) = 0 then nq T L [] (tE T L p) else (0, p)) else (0, p)) = (0, tE T L p) := (if_pos c5).trans ((if_pos g0).trans (nq_f zz)); rw [ez]; exact ⟨t26, rfl, u26.smc, Or.inl ⟨rfl, fun i hi => u26.2.2 _ (cn_rd hc hi).1 (cn_rd hc hi).2.2.1⟩⟩)
        · exfalso; omega
      · refine w_iconst dX2_readCannon_32 ?_
        refine w_goto (tgt := 37) dX2_readCannon_33 (by decide) ?_
        refine w_istore_n dX2_readCannon_37 (by decide) rfl ?_
        refine w_iload_n dX2_readCannon_38 rfl ?_
        refine w_if_eq (tgt := 54) (by omega) dX2_readCannon_39 (by decide) (fun h39 => ?_) (fun h39 => ?_)
        · exfalso; omega
        · obtain ⟨-, c26⟩ | ⟨zz, -⟩ := q26
          rotate_left
          · exact absurd zz h29
          have w0_ : m26 153 0 = tV T L p := by rw [n26]; exact v5
          refine w_aload_n dX2_readCannon_42 rfl ?_
          refine gf_X2_84 rfl (cnO hc) dX2_readCannon_43 ?_
          refine w_aload_n dX2_readCannon_46 rfl ?_
          refine gf_X2_15 rfl dX2_readCannon_47 ?_
          refine w_iconst dX2_readCannon_50 ?_
          refine w_iald ar_153 (by omega) dX2_readCannon_51 ?_
          rw [w0_]
          refine w_iconst dX2_readCannon_52 ?_
          refine w_iast (cA_guns hc) (by omega) dX2_readCannon_53 ?_
          refine w_iload_n dX2_readCannon_54 rfl ?_
          exact w_zretP rfl dX2_readCannon_55 (by omega) (by have ez : (if tS T L p = 2 ∧ 0 ≤ tV T L p ∧ tV T L p ≤ 6 then (if μ (c + 11) (tV T L p) = 0 then nq T L [] (tE T L p) else (0, p)) else (0, p)) = (1, tE T L p) := (if_pos c5).trans ((if_pos g0).trans (nq_t c26)); rw [ez]; refine ⟨⟨?_, ?_, ?_⟩, rfl, ⟨?_, ?_, fun a z1 z2 z3 => ?_⟩, Or.inr ⟨rfl, c5.2, fun i hi => ?_⟩⟩; (rw [wr_o n151]; exact t26.1); (rw [wr_o n151]; exact t26.2.1); (rw [wr_o n151]; exact t26.2.2); (rw [wr_o n152]; exact u26.1); (rw [wr_o n151]; exact u26.2.1); (rw [wr_o (by omega)]; exact u26.2.2 a z1 z2); exact wr_cg (u26.2.2 _ (cn_rd hc hi).1 (cn_rd hc hi).2.2.1))
set_option maxRecDepth 100000 in
set_option maxHeartbeats 4000000 in
theorem c_X2_readItem {g : gG} {l : Launch} {μ : gM} {c : Nat} (hc : cn c) {T K : Int → Int} {L p y : Int} (hT : μ 152 = T) (hL : μ 151 0 = L) (hX : TXo T L) (ht : tok μ T L p) (hp0 : 0 ≤ p ∧ p ≤ L) (hCR : CR μ c K y) (hSC : SC μ c) : CT g l YX2_readItem 6 [vR 151, vR c] μ (pI fun e μ2 => tok μ2 T L (iqE T L K p).2 ∧ e = (iqE T L K p).1 ∧ smc c μ μ2 ∧ SC μ2 c ∧ (e = 1 → CR μ2 c (iqK T L K p) y)) := by
  have hR := CI_roofs hSC.1
  have hS := CI_storms hSC.1
  refine CT.of (n := 0) (by decide) rfl ?_
  show WA g l YX2_readItem 6 _ 0 [some (vR 151), some (vR c)] [] μ
  refine w_aload_n dX2_readItem_0 rfl ?_
  refine w_ldcS (c := 1000 + 0) "roof" (fun s h => h.2.1.2.1) dX2_readItem_1 ?_
  refine w_cV1 kX2_isWord ml_X2_45 ob_151 rfl (Nat.le_of_ble_eq_true rfl) (by decide) dX2_readItem_3 (c_X2_isWord (show 0 < 3 by decide) (by rw [hT, hL]; exact hX) (by rw [ht.1, ht.2.1, hL]; have := tA_bd T hp0.2; have := tE_bd T hp0.2; omega) (by rw [ht.2.2]; exact tS_bd T L p)) (kI (fun e3 m3 q3 => ?_))
  obtain ⟨q3, rfl⟩ := q3
  have qr3 : e3 = 0 ∨ e3 = 1 := by rcases q3 with ⟨z, -⟩ | ⟨z, -⟩ <;> omega
  refine w_if_eq (tgt := 32) (by omega) dX2_readItem_6 (by decide) (fun h6 => ?_) (fun h6 => ?_)
  · have hw3 : ¬ isW T L p wRoof := by
      rcases q3 with ⟨z, -⟩ | ⟨-, z⟩
      · exfalso; omega
      · exact fun y => z ((cW_isW hT ht).mpr y)
    refine w_aload_n dX2_readItem_32 rfl ?_
    refine w_ldcS (c := 1000 + 1) "storm" (fun s h => h.2.1.2.2.1) dX2_readItem_33 ?_
    refine w_cV1 kX2_isWord ml_X2_45 ob_151 rfl (Nat.le_of_ble_eq_true rfl) (by decide) dX2_readItem_35 (c_X2_isWord (show 1 < 3 by decide) (by rw [hT, hL]; exact hX) (by rw [ht.1, ht.2.1, hL]; have := tA_bd T hp0.2; have := tE_bd T hp0.2; omega) (by rw [ht.2.2]; exact tS_bd T L p)) (kI (fun e35 m35 q35 => ?_))
    obtain ⟨q35, rfl⟩ := q35
    have qr35 : e35 = 0 ∨ e35 = 1 := by rcases q35 with ⟨z, -⟩ | ⟨z, -⟩ <;> omega
    refine w_if_eq (tgt := 64) (by omega) dX2_readItem_38 (by decide) (fun h38 => ?_) (fun h38 => ?_)
    · have hw35 : ¬ isW T L p wStorm := by
        rcases q35 with ⟨z, -⟩ | ⟨-, z⟩
        · exfalso; omega
        · exact fun y => z ((cW_isW hT ht).mpr y)
      refine w_aload_n dX2_readItem_64 rfl ?_
      refine w_ldcS (c := 1000 + 2) "cannon" (fun s h => h.2.1.2.2.2) dX2_readItem_65 ?_
      refine w_cV1 kX2_isWord ml_X2_45 ob_151 rfl (Nat.le_of_ble_eq_true rfl) (by decide) dX2_readItem_67 (c_X2_isWord (show 2 < 3 by decide) (by rw [hT, hL]; exact hX) (by rw [ht.1, ht.2.1, hL]; have := tA_bd T hp0.2; have := tE_bd T hp0.2; omega) (by rw [ht.2.2]; exact tS_bd T L p)) (kI (fun e67 m67 q67 => ?_))
      obtain ⟨q67, rfl⟩ := q67
      have qr67 : e67 = 0 ∨ e67 = 1 := by rcases q67 with ⟨z, -⟩ | ⟨z, -⟩ <;> omega
      refine w_if_eq (tgt := 85) (by omega) dX2_readItem_70 (by decide) (fun h70 => ?_) (fun h70 => ?_)
      · have hw67 : ¬ isW T L p wCannon := by
          rcases q67 with ⟨z, -⟩ | ⟨-, z⟩
          · exfalso; omega
          · exact fun y => z ((cW_isW hT ht).mpr y)
        refine w_iconst dX2_readItem_85 ?_
        exact w_zretP rfl dX2_readItem_86 (by omega) (by have ez : iqE T L K p = (0, p) := (ift_n hw3).trans ((ift_n hw35).trans (ift_n hw67)); rw [ez]; exact ⟨ht, rfl, ⟨rfl, rfl, fun _ _ _ _ => rfl⟩, hSC, fun h => absurd h (by decide)⟩)
      · have hw67 : isW T L p wCannon := by
          rcases q67 with ⟨-, z⟩ | ⟨z, -⟩
          · exact (cW_isW hT ht).mp z
          · exact absurd z h70
        refine w_aload_n dX2_readItem_73 rfl ?_
        refine w_aload_n dX2_readItem_74 rfl ?_
        refine w_cV1 kX2_readCannon ml_X2_65 ob_151 rfl (Nat.le_of_ble_eq_true rfl) (by decide) dX2_readItem_75 (c_X2_readCannon (T := T) (L := L) (p := tE T L p) hc hT hL hX ht.2.1 (tE_p T hp0) hSC.1) (kI (fun e75 m75 q75 => ?_))
        obtain ⟨t75, f75, s75, q75⟩ := q75
        have qr75 : e75 = 0 ∨ e75 = 1 := by rcases q75 with ⟨z, -⟩ | ⟨z, -⟩ <;> omega
        refine w_if_eq (tgt := 85) (by omega) dX2_readItem_78 (by decide) (fun h78 => ?_) (fun h78 => ?_)
        · refine w_iconst dX2_readItem_85 ?_
          exact w_zretP rfl dX2_readItem_86 (by omega) (by rcases q75 with ⟨zz, me⟩ | ⟨zz, -⟩; rotate_left; (exact absurd zz (by omega)); have ez : iqE T L K p = (if tS T L (tE T L p) = 2 ∧ 0 ≤ tV T L (tE T L p) ∧ tV T L (tE T L p) ≤ 6 then (if K (86 + tV T L (tE T L p)) = 0 then nq T L [] (tE T L (tE T L p)) else (0, (tE T L p))) else (0, (tE T L p))) := (ift_n hw3).trans ((ift_n hw35).trans (ift_p hw67)); rw [ez]; have gz : ∀ (h1 : 0 ≤ tV T L (tE T L p) ∧ tV T L (tE T L p) ≤ 6), K (86 + tV T L (tE T L p)) = μ (c + 11) (tV T L (tE T L p)) := (fun h1 => (hCR.2.2.2.2 _ h1.1 (by omega)).symm); have gy : (if tS T L (tE T L p) = 2 ∧ 0 ≤ tV T L (tE T L p) ∧ tV T L (tE T L p) ≤ 6 then (if K (86 + tV T L (tE T L p)) = 0 then nq T L [] (tE T L (tE T L p)) else (0, (tE T L p))) else (0, (tE T L p))) = (if tS T L (tE T L p) = 2 ∧ 0 ≤ tV T L (tE T L p) ∧ tV T L (tE T L p) ≤ 6 then (if μ (c + 11) (tV T L (tE T L p)) = 0 then nq T L [] (tE T L (tE T L p)) else (0, (tE T L p))) else (0, (tE T L p))) := (by split; (next hh => rw [gz hh.2]); rfl); rw [gy]; exact ⟨t75, zz.symm.trans f75, s75, SC_fr me hSC, fun h => absurd h (by decide)⟩)
        · refine w_iconst dX2_readItem_81 ?_
          refine w_goto (tgt := 86) dX2_readItem_82 (by decide) ?_
          exact w_zretP rfl dX2_readItem_86 (by omega) (by rcases q75 with ⟨zz, -⟩ | ⟨zz, ok, me⟩; (exact absurd zz (by omega)); have ez : iqE T L K p = (if tS T L (tE T L p) = 2 ∧ 0 ≤ tV T L (tE T L p) ∧ tV T L (tE T L p) ≤ 6 then (if K (86 + tV T L (tE T L p)) = 0 then nq T L [] (tE T L (tE T L p)) else (0, (tE T L p))) else (0, (tE T L p))) := (ift_n hw3).trans ((ift_n hw35).trans (ift_p hw67)); rw [ez]; have gz : ∀ (h1 : 0 ≤ tV T L (tE T L p) ∧ tV T L (tE T L p) ≤ 6), K (86 + tV T L (tE T L p)) = μ (c + 11) (tV T L (tE T L p)) := (fun h1 => (hCR.2.2.2.2 _ h1.1 (by omega)).symm); have gy : (if tS T L (tE T L p) = 2 ∧ 0 ≤ tV T L (tE T L p) ∧ tV T L (tE T L p) ≤ 6 then (if K (86 + tV T L (tE T L p)) = 0 then nq T L [] (tE T L (tE T L p)) else (0, (tE T L p))) else (0, (tE T L p))) = (if tS T L (tE T L p) = 2 ∧ 0 ≤ tV T L (tE T L p) ∧ tV T L (tE T L p) ≤ 6 then (if μ (c + 11) (tV T L (tE T L p)) = 0 then nq T L [] (tE T L (tE T L p)) else (0, (tE T L p))) else (0, (tE T L p))) := (by split; (next hh => rw [gz hh.2]); rfl); rw [gy]; have ek : iqK T L K p = kup K (86 + qv T L p 0) 1 := (ift_n hw3).trans (ift_n hw35); rw [ek]; exact ⟨t75, zz.symm.trans f75, s75, SC_fr me (SC_gun hSC (by decide)), fun _ => CR_fr me (CR_gun hCR (⟨ok.1, by have := ok.2; show tV T L (tE T L p) < 7; omega⟩) (by rw [← hCR.1.1]; omega) (by rw [← hCR.1.2.1]; omega))⟩)
    · have hw35 : isW T L p wStorm := by
        rcases q35 with ⟨-, z⟩ | ⟨z, -⟩
        · exact (cW_isW hT ht).mp z
        · exact absurd z h38
      refine w_aload_n dX2_readItem_41 rfl ?_
      refine gf_X2_57 rfl (cnO hc) dX2_readItem_42 ?_
      refine w_bipush dX2_readItem_45 (by decide) ?_
      refine w_icmp_ge (tgt := 62) (by omega) (by omega) dX2_readItem_47 (by decide) (fun h47 => ?_) (fun h47 => ?_)
      · refine w_iconst dX2_readItem_62 ?_
        exact w_zretP rfl dX2_readItem_63 (by omega) (by have ez : iqE T L K p = (0, p) := (ift_n hw3).trans ((ift_p hw35).trans (if_neg (by rw [← hCR.1.2.1]; omega))); rw [ez]; exact ⟨ht, rfl, ⟨rfl, rfl, fun _ _ _ _ => rfl⟩, hSC, fun h => absurd h (by decide)⟩)
      · refine w_aload_n dX2_readItem_50 rfl ?_
        refine w_aload_n dX2_readItem_51 rfl ?_
        refine w_cV1 kX2_readStorm ml_X2_60 ob_151 rfl (Nat.le_of_ble_eq_true rfl) (by decide) dX2_readItem_52 (c_X2_readStorm (T := T) (L := L) (p := tE T L p) hc hT hL hX ht.2.1 (tE_p T hp0) (by omega)) (kI (fun e52 m52 q52 => ?_))
        obtain ⟨t52, f52, s52, q52⟩ := q52
        have qr52 : e52 = 0 ∨ e52 = 1 := by rcases q52 with ⟨z, -⟩ | ⟨z, -⟩ <;> omega
        refine w_if_eq (tgt := 62) (by omega) dX2_readItem_55 (by decide) (fun h55 => ?_) (fun h55 => ?_)
        · refine w_iconst dX2_readItem_62 ?_
          exact w_zretP rfl dX2_readItem_63 (by omega) (by rcases q52 with ⟨zz, me⟩ | ⟨zz, -⟩; rotate_left; (exact absurd zz (by omega)); have ez : iqE T L K p = nq T L (stormR (tV T L (tE T L p))) (tE T L p) := (ift_n hw3).trans ((ift_p hw35).trans (if_pos (by rw [← hCR.1.2.1]; omega))); rw [ez]; exact ⟨t52, zz.symm.trans f52, s52, SC_fr me hSC, fun h => absurd h (by decide)⟩)
        · refine w_iconst dX2_readItem_58 ?_
          refine w_goto (tgt := 63) dX2_readItem_59 (by decide) ?_
          exact w_zretP rfl dX2_readItem_63 (by omega) (by rcases q52 with ⟨zz, -⟩ | ⟨zz, ok, me⟩; (exact absurd zz (by omega)); have ez : iqE T L K p = nq T L (stormR (tV T L (tE T L p))) (tE T L p) := (ift_n hw3).trans ((ift_p hw35).trans (if_pos (by rw [← hCR.1.2.1]; omega))); rw [ez]; have ek : iqK T L K p = kAS K (K 94) (qv T L p 0) (qv T L p 1) (qv T L p 2) (qv T L p 3) (qv T L p 4) := (ift_n hw3).trans (ift_p hw35); rw [ek]; rw [hCR.1.2.1] at me; exact ⟨t52, zz.symm.trans f52, s52, SC_fr me (SC_AS hSC hCR.1.2.1.symm (by rw [← hCR.1.2.1]; omega) ok.1.2 (by have := ok.1.2; have := ok.2.1.2; omega) ok.2.2.1.2 (by have := ok.2.2.2.1.2; omega) ok.2.2.2.2.2), fun _ => CR_fr me (CR_AS hCR rfl (by rw [← hCR.1.2.1]; omega) (by rw [← hCR.1.1]; omega))⟩)
  · have hw3 : isW T L p wRoof := by
      rcases q3 with ⟨-, z⟩ | ⟨z, -⟩
      · exact (cW_isW hT ht).mp z
      · exact absurd z h6
    refine w_aload_n dX2_readItem_9 rfl ?_
    refine gf_X2_49 rfl (cnO hc) dX2_readItem_10 ?_
    refine w_bipush dX2_readItem_13 (by decide) ?_
    refine w_icmp_ge (tgt := 30) (by omega) (by omega) dX2_readItem_15 (by decide) (fun h15 => ?_) (fun h15 => ?_)
    · refine w_iconst dX2_readItem_30 ?_
      exact w_zretP rfl dX2_readItem_31 (by omega) (by have ez : iqE T L K p = (0, p) := (ift_p hw3).trans (if_neg (by rw [← hCR.1.1]; omega)); rw [ez]; exact ⟨ht, rfl, ⟨rfl, rfl, fun _ _ _ _ => rfl⟩, hSC, fun h => absurd h (by decide)⟩)
    · refine w_aload_n dX2_readItem_18 rfl ?_
      refine w_aload_n dX2_readItem_19 rfl ?_
      refine w_cV1 kX2_readRoof ml_X2_52 ob_151 rfl (Nat.le_of_ble_eq_true rfl) (by decide) dX2_readItem_20 (c_X2_readRoof (T := T) (L := L) (p := tE T L p) hc hT hL hX ht.2.1 (tE_p T hp0) (by omega)) (kI (fun e20 m20 q20 => ?_))
      obtain ⟨t20, f20, s20, q20⟩ := q20
      have qr20 : e20 = 0 ∨ e20 = 1 := by rcases q20 with ⟨z, -⟩ | ⟨z, -⟩ <;> omega
      refine w_if_eq (tgt := 30) (by omega) dX2_readItem_23 (by decide) (fun h23 => ?_) (fun h23 => ?_)
      · refine w_iconst dX2_readItem_30 ?_
        exact w_zretP rfl dX2_readItem_31 (by omega) (by rcases q20 with ⟨zz, me⟩ | ⟨zz, -⟩; rotate_left; (exact absurd zz (by omega)); have ez : iqE T L K p = nq T L roofR (tE T L p) := (ift_p hw3).trans (if_pos (by rw [← hCR.1.1]; omega)); rw [ez]; exact ⟨t20, zz.symm.trans f20, s20, SC_fr me hSC, fun h => absurd h (by decide)⟩)
      · refine w_iconst dX2_readItem_26 ?_
        refine w_goto (tgt := 31) dX2_readItem_27 (by decide) ?_
        exact w_zretP rfl dX2_readItem_31 (by omega) (by rcases q20 with ⟨zz, -⟩ | ⟨zz, ok, me⟩; (exact absurd zz (by omega)); have ez : iqE T L K p = nq T L roofR (tE T L p) := (ift_p hw3).trans (if_pos (by rw [← hCR.1.1]; omega)); rw [ez]; have ek : iqK T L K p = kAR K (K 93) (qv T L p 0) (qv T L p 1) (qv T L p 2) (qv T L p 3) (qv T L p 4) (qv T L p 5) := ift_p hw3; rw [ek]; rw [hCR.1.1] at me; exact ⟨t20, zz.symm.trans f20, s20, SC_fr me (SC_AR hSC hCR.1.1.symm (by rw [← hCR.1.1]; omega) ok.1.2 ok.2.1.2 ok.2.2.1.2 ok.2.2.2.1.2 ok.2.2.2.2.1.2 ok.2.2.2.2.2.2), fun _ => CR_fr me (CR_AR hCR rfl (by rw [← hCR.1.1]; omega) (by rw [← hCR.1.2.1]; omega))⟩)
set_option maxRecDepth 100000 in
set_option maxHeartbeats 4000000 in
theorem c_X2_readInto {g : gG} {l : Launch} {μ : gM} {c : Nat} (hc : cn c) {T : Int → Int} {L : Int} (hT : μ 152 = T) (hL : μ 151 0 = L) (hX : TXo T L) (hI : CI μ c) : CT g l YX2_readInto 7 [vR 151, vR c] μ (pI fun e μ2 => e = (rl T L 251 (fun _ => 0) 0 0).1 ∧ smc c μ μ2 ∧ CI μ2 c ∧ (0 ≤ e → SC μ2 c ∧ CR μ2 c (rl T L 251 (fun _ => 0) 0 0).2 0)) := by
  have hX1 := hX.1
  have n0 := cn_rd hc (i := 0) (by decide)
  have n11 := cn_rd hc (i := 11) (by decide)
  have hT0 : mEm μ c 152 = T := by rw [mEm_o (by omega) (by omega)]; exact hT
  have hL0 : mEm μ c 151 0 = L := by rw [mEm_o (by omega) (by omega)]; exact hL
  refine CT.of (n := 1) (by decide) rfl ?_
  show WA g l YX2_readInto 7 _ 0 [some (vR 151), some (vR c), none] [] μ
  refine w_aload_n dX2_readInto_0 rfl ?_
  refine w_cV0 kX0_empty ml_X2_22 (cnO hc) rfl (Nat.le_of_ble_eq_true rfl) (by decide) dX2_readInto_1 (c_X0_empty hc) (kU (fun m1 q1 => ?_))
  obtain rfl := q1
  show WA g l YX2_readInto 7 _ _ _ _ (mEm μ c)
  refine w_aload_n dX2_readInto_4 rfl ?_
  refine w_iconst dX2_readInto_5 ?_
  refine pf_X2_27 rfl dX2_readInto_6 ?_
  refine w_iconst dX2_readInto_9 ?_
  refine w_istore_n dX2_readInto_10 (by decide) rfl ?_
  refine w_aload_n dX2_readInto_11 rfl ?_
  refine w_cV0 kX2_nextToken ml_X2_30 ob_151 rfl (Nat.le_of_ble_eq_true rfl) (by decide) dX2_readInto_12 (c_X2_nextToken (T := T) (L := L) (p := 0) (by rw [rw2]; exact hT0) (by rw [rd40]; exact hL0) hX wr_s (by omega)) (kU (fun m12 q12 => ?_))
  obtain ⟨t12, s12, n12⟩ := q12
  have u12 : smc c μ m12 := ⟨by rw [s12.1, rw2, hT0, hT], by rw [s12.2.1, rd40, hL0, hL], fun a z1 z2 z3 => by rw [s12.2.2 a z1 z2, wr_o z1, mEm_o (by omega) (by omega)]⟩
  have fr12 : ∀ i, i < 12 → m12 (c + i) = mEm μ c (c + i) := fun i hi => by rw [s12.2.2 _ (cn_rd hc hi).1 (cn_rd hc hi).2.2.1, wr_o (cn_rd hc hi).1]
  refine w_loop (ι := Int × Int × (Int → Int) × gM) (fun i => match i with | (n, p, K, m) => (0 ≤ n ∧ n ≤ p ∧ p ≤ L) ∧ tok m T L p ∧ smc c μ m ∧ SC m c ∧ CR m c K 0 ∧ rl T L (251 - n).toNat K p n = rl T L 251 (fun _ => 0) 0 0) (fun i => match i with | (n, p, K, m) => (L - p).toNat) (fun i => match i with | (n, p, K, m) => [some (vR 151), some (vR c), some (vI n)]) (fun i => match i with | (n, p, K, m) => m) ?_ (0, 0, (fun _ => 0), m12) ⟨by omega, t12, u12, SC_fr fr12 (SC_em hI), CR_fr fr12 CR_em, rfl⟩
  intro i_ hinv15 ih15
  obtain ⟨n, p, K, m⟩ := i_
  try dsimp only at hinv15 ih15 ⊢
  obtain ⟨a1, ht, u, hSC, hCR, hrl⟩ := hinv15
  refine w_iload_n dX2_readInto_15 rfl ?_
  refine w_sipush dX2_readInto_16 (by decide) ?_
  refine w_icmp_ge (tgt := 55) (by omega) (by omega) dX2_readInto_19 (by decide) (fun h19 => ?_) (fun h19 => ?_)
  · have hts : tS T L p = 0 := (tS_0 a1.2.2).mpr (by have := tA_bd T (L := L) (p := p) (by omega); omega)
    refine w_iload_n dX2_readInto_55 rfl ?_
    exact w_iretP rfl dX2_readInto_56 (by refine ⟨?_, u, hSC.1, fun _ => ⟨hSC, ?_⟩⟩; (rw [← hrl, rl_0 hts]); rw [← hrl, rl_0 hts]; exact hCR)
  · refine w_aload_n dX2_readInto_22 rfl ?_
    refine gf_X2_33 rfl dX2_readInto_23 ?_
    rw [ht.2.2]
    have hSb := tS_bd T L p
    refine w_if_eq (tgt := 55) (by omega) dX2_readInto_26 (by decide) (fun h26 => ?_) (fun h26 => ?_)
    · have hts : tS T L p = 0 := h26
      refine w_iload_n dX2_readInto_55 rfl ?_
      exact w_iretP rfl dX2_readInto_56 (by refine ⟨?_, u, hSC.1, fun _ => ⟨hSC, ?_⟩⟩; (rw [← hrl, rl_0 hts]); rw [← hrl, rl_0 hts]; exact hCR)
    · have hs0 : tS T L p ≠ 0 := h26
      refine w_aload_n dX2_readInto_29 rfl ?_
      refine w_aload_n dX2_readInto_30 rfl ?_
      refine w_cV1 kX2_readItem ml_X2_36 ob_151 rfl (Nat.le_of_ble_eq_true rfl) (by decide) dX2_readInto_31 (c_X2_readItem (T := T) (L := L) (p := p) (K := K) hc (u.1.trans hT) (u.2.1.trans hL) hX ht (by omega) hCR hSC) (kI (fun e31 m31 q31 => ?_))
      obtain ⟨t31, f31, s31, k31, q31⟩ := q31
      have ib := iqE_bd T K (p := p) (L := L) (by omega)
      rw [← f31] at ib
      refine w_if_ne (tgt := 45) (by omega) dX2_readInto_34 (by decide) (fun h34 => ?_) (fun h34 => ?_)
      · have e1_ : e31 = 1 := by omega
        refine w_iinc dX2_readInto_45 rfl (by decide) rfl ?_
        refine w_aload_n dX2_readInto_48 rfl ?_
        refine w_cV0 kX2_nextToken ml_X2_30 ob_151 rfl (Nat.le_of_ble_eq_true rfl) (by decide) dX2_readInto_49 (c_X2_nextToken (T := T) (L := L) (p := tE T L (iqE T L K p).2) ((u.trans s31).1.trans hT) ((u.trans s31).2.1.trans hL) hX t31.2.1 (tE_p T ⟨ib.1, ib.2.1⟩)) (kU (fun m49 q49 => ?_))
        obtain ⟨t49, s49, n49⟩ := q49
        have fr49 : ∀ i, i < 12 → m49 (c + i) = m31 (c + i) := fun i hi => s49.2.2 _ (cn_rd hc hi).1 (cn_rd hc hi).2.2.1
        refine w_goto (tgt := 15) dX2_readInto_52 (by decide) ?_
        have e1 := tE_bd T (L := L) (p := (iqE T L K p).2) ib.2.1
        have e2 := tA_bd T (L := L) (p := (iqE T L K p).2) ib.2.1
        exact ih15 (n + 1, tE T L (iqE T L K p).2, iqK T L K p, m49) ⟨by dsimp only; omega, t49, (u.trans s31).trans s49.smc, SC_fr fr49 k31, CR_fr fr49 (q31 e1_), by dsimp only; rw [← hrl]; exact (rl_1 (by omega) hs0 (f31 ▸ e1_)).symm⟩ (by dsimp only; omega)
      · refine w_bipush dX2_readInto_37 (by decide) ?_
        refine w_aload_n dX2_readInto_39 rfl ?_
        refine gf_X2_40 rfl dX2_readInto_40 ?_
        refine w_isub dX2_readInto_43 ?_
        exact w_iretP rfl dX2_readInto_44 (by refine ⟨?_, u.trans s31, k31.1, fun hz => ?_⟩; (rw [← hrl, rl_2 (f2 := (250 - n).toNat) (by omega) hs0 (by rw [← f31]; omega), t31.1]); exfalso; (have e2 := tA_bd T (L := L) (p := (iqE T L K p).2) ib.2.1); rw [t31.1] at hz; omega)
set_option maxRecDepth 100000 in
set_option maxHeartbeats 4000000 in
theorem c_X4_read {g : gG} {l : Launch} {μ : gM}  {T : Int → Int} {L : Int} (hT : μ 152 = T) (hL : μ 151 0 = L) (hX : TXo T L) (hA : AI μ) : CT g l YX4_read 8 [vR 0] μ (pI fun e μ2 => e = (rl T L 251 (fun _ => 0) 0 0).1 ∧ ((e < 0 ∧ smc 155 μ μ2 ∧ CI μ2 155) ∨ (0 ≤ e ∧ ∃ mt, smc 155 μ mt ∧ SC mt 155 ∧ CR mt 155 (rl T L 251 (fun _ => 0) 0 0).2 0 ∧ ∃ mb, BC mt mb 3 155 ∧ μ2 = wr mb 1 1 0))) := by
  refine CT.of (n := 1) (by decide) rfl ?_
  show WA g l YX4_read 8 _ 0 [some (vR 0), none] [] μ
  refine w_aload_n dX4_read_0 rfl ?_
  refine gf_X4_25 rfl dX4_read_1 ?_
  refine w_aload_n dX4_read_4 rfl ?_
  refine gf_X4_39 rfl dX4_read_5 ?_
  refine w_cV1 kX2_readInto ml_X4_98 ob_151 rfl (Nat.le_of_ble_eq_true rfl) (by decide) dX4_read_8 (c_X2_readInto (T := T) (L := L) cn155 hT hL hX (hA 155 cn155)) (kI (fun e8 m8 q8 => ?_))
  obtain ⟨f8, s8, k8, q8⟩ := q8
  have hI3 : CI m8 3 := CI_fr (fun i hi => s8.2.2 _ (by omega) (by omega) (by omega)) (hA 3 cn3)
  have rb : -1000 ≤ e8 ∧ e8 ≤ 1000 := by rw [f8]; exact rl_bd hX
  refine w_istore_n dX4_read_11 (by decide) rfl ?_
  refine w_iload_n dX4_read_12 rfl ?_
  refine w_if_ge (tgt := 18) (by omega) dX4_read_13 (by decide) (fun h13 => ?_) (fun h13 => ?_)
  · refine w_aload_n dX4_read_18 rfl ?_
    refine gf_X4_10 rfl dX4_read_19 ?_
    refine gf_X4_55_1 rfl dX4_read_22 ?_
    refine w_aload_n dX4_read_25 rfl ?_
    refine gf_X4_39 rfl dX4_read_26 ?_
    refine w_cV1 kX0_become ml_X4_102 (cnO cn3) rfl (Nat.le_of_ble_eq_true rfl) (by decide) dX4_read_29 (c_X0_become cn3 cn155 hI3 k8 (by decide)) (kU (fun m29 q29 => ?_))
    obtain q29 := q29
    refine w_aload_n dX4_read_32 rfl ?_
    refine gf_X4_10 rfl dX4_read_33 ?_
    refine w_iconst dX4_read_36 ?_
    refine pf_X4_106 rfl (snO sn1) dX4_read_37 ?_
    refine w_iload_n dX4_read_40 rfl ?_
    exact w_iretP rfl dX4_read_41 (by exact ⟨f8, Or.inr ⟨by omega, m8, s8, (q8 (by omega)).1, (q8 (by omega)).2, m29, q29, rfl⟩⟩)
  · refine w_iload_n dX4_read_16 rfl ?_
    exact w_iretP rfl dX4_read_17 (by exact ⟨f8, Or.inl ⟨by omega, s8, k8⟩⟩)
