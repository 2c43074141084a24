set_option maxRecDepth 100000 in
set_option maxHeartbeats 4000000 in
theorem c_X2_readNumber {g : gG} {l : Launch} {μ : gM} {i : Int} {lo : Int} {hi : Int} {T : Int → Int} {L p : Int} (hT : μ 152 = T) (hL : μ 151 0 = L) (hX : TXo T L) (hp : μ 151 4 = p) (hp0 : 0 ≤ p ∧ p ≤ L) (hi6 : 0 ≤ i ∧ i < 6) (g1 : 0 ≤ lo ∧ lo ≤ 255) (g2 : 0 ≤ hi ∧ hi ≤ 255) : CT g l YX2_readNumber 2 [vR 151, vI i, vI lo, vI hi] μ (pI fun e μ2 => tok μ2 T L p ∧ sme μ μ2 ∧ (∀ j, j ≠ i → μ2 153 j = μ 153 j) ∧ ((e = 1 ∧ (tS T L p = 2 ∧ lo ≤ tV T L p ∧ tV T L p ≤ hi) ∧ μ2 153 i = tV T L p) ∨ (e = 0 ∧ ¬ (tS T L p = 2 ∧ lo ≤ tV T L p ∧ tV T L p ≤ hi)))) := by
  have hX1 := hX.1
  have hA := tA_bd T hp0.2
  have hSb := tS_bd T L p
  refine CT.of (n := 0) (by decide) rfl ?_
  show WA g l YX2_readNumber 2 _ 0 [some (vR 151), some (vI i), some (vI lo), some (vI hi)] [] μ
  refine w_aload_n dX2_readNumber_0 rfl ?_
  refine w_cV0 kX2_nextToken ml_X2_30 ob_151 rfl (Nat.le_of_ble_eq_true rfl) (by decide) dX2_readNumber_1 (c_X2_nextToken hT hL hX hp hp0) (kU (fun m1 q1 => ?_))
  obtain ⟨t1, s1, n1⟩ := q1
  refine w_aload_n dX2_readNumber_4 rfl ?_
  refine gf_X2_33 rfl dX2_readNumber_5 ?_
  rw [t1.2.2]
  refine w_iconst dX2_readNumber_8 ?_
  refine w_icmp_eq (tgt := 14) (by omega) (by omega) dX2_readNumber_9 (by decide) (fun h9 => ?_) (fun h9 => ?_)
  · refine w_aload_n dX2_readNumber_14 rfl ?_
    refine gf_X2_15 rfl dX2_readNumber_15 ?_
    refine w_iload_n dX2_readNumber_18 rfl ?_
    refine w_aload_n dX2_readNumber_19 rfl ?_
    refine gf_X2_9 rfl dX2_readNumber_20 ?_
    refine w_aload_n dX2_readNumber_23 rfl ?_
    refine gf_X2_40 rfl dX2_readNumber_24 ?_
    have hAL : tA T L p < L := by
      rcases (by omega : tA T L p = L ∨ tA T L p < L) with z | z
      · have := (tS_0 hp0.2).mpr z; omega
      · exact z
    rw [t1.1]
    refine w_iald ar_152 (by omega) dX2_readNumber_27 ?_
    rw [s1.1, hT]
    refine w_bipush dX2_readNumber_28 (by decide) ?_
    refine w_isub dX2_readNumber_30 ?_
    refine w_iast ar_153 (by omega) dX2_readNumber_31 ?_
    refine w_aload_n dX2_readNumber_32 rfl ?_
    refine gf_X2_15 rfl dX2_readNumber_33 ?_
    refine w_iload_n dX2_readNumber_36 rfl ?_
    refine w_iald ar_153 (by omega) dX2_readNumber_37 ?_
    rw [wr_s]
    have hv := tV_bd h9
    have hvv : T (tA T L p) - 48 = tV T L p := rfl
    rw [hvv]
    refine w_iload_n dX2_readNumber_38 rfl ?_
    refine w_iload_n dX2_readNumber_39 rfl ?_
    refine w_cN rfl (Nat.le_of_ble_eq_true rfl) (by decide) dX2_readNumber_40 (c_X4_within (by omega) (by omega) (by omega)) (kI (fun e40 m40 q40 => ?_))
    obtain ⟨q40, rfl⟩ := q40
    exact w_zretP rfl dX2_readNumber_43 (by omega) (by refine ⟨?_, ⟨?_, ?_, fun a z1 z2 => ?_⟩, fun j hj => ?_, ?_⟩; exact ⟨by rw [wr_o (by decide)]; exact t1.1, by rw [wr_o (by decide)]; exact t1.2.1, by rw [wr_o (by decide)]; exact t1.2.2⟩; rw [wr_o (by decide)]; exact s1.1; rw [wr_o (by decide)]; exact s1.2.1; rw [wr_o z2]; exact s1.2.2 a z1 z2; rw [wr_n hj, n1]; rcases q40 with ⟨z1, z2⟩ | ⟨z1, z2⟩; exact Or.inl ⟨z1, ⟨h9, z2⟩, wr_s⟩; exact Or.inr ⟨z1, fun z => z2 z.2⟩)
  · refine w_iconst dX2_readNumber_12 ?_
    exact w_zretP rfl dX2_readNumber_13 (by omega) (by exact ⟨t1, s1, fun j hj => by rw [n1], Or.inr ⟨rfl, fun z => h9 z.1⟩⟩)
set_option maxRecDepth 100000 in
set_option maxHeartbeats 4000000 in
theorem c_X2_readStop {g : gG} {l : Launch} {μ : gM}  {T : Int → Int} {L p : Int} (hT : μ 152 = T) (hL : μ 151 0 = L) (hX : TXo T L) (hp : μ 151 4 = p) (hp0 : 0 ≤ p ∧ p ≤ L) : CT g l YX2_readStop 2 [vR 151] μ (pI fun e μ2 => tok μ2 T L p ∧ sme μ μ2 ∧ μ2 153 = μ 153 ∧ ((e = 1 ∧ tS T L p = 3) ∨ (e = 0 ∧ tS T L p ≠ 3))) := by
  have hSb := tS_bd T L p
  refine CT.of (n := 0) (by decide) rfl ?_
  show WA g l YX2_readStop 2 _ 0 [some (vR 151)] [] μ
  refine w_aload_n dX2_readStop_0 rfl ?_
  refine w_cV0 kX2_nextToken ml_X2_30 ob_151 rfl (Nat.le_of_ble_eq_true rfl) (by decide) dX2_readStop_1 (c_X2_nextToken hT hL hX hp hp0) (kU (fun m1 q1 => ?_))
  obtain ⟨t1, s1, n1⟩ := q1
  refine w_aload_n dX2_readStop_4 rfl ?_
  refine gf_X2_33 rfl dX2_readStop_5 ?_
  rw [t1.2.2]
  refine w_iconst dX2_readStop_8 ?_
  refine w_icmp_ne (tgt := 16) (by omega) (by omega) dX2_readStop_9 (by decide) (fun h9 => ?_) (fun h9 => ?_)
  · refine w_iconst dX2_readStop_16 ?_
    exact w_zretP rfl dX2_readStop_17 (by omega) (by exact ⟨t1, s1, n1, by omega⟩)
  · refine w_iconst dX2_readStop_12 ?_
    refine w_goto (tgt := 17) dX2_readStop_13 (by decide) ?_
    exact w_zretP rfl dX2_readStop_17 (by omega) (by exact ⟨t1, s1, n1, by omega⟩)
set_option maxRecDepth 100000 in
set_option maxHeartbeats 4000000 in
theorem c_X2_isWord {g : gG} {l : Launch} {μ : gM} {i : Nat} (hi : i < 3)  (hX : TXo (μ 152) (μ 151 0)) (ht : 0 ≤ μ 151 3 ∧ μ 151 3 ≤ μ 151 4 ∧ μ 151 4 ≤ μ 151 0) (h5 : 0 ≤ μ 151 5 ∧ μ 151 5 ≤ 4) : CT g l YX2_isWord 5 [vR 151, vR (1000 + i)] μ (pI fun e μ2 => ((e = 1 ∧ cW μ (words i)) ∨ (e = 0 ∧ ¬ cW μ (words i))) ∧ μ = μ2) := by
  have hX1 := hX.1
  have hwl : (words i).length < 100 := by
    rcases (by omega : i = 0 ∨ i = 1 ∨ i = 2) with rfl | rfl | rfl <;> decide
  refine CT.of (n := 1) (by decide) rfl ?_
  show WA g l YX2_isWord 5 _ 0 [some (vR 151), some (vR (1000 + i)), none] [] μ
  refine w_aload_n dX2_isWord_0 rfl ?_
  refine gf_X2_33 rfl dX2_isWord_1 ?_
  refine w_iconst dX2_isWord_4 ?_
  refine w_icmp_ne (tgt := 24) (by omega) (by omega) dX2_isWord_5 (by decide) (fun h5x => ?_) (fun h5x => ?_)
  · refine w_iconst dX2_isWord_24 ?_
    exact w_zretP rfl dX2_isWord_25 (by omega) (by refine ⟨Or.inr ⟨rfl, fun z => ?_⟩, rfl⟩; have z1 := z.1; have z2 := z.2.1; omega)
  · refine w_aload_n dX2_isWord_8 rfl ?_
    refine gf_X2_27 rfl dX2_isWord_9 ?_
    refine w_aload_n dX2_isWord_12 rfl ?_
    refine gf_X2_40 rfl dX2_isWord_13 ?_
    refine w_isub dX2_isWord_16 ?_
    refine w_aload_n dX2_isWord_17 rfl ?_
    refine w_cT0 hi ml_X2_90 (Nat.le_of_ble_eq_true rfl) (by decide) dX2_isWord_18 ?_
    refine w_icmp_eq (tgt := 26) (by omega) (by omega) dX2_isWord_21 (by decide) (fun h21 => ?_) (fun h21 => ?_)
    · refine w_iconst dX2_isWord_26 ?_
      refine w_istore_n dX2_isWord_27 (by decide) rfl ?_
      refine w_loop (ι := Int) (fun k => 0 ≤ k ∧ k ≤ (words i).length ∧ ∀ j : Nat, (j : Int) < k → μ 152 (μ 151 3 + j) = (words i).getD j 0) (fun k => ((words i).length - k).toNat) (fun k => [some (vR 151), some (vR (1000 + i)), some (vI k)]) (fun k => μ) ?_ 0 ⟨by omega, by omega, fun j hj => by omega⟩
      intro i_ hinv28 ih28
      obtain ⟨k, rfl⟩ : ∃ z, z = i_ := ⟨_, rfl⟩
      try dsimp only at hinv28 ih28 ⊢
      obtain ⟨a1, a2, a3⟩ := hinv28
      refine w_iload_n dX2_isWord_28 rfl ?_
      refine w_aload_n dX2_isWord_29 rfl ?_
      refine w_cT0 hi ml_X2_90 (Nat.le_of_ble_eq_true rfl) (by decide) dX2_isWord_30 ?_
      refine w_icmp_ge (tgt := 63) (by omega) (by omega) dX2_isWord_33 (by decide) (fun h33 => ?_) (fun h33 => ?_)
      · refine w_iconst dX2_isWord_63 ?_
        exact w_zretP rfl dX2_isWord_64 (by omega) (by exact ⟨Or.inl ⟨rfl, h5x, h21, fun j hj => a3 j (by omega)⟩, rfl⟩)
      · have hb := hX.2 (μ 151 3 + k) (by omega) (by omega)
        have hwb := words_b hi (j := k.toNat) (by omega)
        refine w_aload_n dX2_isWord_36 rfl ?_
        refine gf_X2_9 rfl dX2_isWord_37 ?_
        refine w_aload_n dX2_isWord_40 rfl ?_
        refine gf_X2_40 rfl dX2_isWord_41 ?_
        refine w_iload_n dX2_isWord_44 rfl ?_
        refine w_iadd dX2_isWord_45 ?_
        refine w_iald ar_152 (by omega) dX2_isWord_46 ?_
        refine w_aload_n dX2_isWord_47 rfl ?_
        refine w_iload_n dX2_isWord_48 rfl ?_
        refine w_cT1 hi (by omega) ml_X2_95 (Nat.le_of_ble_eq_true rfl) (by decide) dX2_isWord_49 ?_
        refine w_icmp_eq (tgt := 57) (by omega) (by omega) dX2_isWord_52 (by decide) (fun h52 => ?_) (fun h52 => ?_)
        · refine w_iinc dX2_isWord_57 rfl (by decide) rfl ?_
          refine w_goto (tgt := 28) dX2_isWord_60 (by decide) ?_
          refine ih28 _ ⟨by omega, by omega, fun j hj => ?_⟩ (by omega)
          by_cases ej : (j : Int) = k
          · rw [ej, h52, ← ej]; rfl
          · exact a3 j (by omega)
        · refine w_iconst dX2_isWord_55 ?_
          exact w_zretP rfl dX2_isWord_56 (by omega) (by refine ⟨Or.inr ⟨rfl, fun z => ?_⟩, rfl⟩; have z3 := z.2.2 k.toNat (by omega); rw [Int.toNat_of_nonneg a1] at z3; exact h52 z3)
    · refine w_iconst dX2_isWord_24 ?_
      exact w_zretP rfl dX2_isWord_25 (by omega) (by refine ⟨Or.inr ⟨rfl, fun z => ?_⟩, rfl⟩; have z1 := z.1; have z2 := z.2.1; omega)
