set_option maxRecDepth 100000 in
set_option maxHeartbeats 4000000 in
theorem c_X2_endOfRun {g : gG} {l : Launch} {μ : gM} {st : Int} {lo : Int} {hi : Int} {T : Int → Int} {L : Int} (hT : μ 152 = T) (hL : μ 151 0 = L) (hX : TXo T L) (hs : 0 ≤ st ∧ st ≤ L) (g1 : 0 ≤ lo ∧ lo ≤ 255) (g2 : 0 ≤ hi ∧ hi ≤ 255) : CT g l YX2_endOfRun 0 [vR 151, vI st, vI lo, vI hi] μ (pI fun e μ2 => e = eor T L lo hi st ∧ μ = μ2) := by
  subst hT
  subst hL
  have hX1 := hX.1
  refine CT.of (n := 1) (by decide) rfl ?_
  show WA g l YX2_endOfRun 0 _ 0 [some (vR 151), some (vI st), some (vI lo), some (vI hi), none] [] μ
  refine w_iload_n dX2_endOfRun_0 rfl ?_
  refine w_istore dX2_endOfRun_1 (by decide) rfl ?_
  refine w_loop (ι := Int) (fun i => st ≤ i ∧ i ≤ μ 151 0 ∧ eor (μ 152) (μ 151 0) lo hi i = eor (μ 152) (μ 151 0) lo hi st) (fun i => (μ 151 0 - i).toNat) (fun i => [some (vR 151), some (vI st), some (vI lo), some (vI hi), some (vI i)]) (fun i => μ) ?_ st ⟨by omega, by omega, rfl⟩
  intro i_ hinv3 ih3
  obtain ⟨i, rfl⟩ : ∃ z, z = i_ := ⟨_, rfl⟩
  try dsimp only at hinv3 ih3 ⊢
  obtain ⟨a1, a2, a3⟩ := hinv3
  refine w_iload dX2_endOfRun_3 rfl ?_
  refine w_aload_n dX2_endOfRun_5 rfl ?_
  refine gf_X2_18 rfl dX2_endOfRun_6 ?_
  refine w_icmp_ge (tgt := 43) (by omega) (by omega) dX2_endOfRun_9 (by decide) (fun h9 => ?_) (fun h9 => ?_)
  · refine w_aload_n dX2_endOfRun_43 rfl ?_
    refine gf_X2_18 rfl dX2_endOfRun_44 ?_
    exact w_iretP rfl dX2_endOfRun_47 (by refine ⟨?_, rfl⟩; rw [← a3, eor_end (by omega)]; omega)
  · have hb := hX.2 i (by omega) (by omega)
    refine w_aload_n dX2_endOfRun_12 rfl ?_
    refine gf_X2_9 rfl dX2_endOfRun_13 ?_
    refine w_iload dX2_endOfRun_16 rfl ?_
    refine w_iald ar_152 (by omega) dX2_endOfRun_18 ?_
    refine w_iload_n dX2_endOfRun_19 rfl ?_
    refine w_icmp_lt (tgt := 34) (by omega) (by omega) dX2_endOfRun_20 (by decide) (fun h20 => ?_) (fun h20 => ?_)
    · refine w_iload dX2_endOfRun_34 rfl ?_
      exact w_iretP rfl dX2_endOfRun_36 (by refine ⟨?_, rfl⟩; rw [← a3]; exact (eor_out (by omega) (by omega)).symm)
    · refine w_aload_n dX2_endOfRun_23 rfl ?_
      refine gf_X2_9 rfl dX2_endOfRun_24 ?_
      refine w_iload dX2_endOfRun_27 rfl ?_
      refine w_iald ar_152 (by omega) dX2_endOfRun_29 ?_
      refine w_iload_n dX2_endOfRun_30 rfl ?_
      refine w_icmp_le (tgt := 37) (by omega) (by omega) dX2_endOfRun_31 (by decide) (fun h31 => ?_) (fun h31 => ?_)
      · refine w_iinc dX2_endOfRun_37 rfl (by decide) rfl ?_
        refine w_goto (tgt := 3) dX2_endOfRun_40 (by decide) ?_
        exact ih3 _ ⟨by omega, by omega, by rw [← a3]; exact (eor_in (by omega) (by omega)).symm⟩ (by omega)
      · refine w_iload dX2_endOfRun_34 rfl ?_
        exact w_iretP rfl dX2_endOfRun_36 (by refine ⟨?_, rfl⟩; rw [← a3]; exact (eor_out (by omega) (by omega)).symm)
set_option maxRecDepth 100000 in
set_option maxHeartbeats 4000000 in
theorem c_X2_nextToken {g : gG} {l : Launch} {μ : gM}  {T : Int → Int} {L p : Int} (hT : μ 152 = T) (hL : μ 151 0 = L) (hX : TXo T L) (hp : μ 151 4 = p) (hp0 : 0 ≤ p ∧ p ≤ L) : CT g l YX2_nextToken 1 [vR 151] μ (pV fun μ2 => tok μ2 T L p ∧ sme μ μ2 ∧ μ2 153 = μ 153) := by
  have hX1 := hX.1
  have hA := tA_bd T hp0.2
  refine CT.of (n := 0) (by decide) rfl ?_
  show WA g l YX2_nextToken 1 _ 0 [some (vR 151)] [] μ
  refine w_aload_n dX2_nextToken_0 rfl ?_
  refine w_aload_n dX2_nextToken_1 rfl ?_
  refine w_aload_n dX2_nextToken_2 rfl ?_
  refine gf_X2_27 rfl dX2_nextToken_3 ?_
  try simp only [wr_s, rd30, rd34, rd35, rd40, rd43, rd45, rd50, rd53, rd54, rw2, rw3]
  refine w_bipush dX2_nextToken_6 (by decide) ?_
  refine w_bipush dX2_nextToken_8 (by decide) ?_
  rw [hp]
  refine w_cV3 kX2_endOfRun ml_X2_99 ob_151 rfl (Nat.le_of_ble_eq_true rfl) (by decide) dX2_nextToken_10 (c_X2_endOfRun (T := T) (L := L) hT hL hX (by omega) (by decide) (by decide)) (kI (fun e10 m10 q10 => ?_))
  obtain ⟨rfl, rfl⟩ := q10
  try simp only [wr_s, rd30, rd34, rd35, rd40, rd43, rd45, rd50, rd53, rd54, rw2, rw3]
  refine pf_X2_40 rfl dX2_nextToken_13 ?_
  rw [show eor T L 32 32 p = tA T L p from rfl]
  refine w_aload_n dX2_nextToken_16 rfl ?_
  refine w_aload_n dX2_nextToken_17 rfl ?_
  refine gf_X2_40 rfl dX2_nextToken_18 ?_
  try simp only [wr_s, rd30, rd34, rd35, rd40, rd43, rd45, rd50, rd53, rd54, rw2, rw3]
  refine w_iconst dX2_nextToken_21 ?_
  refine w_iadd dX2_nextToken_22 ?_
  refine pf_X2_27 rfl dX2_nextToken_23 ?_
  refine w_aload_n dX2_nextToken_26 rfl ?_
  refine gf_X2_40 rfl dX2_nextToken_27 ?_
  try simp only [wr_s, rd30, rd34, rd35, rd40, rd43, rd45, rd50, rd53, rd54, rw2, rw3]
  refine w_aload_n dX2_nextToken_30 rfl ?_
  refine gf_X2_18 rfl dX2_nextToken_31 ?_
  try simp only [wr_s, rd30, rd34, rd35, rd40, rd43, rd45, rd50, rd53, rd54, rw2, rw3]
  rw [hL]
  refine w_icmp_lt (tgt := 53) (by omega) (by omega) dX2_nextToken_34 (by decide) (fun h34 => ?_) (fun h34 => ?_)
  · refine w_aload_n dX2_nextToken_53 rfl ?_
    refine gf_X2_9 rfl dX2_nextToken_54 ?_
    try simp only [wr_s, rd30, rd34, rd35, rd40, rd43, rd45, rd50, rd53, rd54, rw2, rw3]
    refine w_aload_n dX2_nextToken_57 rfl ?_
    refine gf_X2_40 rfl dX2_nextToken_58 ?_
    try simp only [wr_s, rd30, rd34, rd35, rd40, rd43, rd45, rd50, rd53, rd54, rw2, rw3]
    refine w_iald ar_152 (by omega) dX2_nextToken_61 ?_
    try simp only [wr_s, rd30, rd34, rd35, rd40, rd43, rd45, rd50, rd53, rd54, rw2, rw3]
    rw [hT]
    have hb := hX.2 (tA T L p) (by omega) (by omega)
    refine w_bipush dX2_nextToken_62 (by decide) ?_
    refine w_bipush dX2_nextToken_64 (by decide) ?_
    refine w_cN rfl (Nat.le_of_ble_eq_true rfl) (by decide) dX2_nextToken_66 (c_X4_within (by omega) (by omega) (by omega)) (kI (fun e66 m66 q66 => ?_))
    obtain ⟨q66, rfl⟩ := q66
    try simp only [wr_s, rd30, rd34, rd35, rd40, rd43, rd45, rd50, rd53, rd54, rw2, rw3]
    refine w_if_eq (tgt := 96) (by omega) dX2_nextToken_69 (by decide) (fun h69 => ?_) (fun h69 => ?_)
    · refine w_aload_n dX2_nextToken_96 rfl ?_
      refine gf_X2_9 rfl dX2_nextToken_97 ?_
      try simp only [wr_s, rd30, rd34, rd35, rd40, rd43, rd45, rd50, rd53, rd54, rw2, rw3]
      refine w_aload_n dX2_nextToken_100 rfl ?_
      refine gf_X2_40 rfl dX2_nextToken_101 ?_
      try simp only [wr_s, rd30, rd34, rd35, rd40, rd43, rd45, rd50, rd53, rd54, rw2, rw3]
      refine w_iald ar_152 (by omega) dX2_nextToken_104 ?_
      try simp only [wr_s, rd30, rd34, rd35, rd40, rd43, rd45, rd50, rd53, rd54, rw2, rw3]
      rw [hT]
      refine w_bipush dX2_nextToken_105 (by decide) ?_
      refine w_bipush dX2_nextToken_107 (by decide) ?_
      refine w_cN rfl (Nat.le_of_ble_eq_true rfl) (by decide) dX2_nextToken_109 (c_X4_within (by omega) (by omega) (by omega)) (kI (fun e109 m109 q109 => ?_))
      obtain ⟨q109, rfl⟩ := q109
      try simp only [wr_s, rd30, rd34, rd35, rd40, rd43, rd45, rd50, rd53, rd54, rw2, rw3]
      refine w_if_eq (tgt := 156) (by omega) dX2_nextToken_112 (by decide) (fun h112 => ?_) (fun h112 => ?_)
      · refine w_aload_n dX2_nextToken_156 rfl ?_
        refine w_aload_n dX2_nextToken_157 rfl ?_
        refine gf_X2_9 rfl dX2_nextToken_158 ?_
        try simp only [wr_s, rd30, rd34, rd35, rd40, rd43, rd45, rd50, rd53, rd54, rw2, rw3]
        refine w_aload_n dX2_nextToken_161 rfl ?_
        refine gf_X2_40 rfl dX2_nextToken_162 ?_
        try simp only [wr_s, rd30, rd34, rd35, rd40, rd43, rd45, rd50, rd53, rd54, rw2, rw3]
        refine w_iald ar_152 (by omega) dX2_nextToken_165 ?_
        try simp only [wr_s, rd30, rd34, rd35, rd40, rd43, rd45, rd50, rd53, rd54, rw2, rw3]
        rw [hT]
        refine w_bipush dX2_nextToken_166 (by decide) ?_
        refine w_icmp_ne (tgt := 175) (by omega) (by omega) dX2_nextToken_168 (by decide) (fun h168 => ?_) (fun h168 => ?_)
        · refine w_iconst dX2_nextToken_175 ?_
          refine pf_X2_33 rfl dX2_nextToken_176 ?_
          exact w_vretP rfl dX2_nextToken_179 (by refine ⟨⟨?_, ?_, ?_⟩, ⟨?_, ?_, fun a z1 z2 => ?_⟩, ?_⟩ <;> first | (simp only [wr_s, rd30, rd34, rd35, rd40, rd43, rd45, rd50, rd53, rd54, rw2, rw3]; done) | (simp only [wr_s, rd30, rd34, rd35, rd40, rd43, rd45, rd50, rd53, rd54, rw2, rw3, rwo z1]; done) | (simp only [wr_s, rd30, rd34, rd35, rd40, rd43, rd45, rd50, rd53, rd54, rw2, rw3]; unfold tE; (repeat' split) <;> omega) | (simp only [wr_s, rd30, rd34, rd35, rd40, rd43, rd45, rd50, rd53, rd54, rw2, rw3]; unfold tS; (repeat' split) <;> omega))
        · refine w_iconst dX2_nextToken_171 ?_
          refine w_goto (tgt := 176) dX2_nextToken_172 (by decide) ?_
          refine pf_X2_33 rfl dX2_nextToken_176 ?_
          exact w_vretP rfl dX2_nextToken_179 (by refine ⟨⟨?_, ?_, ?_⟩, ⟨?_, ?_, fun a z1 z2 => ?_⟩, ?_⟩ <;> first | (simp only [wr_s, rd30, rd34, rd35, rd40, rd43, rd45, rd50, rd53, rd54, rw2, rw3]; done) | (simp only [wr_s, rd30, rd34, rd35, rd40, rd43, rd45, rd50, rd53, rd54, rw2, rw3, rwo z1]; done) | (simp only [wr_s, rd30, rd34, rd35, rd40, rd43, rd45, rd50, rd53, rd54, rw2, rw3]; unfold tE; (repeat' split) <;> omega) | (simp only [wr_s, rd30, rd34, rd35, rd40, rd43, rd45, rd50, rd53, rd54, rw2, rw3]; unfold tS; (repeat' split) <;> omega))
      · refine w_aload_n dX2_nextToken_115 rfl ?_
        refine w_aload_n dX2_nextToken_116 rfl ?_
        refine w_aload_n dX2_nextToken_117 rfl ?_
        refine gf_X2_40 rfl dX2_nextToken_118 ?_
        try simp only [wr_s, rd30, rd34, rd35, rd40, rd43, rd45, rd50, rd53, rd54, rw2, rw3]
        refine w_bipush dX2_nextToken_121 (by decide) ?_
        refine w_bipush dX2_nextToken_123 (by decide) ?_
        refine w_cV3 kX2_endOfRun ml_X2_99 ob_151 rfl (Nat.le_of_ble_eq_true rfl) (by decide) dX2_nextToken_125 (c_X2_endOfRun (T := T) (L := L) (by simp only [rw2]; exact hT) (by simp only [rd30, rd40, rd50]; exact hL) hX (by omega) (by decide) (by decide)) (kI (fun e125 m125 q125 => ?_))
        obtain ⟨rfl, rfl⟩ := q125
        try simp only [wr_s, rd30, rd34, rd35, rd40, rd43, rd45, rd50, rd53, rd54, rw2, rw3]
        refine pf_X2_27 rfl dX2_nextToken_128 ?_
        have he := eor_bd T (L := L) (lo := 48) (hi := 57) (i := tA T L p) (by omega)
        refine w_aload_n dX2_nextToken_131 rfl ?_
        refine w_aload_n dX2_nextToken_132 rfl ?_
        refine gf_X2_27 rfl dX2_nextToken_133 ?_
        try simp only [wr_s, rd30, rd34, rd35, rd40, rd43, rd45, rd50, rd53, rd54, rw2, rw3]
        refine w_aload_n dX2_nextToken_136 rfl ?_
        refine gf_X2_40 rfl dX2_nextToken_137 ?_
        try simp only [wr_s, rd30, rd34, rd35, rd40, rd43, rd45, rd50, rd53, rd54, rw2, rw3]
        refine w_isub dX2_nextToken_140 ?_
        refine w_iconst dX2_nextToken_141 ?_
        refine w_icmp_ne (tgt := 149) (by omega) (by omega) dX2_nextToken_142 (by decide) (fun h142 => ?_) (fun h142 => ?_)
        · refine w_iconst dX2_nextToken_149 ?_
          refine pf_X2_33 rfl dX2_nextToken_150 ?_
          refine w_goto (tgt := 179) dX2_nextToken_153 (by decide) ?_
          exact w_vretP rfl dX2_nextToken_179 (by refine ⟨⟨?_, ?_, ?_⟩, ⟨?_, ?_, fun a z1 z2 => ?_⟩, ?_⟩ <;> first | (simp only [wr_s, rd30, rd34, rd35, rd40, rd43, rd45, rd50, rd53, rd54, rw2, rw3]; done) | (simp only [wr_s, rd30, rd34, rd35, rd40, rd43, rd45, rd50, rd53, rd54, rw2, rw3, rwo z1]; done) | (simp only [wr_s, rd30, rd34, rd35, rd40, rd43, rd45, rd50, rd53, rd54, rw2, rw3]; unfold tE; (repeat' split) <;> omega) | (simp only [wr_s, rd30, rd34, rd35, rd40, rd43, rd45, rd50, rd53, rd54, rw2, rw3]; unfold tS; (repeat' split) <;> omega))
        · refine w_iconst dX2_nextToken_145 ?_
          refine w_goto (tgt := 150) dX2_nextToken_146 (by decide) ?_
          refine pf_X2_33 rfl dX2_nextToken_150 ?_
          refine w_goto (tgt := 179) dX2_nextToken_153 (by decide) ?_
          exact w_vretP rfl dX2_nextToken_179 (by refine ⟨⟨?_, ?_, ?_⟩, ⟨?_, ?_, fun a z1 z2 => ?_⟩, ?_⟩ <;> first | (simp only [wr_s, rd30, rd34, rd35, rd40, rd43, rd45, rd50, rd53, rd54, rw2, rw3]; done) | (simp only [wr_s, rd30, rd34, rd35, rd40, rd43, rd45, rd50, rd53, rd54, rw2, rw3, rwo z1]; done) | (simp only [wr_s, rd30, rd34, rd35, rd40, rd43, rd45, rd50, rd53, rd54, rw2, rw3]; unfold tE; (repeat' split) <;> omega) | (simp only [wr_s, rd30, rd34, rd35, rd40, rd43, rd45, rd50, rd53, rd54, rw2, rw3]; unfold tS; (repeat' split) <;> omega))
    · refine w_aload_n dX2_nextToken_72 rfl ?_
      refine w_iconst dX2_nextToken_73 ?_
      refine pf_X2_33 rfl dX2_nextToken_74 ?_
      refine w_aload_n dX2_nextToken_77 rfl ?_
      refine w_aload_n dX2_nextToken_78 rfl ?_
      refine w_aload_n dX2_nextToken_79 rfl ?_
      refine gf_X2_40 rfl dX2_nextToken_80 ?_
      try simp only [wr_s, rd30, rd34, rd35, rd40, rd43, rd45, rd50, rd53, rd54, rw2, rw3]
      refine w_bipush dX2_nextToken_83 (by decide) ?_
      refine w_bipush dX2_nextToken_85 (by decide) ?_
      refine w_cV3 kX2_endOfRun ml_X2_99 ob_151 rfl (Nat.le_of_ble_eq_true rfl) (by decide) dX2_nextToken_87 (c_X2_endOfRun (T := T) (L := L) (by simp only [rw2]; exact hT) (by simp only [rd30, rd40, rd50]; exact hL) hX (by omega) (by decide) (by decide)) (kI (fun e87 m87 q87 => ?_))
      obtain ⟨rfl, rfl⟩ := q87
      try simp only [wr_s, rd30, rd34, rd35, rd40, rd43, rd45, rd50, rd53, rd54, rw2, rw3]
      refine pf_X2_27 rfl dX2_nextToken_90 ?_
      refine w_goto (tgt := 179) dX2_nextToken_93 (by decide) ?_
      exact w_vretP rfl dX2_nextToken_179 (by refine ⟨⟨?_, ?_, ?_⟩, ⟨?_, ?_, fun a z1 z2 => ?_⟩, ?_⟩ <;> first | (simp only [wr_s, rd30, rd34, rd35, rd40, rd43, rd45, rd50, rd53, rd54, rw2, rw3]; done) | (simp only [wr_s, rd30, rd34, rd35, rd40, rd43, rd45, rd50, rd53, rd54, rw2, rw3, rwo z1]; done) | (simp only [wr_s, rd30, rd34, rd35, rd40, rd43, rd45, rd50, rd53, rd54, rw2, rw3]; unfold tE; (repeat' split) <;> omega) | (simp only [wr_s, rd30, rd34, rd35, rd40, rd43, rd45, rd50, rd53, rd54, rw2, rw3]; unfold tS; (repeat' split) <;> omega))
  · refine w_aload_n dX2_nextToken_37 rfl ?_
    refine w_iconst dX2_nextToken_38 ?_
    refine pf_X2_33 rfl dX2_nextToken_39 ?_
    refine w_aload_n dX2_nextToken_42 rfl ?_
    refine w_aload_n dX2_nextToken_43 rfl ?_
    refine gf_X2_18 rfl dX2_nextToken_44 ?_
    try simp only [wr_s, rd30, rd34, rd35, rd40, rd43, rd45, rd50, rd53, rd54, rw2, rw3]
    rw [hL]
    refine pf_X2_27 rfl dX2_nextToken_47 ?_
    refine w_goto (tgt := 179) dX2_nextToken_50 (by decide) ?_
    exact w_vretP rfl dX2_nextToken_179 (by refine ⟨⟨?_, ?_, ?_⟩, ⟨?_, ?_, fun a z1 z2 => ?_⟩, ?_⟩ <;> first | (simp only [wr_s, rd30, rd34, rd35, rd40, rd43, rd45, rd50, rd53, rd54, rw2, rw3]; done) | (simp only [wr_s, rd30, rd34, rd35, rd40, rd43, rd45, rd50, rd53, rd54, rw2, rw3, rwo z1]; done) | (simp only [wr_s, rd30, rd34, rd35, rd40, rd43, rd45, rd50, rd53, rd54, rw2, rw3]; unfold tE; (repeat' split) <;> omega) | (simp only [wr_s, rd30, rd34, rd35, rd40, rd43, rd45, rd50, rd53, rd54, rw2, rw3]; unfold tS; (repeat' split) <;> omega))
