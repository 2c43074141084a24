set_option maxRecDepth 100000 in
set_option maxHeartbeats 4000000 in
theorem c_X5_isSmall {g : gG} {l : Launch} {μ : gM} {v : Int}  (g1 : -2147483648 ≤ v ∧ v < 2147483648) : CT g l YX5_isSmall 1 [vI v] μ (pI fun e μ2 => ((e = 1 ∧ 97 ≤ v ∧ v ≤ 122) ∨ (e = 0 ∧ ¬ (97 ≤ v ∧ v ≤ 122))) ∧ μ = μ2) := by
  refine CT.of (n := 0) (by decide) rfl ?_
  show WA g l YX5_isSmall 1 _ 0 [some (vI v)] [] μ
  refine w_iload_n dX5_isSmall_0 rfl ?_
  refine w_i2l (by omega) dX5_isSmall_1 ?_
  refine w_ldc2 (97) cl_X5_200 dX5_isSmall_2 (by decide) ?_
  refine w_ldc2 (122) cl_X5_202 dX5_isSmall_5 (by decide) ?_
  refine w_cS3 kX5_in ml_X5_58 (Nat.le_of_ble_eq_true rfl) (by decide) dX5_isSmall_8 (c_X5_in (by omega) (by omega) (by omega)) (kI (fun e8 m8 q8 => ?_))
  obtain ⟨q8, rfl⟩ := q8
  exact w_zretP rfl dX5_isSmall_11 (by omega) (by exact ⟨q8, rfl⟩)
set_option maxRecDepth 100000 in
set_option maxHeartbeats 4000000 in
theorem c_X5_isFigure {g : gG} {l : Launch} {μ : gM} {v : Int}  (g1 : -2147483648 ≤ v ∧ v < 2147483648) : CT g l YX5_isFigure 1 [vI v] μ (pI fun e μ2 => ((e = 1 ∧ 48 ≤ v ∧ v ≤ 57) ∨ (e = 0 ∧ ¬ (48 ≤ v ∧ v ≤ 57))) ∧ μ = μ2) := by
  refine CT.of (n := 0) (by decide) rfl ?_
  show WA g l YX5_isFigure 1 _ 0 [some (vI v)] [] μ
  refine w_iload_n dX5_isFigure_0 rfl ?_
  refine w_i2l (by omega) dX5_isFigure_1 ?_
  refine w_ldc2 (48) cl_X5_204 dX5_isFigure_2 (by decide) ?_
  refine w_ldc2 (57) cl_X5_206 dX5_isFigure_5 (by decide) ?_
  refine w_cS3 kX5_in ml_X5_58 (Nat.le_of_ble_eq_true rfl) (by decide) dX5_isFigure_8 (c_X5_in (by omega) (by omega) (by omega)) (kI (fun e8 m8 q8 => ?_))
  obtain ⟨q8, rfl⟩ := q8
  exact w_zretP rfl dX5_isFigure_11 (by omega) (by exact ⟨q8, rfl⟩)
set_option maxRecDepth 100000 in
set_option maxHeartbeats 4000000 in
theorem c_X5_look {g : gG} {l : Launch} {μ : gM} {p : Int} {T : Int → Int} {L : Int} (hT : μ 177 = T) (hL : μ 167 13 = L) (hX : TXo T L) (hp0 : 0 ≤ p ∧ p ≤ L) : CT g l YX5_look 2 [vR 167, vI p] μ (pV fun μ2 => tkm μ2 T L p ∧ sml μ μ2) := by
  have hX1 := hX.1
  refine CT.of (n := 3) (by decide) rfl ?_
  show WA g l YX5_look 2 _ 0 [some (vR 167), some (vI p), none, none, none] [] μ
  refine w_aload_n dX5_look_0 rfl ?_
  refine w_iload_n dX5_look_1 rfl ?_
  refine pf_X5_208 rfl dX5_look_2 ?_
  refine w_loop (ι := Int) (fun A => p ≤ A ∧ A ≤ L ∧ eor T L 32 32 A = eor T L 32 32 p) (fun A => (L - A).toNat) (fun A => [some (vR 167), some (vI p), none, none, none]) (fun A => wr μ 167 14 A) ?_ p ⟨by omega, by omega, rfl⟩
  intro i_ hinv5 ih5
  obtain ⟨A, rfl⟩ : ∃ z, z = i_ := ⟨_, rfl⟩
  try dsimp only at hinv5 ih5 ⊢
  obtain ⟨a1, a2, a3⟩ := hinv5
  refine w_aload_n dX5_look_5 rfl ?_
  refine gf_X5_208 rfl dX5_look_6 ?_
  try simp only [mT_13, mT_14, mT_15, mT_16, mT_17, mT_177, mT_w15, mT_w16, mT_w17, hT, hL]
  rw [wr_s]
  refine w_aload_n dX5_look_9 rfl ?_
  refine gf_X5_195 rfl dX5_look_10 ?_
  try simp only [mT_13, mT_14, mT_15, mT_16, mT_17, mT_177, mT_w15, mT_w16, mT_w17, hT, hL]
  rw [wr_n (by decide), hL]
  refine w_icmp_ge (tgt := 43) (by omega) (by omega) dX5_look_13 (by decide) (fun h13 => ?_) (fun h13 => ?_)
  · have hA : tA T L p = A := by unfold tA; rw [← a3]; exact eor_end (by omega)
    refine w_aload_n dX5_look_43 rfl ?_
    refine w_iconst dX5_look_44 ?_
    refine pf_X5_211 rfl dX5_look_45 ?_
    refine w_aload_n dX5_look_48 rfl ?_
    refine w_iconst dX5_look_49 ?_
    refine pf_X5_214 rfl dX5_look_50 ?_
    refine w_aload_n dX5_look_53 rfl ?_
    refine w_iconst dX5_look_54 ?_
    refine pf_X5_217 rfl dX5_look_55 ?_
    show WA g l YX5_look 2 _ _ _ _ (mT μ A 0 0 0)
    refine w_aload_n dX5_look_58 rfl ?_
    refine gf_X5_208 rfl dX5_look_59 ?_
    try simp only [mT_13, mT_14, mT_15, mT_16, mT_17, mT_177, mT_w15, mT_w16, mT_w17, hT, hL]
    refine w_aload_n dX5_look_62 rfl ?_
    refine gf_X5_195 rfl dX5_look_63 ?_
    try simp only [mT_13, mT_14, mT_15, mT_16, mT_17, mT_177, mT_w15, mT_w16, mT_w17, hT, hL]
    refine w_icmp_ne (tgt := 70) (by omega) (by omega) dX5_look_66 (by decide) (fun h66 => ?_) (fun h66 => ?_)
    · exfalso; omega
    · exact w_vretP rfl dX5_look_69 (by refine ⟨⟨?_, ?_, ?_, fun z => ?_⟩, ⟨fun a ha => by rw [mT_o ha], fun j hj => mT_lt hj⟩⟩; (rw [mT_14, hA]); (rw [mT_14, mT_15]; unfold tE; rw [hA, if_pos (by omega)]; omega); (rw [mT_16]; unfold tS; rw [hA, if_pos (by omega)]); (unfold tS at z; rw [hA, if_pos (by omega)] at z; omega))
  · refine w_aload_n dX5_look_16 rfl ?_
    refine gf_X5_42 rfl dX5_look_17 ?_
    try simp only [mT_13, mT_14, mT_15, mT_16, mT_17, mT_177, mT_w15, mT_w16, mT_w17, hT, hL]
    refine w_aload_n dX5_look_20 rfl ?_
    refine gf_X5_208 rfl dX5_look_21 ?_
    try simp only [mT_13, mT_14, mT_15, mT_16, mT_17, mT_177, mT_w15, mT_w16, mT_w17, hT, hL]
    rw [wr_s]
    refine w_iald ar_177 (by omega) dX5_look_24 ?_
    try simp only [mT_13, mT_14, mT_15, mT_16, mT_17, mT_177, mT_w15, mT_w16, mT_w17, hT, hL]
    rw [wr_o (by decide), hT]
    have hb := hX.2 A (by omega) (by omega)
    refine w_bipush dX5_look_25 (by decide) ?_
    refine w_icmp_ne (tgt := 43) (by omega) (by omega) dX5_look_27 (by decide) (fun h27 => ?_) (fun h27 => ?_)
    · have hA : tA T L p = A := by unfold tA; rw [← a3]; exact eor_out (by omega) (by omega)
      refine w_aload_n dX5_look_43 rfl ?_
      refine w_iconst dX5_look_44 ?_
      refine pf_X5_211 rfl dX5_look_45 ?_
      refine w_aload_n dX5_look_48 rfl ?_
      refine w_iconst dX5_look_49 ?_
      refine pf_X5_214 rfl dX5_look_50 ?_
      refine w_aload_n dX5_look_53 rfl ?_
      refine w_iconst dX5_look_54 ?_
      refine pf_X5_217 rfl dX5_look_55 ?_
      show WA g l YX5_look 2 _ _ _ _ (mT μ A 0 0 0)
      refine w_aload_n dX5_look_58 rfl ?_
      refine gf_X5_208 rfl dX5_look_59 ?_
      try simp only [mT_13, mT_14, mT_15, mT_16, mT_17, mT_177, mT_w15, mT_w16, mT_w17, hT, hL]
      refine w_aload_n dX5_look_62 rfl ?_
      refine gf_X5_195 rfl dX5_look_63 ?_
      try simp only [mT_13, mT_14, mT_15, mT_16, mT_17, mT_177, mT_w15, mT_w16, mT_w17, hT, hL]
      refine w_icmp_ne (tgt := 70) (by omega) (by omega) dX5_look_66 (by decide) (fun h66 => ?_) (fun h66 => ?_)
      · have hAL : A < L := by omega
        have hb := hX.2 A (by omega) (by omega)
        refine w_aload_n dX5_look_70 rfl ?_
        refine gf_X5_42 rfl dX5_look_71 ?_
        try simp only [mT_13, mT_14, mT_15, mT_16, mT_17, mT_177, mT_w15, mT_w16, mT_w17, hT, hL]
        refine w_aload_n dX5_look_74 rfl ?_
        refine gf_X5_208 rfl dX5_look_75 ?_
        try simp only [mT_13, mT_14, mT_15, mT_16, mT_17, mT_177, mT_w15, mT_w16, mT_w17, hT, hL]
        refine w_iald ar_177 (by omega) dX5_look_78 ?_
        try simp only [mT_13, mT_14, mT_15, mT_16, mT_17, mT_177, mT_w15, mT_w16, mT_w17, hT, hL]
        refine w_istore_n dX5_look_79 (by decide) rfl ?_
        refine w_aload_n dX5_look_80 rfl ?_
        refine w_iload_n dX5_look_81 rfl ?_
        refine w_cS1 kX5_isSmall ml_X5_220 (Nat.le_of_ble_eq_true rfl) (by decide) dX5_look_82 (c_X5_isSmall (by omega)) (kI (fun e82 m82 q82 => ?_))
        obtain ⟨q82, rfl⟩ := q82
        try simp only [mT_13, mT_14, mT_15, mT_16, mT_17, mT_177, mT_w15, mT_w16, mT_w17, hT, hL]
        refine w_if_eq (tgt := 92) (by omega) dX5_look_85 (by decide) (fun h85 => ?_) (fun h85 => ?_)
        · refine w_iload_n dX5_look_92 rfl ?_
          refine w_cS1 kX5_isFigure ml_X5_223 (Nat.le_of_ble_eq_true rfl) (by decide) dX5_look_93 (c_X5_isFigure (by omega)) (kI (fun e93 m93 q93 => ?_))
          obtain ⟨q93, rfl⟩ := q93
          try simp only [mT_13, mT_14, mT_15, mT_16, mT_17, mT_177, mT_w15, mT_w16, mT_w17, hT, hL]
          refine w_if_eq (tgt := 103) (by omega) dX5_look_96 (by decide) (fun h96 => ?_) (fun h96 => ?_)
          · refine w_iload_n dX5_look_103 rfl ?_
            refine w_bipush dX5_look_104 (by decide) ?_
            refine w_icmp_ne (tgt := 113) (by omega) (by omega) dX5_look_106 (by decide) (fun h106 => ?_) (fun h106 => ?_)
            · refine w_iconst dX5_look_113 ?_
              refine pf_X5_214 rfl dX5_look_114 ?_
              refine w_aload_n dX5_look_117 rfl ?_
              refine w_iconst dX5_look_118 ?_
              refine pf_X5_211 rfl dX5_look_119 ?_
              simp only [mT_w15, mT_w16]
              refine w_aload_n dX5_look_122 rfl ?_
              refine gf_X5_214 rfl dX5_look_123 ?_
              try simp only [mT_13, mT_14, mT_15, mT_16, mT_17, mT_177, mT_w15, mT_w16, mT_w17, hT, hL]
              refine w_iconst dX5_look_126 ?_
              refine w_icmp_ge (tgt := 134) (by omega) (by omega) dX5_look_127 (by decide) (fun h127 => ?_) (fun h127 => ?_)
              · refine w_iconst dX5_look_134 ?_
                refine w_istore_n dX5_look_135 (by decide) rfl ?_
                refine w_drop 1 ?_
                refine w_loop (ι := Int × Int) (fun i => match i with | (mo, l_) => mo = 0 ∧ l_ = 1) (fun i => match i with | (mo, l_) => (2 * (L - A - l_) + mo).toNat) (fun i => match i with | (mo, l_) => [some (vR 167), none, some (vI (T A)), some (vI mo), none]) (fun i => match i with | (mo, l_) => mT μ A l_ 4 0) ?_ (_, 1) ⟨rfl, rfl⟩
                intro i_ hinv136 ih136
                obtain ⟨mo, l_⟩ := i_
                try dsimp only at hinv136 ih136 ⊢
                obtain ⟨c1, c2⟩ := hinv136
                refine w_iload_n dX5_look_136 rfl ?_
                refine w_if_eq (tgt := 215) (by omega) dX5_look_137 (by decide) (fun h137 => ?_) (fun h137 => ?_)
                · refine w_aload_n dX5_look_215 rfl ?_
                  refine w_iload_n dX5_look_216 rfl ?_
                  refine w_bipush dX5_look_217 (by decide) ?_
                  refine w_isub dX5_look_219 ?_
                  refine pf_X5_217 rfl dX5_look_220 ?_
                  try simp only [mT_w17]
                  refine w_aload_n dX5_look_223 rfl ?_
                  refine w_aload_n dX5_look_224 rfl ?_
                  refine gf_X5_214 rfl dX5_look_225 ?_
                  try simp only [mT_13, mT_14, mT_15, mT_16, mT_17, mT_177, mT_w15, mT_w16, mT_w17, hT, hL]
                  refine w_iconst dX5_look_228 ?_
                  refine w_icmp_ne (tgt := 244) (by omega) (by omega) dX5_look_229 (by decide) (fun h229 => ?_) (fun h229 => ?_)
                  · refine w_aload_n dX5_look_244 rfl ?_
                    refine gf_X5_214 rfl dX5_look_245 ?_
                    try simp only [mT_13, mT_14, mT_15, mT_16, mT_17, mT_177, mT_w15, mT_w16, mT_w17, hT, hL]
                    refine pf_X5_214 rfl dX5_look_248 ?_
                    try simp only [mT_w15, mT_w16, mT_w17]
                    exact w_vretP rfl dX5_look_251 (by refine ⟨⟨?_, ?_, ?_, fun _ => ?_⟩, ⟨fun a ha => by rw [mT_o ha], fun j hj => mT_lt hj⟩⟩; (rw [mT_14, hA]); (rw [mT_14, mT_15]; unfold tE; rw [hA]; (repeat (first | rw [if_pos (by omega)] | rw [if_neg (by omega)])); omega); (rw [mT_16]; unfold tS; rw [hA]; (repeat (first | rw [if_pos (by omega)] | rw [if_neg (by omega)]))); (rw [mT_17]; unfold tV; rw [hA]))
                  · exfalso; omega
                · exfalso; omega
              · exfalso; omega
            · refine w_iconst dX5_look_109 ?_
              refine w_goto (tgt := 114) dX5_look_110 (by decide) ?_
              refine pf_X5_214 rfl dX5_look_114 ?_
              refine w_aload_n dX5_look_117 rfl ?_
              refine w_iconst dX5_look_118 ?_
              refine pf_X5_211 rfl dX5_look_119 ?_
              simp only [mT_w15, mT_w16]
              refine w_aload_n dX5_look_122 rfl ?_
              refine gf_X5_214 rfl dX5_look_123 ?_
              try simp only [mT_13, mT_14, mT_15, mT_16, mT_17, mT_177, mT_w15, mT_w16, mT_w17, hT, hL]
              refine w_iconst dX5_look_126 ?_
              refine w_icmp_ge (tgt := 134) (by omega) (by omega) dX5_look_127 (by decide) (fun h127 => ?_) (fun h127 => ?_)
              · refine w_iconst dX5_look_134 ?_
                refine w_istore_n dX5_look_135 (by decide) rfl ?_
                refine w_drop 1 ?_
                refine w_loop (ι := Int × Int) (fun i => match i with | (mo, l_) => mo = 0 ∧ l_ = 1) (fun i => match i with | (mo, l_) => (2 * (L - A - l_) + mo).toNat) (fun i => match i with | (mo, l_) => [some (vR 167), none, some (vI (T A)), some (vI mo), none]) (fun i => match i with | (mo, l_) => mT μ A l_ 3 0) ?_ (_, 1) ⟨rfl, rfl⟩
                intro i_ hinv136 ih136
                obtain ⟨mo, l_⟩ := i_
                try dsimp only at hinv136 ih136 ⊢
                obtain ⟨c1, c2⟩ := hinv136
                refine w_iload_n dX5_look_136 rfl ?_
                refine w_if_eq (tgt := 215) (by omega) dX5_look_137 (by decide) (fun h137 => ?_) (fun h137 => ?_)
                · refine w_aload_n dX5_look_215 rfl ?_
                  refine w_iload_n dX5_look_216 rfl ?_
                  refine w_bipush dX5_look_217 (by decide) ?_
                  refine w_isub dX5_look_219 ?_
                  refine pf_X5_217 rfl dX5_look_220 ?_
                  try simp only [mT_w17]
                  refine w_aload_n dX5_look_223 rfl ?_
                  refine w_aload_n dX5_look_224 rfl ?_
                  refine gf_X5_214 rfl dX5_look_225 ?_
                  try simp only [mT_13, mT_14, mT_15, mT_16, mT_17, mT_177, mT_w15, mT_w16, mT_w17, hT, hL]
                  refine w_iconst dX5_look_228 ?_
                  refine w_icmp_ne (tgt := 244) (by omega) (by omega) dX5_look_229 (by decide) (fun h229 => ?_) (fun h229 => ?_)
                  · refine w_aload_n dX5_look_244 rfl ?_
                    refine gf_X5_214 rfl dX5_look_245 ?_
                    try simp only [mT_13, mT_14, mT_15, mT_16, mT_17, mT_177, mT_w15, mT_w16, mT_w17, hT, hL]
                    refine pf_X5_214 rfl dX5_look_248 ?_
                    try simp only [mT_w15, mT_w16, mT_w17]
                    exact w_vretP rfl dX5_look_251 (by refine ⟨⟨?_, ?_, ?_, fun _ => ?_⟩, ⟨fun a ha => by rw [mT_o ha], fun j hj => mT_lt hj⟩⟩; (rw [mT_14, hA]); (rw [mT_14, mT_15]; unfold tE; rw [hA]; (repeat (first | rw [if_pos (by omega)] | rw [if_neg (by omega)])); omega); (rw [mT_16]; unfold tS; rw [hA]; (repeat (first | rw [if_pos (by omega)] | rw [if_neg (by omega)]))); (rw [mT_17]; unfold tV; rw [hA]))
                  · exfalso; omega
                · exfalso; omega
              · exfalso; omega
          · refine w_iconst dX5_look_99 ?_
            refine w_goto (tgt := 114) dX5_look_100 (by decide) ?_
            refine pf_X5_214 rfl dX5_look_114 ?_
            refine w_aload_n dX5_look_117 rfl ?_
            refine w_iconst dX5_look_118 ?_
            refine pf_X5_211 rfl dX5_look_119 ?_
            simp only [mT_w15, mT_w16]
            refine w_aload_n dX5_look_122 rfl ?_
            refine gf_X5_214 rfl dX5_look_123 ?_
            try simp only [mT_13, mT_14, mT_15, mT_16, mT_17, mT_177, mT_w15, mT_w16, mT_w17, hT, hL]
            refine w_iconst dX5_look_126 ?_
            refine w_icmp_ge (tgt := 134) (by omega) (by omega) dX5_look_127 (by decide) (fun h127 => ?_) (fun h127 => ?_)
            · exfalso; omega
            · refine w_iconst dX5_look_130 ?_
              refine w_goto (tgt := 135) dX5_look_131 (by decide) ?_
              refine w_istore_n dX5_look_135 (by decide) rfl ?_
              refine w_drop 1 ?_
              refine w_loop (ι := Int × Int) (fun i => match i with | (mo, l_) => (mo = 0 ∨ mo = 1) ∧ 1 ≤ l_ ∧ A + l_ ≤ L ∧ (mo = 1 → eor T L 48 57 (A + l_) = eor T L 48 57 A) ∧ (mo = 0 → A + l_ = eor T L 48 57 A)) (fun i => match i with | (mo, l_) => (2 * (L - A - l_) + mo).toNat) (fun i => match i with | (mo, l_) => [some (vR 167), none, some (vI (T A)), some (vI mo), none]) (fun i => match i with | (mo, l_) => mT μ A l_ 2 0) ?_ (_, 1) ⟨Or.inr rfl, by omega, by omega, fun _ => (eor_in (by omega) (by omega)).symm, fun z => by omega⟩
              intro i_ hinv136 ih136
              obtain ⟨mo, l_⟩ := i_
              try dsimp only at hinv136 ih136 ⊢
              obtain ⟨c1, c2, c3, c4, c5⟩ := hinv136
              refine w_iload_n dX5_look_136 rfl ?_
              refine w_if_eq (tgt := 215) (by omega) dX5_look_137 (by decide) (fun h137 => ?_) (fun h137 => ?_)
              · refine w_aload_n dX5_look_215 rfl ?_
                refine w_iload_n dX5_look_216 rfl ?_
                refine w_bipush dX5_look_217 (by decide) ?_
                refine w_isub dX5_look_219 ?_
                refine pf_X5_217 rfl dX5_look_220 ?_
                try simp only [mT_w17]
                refine w_aload_n dX5_look_223 rfl ?_
                refine w_aload_n dX5_look_224 rfl ?_
                refine gf_X5_214 rfl dX5_look_225 ?_
                try simp only [mT_13, mT_14, mT_15, mT_16, mT_17, mT_177, mT_w15, mT_w16, mT_w17, hT, hL]
                refine w_iconst dX5_look_228 ?_
                refine w_icmp_ne (tgt := 244) (by omega) (by omega) dX5_look_229 (by decide) (fun h229 => ?_) (fun h229 => ?_)
                · exfalso; omega
                · refine w_aload_n dX5_look_232 rfl ?_
                  refine gf_X5_211 rfl dX5_look_233 ?_
                  try simp only [mT_13, mT_14, mT_15, mT_16, mT_17, mT_177, mT_w15, mT_w16, mT_w17, hT, hL]
                  refine w_iconst dX5_look_236 ?_
                  refine w_icmp_le (tgt := 244) (by omega) (by omega) dX5_look_237 (by decide) (fun h237 => ?_) (fun h237 => ?_)
                  · refine w_aload_n dX5_look_244 rfl ?_
                    refine gf_X5_214 rfl dX5_look_245 ?_
                    try simp only [mT_13, mT_14, mT_15, mT_16, mT_17, mT_177, mT_w15, mT_w16, mT_w17, hT, hL]
                    refine pf_X5_214 rfl dX5_look_248 ?_
                    try simp only [mT_w15, mT_w16, mT_w17]
                    exact w_vretP rfl dX5_look_251 (by have eE : A + l_ = eor T L 48 57 A := (by rcases c1 with z | z; (exact c5 z); (rw [← c4 z, eor_end (by omega)])); refine ⟨⟨?_, ?_, ?_, fun _ => ?_⟩, ⟨fun a ha => by rw [mT_o ha], fun j hj => mT_lt hj⟩⟩; (rw [mT_14, hA]); (rw [mT_14, mT_15]; unfold tE; rw [hA]; (repeat (first | rw [if_pos (by omega)] | rw [if_neg (by omega)])); omega); (rw [mT_16]; unfold tS; rw [hA]; (repeat (first | rw [if_pos (by omega)] | rw [if_neg (by omega)]))); (rw [mT_17]; unfold tV; rw [hA]))
                  · refine w_iconst dX5_look_240 ?_
                    refine w_goto (tgt := 248) dX5_look_241 (by decide) ?_
                    refine pf_X5_214 rfl dX5_look_248 ?_
                    try simp only [mT_w15, mT_w16, mT_w17]
                    exact w_vretP rfl dX5_look_251 (by have eE : A + l_ = eor T L 48 57 A := (by rcases c1 with z | z; (exact c5 z); (rw [← c4 z, eor_end (by omega)])); refine ⟨⟨?_, ?_, ?_, fun _ => ?_⟩, ⟨fun a ha => by rw [mT_o ha], fun j hj => mT_lt hj⟩⟩; (rw [mT_14, hA]); (rw [mT_14, mT_15]; unfold tE; rw [hA]; (repeat (first | rw [if_pos (by omega)] | rw [if_neg (by omega)])); omega); (rw [mT_16]; unfold tS; rw [hA]; (repeat (first | rw [if_pos (by omega)] | rw [if_neg (by omega)]))); (rw [mT_17]; unfold tV; rw [hA]))
              · refine w_aload_n dX5_look_140 rfl ?_
                refine gf_X5_208 rfl dX5_look_141 ?_
                try simp only [mT_13, mT_14, mT_15, mT_16, mT_17, mT_177, mT_w15, mT_w16, mT_w17, hT, hL]
                refine w_aload_n dX5_look_144 rfl ?_
                refine gf_X5_211 rfl dX5_look_145 ?_
                try simp only [mT_13, mT_14, mT_15, mT_16, mT_17, mT_177, mT_w15, mT_w16, mT_w17, hT, hL]
                refine w_iadd dX5_look_148 ?_
                refine w_aload_n dX5_look_149 rfl ?_
                refine gf_X5_195 rfl dX5_look_150 ?_
                try simp only [mT_13, mT_14, mT_15, mT_16, mT_17, mT_177, mT_w15, mT_w16, mT_w17, hT, hL]
                refine w_icmp_ge (tgt := 215) (by omega) (by omega) dX5_look_153 (by decide) (fun h153 => ?_) (fun h153 => ?_)
                · refine w_aload_n dX5_look_215 rfl ?_
                  refine w_iload_n dX5_look_216 rfl ?_
                  refine w_bipush dX5_look_217 (by decide) ?_
                  refine w_isub dX5_look_219 ?_
                  refine pf_X5_217 rfl dX5_look_220 ?_
                  try simp only [mT_w17]
                  refine w_aload_n dX5_look_223 rfl ?_
                  refine w_aload_n dX5_look_224 rfl ?_
                  refine gf_X5_214 rfl dX5_look_225 ?_
                  try simp only [mT_13, mT_14, mT_15, mT_16, mT_17, mT_177, mT_w15, mT_w16, mT_w17, hT, hL]
                  refine w_iconst dX5_look_228 ?_
                  refine w_icmp_ne (tgt := 244) (by omega) (by omega) dX5_look_229 (by decide) (fun h229 => ?_) (fun h229 => ?_)
                  · exfalso; omega
                  · refine w_aload_n dX5_look_232 rfl ?_
                    refine gf_X5_211 rfl dX5_look_233 ?_
                    try simp only [mT_13, mT_14, mT_15, mT_16, mT_17, mT_177, mT_w15, mT_w16, mT_w17, hT, hL]
                    refine w_iconst dX5_look_236 ?_
                    refine w_icmp_le (tgt := 244) (by omega) (by omega) dX5_look_237 (by decide) (fun h237 => ?_) (fun h237 => ?_)
                    · refine w_aload_n dX5_look_244 rfl ?_
                      refine gf_X5_214 rfl dX5_look_245 ?_
                      try simp only [mT_13, mT_14, mT_15, mT_16, mT_17, mT_177, mT_w15, mT_w16, mT_w17, hT, hL]
                      refine pf_X5_214 rfl dX5_look_248 ?_
                      try simp only [mT_w15, mT_w16, mT_w17]
                      exact w_vretP rfl dX5_look_251 (by have eE : A + l_ = eor T L 48 57 A := (by rcases c1 with z | z; (exact c5 z); (rw [← c4 z, eor_end (by omega)])); refine ⟨⟨?_, ?_, ?_, fun _ => ?_⟩, ⟨fun a ha => by rw [mT_o ha], fun j hj => mT_lt hj⟩⟩; (rw [mT_14, hA]); (rw [mT_14, mT_15]; unfold tE; rw [hA]; (repeat (first | rw [if_pos (by omega)] | rw [if_neg (by omega)])); omega); (rw [mT_16]; unfold tS; rw [hA]; (repeat (first | rw [if_pos (by omega)] | rw [if_neg (by omega)]))); (rw [mT_17]; unfold tV; rw [hA]))
                    · refine w_iconst dX5_look_240 ?_
                      refine w_goto (tgt := 248) dX5_look_241 (by decide) ?_
                      refine pf_X5_214 rfl dX5_look_248 ?_
                      try simp only [mT_w15, mT_w16, mT_w17]
                      exact w_vretP rfl dX5_look_251 (by have eE : A + l_ = eor T L 48 57 A := (by rcases c1 with z | z; (exact c5 z); (rw [← c4 z, eor_end (by omega)])); refine ⟨⟨?_, ?_, ?_, fun _ => ?_⟩, ⟨fun a ha => by rw [mT_o ha], fun j hj => mT_lt hj⟩⟩; (rw [mT_14, hA]); (rw [mT_14, mT_15]; unfold tE; rw [hA]; (repeat (first | rw [if_pos (by omega)] | rw [if_neg (by omega)])); omega); (rw [mT_16]; unfold tS; rw [hA]; (repeat (first | rw [if_pos (by omega)] | rw [if_neg (by omega)]))); (rw [mT_17]; unfold tV; rw [hA]))
                · refine w_aload_n dX5_look_156 rfl ?_
                  refine gf_X5_42 rfl dX5_look_157 ?_
                  try simp only [mT_13, mT_14, mT_15, mT_16, mT_17, mT_177, mT_w15, mT_w16, mT_w17, hT, hL]
                  refine w_aload_n dX5_look_160 rfl ?_
                  refine gf_X5_208 rfl dX5_look_161 ?_
                  try simp only [mT_13, mT_14, mT_15, mT_16, mT_17, mT_177, mT_w15, mT_w16, mT_w17, hT, hL]
                  refine w_aload_n dX5_look_164 rfl ?_
                  refine gf_X5_211 rfl dX5_look_165 ?_
                  try simp only [mT_13, mT_14, mT_15, mT_16, mT_17, mT_177, mT_w15, mT_w16, mT_w17, hT, hL]
                  refine w_iadd dX5_look_168 ?_
                  try simp only [mT_13, mT_14, mT_15, mT_16, mT_17, mT_177, mT_w15, mT_w16, mT_w17, hT, hL]
                  refine w_iald ar_177 (by omega) dX5_look_169 ?_
                  try simp only [mT_13, mT_14, mT_15, mT_16, mT_17, mT_177, mT_w15, mT_w16, mT_w17, hT, hL]
                  have hb2 := hX.2 (A + l_) (by omega) (by omega)
                  refine w_istore dX5_look_170 (by decide) rfl ?_
                  refine w_aload_n dX5_look_172 rfl ?_
                  refine gf_X5_214 rfl dX5_look_173 ?_
                  try simp only [mT_13, mT_14, mT_15, mT_16, mT_17, mT_177, mT_w15, mT_w16, mT_w17, hT, hL]
                  refine w_iconst dX5_look_176 ?_
                  refine w_icmp_ne (tgt := 188) (by omega) (by omega) dX5_look_177 (by decide) (fun h177 => ?_) (fun h177 => ?_)
                  · refine w_iload dX5_look_188 rfl ?_
                    refine w_cS1 kX5_isFigure ml_X5_223 (Nat.le_of_ble_eq_true rfl) (by decide) dX5_look_190 (c_X5_isFigure (by omega)) (kI (fun e190 m190 q190 => ?_))
                    obtain ⟨q190, rfl⟩ := q190
                    try simp only [mT_13, mT_14, mT_15, mT_16, mT_17, mT_177, mT_w15, mT_w16, mT_w17, hT, hL]
                    refine w_istore_n dX5_look_193 (by decide) rfl ?_
                    refine w_aload_n dX5_look_194 rfl ?_
                    refine w_dup_a dX5_look_195 ?_
                    refine gf_X5_211 rfl dX5_look_196 ?_
                    try simp only [mT_13, mT_14, mT_15, mT_16, mT_17, mT_177, mT_w15, mT_w16, mT_w17, hT, hL]
                    refine w_iload_n dX5_look_199 rfl ?_
                    refine w_if_eq (tgt := 207) (by omega) dX5_look_200 (by decide) (fun h200 => ?_) (fun h200 => ?_)
                    · refine w_iconst dX5_look_207 ?_
                      refine w_iadd dX5_look_208 ?_
                      refine pf_X5_211 rfl dX5_look_209 ?_
                      try simp only [mT_w15]
                      refine w_goto (tgt := 136) dX5_look_212 (by decide) ?_
                      refine w_drop 4 ?_
                      have el : eor T L 48 57 (A + l_) = eor T L 48 57 A := c4 (by omega)
                      exact ih136 (_, l_ + 0) ⟨by omega, by dsimp only; omega, by dsimp only; omega, fun z => by dsimp only at z; omega, fun _ => by dsimp only; rw [← el, Int.add_zero]; exact (eor_out (by omega) (by omega)).symm⟩ (by dsimp only; omega)
                    · refine w_iconst dX5_look_203 ?_
                      refine w_goto (tgt := 208) dX5_look_204 (by decide) ?_
                      refine w_iadd dX5_look_208 ?_
                      refine pf_X5_211 rfl dX5_look_209 ?_
                      try simp only [mT_w15]
                      refine w_goto (tgt := 136) dX5_look_212 (by decide) ?_
                      refine w_drop 4 ?_
                      have el : eor T L 48 57 (A + l_) = eor T L 48 57 A := c4 (by omega)
                      exact ih136 (_, l_ + 1) ⟨by omega, by dsimp only; omega, by dsimp only; omega, fun _ => by dsimp only; rw [← el, show A + (l_ + 1) = A + l_ + 1 by omega]; exact (eor_in (by omega) (by omega)).symm, fun z => by dsimp only at z; omega⟩ (by dsimp only; omega)
                  · exfalso; omega
        · refine w_iconst dX5_look_88 ?_
          refine w_goto (tgt := 114) dX5_look_89 (by decide) ?_
          refine pf_X5_214 rfl dX5_look_114 ?_
          refine w_aload_n dX5_look_117 rfl ?_
          refine w_iconst dX5_look_118 ?_
          refine pf_X5_211 rfl dX5_look_119 ?_
          simp only [mT_w15, mT_w16]
          refine w_aload_n dX5_look_122 rfl ?_
          refine gf_X5_214 rfl dX5_look_123 ?_
          try simp only [mT_13, mT_14, mT_15, mT_16, mT_17, mT_177, mT_w15, mT_w16, mT_w17, hT, hL]
          refine w_iconst dX5_look_126 ?_
          refine w_icmp_ge (tgt := 134) (by omega) (by omega) dX5_look_127 (by decide) (fun h127 => ?_) (fun h127 => ?_)
          · exfalso; omega
          · refine w_iconst dX5_look_130 ?_
            refine w_goto (tgt := 135) dX5_look_131 (by decide) ?_
            refine w_istore_n dX5_look_135 (by decide) rfl ?_
            refine w_drop 1 ?_
            refine w_loop (ι := Int × Int) (fun i => match i with | (mo, l_) => (mo = 0 ∨ mo = 1) ∧ 1 ≤ l_ ∧ A + l_ ≤ L ∧ (mo = 1 → eor T L 97 122 (A + l_) = eor T L 97 122 A) ∧ (mo = 0 → A + l_ = eor T L 97 122 A)) (fun i => match i with | (mo, l_) => (2 * (L - A - l_) + mo).toNat) (fun i => match i with | (mo, l_) => [some (vR 167), none, some (vI (T A)), some (vI mo), none]) (fun i => match i with | (mo, l_) => mT μ A l_ 1 0) ?_ (_, 1) ⟨Or.inr rfl, by omega, by omega, fun _ => (eor_in (by omega) (by omega)).symm, fun z => by omega⟩
            intro i_ hinv136 ih136
            obtain ⟨mo, l_⟩ := i_
            try dsimp only at hinv136 ih136 ⊢
            obtain ⟨c1, c2, c3, c4, c5⟩ := hinv136
            refine w_iload_n dX5_look_136 rfl ?_
            refine w_if_eq (tgt := 215) (by omega) dX5_look_137 (by decide) (fun h137 => ?_) (fun h137 => ?_)
            · refine w_aload_n dX5_look_215 rfl ?_
              refine w_iload_n dX5_look_216 rfl ?_
              refine w_bipush dX5_look_217 (by decide) ?_
              refine w_isub dX5_look_219 ?_
              refine pf_X5_217 rfl dX5_look_220 ?_
              try simp only [mT_w17]
              refine w_aload_n dX5_look_223 rfl ?_
              refine w_aload_n dX5_look_224 rfl ?_
              refine gf_X5_214 rfl dX5_look_225 ?_
              try simp only [mT_13, mT_14, mT_15, mT_16, mT_17, mT_177, mT_w15, mT_w16, mT_w17, hT, hL]
              refine w_iconst dX5_look_228 ?_
              refine w_icmp_ne (tgt := 244) (by omega) (by omega) dX5_look_229 (by decide) (fun h229 => ?_) (fun h229 => ?_)
              · refine w_aload_n dX5_look_244 rfl ?_
                refine gf_X5_214 rfl dX5_look_245 ?_
                try simp only [mT_13, mT_14, mT_15, mT_16, mT_17, mT_177, mT_w15, mT_w16, mT_w17, hT, hL]
                refine pf_X5_214 rfl dX5_look_248 ?_
                try simp only [mT_w15, mT_w16, mT_w17]
                exact w_vretP rfl dX5_look_251 (by have eE : A + l_ = eor T L 97 122 A := (by rcases c1 with z | z; (exact c5 z); (rw [← c4 z, eor_end (by omega)])); refine ⟨⟨?_, ?_, ?_, fun _ => ?_⟩, ⟨fun a ha => by rw [mT_o ha], fun j hj => mT_lt hj⟩⟩; (rw [mT_14, hA]); (rw [mT_14, mT_15]; unfold tE; rw [hA]; (repeat (first | rw [if_pos (by omega)] | rw [if_neg (by omega)])); omega); (rw [mT_16]; unfold tS; rw [hA]; (repeat (first | rw [if_pos (by omega)] | rw [if_neg (by omega)]))); (rw [mT_17]; unfold tV; rw [hA]))
              · exfalso; omega
            · refine w_aload_n dX5_look_140 rfl ?_
              refine gf_X5_208 rfl dX5_look_141 ?_
              try simp only [mT_13, mT_14, mT_15, mT_16, mT_17, mT_177, mT_w15, mT_w16, mT_w17, hT, hL]
              refine w_aload_n dX5_look_144 rfl ?_
              refine gf_X5_211 rfl dX5_look_145 ?_
              try simp only [mT_13, mT_14, mT_15, mT_16, mT_17, mT_177, mT_w15, mT_w16, mT_w17, hT, hL]
              refine w_iadd dX5_look_148 ?_
              refine w_aload_n dX5_look_149 rfl ?_
              refine gf_X5_195 rfl dX5_look_150 ?_
              try simp only [mT_13, mT_14, mT_15, mT_16, mT_17, mT_177, mT_w15, mT_w16, mT_w17, hT, hL]
              refine w_icmp_ge (tgt := 215) (by omega) (by omega) dX5_look_153 (by decide) (fun h153 => ?_) (fun h153 => ?_)
              · refine w_aload_n dX5_look_215 rfl ?_
                refine w_iload_n dX5_look_216 rfl ?_
                refine w_bipush dX5_look_217 (by decide) ?_
                refine w_isub dX5_look_219 ?_
                refine pf_X5_217 rfl dX5_look_220 ?_
                try simp only [mT_w17]
                refine w_aload_n dX5_look_223 rfl ?_
                refine w_aload_n dX5_look_224 rfl ?_
                refine gf_X5_214 rfl dX5_look_225 ?_
                try simp only [mT_13, mT_14, mT_15, mT_16, mT_17, mT_177, mT_w15, mT_w16, mT_w17, hT, hL]
                refine w_iconst dX5_look_228 ?_
                refine w_icmp_ne (tgt := 244) (by omega) (by omega) dX5_look_229 (by decide) (fun h229 => ?_) (fun h229 => ?_)
                · refine w_aload_n dX5_look_244 rfl ?_
                  refine gf_X5_214 rfl dX5_look_245 ?_
                  try simp only [mT_13, mT_14, mT_15, mT_16, mT_17, mT_177, mT_w15, mT_w16, mT_w17, hT, hL]
                  refine pf_X5_214 rfl dX5_look_248 ?_
                  try simp only [mT_w15, mT_w16, mT_w17]
                  exact w_vretP rfl dX5_look_251 (by have eE : A + l_ = eor T L 97 122 A := (by rcases c1 with z | z; (exact c5 z); (rw [← c4 z, eor_end (by omega)])); refine ⟨⟨?_, ?_, ?_, fun _ => ?_⟩, ⟨fun a ha => by rw [mT_o ha], fun j hj => mT_lt hj⟩⟩; (rw [mT_14, hA]); (rw [mT_14, mT_15]; unfold tE; rw [hA]; (repeat (first | rw [if_pos (by omega)] | rw [if_neg (by omega)])); omega); (rw [mT_16]; unfold tS; rw [hA]; (repeat (first | rw [if_pos (by omega)] | rw [if_neg (by omega)]))); (rw [mT_17]; unfold tV; rw [hA]))
                · exfalso; omega
              · refine w_aload_n dX5_look_156 rfl ?_
                refine gf_X5_42 rfl dX5_look_157 ?_
                try simp only [mT_13, mT_14, mT_15, mT_16, mT_17, mT_177, mT_w15, mT_w16, mT_w17, hT, hL]
                refine w_aload_n dX5_look_160 rfl ?_
                refine gf_X5_208 rfl dX5_look_161 ?_
                try simp only [mT_13, mT_14, mT_15, mT_16, mT_17, mT_177, mT_w15, mT_w16, mT_w17, hT, hL]
                refine w_aload_n dX5_look_164 rfl ?_
                refine gf_X5_211 rfl dX5_look_165 ?_
                try simp only [mT_13, mT_14, mT_15, mT_16, mT_17, mT_177, mT_w15, mT_w16, mT_w17, hT, hL]
                refine w_iadd dX5_look_168 ?_
                try simp only [mT_13, mT_14, mT_15, mT_16, mT_17, mT_177, mT_w15, mT_w16, mT_w17, hT, hL]
                refine w_iald ar_177 (by omega) dX5_look_169 ?_
                try simp only [mT_13, mT_14, mT_15, mT_16, mT_17, mT_177, mT_w15, mT_w16, mT_w17, hT, hL]
                have hb2 := hX.2 (A + l_) (by omega) (by omega)
                refine w_istore dX5_look_170 (by decide) rfl ?_
                refine w_aload_n dX5_look_172 rfl ?_
                refine gf_X5_214 rfl dX5_look_173 ?_
                try simp only [mT_13, mT_14, mT_15, mT_16, mT_17, mT_177, mT_w15, mT_w16, mT_w17, hT, hL]
                refine w_iconst dX5_look_176 ?_
                refine w_icmp_ne (tgt := 188) (by omega) (by omega) dX5_look_177 (by decide) (fun h177 => ?_) (fun h177 => ?_)
                · exfalso; omega
                · refine w_iload dX5_look_180 rfl ?_
                  refine w_cS1 kX5_isSmall ml_X5_220 (Nat.le_of_ble_eq_true rfl) (by decide) dX5_look_182 (c_X5_isSmall (by omega)) (kI (fun e182 m182 q182 => ?_))
                  obtain ⟨q182, rfl⟩ := q182
                  try simp only [mT_13, mT_14, mT_15, mT_16, mT_17, mT_177, mT_w15, mT_w16, mT_w17, hT, hL]
                  refine w_goto (tgt := 193) dX5_look_185 (by decide) ?_
                  refine w_istore_n dX5_look_193 (by decide) rfl ?_
                  refine w_aload_n dX5_look_194 rfl ?_
                  refine w_dup_a dX5_look_195 ?_
                  refine gf_X5_211 rfl dX5_look_196 ?_
                  try simp only [mT_13, mT_14, mT_15, mT_16, mT_17, mT_177, mT_w15, mT_w16, mT_w17, hT, hL]
                  refine w_iload_n dX5_look_199 rfl ?_
                  refine w_if_eq (tgt := 207) (by omega) dX5_look_200 (by decide) (fun h200 => ?_) (fun h200 => ?_)
                  · refine w_iconst dX5_look_207 ?_
                    refine w_iadd dX5_look_208 ?_
                    refine pf_X5_211 rfl dX5_look_209 ?_
                    try simp only [mT_w15]
                    refine w_goto (tgt := 136) dX5_look_212 (by decide) ?_
                    refine w_drop 4 ?_
                    have el : eor T L 97 122 (A + l_) = eor T L 97 122 A := c4 (by omega)
                    exact ih136 (_, l_ + 0) ⟨by omega, by dsimp only; omega, by dsimp only; omega, fun z => by dsimp only at z; omega, fun _ => by dsimp only; rw [← el, Int.add_zero]; exact (eor_out (by omega) (by omega)).symm⟩ (by dsimp only; omega)
                  · refine w_iconst dX5_look_203 ?_
                    refine w_goto (tgt := 208) dX5_look_204 (by decide) ?_
                    refine w_iadd dX5_look_208 ?_
                    refine pf_X5_211 rfl dX5_look_209 ?_
                    try simp only [mT_w15]
                    refine w_goto (tgt := 136) dX5_look_212 (by decide) ?_
                    refine w_drop 4 ?_
                    have el : eor T L 97 122 (A + l_) = eor T L 97 122 A := c4 (by omega)
                    exact ih136 (_, l_ + 1) ⟨by omega, by dsimp only; omega, by dsimp only; omega, fun _ => by dsimp only; rw [← el, show A + (l_ + 1) = A + l_ + 1 by omega]; exact (eor_in (by omega) (by omega)).symm, fun z => by dsimp only at z; omega⟩ (by dsimp only; omega)
      · exact w_vretP rfl dX5_look_69 (by refine ⟨⟨?_, ?_, ?_, fun z => ?_⟩, ⟨fun a ha => by rw [mT_o ha], fun j hj => mT_lt hj⟩⟩; (rw [mT_14, hA]); (rw [mT_14, mT_15]; unfold tE; rw [hA, if_pos (by omega)]; omega); (rw [mT_16]; unfold tS; rw [hA, if_pos (by omega)]); (unfold tS at z; rw [hA, if_pos (by omega)] at z; omega))
    · refine w_aload_n dX5_look_30 rfl ?_
      refine w_dup_a dX5_look_31 ?_
      refine gf_X5_208 rfl dX5_look_32 ?_
      try simp only [mT_13, mT_14, mT_15, mT_16, mT_17, mT_177, mT_w15, mT_w16, mT_w17, hT, hL]
      rw [wr_s]
      refine w_iconst dX5_look_35 ?_
      refine w_iadd dX5_look_36 ?_
      refine pf_X5_208 rfl dX5_look_37 ?_
      refine w_goto (tgt := 5) dX5_look_40 (by decide) ?_
      refine w_mu ?_ (ih5 (A + 1) ⟨by omega, by omega, by rw [← a3]; exact (eor_in (by omega) (by omega)).symm⟩ (by omega))
      rw [wr_wr]
set_option maxRecDepth 100000 in
set_option maxHeartbeats 4000000 in
theorem c_X5_goOn {g : gG} {l : Launch} {μ : gM}  {T : Int → Int} {L p : Int} (hT : μ 177 = T) (hL : μ 167 13 = L) (hX : TXo T L) (ht : tkm μ T L p) (hp0 : 0 ≤ p ∧ p ≤ L) : CT g l YX5_goOn 3 [vR 167] μ (pV fun μ2 => tkm μ2 T L (tE T L p) ∧ sml μ μ2) := by
  refine CT.of (n := 0) (by decide) rfl ?_
  show WA g l YX5_goOn 3 _ 0 [some (vR 167)] [] μ
  refine w_aload_n dX5_goOn_0 rfl ?_
  refine w_aload_n dX5_goOn_1 rfl ?_
  refine gf_X5_208 rfl dX5_goOn_2 ?_
  refine w_aload_n dX5_goOn_5 rfl ?_
  refine gf_X5_211 rfl dX5_goOn_6 ?_
  refine w_iadd dX5_goOn_9 ?_
  rw [ht.2.1]
  refine w_cV1 kX5_look ml_X5_226 ob_167 rfl (Nat.le_of_ble_eq_true rfl) (by decide) dX5_goOn_10 (c_X5_look hT hL hX (tE_p T hp0)) (kU (fun m10 q10 => ?_))
  obtain ⟨t10, s10⟩ := q10
  exact w_vretP rfl dX5_goOn_13 (by exact ⟨t10, s10⟩)
