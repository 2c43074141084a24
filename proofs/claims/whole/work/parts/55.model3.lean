set_option maxRecDepth 100000 in
set_option maxHeartbeats 4000000 in
theorem c_X5_brushOn {g : gG} {l : Launch} {μ : gM} {k : Int} {w : Int} {x : Int}  (hk : 0 ≤ k ∧ k < 14) (hw : w = 0 ∨ w = 1) : CT g l YX5_brushOn 0 [vR 167, vI k, vI w, vI x] μ (pV fun μ2 => μ2 = br μ k w x) := by
  refine CT.of (n := 0) (by decide) rfl ?_
  show WA g l YX5_brushOn 0 _ 0 [some (vR 167), some (vI k), some (vI w), some (vI x)] [] μ
  refine w_aload_n dX5_brushOn_0 rfl ?_
  refine gf_X5_27 rfl dX5_brushOn_1 ?_
  refine w_iconst dX5_brushOn_4 ?_
  refine w_iload_n dX5_brushOn_5 rfl ?_
  refine w_imul dX5_brushOn_6 ?_
  refine w_iload_n dX5_brushOn_7 rfl ?_
  refine w_iadd dX5_brushOn_8 ?_
  refine w_dup2 dX5_brushOn_9 ?_
  refine w_iald ar_172 (by omega) dX5_brushOn_10 ?_
  refine w_iload_n dX5_brushOn_11 rfl ?_
  refine w_iadd dX5_brushOn_12 ?_
  refine w_iast ar_172 (by omega) dX5_brushOn_13 ?_
  refine w_aload_n dX5_brushOn_14 rfl ?_
  refine gf_X5_27 rfl dX5_brushOn_15 ?_
  refine w_iconst dX5_brushOn_18 ?_
  refine w_iload_n dX5_brushOn_19 rfl ?_
  refine w_imul dX5_brushOn_20 ?_
  refine w_iconst dX5_brushOn_21 ?_
  refine w_iadd dX5_brushOn_22 ?_
  refine w_iload_n dX5_brushOn_23 rfl ?_
  refine w_isub dX5_brushOn_24 ?_
  refine w_dup2 dX5_brushOn_25 ?_
  refine w_iald ar_172 (by omega) dX5_brushOn_26 ?_
  refine w_iload_n dX5_brushOn_27 rfl ?_
  refine w_isub dX5_brushOn_28 ?_
  refine w_iast ar_172 (by omega) dX5_brushOn_29 ?_
  exact w_vretP rfl dX5_brushOn_30 (by rfl)
set_option maxRecDepth 100000 in
set_option maxHeartbeats 4000000 in
theorem c_X5_findPaint {g : gG} {l : Launch} {μ : gM} {w : Int} {q : Int} {v : gV} {n m : Int} (hNW : NW μ v n m) (hw : w = 0 ∨ w = 1) (hq : 0 ≤ q ∧ q ≤ 4) (h9 : ∀ i, 0 ≤ i → i < 4 * n → v 3 i ≤ 9) : CT g l YX5_findPaint 8 [vR 167, vI w, vI q] μ (pV fun μ2 => (∀ a, a ≠ 167 → a ≠ 172 → a ≠ 173 → a ≠ 174 → a ≠ 175 → μ2 a = μ a) ∧ (∀ j, j ≠ 10 → μ2 167 j = μ 167 j) ∧ μ2 167 10 = fO v n m w ∧ (∀ i, 0 ≤ i → i < 14 → μ2 175 i = 0)) := by
  have hMG := hNW.1
  obtain ⟨g1, g2, gV, g4, g5⟩ := id hMG
  have hV := gV.1
  obtain ⟨-, n1, n2, n3, n4⟩ := id hNW
  have hN := n2
  have et : tkN μ 168 = μ 168 := tkN_o (by decide) (by decide)
  have hM1 := NW_MV hNW
  refine CT.of (n := 6) (by decide) rfl ?_
  show WA g l YX5_findPaint 8 _ 0 [some (vR 167), some (vI w), some (vI q), none, none, none, none, none, none] [] μ
  refine w_aload_n dX5_findPaint_0 rfl ?_
  refine w_cV0 kX5_takeNow ml_X5_121 ob_167 rfl (Nat.le_of_ble_eq_true rfl) (by decide) dX5_findPaint_1 (c_X5_takeNow (by rw [n1]; exact n2)) (kU (fun m1 q1 => ?_))
  obtain rfl := q1
  refine w_aload_n dX5_findPaint_4 rfl ?_
  refine w_iconst dX5_findPaint_5 ?_
  refine pf_X5_142 rfl dX5_findPaint_6 ?_
  refine w_iconst dX5_findPaint_9 ?_
  refine w_aload_n dX5_findPaint_10 rfl ?_
  refine w_cV0 kX5_roofs ml_X5_54 ob_167 rfl (Nat.le_of_ble_eq_true rfl) (by decide) dX5_findPaint_11 (c_X5_roofs) (kI (fun e11 m11 q11 => ?_))
  obtain ⟨rfl, rfl⟩ := q11
  rw [wr_o (by decide), et, n1]
  refine w_imul dX5_findPaint_14 ?_
  refine w_istore_n dX5_findPaint_15 (by decide) rfl ?_
  refine w_iload_n dX5_findPaint_16 rfl ?_
  refine w_istore dX5_findPaint_17 (by decide) rfl ?_
  refine w_iconst dX5_findPaint_19 ?_
  refine w_istore dX5_findPaint_20 (by decide) rfl ?_
  refine w_loop (ι := Int × gM) (fun i => match i with | (k, m_) => 0 ≤ k ∧ k ≤ 14 ∧ (∀ a, a ≠ 167 → a ≠ 174 → a ≠ 175 → m_ a = tkN μ a) ∧ (∀ j, j ≠ 10 → m_ 167 j = tkN μ 167 j) ∧ m_ 167 10 = -1 ∧ (∀ i, 0 ≤ i → i < k → m_ 174 i = 0 ∧ m_ 175 i = 0)) (fun i => match i with | (k, m_) => (14 - k).toNat) (fun i => match i with | (k, m_) => [some (vR 167), some (vI w), some (vI q), some (vI (2 * n)), some (vI q), some (vI k), none, none, none]) (fun i => match i with | (k, m_) => m_) ?_ (0, wr (tkN μ) 167 10 (-1)) ⟨by omega, by omega, fun a a1 a2 a3 => wr_o a1, fun j hj => wr_n hj, wr_s, fun i a b => by omega⟩
  intro i_ hinv22 ih22
  obtain ⟨k, m_⟩ := i_
  try dsimp only at hinv22 ih22 ⊢
  obtain ⟨a1, a2, a3, a4, a5, a6⟩ := hinv22
  refine w_iload dX5_findPaint_22 rfl ?_
  refine w_bipush dX5_findPaint_24 (by decide) ?_
  refine w_icmp_ge (tgt := 51) (by omega) (by omega) dX5_findPaint_26 (by decide) (fun h26 => ?_) (fun h26 => ?_)
  · have e14 : k = 14 := by omega
    subst e14
    have hF0 : FPI (tkN μ) v n q w q m_ := by
      refine ⟨fun i i1 i2 => ?_, ?_, fun i i1 i2 => (a6 i (by omega) (by omega)).1, fun a z1 z2 z3 z4 => a3 a z1 z3 z4, a4⟩
      · rw [(a6 i i1 (by omega)).1, a3 172 (by decide) (by decide) (by decide), hM1.2.2.2.2 _ (by omega) (by omega), hM1.2.2.2.2 _ (by omega) (by omega)]
        have := hV.2.2.1 (2 * i + 1 - w)
        omega
      · rw [sI_zero (fun i i1 i2 => (a6 i i1 (by omega)).1)]
        omega
    refine w_iconst dX5_findPaint_51 ?_
    refine w_istore dX5_findPaint_52 (by decide) rfl ?_
    refine w_loop (ι := Int × Int × gM) (fun i => match i with | (b, lf, m_) => (b = 0 ∨ b = 1) ∧ FPI (tkN μ) v n q w lf m_ ∧ (m_ 167 10 = fO v n m w ∨ (m_ 167 10 = -1 ∧ b = 1 ∧ ∀ i, 0 ≤ i → i < 14 → m_ 174 i = 0)) ∧ (∀ i, 0 ≤ i → i < 14 → m_ 175 i = 0)) (fun i => match i with | (b, lf, m_) => fpm n b (m_ 174)) (fun i => match i with | (b, lf, m_) => [some (vR 167), some (vI w), some (vI q), some (vI (2 * n)), some (vI lf), some (vI b), none, none, none]) (fun i => match i with | (b, lf, m_) => m_) ?_ (1, q, m_) ⟨Or.inr rfl, hF0, Or.inr ⟨a5, rfl, fun i i1 i2 => (a6 i i1 (by omega)).1⟩, fun i i1 i2 => (a6 i i1 (by omega)).2⟩
    intro i_ hinv54 ih54
    obtain ⟨b, lf, m_⟩ := i_
    try dsimp only at hinv54 ih54 ⊢
    obtain ⟨c1, hF, c3, c4⟩ := hinv54
    refine w_iload dX5_findPaint_54 rfl ?_
    refine w_if_eq (tgt := 226) (by omega) dX5_findPaint_56 (by decide) (fun h56 => ?_) (fun h56 => ?_)
    · exact w_vretP rfl dX5_findPaint_226 (by have b0 : b = 0 := (by omega); refine ⟨fun a z1 z2 z3 z4 z5 => ?_, fun j hj => ?_, ?_, c4⟩; (rw [hF.2.2.2.1 a z1 z2 z4 z5]; exact tkN_o z2 z3); (rw [hF.2.2.2.2 j hj]; rw [tkN_o (by decide) (by decide)]); rcases c3 with c3 | ⟨-, c3, -⟩; (exact c3); (exfalso; omega))
    · have hMV := FPI_MV hF hw hM1 h9
      have hle := FPI_le hF hw hM1 hMV
      refine w_aload_n dX5_findPaint_59 rfl ?_
      refine w_iload_n dX5_findPaint_60 rfl ?_
      refine w_cV1 kX5_chanceOf ml_X5_132 ob_167 rfl (Nat.le_of_ble_eq_true rfl) (by decide) dX5_findPaint_61 (c_X5_chanceOf hMV (by omega)) (kI (fun e61 m61 q61 => ?_))
      obtain ⟨rfl, rfl, b61⟩ := q61
      refine w_istore dX5_findPaint_64 (by decide) rfl ?_
      refine w_iload dX5_findPaint_66 rfl ?_
      refine w_aload_n dX5_findPaint_68 rfl ?_
      refine gf_X5_142 rfl dX5_findPaint_69 ?_
      have hbr : -1 ≤ m_ 167 10 ∧ m_ 167 10 ≤ 54 := by
        have z := fO_bd hV g2 n w
        rcases c3 with c3 | c3 <;> omega
      refine w_icmp_le (tgt := 111) (by omega) (by omega) dX5_findPaint_72 (by decide) (fun h72 => ?_) (fun h72 => ?_)
      · obtain ⟨M, eM⟩ : ∃ z, z = m_ := ⟨_, rfl⟩
        rw [← eM]
        have hFM : FPI (tkN μ) v n q w lf M := by rw [eM]; exact hF
        have hBM : M 167 10 = fO v n m w := by
          rw [eM]
          rcases c3 with c3 | c3
          · exact c3
          · exfalso; omega
        have hZM : ∀ i, 0 ≤ i → i < 14 → M 175 i = 0 := by rw [eM]; exact c4
        have e174 : M 174 = m_ 174 := by rw [eM]
        refine w_iload_n dX5_findPaint_111 rfl ?_
        refine w_iconst dX5_findPaint_112 ?_
        refine w_isub dX5_findPaint_113 ?_
        refine w_istore dX5_findPaint_114 (by decide) rfl ?_
        refine w_iconst dX5_findPaint_116 ?_
        refine w_istore dX5_findPaint_117 (by decide) rfl ?_
        refine w_drop 6 ?_
        refine w_loop (ι := Int × Int × Int × gM) (fun i => match i with | (k, fd, lf2, m2) => -1 ≤ k ∧ k < 2 * n ∧ (fd = 0 ∨ fd = 1) ∧ FPI (tkN μ) v n q w lf2 m2 ∧ m2 167 10 = fO v n m w ∧ (∀ i, 0 ≤ i → i < 14 → m2 175 i = 0) ∧ (∀ i, 0 ≤ i → i < k → m2 174 i = M 174 i) ∧ (∀ i, k < i → i < 2 * n → m2 174 i = 0) ∧ (fd = 0 → 0 ≤ k → m2 174 k = M 174 k) ∧ (fd = 1 → 0 ≤ k ∧ m2 174 k = M 174 k + 1)) (fun i => match i with | (k, fd, lf2, m2) => (2 * k + 3 - fd).toNat) (fun i => match i with | (k, fd, lf2, m2) => [some (vR 167), some (vI w), some (vI q), some (vI (2 * n)), some (vI lf2), some (vI b), none, some (vI k), some (vI fd)]) (fun i => match i with | (k, fd, lf2, m2) => m2) ?_ (2 * n - 1, 0, lf, M) ⟨by omega, by omega, Or.inl rfl, hFM, hBM, hZM, fun i _ _ => rfl, fun i _ _ => by omega, fun _ _ => rfl, fun z => by omega⟩
        intro i_ hinv119 ih119
        obtain ⟨k, fd, lf2, m2⟩ := i_
        try dsimp only at hinv119 ih119 ⊢
        obtain ⟨d1, d2, d3, hF2, d5, d6, d7, d8, d9, d10⟩ := hinv119
        refine w_iload dX5_findPaint_119 rfl ?_
        refine w_if_lt (tgt := 219) (by omega) dX5_findPaint_121 (by decide) (fun h121 => ?_) (fun h121 => ?_)
        · refine w_iload dX5_findPaint_219 rfl ?_
          refine w_istore dX5_findPaint_221 (by decide) rfl ?_
          refine w_goto (tgt := 54) dX5_findPaint_223 (by decide) ?_
          refine w_drop 7 ?_
          refine w_drop 8 ?_
          refine ih54 (fd, lf2, m2) ⟨d3, hF2, Or.inl d5, d6⟩ ?_
          have b1_ : b = 1 := by omega
          subst b1_
          rcases d3 with rfl | rfl
          · exact fpm_0 rfl
          · have z := d10 rfl
            show fpm n 1 (m2 174) < fpm n 1 (m_ 174)
            rw [← e174]
            refine fpm_1 ⟨z.1, d2⟩ d7 z.2 d8 (fun i i1 i2 => ?_) (fun i i1 i2 => ?_)
            · have y := hFM.1 i i1 i2; have y2 := h9 (2 * i + 1 - w) (by omega) (by omega); omega
            · have y := hF2.1 i i1 i2; have y2 := h9 (2 * i + 1 - w) (by omega) (by omega); omega
        · have hk0 := hF2.1 k (by omega) (by omega)
          have hv1 := h9 (2 * k + 1 - w) (by omega) (by omega)
          have hsb := sI_bd (f := m2 174) (a := 0) (b := 9) (n := 2 * n) (by omega) (fun i i1 i2 => by have y := hF2.1 i i1 i2; have y2 := h9 (2 * i + 1 - w) (by omega) (by omega); omega)
          have hlf := hF2.2.1
          refine w_iload dX5_findPaint_124 rfl ?_
          refine w_if_ne (tgt := 219) (by omega) dX5_findPaint_126 (by decide) (fun h126 => ?_) (fun h126 => ?_)
          · refine w_iload dX5_findPaint_219 rfl ?_
            refine w_istore dX5_findPaint_221 (by decide) rfl ?_
            refine w_goto (tgt := 54) dX5_findPaint_223 (by decide) ?_
            refine w_drop 7 ?_
            refine w_drop 8 ?_
            refine ih54 (fd, lf2, m2) ⟨d3, hF2, Or.inl d5, d6⟩ ?_
            have b1_ : b = 1 := by omega
            subst b1_
            rcases d3 with rfl | rfl
            · exact fpm_0 rfl
            · have z := d10 rfl
              show fpm n 1 (m2 174) < fpm n 1 (m_ 174)
              rw [← e174]
              refine fpm_1 ⟨z.1, d2⟩ d7 z.2 d8 (fun i i1 i2 => ?_) (fun i i1 i2 => ?_)
              · have y := hFM.1 i i1 i2; have y2 := h9 (2 * i + 1 - w) (by omega) (by omega); omega
              · have y := hF2.1 i i1 i2; have y2 := h9 (2 * i + 1 - w) (by omega) (by omega); omega
          · refine w_iload dX5_findPaint_129 rfl ?_
            refine w_if_le (tgt := 178) (by omega) dX5_findPaint_131 (by decide) (fun h131 => ?_) (fun h131 => ?_)
            · refine w_aload_n dX5_findPaint_178 rfl ?_
              refine w_iload dX5_findPaint_179 rfl ?_
              refine w_iload_n dX5_findPaint_181 rfl ?_
              refine w_aload_n dX5_findPaint_182 rfl ?_
              refine gf_X5_33 rfl dX5_findPaint_183 ?_
              refine w_iload dX5_findPaint_186 rfl ?_
              refine w_iald ar_174 (by omega) dX5_findPaint_188 ?_
              refine w_ineg dX5_findPaint_189 ?_
              refine w_cV3 kX5_brushOn ml_X5_146 ob_167 rfl (Nat.le_of_ble_eq_true rfl) (by decide) dX5_findPaint_190 (c_X5_brushOn (by omega) hw) (kU (fun m190 q190 => ?_))
              obtain rfl := q190
              refine w_iload dX5_findPaint_193 rfl ?_
              refine w_aload_n dX5_findPaint_195 rfl ?_
              refine gf_X5_33 rfl dX5_findPaint_196 ?_
              refine w_iload dX5_findPaint_199 rfl ?_
              refine w_iald ar_174 (by omega) dX5_findPaint_201 ?_
              rw [br_o (by decide)]
              refine w_iadd dX5_findPaint_202 ?_
              refine w_istore dX5_findPaint_203 (by decide) rfl ?_
              refine w_aload_n dX5_findPaint_205 rfl ?_
              refine gf_X5_33 rfl dX5_findPaint_206 ?_
              refine w_iload dX5_findPaint_209 rfl ?_
              refine w_iconst dX5_findPaint_211 ?_
              refine w_iast ar_174 (by omega) dX5_findPaint_212 ?_
              refine w_iinc dX5_findPaint_213 rfl (by decide) rfl ?_
              refine w_goto (tgt := 119) dX5_findPaint_216 (by decide) ?_
              have ef : fd = 0 := by omega
              subst ef
              refine ih119 (k + -1, 0, lf2 + m2 174 k, wr (br m2 k w (-m2 174 k)) 174 k 0) ⟨by dsimp only; omega, by dsimp only; omega, Or.inl rfl, FPI_u hF2 hN.2 hw ⟨by omega, d2⟩ (x := - m2 174 k) (by omega) (by dsimp only; omega) (by omega), ?_, ?_, fun i i1 i2 => ?_, fun i i1 i2 => ?_, fun _ z => ?_, fun z => by dsimp only at z; omega⟩ (by dsimp only; omega)
              · try dsimp only
                rw [wr_o (by decide), br_o (by decide)]; exact d5
              · try dsimp only
                rw [wr_o (by decide), br_o (by decide)]; exact d6
              · dsimp only at i2 ⊢; rw [wr_n (by omega), br_o (by decide)]; exact d7 i i1 (by omega)
              · dsimp only at i1 ⊢
                by_cases ek : i = k
                · rw [ek, wr_s]
                · rw [wr_n ek, br_o (by decide)]; exact d8 i (by omega) i2
              · dsimp only at z ⊢; rw [wr_n (by omega), br_o (by decide)]; exact d7 _ z (by omega)
            · refine w_aload_n dX5_findPaint_134 rfl ?_
              refine gf_X5_27 rfl dX5_findPaint_135 ?_
              refine w_iconst dX5_findPaint_138 ?_
              refine w_iload dX5_findPaint_139 rfl ?_
              refine w_imul dX5_findPaint_141 ?_
              refine w_iconst dX5_findPaint_142 ?_
              refine w_iadd dX5_findPaint_143 ?_
              refine w_iload_n dX5_findPaint_144 rfl ?_
              refine w_isub dX5_findPaint_145 ?_
              refine w_iald ar_172 (by omega) dX5_findPaint_146 ?_
              refine w_if_le (tgt := 178) (by omega) dX5_findPaint_147 (by decide) (fun h147 => ?_) (fun h147 => ?_)
              · refine w_aload_n dX5_findPaint_178 rfl ?_
                refine w_iload dX5_findPaint_179 rfl ?_
                refine w_iload_n dX5_findPaint_181 rfl ?_
                refine w_aload_n dX5_findPaint_182 rfl ?_
                refine gf_X5_33 rfl dX5_findPaint_183 ?_
                refine w_iload dX5_findPaint_186 rfl ?_
                refine w_iald ar_174 (by omega) dX5_findPaint_188 ?_
                refine w_ineg dX5_findPaint_189 ?_
                refine w_cV3 kX5_brushOn ml_X5_146 ob_167 rfl (Nat.le_of_ble_eq_true rfl) (by decide) dX5_findPaint_190 (c_X5_brushOn (by omega) hw) (kU (fun m190 q190 => ?_))
                obtain rfl := q190
                refine w_iload dX5_findPaint_193 rfl ?_
                refine w_aload_n dX5_findPaint_195 rfl ?_
                refine gf_X5_33 rfl dX5_findPaint_196 ?_
                refine w_iload dX5_findPaint_199 rfl ?_
                refine w_iald ar_174 (by omega) dX5_findPaint_201 ?_
                rw [br_o (by decide)]
                refine w_iadd dX5_findPaint_202 ?_
                refine w_istore dX5_findPaint_203 (by decide) rfl ?_
                refine w_aload_n dX5_findPaint_205 rfl ?_
                refine gf_X5_33 rfl dX5_findPaint_206 ?_
                refine w_iload dX5_findPaint_209 rfl ?_
                refine w_iconst dX5_findPaint_211 ?_
                refine w_iast ar_174 (by omega) dX5_findPaint_212 ?_
                refine w_iinc dX5_findPaint_213 rfl (by decide) rfl ?_
                refine w_goto (tgt := 119) dX5_findPaint_216 (by decide) ?_
                have ef : fd = 0 := by omega
                subst ef
                refine ih119 (k + -1, 0, lf2 + m2 174 k, wr (br m2 k w (-m2 174 k)) 174 k 0) ⟨by dsimp only; omega, by dsimp only; omega, Or.inl rfl, FPI_u hF2 hN.2 hw ⟨by omega, d2⟩ (x := - m2 174 k) (by omega) (by dsimp only; omega) (by omega), ?_, ?_, fun i i1 i2 => ?_, fun i i1 i2 => ?_, fun _ z => ?_, fun z => by dsimp only at z; omega⟩ (by dsimp only; omega)
                · try dsimp only
                  rw [wr_o (by decide), br_o (by decide)]; exact d5
                · try dsimp only
                  rw [wr_o (by decide), br_o (by decide)]; exact d6
                · dsimp only at i2 ⊢; rw [wr_n (by omega), br_o (by decide)]; exact d7 i i1 (by omega)
                · dsimp only at i1 ⊢
                  by_cases ek : i = k
                  · rw [ek, wr_s]
                  · rw [wr_n ek, br_o (by decide)]; exact d8 i (by omega) i2
                · dsimp only at z ⊢; rw [wr_n (by omega), br_o (by decide)]; exact d7 _ z (by omega)
              · refine w_aload_n dX5_findPaint_150 rfl ?_
                refine w_iload dX5_findPaint_151 rfl ?_
                refine w_iload_n dX5_findPaint_153 rfl ?_
                refine w_iconst dX5_findPaint_154 ?_
                refine w_cV3 kX5_brushOn ml_X5_146 ob_167 rfl (Nat.le_of_ble_eq_true rfl) (by decide) dX5_findPaint_155 (c_X5_brushOn (by omega) hw) (kU (fun m155 q155 => ?_))
                obtain rfl := q155
                have nw1 := hF2
                refine w_aload_n dX5_findPaint_158 rfl ?_
                refine gf_X5_33 rfl dX5_findPaint_159 ?_
                refine w_iload dX5_findPaint_162 rfl ?_
                refine w_dup2 dX5_findPaint_164 ?_
                refine w_iald ar_174 (by omega) dX5_findPaint_165 ?_
                refine w_iconst dX5_findPaint_166 ?_
                refine w_iadd dX5_findPaint_167 ?_
                refine w_iast ar_174 (by omega) dX5_findPaint_168 ?_
                refine w_iinc dX5_findPaint_169 rfl (by decide) rfl ?_
                refine w_iconst dX5_findPaint_172 ?_
                refine w_istore dX5_findPaint_173 (by decide) rfl ?_
                refine w_goto (tgt := 119) dX5_findPaint_175 (by decide) ?_
                have ef : fd = 0 := by omega
                subst ef
                have e1_ : br m2 k w 1 174 k = m2 174 k := by rw [br_o (by decide)]
                refine ih119 (k, 1, lf2 + -1, wr (br m2 k w 1) 174 k (br m2 k w 1 174 k + 1)) ⟨d1, d2, Or.inr rfl, FPI_u hF2 hN.2 hw ⟨by omega, d2⟩ (x := 1) (by omega) (by dsimp only; omega) (by rw [e1_]), ?_, ?_, fun i i1 i2 => ?_, fun i i1 i2 => ?_, fun z => by dsimp only at z; omega, fun _ => ⟨by dsimp only; omega, ?_⟩⟩ (by dsimp only; omega)
                · try dsimp only
                  rw [wr_o (by decide), br_o (by decide)]; exact d5
                · try dsimp only
                  rw [wr_o (by decide), br_o (by decide)]; exact d6
                · try dsimp only
                  rw [wr_n (by dsimp only at i2; omega), br_o (by decide)]; exact d7 i i1 i2
                · try dsimp only
                  rw [wr_n (by dsimp only at i1; omega), br_o (by decide)]; exact d8 i i1 i2
                · try dsimp only
                  rw [wr_s, e1_, d9 rfl (by omega)]
      · obtain ⟨cc1, cc2, hz0⟩ : m_ 167 10 = -1 ∧ b = 1 ∧ ∀ i, 0 ≤ i → i < 14 → m_ 174 i = 0 := by
          rcases c3 with c3 | c3
          · exfalso; omega
          · exact c3
        have heq := FPI_eq (mm := m) hF hw hN.2 hz0
        refine w_aload_n dX5_findPaint_75 rfl ?_
        refine w_iload dX5_findPaint_76 rfl ?_
        refine pf_X5_142 rfl dX5_findPaint_78 ?_
        refine w_iconst dX5_findPaint_81 ?_
        refine w_istore dX5_findPaint_82 (by decide) rfl ?_
        refine w_loop (ι := Int) (fun k => 0 ≤ k ∧ k ≤ 14) (fun k => (14 - k).toNat) (fun k => [some (vR 167), some (vI w), some (vI q), some (vI (2 * n)), some (vI lf), some (vI b), some (vI (fO (hv v (m_ 172) n) n m w)), some (vI k), none]) (fun k => wr m_ 167 10 (fO (hv v (m_ 172) n) n m w)) ?_ 0 ⟨by omega, by omega⟩
        intro i_ hinv84 ih84
        obtain ⟨k, rfl⟩ : ∃ z, z = i_ := ⟨_, rfl⟩
        try dsimp only at hinv84 ih84 ⊢
        obtain ⟨s1, s2⟩ := hinv84
        refine w_iload dX5_findPaint_84 rfl ?_
        refine w_bipush dX5_findPaint_86 (by decide) ?_
        refine w_icmp_ge (tgt := 111) (by omega) (by omega) dX5_findPaint_88 (by decide) (fun h88 => ?_) (fun h88 => ?_)
        · obtain ⟨M, eM⟩ : ∃ z, z = wr m_ 167 10 (fO (hv v (m_ 172) n) n m w) := ⟨_, rfl⟩
          rw [← eM]
          have hFM : FPI (tkN μ) v n q w lf M := by rw [eM]; exact FPI_b hF
          have hBM : M 167 10 = fO v n m w := by rw [eM, wr_s]; exact heq
          have hZM : ∀ i, 0 ≤ i → i < 14 → M 175 i = 0 := by rw [eM, wr_o (by decide)]; exact c4
          have e174 : M 174 = m_ 174 := by rw [eM, wr_o (by decide)]
          refine w_iload_n dX5_findPaint_111 rfl ?_
          refine w_iconst dX5_findPaint_112 ?_
          refine w_isub dX5_findPaint_113 ?_
          refine w_istore dX5_findPaint_114 (by decide) rfl ?_
          refine w_iconst dX5_findPaint_116 ?_
          refine w_istore dX5_findPaint_117 (by decide) rfl ?_
          refine w_drop 6 ?_
          refine w_loop (ι := Int × Int × Int × gM) (fun i => match i with | (k, fd, lf2, m2) => -1 ≤ k ∧ k < 2 * n ∧ (fd = 0 ∨ fd = 1) ∧ FPI (tkN μ) v n q w lf2 m2 ∧ m2 167 10 = fO v n m w ∧ (∀ i, 0 ≤ i → i < 14 → m2 175 i = 0) ∧ (∀ i, 0 ≤ i → i < k → m2 174 i = M 174 i) ∧ (∀ i, k < i → i < 2 * n → m2 174 i = 0) ∧ (fd = 0 → 0 ≤ k → m2 174 k = M 174 k) ∧ (fd = 1 → 0 ≤ k ∧ m2 174 k = M 174 k + 1)) (fun i => match i with | (k, fd, lf2, m2) => (2 * k + 3 - fd).toNat) (fun i => match i with | (k, fd, lf2, m2) => [some (vR 167), some (vI w), some (vI q), some (vI (2 * n)), some (vI lf2), some (vI b), none, some (vI k), some (vI fd)]) (fun i => match i with | (k, fd, lf2, m2) => m2) ?_ (2 * n - 1, 0, lf, M) ⟨by omega, by omega, Or.inl rfl, hFM, hBM, hZM, fun i _ _ => rfl, fun i _ _ => by omega, fun _ _ => rfl, fun z => by omega⟩
          intro i_ hinv119 ih119
          obtain ⟨k, fd, lf2, m2⟩ := i_
          try dsimp only at hinv119 ih119 ⊢
          obtain ⟨d1, d2, d3, hF2, d5, d6, d7, d8, d9, d10⟩ := hinv119
          refine w_iload dX5_findPaint_119 rfl ?_
          refine w_if_lt (tgt := 219) (by omega) dX5_findPaint_121 (by decide) (fun h121 => ?_) (fun h121 => ?_)
          · refine w_iload dX5_findPaint_219 rfl ?_
            refine w_istore dX5_findPaint_221 (by decide) rfl ?_
            refine w_goto (tgt := 54) dX5_findPaint_223 (by decide) ?_
            refine w_drop 7 ?_
            refine w_drop 8 ?_
            refine ih54 (fd, lf2, m2) ⟨d3, hF2, Or.inl d5, d6⟩ ?_
            have b1_ : b = 1 := by omega
            subst b1_
            rcases d3 with rfl | rfl
            · exact fpm_0 rfl
            · have z := d10 rfl
              show fpm n 1 (m2 174) < fpm n 1 (m_ 174)
              rw [← e174]
              refine fpm_1 ⟨z.1, d2⟩ d7 z.2 d8 (fun i i1 i2 => ?_) (fun i i1 i2 => ?_)
              · have y := hFM.1 i i1 i2; have y2 := h9 (2 * i + 1 - w) (by omega) (by omega); omega
              · have y := hF2.1 i i1 i2; have y2 := h9 (2 * i + 1 - w) (by omega) (by omega); omega
          · have hk0 := hF2.1 k (by omega) (by omega)
            have hv1 := h9 (2 * k + 1 - w) (by omega) (by omega)
            have hsb := sI_bd (f := m2 174) (a := 0) (b := 9) (n := 2 * n) (by omega) (fun i i1 i2 => by have y := hF2.1 i i1 i2; have y2 := h9 (2 * i + 1 - w) (by omega) (by omega); omega)
            have hlf := hF2.2.1
            refine w_iload dX5_findPaint_124 rfl ?_
            refine w_if_ne (tgt := 219) (by omega) dX5_findPaint_126 (by decide) (fun h126 => ?_) (fun h126 => ?_)
            · refine w_iload dX5_findPaint_219 rfl ?_
              refine w_istore dX5_findPaint_221 (by decide) rfl ?_
              refine w_goto (tgt := 54) dX5_findPaint_223 (by decide) ?_
              refine w_drop 7 ?_
              refine w_drop 8 ?_
              refine ih54 (fd, lf2, m2) ⟨d3, hF2, Or.inl d5, d6⟩ ?_
              have b1_ : b = 1 := by omega
              subst b1_
              rcases d3 with rfl | rfl
              · exact fpm_0 rfl
              · have z := d10 rfl
                show fpm n 1 (m2 174) < fpm n 1 (m_ 174)
                rw [← e174]
                refine fpm_1 ⟨z.1, d2⟩ d7 z.2 d8 (fun i i1 i2 => ?_) (fun i i1 i2 => ?_)
                · have y := hFM.1 i i1 i2; have y2 := h9 (2 * i + 1 - w) (by omega) (by omega); omega
                · have y := hF2.1 i i1 i2; have y2 := h9 (2 * i + 1 - w) (by omega) (by omega); omega
            · refine w_iload dX5_findPaint_129 rfl ?_
              refine w_if_le (tgt := 178) (by omega) dX5_findPaint_131 (by decide) (fun h131 => ?_) (fun h131 => ?_)
              · refine w_aload_n dX5_findPaint_178 rfl ?_
                refine w_iload dX5_findPaint_179 rfl ?_
                refine w_iload_n dX5_findPaint_181 rfl ?_
                refine w_aload_n dX5_findPaint_182 rfl ?_
                refine gf_X5_33 rfl dX5_findPaint_183 ?_
                refine w_iload dX5_findPaint_186 rfl ?_
                refine w_iald ar_174 (by omega) dX5_findPaint_188 ?_
                refine w_ineg dX5_findPaint_189 ?_
                refine w_cV3 kX5_brushOn ml_X5_146 ob_167 rfl (Nat.le_of_ble_eq_true rfl) (by decide) dX5_findPaint_190 (c_X5_brushOn (by omega) hw) (kU (fun m190 q190 => ?_))
                obtain rfl := q190
                refine w_iload dX5_findPaint_193 rfl ?_
                refine w_aload_n dX5_findPaint_195 rfl ?_
                refine gf_X5_33 rfl dX5_findPaint_196 ?_
                refine w_iload dX5_findPaint_199 rfl ?_
                refine w_iald ar_174 (by omega) dX5_findPaint_201 ?_
                rw [br_o (by decide)]
                refine w_iadd dX5_findPaint_202 ?_
                refine w_istore dX5_findPaint_203 (by decide) rfl ?_
                refine w_aload_n dX5_findPaint_205 rfl ?_
                refine gf_X5_33 rfl dX5_findPaint_206 ?_
                refine w_iload dX5_findPaint_209 rfl ?_
                refine w_iconst dX5_findPaint_211 ?_
                refine w_iast ar_174 (by omega) dX5_findPaint_212 ?_
                refine w_iinc dX5_findPaint_213 rfl (by decide) rfl ?_
                refine w_goto (tgt := 119) dX5_findPaint_216 (by decide) ?_
                have ef : fd = 0 := by omega
                subst ef
                refine ih119 (k + -1, 0, lf2 + m2 174 k, wr (br m2 k w (-m2 174 k)) 174 k 0) ⟨by dsimp only; omega, by dsimp only; omega, Or.inl rfl, FPI_u hF2 hN.2 hw ⟨by omega, d2⟩ (x := - m2 174 k) (by omega) (by dsimp only; omega) (by omega), ?_, ?_, fun i i1 i2 => ?_, fun i i1 i2 => ?_, fun _ z => ?_, fun z => by dsimp only at z; omega⟩ (by dsimp only; omega)
                · try dsimp only
                  rw [wr_o (by decide), br_o (by decide)]; exact d5
                · try dsimp only
                  rw [wr_o (by decide), br_o (by decide)]; exact d6
                · dsimp only at i2 ⊢; rw [wr_n (by omega), br_o (by decide)]; exact d7 i i1 (by omega)
                · dsimp only at i1 ⊢
                  by_cases ek : i = k
                  · rw [ek, wr_s]
                  · rw [wr_n ek, br_o (by decide)]; exact d8 i (by omega) i2
                · dsimp only at z ⊢; rw [wr_n (by omega), br_o (by decide)]; exact d7 _ z (by omega)
              · refine w_aload_n dX5_findPaint_134 rfl ?_
                refine gf_X5_27 rfl dX5_findPaint_135 ?_
                refine w_iconst dX5_findPaint_138 ?_
                refine w_iload dX5_findPaint_139 rfl ?_
                refine w_imul dX5_findPaint_141 ?_
                refine w_iconst dX5_findPaint_142 ?_
                refine w_iadd dX5_findPaint_143 ?_
                refine w_iload_n dX5_findPaint_144 rfl ?_
                refine w_isub dX5_findPaint_145 ?_
                refine w_iald ar_172 (by omega) dX5_findPaint_146 ?_
                refine w_if_le (tgt := 178) (by omega) dX5_findPaint_147 (by decide) (fun h147 => ?_) (fun h147 => ?_)
                · refine w_aload_n dX5_findPaint_178 rfl ?_
                  refine w_iload dX5_findPaint_179 rfl ?_
                  refine w_iload_n dX5_findPaint_181 rfl ?_
                  refine w_aload_n dX5_findPaint_182 rfl ?_
                  refine gf_X5_33 rfl dX5_findPaint_183 ?_
                  refine w_iload dX5_findPaint_186 rfl ?_
                  refine w_iald ar_174 (by omega) dX5_findPaint_188 ?_
                  refine w_ineg dX5_findPaint_189 ?_
                  refine w_cV3 kX5_brushOn ml_X5_146 ob_167 rfl (Nat.le_of_ble_eq_true rfl) (by decide) dX5_findPaint_190 (c_X5_brushOn (by omega) hw) (kU (fun m190 q190 => ?_))
                  obtain rfl := q190
                  refine w_iload dX5_findPaint_193 rfl ?_
                  refine w_aload_n dX5_findPaint_195 rfl ?_
                  refine gf_X5_33 rfl dX5_findPaint_196 ?_
                  refine w_iload dX5_findPaint_199 rfl ?_
                  refine w_iald ar_174 (by omega) dX5_findPaint_201 ?_
                  rw [br_o (by decide)]
                  refine w_iadd dX5_findPaint_202 ?_
                  refine w_istore dX5_findPaint_203 (by decide) rfl ?_
                  refine w_aload_n dX5_findPaint_205 rfl ?_
                  refine gf_X5_33 rfl dX5_findPaint_206 ?_
                  refine w_iload dX5_findPaint_209 rfl ?_
                  refine w_iconst dX5_findPaint_211 ?_
                  refine w_iast ar_174 (by omega) dX5_findPaint_212 ?_
                  refine w_iinc dX5_findPaint_213 rfl (by decide) rfl ?_
                  refine w_goto (tgt := 119) dX5_findPaint_216 (by decide) ?_
                  have ef : fd = 0 := by omega
                  subst ef
                  refine ih119 (k + -1, 0, lf2 + m2 174 k, wr (br m2 k w (-m2 174 k)) 174 k 0) ⟨by dsimp only; omega, by dsimp only; omega, Or.inl rfl, FPI_u hF2 hN.2 hw ⟨by omega, d2⟩ (x := - m2 174 k) (by omega) (by dsimp only; omega) (by omega), ?_, ?_, fun i i1 i2 => ?_, fun i i1 i2 => ?_, fun _ z => ?_, fun z => by dsimp only at z; omega⟩ (by dsimp only; omega)
                  · try dsimp only
                    rw [wr_o (by decide), br_o (by decide)]; exact d5
                  · try dsimp only
                    rw [wr_o (by decide), br_o (by decide)]; exact d6
                  · dsimp only at i2 ⊢; rw [wr_n (by omega), br_o (by decide)]; exact d7 i i1 (by omega)
                  · dsimp only at i1 ⊢
                    by_cases ek : i = k
                    · rw [ek, wr_s]
                    · rw [wr_n ek, br_o (by decide)]; exact d8 i (by omega) i2
                  · dsimp only at z ⊢; rw [wr_n (by omega), br_o (by decide)]; exact d7 _ z (by omega)
                · refine w_aload_n dX5_findPaint_150 rfl ?_
                  refine w_iload dX5_findPaint_151 rfl ?_
                  refine w_iload_n dX5_findPaint_153 rfl ?_
                  refine w_iconst dX5_findPaint_154 ?_
                  refine w_cV3 kX5_brushOn ml_X5_146 ob_167 rfl (Nat.le_of_ble_eq_true rfl) (by decide) dX5_findPaint_155 (c_X5_brushOn (by omega) hw) (kU (fun m155 q155 => ?_))
                  obtain rfl := q155
                  have nw1 := hF2
                  refine w_aload_n dX5_findPaint_158 rfl ?_
                  refine gf_X5_33 rfl dX5_findPaint_159 ?_
                  refine w_iload dX5_findPaint_162 rfl ?_
                  refine w_dup2 dX5_findPaint_164 ?_
                  refine w_iald ar_174 (by omega) dX5_findPaint_165 ?_
                  refine w_iconst dX5_findPaint_166 ?_
                  refine w_iadd dX5_findPaint_167 ?_
                  refine w_iast ar_174 (by omega) dX5_findPaint_168 ?_
                  refine w_iinc dX5_findPaint_169 rfl (by decide) rfl ?_
                  refine w_iconst dX5_findPaint_172 ?_
                  refine w_istore dX5_findPaint_173 (by decide) rfl ?_
                  refine w_goto (tgt := 119) dX5_findPaint_175 (by decide) ?_
                  have ef : fd = 0 := by omega
                  subst ef
                  have e1_ : br m2 k w 1 174 k = m2 174 k := by rw [br_o (by decide)]
                  refine ih119 (k, 1, lf2 + -1, wr (br m2 k w 1) 174 k (br m2 k w 1 174 k + 1)) ⟨d1, d2, Or.inr rfl, FPI_u hF2 hN.2 hw ⟨by omega, d2⟩ (x := 1) (by omega) (by dsimp only; omega) (by rw [e1_]), ?_, ?_, fun i i1 i2 => ?_, fun i i1 i2 => ?_, fun z => by dsimp only at z; omega, fun _ => ⟨by dsimp only; omega, ?_⟩⟩ (by dsimp only; omega)
                  · try dsimp only
                    rw [wr_o (by decide), br_o (by decide)]; exact d5
                  · try dsimp only
                    rw [wr_o (by decide), br_o (by decide)]; exact d6
                  · try dsimp only
                    rw [wr_n (by dsimp only at i2; omega), br_o (by decide)]; exact d7 i i1 i2
                  · try dsimp only
                    rw [wr_n (by dsimp only at i1; omega), br_o (by decide)]; exact d8 i i1 i2
                  · try dsimp only
                    rw [wr_s, e1_, d9 rfl (by omega)]
        · refine w_aload_n dX5_findPaint_91 rfl ?_
          refine gf_X5_36 rfl dX5_findPaint_92 ?_
          refine w_iload dX5_findPaint_95 rfl ?_
          refine w_aload_n dX5_findPaint_97 rfl ?_
          refine gf_X5_33 rfl dX5_findPaint_98 ?_
          refine w_iload dX5_findPaint_101 rfl ?_
          refine w_iald ar_174 (by omega) dX5_findPaint_103 ?_
          refine w_iast ar_175 (by omega) dX5_findPaint_104 ?_
          refine w_iinc dX5_findPaint_105 rfl (by decide) rfl ?_
          refine w_goto (tgt := 84) dX5_findPaint_108 (by decide) ?_
          refine w_mu ?_ (ih84 (k + 1) ⟨by omega, by omega⟩ (by omega))
          symm
          have z1 := hz0 k (by omega) (by omega)
          have z2 := c4 k (by omega) (by omega)
          exact wr_same (by rw [wr_o (by decide), wr_o (by decide), z1, z2])
  · refine w_aload_n dX5_findPaint_29 rfl ?_
    refine gf_X5_33 rfl dX5_findPaint_30 ?_
    refine w_iload dX5_findPaint_33 rfl ?_
    refine w_iconst dX5_findPaint_35 ?_
    refine w_iast ar_174 (by omega) dX5_findPaint_36 ?_
    refine w_aload_n dX5_findPaint_37 rfl ?_
    refine gf_X5_36 rfl dX5_findPaint_38 ?_
    refine w_iload dX5_findPaint_41 rfl ?_
    refine w_iconst dX5_findPaint_43 ?_
    refine w_iast ar_175 (by omega) dX5_findPaint_44 ?_
    refine w_iinc dX5_findPaint_45 rfl (by decide) rfl ?_
    refine w_goto (tgt := 22) dX5_findPaint_48 (by decide) ?_
    refine ih22 (k + 1, wr (wr m_ 174 k 0) 175 k 0) ⟨by dsimp only; omega, by dsimp only; omega, fun a z1 z2 z3 => ?_, fun j hj => ?_, ?_, fun i i1 i2 => ?_⟩ (by dsimp only; omega)
    · try dsimp only
      rw [wr_o z3, wr_o z2]; exact a3 a z1 z2 z3
    · try dsimp only
      rw [wr_o (by decide), wr_o (by decide)]; exact a4 j hj
    · try dsimp only
      rw [wr_o (by decide), wr_o (by decide)]; exact a5
    · dsimp only at i2 ⊢
      by_cases ek : i = k
      · subst ek; rw [wr_o (by decide), wr_s, wr_s]; exact ⟨rfl, rfl⟩
      · rw [wr_o (by decide), wr_n ek, wr_n ek, wr_o (by decide)]; exact a6 i i1 (by omega)
set_option maxRecDepth 100000 in
set_option maxHeartbeats 4000000 in
theorem c_X5_paint {g : gG} {l : Launch} {μ : gM} {w : Int} {q : Int} {v : gV} {n m : Int} (r1 : -2147483648 ≤ w ∧ w < 2147483648) (r2 : -2147483648 ≤ q ∧ q < 2147483648) (hNW : NW μ v n m) (hC : 0 < m → 0 < fC v m) (h9 : ∀ i, 0 ≤ i → i < 4 * n → v 3 i ≤ 9) : CT g l YX5_paint 9 [vR 167, vI w, vI q] μ (pI fun e μ2 => (¬ ((w = 0 ∨ w = 1) ∧ 0 ≤ q ∧ q ≤ 4) ∧ e = -2 ∧ μ2 = rb μ) ∨ (((w = 0 ∨ w = 1) ∧ 0 ≤ q ∧ q ≤ 4) ∧ m = 0 ∧ e = -3 ∧ μ2 = rn μ) ∨ (((w = 0 ∨ w = 1) ∧ 0 ≤ q ∧ q ≤ 4) ∧ 0 < m ∧ e = 1 ∧ ∃ m1, (∀ a, a ≠ 167 → a ≠ 172 → a ≠ 173 → a ≠ 174 → a ≠ 175 → m1 a = μ a) ∧ (∀ j, j ≠ 10 → m1 167 j = μ 167 j) ∧ μ2 = frm m1 (fO v n m w) (fC v m))) := by
  have hMG := hNW.1
  obtain ⟨g1, g2, gV, g4, g5⟩ := id hMG
  have hV := gV.1
  obtain ⟨-, n1, n2, n3, n4⟩ := id hNW
  refine CT.of (n := 0) (by decide) rfl ?_
  show WA g l YX5_paint 9 _ 0 [some (vR 167), some (vI w), some (vI q)] [] μ
  refine w_iload_n dX5_paint_0 rfl ?_
  refine w_i2l (by omega) dX5_paint_1 ?_
  refine w_lconst 0 dX5_paint_2 (by decide) ?_
  refine w_lconst 1 dX5_paint_3 (by decide) ?_
  refine w_cS3 kX5_in ml_X5_58 (Nat.le_of_ble_eq_true rfl) (by decide) dX5_paint_4 (c_X5_in (by omega) (by omega) (by omega)) (kI (fun e4 m4 q4 => ?_))
  obtain ⟨q4, rfl⟩ := q4
  refine w_if_eq (tgt := 22) (by omega) dX5_paint_7 (by decide) (fun h7 => ?_) (fun h7 => ?_)
  · refine w_aload_n dX5_paint_22 rfl ?_
    refine w_bipush dX5_paint_23 (by decide) ?_
    refine w_cV1 kX5_bad ml_X5_73 ob_167 rfl (Nat.le_of_ble_eq_true rfl) (by decide) dX5_paint_25 (c_X5_bad) (kI (fun e25 m25 q25 => ?_))
    obtain ⟨rfl, rfl⟩ := q25
    exact w_iretP rfl dX5_paint_28 (by first | exact Or.inl (⟨by omega, rfl, rfl⟩) | exact Or.inr (Or.inl (⟨by omega, by omega, rfl, rfl⟩)) | (exfalso; omega))
  · refine w_iload_n dX5_paint_10 rfl ?_
    refine w_i2l (by omega) dX5_paint_11 ?_
    refine w_lconst 0 dX5_paint_12 (by decide) ?_
    refine w_ldc2 (4) cl_X5_150 dX5_paint_13 (by decide) ?_
    refine w_cS3 kX5_in ml_X5_58 (Nat.le_of_ble_eq_true rfl) (by decide) dX5_paint_16 (c_X5_in (by omega) (by omega) (by omega)) (kI (fun e16 m16 q16 => ?_))
    obtain ⟨q16, rfl⟩ := q16
    refine w_if_ne (tgt := 29) (by omega) dX5_paint_19 (by decide) (fun h19 => ?_) (fun h19 => ?_)
    · refine w_aload_n dX5_paint_29 rfl ?_
      refine w_cV0 kX5_storms ml_X5_62 ob_167 rfl (Nat.le_of_ble_eq_true rfl) (by decide) dX5_paint_30 (c_X5_storms) (kI (fun e30 m30 q30 => ?_))
      obtain ⟨rfl, rfl⟩ := q30
      rw [g1]
      refine w_if_ne (tgt := 43) (by omega) dX5_paint_33 (by decide) (fun h33 => ?_) (fun h33 => ?_)
      · refine w_aload_n dX5_paint_43 rfl ?_
        refine w_iload_n dX5_paint_44 rfl ?_
        refine w_iload_n dX5_paint_45 rfl ?_
        refine w_cV2 kX5_findPaint ml_X5_152 ob_167 rfl (Nat.le_of_ble_eq_true rfl) (by decide) dX5_paint_46 (c_X5_findPaint hNW (by omega) (by omega) h9) (kU (fun m46 q46 => ?_))
        obtain ⟨f46, k46, b46, z46⟩ := q46
        have hob := fO_bd hV g2 n w
        have hp3 := hC (by omega)
        refine w_aload_n dX5_paint_49 rfl ?_
        refine w_aload_n dX5_paint_50 rfl ?_
        refine gf_X5_142 rfl dX5_paint_51 ?_
        rw [b46]
        refine w_i2l (by omega) dX5_paint_54 ?_
        refine w_aload_n dX5_paint_55 rfl ?_
        refine w_cV0 kX5_allChances ml_X5_135 ob_167 rfl (Nat.le_of_ble_eq_true rfl) (by decide) dX5_paint_56 (c_X5_allChances (MG_fr (f46 168 (by decide) (by decide) (by decide) (by decide) (by decide)) hMG)) (kI (fun e56 m56 q56 => ?_))
        obtain ⟨rfl, rfl, b56⟩ := q56
        refine w_i2l (by omega) dX5_paint_59 ?_
        refine w_cV2 kX5_tell ml_X5_138 ob_167 rfl (Nat.le_of_ble_eq_true rfl) (by decide) dX5_paint_60 (c_X5_tell (by omega) (by omega)) (kI (fun e60 m60 q60 => ?_))
        obtain ⟨rfl, rfl⟩ := q60
        exact w_iretP rfl dX5_paint_63 (by exact Or.inr (Or.inr ⟨by omega, by omega, rfl, m46, f46, k46, rfl⟩))
      · refine w_aload_n dX5_paint_36 rfl ?_
        refine w_bipush dX5_paint_37 (by decide) ?_
        refine w_cV1 kX5_no ml_X5_90 ob_167 rfl (Nat.le_of_ble_eq_true rfl) (by decide) dX5_paint_39 (c_X5_no) (kI (fun e39 m39 q39 => ?_))
        obtain ⟨rfl, rfl⟩ := q39
        exact w_iretP rfl dX5_paint_42 (by first | exact Or.inl (⟨by omega, rfl, rfl⟩) | exact Or.inr (Or.inl (⟨by omega, by omega, rfl, rfl⟩)) | (exfalso; omega))
    · refine w_aload_n dX5_paint_22 rfl ?_
      refine w_bipush dX5_paint_23 (by decide) ?_
      refine w_cV1 kX5_bad ml_X5_73 ob_167 rfl (Nat.le_of_ble_eq_true rfl) (by decide) dX5_paint_25 (c_X5_bad) (kI (fun e25 m25 q25 => ?_))
      obtain ⟨rfl, rfl⟩ := q25
      exact w_iretP rfl dX5_paint_28 (by first | exact Or.inl (⟨by omega, rfl, rfl⟩) | exact Or.inr (Or.inl (⟨by omega, by omega, rfl, rfl⟩)) | (exfalso; omega))
set_option maxRecDepth 100000 in
set_option maxHeartbeats 4000000 in
theorem c_X5_brush {g : gG} {l : Launch} {μ : gM} {w : Int} {q : Int} {r : Int} {sl : Int} {v : gV} {n m : Int} (r1 : -2147483648 ≤ w ∧ w < 2147483648) (r2 : -2147483648 ≤ q ∧ q < 2147483648) (r3 : -2147483648 ≤ r ∧ r < 2147483648) (r4 : -2147483648 ≤ sl ∧ sl < 2147483648) (hNW : NW μ v n m) (h9 : ∀ i, 0 ≤ i → i < 4 * n → v 3 i ≤ 9) : CT g l YX5_brush 9 [vR 167, vI w, vI q, vI r, vI sl] μ (pI fun e μ2 => (¬ ((w = 0 ∨ w = 1) ∧ 0 ≤ q ∧ q ≤ 4 ∧ 0 ≤ r ∧ r < n ∧ 0 ≤ sl ∧ sl ≤ 1) ∧ e = -2 ∧ μ2 = rb μ) ∨ (((w = 0 ∨ w = 1) ∧ 0 ≤ q ∧ q ≤ 4 ∧ 0 ≤ r ∧ r < n ∧ 0 ≤ sl ∧ sl ≤ 1) ∧ m = 0 ∧ e = -3 ∧ μ2 = rn μ) ∨ (((w = 0 ∨ w = 1) ∧ 0 ≤ q ∧ q ≤ 4 ∧ 0 ≤ r ∧ r < n ∧ 0 ≤ sl ∧ sl ≤ 1) ∧ 0 < m ∧ e = 0 ∧ (∀ a, a ≠ 167 → a ≠ 172 → a ≠ 173 → a ≠ 174 → a ≠ 175 → μ2 a = μ a) ∧ (∀ j, j ≠ 10 → μ2 167 j = μ 167 j))) := by
  have hMG := hNW.1
  obtain ⟨g1, g2, gV, g4, g5⟩ := id hMG
  have hV := gV.1
  obtain ⟨-, n1, n2, n3, n4⟩ := id hNW
  refine CT.of (n := 0) (by decide) rfl ?_
  show WA g l YX5_brush 9 _ 0 [some (vR 167), some (vI w), some (vI q), some (vI r), some (vI sl)] [] μ
  refine w_iload_n dX5_brush_0 rfl ?_
  refine w_i2l (by omega) dX5_brush_1 ?_
  refine w_lconst 0 dX5_brush_2 (by decide) ?_
  refine w_lconst 1 dX5_brush_3 (by decide) ?_
  refine w_cS3 kX5_in ml_X5_58 (Nat.le_of_ble_eq_true rfl) (by decide) dX5_brush_4 (c_X5_in (by omega) (by omega) (by omega)) (kI (fun e4 m4 q4 => ?_))
  obtain ⟨q4, rfl⟩ := q4
  refine w_if_eq (tgt := 41) (by omega) dX5_brush_7 (by decide) (fun h7 => ?_) (fun h7 => ?_)
  · refine w_aload_n dX5_brush_41 rfl ?_
    refine w_bipush dX5_brush_42 (by decide) ?_
    refine w_cV1 kX5_bad ml_X5_73 ob_167 rfl (Nat.le_of_ble_eq_true rfl) (by decide) dX5_brush_44 (c_X5_bad) (kI (fun e44 m44 q44 => ?_))
    obtain ⟨rfl, rfl⟩ := q44
    exact w_iretP rfl dX5_brush_47 (by first | exact Or.inl (⟨by omega, rfl, rfl⟩) | exact Or.inr (Or.inl (⟨by omega, by omega, rfl, rfl⟩)) | (exfalso; omega))
  · refine w_iload_n dX5_brush_10 rfl ?_
    refine w_i2l (by omega) dX5_brush_11 ?_
    refine w_lconst 0 dX5_brush_12 (by decide) ?_
    refine w_ldc2 (4) cl_X5_150 dX5_brush_13 (by decide) ?_
    refine w_cS3 kX5_in ml_X5_58 (Nat.le_of_ble_eq_true rfl) (by decide) dX5_brush_16 (c_X5_in (by omega) (by omega) (by omega)) (kI (fun e16 m16 q16 => ?_))
    obtain ⟨q16, rfl⟩ := q16
    refine w_if_eq (tgt := 41) (by omega) dX5_brush_19 (by decide) (fun h19 => ?_) (fun h19 => ?_)
    · refine w_aload_n dX5_brush_41 rfl ?_
      refine w_bipush dX5_brush_42 (by decide) ?_
      refine w_cV1 kX5_bad ml_X5_73 ob_167 rfl (Nat.le_of_ble_eq_true rfl) (by decide) dX5_brush_44 (c_X5_bad) (kI (fun e44 m44 q44 => ?_))
      obtain ⟨rfl, rfl⟩ := q44
      exact w_iretP rfl dX5_brush_47 (by first | exact Or.inl (⟨by omega, rfl, rfl⟩) | exact Or.inr (Or.inl (⟨by omega, by omega, rfl, rfl⟩)) | (exfalso; omega))
    · refine w_aload_n dX5_brush_22 rfl ?_
      refine w_iload_n dX5_brush_23 rfl ?_
      refine w_cV1 kX5_isRoof ml_X5_93 ob_167 rfl (Nat.le_of_ble_eq_true rfl) (by decide) dX5_brush_24 (c_X5_isRoof (by omega) n1 n2) (kI (fun e24 m24 q24 => ?_))
      obtain ⟨q24, rfl⟩ := q24
      refine w_if_eq (tgt := 41) (by omega) dX5_brush_27 (by decide) (fun h27 => ?_) (fun h27 => ?_)
      · refine w_aload_n dX5_brush_41 rfl ?_
        refine w_bipush dX5_brush_42 (by decide) ?_
        refine w_cV1 kX5_bad ml_X5_73 ob_167 rfl (Nat.le_of_ble_eq_true rfl) (by decide) dX5_brush_44 (c_X5_bad) (kI (fun e44 m44 q44 => ?_))
        obtain ⟨rfl, rfl⟩ := q44
        exact w_iretP rfl dX5_brush_47 (by first | exact Or.inl (⟨by omega, rfl, rfl⟩) | exact Or.inr (Or.inl (⟨by omega, by omega, rfl, rfl⟩)) | (exfalso; omega))
      · refine w_iload dX5_brush_30 rfl ?_
        refine w_i2l (by omega) dX5_brush_32 ?_
        refine w_lconst 0 dX5_brush_33 (by decide) ?_
        refine w_lconst 1 dX5_brush_34 (by decide) ?_
        refine w_cS3 kX5_in ml_X5_58 (Nat.le_of_ble_eq_true rfl) (by decide) dX5_brush_35 (c_X5_in (by omega) (by omega) (by omega)) (kI (fun e35 m35 q35 => ?_))
        obtain ⟨q35, rfl⟩ := q35
        refine w_if_ne (tgt := 48) (by omega) dX5_brush_38 (by decide) (fun h38 => ?_) (fun h38 => ?_)
        · refine w_aload_n dX5_brush_48 rfl ?_
          refine w_cV0 kX5_storms ml_X5_62 ob_167 rfl (Nat.le_of_ble_eq_true rfl) (by decide) dX5_brush_49 (c_X5_storms) (kI (fun e49 m49 q49 => ?_))
          obtain ⟨rfl, rfl⟩ := q49
          rw [g1]
          refine w_if_ne (tgt := 62) (by omega) dX5_brush_52 (by decide) (fun h52 => ?_) (fun h52 => ?_)
          · refine w_aload_n dX5_brush_62 rfl ?_
            refine w_iload_n dX5_brush_63 rfl ?_
            refine w_iload_n dX5_brush_64 rfl ?_
            refine w_cV2 kX5_findPaint ml_X5_152 ob_167 rfl (Nat.le_of_ble_eq_true rfl) (by decide) dX5_brush_65 (c_X5_findPaint hNW (by omega) (by omega) h9) (kU (fun m65 q65 => ?_))
            obtain ⟨f65, k65, b65, z65⟩ := q65
            refine w_aload_n dX5_brush_68 rfl ?_
            refine gf_X5_36 rfl dX5_brush_69 ?_
            refine w_iconst dX5_brush_72 ?_
            refine w_iload_n dX5_brush_73 rfl ?_
            refine w_imul dX5_brush_74 ?_
            refine w_iload dX5_brush_75 rfl ?_
            refine w_iadd dX5_brush_77 ?_
            refine w_iald ar_175 (by omega) dX5_brush_78 ?_
            rw [z65 (2 * r + sl) (by omega) (by omega)]
            exact w_iretP rfl dX5_brush_79 (by exact Or.inr (Or.inr ⟨by omega, by omega, rfl, f65, k65⟩))
          · refine w_aload_n dX5_brush_55 rfl ?_
            refine w_bipush dX5_brush_56 (by decide) ?_
            refine w_cV1 kX5_no ml_X5_90 ob_167 rfl (Nat.le_of_ble_eq_true rfl) (by decide) dX5_brush_58 (c_X5_no) (kI (fun e58 m58 q58 => ?_))
            obtain ⟨rfl, rfl⟩ := q58
            exact w_iretP rfl dX5_brush_61 (by first | exact Or.inl (⟨by omega, rfl, rfl⟩) | exact Or.inr (Or.inl (⟨by omega, by omega, rfl, rfl⟩)) | (exfalso; omega))
        · refine w_aload_n dX5_brush_41 rfl ?_
          refine w_bipush dX5_brush_42 (by decide) ?_
          refine w_cV1 kX5_bad ml_X5_73 ob_167 rfl (Nat.le_of_ble_eq_true rfl) (by decide) dX5_brush_44 (c_X5_bad) (kI (fun e44 m44 q44 => ?_))
          obtain ⟨rfl, rfl⟩ := q44
          exact w_iretP rfl dX5_brush_47 (by first | exact Or.inl (⟨by omega, rfl, rfl⟩) | exact Or.inr (Or.inl (⟨by omega, by omega, rfl, rfl⟩)) | (exfalso; omega))
