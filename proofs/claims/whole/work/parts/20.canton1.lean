set_option maxRecDepth 100000 in
set_option maxHeartbeats 4000000 in
theorem c_X0_row {g : gG} {l : Launch} {μ : gM} {r : Int} {s : Int} {p : Int}   : CT g l YX0_row 0 [vI r, vI s, vI p] μ (pI fun e μ2 => e = 4 * r + 2 * s + p ∧ μ = μ2) := by
  refine CT.of (n := 0) (by decide) rfl ?_
  show WA g l YX0_row 0 _ 0 [some (vI r), some (vI s), some (vI p)] [] μ
  refine w_iconst dX0_row_0 ?_
  refine w_iload_n dX0_row_1 rfl ?_
  refine w_imul dX0_row_2 ?_
  refine w_iconst dX0_row_3 ?_
  refine w_iload_n dX0_row_4 rfl ?_
  refine w_imul dX0_row_5 ?_
  refine w_iadd dX0_row_6 ?_
  refine w_iload_n dX0_row_7 rfl ?_
  refine w_iadd dX0_row_8 ?_
  exact w_iretP rfl dX0_row_9 (by first | exact ⟨rfl, rfl⟩ | (refine ⟨?_, rfl⟩; omega) | (exfalso; omega))
set_option maxRecDepth 100000 in
set_option maxHeartbeats 4000000 in
theorem c_X0_forceOn {g : gG} {l : Launch} {μ : gM} {c : Nat} (hc : cn c) {s : Int} {r : Int} {sl : Int}  (hI : CI μ c) (hs : 0 ≤ s ∧ s < 6) (hr : 0 ≤ r ∧ r < 7) (hsl : 0 ≤ sl ∧ sl ≤ 1) : CT g l YX0_forceOn 0 [vR c, vI s, vI r, vI sl] μ (pI fun e μ2 => e = fF (vw μ c) s r sl ∧ μ = μ2 ∧ 0 ≤ fF (vw μ c) s r sl ∧ fF (vw μ c) s r sl ≤ 9) := by
  refine CT.of (n := 4) (by decide) rfl ?_
  show WA g l YX0_forceOn 0 _ 0 [some (vR c), some (vI s), some (vI r), some (vI sl), none, none, none, none] [] μ
  refine w_iload_n dX0_forceOn_0 rfl ?_
  refine w_aload_n dX0_forceOn_1 rfl ?_
  refine gf_X0_27 rfl (cnO hc) dX0_forceOn_2 ?_
  refine w_iload_n dX0_forceOn_5 rfl ?_
  refine w_ialdB (CI_first hI) (cA_first hc) (by omega) dX0_forceOn_6 (fun b6 => ?_)
  refine w_icmp_lt (tgt := 20) (by omega) (by omega) dX0_forceOn_7 (by decide) (fun h7 => ?_) (fun h7 => ?_)
  · refine w_iconst dX0_forceOn_20 ?_
    exact w_iretP rfl dX0_forceOn_21 (by refine ⟨?_, rfl, ?_, ?_⟩ <;> (simp only [fF, vw]; (repeat' split) <;> omega))
  · refine w_iload_n dX0_forceOn_10 rfl ?_
    refine w_aload_n dX0_forceOn_11 rfl ?_
    refine gf_X0_30 rfl (cnO hc) dX0_forceOn_12 ?_
    refine w_iload_n dX0_forceOn_15 rfl ?_
    refine w_ialdB (CI_last hI) (cA_last hc) (by omega) dX0_forceOn_16 (fun b16 => ?_)
    refine w_icmp_le (tgt := 22) (by omega) (by omega) dX0_forceOn_17 (by decide) (fun h17 => ?_) (fun h17 => ?_)
    · refine w_iload_n dX0_forceOn_22 rfl ?_
      refine w_aload_n dX0_forceOn_23 rfl ?_
      refine gf_X0_33 rfl (cnO hc) dX0_forceOn_24 ?_
      refine w_iload_n dX0_forceOn_27 rfl ?_
      refine w_ialdB (CI_wind hI) (cA_wind hc) (by omega) dX0_forceOn_28 (fun b28 => ?_)
      refine w_icmp_ne (tgt := 41) (by omega) (by omega) dX0_forceOn_29 (by decide) (fun h29 => ?_) (fun h29 => ?_)
      · refine w_aload_n dX0_forceOn_41 rfl ?_
        refine gf_X0_36 rfl (cnO hc) dX0_forceOn_42 ?_
        refine w_iload_n dX0_forceOn_45 rfl ?_
        refine w_ialdB (CI_size hI) (cA_size hc) (by omega) dX0_forceOn_46 (fun b46 => ?_)
        refine w_iconst dX0_forceOn_47 ?_
        refine w_idiv (by omega) (by omega) dX0_forceOn_48 ?_
        refine w_istore dX0_forceOn_49 (by decide) rfl ?_
        refine w_iload_n dX0_forceOn_51 rfl ?_
        refine w_if_le (tgt := 66) (by omega) dX0_forceOn_52 (by decide) (fun h52 => ?_) (fun h52 => ?_)
        · refine w_iconst dX0_forceOn_66 ?_
          refine w_istore dX0_forceOn_67 (by decide) rfl ?_
          refine w_iload_n dX0_forceOn_69 rfl ?_
          refine w_bipush dX0_forceOn_70 (by decide) ?_
          refine w_icmp_ge (tgt := 86) (by omega) (by omega) dX0_forceOn_72 (by decide) (fun h72 => ?_) (fun h72 => ?_)
          · refine w_iconst dX0_forceOn_86 ?_
            refine w_istore dX0_forceOn_87 (by decide) rfl ?_
            refine w_iload dX0_forceOn_89 rfl ?_
            refine w_iconst dX0_forceOn_91 ?_
            refine w_aload_n dX0_forceOn_92 rfl ?_
            refine gf_X0_42 rfl (cnO hc) dX0_forceOn_93 ?_
            refine w_iload_n dX0_forceOn_96 rfl ?_
            refine w_ialdB (CI_guns hI) (cA_guns hc) (by omega) dX0_forceOn_97 (fun b97 => ?_)
            refine w_imul dX0_forceOn_98 ?_
            refine w_isub dX0_forceOn_99 ?_
            refine w_iload dX0_forceOn_100 rfl ?_
            refine w_isub dX0_forceOn_102 ?_
            refine w_iload dX0_forceOn_103 rfl ?_
            refine w_isub dX0_forceOn_105 ?_
            refine w_istore dX0_forceOn_106 (by decide) rfl ?_
            refine w_iload dX0_forceOn_108 rfl ?_
            refine w_if_le (tgt := 118) (by omega) dX0_forceOn_110 (by decide) (fun h110 => ?_) (fun h110 => ?_)
            · refine w_iconst dX0_forceOn_118 ?_
              exact w_iretP rfl dX0_forceOn_119 (by refine ⟨?_, rfl, ?_, ?_⟩ <;> (simp only [fF, vw]; (repeat' split) <;> omega))
            · refine w_iload dX0_forceOn_113 rfl ?_
              refine w_goto (tgt := 119) dX0_forceOn_115 (by decide) ?_
              exact w_iretP rfl dX0_forceOn_119 (by refine ⟨?_, rfl, ?_, ?_⟩ <;> (simp only [fF, vw]; (repeat' split) <;> omega))
          · refine w_aload_n dX0_forceOn_75 rfl ?_
            refine gf_X0_42 rfl (cnO hc) dX0_forceOn_76 ?_
            refine w_iload_n dX0_forceOn_79 rfl ?_
            refine w_iconst dX0_forceOn_80 ?_
            refine w_iadd dX0_forceOn_81 ?_
            refine w_ialdB (CI_guns hI) (cA_guns hc) (by omega) dX0_forceOn_82 (fun b82 => ?_)
            refine w_goto (tgt := 87) dX0_forceOn_83 (by decide) ?_
            refine w_istore dX0_forceOn_87 (by decide) rfl ?_
            refine w_iload dX0_forceOn_89 rfl ?_
            refine w_iconst dX0_forceOn_91 ?_
            refine w_aload_n dX0_forceOn_92 rfl ?_
            refine gf_X0_42 rfl (cnO hc) dX0_forceOn_93 ?_
            refine w_iload_n dX0_forceOn_96 rfl ?_
            refine w_ialdB (CI_guns hI) (cA_guns hc) (by omega) dX0_forceOn_97 (fun b97 => ?_)
            refine w_imul dX0_forceOn_98 ?_
            refine w_isub dX0_forceOn_99 ?_
            refine w_iload dX0_forceOn_100 rfl ?_
            refine w_isub dX0_forceOn_102 ?_
            refine w_iload dX0_forceOn_103 rfl ?_
            refine w_isub dX0_forceOn_105 ?_
            refine w_istore dX0_forceOn_106 (by decide) rfl ?_
            refine w_iload dX0_forceOn_108 rfl ?_
            refine w_if_le (tgt := 118) (by omega) dX0_forceOn_110 (by decide) (fun h110 => ?_) (fun h110 => ?_)
            · refine w_iconst dX0_forceOn_118 ?_
              exact w_iretP rfl dX0_forceOn_119 (by refine ⟨?_, rfl, ?_, ?_⟩ <;> (simp only [fF, vw]; (repeat' split) <;> omega))
            · refine w_iload dX0_forceOn_113 rfl ?_
              refine w_goto (tgt := 119) dX0_forceOn_115 (by decide) ?_
              exact w_iretP rfl dX0_forceOn_119 (by refine ⟨?_, rfl, ?_, ?_⟩ <;> (simp only [fF, vw]; (repeat' split) <;> omega))
        · refine w_aload_n dX0_forceOn_55 rfl ?_
          refine gf_X0_42 rfl (cnO hc) dX0_forceOn_56 ?_
          refine w_iload_n dX0_forceOn_59 rfl ?_
          refine w_iconst dX0_forceOn_60 ?_
          refine w_isub dX0_forceOn_61 ?_
          refine w_ialdB (CI_guns hI) (cA_guns hc) (by omega) dX0_forceOn_62 (fun b62 => ?_)
          refine w_goto (tgt := 67) dX0_forceOn_63 (by decide) ?_
          refine w_istore dX0_forceOn_67 (by decide) rfl ?_
          refine w_iload_n dX0_forceOn_69 rfl ?_
          refine w_bipush dX0_forceOn_70 (by decide) ?_
          refine w_icmp_ge (tgt := 86) (by omega) (by omega) dX0_forceOn_72 (by decide) (fun h72 => ?_) (fun h72 => ?_)
          · refine w_iconst dX0_forceOn_86 ?_
            refine w_istore dX0_forceOn_87 (by decide) rfl ?_
            refine w_iload dX0_forceOn_89 rfl ?_
            refine w_iconst dX0_forceOn_91 ?_
            refine w_aload_n dX0_forceOn_92 rfl ?_
            refine gf_X0_42 rfl (cnO hc) dX0_forceOn_93 ?_
            refine w_iload_n dX0_forceOn_96 rfl ?_
            refine w_ialdB (CI_guns hI) (cA_guns hc) (by omega) dX0_forceOn_97 (fun b97 => ?_)
            refine w_imul dX0_forceOn_98 ?_
            refine w_isub dX0_forceOn_99 ?_
            refine w_iload dX0_forceOn_100 rfl ?_
            refine w_isub dX0_forceOn_102 ?_
            refine w_iload dX0_forceOn_103 rfl ?_
            refine w_isub dX0_forceOn_105 ?_
            refine w_istore dX0_forceOn_106 (by decide) rfl ?_
            refine w_iload dX0_forceOn_108 rfl ?_
            refine w_if_le (tgt := 118) (by omega) dX0_forceOn_110 (by decide) (fun h110 => ?_) (fun h110 => ?_)
            · refine w_iconst dX0_forceOn_118 ?_
              exact w_iretP rfl dX0_forceOn_119 (by refine ⟨?_, rfl, ?_, ?_⟩ <;> (simp only [fF, vw]; (repeat' split) <;> omega))
            · refine w_iload dX0_forceOn_113 rfl ?_
              refine w_goto (tgt := 119) dX0_forceOn_115 (by decide) ?_
              exact w_iretP rfl dX0_forceOn_119 (by refine ⟨?_, rfl, ?_, ?_⟩ <;> (simp only [fF, vw]; (repeat' split) <;> omega))
          · refine w_aload_n dX0_forceOn_75 rfl ?_
            refine gf_X0_42 rfl (cnO hc) dX0_forceOn_76 ?_
            refine w_iload_n dX0_forceOn_79 rfl ?_
            refine w_iconst dX0_forceOn_80 ?_
            refine w_iadd dX0_forceOn_81 ?_
            refine w_ialdB (CI_guns hI) (cA_guns hc) (by omega) dX0_forceOn_82 (fun b82 => ?_)
            refine w_goto (tgt := 87) dX0_forceOn_83 (by decide) ?_
            refine w_istore dX0_forceOn_87 (by decide) rfl ?_
            refine w_iload dX0_forceOn_89 rfl ?_
            refine w_iconst dX0_forceOn_91 ?_
            refine w_aload_n dX0_forceOn_92 rfl ?_
            refine gf_X0_42 rfl (cnO hc) dX0_forceOn_93 ?_
            refine w_iload_n dX0_forceOn_96 rfl ?_
            refine w_ialdB (CI_guns hI) (cA_guns hc) (by omega) dX0_forceOn_97 (fun b97 => ?_)
            refine w_imul dX0_forceOn_98 ?_
            refine w_isub dX0_forceOn_99 ?_
            refine w_iload dX0_forceOn_100 rfl ?_
            refine w_isub dX0_forceOn_102 ?_
            refine w_iload dX0_forceOn_103 rfl ?_
            refine w_isub dX0_forceOn_105 ?_
            refine w_istore dX0_forceOn_106 (by decide) rfl ?_
            refine w_iload dX0_forceOn_108 rfl ?_
            refine w_if_le (tgt := 118) (by omega) dX0_forceOn_110 (by decide) (fun h110 => ?_) (fun h110 => ?_)
            · refine w_iconst dX0_forceOn_118 ?_
              exact w_iretP rfl dX0_forceOn_119 (by refine ⟨?_, rfl, ?_, ?_⟩ <;> (simp only [fF, vw]; (repeat' split) <;> omega))
            · refine w_iload dX0_forceOn_113 rfl ?_
              refine w_goto (tgt := 119) dX0_forceOn_115 (by decide) ?_
              exact w_iretP rfl dX0_forceOn_119 (by refine ⟨?_, rfl, ?_, ?_⟩ <;> (simp only [fF, vw]; (repeat' split) <;> omega))
      · refine w_aload_n dX0_forceOn_32 rfl ?_
        refine gf_X0_36 rfl (cnO hc) dX0_forceOn_33 ?_
        refine w_iload_n dX0_forceOn_36 rfl ?_
        refine w_ialdB (CI_size hI) (cA_size hc) (by omega) dX0_forceOn_37 (fun b37 => ?_)
        refine w_goto (tgt := 49) dX0_forceOn_38 (by decide) ?_
        refine w_istore dX0_forceOn_49 (by decide) rfl ?_
        refine w_iload_n dX0_forceOn_51 rfl ?_
        refine w_if_le (tgt := 66) (by omega) dX0_forceOn_52 (by decide) (fun h52 => ?_) (fun h52 => ?_)
        · refine w_iconst dX0_forceOn_66 ?_
          refine w_istore dX0_forceOn_67 (by decide) rfl ?_
          refine w_iload_n dX0_forceOn_69 rfl ?_
          refine w_bipush dX0_forceOn_70 (by decide) ?_
          refine w_icmp_ge (tgt := 86) (by omega) (by omega) dX0_forceOn_72 (by decide) (fun h72 => ?_) (fun h72 => ?_)
          · refine w_iconst dX0_forceOn_86 ?_
            refine w_istore dX0_forceOn_87 (by decide) rfl ?_
            refine w_iload dX0_forceOn_89 rfl ?_
            refine w_iconst dX0_forceOn_91 ?_
            refine w_aload_n dX0_forceOn_92 rfl ?_
            refine gf_X0_42 rfl (cnO hc) dX0_forceOn_93 ?_
            refine w_iload_n dX0_forceOn_96 rfl ?_
            refine w_ialdB (CI_guns hI) (cA_guns hc) (by omega) dX0_forceOn_97 (fun b97 => ?_)
            refine w_imul dX0_forceOn_98 ?_
            refine w_isub dX0_forceOn_99 ?_
            refine w_iload dX0_forceOn_100 rfl ?_
            refine w_isub dX0_forceOn_102 ?_
            refine w_iload dX0_forceOn_103 rfl ?_
            refine w_isub dX0_forceOn_105 ?_
            refine w_istore dX0_forceOn_106 (by decide) rfl ?_
            refine w_iload dX0_forceOn_108 rfl ?_
            refine w_if_le (tgt := 118) (by omega) dX0_forceOn_110 (by decide) (fun h110 => ?_) (fun h110 => ?_)
            · refine w_iconst dX0_forceOn_118 ?_
              exact w_iretP rfl dX0_forceOn_119 (by refine ⟨?_, rfl, ?_, ?_⟩ <;> (simp only [fF, vw]; (repeat' split) <;> omega))
            · refine w_iload dX0_forceOn_113 rfl ?_
              refine w_goto (tgt := 119) dX0_forceOn_115 (by decide) ?_
              exact w_iretP rfl dX0_forceOn_119 (by refine ⟨?_, rfl, ?_, ?_⟩ <;> (simp only [fF, vw]; (repeat' split) <;> omega))
          · refine w_aload_n dX0_forceOn_75 rfl ?_
            refine gf_X0_42 rfl (cnO hc) dX0_forceOn_76 ?_
            refine w_iload_n dX0_forceOn_79 rfl ?_
            refine w_iconst dX0_forceOn_80 ?_
            refine w_iadd dX0_forceOn_81 ?_
            refine w_ialdB (CI_guns hI) (cA_guns hc) (by omega) dX0_forceOn_82 (fun b82 => ?_)
            refine w_goto (tgt := 87) dX0_forceOn_83 (by decide) ?_
            refine w_istore dX0_forceOn_87 (by decide) rfl ?_
            refine w_iload dX0_forceOn_89 rfl ?_
            refine w_iconst dX0_forceOn_91 ?_
            refine w_aload_n dX0_forceOn_92 rfl ?_
            refine gf_X0_42 rfl (cnO hc) dX0_forceOn_93 ?_
            refine w_iload_n dX0_forceOn_96 rfl ?_
            refine w_ialdB (CI_guns hI) (cA_guns hc) (by omega) dX0_forceOn_97 (fun b97 => ?_)
            refine w_imul dX0_forceOn_98 ?_
            refine w_isub dX0_forceOn_99 ?_
            refine w_iload dX0_forceOn_100 rfl ?_
            refine w_isub dX0_forceOn_102 ?_
            refine w_iload dX0_forceOn_103 rfl ?_
            refine w_isub dX0_forceOn_105 ?_
            refine w_istore dX0_forceOn_106 (by decide) rfl ?_
            refine w_iload dX0_forceOn_108 rfl ?_
            refine w_if_le (tgt := 118) (by omega) dX0_forceOn_110 (by decide) (fun h110 => ?_) (fun h110 => ?_)
            · refine w_iconst dX0_forceOn_118 ?_
              exact w_iretP rfl dX0_forceOn_119 (by refine ⟨?_, rfl, ?_, ?_⟩ <;> (simp only [fF, vw]; (repeat' split) <;> omega))
            · refine w_iload dX0_forceOn_113 rfl ?_
              refine w_goto (tgt := 119) dX0_forceOn_115 (by decide) ?_
              exact w_iretP rfl dX0_forceOn_119 (by refine ⟨?_, rfl, ?_, ?_⟩ <;> (simp only [fF, vw]; (repeat' split) <;> omega))
        · refine w_aload_n dX0_forceOn_55 rfl ?_
          refine gf_X0_42 rfl (cnO hc) dX0_forceOn_56 ?_
          refine w_iload_n dX0_forceOn_59 rfl ?_
          refine w_iconst dX0_forceOn_60 ?_
          refine w_isub dX0_forceOn_61 ?_
          refine w_ialdB (CI_guns hI) (cA_guns hc) (by omega) dX0_forceOn_62 (fun b62 => ?_)
          refine w_goto (tgt := 67) dX0_forceOn_63 (by decide) ?_
          refine w_istore dX0_forceOn_67 (by decide) rfl ?_
          refine w_iload_n dX0_forceOn_69 rfl ?_
          refine w_bipush dX0_forceOn_70 (by decide) ?_
          refine w_icmp_ge (tgt := 86) (by omega) (by omega) dX0_forceOn_72 (by decide) (fun h72 => ?_) (fun h72 => ?_)
          · refine w_iconst dX0_forceOn_86 ?_
            refine w_istore dX0_forceOn_87 (by decide) rfl ?_
            refine w_iload dX0_forceOn_89 rfl ?_
            refine w_iconst dX0_forceOn_91 ?_
            refine w_aload_n dX0_forceOn_92 rfl ?_
            refine gf_X0_42 rfl (cnO hc) dX0_forceOn_93 ?_
            refine w_iload_n dX0_forceOn_96 rfl ?_
            refine w_ialdB (CI_guns hI) (cA_guns hc) (by omega) dX0_forceOn_97 (fun b97 => ?_)
            refine w_imul dX0_forceOn_98 ?_
            refine w_isub dX0_forceOn_99 ?_
            refine w_iload dX0_forceOn_100 rfl ?_
            refine w_isub dX0_forceOn_102 ?_
            refine w_iload dX0_forceOn_103 rfl ?_
            refine w_isub dX0_forceOn_105 ?_
            refine w_istore dX0_forceOn_106 (by decide) rfl ?_
            refine w_iload dX0_forceOn_108 rfl ?_
            refine w_if_le (tgt := 118) (by omega) dX0_forceOn_110 (by decide) (fun h110 => ?_) (fun h110 => ?_)
            · refine w_iconst dX0_forceOn_118 ?_
              exact w_iretP rfl dX0_forceOn_119 (by refine ⟨?_, rfl, ?_, ?_⟩ <;> (simp only [fF, vw]; (repeat' split) <;> omega))
            · refine w_iload dX0_forceOn_113 rfl ?_
              refine w_goto (tgt := 119) dX0_forceOn_115 (by decide) ?_
              exact w_iretP rfl dX0_forceOn_119 (by refine ⟨?_, rfl, ?_, ?_⟩ <;> (simp only [fF, vw]; (repeat' split) <;> omega))
          · refine w_aload_n dX0_forceOn_75 rfl ?_
            refine gf_X0_42 rfl (cnO hc) dX0_forceOn_76 ?_
            refine w_iload_n dX0_forceOn_79 rfl ?_
            refine w_iconst dX0_forceOn_80 ?_
            refine w_iadd dX0_forceOn_81 ?_
            refine w_ialdB (CI_guns hI) (cA_guns hc) (by omega) dX0_forceOn_82 (fun b82 => ?_)
            refine w_goto (tgt := 87) dX0_forceOn_83 (by decide) ?_
            refine w_istore dX0_forceOn_87 (by decide) rfl ?_
            refine w_iload dX0_forceOn_89 rfl ?_
            refine w_iconst dX0_forceOn_91 ?_
            refine w_aload_n dX0_forceOn_92 rfl ?_
            refine gf_X0_42 rfl (cnO hc) dX0_forceOn_93 ?_
            refine w_iload_n dX0_forceOn_96 rfl ?_
            refine w_ialdB (CI_guns hI) (cA_guns hc) (by omega) dX0_forceOn_97 (fun b97 => ?_)
            refine w_imul dX0_forceOn_98 ?_
            refine w_isub dX0_forceOn_99 ?_
            refine w_iload dX0_forceOn_100 rfl ?_
            refine w_isub dX0_forceOn_102 ?_
            refine w_iload dX0_forceOn_103 rfl ?_
            refine w_isub dX0_forceOn_105 ?_
            refine w_istore dX0_forceOn_106 (by decide) rfl ?_
            refine w_iload dX0_forceOn_108 rfl ?_
            refine w_if_le (tgt := 118) (by omega) dX0_forceOn_110 (by decide) (fun h110 => ?_) (fun h110 => ?_)
            · refine w_iconst dX0_forceOn_118 ?_
              exact w_iretP rfl dX0_forceOn_119 (by refine ⟨?_, rfl, ?_, ?_⟩ <;> (simp only [fF, vw]; (repeat' split) <;> omega))
            · refine w_iload dX0_forceOn_113 rfl ?_
              refine w_goto (tgt := 119) dX0_forceOn_115 (by decide) ?_
              exact w_iretP rfl dX0_forceOn_119 (by refine ⟨?_, rfl, ?_, ?_⟩ <;> (simp only [fF, vw]; (repeat' split) <;> omega))
    · refine w_iconst dX0_forceOn_20 ?_
      exact w_iretP rfl dX0_forceOn_21 (by refine ⟨?_, rfl, ?_, ?_⟩ <;> (simp only [fF, vw]; (repeat' split) <;> omega))
set_option maxRecDepth 100000 in
set_option maxHeartbeats 4000000 in
theorem c_X0_toll {g : gG} {l : Launch} {μ : gM} {c : Nat} (hc : cn c) {s : Int} {r : Int} {sl : Int}  (hI : CI μ c) (hs : 0 ≤ s ∧ s < 6) (hr : 0 ≤ r ∧ r < 7) (hsl : 0 ≤ sl ∧ sl ≤ 1) : CT g l YX0_toll 1 [vR c, vI s, vI r, vI sl] μ (pI fun e μ2 => e = fT (vw μ c) s r sl ∧ μ = μ2 ∧ 0 ≤ fT (vw μ c) s r sl ∧ fT (vw μ c) s r sl ≤ 18) := by
  refine CT.of (n := 1) (by decide) rfl ?_
  show WA g l YX0_toll 1 _ 0 [some (vR c), some (vI s), some (vI r), some (vI sl), none] [] μ
  refine w_aload_n dX0_toll_0 rfl ?_
  refine w_iload_n dX0_toll_1 rfl ?_
  refine w_iload_n dX0_toll_2 rfl ?_
  refine w_iload_n dX0_toll_3 rfl ?_
  refine w_cV3 kX0_forceOn ml_X0_65 (cnO hc) rfl (Nat.le_of_ble_eq_true rfl) (by decide) dX0_toll_4 (c_X0_forceOn hc hI (by omega) (by omega) (by omega)) (kI (fun e4 m4 q4 => ?_))
  obtain ⟨rfl, rfl, b4⟩ := q4
  refine w_istore dX0_toll_7 (by decide) rfl ?_
  refine w_iload dX0_toll_9 rfl ?_
  refine w_if_ne (tgt := 16) (by omega) dX0_toll_11 (by decide) (fun h11 => ?_) (fun h11 => ?_)
  · refine w_aload_n dX0_toll_16 rfl ?_
    refine gf_X0_9 rfl (cnO hc) dX0_toll_17 ?_
    refine w_iload_n dX0_toll_20 rfl ?_
    refine w_ialdB (CI_kind hI) (cA_kind hc) (by omega) dX0_toll_21 (fun b21 => ?_)
    refine w_tcase (1) (tgt := 56) (by omega) dX0_toll_22 (by decide) (by decide) rfl (by decide) (fun k22 => ?_) (fun n22_1 => ?_)
    · refine w_iload dX0_toll_56 rfl ?_
      refine w_aload_n dX0_toll_58 rfl ?_
      refine gf_X0_15 rfl (cnO hc) dX0_toll_59 ?_
      refine w_iload_n dX0_toll_62 rfl ?_
      refine w_ialdB (CI_age hI) (cA_age hc) (by omega) dX0_toll_63 (fun b63 => ?_)
      refine w_iadd dX0_toll_64 ?_
      exact w_iretP rfl dX0_toll_65 (by refine ⟨?_, rfl, ?_, ?_⟩ <;> (simp only [fT]; simp only [vw] at *; (repeat' split) <;> omega))
    refine w_tcase (2) (tgt := 66) (by omega) dX0_toll_22 (by decide) (by decide) rfl (by decide) (fun k22 => ?_) (fun n22_2 => ?_)
    · refine w_iload dX0_toll_66 rfl ?_
      refine w_iconst dX0_toll_68 ?_
      refine w_idiv (by omega) (by omega) dX0_toll_69 ?_
      exact w_iretP rfl dX0_toll_70 (by refine ⟨?_, rfl, ?_, ?_⟩ <;> (simp only [fT]; simp only [vw] at *; (repeat' split) <;> omega))
    refine w_tcase (3) (tgt := 71) (by omega) dX0_toll_22 (by decide) (by decide) rfl (by decide) (fun k22 => ?_) (fun n22_3 => ?_)
    · refine w_iconst dX0_toll_71 ?_
      refine w_iload dX0_toll_72 rfl ?_
      refine w_iconst dX0_toll_74 ?_
      refine w_idiv (by omega) (by omega) dX0_toll_75 ?_
      refine w_iconst dX0_toll_76 ?_
      refine w_isub dX0_toll_77 ?_
      refine w_max (by omega) (by omega) (by decide) (Nat.le_of_ble_eq_true rfl) ml_X0_68 mt_max_s mt_i mt_max_c dX0_toll_78 ?_
      exact w_iretP rfl dX0_toll_81 (by refine ⟨?_, rfl, ?_, ?_⟩ <;> (simp only [fT]; simp only [vw] at *; (repeat' split) <;> omega))
    refine w_tcase (4) (tgt := 82) (by omega) dX0_toll_22 (by decide) (by decide) rfl (by decide) (fun k22 => ?_) (fun n22_4 => ?_)
    · refine w_iconst dX0_toll_82 ?_
      refine w_iload dX0_toll_83 rfl ?_
      refine w_aload_n dX0_toll_85 rfl ?_
      refine gf_X0_15 rfl (cnO hc) dX0_toll_86 ?_
      refine w_iload_n dX0_toll_89 rfl ?_
      refine w_ialdB (CI_age hI) (cA_age hc) (by omega) dX0_toll_90 (fun b90 => ?_)
      refine w_iadd dX0_toll_91 ?_
      refine w_iconst dX0_toll_92 ?_
      refine w_isub dX0_toll_93 ?_
      refine w_max (by omega) (by omega) (by decide) (Nat.le_of_ble_eq_true rfl) ml_X0_68 mt_max_s mt_i mt_max_c dX0_toll_94 ?_
      exact w_iretP rfl dX0_toll_97 (by refine ⟨?_, rfl, ?_, ?_⟩ <;> (simp only [fT]; simp only [vw] at *; (repeat' split) <;> omega))
    refine w_tcase (5) (tgt := 98) (by omega) dX0_toll_22 (by decide) (by decide) rfl (by decide) (fun k22 => ?_) (fun n22_5 => ?_)
    · refine w_iconst dX0_toll_98 ?_
      exact w_iretP rfl dX0_toll_99 (by refine ⟨?_, rfl, ?_, ?_⟩ <;> (simp only [fT]; simp only [vw] at *; (repeat' split) <;> omega))
    refine w_tableOut (tgt := 100) (by omega) dX0_toll_22 (by omega) (by decide) ?_
    refine w_iload dX0_toll_100 rfl ?_
    exact w_iretP rfl dX0_toll_102 (by refine ⟨?_, rfl, ?_, ?_⟩ <;> (simp only [fT]; simp only [vw] at *; (repeat' split) <;> omega))
  · refine w_iconst dX0_toll_14 ?_
    exact w_iretP rfl dX0_toll_15 (by refine ⟨?_, rfl, ?_, ?_⟩ <;> (simp only [fT]; simp only [vw] at *; (repeat' split) <;> omega))
