/-! the 29 calls, class and model side by side -/
theorem zBB {μ : gM} (R : Rel μ μ) : Rel (rb (bad μ)) (rb (bad μ)) := ((R.mf (MF_bad _)).rbad).fin (CF_rb _)
theorem zNN {μ : gM} (R : Rel μ μ) : Rel (rn (nop μ)) (rn (nop μ)) := ((R.mf (MF_nop _)).rno).fin (CF_rn _)
theorem zFF {μ : gM} (R : Rel μ μ) : Rel (rf (ful μ)) (rf (ful μ)) := ((R.mf (MF_ful _)).rful).fin (CF_rf _)
theorem zBt {μ : gM} (R : Rel μ μ) : Rel (rb (tkN (bad μ))) (rb (tkN (bad μ))) := (((R.mf (MF_bad _)).cg (csm.refl R.ai) (msm_tkN _)).rbad).fin ((CF_tkN _).trans (CF_rb _))
theorem zNt {μ : gM} (R : Rel μ μ) : Rel (rn (tkN (nop μ))) (rn (tkN (nop μ))) := (((R.mf (MF_nop _)).cg (csm.refl R.ai) (msm_tkN _)).rno).fin ((CF_tkN _).trans (CF_rn _))
theorem zJ {μ μ1 μ2 : gM} (R : Rel μ μ) (hs : csm μ μ1) (hm : MF μ μ1) (h2 : msm μ1 μ2) (hc : CF μ1 μ2) : Rel μ2 μ2 := ((R.mf hm).cg hs h2).fin hc
theorem zI {μ μ2 : gM} (R : Rel μ μ) (h2 : msm μ μ2) (hc : CF μ μ2) : Rel μ2 μ2 := zJ R (csm.refl R.ai) (MF_refl μ) h2 hc
theorem zT {μ : gM} (R : Rel μ μ) : Rel (tkN μ) (tkN μ) := zI R (msm_tkN _) (CF_tkN _)
theorem zQ {μ mt m1 : gM} {x y : Int} (R : Rel μ μ) (hs : csm μ mt) (hf : MF μ mt) (hm : msm (frc mt x y) m1) (hc : CF (frc mt x y) m1) : Rel (frm m1 x y) (frm m1 x y) := ((((R.mf hf).cg hs (msm.refl _)).cg (csm.refl (((R.mf hf).cg hs (msm.refl _)).ai)) ((MF_frc mt x y).ms.trans hm)).frac x y).fin (hc.trans (CF_frm _ _ _))
theorem msm_fp {μ μ2 : gM} (h1 : ∀ a, a ≠ 167 → a ≠ 172 → a ≠ 173 → a ≠ 174 → a ≠ 175 → μ2 a = μ a) (h2 : ∀ j, j ≠ 10 → μ2 167 j = μ 167 j) : msm μ μ2 ∧ CF μ μ2 := ⟨⟨⟨h1 _ (by omega) (by omega) (by omega) (by omega) (by omega), h1 _ (by omega) (by omega) (by omega) (by omega) (by omega), h1 _ (by omega) (by omega) (by omega) (by omega) (by omega), h1 _ (by omega) (by omega) (by omega) (by omega) (by omega), h1 _ (by omega) (by omega) (by omega) (by omega) (by omega)⟩, h2 _ (by omega), h2 _ (by omega), h2 _ (by omega)⟩, fun x hx => h1 x (by omega) (by omega) (by omega) (by omega) (by omega)⟩
theorem msm_fd {μ μ2 : gM} (h1 : ∀ a, a ≠ 172 → a ≠ 173 → a ≠ 175 → a ≠ 176 → μ2 a = μ a) : msm μ μ2 ∧ CF μ μ2 := by
  have e := h1 167 (by omega) (by omega) (by omega) (by omega)
  exact ⟨⟨⟨h1 _ (by omega) (by omega) (by omega) (by omega), h1 _ (by omega) (by omega) (by omega) (by omega), h1 _ (by omega) (by omega) (by omega) (by omega), h1 _ (by omega) (by omega) (by omega) (by omega), h1 _ (by omega) (by omega) (by omega) (by omega)⟩, by rw [e], by rw [e], by rw [e]⟩, fun x hx => h1 x (by omega) (by omega) (by omega) (by omega)⟩
theorem least_one {p : Int → Prop} {N e1 e2 : Int} (h1 : (0 ≤ e1 ∧ e1 < N ∧ p e1 ∧ ∀ j, 0 ≤ j → j < e1 → ¬ p j) ∨ (e1 = -1 ∧ ∀ j, 0 ≤ j → j < N → ¬ p j)) (h2 : (0 ≤ e2 ∧ e2 < N ∧ p e2 ∧ ∀ j, 0 ≤ j → j < e2 → ¬ p j) ∨ (e2 = -1 ∧ ∀ j, 0 ≤ j → j < N → ¬ p j)) : e1 = e2 := by
  rcases h1 with ⟨a1, a2, a3, a4⟩ | ⟨a1, a2⟩ <;> rcases h2 with ⟨b1, b2, b3, b4⟩ | ⟨b1, b2⟩
  · rcases Int.lt_trichotomy e1 e2 with q | q | q
    · exact absurd a3 (b4 e1 a1 q)
    · exact q
    · exact absurd b3 (a4 e2 b1 q)
  · exact absurd a3 (b2 e1 a1 a2)
  · exact absurd b3 (a2 e2 b1 b2)
  · omega
theorem M_roof {μ μ1 : gM} {e1 x1 x2 x3 x4 x5 x6 : Int} (R : Rel μ μ) (h1 : (¬ (0 ≤ x1 ∧ x1 ≤ 5 ∧ 0 ≤ x2 ∧ x2 ≤ 9 ∧ 0 ≤ x3 ∧ x3 ≤ 9 ∧ 0 ≤ x4 ∧ x4 ≤ 9 ∧ 0 ≤ x5 ∧ x5 ≤ 9 ∧ 0 ≤ x6 ∧ x6 ≤ 9) ∧ e1 = -2 ∧ μ1 = bad μ) ∨ ((0 ≤ x1 ∧ x1 ≤ 5 ∧ 0 ≤ x2 ∧ x2 ≤ 9 ∧ 0 ≤ x3 ∧ x3 ≤ 9 ∧ 0 ≤ x4 ∧ x4 ≤ 9 ∧ 0 ≤ x5 ∧ x5 ≤ 9 ∧ 0 ≤ x6 ∧ x6 ≤ 9) ∧ μ 3 0 = 7 ∧ e1 = -4 ∧ μ1 = ful μ) ∨ ((0 ≤ x1 ∧ x1 ≤ 5 ∧ 0 ≤ x2 ∧ x2 ≤ 9 ∧ 0 ≤ x3 ∧ x3 ≤ 9 ∧ 0 ≤ x4 ∧ x4 ≤ 9 ∧ 0 ≤ x5 ∧ x5 ≤ 9 ∧ 0 ≤ x6 ∧ x6 ≤ 9) ∧ μ 3 0 < 7 ∧ e1 = μ 3 0 ∧ μ1 = mAR μ 3 (μ 3 0) x1 x2 x3 x4 x5 x6)) : MF μ μ1 := by
  rcases h1 with ⟨p, rfl, rfl⟩ | ⟨p, q, rfl, rfl⟩ | ⟨p, q, rfl, rfl⟩
  · exact MF_bad _
  · exact MF_ful _
  · exact fun x hx => mARo (by omega)
theorem L_roof {μ μ1 μ2 : gM} {e1 e2 x1 x2 x3 x4 x5 x6 : Int} (R : Rel μ μ) (h1 : (¬ (0 ≤ x1 ∧ x1 ≤ 5 ∧ 0 ≤ x2 ∧ x2 ≤ 9 ∧ 0 ≤ x3 ∧ x3 ≤ 9 ∧ 0 ≤ x4 ∧ x4 ≤ 9 ∧ 0 ≤ x5 ∧ x5 ≤ 9 ∧ 0 ≤ x6 ∧ x6 ≤ 9) ∧ e1 = -2 ∧ μ1 = bad μ) ∨ ((0 ≤ x1 ∧ x1 ≤ 5 ∧ 0 ≤ x2 ∧ x2 ≤ 9 ∧ 0 ≤ x3 ∧ x3 ≤ 9 ∧ 0 ≤ x4 ∧ x4 ≤ 9 ∧ 0 ≤ x5 ∧ x5 ≤ 9 ∧ 0 ≤ x6 ∧ x6 ≤ 9) ∧ μ 3 0 = 7 ∧ e1 = -4 ∧ μ1 = ful μ) ∨ ((0 ≤ x1 ∧ x1 ≤ 5 ∧ 0 ≤ x2 ∧ x2 ≤ 9 ∧ 0 ≤ x3 ∧ x3 ≤ 9 ∧ 0 ≤ x4 ∧ x4 ≤ 9 ∧ 0 ≤ x5 ∧ x5 ≤ 9 ∧ 0 ≤ x6 ∧ x6 ≤ 9) ∧ μ 3 0 < 7 ∧ e1 = μ 3 0 ∧ μ1 = mAR μ 3 (μ 3 0) x1 x2 x3 x4 x5 x6)) (h2 : (¬ (0 ≤ x1 ∧ x1 ≤ 5 ∧ 0 ≤ x2 ∧ x2 ≤ 9 ∧ 0 ≤ x3 ∧ x3 ≤ 9 ∧ 0 ≤ x4 ∧ x4 ≤ 9 ∧ 0 ≤ x5 ∧ x5 ≤ 9 ∧ 0 ≤ x6 ∧ x6 ≤ 9) ∧ e2 = -2 ∧ μ2 = rb μ1) ∨ ((0 ≤ x1 ∧ x1 ≤ 5 ∧ 0 ≤ x2 ∧ x2 ≤ 9 ∧ 0 ≤ x3 ∧ x3 ≤ 9 ∧ 0 ≤ x4 ∧ x4 ≤ 9 ∧ 0 ≤ x5 ∧ x5 ≤ 9 ∧ 0 ≤ x6 ∧ x6 ≤ 9) ∧ (μ 3 0) = 7 ∧ e2 = -4 ∧ μ2 = rf μ1) ∨ ((0 ≤ x1 ∧ x1 ≤ 5 ∧ 0 ≤ x2 ∧ x2 ≤ 9 ∧ 0 ≤ x3 ∧ x3 ≤ 9 ∧ 0 ≤ x4 ∧ x4 ≤ 9 ∧ 0 ≤ x5 ∧ x5 ≤ 9 ∧ 0 ≤ x6 ∧ x6 ≤ 9) ∧ (μ 3 0) < 7 ∧ e2 = (μ 3 0) ∧ μ2 = rw_ μ1 168 (kAR (μ1 168) (μ 3 0) x1 x2 x3 x4 x5 x6))) : e1 = e2 ∧ Rel μ2 μ2 := by
  rcases h1 with ⟨p, rfl, rfl⟩ | ⟨p, q, rfl, rfl⟩ | ⟨p, q, rfl, rfl⟩ <;> rcases h2 with ⟨p2, rfl, rfl⟩ | ⟨p2, q2, rfl, rfl⟩ | ⟨p2, q2, rfl, rfl⟩
  · exact ⟨rfl, zBB R⟩
  · first | exact absurd p p2 | exact absurd p2 p | omega
  · first | exact absurd p p2 | exact absurd p2 p | omega
  · first | exact absurd p p2 | exact absurd p2 p | omega
  · exact ⟨rfl, zFF R⟩
  · first | exact absurd p p2 | exact absurd p2 p | omega
  · first | exact absurd p p2 | exact absurd p2 p | omega
  · first | exact absurd p p2 | exact absurd p2 p | omega
  · exact ⟨rfl, (((R.mf (fun x hx => mARo (by omega))).roof (by omega) (by omega) (by omega) (by omega) (by omega) (by omega) (by omega))).fin (CF_rw (by omega))⟩
theorem M_storm {μ μ1 : gM} {e1 x1 x2 x3 x4 x5 : Int} (R : Rel μ μ) (h1 : (¬ (0 ≤ x1 ∧ x1 ≤ 6 ∧ x1 ≤ x2 ∧ x2 ≤ 6 ∧ 0 ≤ x3 ∧ x3 ≤ 1 ∧ 1 ≤ x4 ∧ x4 ≤ 9 ∧ 1 ≤ x5 ∧ x5 ≤ 9) ∧ e1 = -2 ∧ μ1 = bad μ) ∨ ((0 ≤ x1 ∧ x1 ≤ 6 ∧ x1 ≤ x2 ∧ x2 ≤ 6 ∧ 0 ≤ x3 ∧ x3 ≤ 1 ∧ 1 ≤ x4 ∧ x4 ≤ 9 ∧ 1 ≤ x5 ∧ x5 ≤ 9) ∧ μ 3 1 = 6 ∧ e1 = -4 ∧ μ1 = ful μ) ∨ ((0 ≤ x1 ∧ x1 ≤ 6 ∧ x1 ≤ x2 ∧ x2 ≤ 6 ∧ 0 ≤ x3 ∧ x3 ≤ 1 ∧ 1 ≤ x4 ∧ x4 ≤ 9 ∧ 1 ≤ x5 ∧ x5 ≤ 9) ∧ μ 3 1 < 6 ∧ e1 = μ 3 1 ∧ μ1 = mAS μ 3 (μ 3 1) x1 x2 x3 x4 x5)) : MF μ μ1 := by
  rcases h1 with ⟨p, rfl, rfl⟩ | ⟨p, q, rfl, rfl⟩ | ⟨p, q, rfl, rfl⟩
  · exact MF_bad _
  · exact MF_ful _
  · exact fun x hx => mASo (by omega)
theorem L_storm {μ μ1 μ2 : gM} {e1 e2 x1 x2 x3 x4 x5 : Int} (R : Rel μ μ) (h1 : (¬ (0 ≤ x1 ∧ x1 ≤ 6 ∧ x1 ≤ x2 ∧ x2 ≤ 6 ∧ 0 ≤ x3 ∧ x3 ≤ 1 ∧ 1 ≤ x4 ∧ x4 ≤ 9 ∧ 1 ≤ x5 ∧ x5 ≤ 9) ∧ e1 = -2 ∧ μ1 = bad μ) ∨ ((0 ≤ x1 ∧ x1 ≤ 6 ∧ x1 ≤ x2 ∧ x2 ≤ 6 ∧ 0 ≤ x3 ∧ x3 ≤ 1 ∧ 1 ≤ x4 ∧ x4 ≤ 9 ∧ 1 ≤ x5 ∧ x5 ≤ 9) ∧ μ 3 1 = 6 ∧ e1 = -4 ∧ μ1 = ful μ) ∨ ((0 ≤ x1 ∧ x1 ≤ 6 ∧ x1 ≤ x2 ∧ x2 ≤ 6 ∧ 0 ≤ x3 ∧ x3 ≤ 1 ∧ 1 ≤ x4 ∧ x4 ≤ 9 ∧ 1 ≤ x5 ∧ x5 ≤ 9) ∧ μ 3 1 < 6 ∧ e1 = μ 3 1 ∧ μ1 = mAS μ 3 (μ 3 1) x1 x2 x3 x4 x5)) (h2 : (¬ (0 ≤ x1 ∧ x1 ≤ 6 ∧ x1 ≤ x2 ∧ x2 ≤ 6 ∧ 0 ≤ x3 ∧ x3 ≤ 1 ∧ 1 ≤ x4 ∧ x4 ≤ 9 ∧ 1 ≤ x5 ∧ x5 ≤ 9) ∧ e2 = -2 ∧ μ2 = rb μ1) ∨ ((0 ≤ x1 ∧ x1 ≤ 6 ∧ x1 ≤ x2 ∧ x2 ≤ 6 ∧ 0 ≤ x3 ∧ x3 ≤ 1 ∧ 1 ≤ x4 ∧ x4 ≤ 9 ∧ 1 ≤ x5 ∧ x5 ≤ 9) ∧ (μ 3 1) = 6 ∧ e2 = -4 ∧ μ2 = rf μ1) ∨ ((0 ≤ x1 ∧ x1 ≤ 6 ∧ x1 ≤ x2 ∧ x2 ≤ 6 ∧ 0 ≤ x3 ∧ x3 ≤ 1 ∧ 1 ≤ x4 ∧ x4 ≤ 9 ∧ 1 ≤ x5 ∧ x5 ≤ 9) ∧ (μ 3 1) < 6 ∧ e2 = (μ 3 1) ∧ μ2 = rw_ μ1 168 (kAS (μ1 168) (μ 3 1) x1 x2 x3 x4 x5))) : e1 = e2 ∧ Rel μ2 μ2 := by
  rcases h1 with ⟨p, rfl, rfl⟩ | ⟨p, q, rfl, rfl⟩ | ⟨p, q, rfl, rfl⟩ <;> rcases h2 with ⟨p2, rfl, rfl⟩ | ⟨p2, q2, rfl, rfl⟩ | ⟨p2, q2, rfl, rfl⟩
  · exact ⟨rfl, zBB R⟩
  · first | exact absurd p p2 | exact absurd p2 p | omega
  · first | exact absurd p p2 | exact absurd p2 p | omega
  · first | exact absurd p p2 | exact absurd p2 p | omega
  · exact ⟨rfl, zFF R⟩
  · first | exact absurd p p2 | exact absurd p2 p | omega
  · first | exact absurd p p2 | exact absurd p2 p | omega
  · first | exact absurd p p2 | exact absurd p2 p | omega
  · exact ⟨rfl, (((R.mf (fun x hx => mASo (by omega))).storm (by omega) (by omega) (by omega) (by omega) (by omega) (by omega))).fin (CF_rw (by omega))⟩
theorem M_cannon {μ μ1 : gM} {e1 x1 x2 : Int} (R : Rel μ μ) (h1 : (¬ (0 ≤ x1 ∧ x1 ≤ 6) ∧ e1 = -2 ∧ μ1 = bad μ) ∨ ((0 ≤ x1 ∧ x1 ≤ 6) ∧ μ (3 + 11) x1 = x2 ∧ e1 = -3 ∧ μ1 = nop μ) ∨ ((0 ≤ x1 ∧ x1 ≤ 6) ∧ μ (3 + 11) x1 ≠ x2 ∧ e1 = 1 ∧ μ1 = wr μ (3 + 11) x1 x2)) : MF μ μ1 := by
  rcases h1 with ⟨p, rfl, rfl⟩ | ⟨p, q, rfl, rfl⟩ | ⟨p, q, rfl, rfl⟩
  · exact MF_bad _
  · exact MF_nop _
  · exact MF_wr (by omega)
theorem L_cannon {μ μ1 μ2 : gM} {e1 e2 x1 x2 : Int} (R : Rel μ μ) (hb : x2 = 0 ∨ x2 = 1) (h1 : (¬ (0 ≤ x1 ∧ x1 ≤ 6) ∧ e1 = -2 ∧ μ1 = bad μ) ∨ ((0 ≤ x1 ∧ x1 ≤ 6) ∧ μ (3 + 11) x1 = x2 ∧ e1 = -3 ∧ μ1 = nop μ) ∨ ((0 ≤ x1 ∧ x1 ≤ 6) ∧ μ (3 + 11) x1 ≠ x2 ∧ e1 = 1 ∧ μ1 = wr μ (3 + 11) x1 x2)) (h2 : (¬ (0 ≤ x1 ∧ x1 ≤ 6) ∧ e2 = -2 ∧ μ2 = rb μ1) ∨ ((0 ≤ x1 ∧ x1 ≤ 6) ∧ (vw μ 3) 11 x1 = x2 ∧ e2 = -3 ∧ μ2 = rn μ1) ∨ ((0 ≤ x1 ∧ x1 ≤ 6) ∧ (vw μ 3) 11 x1 ≠ x2 ∧ e2 = 1 ∧ μ2 = wr μ1 168 (86 + x1) x2)) : e1 = e2 ∧ Rel μ2 μ2 := by
  rcases h1 with ⟨p, rfl, rfl⟩ | ⟨p, q, rfl, rfl⟩ | ⟨p, q, rfl, rfl⟩ <;> rcases h2 with ⟨p2, rfl, rfl⟩ | ⟨p2, q2, rfl, rfl⟩ | ⟨p2, q2, rfl, rfl⟩
  · exact ⟨rfl, zBB R⟩
  · first | exact absurd p p2 | exact absurd p2 p | omega
  · first | exact absurd p p2 | exact absurd p2 p | omega
  · first | exact absurd p p2 | exact absurd p2 p | omega
  · exact ⟨rfl, zNN R⟩
  · exact absurd q q2
  · first | exact absurd p p2 | exact absurd p2 p | omega
  · exact absurd q2 q
  · exact ⟨rfl, ((R.mf (MF_wr (by omega))).gun p (by omega)).fin (CF_wr (by omega))⟩
theorem M_tiles {μ μ1 : gM} {e1 x1 x2 x3 : Int} (R : Rel μ μ) (h1 : (¬ (0 ≤ x1 ∧ x1 < μ 3 0 ∧ 0 ≤ x2 ∧ x2 ≤ 1 ∧ (x3 = 0 ∨ x3 = 1)) ∧ e1 = -2 ∧ μ1 = bad μ) ∨ ((0 ≤ x1 ∧ x1 < μ 3 0 ∧ 0 ≤ x2 ∧ x2 ≤ 1 ∧ (x3 = 0 ∨ x3 = 1)) ∧ e1 = μ (3 + 3) (4 * x1 + 2 * x2 + x3) ∧ μ = μ1)) : MF μ μ1 := by
  rcases h1 with ⟨p, rfl, rfl⟩ | ⟨p, rfl, rfl⟩
  · exact MF_bad _
  · exact MF_refl _
theorem L_tiles {μ μ1 μ2 : gM} {e1 e2 x1 x2 x3 : Int} (R : Rel μ μ) (h1 : (¬ (0 ≤ x1 ∧ x1 < μ 3 0 ∧ 0 ≤ x2 ∧ x2 ≤ 1 ∧ (x3 = 0 ∨ x3 = 1)) ∧ e1 = -2 ∧ μ1 = bad μ) ∨ ((0 ≤ x1 ∧ x1 < μ 3 0 ∧ 0 ≤ x2 ∧ x2 ≤ 1 ∧ (x3 = 0 ∨ x3 = 1)) ∧ e1 = μ (3 + 3) (4 * x1 + 2 * x2 + x3) ∧ μ = μ1)) (h2 : (¬ (0 ≤ x1 ∧ x1 < (μ 3 0) ∧ 0 ≤ x2 ∧ x2 ≤ 1 ∧ (x3 = 0 ∨ x3 = 1)) ∧ e2 = -2 ∧ μ2 = rb μ1) ∨ ((0 ≤ x1 ∧ x1 < (μ 3 0) ∧ 0 ≤ x2 ∧ x2 ≤ 1 ∧ (x3 = 0 ∨ x3 = 1)) ∧ e2 = (vw μ 3) 3 (4 * x1 + 2 * x2 + x3) ∧ μ1 = μ2)) : e1 = e2 ∧ Rel μ2 μ2 := by
  rcases h1 with ⟨p, rfl, rfl⟩ | ⟨p, rfl, rfl⟩ <;> rcases h2 with ⟨p2, rfl, rfl⟩ | ⟨p2, rfl, rfl⟩
  · exact ⟨rfl, zBB R⟩
  · first | exact absurd p p2 | exact absurd p2 p | omega
  · first | exact absurd p p2 | exact absurd p2 p | omega
  · exact ⟨rfl, R⟩
theorem M_type {μ μ1 : gM} {e1 x1 x2 : Int} (R : Rel μ μ) (h1 : (¬ (1 ≤ x2 ∧ x2 ≤ 8) ∧ e1 = -2 ∧ μ1 = bad μ) ∨ ((1 ≤ x2 ∧ x2 ≤ 8) ∧ 250 < μ 151 0 + x2 ∧ e1 = -4 ∧ μ1 = ful μ) ∨ ((1 ≤ x2 ∧ x2 ≤ 8) ∧ μ 151 0 + x2 ≤ 250 ∧ e1 = μ 151 0 + x2 ∧ μ1 = tM μ 152 151 0 (μ 151 0) x1 x2 x2)) : MF μ μ1 := by
  rcases h1 with ⟨p, rfl, rfl⟩ | ⟨p, q, rfl, rfl⟩ | ⟨p, q, rfl, rfl⟩
  · exact MF_bad _
  · exact MF_ful _
  · exact fun x hx => tM_x (by omega) (by omega)
theorem L_type {μ μ1 μ2 : gM} {e1 e2 x1 x2 : Int} (R : Rel μ μ) (h1 : (¬ (1 ≤ x2 ∧ x2 ≤ 8) ∧ e1 = -2 ∧ μ1 = bad μ) ∨ ((1 ≤ x2 ∧ x2 ≤ 8) ∧ 250 < μ 151 0 + x2 ∧ e1 = -4 ∧ μ1 = ful μ) ∨ ((1 ≤ x2 ∧ x2 ≤ 8) ∧ μ 151 0 + x2 ≤ 250 ∧ e1 = μ 151 0 + x2 ∧ μ1 = tM μ 152 151 0 (μ 151 0) x1 x2 x2)) (h2 : (¬ (1 ≤ x2 ∧ x2 ≤ 8) ∧ e2 = -2 ∧ μ2 = rb μ1) ∨ ((1 ≤ x2 ∧ x2 ≤ 8) ∧ 250 < μ1 167 13 + x2 ∧ e2 = -4 ∧ μ2 = rf μ1) ∨ ((1 ≤ x2 ∧ x2 ≤ 8) ∧ μ1 167 13 + x2 ≤ 250 ∧ e2 = μ1 167 13 + x2 ∧ μ2 = tM μ1 177 167 13 (μ1 167 13) x1 x2 x2)) : e1 = e2 ∧ Rel μ2 μ2 := by
  have hM : MF μ μ1 := M_type R h1
  have hl := (R.mf hM).2.1.1
  rcases h1 with ⟨p, rfl, rfl⟩ | ⟨p, q, rfl, rfl⟩ | ⟨p, q, rfl, rfl⟩ <;> rcases h2 with ⟨p2, rfl, rfl⟩ | ⟨p2, q2, rfl, rfl⟩ | ⟨p2, q2, rfl, rfl⟩
  · exact ⟨rfl, zBB R⟩
  · first | exact absurd p p2 | exact absurd p2 p | omega
  · first | exact absurd p p2 | exact absurd p2 p | omega
  · first | exact absurd p p2 | exact absurd p2 p | omega
  · exact ⟨rfl, zFF R⟩
  · omega
  · first | exact absurd p p2 | exact absurd p2 p | omega
  · omega
  · exact ⟨by omega, ((R.mf hM).typed p q).fin (fun x hx => tM_x (by omega) (by omega))⟩
theorem M_clear {μ μ1 : gM} {e1 : Int} (R : Rel μ μ) (h1 : e1 = μ 151 0 ∧ μ1 = wr μ 151 0 0) : MF μ μ1 := by
  rcases h1 with ⟨rfl, rfl⟩
  exact MF_wr (by omega)
theorem L_clear {μ μ1 μ2 : gM} {e1 e2 : Int} (R : Rel μ μ) (h1 : e1 = μ 151 0 ∧ μ1 = wr μ 151 0 0) (h2 : e2 = μ1 167 13 ∧ μ2 = wr μ1 167 13 0) : e1 = e2 ∧ Rel μ2 μ2 := by
  rcases h1 with ⟨rfl, rfl⟩
  rcases h2 with ⟨rfl, rfl⟩
  have R1 := R.mf (MF_wr (a := μ) (c := 151) (i := 0) (x := 0) (by omega))
  exact ⟨R1.2.1.1, R1.cleared.fin (CF_wr (by omega))⟩
theorem M_read {μ μ1 : gM} {e1 : Int} (R : Rel μ μ) (h1 : e1 = (rl (μ 152) (μ 151 0) 251 (fun _ => 0) 0 0).1 ∧ ((e1 < 0 ∧ smc 155 μ μ1 ∧ CI μ1 155) ∨ (0 ≤ e1 ∧ ∃ mt, smc 155 μ mt ∧ SC mt 155 ∧ CR mt 155 (rl (μ 152) (μ 151 0) 251 (fun _ => 0) 0 0).2 0 ∧ ∃ mb, BC mt mb 3 155 ∧ μ1 = wr mb 1 1 0))) : MF μ μ1 := by
  obtain ⟨rfl, ⟨p, hs, hc⟩ | ⟨p, mt, hs, hsc, hcr, mb, hb, rfl⟩⟩ := h1
  · exact fun x hx => hs.2.2 x (by omega) (by omega) (by omega)
  · exact fun x hx => by rw [wr_o (by omega), hb.fr (by omega), hs.2.2 x (by omega) (by omega) (by omega)]
theorem L_read {μ μ1 μ2 : gM} {e1 e2 : Int} (R : Rel μ μ) (h1 : e1 = (rl (μ 152) (μ 151 0) 251 (fun _ => 0) 0 0).1 ∧ ((e1 < 0 ∧ smc 155 μ μ1 ∧ CI μ1 155) ∨ (0 ≤ e1 ∧ ∃ mt, smc 155 μ mt ∧ SC mt 155 ∧ CR mt 155 (rl (μ 152) (μ 151 0) 251 (fun _ => 0) 0 0).2 0 ∧ ∃ mb, BC mt mb 3 155 ∧ μ1 = wr mb 1 1 0))) (h2 : e2 = (rl (μ 152) (μ 151 0) 251 (fun _ => 0) 0 0).1 ∧ ((∀ a, a ≠ 167 → a ≠ 168 → a ≠ 178 → a ≠ 179 → μ2 a = μ1 a) ∧ (∀ j, j < 14 → μ2 167 j = μ1 167 j)) ∧ ((e2 < 0 ∧ μ2 168 = μ1 168) ∨ (0 ≤ e2 ∧ (∀ j, 0 ≤ j → j < 95 → μ2 168 j = (rl (μ 152) (μ 151 0) 251 (fun _ => 0) 0 0).2 j) ∧ μ2 168 95 = 0 ∧ μ2 168 96 = 0))) : e1 = e2 ∧ Rel μ2 μ2 := by
  have hM : MF μ μ1 := M_read R h1
  obtain ⟨rfl, ⟨p, hs, hc⟩ | ⟨p, mt, hs, hsc, hcr, mb, hb, rfl⟩⟩ := h1
  · obtain ⟨rfl, ⟨f1, f2⟩, ⟨p2, g8⟩ | ⟨p2, -⟩⟩ := h2
    · have hcs : csm μ μ1 := ⟨fun x hx => hs.2.2 x (by omega) (by omega) (by omega), hc, hs.2.1, hs.1, hs.2.2 _ (by omega) (by omega) (by omega)⟩
      have hm : msm μ1 μ2 := ⟨⟨g8, f1 _ (by omega) (by omega) (by omega) (by omega), f1 _ (by omega) (by omega) (by omega) (by omega), f1 _ (by omega) (by omega) (by omega) (by omega), f1 _ (by omega) (by omega) (by omega) (by omega)⟩, f2 _ (by omega), f2 _ (by omega), f2 _ (by omega)⟩
      exact ⟨rfl, zJ R hcs hM hm (fun x hx => f1 x (by omega) (by omega) (by omega) (by omega))⟩
    · omega
  · obtain ⟨rfl, ⟨f1, f2⟩, ⟨p2, -⟩ | ⟨p2, g1, g2, g3⟩⟩ := h2
    · omega
    · have hm : msn (wr mb 1 1 0) μ2 := ⟨⟨f1 _ (by omega) (by omega) (by omega) (by omega), f1 _ (by omega) (by omega) (by omega) (by omega), f1 _ (by omega) (by omega) (by omega) (by omega), f1 _ (by omega) (by omega) (by omega) (by omega)⟩, f2 _ (by omega), f2 _ (by omega), f2 _ (by omega)⟩
      exact ⟨rfl, ((R.mf hM).read hs hsc hcr hb hm g1 g2 g3).fin (fun x hx => f1 x (by omega) (by omega) (by omega) (by omega))⟩
theorem M_force {μ μ1 : gM} {e1 x1 x2 x3 : Int} (R : Rel μ μ) (h1 : (¬ (0 ≤ x1 ∧ x1 < μ 3 1 ∧ 0 ≤ x2 ∧ x2 < μ 3 0 ∧ 0 ≤ x3 ∧ x3 ≤ 1) ∧ e1 = -2 ∧ μ1 = bad μ) ∨ ((0 ≤ x1 ∧ x1 < μ 3 1 ∧ 0 ≤ x2 ∧ x2 < μ 3 0 ∧ 0 ≤ x3 ∧ x3 ≤ 1) ∧ e1 = fF (vw μ 3) x1 x2 x3 ∧ μ = μ1)) : MF μ μ1 := by
  rcases h1 with ⟨p, rfl, rfl⟩ | ⟨p, rfl, rfl⟩
  · exact MF_bad _
  · exact MF_refl _
theorem L_force {μ μ1 μ2 : gM} {e1 e2 x1 x2 x3 : Int} (R : Rel μ μ) (h1 : (¬ (0 ≤ x1 ∧ x1 < μ 3 1 ∧ 0 ≤ x2 ∧ x2 < μ 3 0 ∧ 0 ≤ x3 ∧ x3 ≤ 1) ∧ e1 = -2 ∧ μ1 = bad μ) ∨ ((0 ≤ x1 ∧ x1 < μ 3 1 ∧ 0 ≤ x2 ∧ x2 < μ 3 0 ∧ 0 ≤ x3 ∧ x3 ≤ 1) ∧ e1 = fF (vw μ 3) x1 x2 x3 ∧ μ = μ1)) (h2 : (¬ (0 ≤ x1 ∧ x1 < (μ 3 1) ∧ 0 ≤ x2 ∧ x2 < (μ 3 0) ∧ 0 ≤ x3 ∧ x3 ≤ 1) ∧ e2 = -2 ∧ μ2 = rb μ1) ∨ ((0 ≤ x1 ∧ x1 < (μ 3 1) ∧ 0 ≤ x2 ∧ x2 < (μ 3 0) ∧ 0 ≤ x3 ∧ x3 ≤ 1) ∧ e2 = fF (vw μ 3) x1 x2 x3 ∧ μ1 = μ2)) : e1 = e2 ∧ Rel μ2 μ2 := by
  rcases h1 with ⟨p, rfl, rfl⟩ | ⟨p, rfl, rfl⟩ <;> rcases h2 with ⟨p2, rfl, rfl⟩ | ⟨p2, rfl, rfl⟩
  · exact ⟨rfl, zBB R⟩
  · first | exact absurd p p2 | exact absurd p2 p | omega
  · first | exact absurd p p2 | exact absurd p2 p | omega
  · exact ⟨rfl, R⟩
theorem M_breaks {μ μ1 : gM} {e1 x1 x2 x3 : Int} (R : Rel μ μ) (h1 : (¬ (0 ≤ x1 ∧ x1 < μ 3 1 ∧ (x2 = -1 ∨ (0 ≤ x2 ∧ x2 < μ 3 0)) ∧ (x3 = 0 ∨ x3 = 1)) ∧ e1 = -2 ∧ μ1 = bad μ) ∨ ((0 ≤ x1 ∧ x1 < μ 3 1 ∧ (x2 = -1 ∨ (0 ≤ x2 ∧ x2 < μ 3 0)) ∧ (x3 = 0 ∨ x3 = 1)) ∧ e1 = (if x2 = -1 then fA (vw μ 3) (μ 3 0) x1 x3 else fB (vw μ 3) x1 x2 x3) ∧ μ = μ1)) : MF μ μ1 := by
  rcases h1 with ⟨p, rfl, rfl⟩ | ⟨p, rfl, rfl⟩
  · exact MF_bad _
  · exact MF_refl _
theorem L_breaks {μ μ1 μ2 : gM} {e1 e2 x1 x2 x3 : Int} (R : Rel μ μ) (h1 : (¬ (0 ≤ x1 ∧ x1 < μ 3 1 ∧ (x2 = -1 ∨ (0 ≤ x2 ∧ x2 < μ 3 0)) ∧ (x3 = 0 ∨ x3 = 1)) ∧ e1 = -2 ∧ μ1 = bad μ) ∨ ((0 ≤ x1 ∧ x1 < μ 3 1 ∧ (x2 = -1 ∨ (0 ≤ x2 ∧ x2 < μ 3 0)) ∧ (x3 = 0 ∨ x3 = 1)) ∧ e1 = (if x2 = -1 then fA (vw μ 3) (μ 3 0) x1 x3 else fB (vw μ 3) x1 x2 x3) ∧ μ = μ1)) (h2 : (¬ (0 ≤ x1 ∧ x1 < (μ 3 1) ∧ (x2 = -1 ∨ (0 ≤ x2 ∧ x2 < (μ 3 0))) ∧ (x3 = 0 ∨ x3 = 1)) ∧ e2 = -2 ∧ μ2 = rb μ1) ∨ ((0 ≤ x1 ∧ x1 < (μ 3 1) ∧ (x2 = -1 ∨ (0 ≤ x2 ∧ x2 < (μ 3 0))) ∧ (x3 = 0 ∨ x3 = 1)) ∧ e2 = (if x2 = -1 then fA (vw μ 3) (μ 3 0) x1 x3 else fB (vw μ 3) x1 x2 x3) ∧ μ2 = tkN μ1)) : e1 = e2 ∧ Rel μ2 μ2 := by
  rcases h1 with ⟨p, rfl, rfl⟩ | ⟨p, rfl, rfl⟩ <;> rcases h2 with ⟨p2, rfl, rfl⟩ | ⟨p2, rfl, rfl⟩
  · exact ⟨rfl, zBB R⟩
  · first | exact absurd p p2 | exact absurd p2 p | omega
  · first | exact absurd p p2 | exact absurd p2 p | omega
  · exact ⟨rfl, zT R⟩
theorem M_wins {μ μ1 : gM} {e1 x1 : Int} (R : Rel μ μ) (h1 : (¬ (0 ≤ x1 ∧ x1 < μ 3 1) ∧ e1 = -2 ∧ μ1 = bad μ) ∨ ((0 ≤ x1 ∧ x1 < μ 3 1) ∧ e1 = fW (fL (vw μ 3) (μ 3 0) x1) ∧ μ = μ1)) : MF μ μ1 := by
  rcases h1 with ⟨p, rfl, rfl⟩ | ⟨p, rfl, rfl⟩
  · exact MF_bad _
  · exact MF_refl _
theorem L_wins {μ μ1 μ2 : gM} {e1 e2 x1 : Int} (R : Rel μ μ) (h1 : (¬ (0 ≤ x1 ∧ x1 < μ 3 1) ∧ e1 = -2 ∧ μ1 = bad μ) ∨ ((0 ≤ x1 ∧ x1 < μ 3 1) ∧ e1 = fW (fL (vw μ 3) (μ 3 0) x1) ∧ μ = μ1)) (h2 : (¬ (0 ≤ x1 ∧ x1 < (μ 3 1)) ∧ e2 = -2 ∧ μ2 = rb μ1) ∨ ((0 ≤ x1 ∧ x1 < (μ 3 1)) ∧ e2 = fW (fL (vw μ 3) (μ 3 0) x1) ∧ μ2 = tkN μ1)) : e1 = e2 ∧ Rel μ2 μ2 := by
  rcases h1 with ⟨p, rfl, rfl⟩ | ⟨p, rfl, rfl⟩ <;> rcases h2 with ⟨p2, rfl, rfl⟩ | ⟨p2, rfl, rfl⟩
  · exact ⟨rfl, zBB R⟩
  · first | exact absurd p p2 | exact absurd p2 p | omega
  · first | exact absurd p p2 | exact absurd p2 p | omega
  · exact ⟨rfl, zT R⟩
theorem M_odds {μ μ1 : gM} {e1 x1 : Int} (R : Rel μ μ) (h1 : (¬ (0 ≤ x1 ∧ x1 ≤ 2) ∧ e1 = -2 ∧ μ1 = bad μ) ∨ ((0 ≤ x1 ∧ x1 ≤ 2) ∧ μ 3 1 = 0 ∧ e1 = -3 ∧ μ1 = nop μ) ∨ ((0 ≤ x1 ∧ x1 ≤ 2) ∧ 0 < μ 3 1 ∧ e1 = 1 ∧ μ1 = frc μ (fO (vw μ 3) (μ 3 0) (μ 3 1) (if x1 = 2 then -1 else x1)) (fC (vw μ 3) (μ 3 1)))) : MF μ μ1 := by
  rcases h1 with ⟨p, rfl, rfl⟩ | ⟨p, q, rfl, rfl⟩ | ⟨p, q, rfl, rfl⟩
  · exact MF_bad _
  · exact MF_nop _
  · exact MF_frc _ _ _
theorem L_odds {μ μ1 μ2 : gM} {e1 e2 x1 : Int} (R : Rel μ μ) (h1 : (¬ (0 ≤ x1 ∧ x1 ≤ 2) ∧ e1 = -2 ∧ μ1 = bad μ) ∨ ((0 ≤ x1 ∧ x1 ≤ 2) ∧ μ 3 1 = 0 ∧ e1 = -3 ∧ μ1 = nop μ) ∨ ((0 ≤ x1 ∧ x1 ≤ 2) ∧ 0 < μ 3 1 ∧ e1 = 1 ∧ μ1 = frc μ (fO (vw μ 3) (μ 3 0) (μ 3 1) (if x1 = 2 then -1 else x1)) (fC (vw μ 3) (μ 3 1)))) (h2 : (¬ (0 ≤ x1 ∧ x1 ≤ 2) ∧ e2 = -2 ∧ μ2 = rb μ1) ∨ ((0 ≤ x1 ∧ x1 ≤ 2) ∧ (μ 3 1) = 0 ∧ e2 = -3 ∧ μ2 = rn μ1) ∨ ((0 ≤ x1 ∧ x1 ≤ 2) ∧ 0 < (μ 3 1) ∧ e2 = 1 ∧ μ2 = frm (tkN μ1) (fO (vw μ 3) (μ 3 0) (μ 3 1) (if x1 = 2 then -1 else x1)) (fC (vw μ 3) (μ 3 1)))) : e1 = e2 ∧ Rel μ2 μ2 := by
  rcases h1 with ⟨p, rfl, rfl⟩ | ⟨p, q, rfl, rfl⟩ | ⟨p, q, rfl, rfl⟩ <;> rcases h2 with ⟨p2, rfl, rfl⟩ | ⟨p2, q2, rfl, rfl⟩ | ⟨p2, q2, rfl, rfl⟩
  · exact ⟨rfl, zBB R⟩
  · first | exact absurd p p2 | exact absurd p2 p | omega
  · first | exact absurd p p2 | exact absurd p2 p | omega
  · first | exact absurd p p2 | exact absurd p2 p | omega
  · exact ⟨rfl, zNN R⟩
  · first | exact absurd p p2 | exact absurd p2 p | omega
  · first | exact absurd p p2 | exact absurd p2 p | omega
  · first | exact absurd p p2 | exact absurd p2 p | omega
  · exact ⟨rfl, zQ R (csm.refl R.ai) (MF_refl _) (msm_tkN _) (CF_tkN _)⟩
theorem M_paint {μ μ1 : gM} {e1 x1 x2 : Int} (R : Rel μ μ) (h1 : (¬ ((x1 = 0 ∨ x1 = 1) ∧ 0 ≤ x2 ∧ x2 ≤ 4) ∧ e1 = -2 ∧ μ1 = bad μ) ∨ (((x1 = 0 ∨ x1 = 1) ∧ 0 ≤ x2 ∧ x2 ≤ 4) ∧ μ 3 1 = 0 ∧ e1 = -3 ∧ μ1 = nop μ) ∨ (((x1 = 0 ∨ x1 = 1) ∧ 0 ≤ x2 ∧ x2 ≤ 4) ∧ 0 < μ 3 1 ∧ e1 = 1 ∧ μ1 = frc μ (fO (vw μ 3) (μ 3 0) (μ 3 1) x1) (fC (vw μ 3) (μ 3 1)))) : MF μ μ1 := by
  rcases h1 with ⟨p, rfl, rfl⟩ | ⟨p, q, rfl, rfl⟩ | ⟨p, q, rfl, rfl⟩
  · exact MF_bad _
  · exact MF_nop _
  · exact MF_frc _ _ _
theorem L_paint {μ μ1 μ2 : gM} {e1 e2 x1 x2 : Int} (R : Rel μ μ) (h1 : (¬ ((x1 = 0 ∨ x1 = 1) ∧ 0 ≤ x2 ∧ x2 ≤ 4) ∧ e1 = -2 ∧ μ1 = bad μ) ∨ (((x1 = 0 ∨ x1 = 1) ∧ 0 ≤ x2 ∧ x2 ≤ 4) ∧ μ 3 1 = 0 ∧ e1 = -3 ∧ μ1 = nop μ) ∨ (((x1 = 0 ∨ x1 = 1) ∧ 0 ≤ x2 ∧ x2 ≤ 4) ∧ 0 < μ 3 1 ∧ e1 = 1 ∧ μ1 = frc μ (fO (vw μ 3) (μ 3 0) (μ 3 1) x1) (fC (vw μ 3) (μ 3 1)))) (h2 : (¬ ((x1 = 0 ∨ x1 = 1) ∧ 0 ≤ x2 ∧ x2 ≤ 4) ∧ e2 = -2 ∧ μ2 = rb μ1) ∨ (((x1 = 0 ∨ x1 = 1) ∧ 0 ≤ x2 ∧ x2 ≤ 4) ∧ (μ 3 1) = 0 ∧ e2 = -3 ∧ μ2 = rn μ1) ∨ (((x1 = 0 ∨ x1 = 1) ∧ 0 ≤ x2 ∧ x2 ≤ 4) ∧ 0 < (μ 3 1) ∧ e2 = 1 ∧ ∃ m1, (∀ a, a ≠ 167 → a ≠ 172 → a ≠ 173 → a ≠ 174 → a ≠ 175 → m1 a = μ1 a) ∧ (∀ j, j ≠ 10 → m1 167 j = μ1 167 j) ∧ μ2 = frm m1 (fO (vw μ 3) (μ 3 0) (μ 3 1) x1) (fC (vw μ 3) (μ 3 1)))) : e1 = e2 ∧ Rel μ2 μ2 := by
  rcases h1 with ⟨p, rfl, rfl⟩ | ⟨p, q, rfl, rfl⟩ | ⟨p, q, rfl, rfl⟩ <;> rcases h2 with ⟨p2, rfl, rfl⟩ | ⟨p2, q2, rfl, rfl⟩ | ⟨p2, q2, rfl, m1, f1, f2, rfl⟩
  · exact ⟨rfl, zBB R⟩
  · first | exact absurd p p2 | exact absurd p2 p | omega
  · first | exact absurd p p2 | exact absurd p2 p | omega
  · first | exact absurd p p2 | exact absurd p2 p | omega
  · exact ⟨rfl, zNN R⟩
  · first | exact absurd p p2 | exact absurd p2 p | omega
  · first | exact absurd p p2 | exact absurd p2 p | omega
  · first | exact absurd p p2 | exact absurd p2 p | omega
  · exact ⟨rfl, zQ R (csm.refl R.ai) (MF_refl _) (msm_fp f1 f2).1 (msm_fp f1 f2).2⟩
theorem M_brush {μ μ1 : gM} {e1 x1 x2 x3 x4 : Int} (R : Rel μ μ) (h1 : (¬ ((x1 = 0 ∨ x1 = 1) ∧ 0 ≤ x2 ∧ x2 ≤ 4 ∧ 0 ≤ x3 ∧ x3 < μ 3 0 ∧ 0 ≤ x4 ∧ x4 ≤ 1) ∧ e1 = -2 ∧ μ1 = bad μ) ∨ (((x1 = 0 ∨ x1 = 1) ∧ 0 ≤ x2 ∧ x2 ≤ 4 ∧ 0 ≤ x3 ∧ x3 < μ 3 0 ∧ 0 ≤ x4 ∧ x4 ≤ 1) ∧ μ 3 1 = 0 ∧ e1 = -3 ∧ μ1 = nop μ) ∨ (((x1 = 0 ∨ x1 = 1) ∧ 0 ≤ x2 ∧ x2 ≤ 4 ∧ 0 ≤ x3 ∧ x3 < μ 3 0 ∧ 0 ≤ x4 ∧ x4 ≤ 1) ∧ 0 < μ 3 1 ∧ e1 = 0 ∧ μ = μ1)) : MF μ μ1 := by
  rcases h1 with ⟨p, rfl, rfl⟩ | ⟨p, q, rfl, rfl⟩ | ⟨p, q, rfl, rfl⟩
  · exact MF_bad _
  · exact MF_nop _
  · exact MF_refl _
theorem L_brush {μ μ1 μ2 : gM} {e1 e2 x1 x2 x3 x4 : Int} (R : Rel μ μ) (h1 : (¬ ((x1 = 0 ∨ x1 = 1) ∧ 0 ≤ x2 ∧ x2 ≤ 4 ∧ 0 ≤ x3 ∧ x3 < μ 3 0 ∧ 0 ≤ x4 ∧ x4 ≤ 1) ∧ e1 = -2 ∧ μ1 = bad μ) ∨ (((x1 = 0 ∨ x1 = 1) ∧ 0 ≤ x2 ∧ x2 ≤ 4 ∧ 0 ≤ x3 ∧ x3 < μ 3 0 ∧ 0 ≤ x4 ∧ x4 ≤ 1) ∧ μ 3 1 = 0 ∧ e1 = -3 ∧ μ1 = nop μ) ∨ (((x1 = 0 ∨ x1 = 1) ∧ 0 ≤ x2 ∧ x2 ≤ 4 ∧ 0 ≤ x3 ∧ x3 < μ 3 0 ∧ 0 ≤ x4 ∧ x4 ≤ 1) ∧ 0 < μ 3 1 ∧ e1 = 0 ∧ μ = μ1)) (h2 : (¬ ((x1 = 0 ∨ x1 = 1) ∧ 0 ≤ x2 ∧ x2 ≤ 4 ∧ 0 ≤ x3 ∧ x3 < (μ 3 0) ∧ 0 ≤ x4 ∧ x4 ≤ 1) ∧ e2 = -2 ∧ μ2 = rb μ1) ∨ (((x1 = 0 ∨ x1 = 1) ∧ 0 ≤ x2 ∧ x2 ≤ 4 ∧ 0 ≤ x3 ∧ x3 < (μ 3 0) ∧ 0 ≤ x4 ∧ x4 ≤ 1) ∧ (μ 3 1) = 0 ∧ e2 = -3 ∧ μ2 = rn μ1) ∨ (((x1 = 0 ∨ x1 = 1) ∧ 0 ≤ x2 ∧ x2 ≤ 4 ∧ 0 ≤ x3 ∧ x3 < (μ 3 0) ∧ 0 ≤ x4 ∧ x4 ≤ 1) ∧ 0 < (μ 3 1) ∧ e2 = 0 ∧ (∀ a, a ≠ 167 → a ≠ 172 → a ≠ 173 → a ≠ 174 → a ≠ 175 → μ2 a = μ1 a) ∧ (∀ j, j ≠ 10 → μ2 167 j = μ1 167 j))) : e1 = e2 ∧ Rel μ2 μ2 := by
  rcases h1 with ⟨p, rfl, rfl⟩ | ⟨p, q, rfl, rfl⟩ | ⟨p, q, rfl, rfl⟩ <;> rcases h2 with ⟨p2, rfl, rfl⟩ | ⟨p2, q2, rfl, rfl⟩ | ⟨p2, q2, rfl, f1, f2⟩
  · exact ⟨rfl, zBB R⟩
  · first | exact absurd p p2 | exact absurd p2 p | omega
  · first | exact absurd p p2 | exact absurd p2 p | omega
  · first | exact absurd p p2 | exact absurd p2 p | omega
  · exact ⟨rfl, zNN R⟩
  · first | exact absurd p p2 | exact absurd p2 p | omega
  · first | exact absurd p p2 | exact absurd p2 p | omega
  · first | exact absurd p p2 | exact absurd p2 p | omega
  · exact ⟨rfl, zI R (msm_fp f1 f2).1 (msm_fp f1 f2).2⟩
theorem M_against {μ μ1 : gM} {e1 : Int} (R : Rel μ μ) (h1 : (μ 3 1 = 0 ∧ e1 = -20 ∧ μ1 = nop μ) ∨ (0 < μ 3 1 ∧ ((0 ≤ e1 ∧ e1 < 2 * μ 3 0 ∧ kp (vw μ 3) (μ 3 0) (μ 3 1) e1 ∧ ∀ j, 0 ≤ j → j < e1 → ¬ kp (vw μ 3) (μ 3 0) (μ 3 1) j) ∨ (e1 = -1 ∧ ∀ j, 0 ≤ j → j < 2 * μ 3 0 → ¬ kp (vw μ 3) (μ 3 0) (μ 3 1) j)) ∧ ∃ mt, BC μ mt 155 3 ∧ μ1 = frc mt (fE (vw μ 3) (μ 3 0) (μ 3 1)) (fC (vw μ 3) (μ 3 1)))) : MF μ μ1 := by
  rcases h1 with ⟨p, rfl, rfl⟩ | ⟨p, q, mt, hb, rfl⟩
  · exact MF_nop _
  · exact (MF_BC hb (by omega)).trans (MF_frc _ _ _)
theorem L_against {μ μ1 μ2 : gM} {e1 e2 : Int} (R : Rel μ μ) (h1 : (μ 3 1 = 0 ∧ e1 = -20 ∧ μ1 = nop μ) ∨ (0 < μ 3 1 ∧ ((0 ≤ e1 ∧ e1 < 2 * μ 3 0 ∧ kp (vw μ 3) (μ 3 0) (μ 3 1) e1 ∧ ∀ j, 0 ≤ j → j < e1 → ¬ kp (vw μ 3) (μ 3 0) (μ 3 1) j) ∨ (e1 = -1 ∧ ∀ j, 0 ≤ j → j < 2 * μ 3 0 → ¬ kp (vw μ 3) (μ 3 0) (μ 3 1) j)) ∧ ∃ mt, BC μ mt 155 3 ∧ μ1 = frc mt (fE (vw μ 3) (μ 3 0) (μ 3 1)) (fC (vw μ 3) (μ 3 1)))) (h2 : ((μ 3 1) = 0 ∧ e2 = -20 ∧ μ2 = rn μ1) ∨ (0 < (μ 3 1) ∧ ((0 ≤ e2 ∧ e2 < 2 * (μ 3 0) ∧ kp (vw μ 3) (μ 3 0) (μ 3 1) e2 ∧ ∀ j, 0 ≤ j → j < e2 → ¬ kp (vw μ 3) (μ 3 0) (μ 3 1) j) ∨ (e2 = -1 ∧ ∀ j, 0 ≤ j → j < 2 * (μ 3 0) → ¬ kp (vw μ 3) (μ 3 0) (μ 3 1) j)) ∧ μ2 = frm (tkN μ1) (fE (vw μ 3) (μ 3 0) (μ 3 1)) (fC (vw μ 3) (μ 3 1)))) : e1 = e2 ∧ Rel μ2 μ2 := by
  rcases h1 with ⟨p, rfl, rfl⟩ | ⟨p, q, mt, hb, rfl⟩ <;> rcases h2 with ⟨p2, rfl, rfl⟩ | ⟨p2, q2, rfl⟩
  · exact ⟨rfl, zNN R⟩
  · omega
  · omega
  · exact ⟨least_one q q2, zQ R (csm_BC hb) (MF_BC hb (by omega)) (msm_tkN _) (CF_tkN _)⟩
theorem M_decides {μ μ1 : gM} {e1 x1 : Int} (R : Rel μ μ) (h1 : (¬ (0 ≤ x1 ∧ x1 < μ 3 0) ∧ e1 = -2 ∧ μ1 = bad μ) ∨ ((0 ≤ x1 ∧ x1 < μ 3 0) ∧ e1 = fD (vw μ 3) (μ 3 0) (μ 3 1) x1 ∧ μ = μ1)) : MF μ μ1 := by
  rcases h1 with ⟨p, rfl, rfl⟩ | ⟨p, rfl, rfl⟩
  · exact MF_bad _
  · exact MF_refl _
theorem L_decides {μ μ1 μ2 : gM} {e1 e2 x1 : Int} (R : Rel μ μ) (h1 : (¬ (0 ≤ x1 ∧ x1 < μ 3 0) ∧ e1 = -2 ∧ μ1 = bad μ) ∨ ((0 ≤ x1 ∧ x1 < μ 3 0) ∧ e1 = fD (vw μ 3) (μ 3 0) (μ 3 1) x1 ∧ μ = μ1)) (h2 : (¬ (0 ≤ x1 ∧ x1 < (μ 3 0)) ∧ e2 = -2 ∧ μ2 = rb μ1) ∨ ((0 ≤ x1 ∧ x1 < (μ 3 0)) ∧ e2 = fD (vw μ 3) (μ 3 0) (μ 3 1) x1 ∧ (∀ a, a ≠ 172 → a ≠ 173 → a ≠ 175 → a ≠ 176 → μ2 a = μ1 a))) : e1 = e2 ∧ Rel μ2 μ2 := by
  rcases h1 with ⟨p, rfl, rfl⟩ | ⟨p, rfl, rfl⟩ <;> rcases h2 with ⟨p2, rfl, rfl⟩ | ⟨p2, rfl, f1⟩
  · exact ⟨rfl, zBB R⟩
  · first | exact absurd p p2 | exact absurd p2 p | omega
  · first | exact absurd p p2 | exact absurd p2 p | omega
  · exact ⟨rfl, zI R (msm_fd f1).1 (msm_fd f1).2⟩
theorem M_power {μ μ1 : gM} {e1 x1 : Int} (R : Rel μ μ) (h1 : (¬ (0 ≤ x1 ∧ x1 < μ 3 0) ∧ e1 = -2 ∧ μ1 = bad μ) ∨ ((0 ≤ x1 ∧ x1 < μ 3 0) ∧ μ 3 1 = 0 ∧ e1 = -3 ∧ μ1 = nop μ) ∨ ((0 ≤ x1 ∧ x1 < μ 3 0) ∧ 0 < μ 3 1 ∧ e1 = 1 ∧ μ1 = frc μ (fP (vw μ 3) (μ 3 0) (μ 3 1) x1) (fC (vw μ 3) (μ 3 1)))) : MF μ μ1 := by
  rcases h1 with ⟨p, rfl, rfl⟩ | ⟨p, q, rfl, rfl⟩ | ⟨p, q, rfl, rfl⟩
  · exact MF_bad _
  · exact MF_nop _
  · exact MF_frc _ _ _
theorem L_power {μ μ1 μ2 : gM} {e1 e2 x1 : Int} (R : Rel μ μ) (h1 : (¬ (0 ≤ x1 ∧ x1 < μ 3 0) ∧ e1 = -2 ∧ μ1 = bad μ) ∨ ((0 ≤ x1 ∧ x1 < μ 3 0) ∧ μ 3 1 = 0 ∧ e1 = -3 ∧ μ1 = nop μ) ∨ ((0 ≤ x1 ∧ x1 < μ 3 0) ∧ 0 < μ 3 1 ∧ e1 = 1 ∧ μ1 = frc μ (fP (vw μ 3) (μ 3 0) (μ 3 1) x1) (fC (vw μ 3) (μ 3 1)))) (h2 : (¬ (0 ≤ x1 ∧ x1 < (μ 3 0)) ∧ e2 = -2 ∧ μ2 = rb μ1) ∨ ((0 ≤ x1 ∧ x1 < (μ 3 0)) ∧ (μ 3 1) = 0 ∧ e2 = -3 ∧ μ2 = rn μ1) ∨ ((0 ≤ x1 ∧ x1 < (μ 3 0)) ∧ 0 < (μ 3 1) ∧ e2 = 1 ∧ ∃ m1, (∀ a, a ≠ 172 → a ≠ 173 → a ≠ 175 → a ≠ 176 → m1 a = μ1 a) ∧ μ2 = frm m1 (fP (vw μ 3) (μ 3 0) (μ 3 1) x1) (fC (vw μ 3) (μ 3 1)))) : e1 = e2 ∧ Rel μ2 μ2 := by
  rcases h1 with ⟨p, rfl, rfl⟩ | ⟨p, q, rfl, rfl⟩ | ⟨p, q, rfl, rfl⟩ <;> rcases h2 with ⟨p2, rfl, rfl⟩ | ⟨p2, q2, rfl, rfl⟩ | ⟨p2, q2, rfl, m1, f1, rfl⟩
  · exact ⟨rfl, zBB R⟩
  · first | exact absurd p p2 | exact absurd p2 p | omega
  · first | exact absurd p p2 | exact absurd p2 p | omega
  · first | exact absurd p p2 | exact absurd p2 p | omega
  · exact ⟨rfl, zNN R⟩
  · first | exact absurd p p2 | exact absurd p2 p | omega
  · first | exact absurd p p2 | exact absurd p2 p | omega
  · first | exact absurd p p2 | exact absurd p2 p | omega
  · exact ⟨rfl, zQ R (csm.refl R.ai) (MF_refl _) (msm_fd f1).1 (msm_fd f1).2⟩
theorem M_shield {μ μ1 : gM} {e1 x1 : Int} (R : Rel μ μ) (h1 : (¬ (x1 = 0 ∨ x1 = 1) ∧ e1 = -2 ∧ μ1 = bad μ) ∨ ((x1 = 0 ∨ x1 = 1) ∧ μ 3 1 = 0 ∧ e1 = -3 ∧ μ1 = nop μ) ∨ ((x1 = 0 ∨ x1 = 1) ∧ 0 < μ 3 1 ∧ e1 = (shI (vw μ 3) (μ 3 0) (μ 3 1) x1 7).1 ∧ ∃ mt, BC μ mt 155 3 ∧ ((e1 = -1 ∧ μ1 = mt) ∨ (e1 ≠ -1 ∧ μ1 = frc mt (shI (vw μ 3) (μ 3 0) (μ 3 1) x1 7).2 (fC (vw μ 3) (μ 3 1)))))) : MF μ μ1 := by
  rcases h1 with ⟨p, rfl, rfl⟩ | ⟨p, q, rfl, rfl⟩ | ⟨p, q, ee, mt, hb, ⟨z, rfl⟩ | ⟨z, rfl⟩⟩
  · exact MF_bad _
  · exact MF_nop _
  · exact MF_BC hb (by omega)
  · exact (MF_BC hb (by omega)).trans (MF_frc _ _ _)
theorem L_shield {μ μ1 μ2 : gM} {e1 e2 x1 : Int} (R : Rel μ μ) (h1 : (¬ (x1 = 0 ∨ x1 = 1) ∧ e1 = -2 ∧ μ1 = bad μ) ∨ ((x1 = 0 ∨ x1 = 1) ∧ μ 3 1 = 0 ∧ e1 = -3 ∧ μ1 = nop μ) ∨ ((x1 = 0 ∨ x1 = 1) ∧ 0 < μ 3 1 ∧ e1 = (shI (vw μ 3) (μ 3 0) (μ 3 1) x1 7).1 ∧ ∃ mt, BC μ mt 155 3 ∧ ((e1 = -1 ∧ μ1 = mt) ∨ (e1 ≠ -1 ∧ μ1 = frc mt (shI (vw μ 3) (μ 3 0) (μ 3 1) x1 7).2 (fC (vw μ 3) (μ 3 1)))))) (h2 : (¬ (x1 = 0 ∨ x1 = 1) ∧ e2 = -2 ∧ μ2 = rb μ1) ∨ ((x1 = 0 ∨ x1 = 1) ∧ (μ 3 1) = 0 ∧ e2 = -3 ∧ μ2 = rn μ1) ∨ ((x1 = 0 ∨ x1 = 1) ∧ 0 < (μ 3 1) ∧ e2 = (shI (vw μ 3) (μ 3 0) (μ 3 1) x1 7).1 ∧ ((e2 = -1 ∧ μ2 = tkN μ1) ∨ (e2 ≠ -1 ∧ μ2 = frm (tkN μ1) (shI (vw μ 3) (μ 3 0) (μ 3 1) x1 7).2 (fC (vw μ 3) (μ 3 1)))))) : e1 = e2 ∧ Rel μ2 μ2 := by
  rcases h1 with ⟨p, rfl, rfl⟩ | ⟨p, q, rfl, rfl⟩ | ⟨p, q, ee, mt, hb, ⟨z, rfl⟩ | ⟨z, rfl⟩⟩ <;> rcases h2 with ⟨p2, rfl, rfl⟩ | ⟨p2, q2, rfl, rfl⟩ | ⟨p2, q2, ee2, ⟨z2, rfl⟩ | ⟨z2, rfl⟩⟩
  · exact ⟨rfl, zBB R⟩
  · first | exact absurd p p2 | exact absurd p2 p | omega
  · first | exact absurd p p2 | exact absurd p2 p | omega
  · first | exact absurd p p2 | exact absurd p2 p | omega
  · first | exact absurd p p2 | exact absurd p2 p | omega
  · exact ⟨rfl, zNN R⟩
  · first | exact absurd p p2 | exact absurd p2 p | omega
  · first | exact absurd p p2 | exact absurd p2 p | omega
  · first | exact absurd p p2 | exact absurd p2 p | omega
  · first | exact absurd p p2 | exact absurd p2 p | omega
  · exact ⟨by omega, zJ R (csm_BC hb) (MF_BC hb (by omega)) (msm_tkN _) (CF_tkN _)⟩
  · omega
  · first | exact absurd p p2 | exact absurd p2 p | omega
  · first | exact absurd p p2 | exact absurd p2 p | omega
  · omega
  · exact ⟨by omega, zQ R (csm_BC hb) (MF_BC hb (by omega)) (msm_tkN _) (CF_tkN _)⟩
theorem M_shards {μ μ1 : gM} {e1 x1 x2 x3 : Int} (R : Rel μ μ) (h1 : (¬ ((0 ≤ x1 ∧ x1 < μ 3 0) ∧ ((x2 = -1 ∧ x3 = -1) ∨ (0 ≤ x2 ∧ x2 ≤ 18 ∧ 0 ≤ x3 ∧ x3 ≤ 18))) ∧ e1 = -2 ∧ μ1 = bad μ) ∨ (((0 ≤ x1 ∧ x1 < μ 3 0) ∧ ((x2 = -1 ∧ x3 = -1) ∨ (0 ≤ x2 ∧ x2 ≤ 18 ∧ 0 ≤ x3 ∧ x3 ≤ 18))) ∧ e1 = 1 ∧ μ1 = wr (wr μ (3 + 4) x1 x2) (3 + 5) x1 x3)) : MF μ μ1 := by
  rcases h1 with ⟨p, rfl, rfl⟩ | ⟨p, rfl, rfl⟩
  · exact MF_bad _
  · exact (MF_wr (by omega)).trans (MF_wr (by omega))
theorem L_shards {μ μ1 μ2 : gM} {e1 e2 x1 x2 x3 : Int} (R : Rel μ μ) (h1 : (¬ ((0 ≤ x1 ∧ x1 < μ 3 0) ∧ ((x2 = -1 ∧ x3 = -1) ∨ (0 ≤ x2 ∧ x2 ≤ 18 ∧ 0 ≤ x3 ∧ x3 ≤ 18))) ∧ e1 = -2 ∧ μ1 = bad μ) ∨ (((0 ≤ x1 ∧ x1 < μ 3 0) ∧ ((x2 = -1 ∧ x3 = -1) ∨ (0 ≤ x2 ∧ x2 ≤ 18 ∧ 0 ≤ x3 ∧ x3 ≤ 18))) ∧ e1 = 1 ∧ μ1 = wr (wr μ (3 + 4) x1 x2) (3 + 5) x1 x3)) (h2 : (¬ ((0 ≤ x1 ∧ x1 < (μ 3 0)) ∧ ((x2 = -1 ∧ x3 = -1) ∨ (0 ≤ x2 ∧ x2 ≤ 18 ∧ 0 ≤ x3 ∧ x3 ≤ 18))) ∧ e2 = -2 ∧ μ2 = rb μ1) ∨ (((0 ≤ x1 ∧ x1 < (μ 3 0)) ∧ ((x2 = -1 ∧ x3 = -1) ∨ (0 ≤ x2 ∧ x2 ≤ 18 ∧ 0 ≤ x3 ∧ x3 ≤ 18))) ∧ e2 = 1 ∧ μ2 = wr (wr μ1 168 (0 + 8 * x1 + 6) x2) 168 (0 + 8 * x1 + 6 + 1) x3)) : e1 = e2 ∧ Rel μ2 μ2 := by
  rcases h1 with ⟨p, rfl, rfl⟩ | ⟨p, rfl, rfl⟩ <;> rcases h2 with ⟨p2, rfl, rfl⟩ | ⟨p2, rfl, rfl⟩
  · exact ⟨rfl, zBB R⟩
  · first | exact absurd p p2 | exact absurd p2 p | omega
  · first | exact absurd p p2 | exact absurd p2 p | omega
  · exact ⟨rfl, ((R.mf ((MF_wr (by omega)).trans (MF_wr (by omega)))).shards p.1 (by omega) (by omega)).fin ((CF_wr (by omega)).trans (CF_wr (by omega)))⟩
theorem M_which {μ μ1 : gM} {e1 x1 : Int} (R : Rel μ μ) (h1 : (¬ (0 ≤ x1 ∧ x1 ≤ 1) ∧ e1 = -2 ∧ μ1 = bad μ) ∨ ((0 ≤ x1 ∧ x1 ≤ 1) ∧ e1 = (if x1 = 0 then fSt (vw μ 3) (μ 3 0) (μ 3 1) else fHd (vw μ 3) (μ 3 0) (μ 3 1)) ∧ μ = μ1)) : MF μ μ1 := by
  rcases h1 with ⟨p, rfl, rfl⟩ | ⟨p, rfl, rfl⟩
  · exact MF_bad _
  · exact MF_refl _
theorem L_which {μ μ1 μ2 : gM} {e1 e2 x1 : Int} (R : Rel μ μ) (h1 : (¬ (0 ≤ x1 ∧ x1 ≤ 1) ∧ e1 = -2 ∧ μ1 = bad μ) ∨ ((0 ≤ x1 ∧ x1 ≤ 1) ∧ e1 = (if x1 = 0 then fSt (vw μ 3) (μ 3 0) (μ 3 1) else fHd (vw μ 3) (μ 3 0) (μ 3 1)) ∧ μ = μ1)) (h2 : (¬ (0 ≤ x1 ∧ x1 ≤ 1) ∧ e2 = -2 ∧ μ2 = rb μ1) ∨ ((0 ≤ x1 ∧ x1 ≤ 1) ∧ e2 = (if x1 = 0 then fSt (vw μ 3) (μ 3 0) (μ 3 1) else fHd (vw μ 3) (μ 3 0) (μ 3 1)) ∧ μ2 = tkN μ1)) : e1 = e2 ∧ Rel μ2 μ2 := by
  rcases h1 with ⟨p, rfl, rfl⟩ | ⟨p, rfl, rfl⟩ <;> rcases h2 with ⟨p2, rfl, rfl⟩ | ⟨p2, rfl, rfl⟩
  · exact ⟨rfl, zBB R⟩
  · first | exact absurd p p2 | exact absurd p2 p | omega
  · first | exact absurd p p2 | exact absurd p2 p | omega
  · exact ⟨rfl, zT R⟩
theorem M_recount {μ μ1 : gM} {e1 x1 x2 : Int} (R : Rel μ μ) (h1 : (¬ ((0 ≤ x1 ∧ x1 < μ 3 1) ∧ 1 ≤ x2 ∧ x2 ≤ 8 ∧ x2 ≤ fA (vw μ 3) (μ 3 0) x1 0 + fA (vw μ 3) (μ 3 0) x1 1) ∧ e1 = -2 ∧ μ1 = bad μ) ∨ (((0 ≤ x1 ∧ x1 < μ 3 1) ∧ 1 ≤ x2 ∧ x2 ≤ 8 ∧ x2 ≤ fA (vw μ 3) (μ 3 0) x1 0 + fA (vw μ 3) (μ 3 0) x1 1) ∧ fA (vw μ 3) (μ 3 0) x1 0 = fA (vw μ 3) (μ 3 0) x1 1 ∧ e1 = -3 ∧ μ1 = nop μ) ∨ (((0 ≤ x1 ∧ x1 < μ 3 1) ∧ 1 ≤ x2 ∧ x2 ≤ 8 ∧ x2 ≤ fA (vw μ 3) (μ 3 0) x1 0 + fA (vw μ 3) (μ 3 0) x1 1) ∧ fA (vw μ 3) (μ 3 0) x1 0 ≠ fA (vw μ 3) (μ 3 0) x1 1 ∧ e1 = 1 ∧ μ1 = frc μ (rS (max (fA (vw μ 3) (μ 3 0) x1 0) (fA (vw μ 3) (μ 3 0) x1 1)) (min (fA (vw μ 3) (μ 3 0) x1 0) (fA (vw μ 3) (μ 3 0) x1 1)) x2) (chI (max (fA (vw μ 3) (μ 3 0) x1 0) (fA (vw μ 3) (μ 3 0) x1 1) + min (fA (vw μ 3) (μ 3 0) x1 0) (fA (vw μ 3) (μ 3 0) x1 1)) x2))) : MF μ μ1 := by
  rcases h1 with ⟨p, rfl, rfl⟩ | ⟨p, q, rfl, rfl⟩ | ⟨p, q, rfl, rfl⟩
  · exact MF_bad _
  · exact MF_nop _
  · exact MF_frc _ _ _
theorem L_recount {μ μ1 μ2 : gM} {e1 e2 x1 x2 : Int} (R : Rel μ μ) (h1 : (¬ ((0 ≤ x1 ∧ x1 < μ 3 1) ∧ 1 ≤ x2 ∧ x2 ≤ 8 ∧ x2 ≤ fA (vw μ 3) (μ 3 0) x1 0 + fA (vw μ 3) (μ 3 0) x1 1) ∧ e1 = -2 ∧ μ1 = bad μ) ∨ (((0 ≤ x1 ∧ x1 < μ 3 1) ∧ 1 ≤ x2 ∧ x2 ≤ 8 ∧ x2 ≤ fA (vw μ 3) (μ 3 0) x1 0 + fA (vw μ 3) (μ 3 0) x1 1) ∧ fA (vw μ 3) (μ 3 0) x1 0 = fA (vw μ 3) (μ 3 0) x1 1 ∧ e1 = -3 ∧ μ1 = nop μ) ∨ (((0 ≤ x1 ∧ x1 < μ 3 1) ∧ 1 ≤ x2 ∧ x2 ≤ 8 ∧ x2 ≤ fA (vw μ 3) (μ 3 0) x1 0 + fA (vw μ 3) (μ 3 0) x1 1) ∧ fA (vw μ 3) (μ 3 0) x1 0 ≠ fA (vw μ 3) (μ 3 0) x1 1 ∧ e1 = 1 ∧ μ1 = frc μ (rS (max (fA (vw μ 3) (μ 3 0) x1 0) (fA (vw μ 3) (μ 3 0) x1 1)) (min (fA (vw μ 3) (μ 3 0) x1 0) (fA (vw μ 3) (μ 3 0) x1 1)) x2) (chI (max (fA (vw μ 3) (μ 3 0) x1 0) (fA (vw μ 3) (μ 3 0) x1 1) + min (fA (vw μ 3) (μ 3 0) x1 0) (fA (vw μ 3) (μ 3 0) x1 1)) x2))) (h2 : (¬ ((0 ≤ x1 ∧ x1 < (μ 3 1)) ∧ 1 ≤ x2 ∧ x2 ≤ 8 ∧ x2 ≤ fA (vw μ 3) (μ 3 0) x1 0 + fA (vw μ 3) (μ 3 0) x1 1) ∧ e2 = -2 ∧ (μ2 = rb μ1 ∨ μ2 = rb (tkN μ1))) ∨ (((0 ≤ x1 ∧ x1 < (μ 3 1)) ∧ 1 ≤ x2 ∧ x2 ≤ 8 ∧ x2 ≤ fA (vw μ 3) (μ 3 0) x1 0 + fA (vw μ 3) (μ 3 0) x1 1) ∧ fA (vw μ 3) (μ 3 0) x1 0 = fA (vw μ 3) (μ 3 0) x1 1 ∧ e2 = -3 ∧ μ2 = rn (tkN μ1)) ∨ (((0 ≤ x1 ∧ x1 < (μ 3 1)) ∧ 1 ≤ x2 ∧ x2 ≤ 8 ∧ x2 ≤ fA (vw μ 3) (μ 3 0) x1 0 + fA (vw μ 3) (μ 3 0) x1 1) ∧ fA (vw μ 3) (μ 3 0) x1 0 ≠ fA (vw μ 3) (μ 3 0) x1 1 ∧ e2 = 1 ∧ μ2 = frm (tkN μ1) (rS (max (fA (vw μ 3) (μ 3 0) x1 0) (fA (vw μ 3) (μ 3 0) x1 1)) (min (fA (vw μ 3) (μ 3 0) x1 0) (fA (vw μ 3) (μ 3 0) x1 1)) x2) (chI (max (fA (vw μ 3) (μ 3 0) x1 0) (fA (vw μ 3) (μ 3 0) x1 1) + min (fA (vw μ 3) (μ 3 0) x1 0) (fA (vw μ 3) (μ 3 0) x1 1)) x2))) : e1 = e2 ∧ Rel μ2 μ2 := by
  rcases h1 with ⟨p, rfl, rfl⟩ | ⟨p, q, rfl, rfl⟩ | ⟨p, q, rfl, rfl⟩ <;> rcases h2 with ⟨p2, rfl, rfl | rfl⟩ | ⟨p2, q2, rfl, rfl⟩ | ⟨p2, q2, rfl, rfl⟩
  · exact ⟨rfl, zBB R⟩
  · exact ⟨rfl, zBt R⟩
  · first | exact absurd p p2 | exact absurd p2 p | omega
  · first | exact absurd p p2 | exact absurd p2 p | omega
  · first | exact absurd p p2 | exact absurd p2 p | omega
  · first | exact absurd p p2 | exact absurd p2 p | omega
  · exact ⟨rfl, zNt R⟩
  · exact absurd q q2
  · first | exact absurd p p2 | exact absurd p2 p | omega
  · first | exact absurd p p2 | exact absurd p2 p | omega
  · exact absurd q2 q
  · exact ⟨rfl, zQ R (csm.refl R.ai) (MF_refl _) (msm_tkN _) (CF_tkN _)⟩
theorem M_year {μ μ1 : gM} {e1 x1 : Int} (R : Rel μ μ) (h1 : (¬ (x1 = -1 ∨ (0 ≤ x1 ∧ x1 < μ 3 1)) ∧ e1 = -2 ∧ μ1 = bad μ) ∨ ((x1 = -1 ∨ (0 ≤ x1 ∧ x1 < μ 3 1)) ∧ e1 = fY (vw μ 3) (μ 3 0) x1 ∧ (∃ ν1 ν3, ((ν1 = μ ∧ μ 1 1 < 3) ∨ (ν1 = mFO μ 1 ∧ μ 1 1 = 3)) ∧ BC ν1 ν3 (ν1 2 (ν1 1 1)).toNat 3 ∧ μ1 = wr (yr (wr ν3 1 1 (ν1 1 1 + 1)) 3 x1 (μ 3 0)) 3 2 (μ 3 2 + 1)))) : MF μ μ1 := by
  rcases h1 with ⟨p, rfl, rfl⟩ | ⟨p, rfl, hx⟩
  · exact MF_bad _
  · exact (R.year p hx (msn_rw μ _) rw_s).2
theorem L_year {μ μ1 μ2 : gM} {e1 e2 x1 : Int} (R : Rel μ μ) (h1 : (¬ (x1 = -1 ∨ (0 ≤ x1 ∧ x1 < μ 3 1)) ∧ e1 = -2 ∧ μ1 = bad μ) ∨ ((x1 = -1 ∨ (0 ≤ x1 ∧ x1 < μ 3 1)) ∧ e1 = fY (vw μ 3) (μ 3 0) x1 ∧ (∃ ν1 ν3, ((ν1 = μ ∧ μ 1 1 < 3) ∨ (ν1 = mFO μ 1 ∧ μ 1 1 = 3)) ∧ BC ν1 ν3 (ν1 2 (ν1 1 1)).toNat 3 ∧ μ1 = wr (yr (wr ν3 1 1 (ν1 1 1 + 1)) 3 x1 (μ 3 0)) 3 2 (μ 3 2 + 1)))) (h2 : (¬ (x1 = -1 ∨ (0 ≤ x1 ∧ x1 < (μ 3 1))) ∧ e2 = -2 ∧ μ2 = rb μ1) ∨ ((x1 = -1 ∨ (0 ≤ x1 ∧ x1 < (μ 3 1))) ∧ e2 = fY (vw μ 3) (μ 3 0) x1 ∧ (∀ a, a ≠ 168 → a ≠ 172 → a ≠ 173 → μ2 a = μ1 a) ∧ μ2 168 = kYR (kKY (μ1 168)) (yv (vw μ 3) (μ 3 0) x1) (μ 3 0))) : e1 = e2 ∧ Rel μ2 μ2 := by
  have hM : MF μ μ1 := M_year R h1
  rcases h1 with ⟨p, rfl, rfl⟩ | ⟨p, rfl, hx⟩ <;> rcases h2 with ⟨p2, rfl, rfl⟩ | ⟨p2, rfl, f1, f8⟩
  · exact ⟨rfl, zBB R⟩
  · first | exact absurd p p2 | exact absurd p2 p | omega
  · first | exact absurd p p2 | exact absurd p2 p | omega
  · have hm : msn μ1 μ2 := ⟨⟨f1 _ (by omega) (by omega) (by omega), f1 _ (by omega) (by omega) (by omega), f1 _ (by omega) (by omega) (by omega), f1 _ (by omega) (by omega) (by omega)⟩, by rw [f1 167 (by omega) (by omega) (by omega)], by rw [f1 167 (by omega) (by omega) (by omega)], by rw [f1 167 (by omega) (by omega) (by omega)]⟩
    exact ⟨rfl, ((R.mf hM).year p hx hm f8).1.fin (fun x hx => f1 x (by omega) (by omega) (by omega))⟩
theorem M_undo {μ μ1 : gM} {e1 : Int} (R : Rel μ μ) (h1 : (μ 1 1 = 0 ∧ e1 = -3 ∧ μ1 = nop μ) ∨ (0 < μ 1 1 ∧ e1 = 1 ∧ BC (wr μ 1 1 (μ 1 1 - 1)) μ1 3 (μ 2 (μ 1 1 - 1)).toNat)) : MF μ μ1 := by
  rcases h1 with ⟨p, rfl, rfl⟩ | ⟨p, rfl, hb⟩
  · exact MF_nop _
  · exact (R.undo p hb).2
theorem L_undo {μ μ1 μ2 : gM} {e1 e2 : Int} (R : Rel μ μ) (h1 : (μ 1 1 = 0 ∧ e1 = -3 ∧ μ1 = nop μ) ∨ (0 < μ 1 1 ∧ e1 = 1 ∧ BC (wr μ 1 1 (μ 1 1 - 1)) μ1 3 (μ 2 (μ 1 1 - 1)).toNat)) (h2 : (μ1 168 96 = 0 ∧ e2 = -3 ∧ μ2 = rn μ1) ∨ (0 < μ1 168 96 ∧ e2 = 1 ∧ μ2 = rw_ μ1 168 (kUN (μ1 168)))) : e1 = e2 ∧ Rel μ2 μ2 := by
  have hu := (R.u)
  have hM : MF μ μ1 := M_undo R h1
  have hu2 := (R.mf hM).u
  rcases h1 with ⟨p, rfl, rfl⟩ | ⟨p, rfl, hb⟩ <;> rcases h2 with ⟨p2, rfl, rfl⟩ | ⟨p2, rfl, rfl⟩
  · exact ⟨rfl, zNN R⟩
  · omega
  · omega
  · exact ⟨rfl, ((R.mf hM).undo p hb).1.fin (CF_rw (by omega))⟩
theorem M_drawn {μ μ1 : gM} {e1 x1 x2 : Int} (R : Rel μ μ) (h1 : (¬ (0 ≤ x1 ∧ x1 ≤ 999999 ∧ 0 ≤ x2 ∧ x2 ≤ 20) ∧ e1 = -1000 ∧ μ1 = bad μ) ∨ ((0 ≤ x1 ∧ x1 ≤ 999999 ∧ 0 ≤ x2 ∧ x2 ≤ 20) ∧ e1 = (dwI (vw μ 3) (μ 3 0) (μ 3 1) x1 x2).2.1 ∧ (∀ a : Nat, (a < 155 ∨ 167 ≤ a) → μ1 a = μ a) ∧ CI μ1 155)) : MF μ μ1 := by
  rcases h1 with ⟨p, rfl, rfl⟩ | ⟨p, rfl, f1, f2⟩
  · exact MF_bad _
  · exact fun x hx => f1 x (by omega)
theorem L_drawn {μ μ1 μ2 : gM} {e1 e2 x1 x2 : Int} (R : Rel μ μ) (h1 : (¬ (0 ≤ x1 ∧ x1 ≤ 999999 ∧ 0 ≤ x2 ∧ x2 ≤ 20) ∧ e1 = -1000 ∧ μ1 = bad μ) ∨ ((0 ≤ x1 ∧ x1 ≤ 999999 ∧ 0 ≤ x2 ∧ x2 ≤ 20) ∧ e1 = (dwI (vw μ 3) (μ 3 0) (μ 3 1) x1 x2).2.1 ∧ (∀ a : Nat, (a < 155 ∨ 167 ≤ a) → μ1 a = μ a) ∧ CI μ1 155)) (h2 : (¬ (0 ≤ x1 ∧ x1 ≤ 999999 ∧ 0 ≤ x2 ∧ x2 ≤ 20) ∧ e2 = -1000 ∧ μ2 = rb μ1) ∨ ((0 ≤ x1 ∧ x1 ≤ 999999 ∧ 0 ≤ x2 ∧ x2 ≤ 20) ∧ e2 = (dwI (vw μ 3) (μ 3 0) (μ 3 1) x1 x2).2.1 ∧ (∀ a, a ≠ 172 → a ≠ 173 → μ2 a = μ1 a))) : e1 = e2 ∧ Rel μ2 μ2 := by
  rcases h1 with ⟨p, rfl, rfl⟩ | ⟨p, rfl, f1, f2⟩ <;> rcases h2 with ⟨p2, rfl, rfl⟩ | ⟨p2, rfl, g1⟩
  · exact ⟨rfl, zBB R⟩
  · first | exact absurd p p2 | exact absurd p2 p | omega
  · first | exact absurd p p2 | exact absurd p2 p | omega
  · have hs : csm μ μ1 := ⟨fun x hx => f1 x (by omega), f2, by rw [f1 151 (by omega)], f1 _ (by omega), f1 _ (by omega)⟩
    have hm := msm_fd (μ := μ1) (μ2 := μ2) (fun a h1 h2 _ _ => g1 a h1 h2)
    exact ⟨rfl, zJ R hs (fun x hx => f1 x (by omega)) hm.1 hm.2⟩
theorem M_part {μ μ1 : gM} {e1 x1 : Int} (R : Rel μ μ) (h1 : (¬ (0 ≤ x1 ∧ x1 ≤ 1) ∧ e1 = -1000 ∧ μ1 = bad μ) ∨ (x1 = 0 ∧ e1 = μ 154 0 ∧ μ = μ1) ∨ (x1 = 1 ∧ e1 = μ 154 1 ∧ μ = μ1)) : MF μ μ1 := by
  rcases h1 with ⟨p, rfl, rfl⟩ | ⟨p, rfl, rfl⟩ | ⟨p, rfl, rfl⟩
  · exact MF_bad _
  · exact MF_refl _
  · exact MF_refl _
theorem L_part {μ μ1 μ2 : gM} {e1 e2 x1 : Int} (R : Rel μ μ) (h1 : (¬ (0 ≤ x1 ∧ x1 ≤ 1) ∧ e1 = -1000 ∧ μ1 = bad μ) ∨ (x1 = 0 ∧ e1 = μ 154 0 ∧ μ = μ1) ∨ (x1 = 1 ∧ e1 = μ 154 1 ∧ μ = μ1)) (h2 : (¬ (0 ≤ x1 ∧ x1 ≤ 1) ∧ e2 = -1000 ∧ μ2 = rb μ1) ∨ (x1 = 0 ∧ e2 = μ1 167 4 ∧ μ1 = μ2) ∨ (x1 = 1 ∧ e2 = μ1 167 5 ∧ μ1 = μ2)) : e1 = e2 ∧ Rel μ2 μ2 := by
  rcases h1 with ⟨p, rfl, rfl⟩ | ⟨p, rfl, rfl⟩ | ⟨p, rfl, rfl⟩ <;> rcases h2 with ⟨p2, rfl, rfl⟩ | ⟨p2, rfl, rfl⟩ | ⟨p2, rfl, rfl⟩
  · exact ⟨rfl, zBB R⟩
  · omega
  · omega
  · omega
  · exact ⟨R.2.2.1.1, R⟩
  · omega
  · omega
  · omega
  · exact ⟨R.2.2.1.2, R⟩
theorem M_image {μ μ1 : gM} {e1 x1 : Int} (R : Rel μ μ) (h1 : (¬ (0 ≤ x1 ∧ x1 ≤ 1) ∧ e1 = -2 ∧ μ1 = bad μ) ∨ (x1 = 0 ∧ e1 = 1 ∧ ∃ m, SBC μ m 51 1 ∧ μ1 = wr m 51 2 1) ∨ (x1 = 1 ∧ e1 = 1 ∧ ∃ m, SBC μ m 101 1 ∧ μ1 = wr m 101 2 1)) : MF μ μ1 := by
  rcases h1 with ⟨p, rfl, rfl⟩ | ⟨rfl, rfl, m, hb, rfl⟩ | ⟨rfl, rfl, m, hb, rfl⟩
  · exact MF_bad _
  · exact (R.image0 hb).2
  · exact (R.image1 hb).2
theorem L_image {μ μ1 μ2 : gM} {e1 e2 x1 : Int} (R : Rel μ μ) (h1 : (¬ (0 ≤ x1 ∧ x1 ≤ 1) ∧ e1 = -2 ∧ μ1 = bad μ) ∨ (x1 = 0 ∧ e1 = 1 ∧ ∃ m, SBC μ m 51 1 ∧ μ1 = wr m 51 2 1) ∨ (x1 = 1 ∧ e1 = 1 ∧ ∃ m, SBC μ m 101 1 ∧ μ1 = wr m 101 2 1)) (h2 : (¬ (0 ≤ x1 ∧ x1 ≤ 1) ∧ e2 = -2 ∧ μ2 = rb μ1) ∨ ((0 ≤ x1 ∧ x1 ≤ 1) ∧ e2 = 1 ∧ μ2 = wr (rw_ μ1 169 (cX (μ1 169) (μ1 168) (382 * x1) 0 382)) 170 x1 1)) : e1 = e2 ∧ Rel μ2 μ2 := by
  have hM : MF μ μ1 := M_image R h1
  rcases h1 with ⟨p, rfl, rfl⟩ | ⟨rfl, rfl, m, hb, rfl⟩ | ⟨rfl, rfl, m, hb, rfl⟩ <;> rcases h2 with ⟨p2, rfl, rfl⟩ | ⟨p2, rfl, rfl⟩
  · exact ⟨rfl, zBB R⟩
  · first | exact absurd p p2 | exact absurd p2 p | omega
  · omega
  · exact ⟨rfl, ((R.mf hM).image0 hb).1.fin ((CF_rw (by omega)).trans (CF_wr (by omega)))⟩
  · omega
  · exact ⟨rfl, ((R.mf hM).image1 hb).1.fin ((CF_rw (by omega)).trans (CF_wr (by omega)))⟩
theorem M_from {μ μ1 : gM} {e1 x1 : Int} (R : Rel μ μ) (h1 : (¬ (0 ≤ x1 ∧ x1 ≤ 1) ∧ e1 = -2 ∧ μ1 = bad μ) ∨ (x1 = 0 ∧ μ 51 2 = 0 ∧ e1 = -3 ∧ μ1 = nop μ) ∨ (x1 = 0 ∧ μ 51 2 = 1 ∧ e1 = 1 ∧ SBC μ μ1 1 51) ∨ (x1 = 1 ∧ μ 101 2 = 0 ∧ e1 = -3 ∧ μ1 = nop μ) ∨ (x1 = 1 ∧ μ 101 2 = 1 ∧ e1 = 1 ∧ SBC μ μ1 1 101)) : MF μ μ1 := by
  rcases h1 with ⟨p, rfl, rfl⟩ | ⟨rfl, q, rfl, rfl⟩ | ⟨rfl, q, rfl, hb⟩ | ⟨rfl, q, rfl, rfl⟩ | ⟨rfl, q, rfl, hb⟩
  · exact MF_bad _
  · exact MF_nop _
  · exact (R.from0 q hb).2
  · exact MF_nop _
  · exact (R.from1 q hb).2
theorem L_from {μ μ1 μ2 : gM} {e1 e2 x1 : Int} (R : Rel μ μ) (h1 : (¬ (0 ≤ x1 ∧ x1 ≤ 1) ∧ e1 = -2 ∧ μ1 = bad μ) ∨ (x1 = 0 ∧ μ 51 2 = 0 ∧ e1 = -3 ∧ μ1 = nop μ) ∨ (x1 = 0 ∧ μ 51 2 = 1 ∧ e1 = 1 ∧ SBC μ μ1 1 51) ∨ (x1 = 1 ∧ μ 101 2 = 0 ∧ e1 = -3 ∧ μ1 = nop μ) ∨ (x1 = 1 ∧ μ 101 2 = 1 ∧ e1 = 1 ∧ SBC μ μ1 1 101)) (h2 : (¬ (0 ≤ x1 ∧ x1 ≤ 1) ∧ e2 = -2 ∧ μ2 = rb μ1) ∨ ((0 ≤ x1 ∧ x1 ≤ 1) ∧ μ1 170 x1 = 0 ∧ e2 = -3 ∧ μ2 = rn μ1) ∨ ((0 ≤ x1 ∧ x1 ≤ 1) ∧ μ1 170 x1 = 1 ∧ e2 = 1 ∧ μ2 = rw_ μ1 168 (cX (μ1 168) (μ1 169) 0 (382 * x1) 382))) : e1 = e2 ∧ Rel μ2 μ2 := by
  have hM : MF μ μ1 := M_from R h1
  have k5 := (R.mf hM).1.2.2.2.2.1.1
  have k10 := (R.mf hM).1.2.2.2.2.2.1
  rcases h1 with ⟨p, rfl, rfl⟩ | ⟨rfl, q, rfl, rfl⟩ | ⟨rfl, q, rfl, hb⟩ | ⟨rfl, q, rfl, rfl⟩ | ⟨rfl, q, rfl, hb⟩ <;> rcases h2 with ⟨p2, rfl, rfl⟩ | ⟨p2, q2, rfl, rfl⟩ | ⟨p2, q2, rfl, rfl⟩
  · exact ⟨rfl, zBB R⟩
  · first | exact absurd p p2 | exact absurd p2 p | omega
  · first | exact absurd p p2 | exact absurd p2 p | omega
  · omega
  · exact ⟨rfl, zNN R⟩
  · omega
  · omega
  · omega
  · exact ⟨rfl, ((R.mf hM).from0 q hb).1.fin (CF_rw (by omega))⟩
  · omega
  · exact ⟨rfl, zNN R⟩
  · omega
  · omega
  · omega
  · exact ⟨rfl, ((R.mf hM).from1 q hb).1.fin (CF_rw (by omega))⟩
theorem M_status {μ μ1 : gM} {e1 x1 : Int} (R : Rel μ μ) (h1 : (¬ (0 ≤ x1 ∧ x1 ≤ 2) ∧ e1 = -1 ∧ μ1 = bad μ) ∨ (x1 = 0 ∧ e1 = μ 0 6 ∧ μ = μ1) ∨ (x1 = 1 ∧ e1 = μ 0 7 ∧ μ = μ1) ∨ (x1 = 2 ∧ e1 = μ 0 8 ∧ μ = μ1)) : MF μ μ1 := by
  rcases h1 with ⟨p, rfl, rfl⟩ | ⟨rfl, rfl, rfl⟩ | ⟨rfl, rfl, rfl⟩ | ⟨rfl, rfl, rfl⟩
  · exact MF_bad _
  · exact MF_refl _
  · exact MF_refl _
  · exact MF_refl _
theorem L_status {μ μ1 μ2 : gM} {e1 e2 x1 : Int} (R : Rel μ μ) (h1 : (¬ (0 ≤ x1 ∧ x1 ≤ 2) ∧ e1 = -1 ∧ μ1 = bad μ) ∨ (x1 = 0 ∧ e1 = μ 0 6 ∧ μ = μ1) ∨ (x1 = 1 ∧ e1 = μ 0 7 ∧ μ = μ1) ∨ (x1 = 2 ∧ e1 = μ 0 8 ∧ μ = μ1)) (h2 : (¬ (0 ≤ x1 ∧ x1 ≤ 2) ∧ e2 = -1 ∧ μ2 = rb μ1) ∨ ((0 ≤ x1 ∧ x1 ≤ 2) ∧ e2 = μ1 171 x1 ∧ μ1 = μ2)) : e1 = e2 ∧ Rel μ2 μ2 := by
  rcases h1 with ⟨p, rfl, rfl⟩ | ⟨rfl, rfl, rfl⟩ | ⟨rfl, rfl, rfl⟩ | ⟨rfl, rfl, rfl⟩ <;> rcases h2 with ⟨p2, rfl, rfl⟩ | ⟨p2, rfl, rfl⟩
  · exact ⟨rfl, zBB R⟩
  · first | exact absurd p p2 | exact absurd p2 p | omega
  · omega
  · exact ⟨R.2.2.2.1, R⟩
  · omega
  · exact ⟨R.2.2.2.2.1, R⟩
  · omega
  · exact ⟨R.2.2.2.2.2, R⟩
theorem M_count {μ μ1 : gM} {e1 x1 : Int} (R : Rel μ μ) (h1 : (¬ (0 ≤ x1 ∧ x1 ≤ 5) ∧ e1 = -2 ∧ μ1 = bad μ) ∨ ((0 ≤ x1 ∧ x1 ≤ 5) ∧ e1 = cnt μ x1 ∧ μ = μ1)) : MF μ μ1 := by
  rcases h1 with ⟨p, rfl, rfl⟩ | ⟨p, rfl, rfl⟩
  · exact MF_bad _
  · exact MF_refl _
theorem L_count {μ μ1 μ2 : gM} {e1 e2 x1 : Int} (R : Rel μ μ) (h1 : (¬ (0 ≤ x1 ∧ x1 ≤ 5) ∧ e1 = -2 ∧ μ1 = bad μ) ∨ ((0 ≤ x1 ∧ x1 ≤ 5) ∧ e1 = cnt μ x1 ∧ μ = μ1)) (h2 : (¬ (0 ≤ x1 ∧ x1 ≤ 5) ∧ e2 = -2 ∧ μ2 = rb μ1) ∨ ((0 ≤ x1 ∧ x1 ≤ 5) ∧ e2 = cntm μ1 x1 ∧ μ1 = μ2)) : e1 = e2 ∧ Rel μ2 μ2 := by
  rcases h1 with ⟨p, rfl, rfl⟩ | ⟨p, rfl, rfl⟩ <;> rcases h2 with ⟨p2, rfl, rfl⟩ | ⟨p2, rfl, rfl⟩
  · exact ⟨rfl, zBB R⟩
  · first | exact absurd p p2 | exact absurd p2 p | omega
  · first | exact absurd p p2 | exact absurd p2 p | omega
  · exact ⟨R.cntE p, R⟩
theorem M_digest {μ μ1 : gM} {e1 : Int} (R : Rel μ μ) (h1 : e1 = dgs μ ∧ μ = μ1) : MF μ μ1 := by
  rcases h1 with ⟨rfl, rfl⟩
  exact MF_refl _
theorem L_digest {μ μ1 μ2 : gM} {e1 e2 : Int} (R : Rel μ μ) (h1 : e1 = dgs μ ∧ μ = μ1) (h2 : e2 = dgm μ1 ∧ μ1 = μ2) : e1 = e2 ∧ Rel μ2 μ2 := by
  rcases h1 with ⟨rfl, rfl⟩
  rcases h2 with ⟨rfl, rfl⟩
  exact ⟨R.dg, R⟩
