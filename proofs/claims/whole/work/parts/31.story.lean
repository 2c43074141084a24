set_option maxRecDepth 100000 in
set_option maxHeartbeats 4000000 in
theorem c_X3_forgetOldest {g : gG} {l : Launch} {μ : gM} {st : Nat} (hs : sn st)  (hp : PS μ st) : CT g l YX3_forgetOldest 0 [vR st] μ (pV fun μ2 => μ2 = mFO μ st) := by
  refine CT.of (n := 1) (by decide) rfl ?_
  show WA g l YX3_forgetOldest 0 _ 0 [some (vR st), none] [] μ
  refine w_aload_n dX3_forgetOldest_0 rfl ?_
  refine gf_X3_18 rfl (snO hs) dX3_forgetOldest_1 ?_
  refine w_iconst dX3_forgetOldest_4 ?_
  refine w_aald (snP hs) (by omega) dX3_forgetOldest_5 ?_
  refine w_astore_n dX3_forgetOldest_6 (by decide) rfl ?_
  refine w_aload_n dX3_forgetOldest_7 rfl ?_
  refine gf_X3_18 rfl (snO hs) dX3_forgetOldest_8 ?_
  refine w_iconst dX3_forgetOldest_11 ?_
  refine w_aload_n dX3_forgetOldest_12 rfl ?_
  refine gf_X3_18 rfl (snO hs) dX3_forgetOldest_13 ?_
  refine w_iconst dX3_forgetOldest_16 ?_
  refine w_aald (snP hs) (by omega) dX3_forgetOldest_17 ?_
  refine w_aast (snP hs) (cnO (psC hs hp (by decide))) (by omega) dX3_forgetOldest_18 ?_
  refine w_aload_n dX3_forgetOldest_19 rfl ?_
  refine gf_X3_18 rfl (snO hs) dX3_forgetOldest_20 ?_
  refine w_iconst dX3_forgetOldest_23 ?_
  refine w_aload_n dX3_forgetOldest_24 rfl ?_
  refine gf_X3_18 rfl (snO hs) dX3_forgetOldest_25 ?_
  refine w_iconst dX3_forgetOldest_28 ?_
  refine w_aald (snP hs) (by omega) dX3_forgetOldest_29 ?_
  rw [wr_n (by decide)]
  refine w_aast (snP hs) (cnO (psC hs hp (by decide))) (by omega) dX3_forgetOldest_30 ?_
  refine w_aload_n dX3_forgetOldest_31 rfl ?_
  refine gf_X3_18 rfl (snO hs) dX3_forgetOldest_32 ?_
  refine w_iconst dX3_forgetOldest_35 ?_
  refine w_aload_n dX3_forgetOldest_36 rfl ?_
  refine w_aast (snP hs) (cnO (psC hs hp (by decide))) (by omega) dX3_forgetOldest_37 ?_
  refine w_aload_n dX3_forgetOldest_38 rfl ?_
  refine w_iconst dX3_forgetOldest_39 ?_
  refine pf_X3_22 rfl (snO hs) dX3_forgetOldest_40 ?_
  exact w_vretP rfl dX3_forgetOldest_43 (by rfl)
set_option maxRecDepth 100000 in
set_option maxHeartbeats 4000000 in
theorem c_X3_remember {g : gG} {l : Launch} {μ : gM} {st : Nat} (hs : sn st)  (hA : AI μ) (hp : PS μ st) (hu : 0 ≤ μ st 1 ∧ μ st 1 ≤ 3) : CT g l YX3_remember 2 [vR st] μ (pV fun μ2 => ∃ μ1 μ3, ((μ1 = μ ∧ μ st 1 < 3) ∨ (μ1 = mFO μ st ∧ μ st 1 = 3)) ∧ BC μ1 μ3 (μ1 (st + 1) (μ1 st 1)).toNat (st + 2) ∧ μ2 = wr μ3 st 1 (μ1 st 1 + 1)) := by
  refine CT.of (n := 0) (by decide) rfl ?_
  show WA g l YX3_remember 2 _ 0 [some (vR st)] [] μ
  have key : ∀ μ1 : gM, ((μ1 = μ ∧ μ st 1 < 3) ∨ (μ1 = mFO μ st ∧ μ st 1 = 3)) → AI μ1 → PS μ1 st → 0 ≤ μ1 st 1 ∧ μ1 st 1 < 3 → WA g l YX3_remember 2 (pV fun μ2 => ∃ μ1 μ3, ((μ1 = μ ∧ μ st 1 < 3) ∨ (μ1 = mFO μ st ∧ μ st 1 = 3)) ∧ BC μ1 μ3 (μ1 (st + 1) (μ1 st 1)).toNat (st + 2) ∧ μ2 = wr μ3 st 1 (μ1 st 1 + 1)) 12 [some (vR st)] [] μ1 := by
    intro μ1 hc1 hA1 hp1 hu1
    refine w_aload_n dX3_remember_12 rfl ?_
    refine gf_X3_18 rfl (snO hs) dX3_remember_13 ?_
    refine w_aload_n dX3_remember_16 rfl ?_
    refine gf_X3_22 rfl (snO hs) dX3_remember_17 ?_
    refine w_aald (snP hs) hu1 dX3_remember_20 ?_
    refine w_aload_n dX3_remember_21 rfl ?_
    refine gf_X3_12 rfl (snO hs) dX3_remember_22 ?_
    refine w_cV1 kX0_become ml_X3_29 (cnO (psC hs hp1 hu1)) rfl (Nat.le_of_ble_eq_true rfl) (by decide) dX3_remember_25 (c_X0_become (psC hs hp1 hu1) (snC hs) (hA1 _ (psC hs hp1 hu1)) (hA1 _ (snC hs)) (by have := psR hp1 hu1; omega)) (kU (fun m25 q25 => ?_))
    obtain q25 := q25
    have e3 : m25 st = μ1 st := q25.fr (by have := psR hp1 hu1; omega)
    refine w_aload_n dX3_remember_28 rfl ?_
    refine w_dup_a dX3_remember_29 ?_
    refine gf_X3_22 rfl (snO hs) dX3_remember_30 ?_
    refine w_iconst dX3_remember_33 ?_
    rw [e3]
    refine w_iadd dX3_remember_34 ?_
    refine pf_X3_22 rfl (snO hs) dX3_remember_35 ?_
    exact w_vretP rfl dX3_remember_38 (by exact ⟨μ1, m25, hc1, q25, rfl⟩)
  refine w_aload_n dX3_remember_0 rfl ?_
  refine gf_X3_22 rfl (snO hs) dX3_remember_1 ?_
  refine w_iconst dX3_remember_4 ?_
  refine w_icmp_lt (tgt := 12) (by omega) (by omega) dX3_remember_5 (by decide) (fun h5 => ?_) (fun h5 => ?_)
  · first | exact key _ (Or.inl ⟨rfl, by omega⟩) hA hp (by omega) | exact key _ (Or.inr ⟨rfl, by omega⟩) (mFO_AI hs hA) (mFO_PS hp) (by rw [mFO_u.1]; decide)
  · refine w_aload_n dX3_remember_8 rfl ?_
    refine w_cV0 kX3_forgetOldest ml_X3_26 (snO hs) rfl (Nat.le_of_ble_eq_true rfl) (by decide) dX3_remember_9 (c_X3_forgetOldest hs hp) (kU (fun m9 q9 => ?_))
    obtain rfl := q9
    first | exact key _ (Or.inl ⟨rfl, by omega⟩) hA hp (by omega) | exact key _ (Or.inr ⟨rfl, by omega⟩) (mFO_AI hs hA) (mFO_PS hp) (by rw [mFO_u.1]; decide)
set_option maxRecDepth 100000 in
set_option maxHeartbeats 4000000 in
theorem c_X3_goBack {g : gG} {l : Launch} {μ : gM} {st : Nat} (hs : sn st)  (hA : AI μ) (hp : PS μ st) (hu : 0 ≤ μ st 1 ∧ μ st 1 ≤ 3) : CT g l YX3_goBack 2 [vR st] μ (pI fun e μ2 => (e = 0 ∧ μ st 1 = 0 ∧ μ = μ2) ∨ (e = 1 ∧ 0 < μ st 1 ∧ BC (wr μ st 1 (μ st 1 - 1)) μ2 (st + 2) (μ (st + 1) (μ st 1 - 1)).toNat)) := by
  refine CT.of (n := 0) (by decide) rfl ?_
  show WA g l YX3_goBack 2 _ 0 [some (vR st)] [] μ
  refine w_aload_n dX3_goBack_0 rfl ?_
  refine gf_X3_22 rfl (snO hs) dX3_goBack_1 ?_
  refine w_if_gt (tgt := 9) (by omega) dX3_goBack_4 (by decide) (fun h4 => ?_) (fun h4 => ?_)
  · refine w_aload_n dX3_goBack_9 rfl ?_
    refine w_dup_a dX3_goBack_10 ?_
    refine gf_X3_22 rfl (snO hs) dX3_goBack_11 ?_
    refine w_iconst dX3_goBack_14 ?_
    refine w_isub dX3_goBack_15 ?_
    refine pf_X3_22 rfl (snO hs) dX3_goBack_16 ?_
    have hA1 : AI (wr μ st 1 (μ st 1 - 1)) := AI_st hs (Or.inl rfl) hA
    have e1 : wr μ st 1 (μ st 1 - 1) (st + 1) = μ (st + 1) := wr_o (by omega)
    have hp1 : PS (wr μ st 1 (μ st 1 - 1)) st := PS_fr e1 hp
    have hi1 : 0 ≤ μ st 1 - 1 ∧ μ st 1 - 1 < 3 := by omega
    refine w_aload_n dX3_goBack_19 rfl ?_
    refine gf_X3_12 rfl (snO hs) dX3_goBack_20 ?_
    refine w_aload_n dX3_goBack_23 rfl ?_
    refine gf_X3_18 rfl (snO hs) dX3_goBack_24 ?_
    refine w_aload_n dX3_goBack_27 rfl ?_
    refine gf_X3_22 rfl (snO hs) dX3_goBack_28 ?_
    rw [wr_s]
    refine w_aald (snP hs) hi1 dX3_goBack_31 ?_
    rw [e1]
    refine w_cV1 kX0_become ml_X3_29 (cnO (snC hs)) rfl (Nat.le_of_ble_eq_true rfl) (by decide) dX3_goBack_32 (c_X0_become (snC hs) (psC hs hp hi1) (hA1 _ (snC hs)) (hA1 _ (psC hs hp hi1)) (by have := psR hp hi1; omega)) (kU (fun m32 q32 => ?_))
    obtain q32 := q32
    refine w_iconst dX3_goBack_35 ?_
    exact w_zretP rfl dX3_goBack_36 (by omega) (by right; exact ⟨rfl, by omega, q32⟩)
  · refine w_iconst dX3_goBack_7 ?_
    exact w_zretP rfl dX3_goBack_8 (by omega) (by left; exact ⟨rfl, by omega, rfl⟩)
/-- a story has become another -/
def SBC (μ μ2 : gM) (st ot : Nat) : Prop := (∀ a : Nat, (a < st ∨ st + 50 ≤ a) → μ2 a = μ a) ∧ μ2 (st + 1) = μ (st + 1) ∧ μ2 st 1 = μ ot 1 ∧ μ2 st 2 = μ st 2 ∧ CQ μ2 (st + 2) μ (ot + 2) ∧ (∀ j : Int, 0 ≤ j → j < μ ot 1 → CQ μ2 (μ (st + 1) j).toNat μ (μ (ot + 1) j).toNat) ∧ AI μ2
def SBI (μ m : gM) (st ot : Nat) (k : Int) : Prop := (∀ a : Nat, (a < st ∨ st + 50 ≤ a) → m a = μ a) ∧ m (st + 1) = μ (st + 1) ∧ m st 1 = μ ot 1 ∧ m st 2 = μ st 2 ∧ CQ m (st + 2) μ (ot + 2) ∧ (∀ j : Int, 0 ≤ j → j < k → CQ m (μ (st + 1) j).toNat μ (μ (ot + 1) j).toNat) ∧ AI m
theorem SBI_s {μ m m2 : gM} {st ot : Nat} {k : Int} (hs : sn st) (ho : sn ot) (hd : st ≠ ot) (hp : PS μ st) (hpo : PS μ ot) (hk : 0 ≤ k ∧ k < 3) (h : SBI μ m st ot k) (hb : BC m m2 (μ (st + 1) k).toNat (μ (ot + 1) k).toNat) : SBI μ m2 st ot (k + 1) := by
  obtain ⟨h1, h2, h3, h4, h5, h6, h7⟩ := h
  have r := psR hp hk
  have ro := psR hpo hk
  have hso : st + 50 ≤ ot ∨ ot + 50 ≤ st := by
    rcases hs with rfl | rfl | rfl <;> rcases ho with rfl | rfl | rfl <;> omega
  refine ⟨fun a ha => ?_, ?_, ?_, ?_, ?_, fun j q1 q2 => ?_, AI_BC (psC hs hp hk) hb h7⟩
  · rw [hb.fr (by omega), h1 a ha]
  · rw [hb.fr (by omega), h2]
  · rw [hb.fr (by omega), h3]
  · rw [hb.fr (by omega), h4]
  · exact CQ_fr (fun i hi => hb.fr (by omega)) (fun i hi => rfl) h5
  · by_cases e : j = k
    · subst e
      exact CQ_fr (fun i hi => rfl) (fun i hi => (h1 _ (by omega)).symm) hb.cq
    · have rj := psR (j := j) hp (by omega)
      have hne := psD hp (i := j) (j := k) (by omega) hk e
      exact CQ_fr (fun i hi => hb.fr (by omega)) (fun i hi => rfl) (h6 j q1 (by omega))
theorem SBI_0 {μ m : gM} {st ot : Nat} (hs : sn st) (ho : sn ot) (hd : st ≠ ot) (hA : AI μ) (hb : BC μ m (st + 2) (ot + 2)) : SBI μ (wr m st 1 (m ot 1)) st ot 0 := by
  have hso : st + 50 ≤ ot ∨ ot + 50 ≤ st := by
    rcases hs with rfl | rfl | rfl <;> rcases ho with rfl | rfl | rfl <;> omega
  refine ⟨fun a ha => ?_, ?_, ?_, ?_, ?_, fun j q1 q2 => by omega, AI_st hs (Or.inl rfl) (AI_BC (snC hs) hb hA)⟩
  · rw [wr_o (by omega), hb.fr (by omega)]
  · rw [wr_o (by omega), hb.fr (by omega)]
  · rw [wr_s, hb.fr (by omega)]
  · rw [wr_n (by decide), hb.fr (by omega)]
  · exact CQ_fr (fun i hi => wr_o (by omega)) (fun i hi => rfl) hb.cq
set_option maxRecDepth 100000 in
set_option maxHeartbeats 4000000 in
theorem c_X3_become {g : gG} {l : Launch} {μ : gM} {st : Nat} (hs : sn st) {ot : Nat} (ho : sn ot)  (hA : AI μ) (hp : PS μ st) (hpo : PS μ ot) (hd : st ≠ ot) (hu : 0 ≤ μ ot 1 ∧ μ ot 1 ≤ 3) : CT g l YX3_become 2 [vR st, vR ot] μ (pV fun μ2 => SBC μ μ2 st ot) := by
  have hso : st + 50 ≤ ot ∨ ot + 50 ≤ st := by
    rcases hs with rfl | rfl | rfl <;> rcases ho with rfl | rfl | rfl <;> omega
  refine CT.of (n := 1) (by decide) rfl ?_
  show WA g l YX3_become 2 _ 0 [some (vR st), some (vR ot), none] [] μ
  refine w_aload_n dX3_become_0 rfl ?_
  refine gf_X3_12 rfl (snO hs) dX3_become_1 ?_
  refine w_aload_n dX3_become_4 rfl ?_
  refine gf_X3_12 rfl (snO ho) dX3_become_5 ?_
  refine w_cV1 kX0_become ml_X3_29 (cnO (snC hs)) rfl (Nat.le_of_ble_eq_true rfl) (by decide) dX3_become_8 (c_X0_become (snC hs) (snC ho) (hA _ (snC hs)) (hA _ (snC ho)) (by omega)) (kU (fun m8 q8 => ?_))
  obtain q8 := q8
  refine w_aload_n dX3_become_11 rfl ?_
  refine w_aload_n dX3_become_12 rfl ?_
  refine gf_X3_22 rfl (snO ho) dX3_become_13 ?_
  refine pf_X3_22 rfl (snO hs) dX3_become_16 ?_
  refine w_iconst dX3_become_19 ?_
  refine w_istore_n dX3_become_20 (by decide) rfl ?_
  refine w_loop (ι := gM × Int) (fun i => match i with | (m, k) => 0 ≤ k ∧ k ≤ μ ot 1 ∧ SBI μ m st ot k) (fun i => match i with | (m, k) => (μ ot 1 - k).toNat) (fun i => match i with | (m, k) => [some (vR st), some (vR ot), some (vI k)]) (fun i => match i with | (m, k) => m) ?_ (_, 0) ⟨by omega, by omega, SBI_0 hs ho hd hA q8⟩
  intro i_ hinv21 ih21
  obtain ⟨m, k⟩ := i_
  try dsimp only at hinv21 ih21 ⊢
  obtain ⟨a1, a2, a3⟩ := hinv21
  obtain ⟨b1, b2, b3, b4, b5, b6, b7⟩ := id a3
  refine w_iload_n dX3_become_21 rfl ?_
  refine w_aload_n dX3_become_22 rfl ?_
  refine gf_X3_22 rfl (snO hs) dX3_become_23 ?_
  rw [b3]
  refine w_icmp_ge (tgt := 50) (by omega) (by omega) dX3_become_26 (by decide) (fun h26 => ?_) (fun h26 => ?_)
  · exact w_vretP rfl dX3_become_50 (by have e0 : k = μ ot 1 := (by omega); subst e0; exact a3)
  · have hk : 0 ≤ k ∧ k < 3 := by omega
    refine w_aload_n dX3_become_29 rfl ?_
    refine gf_X3_18 rfl (snO hs) dX3_become_30 ?_
    refine w_iload_n dX3_become_33 rfl ?_
    refine w_aald (snP hs) hk dX3_become_34 ?_
    rw [b2]
    refine w_aload_n dX3_become_35 rfl ?_
    refine gf_X3_18 rfl (snO ho) dX3_become_36 ?_
    refine w_iload_n dX3_become_39 rfl ?_
    refine w_aald (snP ho) hk dX3_become_40 ?_
    rw [b1 (ot + 1) (by omega)]
    refine w_cV1 kX0_become ml_X3_29 (cnO (psC hs hp hk)) rfl (Nat.le_of_ble_eq_true rfl) (by decide) dX3_become_41 (c_X0_become (psC hs hp hk) (psC ho hpo hk) (b7 _ (psC hs hp hk)) (b7 _ (psC ho hpo hk)) (by have := psR hp hk; have := psR hpo hk; omega)) (kU (fun m41 q41 => ?_))
    obtain q41 := q41
    refine w_iinc dX3_become_44 rfl (by decide) rfl ?_
    refine w_goto (tgt := 21) dX3_become_47 (by decide) ?_
    exact ih21 (_, _) ⟨by omega, by omega, SBI_s hs ho hd hp hpo hk a3 q41⟩ (by omega)
