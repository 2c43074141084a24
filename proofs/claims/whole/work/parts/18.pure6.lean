/-- canton c of one memory holds what canton o of another holds -/
def CQ (μ2 : gM) (c : Nat) (μ : gM) (o : Nat) : Prop := (μ2 c 0 = μ o 0 ∧ μ2 c 1 = μ o 1 ∧ μ2 c 2 = μ o 2) ∧ (∀ k, 0 ≤ k → k < 7 → μ2 (c + 1) k = μ (o + 1) k) ∧ (∀ k, 0 ≤ k → k < 7 → μ2 (c + 2) k = μ (o + 2) k) ∧ (∀ k, 0 ≤ k → k < 28 → μ2 (c + 3) k = μ (o + 3) k) ∧ (∀ k, 0 ≤ k → k < 7 → μ2 (c + 4) k = μ (o + 4) k) ∧ (∀ k, 0 ≤ k → k < 7 → μ2 (c + 5) k = μ (o + 5) k) ∧ (∀ k, 0 ≤ k → k < 6 → μ2 (c + 6) k = μ (o + 6) k) ∧ (∀ k, 0 ≤ k → k < 6 → μ2 (c + 7) k = μ (o + 7) k) ∧ (∀ k, 0 ≤ k → k < 6 → μ2 (c + 8) k = μ (o + 8) k) ∧ (∀ k, 0 ≤ k → k < 6 → μ2 (c + 9) k = μ (o + 9) k) ∧ (∀ k, 0 ≤ k → k < 6 → μ2 (c + 10) k = μ (o + 10) k) ∧ (∀ k, 0 ≤ k → k < 7 → μ2 (c + 11) k = μ (o + 11) k)
theorem BC.cq {μ μ2 : gM} {c o : Nat} (h : BC μ μ2 c o) : CQ μ2 c μ o := by
  obtain ⟨h0, h1, h2, h3, h4, h5, h6, h7, h8, h9, h10, h11, h12, h13⟩ := h
  exact ⟨h1, h2, h3, h4, h5, h6, h7, h8, h9, h10, h11, h12⟩
theorem BC.fr {μ μ2 : gM} {c o : Nat} (h : BC μ μ2 c o) {a : Nat} (ha : a < c ∨ c + 12 ≤ a) : μ2 a = μ a := h.1 a ha
theorem BC.ci {μ μ2 : gM} {c o : Nat} (h : BC μ μ2 c o) : CI μ2 c := by
  obtain ⟨h0, h1, h2, h3, h4, h5, h6, h7, h8, h9, h10, h11, h12, h13⟩ := h
  exact h13
theorem CI_fr {μ μ2 : gM} {c : Nat} (h : ∀ i, i < 12 → μ2 (c + i) = μ (c + i)) (hI : CI μ c) : CI μ2 c := by
  have e0 : μ2 c = μ c := h 0 (by decide)
  unfold CI at hI ⊢
  rw [e0, h 1 (by decide), h 2 (by decide), h 3 (by decide), h 4 (by decide), h 5 (by decide), h 6 (by decide), h 7 (by decide), h 8 (by decide), h 9 (by decide), h 10 (by decide), h 11 (by decide)]
  exact hI
theorem CQ_fr {μ μ2 ν ν2 : gM} {c o : Nat} (h : ∀ i, i < 12 → ν2 (c + i) = μ2 (c + i)) (h' : ∀ i, i < 12 → ν (o + i) = μ (o + i)) (hq : CQ μ2 c μ o) : CQ ν2 c ν o := by
  have e0 : ν2 c = μ2 c := h 0 (by decide)
  have f0 : ν o = μ o := h' 0 (by decide)
  unfold CQ at hq ⊢
  rw [e0, f0, h 1 (by decide), h 2 (by decide), h 3 (by decide), h 4 (by decide), h 5 (by decide), h 6 (by decide), h 7 (by decide), h 8 (by decide), h 9 (by decide), h 10 (by decide), h 11 (by decide), h' 1 (by decide), h' 2 (by decide), h' 3 (by decide), h' 4 (by decide), h' 5 (by decide), h' 6 (by decide), h' 7 (by decide), h' 8 (by decide), h' 9 (by decide), h' 10 (by decide), h' 11 (by decide)]
  exact hq
def AI (μ : gM) : Prop := ∀ c, cn c → CI μ c
theorem cn_st {c st i : Nat} (hc : cn c) (hs : sn st) (hi : i < 12) : c + i ≠ st ∧ c + i ≠ st + 1 := by
  have h := cn_all (p := fun c => (List.range 12).all (fun i => decide (c + i ≠ 1 ∧ c + i ≠ 2 ∧ c + i ≠ 51 ∧ c + i ≠ 52 ∧ c + i ≠ 101 ∧ c + i ≠ 102))) (by decide) hc
  have h2 := List.all_eq_true.mp h i (List.mem_range.mpr hi)
  simp only [decide_eq_true_eq] at h2
  rcases hs with rfl | rfl | rfl <;> omega
theorem cn_cn {c o : Nat} (hc : cn c) (ho : cn o) (hne : c ≠ o) : c + 12 ≤ o ∨ o + 12 ≤ c := by
  have h := cn_all (p := fun c => cnL.all (fun o => decide (c ≠ o → c + 12 ≤ o ∨ o + 12 ≤ c))) (by decide) hc
  have h2 := List.all_eq_true.mp h o ho
  simp only [decide_eq_true_eq] at h2
  exact h2 hne
theorem AI_fr {μ μ2 : gM} (h : ∀ c, cn c → ∀ i, i < 12 → μ2 (c + i) = μ (c + i)) (hA : AI μ) : AI μ2 := fun c hc => CI_fr (h c hc) (hA c hc)
theorem AI_st {μ : gM} {st a : Nat} {i x : Int} (hs : sn st) (ha : a = st ∨ a = st + 1) (hA : AI μ) : AI (wr μ a i x) :=
  AI_fr (fun c hc j hj => by
    have := cn_st hc hs hj
    exact wr_o (by omega)) hA
theorem AI_BC {μ μ2 : gM} {c o : Nat} (hc : cn c) (h : BC μ μ2 c o) (hA : AI μ) : AI μ2 := by
  intro d hd
  by_cases e : d = c
  · subst e; exact h.ci
  · have := cn_cn hd hc e
    exact CI_fr (fun i hi => h.fr (by omega)) (hA d hd)
/-- the three cantons of the past, in some order -/
def PS (μ : gM) (st : Nat) : Prop := (∀ j : Int, 0 ≤ j → j < 3 → μ (st + 1) j = st + 14 ∨ μ (st + 1) j = st + 26 ∨ μ (st + 1) j = st + 38) ∧ μ (st + 1) 0 ≠ μ (st + 1) 1 ∧ μ (st + 1) 0 ≠ μ (st + 1) 2 ∧ μ (st + 1) 1 ≠ μ (st + 1) 2
theorem psC {μ : gM} {st : Nat} {j : Int} (hs : sn st) (hp : PS μ st) (hj : 0 ≤ j ∧ j < 3) : cn (μ (st + 1) j).toNat := by
  have h := hp.1 j hj.1 hj.2
  rcases hs with rfl | rfl | rfl <;> (rcases h with h | h | h <;> (rw [h]; unfold cn; decide))
theorem psR {μ : gM} {st : Nat} {j : Int} (hp : PS μ st) (hj : 0 ≤ j ∧ j < 3) : ((μ (st + 1) j).toNat = st + 14 ∨ (μ (st + 1) j).toNat = st + 26 ∨ (μ (st + 1) j).toNat = st + 38) ∧ ((μ (st + 1) j).toNat : Int) = μ (st + 1) j := by
  have h := hp.1 j hj.1 hj.2
  omega
theorem PS_fr {μ μ2 : gM} {st : Nat} (h : μ2 (st + 1) = μ (st + 1)) (hp : PS μ st) : PS μ2 st := by
  unfold PS at hp ⊢
  rw [h]
  exact hp
theorem psD {μ : gM} {st : Nat} {i j : Int} (hp : PS μ st) (hi : 0 ≤ i ∧ i < 3) (hj : 0 ≤ j ∧ j < 3) (h : i ≠ j) : (μ (st + 1) i).toNat ≠ (μ (st + 1) j).toNat := by
  have a := psR hp hi
  have b := psR hp hj
  obtain ⟨-, h1, h2, h3⟩ := hp
  have hi3 : i = 0 ∨ i = 1 ∨ i = 2 := by omega
  have hj3 : j = 0 ∨ j = 1 ∨ j = 2 := by omega
  rcases hi3 with rfl | rfl | rfl <;> rcases hj3 with rfl | rfl | rfl <;> omega
def mFO (μ : gM) (st : Nat) : gM := wr (wr (wr (wr μ (st + 1) 0 ((μ (st + 1) 1).toNat : Int)) (st + 1) 1 ((μ (st + 1) 2).toNat : Int)) (st + 1) 2 ((μ (st + 1) 0).toNat : Int)) st 1 2
theorem mFO_o {μ : gM} {st a : Nat} (h : a ≠ st) (h1 : a ≠ st + 1) : mFO μ st a = μ a := by
  unfold mFO
  rw [wr_o h, wr_o h1, wr_o h1, wr_o h1]
theorem mFO_p {μ : gM} {st : Nat} : mFO μ st (st + 1) 0 = ((μ (st + 1) 1).toNat : Int) ∧ mFO μ st (st + 1) 1 = ((μ (st + 1) 2).toNat : Int) ∧ mFO μ st (st + 1) 2 = ((μ (st + 1) 0).toNat : Int) := by
  unfold mFO
  rw [wr_o (by omega)]
  simp [wr]
theorem mFO_u {μ : gM} {st : Nat} : mFO μ st st 1 = 2 ∧ ∀ j, j ≠ 1 → mFO μ st st j = μ st j := by
  unfold mFO
  refine ⟨wr_s, fun j hj => ?_⟩
  rw [wr_n hj, wr_o (by omega), wr_o (by omega), wr_o (by omega)]
theorem mFO_PS {μ : gM} {st : Nat} (hp : PS μ st) : PS (mFO μ st) st := by
  obtain ⟨e0, e1, e2⟩ := mFO_p (μ := μ) (st := st)
  have r0 := psR (j := 0) hp (by decide)
  have r1 := psR (j := 1) hp (by decide)
  have r2 := psR (j := 2) hp (by decide)
  obtain ⟨-, d1, d2, d3⟩ := hp
  refine ⟨fun j h1 h2 => ?_, by omega, by omega, by omega⟩
  rcases (by omega : j = 0 ∨ j = 1 ∨ j = 2) with rfl | rfl | rfl <;> omega
theorem mFO_AI {μ : gM} {st : Nat} (hs : sn st) (hA : AI μ) : AI (mFO μ st) :=
  AI_st hs (Or.inl rfl) (AI_st hs (Or.inr rfl) (AI_st hs (Or.inr rfl) (AI_st hs (Or.inr rfl) hA)))
