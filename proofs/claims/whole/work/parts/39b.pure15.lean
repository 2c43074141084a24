/-- a canton told flat, as the model holds it -/
def CR (μ : gM) (c : Nat) (K : Int → Int) (y : Int) : Prop := (μ c 0 = K 93 ∧ μ c 1 = K 94 ∧ μ c 2 = y) ∧ (∀ r, 0 ≤ r → r < K 93 → μ (c + 1) r = K (8 * r) ∧ μ (c + 2) r = K (8 * r + 1) ∧ μ (c + 4) r = K (8 * r + 6) ∧ μ (c + 5) r = K (8 * r + 7)) ∧ (∀ r j, 0 ≤ r → r < K 93 → 0 ≤ j → j < 4 → μ (c + 3) (4 * r + j) = K (8 * r + 2 + j)) ∧ (∀ s, 0 ≤ s → s < K 94 → μ (c + 6) s = K (56 + 5 * s) ∧ μ (c + 7) s = K (56 + 5 * s + 1) ∧ μ (c + 8) s = K (56 + 5 * s + 2) ∧ μ (c + 9) s = K (56 + 5 * s + 3) ∧ μ (c + 10) s = K (56 + 5 * s + 4)) ∧ (∀ p, 0 ≤ p → p < 7 → μ (c + 11) p = K (86 + p))
def kup (K : Int → Int) (i x : Int) : Int → Int := fun j => if j = i then x else K j
theorem kup_s {K : Int → Int} {i x : Int} : kup K i x i = x := by simp [kup]
theorem kup_n {K : Int → Int} {i j x : Int} (h : j ≠ i) : kup K i x j = K j := by simp [kup, h]
def kAR (K : Int → Int) (n k a b0 n0 b1 n1 : Int) : Int → Int := kup (kup (kup (kup (kup (kup (kup (kup (kup K (8 * n) k) (8 * n + 1) a) (8 * n + 2) b0) (8 * n + 3) n0) (8 * n + 4) b1) (8 * n + 5) n1) (8 * n + 6) (-1)) (8 * n + 7) (-1)) 93 (n + 1)
def kAS (K : Int → Int) (n f t w z h : Int) : Int → Int := kup (kup (kup (kup (kup (kup K (56 + 5 * n) f) (56 + 5 * n + 1) t) (56 + 5 * n + 2) w) (56 + 5 * n + 3) z) (56 + 5 * n + 4) h) 94 (n + 1)
theorem CR_AR {μ : gM} {c : Nat} {K : Int → Int} {y n k a b0 n0 b1 n1 : Int} (h : CR μ c K y) (hn : n = K 93) (h0 : 0 ≤ n ∧ n < 7) (hs : 0 ≤ K 94 ∧ K 94 ≤ 6) : CR (mAR μ c n k a b0 n0 b1 n1) c (kAR K n k a b0 n0 b1 n1) y := by
  obtain ⟨⟨h1, h2, h3⟩, h4, h5, h6, h7⟩ := h
  have e93 : kAR K n k a b0 n0 b1 n1 93 = n + 1 := kup_s
  have e94 : kAR K n k a b0 n0 b1 n1 94 = K 94 := by
    unfold kAR
    rw [kup_n (by omega), kup_n (by omega), kup_n (by omega), kup_n (by omega), kup_n (by omega), kup_n (by omega), kup_n (by omega), kup_n (by omega), kup_n (by omega)]
  have ko : ∀ j, (j < 8 * n ∨ (8 * n + 8 ≤ j ∧ j ≠ 93)) → kAR K n k a b0 n0 b1 n1 j = K j := by
    intro j hj
    unfold kAR
    rw [kup_n (by omega), kup_n (by omega), kup_n (by omega), kup_n (by omega), kup_n (by omega), kup_n (by omega), kup_n (by omega), kup_n (by omega), kup_n (by omega)]
  have mo : ∀ i, 6 ≤ i → mAR μ c n k a b0 n0 b1 n1 (c + i) = μ (c + i) := fun i hi => mAR_o (by omega)
  refine ⟨⟨?_, ?_, ?_⟩, fun r q1 q2 => ?_, fun r j q1 q2 q3 q4 => ?_, fun s q1 q2 => ?_, fun p q1 q2 => ?_⟩
  · rw [e93]; unfold mAR; exact wr_s
  · rw [e94]; unfold mAR; simp [wr, h2]
  · unfold mAR; simp [wr, h3]
  · rw [e93] at q2
    by_cases e : r = n
    · subst e
      unfold mAR kAR kup wr
      refine ⟨?_, ?_, ?_, ?_⟩
      · simp; (repeat' split) <;> omega
      · simp; (repeat' split) <;> omega
      · simp; (repeat' split) <;> omega
      · simp; (repeat' split) <;> omega
    · have := h4 r q1 (by omega)
      rw [ko _ (by omega), ko _ (by omega), ko _ (by omega), ko _ (by omega)]
      unfold mAR wr
      simp [e, this]
  · rw [e93] at q2
    by_cases e : r = n
    · subst e
      have hj4 : j = 0 ∨ j = 1 ∨ j = 2 ∨ j = 3 := by omega
      rcases hj4 with rfl | rfl | rfl | rfl
      · unfold mAR kAR kup wr; simp; (repeat' split) <;> omega
      · unfold mAR kAR kup wr; simp; (repeat' split) <;> omega
      · unfold mAR kAR kup wr; simp; (repeat' split) <;> omega
      · unfold mAR kAR kup wr; simp; (repeat' split) <;> omega
    · have := h5 r j q1 (by omega) q3 q4
      rw [ko _ (by omega), ← this]
      unfold mAR wr
      simp
      (repeat' split) <;> omega
  · rw [e94] at q2
    rw [mo 6 (by decide), mo 7 (by decide), mo 8 (by decide), mo 9 (by decide), mo 10 (by decide), ko _ (by omega), ko _ (by omega), ko _ (by omega), ko _ (by omega), ko _ (by omega)]
    exact h6 s q1 q2
  · rw [mo 11 (by decide), ko _ (by omega)]
    exact h7 p q1 q2
theorem CR_AS {μ : gM} {c : Nat} {K : Int → Int} {y n f t w z h : Int} (hC : CR μ c K y) (hn : n = K 94) (h0 : 0 ≤ n ∧ n < 6) (hr : 0 ≤ K 93 ∧ K 93 ≤ 7) : CR (mAS μ c n f t w z h) c (kAS K n f t w z h) y := by
  obtain ⟨⟨h1, h2, h3⟩, h4, h5, h6, h7⟩ := hC
  have e94 : kAS K n f t w z h 94 = n + 1 := kup_s
  have ko : ∀ j, (j < 56 + 5 * n ∨ (56 + 5 * n + 5 ≤ j ∧ j ≠ 94)) → kAS K n f t w z h j = K j := by
    intro j hj
    unfold kAS
    rw [kup_n (by omega), kup_n (by omega), kup_n (by omega), kup_n (by omega), kup_n (by omega), kup_n (by omega)]
  have mo : ∀ i, (0 < i ∧ i < 6) ∨ 11 ≤ i → mAS μ c n f t w z h (c + i) = μ (c + i) := fun i hi => mAS_o (by omega)
  have e93 : kAS K n f t w z h 93 = K 93 := ko 93 (by omega)
  refine ⟨⟨?_, ?_, ?_⟩, fun r q1 q2 => ?_, fun r j q1 q2 q3 q4 => ?_, fun s q1 q2 => ?_, fun p q1 q2 => ?_⟩
  · rw [e93]; unfold mAS; simp [wr, h1]
  · rw [e94]; unfold mAS; exact wr_s
  · unfold mAS; simp [wr, h3]
  · rw [e93] at q2
    rw [mo 1 (by decide), mo 2 (by decide), mo 4 (by decide), mo 5 (by decide), ko _ (by omega), ko _ (by omega), ko _ (by omega), ko _ (by omega)]
    exact h4 r q1 q2
  · rw [e93] at q2
    rw [mo 3 (by decide), ko _ (by omega)]
    exact h5 r j q1 q2 q3 q4
  · rw [e94] at q2
    by_cases e : s = n
    · subst e
      unfold mAS kAS kup wr
      refine ⟨?_, ?_, ?_, ?_, ?_⟩
      · simp; (repeat' split) <;> omega
      · simp; (repeat' split) <;> omega
      · simp; (repeat' split) <;> omega
      · simp; (repeat' split) <;> omega
      · simp; (repeat' split) <;> omega
    · have := h6 s q1 (by omega)
      rw [ko _ (by omega), ko _ (by omega), ko _ (by omega), ko _ (by omega), ko _ (by omega)]
      unfold mAS wr
      simp [e, this]
  · rw [mo 11 (by decide), ko _ (by omega)]
    exact h7 p q1 q2
theorem CR_gun {μ : gM} {c : Nat} {K : Int → Int} {y p x : Int} (h : CR μ c K y) (hp : 0 ≤ p ∧ p < 7) (hr : K 93 ≤ 7) (hs : K 94 ≤ 6) : CR (wr μ (c + 11) p x) c (kup K (86 + p) x) y := by
  obtain ⟨⟨h1, h2, h3⟩, h4, h5, h6, h7⟩ := h
  have e93 : kup K (86 + p) x 93 = K 93 := kup_n (by omega)
  have e94 : kup K (86 + p) x 94 = K 94 := kup_n (by omega)
  have mo : ∀ i, i ≠ 11 → wr μ (c + 11) p x (c + i) = μ (c + i) := fun i hi => wr_o (by omega)
  have m0 : wr μ (c + 11) p x c = μ c := wr_o (by omega)
  refine ⟨⟨?_, ?_, ?_⟩, fun r q1 q2 => ?_, fun r j q1 q2 q3 q4 => ?_, fun s q1 q2 => ?_, fun r q1 q2 => ?_⟩
  · rw [m0, e93, h1]
  · rw [m0, e94, h2]
  · rw [m0, h3]
  · rw [e93] at q2
    rw [mo 1 (by decide), mo 2 (by decide), mo 4 (by decide), mo 5 (by decide), kup_n (by omega), kup_n (by omega), kup_n (by omega), kup_n (by omega)]
    exact h4 r q1 q2
  · rw [e93] at q2
    rw [mo 3 (by decide), kup_n (by omega)]
    exact h5 r j q1 q2 q3 q4
  · rw [e94] at q2
    rw [mo 6 (by decide), mo 7 (by decide), mo 8 (by decide), mo 9 (by decide), mo 10 (by decide), kup_n (by omega), kup_n (by omega), kup_n (by omega), kup_n (by omega), kup_n (by omega)]
    exact h6 s q1 q2
  · by_cases e : r = p
    · subst e; rw [wr_s, kup_s]
    · rw [wr_n e, kup_n (by omega)]
      exact h7 r q1 q2
theorem CR_fr {μ μ2 : gM} {c : Nat} {K : Int → Int} {y : Int} (h : ∀ i, i < 12 → μ2 (c + i) = μ (c + i)) (hC : CR μ c K y) : CR μ2 c K y := by
  have e0 : μ2 c = μ c := h 0 (by decide)
  unfold CR at hC ⊢
  rw [e0, h 1 (by decide), h 2 (by decide), h 3 (by decide), h 4 (by decide), h 5 (by decide), h 6 (by decide), h 7 (by decide), h 8 (by decide), h 9 (by decide), h 10 (by decide), h 11 (by decide)]
  exact hC
theorem SC_fr {μ μ2 : gM} {c : Nat} (h : ∀ i, i < 12 → μ2 (c + i) = μ (c + i)) (hC : SC μ c) : SC μ2 c := by
  have e0 : μ2 c = μ c := h 0 (by decide)
  refine ⟨CI_fr h hC.1, ?_, ?_⟩
  · rw [e0, h 3 (by decide)]; exact hC.2.1
  · rw [e0, h 10 (by decide)]; exact hC.2.2
