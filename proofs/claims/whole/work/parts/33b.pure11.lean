theorem BC_n {μ m : gM} {c o : Nat} (h : BC μ m c o) : m c 0 = μ o 0 ∧ m c 1 = μ o 1 ∧ m c 2 = μ o 2 := h.2.1
theorem kE {M : gM} {k : Int} : vw (wr (wr M (155 + 3) (4 * 0 + 2 * k + 1) (M (155 + 3) (4 * 0 + 2 * k + 1) - 1)) (155 + 3) (4 * 0 + 2 * k + 0) (M (155 + 3) (4 * 0 + 2 * k + 0) + 1)) 155 = pv (vw M 155) k := vw_wr3 rfl rfl
/-- the drawing under way -/
def DI (μ mm : gM) (n m : Int) (v : gV) (seed x a k : Int) : Prop := x = (dwI v n m seed k).1 ∧ a = (dwI v n m seed k).2.1 ∧ VA (vw mm 155) (dwI v n m seed k).2.2 n m ∧ mm 155 0 = n ∧ mm 155 1 = m ∧ CI mm 155 ∧ (∀ a : Nat, (a < 155 ∨ 167 ≤ a) → mm a = μ a) ∧ (0 ≤ x ∧ x < 2147483648) ∧ fC (vw mm 155) m = fC v m
theorem CI_yr2 {μ : gM} {c : Nat} {x : Int} (h : CI μ c) : CI (wr μ c 2 x) c := by
  have e : ∀ j, j ≠ 0 → wr μ c 2 x (c + j) = μ (c + j) := fun j hj => wr_o (by omega)
  obtain ⟨h1, h2, h3, h4, h5, h6, h7, h8, h9, h10, h11, h12, h13⟩ := h
  unfold CI
  rw [wr_n (by decide), wr_n (by decide), e 1 (by decide), e 2 (by decide), e 3 (by decide), e 4 (by decide), e 5 (by decide), e 6 (by decide), e 7 (by decide), e 8 (by decide), e 9 (by decide), e 10 (by decide), e 11 (by decide)]
  exact ⟨h1, h2, h3, h4, h5, h6, h7, h8, h9, h10, h11, h12, h13⟩
theorem vw_yr2 {μ : gM} {c : Nat} {x n m : Int} : VA (vw (wr μ c 2 x) c) (vw μ c) n m := by
  have e : ∀ j, j ≠ 0 → vw (wr μ c 2 x) c j = vw μ c j := fun j hj => wr_o (by omega)
  refine ⟨fun i a b => ?_, fun i a b => ?_, fun i a b => ?_, fun i a b => ?_⟩
  · rw [e 1 (by decide), e 2 (by decide), e 4 (by decide), e 5 (by decide)]
    exact ⟨rfl, rfl, rfl, rfl⟩
  · rw [e 3 (by decide)]
  · rw [e 6 (by decide), e 7 (by decide), e 8 (by decide), e 9 (by decide), e 10 (by decide)]
    exact ⟨rfl, rfl, rfl, rfl, rfl⟩
  · rw [e 11 (by decide)]
theorem DI_s {μ mm : gM} {n m : Int} {v : gV} {seed x a k s a2 : Int} (hn : 0 ≤ n ∧ n ≤ 7) (hk : 0 ≤ k) (h : DI μ mm n m v seed x a k) (hs : s = ds (dwI v n m seed k).2.2 m x) (hsr : s = -1 ∨ (0 ≤ s ∧ s < m)) (ha : a2 = a + dg (dwI v n m seed k).2.2 n s) (y : Int) :
    DI μ (wr (yr mm 155 s n) 155 2 y) n m v seed ((x * 1103515245 + 12345) % 2147483648) a2 (k + 1) := by
  obtain ⟨h1, h2, h3, h4, h5, h6, h7, h8, h9⟩ := h
  have e := dwI_s (v := v) (n := n) (m := m) (seed := seed) hk
  have hyo : yr mm 155 s n 155 = mm 155 := yr_o (by decide) (by decide)
  refine ⟨?_, ?_, ?_, ?_, ?_, CI_yr2 (yr_CI h6), fun a ha => ?_, by omega, ?_⟩
  · rw [e, ← h1]; rfl
  · rw [e, ← h1, ← hs, ha, h2]
  · rw [e, ← h1, ← hs]
    refine vw_yr2.trans ?_
    rw [vw_yr]
    exact VA_yv h3 hn.2 hsr
  · rw [wr_n (by decide), hyo, h4]
  · rw [wr_n (by decide), hyo, h5]
  · rw [wr_o (by omega), yr_o (by omega) (by omega), h7 a ha]
  · rw [← h9]
    refine sI_cg (fun k _ _ => ?_)
    show wr (yr mm 155 s n) 155 2 y (155 + 10) k = mm (155 + 10) k
    rw [wr_o (by decide), yr_o (by decide) (by decide)]
