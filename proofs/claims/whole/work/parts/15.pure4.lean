theorem fb_le (v : gV) (s r sl w : Int) : fb v s r sl w ≤ v 3 (4 * r + 2 * sl + w) := by unfold fb; omega
theorem fb_yr {μ : gM} {c : Nat} {s k sl w : Int} (hk : 0 ≤ k) (hsl : 0 ≤ sl) (hw : 0 ≤ w) : fb (vw (yr μ c s k) c) s k sl w = fb (vw μ c) s k sl w :=
  fb_cg (fT_al s k sl (fun j h3 h2 => yr_o (by omega) (by omega)) (yr_2o (by omega))) (yr_3o (by omega))
theorem fb_yr2 {μ : gM} {c : Nat} {s k w x y : Int} (hk : 0 ≤ k) (hw : 0 ≤ w) : fb (vw (wr (wr (yr μ c s k) (c + 3) (4 * k + 2 * 0 + 0) x) (c + 3) (4 * k + 2 * 0 + 1) y) c) s k 1 w = fb (vw μ c) s k 1 w := by
  have e : ∀ j, j ≠ 3 → wr (wr (yr μ c s k) (c + 3) (4 * k + 2 * 0 + 0) x) (c + 3) (4 * k + 2 * 0 + 1) y (c + j) = yr μ c s k (c + j) := fun j hj => by rw [wr_o (by omega), wr_o (by omega)]
  refine fb_cg (fT_al s k 1 (fun j h3 h2 => (e j h3).trans (yr_o (by omega) (by omega))) ?_) ?_
  · show wr (wr (yr μ c s k) (c + 3) (4 * k + 2 * 0 + 0) x) (c + 3) (4 * k + 2 * 0 + 1) y (c + 2) k = _
    rw [e 2 (by decide)]
    exact yr_2o (by omega)
  · show wr (wr (yr μ c s k) (c + 3) (4 * k + 2 * 0 + 0) x) (c + 3) (4 * k + 2 * 0 + 1) y (c + 3) (4 * k + 2 * 1 + w) = _
    rw [wr_n (by omega), wr_n (by omega)]
    exact yr_3o (by omega)
theorem yr_sm {μ : gM} {c : Nat} {s r : Int} (hs : s = -1) (hr : 0 ≤ r) {y : Int} (hy : y = min (μ (c + 2) r + 1) 9) : wr (yr μ c s r) (c + 2) r y = yr μ c s (r + 1) := by
  have h := yr_s (μ := μ) (c := c) (s := s) hr _ _ _ _ y rfl rfl rfl rfl hy
  rw [if_pos hs, if_pos hs, if_pos hs, if_pos hs] at h
  rw [wr_same (i := 4 * r + 2 * 0 + 0) (by rw [yr_3o (by omega)]; omega), wr_same (i := 4 * r + 2 * 0 + 1) (by rw [yr_3o (by omega)]; omega), wr_same (i := 4 * r + 2 * 1 + 0) (by rw [yr_3o (by omega)]; omega), wr_same (i := 4 * r + 2 * 1 + 1) (by rw [yr_3o (by omega)]; omega)] at h
  exact h
theorem fY_s {v : gV} {k s : Int} (hk : 0 ≤ k) : fY v (k + 1) s = fY v k s + (if s = -1 then 0 else fb v s k 0 0 + fb v s k 0 1 + (fb v s k 1 0 + fb v s k 1 1)) := sI_s _ hk
theorem yr_0 (μ : gM) (c : Nat) (s : Int) : yr μ c s 0 = μ := by
  funext a j
  unfold yr
  rw [if_neg (by omega), if_neg (by omega)]
theorem fC_s {v : gV} {k : Int} (hk : 0 ≤ k) : fC v (k + 1) = fC v k + v 10 k := sI_s _ hk
/-- the storm of a draw: the first up to which the chances are more than x together, or none (-1) -/
def sAt (v : gV) (m x e : Int) : Prop := (0 ≤ e ∧ e < m ∧ x < fC v (e + 1) ∧ ∀ j, 0 ≤ j → j < e → fC v (j + 1) ≤ x) ∨ (e = -1 ∧ ∀ j, 0 ≤ j → j < m → fC v (j + 1) ≤ x)
theorem hnd_0 {v : gV} {r : Int} : hnd v 0 r ↔ v 4 r ≠ -1 := ⟨fun h => h.1, fun h => ⟨h, fun s h1 h2 => by omega⟩⟩
theorem hnd_s {v : gV} {k r : Int} (hk : 0 ≤ k) : hnd v (k + 1) r ↔ hnd v k r ∧ ¬ BT v k r := by
  constructor
  · intro h
    exact ⟨⟨h.1, fun s h1 h2 => h.2 s h1 (by omega)⟩, h.2 k hk (by omega)⟩
  · rintro ⟨⟨h0, h1⟩, h2⟩
    refine ⟨h0, fun s q1 q2 => ?_⟩
    by_cases e : s = k
    · subst e; exact h2
    · exact h1 s q1 (by omega)
theorem w_mu {g : gG} {l : Launch} {Y : gY} {d : Nat} {post : gQ} {pc : Nat} {lv : List (Option gA)} {st : List gA} {μ μ2 : gM} (h : μ2 = μ) (k : WA g l Y d post pc lv st μ2) : WA g l Y d post pc lv st μ := h ▸ k
