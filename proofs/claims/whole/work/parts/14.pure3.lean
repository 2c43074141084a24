theorem cpy_in {μ : gM} {a0 a1 : Nat} {n j : Int} (h : 0 ≤ j ∧ j < n) : cpy μ a0 a1 n a1 j = μ a0 j := by
  unfold cpy
  exact if_pos ⟨rfl, h⟩
theorem cpy_out {μ : gM} {a0 a1 : Nat} {n j : Int} (h : ¬ (0 ≤ j ∧ j < n)) : cpy μ a0 a1 n a1 j = μ a1 j := by
  unfold cpy
  exact if_neg (fun q => h q.2)
def mB3 (μ : gM) (c o : Nat) : gM := wr (wr (wr μ c 0 (μ o 0)) c 1 (wr μ c 0 (μ o 0) o 1)) c 2 (wr (wr μ c 0 (μ o 0)) c 1 (wr μ c 0 (μ o 0) o 1) o 2)
theorem mB3_o {μ : gM} {c o a : Nat} (h : a ≠ c) : mB3 μ c o a = μ a := by
  unfold mB3
  rw [wr_o h, wr_o h, wr_o h]
theorem mB3_f {μ : gM} {c o : Nat} (h : o ≠ c) : mB3 μ c o c 0 = μ o 0 ∧ mB3 μ c o c 1 = μ o 1 ∧ mB3 μ c o c 2 = μ o 2 := by
  unfold mB3
  rw [wr_o h, wr_o h, wr_o h]
  simp [wr]
def mBC (μ : gM) (c o : Nat) : gM := (cpy (cpy (cpy (cpy (cpy (cpy (cpy (cpy (cpy (cpy (cpy (mB3 μ c o) (o + 1) (c + 1) 7) (o + 2) (c + 2) 7) (o + 3) (c + 3) 28) (o + 4) (c + 4) 7) (o + 5) (c + 5) 7) (o + 6) (c + 6) 6) (o + 7) (c + 7) 6) (o + 8) (c + 8) 6) (o + 9) (c + 9) 6) (o + 10) (c + 10) 6) (o + 11) (c + 11) 7)
/-- a canton has become another -/
def BC (μ μ2 : gM) (c o : Nat) : Prop := (∀ a : Nat, (a < c ∨ c + 12 ≤ a) → μ2 a = μ a) ∧ (μ2 c 0 = μ o 0 ∧ μ2 c 1 = μ o 1 ∧ μ2 c 2 = μ o 2) ∧ (∀ k, 0 ≤ k → k < 7 → μ2 (c + 1) k = μ (o + 1) k) ∧ (∀ k, 0 ≤ k → k < 7 → μ2 (c + 2) k = μ (o + 2) k) ∧ (∀ k, 0 ≤ k → k < 28 → μ2 (c + 3) k = μ (o + 3) k) ∧ (∀ k, 0 ≤ k → k < 7 → μ2 (c + 4) k = μ (o + 4) k) ∧ (∀ k, 0 ≤ k → k < 7 → μ2 (c + 5) k = μ (o + 5) k) ∧ (∀ k, 0 ≤ k → k < 6 → μ2 (c + 6) k = μ (o + 6) k) ∧ (∀ k, 0 ≤ k → k < 6 → μ2 (c + 7) k = μ (o + 7) k) ∧ (∀ k, 0 ≤ k → k < 6 → μ2 (c + 8) k = μ (o + 8) k) ∧ (∀ k, 0 ≤ k → k < 6 → μ2 (c + 9) k = μ (o + 9) k) ∧ (∀ k, 0 ≤ k → k < 6 → μ2 (c + 10) k = μ (o + 10) k) ∧ (∀ k, 0 ≤ k → k < 7 → μ2 (c + 11) k = μ (o + 11) k) ∧ CI μ2 c
theorem mBC_BC {μ : gM} {c o : Nat} (hI : CI μ c) (hO : CI μ o) (hd : c + 12 ≤ o ∨ o + 12 ≤ c) : BC μ (mBC μ c o) c o := by
  have hne : o ≠ c := by omega
  unfold mBC
  refine ⟨fun a ha => ?_, ?_, fun k h1 h2 => ?_, fun k h1 h2 => ?_, fun k h1 h2 => ?_, fun k h1 h2 => ?_, fun k h1 h2 => ?_, fun k h1 h2 => ?_, fun k h1 h2 => ?_, fun k h1 h2 => ?_, fun k h1 h2 => ?_, fun k h1 h2 => ?_, fun k h1 h2 => ?_, ?_⟩
  · rw [cpy_o (by omega), cpy_o (by omega), cpy_o (by omega), cpy_o (by omega), cpy_o (by omega), cpy_o (by omega), cpy_o (by omega), cpy_o (by omega), cpy_o (by omega), cpy_o (by omega), cpy_o (by omega), mB3_o (by omega)]
  · rw [cpy_o (by omega), cpy_o (by omega), cpy_o (by omega), cpy_o (by omega), cpy_o (by omega), cpy_o (by omega), cpy_o (by omega), cpy_o (by omega), cpy_o (by omega), cpy_o (by omega), cpy_o (by omega)]
    exact mB3_f hne
  · rw [cpy_o (by omega), cpy_o (by omega), cpy_o (by omega), cpy_o (by omega), cpy_o (by omega), cpy_o (by omega), cpy_o (by omega), cpy_o (by omega), cpy_o (by omega), cpy_o (by omega), cpy_in ⟨h1, h2⟩, mB3_o (by omega)]
  · rw [cpy_o (by omega), cpy_o (by omega), cpy_o (by omega), cpy_o (by omega), cpy_o (by omega), cpy_o (by omega), cpy_o (by omega), cpy_o (by omega), cpy_o (by omega), cpy_in ⟨h1, h2⟩, cpy_o (by omega), mB3_o (by omega)]
  · rw [cpy_o (by omega), cpy_o (by omega), cpy_o (by omega), cpy_o (by omega), cpy_o (by omega), cpy_o (by omega), cpy_o (by omega), cpy_o (by omega), cpy_in ⟨h1, h2⟩, cpy_o (by omega), cpy_o (by omega), mB3_o (by omega)]
  · rw [cpy_o (by omega), cpy_o (by omega), cpy_o (by omega), cpy_o (by omega), cpy_o (by omega), cpy_o (by omega), cpy_o (by omega), cpy_in ⟨h1, h2⟩, cpy_o (by omega), cpy_o (by omega), cpy_o (by omega), mB3_o (by omega)]
  · rw [cpy_o (by omega), cpy_o (by omega), cpy_o (by omega), cpy_o (by omega), cpy_o (by omega), cpy_o (by omega), cpy_in ⟨h1, h2⟩, cpy_o (by omega), cpy_o (by omega), cpy_o (by omega), cpy_o (by omega), mB3_o (by omega)]
  · rw [cpy_o (by omega), cpy_o (by omega), cpy_o (by omega), cpy_o (by omega), cpy_o (by omega), cpy_in ⟨h1, h2⟩, cpy_o (by omega), cpy_o (by omega), cpy_o (by omega), cpy_o (by omega), cpy_o (by omega), mB3_o (by omega)]
  · rw [cpy_o (by omega), cpy_o (by omega), cpy_o (by omega), cpy_o (by omega), cpy_in ⟨h1, h2⟩, cpy_o (by omega), cpy_o (by omega), cpy_o (by omega), cpy_o (by omega), cpy_o (by omega), cpy_o (by omega), mB3_o (by omega)]
  · rw [cpy_o (by omega), cpy_o (by omega), cpy_o (by omega), cpy_in ⟨h1, h2⟩, cpy_o (by omega), cpy_o (by omega), cpy_o (by omega), cpy_o (by omega), cpy_o (by omega), cpy_o (by omega), cpy_o (by omega), mB3_o (by omega)]
  · rw [cpy_o (by omega), cpy_o (by omega), cpy_in ⟨h1, h2⟩, cpy_o (by omega), cpy_o (by omega), cpy_o (by omega), cpy_o (by omega), cpy_o (by omega), cpy_o (by omega), cpy_o (by omega), cpy_o (by omega), mB3_o (by omega)]
  · rw [cpy_o (by omega), cpy_in ⟨h1, h2⟩, cpy_o (by omega), cpy_o (by omega), cpy_o (by omega), cpy_o (by omega), cpy_o (by omega), cpy_o (by omega), cpy_o (by omega), cpy_o (by omega), cpy_o (by omega), mB3_o (by omega)]
  · rw [cpy_in ⟨h1, h2⟩, cpy_o (by omega), cpy_o (by omega), cpy_o (by omega), cpy_o (by omega), cpy_o (by omega), cpy_o (by omega), cpy_o (by omega), cpy_o (by omega), cpy_o (by omega), cpy_o (by omega), mB3_o (by omega)]
  · obtain ⟨g1, g2, g3⟩ := mB3_f (μ := μ) hne
    have e0 : (cpy (cpy (cpy (cpy (cpy (cpy (cpy (cpy (cpy (cpy (cpy (mB3 μ c o) (o + 1) (c + 1) 7) (o + 2) (c + 2) 7) (o + 3) (c + 3) 28) (o + 4) (c + 4) 7) (o + 5) (c + 5) 7) (o + 6) (c + 6) 6) (o + 7) (c + 7) 6) (o + 8) (c + 8) 6) (o + 9) (c + 9) 6) (o + 10) (c + 10) 6) (o + 11) (c + 11) 7) c = mB3 μ c o c := by rw [cpy_o (by omega), cpy_o (by omega), cpy_o (by omega), cpy_o (by omega), cpy_o (by omega), cpy_o (by omega), cpy_o (by omega), cpy_o (by omega), cpy_o (by omega), cpy_o (by omega), cpy_o (by omega)]
    refine ⟨?_, ?_, fun k => ?_, fun k => ?_, fun k => ?_, fun k => ?_, fun k => ?_, fun k => ?_, fun k => ?_, fun k => ?_, fun k => ?_, fun k => ?_, fun k => ?_⟩
    · rw [e0, g1]; exact CI_roofs hO
    · rw [e0, g2]; exact CI_storms hO
    · by_cases q : 0 ≤ k ∧ k < 7
      · rw [cpy_o (by omega), cpy_o (by omega), cpy_o (by omega), cpy_o (by omega), cpy_o (by omega), cpy_o (by omega), cpy_o (by omega), cpy_o (by omega), cpy_o (by omega), cpy_o (by omega), cpy_in q, mB3_o (by omega)]; exact CI_kind hO k
      · rw [cpy_o (by omega), cpy_o (by omega), cpy_o (by omega), cpy_o (by omega), cpy_o (by omega), cpy_o (by omega), cpy_o (by omega), cpy_o (by omega), cpy_o (by omega), cpy_o (by omega), cpy_out q, mB3_o (by omega)]; exact CI_kind hI k
    · by_cases q : 0 ≤ k ∧ k < 7
      · rw [cpy_o (by omega), cpy_o (by omega), cpy_o (by omega), cpy_o (by omega), cpy_o (by omega), cpy_o (by omega), cpy_o (by omega), cpy_o (by omega), cpy_o (by omega), cpy_in q, cpy_o (by omega), mB3_o (by omega)]; exact CI_age hO k
      · rw [cpy_o (by omega), cpy_o (by omega), cpy_o (by omega), cpy_o (by omega), cpy_o (by omega), cpy_o (by omega), cpy_o (by omega), cpy_o (by omega), cpy_o (by omega), cpy_out q, cpy_o (by omega), mB3_o (by omega)]; exact CI_age hI k
    · by_cases q : 0 ≤ k ∧ k < 28
      · rw [cpy_o (by omega), cpy_o (by omega), cpy_o (by omega), cpy_o (by omega), cpy_o (by omega), cpy_o (by omega), cpy_o (by omega), cpy_o (by omega), cpy_in q, cpy_o (by omega), cpy_o (by omega), mB3_o (by omega)]; exact CI_cover hO k
      · rw [cpy_o (by omega), cpy_o (by omega), cpy_o (by omega), cpy_o (by omega), cpy_o (by omega), cpy_o (by omega), cpy_o (by omega), cpy_o (by omega), cpy_out q, cpy_o (by omega), cpy_o (by omega), mB3_o (by omega)]; exact CI_cover hI k
    · by_cases q : 0 ≤ k ∧ k < 7
      · rw [cpy_o (by omega), cpy_o (by omega), cpy_o (by omega), cpy_o (by omega), cpy_o (by omega), cpy_o (by omega), cpy_o (by omega), cpy_in q, cpy_o (by omega), cpy_o (by omega), cpy_o (by omega), mB3_o (by omega)]; exact CI_blue hO k
      · rw [cpy_o (by omega), cpy_o (by omega), cpy_o (by omega), cpy_o (by omega), cpy_o (by omega), cpy_o (by omega), cpy_o (by omega), cpy_out q, cpy_o (by omega), cpy_o (by omega), cpy_o (by omega), mB3_o (by omega)]; exact CI_blue hI k
    · by_cases q : 0 ≤ k ∧ k < 7
      · rw [cpy_o (by omega), cpy_o (by omega), cpy_o (by omega), cpy_o (by omega), cpy_o (by omega), cpy_o (by omega), cpy_in q, cpy_o (by omega), cpy_o (by omega), cpy_o (by omega), cpy_o (by omega), mB3_o (by omega)]; exact CI_brown hO k
      · rw [cpy_o (by omega), cpy_o (by omega), cpy_o (by omega), cpy_o (by omega), cpy_o (by omega), cpy_o (by omega), cpy_out q, cpy_o (by omega), cpy_o (by omega), cpy_o (by omega), cpy_o (by omega), mB3_o (by omega)]; exact CI_brown hI k
    · by_cases q : 0 ≤ k ∧ k < 6
      · rw [cpy_o (by omega), cpy_o (by omega), cpy_o (by omega), cpy_o (by omega), cpy_o (by omega), cpy_in q, cpy_o (by omega), cpy_o (by omega), cpy_o (by omega), cpy_o (by omega), cpy_o (by omega), mB3_o (by omega)]; exact CI_first hO k
      · rw [cpy_o (by omega), cpy_o (by omega), cpy_o (by omega), cpy_o (by omega), cpy_o (by omega), cpy_out q, cpy_o (by omega), cpy_o (by omega), cpy_o (by omega), cpy_o (by omega), cpy_o (by omega), mB3_o (by omega)]; exact CI_first hI k
    · by_cases q : 0 ≤ k ∧ k < 6
      · rw [cpy_o (by omega), cpy_o (by omega), cpy_o (by omega), cpy_o (by omega), cpy_in q, cpy_o (by omega), cpy_o (by omega), cpy_o (by omega), cpy_o (by omega), cpy_o (by omega), cpy_o (by omega), mB3_o (by omega)]; exact CI_last hO k
      · rw [cpy_o (by omega), cpy_o (by omega), cpy_o (by omega), cpy_o (by omega), cpy_out q, cpy_o (by omega), cpy_o (by omega), cpy_o (by omega), cpy_o (by omega), cpy_o (by omega), cpy_o (by omega), mB3_o (by omega)]; exact CI_last hI k
    · by_cases q : 0 ≤ k ∧ k < 6
      · rw [cpy_o (by omega), cpy_o (by omega), cpy_o (by omega), cpy_in q, cpy_o (by omega), cpy_o (by omega), cpy_o (by omega), cpy_o (by omega), cpy_o (by omega), cpy_o (by omega), cpy_o (by omega), mB3_o (by omega)]; exact CI_wind hO k
      · rw [cpy_o (by omega), cpy_o (by omega), cpy_o (by omega), cpy_out q, cpy_o (by omega), cpy_o (by omega), cpy_o (by omega), cpy_o (by omega), cpy_o (by omega), cpy_o (by omega), cpy_o (by omega), mB3_o (by omega)]; exact CI_wind hI k
    · by_cases q : 0 ≤ k ∧ k < 6
      · rw [cpy_o (by omega), cpy_o (by omega), cpy_in q, cpy_o (by omega), cpy_o (by omega), cpy_o (by omega), cpy_o (by omega), cpy_o (by omega), cpy_o (by omega), cpy_o (by omega), cpy_o (by omega), mB3_o (by omega)]; exact CI_size hO k
      · rw [cpy_o (by omega), cpy_o (by omega), cpy_out q, cpy_o (by omega), cpy_o (by omega), cpy_o (by omega), cpy_o (by omega), cpy_o (by omega), cpy_o (by omega), cpy_o (by omega), cpy_o (by omega), mB3_o (by omega)]; exact CI_size hI k
    · by_cases q : 0 ≤ k ∧ k < 6
      · rw [cpy_o (by omega), cpy_in q, cpy_o (by omega), cpy_o (by omega), cpy_o (by omega), cpy_o (by omega), cpy_o (by omega), cpy_o (by omega), cpy_o (by omega), cpy_o (by omega), cpy_o (by omega), mB3_o (by omega)]; exact CI_chance hO k
      · rw [cpy_o (by omega), cpy_out q, cpy_o (by omega), cpy_o (by omega), cpy_o (by omega), cpy_o (by omega), cpy_o (by omega), cpy_o (by omega), cpy_o (by omega), cpy_o (by omega), cpy_o (by omega), mB3_o (by omega)]; exact CI_chance hI k
    · by_cases q : 0 ≤ k ∧ k < 7
      · rw [cpy_in q, cpy_o (by omega), cpy_o (by omega), cpy_o (by omega), cpy_o (by omega), cpy_o (by omega), cpy_o (by omega), cpy_o (by omega), cpy_o (by omega), cpy_o (by omega), cpy_o (by omega), mB3_o (by omega)]; exact CI_guns hO k
      · rw [cpy_out q, cpy_o (by omega), cpy_o (by omega), cpy_o (by omega), cpy_o (by omega), cpy_o (by omega), cpy_o (by omega), cpy_o (by omega), cpy_o (by omega), cpy_o (by omega), cpy_o (by omega), mB3_o (by omega)]; exact CI_guns hI k
