theorem SC_AR {μ : gM} {c : Nat} {n k a b0 n0 b1 n1 : Int} (h : SC μ c) (hn : n = μ c 0) (h7 : n < 7) (hk : 0 ≤ k ∧ k ≤ 5) (ha : 0 ≤ a ∧ a ≤ 9) (hb0 : 0 ≤ b0 ∧ b0 ≤ 9) (hn0 : 0 ≤ n0 ∧ n0 ≤ 9) (hb1 : 0 ≤ b1 ∧ b1 ≤ 9) (hn1 : 0 ≤ n1 ∧ n1 ≤ 9) : SC (mAR μ c n k a b0 n0 b1 n1) c := by
  have hI := h.1
  have hR := CI_roofs hI
  have hS := CI_storms hI
  have mo : ∀ i, 6 ≤ i → mAR μ c n k a b0 n0 b1 n1 (c + i) = μ (c + i) := fun i hi => mAR_o (by omega)
  have e0 : mAR μ c n k a b0 n0 b1 n1 c 0 = n + 1 := wr_s
  have e1 : mAR μ c n k a b0 n0 b1 n1 c 1 = μ c 1 := by unfold mAR; simp [wr]
  have x1 : ∀ j, mAR μ c n k a b0 n0 b1 n1 (c + 1) j = if j = n then k else μ (c + 1) j := by intro j; unfold mAR; simp [wr]
  have x2 : ∀ j, mAR μ c n k a b0 n0 b1 n1 (c + 2) j = if j = n then a else μ (c + 2) j := by intro j; unfold mAR; simp [wr]
  have x3 : ∀ j, mAR μ c n k a b0 n0 b1 n1 (c + 3) j = if j = 4 * n + 2 * 1 + 1 then n1 else if j = 4 * n + 2 * 1 + 0 then b1 else if j = 4 * n + 2 * 0 + 1 then n0 else if j = 4 * n + 2 * 0 + 0 then b0 else μ (c + 3) j := by intro j; unfold mAR; simp [wr]
  have x4 : ∀ j, mAR μ c n k a b0 n0 b1 n1 (c + 4) j = if j = n then -1 else μ (c + 4) j := by intro j; unfold mAR; simp [wr]
  have x5 : ∀ j, mAR μ c n k a b0 n0 b1 n1 (c + 5) j = if j = n then -1 else μ (c + 5) j := by intro j; unfold mAR; simp [wr]
  refine ⟨⟨by rw [e0]; omega, by rw [e1]; exact hS, fun j => ?_, fun j => ?_, fun j => ?_, fun j => ?_, fun j => ?_, ?_, ?_, ?_, ?_, ?_, ?_⟩, fun j j1 j2 => ?_, ?_⟩
  · have := CI_kind hI j; rw [x1]; split <;> omega
  · have := CI_age hI j; rw [x2]; split <;> omega
  · have := CI_cover hI j; rw [x3]; (repeat' split) <;> omega
  · have := CI_blue hI j; rw [x4]; split <;> omega
  · have := CI_brown hI j; rw [x5]; split <;> omega
  · rw [mo 6 (by decide)]; exact CI_first hI
  · rw [mo 7 (by decide)]; exact CI_last hI
  · rw [mo 8 (by decide)]; exact CI_wind hI
  · rw [mo 9 (by decide)]; exact CI_size hI
  · rw [mo 10 (by decide)]; exact CI_chance hI
  · rw [mo 11 (by decide)]; exact CI_guns hI
  · rw [e0] at j2
    have := h.2.1 j j1
    rw [x3]; (repeat' split) <;> omega
  · rw [e1, mo 10 (by decide)]; exact h.2.2
theorem SC_AS {μ : gM} {c : Nat} {n f t w z y : Int} (h : SC μ c) (hn : n = μ c 1) (h6 : n < 6) (hf : 0 ≤ f ∧ f ≤ 6) (ht : 0 ≤ t ∧ t ≤ 6) (hw : 0 ≤ w ∧ w ≤ 1) (hz : 0 ≤ z ∧ z ≤ 9) (hy : 1 ≤ y ∧ y ≤ 9) : SC (mAS μ c n f t w z y) c := by
  have hI := h.1
  have hR := CI_roofs hI
  have hS := CI_storms hI
  have mo : ∀ i, (0 < i ∧ i < 6) ∨ 11 ≤ i → mAS μ c n f t w z y (c + i) = μ (c + i) := fun i hi => mAS_o (by omega)
  have e0 : mAS μ c n f t w z y c 0 = μ c 0 := by unfold mAS; simp [wr]
  have e1 : mAS μ c n f t w z y c 1 = n + 1 := wr_s
  have x6 : ∀ j, mAS μ c n f t w z y (c + 6) j = if j = n then f else μ (c + 6) j := by intro j; unfold mAS; simp [wr]
  have x7 : ∀ j, mAS μ c n f t w z y (c + 7) j = if j = n then t else μ (c + 7) j := by intro j; unfold mAS; simp [wr]
  have x8 : ∀ j, mAS μ c n f t w z y (c + 8) j = if j = n then w else μ (c + 8) j := by intro j; unfold mAS; simp [wr]
  have x9 : ∀ j, mAS μ c n f t w z y (c + 9) j = if j = n then z else μ (c + 9) j := by intro j; unfold mAS; simp [wr]
  have x10 : ∀ j, mAS μ c n f t w z y (c + 10) j = if j = n then y else μ (c + 10) j := by intro j; unfold mAS; simp [wr]
  refine ⟨⟨by rw [e0]; exact hR, by rw [e1]; omega, ?_, ?_, ?_, ?_, ?_, fun j => ?_, fun j => ?_, fun j => ?_, fun j => ?_, fun j => ?_, ?_⟩, ?_, fun j j1 j2 => ?_⟩
  · rw [mo 1 (by decide)]; exact CI_kind hI
  · rw [mo 2 (by decide)]; exact CI_age hI
  · rw [mo 3 (by decide)]; exact CI_cover hI
  · rw [mo 4 (by decide)]; exact CI_blue hI
  · rw [mo 5 (by decide)]; exact CI_brown hI
  · have := CI_first hI j; rw [x6]; split <;> omega
  · have := CI_last hI j; rw [x7]; split <;> omega
  · have := CI_wind hI j; rw [x8]; split <;> omega
  · have := CI_size hI j; rw [x9]; split <;> omega
  · have := CI_chance hI j; rw [x10]; split <;> omega
  · rw [mo 11 (by decide)]; exact CI_guns hI
  · rw [e0, mo 3 (by decide)]; exact h.2.1
  · rw [e1] at j2
    have := h.2.2 j j1
    rw [x10]; split <;> omega
theorem SC_gun {μ : gM} {c : Nat} {p x : Int} (h : SC μ c) (hx : 0 ≤ x ∧ x ≤ 1) : SC (wr μ (c + 11) p x) c := by
  have e0 : wr μ (c + 11) p x c = μ c := wr_o (by omega)
  refine ⟨CI_guns_wr h.1 hx, ?_, ?_⟩
  · rw [e0, wr_o (by omega)]; exact h.2.1
  · rw [e0, wr_o (by omega)]; exact h.2.2
/-- what stands once a canton was emptied -/
def mEm (μ : gM) (c : Nat) : gM := mz (wr (wr (wr μ c 0 0) c 1 0) c 2 0) (c + 11) 7
theorem mEm_o {μ : gM} {c i : Nat} (h : i ≠ c) (h2 : i ≠ c + 11) : mEm μ c i = μ i := by
  unfold mEm
  rw [mz_o h2, wr_o h, wr_o h, wr_o h]
theorem mEm_g {μ : gM} {c : Nat} (j : Int) : mEm μ c (c + 11) j = if 0 ≤ j ∧ j < 7 then 0 else μ (c + 11) j := by
  unfold mEm mz
  simp [wr]
theorem mEm_0 {μ : gM} {c : Nat} : mEm μ c c 0 = 0 ∧ mEm μ c c 1 = 0 ∧ mEm μ c c 2 = 0 := by
  unfold mEm mz
  refine ⟨?_, ?_, ?_⟩ <;> simp [wr]
theorem SC_em {μ : gM} {c : Nat} (h : CI μ c) : SC (mEm μ c) c := by
  obtain ⟨z0, z1, z2⟩ := mEm_0 (μ := μ) (c := c)
  have mo : ∀ i, 0 < i → i < 11 → mEm μ c (c + i) = μ (c + i) := fun i a b => mEm_o (by omega) (by omega)
  refine ⟨⟨by omega, by omega, ?_, ?_, ?_, ?_, ?_, ?_, ?_, ?_, ?_, ?_, fun j => ?_⟩, fun j a b => by omega, fun j a b => by omega⟩
  · rw [mo 1 (by decide) (by decide)]; exact CI_kind h
  · rw [mo 2 (by decide) (by decide)]; exact CI_age h
  · rw [mo 3 (by decide) (by decide)]; exact CI_cover h
  · rw [mo 4 (by decide) (by decide)]; exact CI_blue h
  · rw [mo 5 (by decide) (by decide)]; exact CI_brown h
  · rw [mo 6 (by decide) (by decide)]; exact CI_first h
  · rw [mo 7 (by decide) (by decide)]; exact CI_last h
  · rw [mo 8 (by decide) (by decide)]; exact CI_wind h
  · rw [mo 9 (by decide) (by decide)]; exact CI_size h
  · rw [mo 10 (by decide) (by decide)]; exact CI_chance h
  · have := CI_guns h j; rw [mEm_g]; split <;> omega
theorem CR_em {μ : gM} {c : Nat} : CR (mEm μ c) c (fun _ => 0) 0 := by
  obtain ⟨z0, z1, z2⟩ := mEm_0 (μ := μ) (c := c)
  refine ⟨⟨z0, z1, z2⟩, fun r a b => by dsimp only at b; omega, fun r j a b => by dsimp only at b; omega, fun r a b => by dsimp only at b; omega, fun p a b => ?_⟩
  rw [mEm_g, if_pos ⟨a, b⟩]
noncomputable def ift {α : Type} (P : Prop) (a b : α) : α := @ite _ P (Classical.propDecidable _) a b
theorem ift_p {α : Type} {P : Prop} {a b : α} (h : P) : ift P a b = a := by unfold ift; rw [if_pos h]
theorem ift_n {α : Type} {P : Prop} {a b : α} (h : ¬ P) : ift P a b = b := by unfold ift; rw [if_neg h]
/-- an item that is looked for from p on, told into K: (1, the stop's place) or (0, the fault's place); and what stands then -/
noncomputable def iqE (T : Int → Int) (L : Int) (K : Int → Int) (p : Int) : Int × Int :=
  ift (isW T L p wRoof) (if K 93 < 7 then nq T L roofR (tE T L p) else (0, p))
  (ift (isW T L p wStorm) (if K 94 < 6 then nq T L (stormR (tV T L (tE T L p))) (tE T L p) else (0, p))
  (ift (isW T L p wCannon) (if tS T L (tE T L p) = 2 ∧ 0 ≤ tV T L (tE T L p) ∧ tV T L (tE T L p) ≤ 6 then (if K (86 + tV T L (tE T L p)) = 0 then nq T L [] (tE T L (tE T L p)) else (0, tE T L p)) else (0, tE T L p))
  (0, p)))
def qv (T : Int → Int) (L p : Int) (k : Nat) : Int := tV T L (pk_ T L (tE T L p) k)
noncomputable def iqK (T : Int → Int) (L : Int) (K : Int → Int) (p : Int) : Int → Int :=
  ift (isW T L p wRoof) (kAR K (K 93) (qv T L p 0) (qv T L p 1) (qv T L p 2) (qv T L p 3) (qv T L p 4) (qv T L p 5))
  (ift (isW T L p wStorm) (kAS K (K 94) (qv T L p 0) (qv T L p 1) (qv T L p 2) (qv T L p 3) (qv T L p 4))
  (kup K (86 + qv T L p 0) 1))
/-- the items from p on -/
noncomputable def rl (T : Int → Int) (L : Int) : Nat → (Int → Int) → Int → Int → Int × (Int → Int)
  | 0, K, _, n => (n, K)
  | f + 1, K, p, n => if tS T L p = 0 then (n, K) else if (iqE T L K p).1 = 1 then rl T L f (iqK T L K p) (tE T L (iqE T L K p).2) (n + 1) else (-10 - tA T L (iqE T L K p).2, K)
theorem rl_0 {T : Int → Int} {L : Int} {f : Nat} {K : Int → Int} {p n : Int} (h : tS T L p = 0) : rl T L f K p n = (n, K) := by
  cases f with
  | zero => rfl
  | succ f => exact if_pos h
theorem rl_1 {T : Int → Int} {L : Int} {f f2 : Nat} {K : Int → Int} {p n : Int} (hf : f = f2 + 1) (h : tS T L p ≠ 0) (h1 : (iqE T L K p).1 = 1) : rl T L f K p n = rl T L f2 (iqK T L K p) (tE T L (iqE T L K p).2) (n + 1) := by
  subst hf
  exact (if_neg h).trans (if_pos h1)
theorem rl_2 {T : Int → Int} {L : Int} {f f2 : Nat} {K : Int → Int} {p n : Int} (hf : f = f2 + 1) (h : tS T L p ≠ 0) (h1 : (iqE T L K p).1 ≠ 1) : rl T L f K p n = (-10 - tA T L (iqE T L K p).2, K) := by
  subst hf
  exact (if_neg h).trans (if_neg h1)
theorem nq_bd (T : Int → Int) {L : Int} : ∀ (R : List (Int × Int)) {p : Int}, 0 ≤ p ∧ p ≤ L → p ≤ (nq T L R p).2 ∧ (nq T L R p).2 ≤ L ∧ ((nq T L R p).1 = 0 ∨ (nq T L R p).1 = 1)
  | [], p, h => by
    unfold nq
    split
    · exact ⟨Int.le_refl _, h.2, Or.inr rfl⟩
    · exact ⟨Int.le_refl _, h.2, Or.inl rfl⟩
  | r :: R, p, h => by
    unfold nq
    split
    · have a := tA_bd T h.2
      have b := tE_bd T h.2
      have := nq_bd T R (tE_p T h)
      exact ⟨by omega, this.2.1, this.2.2⟩
    · exact ⟨Int.le_refl _, h.2, Or.inl rfl⟩
theorem isW_lt {T : Int → Int} {L p : Int} {w : List Int} (h : isW T L p w) (hp : p ≤ L) (hw : 0 < w.length) : p < tE T L p := by
  have a := tA_bd T hp
  have := h.2.1
  omega
theorem iqE_bd (T : Int → Int) {L : Int} (K : Int → Int) {p : Int} (h : 0 ≤ p ∧ p ≤ L) : 0 ≤ (iqE T L K p).2 ∧ (iqE T L K p).2 ≤ L ∧ ((iqE T L K p).1 = 0 ∨ (iqE T L K p).1 = 1) ∧ ((iqE T L K p).1 = 1 → p < (iqE T L K p).2) := by
  have e1 := tE_p T h
  have e2 := tE_p T e1
  have z : ∀ q : Int, 0 ≤ q ∧ q ≤ L → 0 ≤ ((0, q) : Int × Int).2 ∧ ((0, q) : Int × Int).2 ≤ L ∧ (((0, q) : Int × Int).1 = 0 ∨ ((0, q) : Int × Int).1 = 1) ∧ (((0, q) : Int × Int).1 = 1 → p < ((0, q) : Int × Int).2) := fun q hq => ⟨hq.1, hq.2, Or.inl rfl, fun h => by simp at h⟩
  unfold iqE
  by_cases hw : isW T L p wRoof
  · rw [ift_p hw]
    split
    · have := nq_bd T roofR e1
      have := isW_lt hw h.2 (by decide)
      exact ⟨by omega, by omega, by omega, fun _ => by omega⟩
    · exact z p h
  · rw [ift_n hw]
    by_cases hw : isW T L p wStorm
    · rw [ift_p hw]
      split
      · have := nq_bd T (stormR (tV T L (tE T L p))) e1
        have := isW_lt hw h.2 (by decide)
        exact ⟨by omega, by omega, by omega, fun _ => by omega⟩
      · exact z p h
    · rw [ift_n hw]
      by_cases hw : isW T L p wCannon
      · rw [ift_p hw]
        split
        · split
          · have := nq_bd T [] e2
            have := isW_lt hw h.2 (by decide)
            have a := tA_bd T e1.2
            have b := tE_bd T e1.2
            exact ⟨by omega, by omega, by omega, fun _ => by omega⟩
          · exact z _ e1
        · exact z _ e1
      · rw [ift_n hw]
        exact z p h
