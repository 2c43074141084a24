/-! memories behind the calls of a canton -/
def mz (μ : gM) (a : Nat) (k : Int) : gM := fun b j => if b = a ∧ 0 ≤ j ∧ j < k then 0 else μ b j
theorem mz_0 (μ : gM) (a : Nat) : mz μ a 0 = μ := by
  funext b j
  unfold mz
  rw [if_neg (by omega)]
theorem mz_s {μ : gM} {a : Nat} {k : Int} (hk : 0 ≤ k) : wr (mz μ a k) a k 0 = mz μ a (k + 1) := by
  funext b j
  unfold wr mz
  by_cases hb : b = a
  · subst hb
    by_cases hj : j = k
    · subst hj
      rw [if_pos ⟨rfl, rfl⟩, if_pos (by omega)]
    · rw [if_neg (fun q => hj q.2)]
      by_cases h2 : 0 ≤ j ∧ j < k
      · rw [if_pos ⟨rfl, h2⟩, if_pos ⟨rfl, by omega⟩]
      · rw [if_neg (fun q => h2 q.2), if_neg (by omega)]
  · simp [hb]
theorem mz_o {μ : gM} {a b : Nat} {k : Int} (h : b ≠ a) : mz μ a k b = μ b := by
  funext j
  simp [mz, h]
theorem wrC_1 {μ : gM} {c : Nat} {i x : Int} : wr μ (c + 1) i x c = μ c := wr_o (by omega)
theorem wrC_2 {μ : gM} {c : Nat} {i x : Int} : wr μ (c + 2) i x c = μ c := wr_o (by omega)
theorem wrC_3 {μ : gM} {c : Nat} {i x : Int} : wr μ (c + 3) i x c = μ c := wr_o (by omega)
theorem wrC_4 {μ : gM} {c : Nat} {i x : Int} : wr μ (c + 4) i x c = μ c := wr_o (by omega)
theorem wrC_5 {μ : gM} {c : Nat} {i x : Int} : wr μ (c + 5) i x c = μ c := wr_o (by omega)
theorem wrC_6 {μ : gM} {c : Nat} {i x : Int} : wr μ (c + 6) i x c = μ c := wr_o (by omega)
theorem wrC_7 {μ : gM} {c : Nat} {i x : Int} : wr μ (c + 7) i x c = μ c := wr_o (by omega)
theorem wrC_8 {μ : gM} {c : Nat} {i x : Int} : wr μ (c + 8) i x c = μ c := wr_o (by omega)
theorem wrC_9 {μ : gM} {c : Nat} {i x : Int} : wr μ (c + 9) i x c = μ c := wr_o (by omega)
theorem wrC_10 {μ : gM} {c : Nat} {i x : Int} : wr μ (c + 10) i x c = μ c := wr_o (by omega)
theorem wrC_11 {μ : gM} {c : Nat} {i x : Int} : wr μ (c + 11) i x c = μ c := wr_o (by omega)
def mAR (μ : gM) (c : Nat) (n k a b0 n0 b1 n1 : Int) : gM := wr (wr (wr (wr (wr (wr (wr (wr (wr μ (c + 1) n k) (c + 2) n a) (c + 3) (4 * n + 2 * 0 + 0) b0) (c + 3) (4 * n + 2 * 0 + 1) n0) (c + 3) (4 * n + 2 * 1 + 0) b1) (c + 3) (4 * n + 2 * 1 + 1) n1) (c + 4) n (-1)) (c + 5) n (-1)) c 0 (n + 1)
def mAS (μ : gM) (c : Nat) (n f t w z h : Int) : gM := wr (wr (wr (wr (wr (wr μ (c + 6) n f) (c + 7) n t) (c + 8) n w) (c + 9) n z) (c + 10) n h) c 1 (n + 1)
def yr (μ : gM) (c : Nat) (s n : Int) : gM := fun a j => if a = c + 3 ∧ 0 ≤ j ∧ j < 4 * n then μ (c + 3) j - (if s = -1 then 0 else fb (vw μ c) s (j / 4) (j / 2 % 2) (j % 2)) else if a = c + 2 ∧ 0 ≤ j ∧ j < n then min (μ (c + 2) j + 1) 9 else μ a j
def fY (v : gV) (n s : Int) : Int := sI (fun r => if s = -1 then 0 else fb v s r 0 0 + fb v s r 0 1 + (fb v s r 1 0 + fb v s r 1 1)) n
theorem fF_cg {v v2 : gV} {s r sl : Int} (h6 : v 6 s = v2 6 s) (h7 : v 7 s = v2 7 s) (h8 : v 8 s = v2 8 s) (h9 : v 9 s = v2 9 s) (ha : v 11 r = v2 11 r) (hb : 0 < r → v 11 (r - 1) = v2 11 (r - 1)) (hc : r < 6 → v 11 (r + 1) = v2 11 (r + 1)) : fF v s r sl = fF v2 s r sl := by
  unfold fF
  rw [h6, h7, h8, h9, ha]
  by_cases q1 : 0 < r
  · by_cases q2 : r < 6
    · rw [hb q1, hc q2]
    · rw [hb q1, if_neg q2, if_neg q2]
  · by_cases q2 : r < 6
    · rw [if_neg q1, if_neg q1, hc q2]
    · rw [if_neg q1, if_neg q1, if_neg q2, if_neg q2]
theorem fT_cg {v v2 : gV} {s r sl : Int} (h : fF v s r sl = fF v2 s r sl) (h1 : v 1 r = v2 1 r) (h2 : v 2 r = v2 2 r) : fT v s r sl = fT v2 s r sl := by
  unfold fT
  rw [h, h1, h2]
theorem fb_cg {v v2 : gV} {s r sl w : Int} (h : fT v s r sl = fT v2 s r sl) (h3 : v 3 (4 * r + 2 * sl + w) = v2 3 (4 * r + 2 * sl + w)) : fb v s r sl w = fb v2 s r sl w := by
  unfold fb
  rw [h, h3]
/-- rows of guns, storms, kinds alike, and of one roof the age -/
theorem fT_al {v v2 : gV} (s r sl : Int) (h : ∀ j, j ≠ 3 → j ≠ 2 → v j = v2 j) (h2 : v 2 r = v2 2 r) : fT v s r sl = fT v2 s r sl :=
  fT_cg (fF_cg (by rw [h 6 (by decide) (by decide)]) (by rw [h 7 (by decide) (by decide)]) (by rw [h 8 (by decide) (by decide)]) (by rw [h 9 (by decide) (by decide)]) (by rw [h 11 (by decide) (by decide)]) (fun _ => by rw [h 11 (by decide) (by decide)]) (fun _ => by rw [h 11 (by decide) (by decide)])) (by rw [h 1 (by decide) (by decide)]) h2
theorem CI_age_wr {μ : gM} {c : Nat} {i x : Int} (h : CI μ c) (hx : 0 ≤ x ∧ x ≤ 9) : CI (wr μ (c + 2) i x) c := by
  have e : ∀ j, j ≠ 2 → wr μ (c + 2) i x (c + j) = μ (c + j) := fun j hj => wr_o (by omega)
  have e0 : wr μ (c + 2) i x c = μ c := wr_o (by omega)
  obtain ⟨h1, h2, h3, h4, h5, h6, h7, h8, h9, h10, h11, h12, h13⟩ := h
  unfold CI
  rw [e0, e 1 (by decide), e 3 (by decide), e 4 (by decide), e 5 (by decide), e 6 (by decide), e 7 (by decide), e 8 (by decide), e 9 (by decide), e 10 (by decide), e 11 (by decide)]
  refine ⟨h1, h2, h3, fun k => ?_, h5, h6, h7, h8, h9, h10, h11, h12, h13⟩
  have := h4 k
  unfold wr
  split <;> omega
theorem yr_o {μ : gM} {c a : Nat} {s n : Int} (h3 : a ≠ c + 3) (h2 : a ≠ c + 2) : yr μ c s n a = μ a := by
  funext j
  simp [yr, h3, h2]
theorem yr_CI {μ : gM} {c : Nat} {s n : Int} (h : CI μ c) : CI (yr μ c s n) c := by
  have hV := CI.VI h
  have e : ∀ j, j ≠ 3 → j ≠ 2 → yr μ c s n (c + j) = μ (c + j) := fun j hj h2 => yr_o (by omega) (by omega)
  have e0 : yr μ c s n c = μ c := yr_o (by omega) (by omega)
  obtain ⟨h1, h2, h3, h4, h5, h6, h7, h8, h9, h10, h11, h12, h13⟩ := h
  unfold CI
  rw [e0, e 1 (by decide) (by decide), e 4 (by decide) (by decide), e 5 (by decide) (by decide), e 6 (by decide) (by decide), e 7 (by decide) (by decide), e 8 (by decide) (by decide), e 9 (by decide) (by decide), e 10 (by decide) (by decide), e 11 (by decide) (by decide)]
  refine ⟨h1, h2, h3, fun k => ?_, fun k => ?_, h6, h7, h8, h9, h10, h11, h12, h13⟩
  · have := h4 k
    unfold yr
    rw [if_neg (by omega)]
    split <;> omega
  · have q := h5 k
    unfold yr
    split
    · split
      · omega
      · have b := fb_bd hV s (k / 4) (k / 2 % 2) (k % 2)
        have b2 : fb (vw μ c) s (k / 4) (k / 2 % 2) (k % 2) ≤ μ (c + 3) k := by
          have : fb (vw μ c) s (k / 4) (k / 2 % 2) (k % 2) ≤ vw μ c 3 (4 * (k / 4) + 2 * (k / 2 % 2) + k % 2) := by unfold fb; omega
          have e2 : 4 * (k / 4) + 2 * (k / 2 % 2) + k % 2 = k := by omega
          rw [e2] at this
          exact this
        omega
    · rw [if_neg (by omega)]
      exact q
theorem yr_3 {μ : gM} {c : Nat} {s n j : Int} (h : 0 ≤ j ∧ j < 4 * n) : yr μ c s n (c + 3) j = μ (c + 3) j - (if s = -1 then 0 else fb (vw μ c) s (j / 4) (j / 2 % 2) (j % 2)) := by
  unfold yr
  exact if_pos ⟨rfl, h⟩
theorem yr_3o {μ : gM} {c : Nat} {s n j : Int} (h : ¬ (0 ≤ j ∧ j < 4 * n)) : yr μ c s n (c + 3) j = μ (c + 3) j := by
  unfold yr
  rw [if_neg (fun q => h q.2), if_neg (by omega)]
theorem yr_2 {μ : gM} {c : Nat} {s n j : Int} (h : 0 ≤ j ∧ j < n) : yr μ c s n (c + 2) j = min (μ (c + 2) j + 1) 9 := by
  unfold yr
  rw [if_neg (by omega), if_pos ⟨rfl, h⟩]
theorem yr_2o {μ : gM} {c : Nat} {s n j : Int} (h : ¬ (0 ≤ j ∧ j < n)) : yr μ c s n (c + 2) j = μ (c + 2) j := by
  unfold yr
  rw [if_neg (by omega), if_neg (fun q => h q.2)]
/-- the year's next roof -/
theorem yr_s {μ : gM} {c : Nat} {s r : Int} (hr : 0 ≤ r) (x00 x01 x10 x11 y : Int) (h00 : x00 = μ (c + 3) (4 * r + 2 * 0 + 0) - (if s = -1 then 0 else fb (vw μ c) s r 0 0)) (h01 : x01 = μ (c + 3) (4 * r + 2 * 0 + 1) - (if s = -1 then 0 else fb (vw μ c) s r 0 1)) (h10 : x10 = μ (c + 3) (4 * r + 2 * 1 + 0) - (if s = -1 then 0 else fb (vw μ c) s r 1 0)) (h11 : x11 = μ (c + 3) (4 * r + 2 * 1 + 1) - (if s = -1 then 0 else fb (vw μ c) s r 1 1)) (hy : y = min (μ (c + 2) r + 1) 9) :
    wr (wr (wr (wr (wr (yr μ c s r) (c + 3) (4 * r + 2 * 0 + 0) x00) (c + 3) (4 * r + 2 * 0 + 1) x01) (c + 3) (4 * r + 2 * 1 + 0) x10) (c + 3) (4 * r + 2 * 1 + 1) x11) (c + 2) r y = yr μ c s (r + 1) := by
  funext a j
  by_cases ha : a = c + 3
  · subst ha
    rw [wr_o (by omega)]
    unfold wr
    by_cases j3 : j = 4 * r + 2 * 1 + 1
    · subst j3
      rw [if_pos ⟨rfl, rfl⟩, h11]
      rw [yr_3 (by omega), show (4 * r + 2 * 1 + 1) / 4 = r by omega, show (4 * r + 2 * 1 + 1) / 2 % 2 = 1 by omega, show (4 * r + 2 * 1 + 1) % 2 = 1 by omega]
    rw [if_neg (fun q => j3 q.2)]
    by_cases j2 : j = 4 * r + 2 * 1 + 0
    · subst j2
      rw [if_pos ⟨rfl, rfl⟩, h10]
      rw [yr_3 (by omega), show (4 * r + 2 * 1 + 0) / 4 = r by omega, show (4 * r + 2 * 1 + 0) / 2 % 2 = 1 by omega, show (4 * r + 2 * 1 + 0) % 2 = 0 by omega]
    rw [if_neg (fun q => j2 q.2)]
    by_cases j1 : j = 4 * r + 2 * 0 + 1
    · subst j1
      rw [if_pos ⟨rfl, rfl⟩, h01]
      rw [yr_3 (by omega), show (4 * r + 2 * 0 + 1) / 4 = r by omega, show (4 * r + 2 * 0 + 1) / 2 % 2 = 0 by omega, show (4 * r + 2 * 0 + 1) % 2 = 1 by omega]
    rw [if_neg (fun q => j1 q.2)]
    by_cases j0 : j = 4 * r + 2 * 0 + 0
    · subst j0
      rw [if_pos ⟨rfl, rfl⟩, h00]
      rw [yr_3 (by omega), show (4 * r + 2 * 0 + 0) / 4 = r by omega, show (4 * r + 2 * 0 + 0) / 2 % 2 = 0 by omega, show (4 * r + 2 * 0 + 0) % 2 = 0 by omega]
    rw [if_neg (fun q => j0 q.2)]
    by_cases q : 0 ≤ j ∧ j < 4 * r
    · rw [yr_3 q, yr_3 (by omega)]
    · rw [yr_3o q, yr_3o (by omega)]
  · by_cases h2 : a = c + 2
    · subst h2
      unfold wr
      by_cases jr : j = r
      · subst jr
        rw [if_pos ⟨rfl, rfl⟩, hy]
        rw [yr_2 (by omega)]
      · rw [if_neg (fun q => jr q.2), if_neg (by omega), if_neg (by omega), if_neg (by omega), if_neg (by omega)]
        by_cases q : 0 ≤ j ∧ j < r
        · rw [yr_2 q, yr_2 (by omega)]
        · rw [yr_2o q, yr_2o (by omega)]
    · rw [wr_o h2, wr_o ha, wr_o ha, wr_o ha, wr_o ha, yr_o ha h2, yr_o ha h2]
def BT (v : gV) (s r : Int) : Prop := fB v s r 0 = v 4 r ∧ fB v s r 1 = v 5 r
def fit (v : gV) (n s : Int) : Prop := ∀ r, 0 ≤ r → r < n → (v 4 r = -1 ∨ BT v s r)
def hnd (v : gV) (m r : Int) : Prop := v 4 r ≠ -1 ∧ ∀ s, 0 ≤ s → s < m → ¬ BT v s r
noncomputable def fSt (v : gV) (n m : Int) : Int := itI (fun s x => bOr x (@ite _ (fit v n s) (Classical.propDecidable _) (bShl 1 s) 0)) 0 m
noncomputable def fHd (v : gV) (n m : Int) : Int := itI (fun r x => bOr x (@ite _ (hnd v m r) (Classical.propDecidable _) (bShl 1 r) 0)) 0 n
theorem toInt_rg (x : Int32) : -2147483648 ≤ x.toInt ∧ x.toInt < 2147483648 := ⟨Int32.le_toInt x, Int32.toInt_lt x⟩
theorem bOr_rg (a b : Int) : -2147483648 ≤ bOr a b ∧ bOr a b < 2147483648 := toInt_rg _
theorem bOr_0 {a : Int} (h : -2147483648 ≤ a ∧ a < 2147483648) : bOr a 0 = a := by
  unfold bOr
  rw [show iI 0 = 0 from rfl, Int32.or_zero, iI_toInt h]
theorem fit_s {v : gV} {k s : Int} (hk : 0 ≤ k) : fit v (k + 1) s ↔ fit v k s ∧ (v 4 k = -1 ∨ BT v s k) := by
  constructor
  · intro h
    exact ⟨fun r h1 h2 => h r h1 (by omega), h k hk (by omega)⟩
  · rintro ⟨h1, h2⟩ r q1 q2
    by_cases e : r = k
    · subst e; exact h2
    · exact h1 r q1 (by omega)
