/-! views changed: a tile painted, a cannon more, a year gone -/
def pv (v : gV) (k : Int) : gV := fun j i => if j = 3 ∧ i = 2 * k + 1 then v 3 i - 1 else if j = 3 ∧ i = 2 * k then v 3 i + 1 else v j i
def gv (v : gV) (p : Int) : gV := fun j i => if j = 11 ∧ i = p then 1 else v j i
def yv (v : gV) (n s : Int) : gV := fun j i => if j = 3 ∧ 0 ≤ i ∧ i < 4 * n then v 3 i - (if s = -1 then 0 else fb v s (i / 4) (i / 2 % 2) (i % 2)) else if j = 2 ∧ 0 ≤ i ∧ i < n then min (v 2 i + 1) 9 else v j i
def kp (v : gV) (n m k : Int) : Prop := v 3 (2 * k + 1) ≠ 0 ∧ fE (pv v k) n m = fE v n m
theorem VA_3 {v v2 : gV} {n m : Int} (h : VA v v2 n m) : ∀ k, 0 ≤ k → k < 4 * n → v 3 k = v2 3 k := h.2.1
theorem VA_pv {v v2 : gV} {n m : Int} (h : VA v v2 n m) (k : Int) : VA (pv v k) (pv v2 k) n m := by
  obtain ⟨h1, h2, h3, h4⟩ := h
  refine ⟨fun i a b => ?_, fun i a b => ?_, fun i a b => ?_, fun i a b => ?_⟩
  · simpa [pv] using h1 i a b
  · simp only [pv, h2 i a b]
  · simpa [pv] using h3 i a b
  · simpa [pv] using h4 i a b
theorem VA_gv {v v2 : gV} {n m : Int} (h : VA v v2 n m) (p : Int) : VA (gv v p) (gv v2 p) n m := by
  obtain ⟨h1, h2, h3, h4⟩ := h
  refine ⟨fun i a b => ?_, fun i a b => ?_, fun i a b => ?_, fun i a b => ?_⟩
  · simpa [gv] using h1 i a b
  · simpa [gv] using h2 i a b
  · simpa [gv] using h3 i a b
  · simp only [gv, h4 i a b]
theorem VA_yv {v v2 : gV} {n m : Int} (h : VA v v2 n m) (hn : n ≤ 7) {s : Int} (hs : s = -1 ∨ (0 ≤ s ∧ s < m)) : VA (yv v n s) (yv v2 n s) n m := by
  have h' := h
  obtain ⟨h1, h2, h3, h4⟩ := h
  refine ⟨fun i a b => ?_, fun i a b => ?_, fun i a b => ?_, fun i a b => ?_⟩
  · have := h1 i a b
    simp only [yv, this.2.1]
    simpa using ⟨this.1, this.2.2.1, this.2.2.2⟩
  · simp only [yv, h2 i a b, a, b]
    rcases hs with rfl | hs
    · simp
    · have e := VA_fb h' hn (s := s) (r := i / 4) (sl := i / 2 % 2) (w := i % 2) hs (by omega) (by omega) (by omega)
      simp [e]
  · simpa [yv] using h3 i a b
  · simpa [yv] using h4 i a b
theorem VA_kp {v v2 : gV} {n m k : Int} (h : VA v v2 n m) (hn : n ≤ 7) (hk : 0 ≤ k ∧ k < 2 * n) : kp v n m k ↔ kp v2 n m k := by
  unfold kp
  rw [VA_3 h (2 * k + 1) (by omega) (by omega), VA_fE (VA_pv h k) hn, VA_fE h hn]
def shR (v : gV) (n m who : Int) : Nat → Int × Int
  | 0 => (-1, -1)
  | k + 1 => if v 11 k = 0 ∧ (shR v n m who k).2 < fO (gv v k) n m who then ((k : Int), fO (gv v k) n m who) else shR v n m who k
def shI (v : gV) (n m who k : Int) : Int × Int := shR v n m who k.toNat
theorem shI_s {v : gV} {n m who k : Int} (hk : 0 ≤ k) : shI v n m who (k + 1) = if v 11 k = 0 ∧ (shI v n m who k).2 < fO (gv v k) n m who then (k, fO (gv v k) n m who) else shI v n m who k := by
  unfold shI
  obtain ⟨j, rfl⟩ := Int.eq_ofNat_of_zero_le hk
  rfl
theorem VA_shI {v v2 : gV} {n m : Int} (h : VA v v2 n m) (hn : n ≤ 7) (who : Int) : ∀ k : Nat, k ≤ 7 → shI v n m who k = shI v2 n m who k
  | 0, _ => rfl
  | k + 1, hk => by
    have ih := VA_shI h hn who k (by omega)
    have e1 := shI_s (v := v) (n := n) (m := m) (who := who) (k := k) (by omega)
    have e2 := shI_s (v := v2) (n := n) (m := m) (who := who) (k := k) (by omega)
    have c : ((k + 1 : Nat) : Int) = (k : Int) + 1 := by omega
    rw [c, e1, e2, ih, h.2.2.2 k (by omega) (by omega), VA_fO (VA_gv h k) hn who]
theorem shI_bd {v : gV} (hV : VI v) {m : Int} (hm : 0 ≤ m ∧ m ≤ 6) (n who : Int) : ∀ k : Nat, -1 ≤ (shI v n m who k).1 ∧ (shI v n m who k).1 < k ∧ -1 ≤ (shI v n m who k).2 ∧ (shI v n m who k).2 ≤ 54 ∧ ((shI v n m who k).1 = -1 ↔ (shI v n m who k).2 = -1)
  | 0 => (by decide : (-1 : Int) ≤ -1 ∧ (-1 : Int) < 0 ∧ (-1 : Int) ≤ -1 ∧ (-1 : Int) ≤ 54 ∧ ((-1 : Int) = -1 ↔ (-1 : Int) = -1))
  | k + 1 => by
    have ih := shI_bd hV hm n who k
    have e1 := shI_s (v := v) (n := n) (m := m) (who := who) (k := k) (by omega)
    have c : ((k + 1 : Nat) : Int) = (k : Int) + 1 := by omega
    have hg : VI (gv v k) := by
      obtain ⟨h1, h2, h3, h4, h5, h6⟩ := hV
      refine ⟨by simpa [gv] using h1, by simpa [gv] using h2, by simpa [gv] using h3, by simpa [gv] using h4, by simpa [gv] using h5, fun i => ?_⟩
      have := h6 i
      simp only [gv]
      split <;> omega
    have hb := fO_bd hg hm n who
    rw [c, e1]
    split
    · dsimp only
      omega
    · omega
def sF (v : gV) (x : Int) : Nat → Int
  | 0 => -1
  | k + 1 => if sF v x k = -1 then (if x < fC v (k + 1) then (k : Int) else -1) else sF v x k
def sFI (v : gV) (x m : Int) : Int := sF v x m.toNat
theorem sF_at (v : gV) (x : Int) : ∀ k : Nat, sAt v k x (sF v x k)
  | 0 => Or.inr ⟨rfl, fun j h1 h2 => by omega⟩
  | k + 1 => by
    have ih := sF_at v x k
    unfold sF
    rcases ih with ⟨h1, h2, h3, h4⟩ | ⟨h1, h2⟩
    · rw [if_neg (by omega)]
      exact Or.inl ⟨h1, by omega, h3, h4⟩
    · rw [if_pos h1]
      split
      · next q => exact Or.inl ⟨by omega, by omega, q, h2⟩
      · next q =>
        refine Or.inr ⟨rfl, fun j a b => ?_⟩
        by_cases e : j = k
        · subst e; omega
        · exact h2 j a (by omega)
theorem sAt_one {v : gV} {m x e e2 : Int} (h : sAt v m x e) (h2 : sAt v m x e2) : e = e2 := by
  rcases h with ⟨a1, a2, a3, a4⟩ | ⟨a1, a2⟩ <;> rcases h2 with ⟨b1, b2, b3, b4⟩ | ⟨b1, b2⟩
  · rcases Int.lt_trichotomy e e2 with q | q | q
    · have := b4 e a1 q; omega
    · exact q
    · have := a4 e2 b1 q; omega
  · have := b2 e a1 a2; omega
  · have := a2 e2 b1 b2; omega
  · omega
theorem sAt_F {v : gV} {m x e : Int} (hm : 0 ≤ m) (h : sAt v m x e) : e = sFI v x m := by
  obtain ⟨j, rfl⟩ := Int.eq_ofNat_of_zero_le hm
  exact sAt_one h (sF_at v x j)
theorem sAt_cg {v v2 : gV} {m x e : Int} (hc : ∀ k, k ≤ m → fC v k = fC v2 k) (h : sAt v m x e) : sAt v2 m x e := by
  rcases h with ⟨a1, a2, a3, a4⟩ | ⟨a1, a2⟩
  · exact Or.inl ⟨a1, a2, by rw [← hc (e + 1) (by omega)]; exact a3, fun j b1 b2 => by rw [← hc (j + 1) (by omega)]; exact a4 j b1 b2⟩
  · exact Or.inr ⟨a1, fun j b1 b2 => by rw [← hc (j + 1) (by omega)]; exact a2 j b1 b2⟩
/-- the drawn years: x, blue's wins less brown's, the canton -/
def dx (x : Int) : Int := (x * 1103515245 + 12345) % 2147483648
def ds (v : gV) (m x : Int) : Int := sFI v (dx x / 65536 % (fC v m + 1)) m
def dg (v : gV) (n s : Int) : Int := if s = -1 then 0 else if fW (fL v n s) = 0 then 1 else if fW (fL v n s) = 1 then -1 else 0
def dw (v : gV) (n m seed : Int) : Nat → Int × Int × gV
  | 0 => (seed, 0, v)
  | k + 1 => (dx (dw v n m seed k).1, (dw v n m seed k).2.1 + dg (dw v n m seed k).2.2 n (ds (dw v n m seed k).2.2 m (dw v n m seed k).1), yv (dw v n m seed k).2.2 n (ds (dw v n m seed k).2.2 m (dw v n m seed k).1))
def dwI (v : gV) (n m seed k : Int) : Int × Int × gV := dw v n m seed k.toNat
theorem dwI_s {v : gV} {n m seed k : Int} (hk : 0 ≤ k) : dwI v n m seed (k + 1) = (dx (dwI v n m seed k).1, (dwI v n m seed k).2.1 + dg (dwI v n m seed k).2.2 n (ds (dwI v n m seed k).2.2 m (dwI v n m seed k).1), yv (dwI v n m seed k).2.2 n (ds (dwI v n m seed k).2.2 m (dwI v n m seed k).1)) := by
  unfold dwI
  obtain ⟨j, rfl⟩ := Int.eq_ofNat_of_zero_le hk
  rfl
theorem vw_yr (μ : gM) (c : Nat) (n s : Int) : vw (yr μ c s n) c = yv (vw μ c) n s := by
  funext j i
  unfold vw yr yv vw
  have e3 : (c + j = c + 3) ↔ j = 3 := by omega
  have e2 : (c + j = c + 2) ↔ j = 2 := by omega
  simp only [e3, e2]
theorem vw_wr3 {μ : gM} {c : Nat} {k x y : Int} (hx : x = μ (c + 3) (4 * 0 + 2 * k + 1) - 1) (hy : y = μ (c + 3) (4 * 0 + 2 * k + 0) + 1) : vw (wr (wr μ (c + 3) (4 * 0 + 2 * k + 1) x) (c + 3) (4 * 0 + 2 * k + 0) y) c = pv (vw μ c) k := by
  funext j i
  unfold vw wr pv
  dsimp only
  have e3 : (c + j = c + 3) ↔ j = 3 := by omega
  simp only [e3]
  by_cases hj : j = 3
  · subst hj
    by_cases h1 : i = 2 * k + 1
    · subst h1
      rw [if_neg (by omega), if_pos (by omega), if_pos (by omega), hx]
      congr 2
      omega
    · by_cases h2 : i = 2 * k
      · subst h2
        rw [if_pos (by omega), if_neg (by omega), if_pos (by omega), hy]
        congr 2
        omega
      · rw [if_neg (by omega), if_neg (by omega), if_neg (by omega), if_neg (by omega)]
  · simp [hj]
theorem vw_wr11 {μ : gM} {c : Nat} {p : Int} : vw (wr μ (c + 11) p 1) c = gv (vw μ c) p := by
  funext j i
  unfold vw wr gv
  dsimp only
  have e3 : (c + j = c + 11) ↔ j = 11 := by omega
  simp only [e3]
theorem frc_o {μ : gM} {x y : Int} {a : Nat} (h : a ≠ 154) : frc μ x y a = μ a := by
  unfold frc
  rw [wr_o h, wr_o h]
theorem frc_AI {μ : gM} {x y : Int} (h : AI μ) : AI (frc μ x y) := AI_fr (fun c hc i hi => frc_o (by
  have h2 := cn_all (p := fun c => (List.range 12).all (fun i => decide (c + i ≠ 154))) (by decide) hc
  have h3 := List.all_eq_true.mp h2 i (List.mem_range.mpr hi)
  simpa using h3)) h
theorem vw_fr {μ μ2 : gM} {c : Nat} (h : ∀ i, i < 12 → μ2 (c + i) = μ (c + i)) {n m : Int} : VA (vw μ2 c) (vw μ c) n m := by
  have e : ∀ j, j < 12 → vw μ2 c j = vw μ c j := fun j hj => h j hj
  refine ⟨fun i a b => ?_, fun i a b => ?_, fun i a b => ?_, fun i a b => ?_⟩
  · rw [e 1 (by decide), e 2 (by decide), e 4 (by decide), e 5 (by decide)]
    exact ⟨rfl, rfl, rfl, rfl⟩
  · rw [e 3 (by decide)]
  · rw [e 6 (by decide), e 7 (by decide), e 8 (by decide), e 9 (by decide), e 10 (by decide)]
    exact ⟨rfl, rfl, rfl, rfl, rfl⟩
  · rw [e 11 (by decide)]
theorem VA.trans {v v2 v3 : gV} {n m : Int} (h : VA v v2 n m) (k : VA v2 v3 n m) : VA v v3 n m := by
  obtain ⟨h1, h2, h3, h4⟩ := h
  obtain ⟨k1, k2, k3, k4⟩ := k
  refine ⟨fun i a b => ?_, fun i a b => (h2 i a b).trans (k2 i a b), fun i a b => ?_, fun i a b => (h4 i a b).trans (k4 i a b)⟩
  · have x := h1 i a b
    have y := k1 i a b
    exact ⟨x.1.trans y.1, x.2.1.trans y.2.1, x.2.2.1.trans y.2.2.1, x.2.2.2.trans y.2.2.2⟩
  · have x := h3 i a b
    have y := k3 i a b
    exact ⟨x.1.trans y.1, x.2.1.trans y.2.1, x.2.2.1.trans y.2.2.1, x.2.2.2.1.trans y.2.2.2.1, x.2.2.2.2.trans y.2.2.2.2⟩
