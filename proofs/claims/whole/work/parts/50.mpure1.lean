/-! the model: its canton told by a view v -/
def VJ (v : gV) : Prop := VI v ∧ (∀ k, 0 ≤ v 6 k ∧ v 6 k ≤ 6) ∧ (∀ k, 0 ≤ v 7 k ∧ v 7 k ≤ 6) ∧ (∀ k, 0 ≤ v 8 k ∧ v 8 k ≤ 1) ∧ (∀ k, -1 ≤ v 4 k ∧ v 4 k ≤ 18) ∧ (∀ k, -1 ≤ v 5 k ∧ v 5 k ≤ 18)
theorem CI.VJ {μ : gM} {c : Nat} (h : CI μ c) : VJ (vw μ c) := ⟨CI.VI h, CI_first h, CI_last h, CI_wind h, CI_blue h, CI_brown h⟩
/-- storms and cannons -/
def MG (μ : gM) (v : gV) (m : Int) : Prop := μ 168 94 = m ∧ (0 ≤ m ∧ m ≤ 6) ∧ VJ v ∧ (∀ k, 0 ≤ k → k < m → μ 168 (56 + 5 * k + 0) = v 6 k ∧ μ 168 (56 + 5 * k + 1) = v 7 k ∧ μ 168 (56 + 5 * k + 2) = v 8 k ∧ μ 168 (56 + 5 * k + 3) = v 9 k ∧ μ 168 (56 + 5 * k + 4) = v 10 k) ∧ (∀ k, 0 ≤ k → k < 7 → μ 168 (86 + k) = v 11 k)
/-- as it is told now -/
def NW (μ : gM) (v : gV) (n m : Int) : Prop := MG μ v m ∧ μ 168 93 = n ∧ (0 ≤ n ∧ n ≤ 7) ∧ (∀ k, 0 ≤ k → k < n → μ 168 (0 + 8 * k + 0) = v 1 k ∧ μ 168 (0 + 8 * k + 1) = v 2 k ∧ μ 168 (0 + 8 * k + 6) = v 4 k ∧ μ 168 (0 + 8 * k + 6 + 1) = v 5 k) ∧ (∀ k j, 0 ≤ k → k < n → 0 ≤ j → j < 4 → μ 168 (0 + 8 * k + 2 + j) = v 3 (4 * k + j))
/-- as it is held in the hand -/
def MV (μ : gM) (v : gV) (n m : Int) : Prop := MG μ v m ∧ μ 168 93 = n ∧ (0 ≤ n ∧ n ≤ 7) ∧ (∀ k, 0 ≤ k → k < n → μ 168 (0 + 8 * k + 0) = v 1 k ∧ μ 173 k = v 2 k ∧ μ 168 (0 + 8 * k + 6) = v 4 k ∧ μ 168 (0 + 8 * k + 6 + 1) = v 5 k) ∧ (∀ k, 0 ≤ k → k < 4 * n → μ 172 k = v 3 k)
theorem MG_fr {μ μ2 : gM} {v : gV} {m : Int} (h : μ2 168 = μ 168) (hN : MG μ v m) : MG μ2 v m := by
  unfold MG at hN ⊢
  rw [h]
  exact hN
theorem NW_fr {μ μ2 : gM} {v : gV} {n m : Int} (h : μ2 168 = μ 168) (hN : NW μ v n m) : NW μ2 v n m := by
  unfold NW MG at hN ⊢
  rw [h]
  exact hN
theorem MV_fr {μ μ2 : gM} {v : gV} {n m : Int} (h : μ2 168 = μ 168) (h2 : μ2 172 = μ 172) (h3 : μ2 173 = μ 173) (hN : MV μ v n m) : MV μ2 v n m := by
  unfold MV MG at hN ⊢
  rw [h, h2, h3]
  exact hN
theorem CR_NW {μ m : gM} {c : Nat} {y : Int} (h : CR m c (μ 168) y) (hI : CI m c) : NW μ (vw m c) (m c 0) (m c 1) := by
  obtain ⟨⟨h1, h2, h3⟩, h4, h5, h6, h7⟩ := h
  rw [← h1] at h4 h5
  rw [← h2] at h6
  refine ⟨⟨h2.symm, CI_storms hI, CI.VJ hI, fun k a b => ?_, fun k a b => (h7 k a b).symm⟩, h1.symm, CI_roofs hI, fun k a b => ?_, fun k j a b c d => ?_⟩
  · obtain ⟨q1, q2, q3, q4, q5⟩ := h6 k a b
    rw [show (56 + 5 * k + 0 : Int) = 56 + 5 * k by omega]
    exact ⟨q1.symm, q2.symm, q3.symm, q4.symm, q5.symm⟩
  · obtain ⟨q1, q2, q3, q4⟩ := h4 k a b
    rw [show (0 + 8 * k + 0 : Int) = 8 * k by omega, show (0 + 8 * k + 1 : Int) = 8 * k + 1 by omega, show (0 + 8 * k + 6 : Int) = 8 * k + 6 by omega, show (8 * k + 6 + 1 : Int) = 8 * k + 7 by omega]
    exact ⟨q1.symm, q2.symm, q3.symm, q4.symm⟩
  · rw [show (0 + 8 * k + 2 + j : Int) = 8 * k + 2 + j by omega]
    exact (h5 k j a b c d).symm
def rb (μ : gM) : gM := wr μ 171 0 (μ 171 0 + 1)
def rn (μ : gM) : gM := wr μ 171 1 (μ 171 1 + 1)
def rf (μ : gM) : gM := wr μ 171 2 (μ 171 2 + 1)
def frm (μ : gM) (a b : Int) : gM := wr (wr μ 167 4 (a.tdiv (Int.gcd a b))) 167 5 (b.tdiv (Int.gcd a b))
theorem frm_o {μ : gM} {a b : Int} {i : Nat} (h : i ≠ 167) : frm μ a b i = μ i := by
  unfold frm
  rw [wr_o h, wr_o h]
def fHt (v : gV) (r f : Int) : Int := if f = 0 then 0 else if v 1 r = 1 then f + v 2 r else if v 1 r = 2 then f / 2 else if v 1 r = 3 then f / 2 - 1 else if v 1 r = 4 then f + v 2 r - 3 else if v 1 r = 5 then 0 else f
theorem fHt_T {v : gV} (h : VI v) (s r sl : Int) : max 0 (fHt v r (fF v s r sl)) = fT v s r sl ∧ -3 ≤ fHt v r (fF v s r sl) ∧ fHt v r (fF v s r sl) ≤ 18 := by
  have a := fF_bd h s r sl
  have b := h.2.1 r
  unfold fHt fT
  refine ⟨?_, ?_, ?_⟩ <;> ((repeat' split) <;> omega)
theorem fL_A (v : gV) (n s : Int) : fL v n s = fA v n s 0 - fA v n s 1 := by
  unfold fL fA sI
  generalize n.toNat = k
  induction k with
  | zero => rfl
  | succ k ih => simp only [sm]; omega
def tkN (μ : gM) : gM := fun a j => if a = 172 ∧ 0 ≤ j ∧ j < 28 then (if j / 4 < μ 168 93 then μ 168 (0 + 8 * (j / 4) + 2 + j % 4) else 0) else if a = 173 ∧ 0 ≤ j ∧ j < 7 then μ 168 (0 + 8 * j + 1) else μ a j
theorem tkN_o {μ : gM} {a : Nat} (h1 : a ≠ 172) (h2 : a ≠ 173) : tkN μ a = μ a := by
  funext j
  simp [tkN, h1, h2]
theorem tkN_2 {μ : gM} {k : Int} (h : 0 ≤ k ∧ k < 28) : tkN μ 172 k = if k / 4 < μ 168 93 then μ 168 (0 + 8 * (k / 4) + 2 + k % 4) else 0 := by
  unfold tkN
  rw [if_pos ⟨rfl, h⟩]
theorem tkN_3 {μ : gM} {k : Int} (h : 0 ≤ k ∧ k < 7) : tkN μ 173 k = μ 168 (0 + 8 * k + 1) := by
  unfold tkN
  rw [if_neg (by omega), if_pos ⟨rfl, h⟩]
theorem NW_MV {μ : gM} {v : gV} {n m : Int} (h : NW μ v n m) : MV (tkN μ) v n m := by
  have e : tkN μ 168 = μ 168 := tkN_o (by decide) (by decide)
  obtain ⟨h1, h2, h3, h4, h5⟩ := h
  refine ⟨MG_fr e h1, by rw [e]; exact h2, h3, fun k a b => ?_, fun k a b => ?_⟩
  · obtain ⟨q1, q2, q3, q4⟩ := h4 k a b
    rw [e, tkN_3 ⟨a, by omega⟩]
    exact ⟨q1, q2, q3, q4⟩
  · rw [tkN_2 ⟨a, by omega⟩, if_pos (by omega), h5 (k / 4) (k % 4) (by omega) (by omega) (by omega) (by omega), show 4 * (k / 4) + k % 4 = k by omega]
/-- the taking under way: r roofs, and of roof r so many -/
def tkR (μ : gM) (r j : Int) : gM := fun a i => if a = 172 ∧ 0 ≤ i ∧ i < 4 * r + j then (if i / 4 < μ 168 93 then μ 168 (0 + 8 * (i / 4) + 2 + i % 4) else 0) else if a = 173 ∧ 0 ≤ i ∧ i < r then μ 168 (0 + 8 * i + 1) else μ a i
theorem tkR_0 (μ : gM) : tkR μ 0 0 = μ := by
  funext a i
  unfold tkR
  rw [if_neg (by omega), if_neg (by omega)]
theorem tkR_7 (μ : gM) : tkR μ 7 0 = tkN μ := by
  funext a i
  unfold tkR tkN
  rfl
theorem tkR_o {μ : gM} {r j : Int} {a : Nat} (h1 : a ≠ 172) (h2 : a ≠ 173) : tkR μ r j a = μ a := by
  funext i
  simp [tkR, h1, h2]
theorem tkR_s {μ : gM} {r j x : Int} (hr : 0 ≤ r) (hj : 0 ≤ j ∧ j < 4) (hx : x = if r < μ 168 93 then μ 168 (0 + 8 * r + 2 + j) else 0) : wr (tkR μ r j) 172 (4 * r + j) x = tkR μ r (j + 1) := by
  funext a i
  unfold wr
  by_cases h : a = 172 ∧ i = 4 * r + j
  · obtain ⟨rfl, rfl⟩ := h
    rw [if_pos ⟨rfl, rfl⟩]
    unfold tkR
    rw [if_pos ⟨rfl, by omega, by omega⟩, hx, show (4 * r + j) / 4 = r by omega, show (4 * r + j) % 4 = j by omega]
  · rw [if_neg h]
    unfold tkR
    by_cases h2 : a = 172 ∧ 0 ≤ i ∧ i < 4 * r + j
    · rw [if_pos h2, if_pos (show a = 172 ∧ 0 ≤ i ∧ i < 4 * r + (j + 1) from ⟨h2.1, h2.2.1, by omega⟩)]
    · rw [if_neg h2, if_neg (show ¬ (a = 172 ∧ 0 ≤ i ∧ i < 4 * r + (j + 1)) by omega)]
theorem tkR_t {μ : gM} {r x : Int} (hr : 0 ≤ r) (hx : x = μ 168 (0 + 8 * r + 1)) : wr (tkR μ r 4) 173 r x = tkR μ (r + 1) 0 := by
  funext a i
  unfold wr
  by_cases h : a = 173 ∧ i = r
  · obtain ⟨rfl, rfl⟩ := h
    rw [if_pos ⟨rfl, rfl⟩]
    unfold tkR
    rw [if_neg (by omega), if_pos ⟨rfl, by omega, by omega⟩, hx]
  · rw [if_neg h]
    unfold tkR
    by_cases h2 : a = 172 ∧ 0 ≤ i ∧ i < 4 * r + 4
    · rw [if_pos h2, if_pos (show a = 172 ∧ 0 ≤ i ∧ i < 4 * (r + 1) + 0 from ⟨h2.1, h2.2.1, by omega⟩)]
    · rw [if_neg h2, if_neg (show ¬ (a = 172 ∧ 0 ≤ i ∧ i < 4 * (r + 1) + 0) by omega)]
      by_cases h3 : a = 173 ∧ 0 ≤ i ∧ i < r
      · rw [if_pos h3, if_pos (show a = 173 ∧ 0 ≤ i ∧ i < r + 1 from ⟨h3.1, h3.2.1, by omega⟩)]
      · rw [if_neg h3, if_neg (show ¬ (a = 173 ∧ 0 ≤ i ∧ i < r + 1) by omega)]
def kRf (K : Int → Int) (n k a b0 n0 b1 n1 : Int) : Int → Int := kup (kup (kup (kup (kup (kup (kup (kup K (8 * n) k) (8 * n + 1) a) (8 * n + 2) b0) (8 * n + 3) n0) (8 * n + 4) b1) (8 * n + 5) n1) (8 * n + 6) (-1)) (8 * n + 7) (-1)
def kSt (K : Int → Int) (n f t w z h : Int) : Int → Int := kup (kup (kup (kup (kup K (56 + 5 * n) f) (56 + 5 * n + 1) t) (56 + 5 * n + 2) w) (56 + 5 * n + 3) z) (56 + 5 * n + 4) h
/-- row a replaced -/
def rw_ (μ : gM) (a : Nat) (K : Int → Int) : gM := fun b => if b = a then K else μ b
theorem rw_s {μ : gM} {a : Nat} {K : Int → Int} : rw_ μ a K a = K := if_pos rfl
theorem rw_o {μ : gM} {a b : Nat} {K : Int → Int} (h : b ≠ a) : rw_ μ a K b = μ b := if_neg h
theorem wr_rw {μ : gM} {a : Nat} {K : Int → Int} {i x : Int} : wr (rw_ μ a K) a i x = rw_ μ a (kup K i x) := by
  funext b j
  unfold wr rw_ kup
  by_cases h : b = a
  · subst h
    simp
  · simp [h]
theorem rw_i {μ : gM} {a : Nat} : rw_ μ a (μ a) = μ := by
  funext b
  unfold rw_
  split
  · next h => rw [h]
  · rfl
theorem wr_ri {μ : gM} {a : Nat} {i x : Int} : wr μ a i x = rw_ μ a (kup (μ a) i x) := by
  rw [← wr_rw, rw_i]
theorem kRf_93 {K : Int → Int} {n k a b0 n0 b1 n1 : Int} (h : 0 ≤ n ∧ n < 7) : kup (kRf K n k a b0 n0 b1 n1) 93 (kRf K n k a b0 n0 b1 n1 93 + 1) = kup (kRf K n k a b0 n0 b1 n1) 93 (K 93 + 1) := by
  congr 2
  unfold kRf
  rw [kup_n (by omega), kup_n (by omega), kup_n (by omega), kup_n (by omega), kup_n (by omega), kup_n (by omega), kup_n (by omega), kup_n (by omega)]
theorem kSt_94 {K : Int → Int} {n f t w z h : Int} (hn : 0 ≤ n ∧ n < 6) : kup (kSt K n f t w z h) 94 (kSt K n f t w z h 94 + 1) = kup (kSt K n f t w z h) 94 (K 94 + 1) := by
  congr 2
  unfold kSt
  rw [kup_n (by omega), kup_n (by omega), kup_n (by omega), kup_n (by omega), kup_n (by omega)]
