theorem sm_le {f f2 : Int → Int} : ∀ n : Nat, (∀ k : Int, 0 ≤ k → k < n → f k ≤ f2 k) → sm f n ≤ sm f2 n
  | 0, _ => Int.le_refl _
  | n + 1, h => by
    have a := sm_le n (fun k h1 h2 => h k h1 (by omega))
    have b := h n (by omega) (by omega)
    show sm f n + f n ≤ sm f2 n + f2 n
    omega
theorem sI_le {f f2 : Int → Int} {n : Int} (h : ∀ k : Int, 0 ≤ k → k < n → f k ≤ f2 k) : sI f n ≤ sI f2 n := by
  unfold sI
  exact sm_le _ (fun k a b => h k a (by omega))
theorem sm_one {f f2 : Int → Int} {k : Int} (h : ∀ i, i ≠ k → f2 i = f i) : ∀ n : Nat, (k < n → 0 ≤ k → sm f2 n = sm f n + (f2 k - f k)) ∧ (¬ k < n → sm f2 n = sm f n)
  | 0 => ⟨fun a b => by omega, fun _ => rfl⟩
  | n + 1 => by
    have ih := sm_one h n
    have e1 : sm f2 (n + 1) = sm f2 n + f2 n := rfl
    have e2 : sm f (n + 1) = sm f n + f n := rfl
    constructor
    · intro a b
      rw [e1, e2]
      by_cases q : k < n
      · rw [ih.1 q b, h n (by omega)]
        omega
      · have : (n : Int) = k := by omega
        rw [ih.2 q, this]
        omega
    · intro a
      rw [e1, e2, ih.2 (by omega), h n (by omega)]
theorem sI_one {f f2 : Int → Int} {k n : Int} (h : ∀ i, i ≠ k → f2 i = f i) (hk : 0 ≤ k ∧ k < n) : sI f2 n = sI f n + (f2 k - f k) := by
  unfold sI
  exact (sm_one h n.toNat).1 (by omega) hk.1
/-- v2 has no fewer blue tiles than v, no more brown ones -/
def VL (v v2 : gV) (n : Int) : Prop := (∀ j, j ≠ 3 → v2 j = v j) ∧ ∀ k, 0 ≤ k → k < 2 * n → v 3 (2 * k) ≤ v2 3 (2 * k) ∧ v2 3 (2 * k + 1) ≤ v 3 (2 * k + 1)
theorem VL_T {v v2 : gV} (h : ∀ j, j ≠ 3 → v2 j = v j) (s r sl : Int) : fT v2 s r sl = fT v s r sl := by
  unfold fT fF
  rw [h 1 (by decide), h 2 (by decide), h 6 (by decide), h 7 (by decide), h 8 (by decide), h 9 (by decide), h 11 (by decide)]
theorem VL_L {v v2 : gV} {n : Int} (h : VL v v2 n) (s : Int) : fL v n s ≤ fL v2 n s := by
  unfold fL
  refine sI_le (fun r a b => ?_)
  have t0 := VL_T h.1 s r 0
  have t1 := VL_T h.1 s r 1
  have c0 := h.2 (2 * r) (by omega) (by omega)
  have c1 := h.2 (2 * r + 1) (by omega) (by omega)
  rw [show 2 * (2 * r) = 4 * r + 2 * 0 + 0 by omega, show 4 * r + 2 * 0 + 0 + 1 = 4 * r + 2 * 0 + 1 by omega] at c0
  rw [show 2 * (2 * r + 1) = 4 * r + 2 * 1 + 0 by omega, show 4 * r + 2 * 1 + 0 + 1 = 4 * r + 2 * 1 + 1 by omega] at c1
  unfold fB fb
  rw [t0, t1]
  omega
theorem VL_O0 {v v2 : gV} {n m : Int} (h : VL v v2 n) (hV : VI v) : fO v2 n m 0 ≤ fO v n m 0 := by
  unfold fO
  refine sI_le (fun s a b => ?_)
  have := VL_L h s
  have c := hV.2.2.2.2.1 s
  rw [h.1 10 (by decide)]
  unfold fW
  (repeat' split) <;> omega
theorem VL_O1 {v v2 : gV} {n m : Int} (h : VL v v2 n) (hV : VI v) : fO v n m 1 ≤ fO v2 n m 1 := by
  unfold fO
  refine sI_le (fun s a b => ?_)
  have := VL_L h s
  have c := hV.2.2.2.2.1 s
  rw [h.1 10 (by decide)]
  unfold fW
  (repeat' split) <;> omega
theorem VL_E {v v2 : gV} {n m : Int} (h : VL v v2 n) (hV : VI v) : fE v2 n m ≤ fE v n m := by
  unfold fE
  refine sI_le (fun s a b => ?_)
  have := VL_L h s
  have c := hV.2.2.2.2.1 s
  rw [h.1 10 (by decide)]
  (repeat' split) <;> omega
theorem fE_O (v : gV) (n m : Int) : fE v n m = fO v n m 0 - fO v n m 1 := by
  unfold fE fO sI
  generalize m.toNat = k
  induction k with
  | zero => rfl
  | succ k ih =>
    simp only [sm]
    rw [ih]
    unfold fW
    (repeat' split) <;> omega
/-- x tiles of slope k painted for who -/
def br (μ : gM) (k who x : Int) : gM := wr (wr μ 172 (2 * k + who) (μ 172 (2 * k + who) + x)) 172 (2 * k + 1 - who) (wr μ 172 (2 * k + who) (μ 172 (2 * k + who) + x) 172 (2 * k + 1 - who) - x)
def bv (v : gV) (k who x : Int) : gV := fun j i => if j = 3 ∧ i = 2 * k + 1 - who then v 3 i - x else if j = 3 ∧ i = 2 * k + who then v 3 i + x else v j i
theorem br_o {μ : gM} {k who x : Int} {a : Nat} (h : a ≠ 172) : br μ k who x a = μ a := by
  unfold br
  rw [wr_o h, wr_o h]
theorem br_v {μ : gM} {k who x i : Int} (hw : who = 0 ∨ who = 1) : br μ k who x 172 i = if i = 2 * k + 1 - who then μ 172 i - x else if i = 2 * k + who then μ 172 i + x else μ 172 i := by
  unfold br
  by_cases h : i = 2 * k + 1 - who
  · rw [if_pos h, h, wr_s, wr_n (by omega)]
  · rw [if_neg h, wr_n h]
    by_cases h2 : i = 2 * k + who
    · rw [if_pos h2, h2, wr_s]
    · rw [if_neg h2, wr_n h2]
theorem br_br {μ : gM} {k who x y : Int} (hw : who = 0 ∨ who = 1) (hy : y = -x) : br (br μ k who x) k who y = μ := by
  funext a i
  by_cases h : a = 172
  · subst h
    rw [br_v hw, br_v hw]
    (repeat' split) <;> omega
  · rw [br_o h, br_o h]
theorem MG_v {μ : gM} {v v2 : gV} {m : Int} (h : MG μ v m) (hJ : VJ v2) (e : ∀ j, j ≠ 3 → v2 j = v j) : MG μ v2 m := by
  obtain ⟨h1, h2, h3, h4, h5⟩ := h
  refine ⟨h1, h2, hJ, ?_, ?_⟩
  · rw [e 6 (by decide), e 7 (by decide), e 8 (by decide), e 9 (by decide), e 10 (by decide)]; exact h4
  · rw [e 11 (by decide)]; exact h5
theorem VJ_3 {v v2 : gV} (h : VJ v) (e : ∀ j, j ≠ 3 → v2 j = v j) (h3 : ∀ k, 0 ≤ v2 3 k ∧ v2 3 k ≤ 20) : VJ v2 := by
  obtain ⟨⟨q1, q2, q3, q4, q5, q6⟩, p1, p2, p3, p4, p5⟩ := h
  unfold VJ VI
  rw [e 1 (by decide), e 2 (by decide), e 6 (by decide), e 7 (by decide), e 8 (by decide), e 9 (by decide), e 10 (by decide), e 11 (by decide), e 4 (by decide), e 5 (by decide)]
  exact ⟨⟨q1, q2, h3, q4, q5, q6⟩, p1, p2, p3, p4, p5⟩
theorem bv_o {v : gV} {k who x : Int} {j : Nat} (h : j ≠ 3) : bv v k who x j = v j := by
  funext i
  simp [bv, h]
theorem bv_3 {v : gV} {k who x i : Int} : bv v k who x 3 i = if i = 2 * k + 1 - who then v 3 i - x else if i = 2 * k + who then v 3 i + x else v 3 i := by
  simp [bv]
theorem MV_br {μ : gM} {v : gV} {n m k who x : Int} (h : MV μ v n m) (hw : who = 0 ∨ who = 1) (b1 : 0 ≤ v 3 (2 * k + who) + x ∧ v 3 (2 * k + who) + x ≤ 20) (b2 : 0 ≤ v 3 (2 * k + 1 - who) - x ∧ v 3 (2 * k + 1 - who) - x ≤ 20) : MV (br μ k who x) (bv v k who x) n m := by
  have hc := h.1.2.2.1.1.2.2.1
  have hJ : VJ (bv v k who x) := VJ_3 h.1.2.2.1 (fun j hj => bv_o hj) (fun i => by
    have := hc i
    rw [bv_3]
    split
    · next e => rw [e]; exact b2
    · split
      · next e => rw [e]; exact b1
      · exact this)
  obtain ⟨h1, h2, h3, h4, h5⟩ := h
  have e : br μ k who x 168 = μ 168 := br_o (by decide)
  refine ⟨MG_v (MG_fr e h1) hJ (fun j hj => bv_o hj), by rw [e]; exact h2, h3, ?_, fun i a b => ?_⟩
  · rw [e, br_o (by decide), bv_o (by decide), bv_o (by decide), bv_o (by decide), bv_o (by decide)]; exact h4
  · rw [br_v hw, bv_3, h5 i a b]
theorem bv_pv (v : gV) (k : Int) : bv v k 0 1 = pv v k := by
  funext j i
  unfold bv pv
  rw [Int.sub_zero, Int.add_zero]
theorem VL_bv0 {v : gV} {n k x : Int} (hx : 0 ≤ x) : VL v (bv v k 0 x) n := by
  refine ⟨fun j hj => bv_o hj, fun i a b => ?_⟩
  rw [bv_3, bv_3]
  constructor <;> ((repeat' split) <;> omega)
theorem VL_bv1 {v : gV} {n k x : Int} (hx : 0 ≤ x) : VL (bv v k 1 x) v n := by
  refine ⟨fun j hj => (bv_o hj).symm, fun i a b => ?_⟩
  rw [bv_3, bv_3]
  constructor <;> ((repeat' split) <;> omega)
/-- v with the tiles K tells -/
def hv (v : gV) (K : Int → Int) (n : Int) : gV := fun j i => if j = 3 ∧ 0 ≤ i ∧ i < 4 * n then K i else v j i
theorem hv_o {v : gV} {K : Int → Int} {n : Int} {j : Nat} (h : j ≠ 3) : hv v K n j = v j := by
  funext i
  simp [hv, h]
theorem hv_3 {v : gV} {K : Int → Int} {n i : Int} (h : 0 ≤ i ∧ i < 4 * n) : hv v K n 3 i = K i := by
  unfold hv
  rw [if_pos ⟨rfl, h⟩]
theorem MV_hv {μ m : gM} {v : gV} {n mm : Int} (h : MV μ v n mm) (h168 : m 168 = μ 168) (h173 : m 173 = μ 173) (hb : ∀ i, 0 ≤ i → i < 4 * n → 0 ≤ m 172 i ∧ m 172 i ≤ 20) : MV m (hv v (m 172) n) n mm := by
  have hc := h.1.2.2.1.1.2.2.1
  have hJ : VJ (hv v (m 172) n) := VJ_3 h.1.2.2.1 (fun j hj => hv_o hj) (fun i => by
    have := hc i
    by_cases q : 0 ≤ i ∧ i < 4 * n
    · rw [hv_3 q]; exact hb i q.1 q.2
    · unfold hv
      rw [if_neg (by omega)]; exact this)
  obtain ⟨h1, h2, h3, h4, h5⟩ := h
  refine ⟨MG_v (MG_fr h168 h1) hJ (fun j hj => hv_o hj), by rw [h168]; exact h2, h3, ?_, fun i a b => ?_⟩
  · rw [h168, h173, hv_o (by decide), hv_o (by decide), hv_o (by decide), hv_o (by decide)]; exact h4
  · rw [hv_3 ⟨a, b⟩]
/-- numbers of ten digits -/
def Vd (p : Int → Int) : Nat → Int
  | 0 => 0
  | N + 1 => 10 * Vd p N + p N
theorem Vd_bd {p : Int → Int} : ∀ N : Nat, (∀ i : Int, 0 ≤ i → i < N → 0 ≤ p i ∧ p i ≤ 9) → 0 ≤ Vd p N ∧ Vd p N < 10 ^ N
  | 0, _ => by
    show (0 : Int) ≤ 0 ∧ (0 : Int) < 10 ^ 0
    decide
  | N + 1, h => by
    have ih := Vd_bd N (fun i a b => h i a (by omega))
    have b := h N (by omega) (by omega)
    rw [Int.pow_succ]
    show 0 ≤ 10 * Vd p N + p N ∧ 10 * Vd p N + p N < _
    omega
theorem Vd_cg {p q : Int → Int} : ∀ N : Nat, (∀ i : Int, 0 ≤ i → i < N → q i = p i) → Vd q N = Vd p N
  | 0, _ => rfl
  | N + 1, h => by
    show 10 * Vd q N + q N = 10 * Vd p N + p N
    rw [Vd_cg N (fun i a b => h i a (by omega)), h N (by omega) (by omega)]
theorem Vd_up {p q : Int → Int} {k : Nat} : ∀ N : Nat, k < N → (∀ i : Int, 0 ≤ i → i < k → q i = p i) → q k = p k + 1 → (∀ i : Int, k < i → i < N → q i = 0 ∧ p i ≤ 9) → Vd p N < Vd q N
  | 0, hk, _, _, _ => absurd hk (by omega)
  | N + 1, hk, h1, h2, h3 => by
    show 10 * Vd p N + p N < 10 * Vd q N + q N
    by_cases e : k = N
    · subst e
      rw [Vd_cg k h1]
      omega
    · have ih := Vd_up N (by omega) h1 h2 (fun i a b => h3 i a (by omega))
      have := h3 N (by omega) (by omega)
      omega
/-- painting under way -/
def FPI (μ : gM) (v : gV) (n N w lf : Int) (m : gM) : Prop := (∀ i, 0 ≤ i → i < 2 * n → 0 ≤ m 174 i ∧ m 174 i ≤ v 3 (2 * i + 1 - w) ∧ m 172 (2 * i + w) = v 3 (2 * i + w) + m 174 i ∧ m 172 (2 * i + 1 - w) = v 3 (2 * i + 1 - w) - m 174 i) ∧ lf + sI (m 174) (2 * n) = N ∧ (∀ i, 2 * n ≤ i → i < 14 → m 174 i = 0) ∧ (∀ a, a ≠ 167 → a ≠ 172 → a ≠ 174 → a ≠ 175 → m a = μ a) ∧ (∀ j, j ≠ 10 → m 167 j = μ 167 j)
theorem FPI_b {μ : gM} {v : gV} {n N w lf x : Int} {m : gM} (h : FPI μ v n N w lf m) : FPI μ v n N w lf (wr m 167 10 x) := by
  obtain ⟨h1, h2, h3, h4, h5⟩ := h
  have e4 : wr m 167 10 x 174 = m 174 := wr_o (by decide)
  have e2 : wr m 167 10 x 172 = m 172 := wr_o (by decide)
  refine ⟨?_, ?_, ?_, fun a a1 a2 a3 a4 => ?_, fun j hj => ?_⟩
  · rw [e4, e2]; exact h1
  · rw [e4]; exact h2
  · rw [e4]; exact h3
  · rw [wr_o a1]; exact h4 a a1 a2 a3 a4
  · rw [wr_n hj]; exact h5 j hj
theorem FPI_u {μ : gM} {v : gV} {n N w lf x lf2 y : Int} {k : Int} {m : gM} (h : FPI μ v n N w lf m) (hn : n ≤ 7) (hw : w = 0 ∨ w = 1) (hk : 0 ≤ k ∧ k < 2 * n) (hx : 0 ≤ m 174 k + x ∧ m 174 k + x ≤ v 3 (2 * k + 1 - w)) (hl : lf2 = lf - x) (hy : y = m 174 k + x) : FPI μ v n N w lf2 (wr (br m k w x) 174 k y) := by
  obtain ⟨h1, h2, h3, h4, h5⟩ := h
  have e2 : wr (br m k w x) 174 k y 172 = br m k w x 172 := wr_o (by decide)
  have e4 : ∀ i, wr (br m k w x) 174 k y 174 i = if i = k then y else m 174 i := by
    intro i
    by_cases q : i = k
    · rw [if_pos q, q, wr_s]
    · rw [if_neg q, wr_n q, br_o (by decide)]
  refine ⟨fun i a b => ?_, ?_, fun i a b => ?_, fun a a1 a2 a3 a4 => ?_, fun j hj => ?_⟩
  · obtain ⟨q1, q2, q3, q4⟩ := h1 i a b
    rw [e2, e4, br_v hw, br_v hw]
    by_cases q : i = k
    · subst q
      rw [if_pos rfl, if_neg (by omega), if_pos rfl, if_pos rfl]
      omega
    · rw [if_neg q, if_neg (by omega), if_neg (by omega), if_neg (by omega), if_neg (by omega)]
      exact ⟨q1, q2, q3, q4⟩
  · have := sI_one (f := m 174) (f2 := wr (br m k w x) 174 k y 174) (k := k) (n := 2 * n) (fun i hi => by rw [e4, if_neg hi]) hk
    rw [this, e4, if_pos rfl]
    omega
  · rw [e4, if_neg (by omega)]; exact h3 i a b
  · rw [wr_o a3, br_o a2]; exact h4 a a1 a2 a3 a4
  · rw [wr_o (by decide), br_o (by decide)]; exact h5 j hj
theorem FPI_MV {μ : gM} {v : gV} {n N w lf mm : Int} {m : gM} (h : FPI μ v n N w lf m) (hw : w = 0 ∨ w = 1) (hM : MV μ v n mm) (h9 : ∀ i, 0 ≤ i → i < 4 * n → v 3 i ≤ 9) : MV m (hv v (m 172) n) n mm := by
  have hc := hM.1.2.2.1.1.2.2.1
  refine MV_hv hM (h.2.2.2.1 168 (by decide) (by decide) (by decide) (by decide)) (h.2.2.2.1 173 (by decide) (by decide) (by decide) (by decide)) (fun i a b => ?_)
  have q := h.1 (i / 2) (by omega) (by omega)
  have c1 := hc (2 * (i / 2) + w)
  have c2 := h9 (2 * (i / 2) + w) (by omega) (by omega)
  have c3 := h9 (2 * (i / 2) + 1 - w) (by omega) (by omega)
  rcases (by omega : i = 2 * (i / 2) + w ∨ i = 2 * (i / 2) + 1 - w) with e | e
  · rw [e]; omega
  · rw [e]; omega
theorem FPI_le {μ : gM} {v : gV} {n N w lf mm : Int} {m : gM} (h : FPI μ v n N w lf m) (hw : w = 0 ∨ w = 1) (hM : MV μ v n mm) (hM2 : MV m (hv v (m 172) n) n mm) : fO (hv v (m 172) n) n mm w ≤ fO v n mm w := by
  rcases hw with rfl | rfl
  · refine VL_O0 ⟨fun j hj => hv_o hj, fun k a b => ?_⟩ hM.1.2.2.1.1
    have q := h.1 k a b
    rw [Int.add_zero, Int.sub_zero] at q
    rw [hv_3 (by omega), hv_3 (by omega)]
    omega
  · refine VL_O1 ⟨fun j hj => (hv_o hj).symm, fun k a b => ?_⟩ hM2.1.2.2.1.1
    have q := h.1 k a b
    rw [show 2 * k + 1 - 1 = 2 * k by omega] at q
    rw [hv_3 (by omega), hv_3 (by omega)]
    omega
theorem FPI_eq {μ : gM} {v : gV} {n N w lf mm : Int} {m : gM} (h : FPI μ v n N w lf m) (hw : w = 0 ∨ w = 1) (hn : n ≤ 7) (hz : ∀ i, 0 ≤ i → i < 14 → m 174 i = 0) : fO (hv v (m 172) n) n mm w = fO v n mm w := by
  have hva : VA (hv v (m 172) n) v n mm := by
    refine ⟨fun k a b => ?_, fun k a b => ?_, fun k a b => ?_, fun k a b => ?_⟩
    · rw [hv_o (by decide), hv_o (by decide), hv_o (by decide), hv_o (by decide)]
      exact ⟨rfl, rfl, rfl, rfl⟩
    · have q := h.1 (k / 2) (by omega) (by omega)
      rw [hz _ (by omega) (by omega)] at q
      rw [hv_3 ⟨a, b⟩]
      rcases (by omega : k = 2 * (k / 2) + w ∨ k = 2 * (k / 2) + 1 - w) with e | e
      · rw [e]; omega
      · rw [e]; omega
    · rw [hv_o (by decide), hv_o (by decide), hv_o (by decide), hv_o (by decide), hv_o (by decide)]
      exact ⟨rfl, rfl, rfl, rfl, rfl⟩
    · rw [hv_o (by decide)]
  exact VA_fO hva hn w
def fpm (n b : Int) (p : Int → Int) : Nat := if b = 1 then (10 ^ (2 * n).toNat - Vd p (2 * n).toNat).toNat + 1 else 0
theorem fpm_0 {n b : Int} {p q : Int → Int} (hb : b = 0) : fpm n b q < fpm n 1 p := by
  unfold fpm
  rw [if_neg (by omega), if_pos rfl]
  omega
theorem fpm_1 {n k : Int} {p q : Int → Int} (hk : 0 ≤ k ∧ k < 2 * n) (h1 : ∀ i, 0 ≤ i → i < k → q i = p i) (h2 : q k = p k + 1) (h3 : ∀ i, k < i → i < 2 * n → q i = 0) (hp : ∀ i, 0 ≤ i → i < 2 * n → 0 ≤ p i ∧ p i ≤ 9) (hq : ∀ i, 0 ≤ i → i < 2 * n → 0 ≤ q i ∧ q i ≤ 9) : fpm n 1 q < fpm n 1 p := by
  have e : ((k.toNat : Nat) : Int) = k := by omega
  have a := Vd_up (p := p) (q := q) (k := k.toNat) (2 * n).toNat (by omega) (by rw [e]; exact h1) (by rw [e]; exact h2) (fun i x y => ⟨h3 i (by omega) (by omega), (hp i (by omega) (by omega)).2⟩)
  have b := Vd_bd (p := q) (2 * n).toNat (fun i x y => hq i x (by omega))
  unfold fpm
  rw [if_pos rfl, if_pos rfl]
  omega
