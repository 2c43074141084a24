theorem w_i2lw {g : gG} {l : Launch} {Y : gY} {d : Nat} {post : gQ} {pc : Nat} {lv : List (Option gA)} {st : List gA} {μ : gM} {a : Int} (hd : decode Y.2.1 pc = .ok (.i2l, 1)) (kk : WA g l Y d post (pc + 1) lv (vL (iI a).toInt :: st) μ) : WA g l Y d post pc lv (vI a :: st) μ := by
  intro p en s m args below meth c H locs ls C L hP hS
  refine lv_i2l C.1 C.2.1 hd ?_ (kk p en s m args below meth c H locs ls C L hP hS)
  have h := iI_l (toInt_rg (iI a))
  rw [iI_of] at h
  exact h
def bad (μ : gM) : gM := wr μ 0 6 (μ 0 6 + 1)
def nop (μ : gM) : gM := wr μ 0 7 (μ 0 7 + 1)
def ful (μ : gM) : gM := wr μ 0 8 (μ 0 8 + 1)
def frc (μ : gM) (a b : Int) : gM := wr (wr μ 154 0 (a.tdiv (Int.gcd a b))) 154 1 (b.tdiv (Int.gcd a b))
/-- views that agree where a canton of n roofs and m storms has something -/
def VA (v v2 : gV) (n m : Int) : Prop := (∀ k, 0 ≤ k → k < n → v 1 k = v2 1 k ∧ v 2 k = v2 2 k ∧ v 4 k = v2 4 k ∧ v 5 k = v2 5 k) ∧ (∀ k, 0 ≤ k → k < 4 * n → v 3 k = v2 3 k) ∧ (∀ k, 0 ≤ k → k < m → v 6 k = v2 6 k ∧ v 7 k = v2 7 k ∧ v 8 k = v2 8 k ∧ v 9 k = v2 9 k ∧ v 10 k = v2 10 k) ∧ (∀ k, 0 ≤ k → k < 7 → v 11 k = v2 11 k)
theorem VA.symm {v v2 : gV} {n m : Int} (h : VA v v2 n m) : VA v2 v n m := by
  obtain ⟨h1, h2, h3, h4⟩ := h
  refine ⟨fun k a b => ?_, fun k a b => (h2 k a b).symm, fun k a b => ?_, fun k a b => (h4 k a b).symm⟩
  · obtain ⟨x, y, z, w⟩ := h1 k a b
    exact ⟨x.symm, y.symm, z.symm, w.symm⟩
  · obtain ⟨x, y, z, w, u⟩ := h3 k a b
    exact ⟨x.symm, y.symm, z.symm, w.symm, u.symm⟩
theorem VA_fF {v v2 : gV} {n m : Int} (h : VA v v2 n m) (hn : n ≤ 7) {s r : Int} (sl : Int) (hs : 0 ≤ s ∧ s < m) (hr : 0 ≤ r ∧ r < n) : fF v s r sl = fF v2 s r sl := by
  obtain ⟨h1, h2, h3, h4⟩ := h
  obtain ⟨a, b, c, d, e⟩ := h3 s hs.1 hs.2
  exact fF_cg a b c d (h4 r hr.1 (by omega)) (fun q => h4 (r - 1) (by omega) (by omega)) (fun q => h4 (r + 1) (by omega) (by omega))
theorem VA_fT {v v2 : gV} {n m : Int} (h : VA v v2 n m) (hn : n ≤ 7) {s r : Int} (sl : Int) (hs : 0 ≤ s ∧ s < m) (hr : 0 ≤ r ∧ r < n) : fT v s r sl = fT v2 s r sl := by
  obtain ⟨a, b, c, d⟩ := h.1 r hr.1 hr.2
  exact fT_cg (VA_fF h hn sl hs hr) a b
theorem VA_fb {v v2 : gV} {n m : Int} (h : VA v v2 n m) (hn : n ≤ 7) {s r sl w : Int} (hs : 0 ≤ s ∧ s < m) (hr : 0 ≤ r ∧ r < n) (hsl : 0 ≤ sl ∧ sl ≤ 1) (hw : 0 ≤ w ∧ w ≤ 1) : fb v s r sl w = fb v2 s r sl w :=
  fb_cg (VA_fT h hn sl hs hr) (h.2.1 _ (by omega) (by omega))
theorem VA_fB {v v2 : gV} {n m : Int} (h : VA v v2 n m) (hn : n ≤ 7) {s r w : Int} (hs : 0 ≤ s ∧ s < m) (hr : 0 ≤ r ∧ r < n) (hw : 0 ≤ w ∧ w ≤ 1) : fB v s r w = fB v2 s r w := by
  unfold fB
  rw [VA_fb h hn hs hr (by decide) hw, VA_fb h hn hs hr (by decide) hw]
theorem VA_fA {v v2 : gV} {n m : Int} (h : VA v v2 n m) (hn : n ≤ 7) {s w : Int} (hs : 0 ≤ s ∧ s < m) (hw : 0 ≤ w ∧ w ≤ 1) : fA v n s w = fA v2 n s w :=
  sI_cg (fun k h1 h2 => VA_fB h hn hs ⟨h1, h2⟩ hw)
theorem VA_fL {v v2 : gV} {n m : Int} (h : VA v v2 n m) (hn : n ≤ 7) {s : Int} (hs : 0 ≤ s ∧ s < m) : fL v n s = fL v2 n s :=
  sI_cg (fun k h1 h2 => by rw [VA_fB h hn hs ⟨h1, h2⟩ (by decide), VA_fB h hn hs ⟨h1, h2⟩ (by decide)])
theorem VA_fC {v v2 : gV} {n m : Int} (h : VA v v2 n m) {k : Int} (hk : k ≤ m) : fC v k = fC v2 k :=
  sI_cg (fun s h1 h2 => (h.2.2.1 s h1 (by omega)).2.2.2.2)
theorem VA_fO {v v2 : gV} {n m : Int} (h : VA v v2 n m) (hn : n ≤ 7) (who : Int) : fO v n m who = fO v2 n m who :=
  sI_cg (fun s h1 h2 => by rw [VA_fL h hn ⟨h1, h2⟩, (h.2.2.1 s h1 h2).2.2.2.2])
theorem VA_fE {v v2 : gV} {n m : Int} (h : VA v v2 n m) (hn : n ≤ 7) : fE v n m = fE v2 n m :=
  sI_cg (fun s h1 h2 => by rw [VA_fL h hn ⟨h1, h2⟩, (h.2.2.1 s h1 h2).2.2.2.2])
theorem CQ_VA {μ2 μ : gM} {c o : Nat} (h : CQ μ2 c μ o) {n m : Int} (hn : n ≤ 7) (hm : m ≤ 6) : VA (vw μ2 c) (vw μ o) n m := by
  obtain ⟨h0, h1, h2, h3, h4, h5, h6, h7, h8, h9, h10, h11⟩ := h
  exact ⟨fun k a b => ⟨h1 k a (by omega), h2 k a (by omega), h4 k a (by omega), h5 k a (by omega)⟩, fun k a b => h3 k a (by omega), fun k a b => ⟨h6 k a (by omega), h7 k a (by omega), h8 k a (by omega), h9 k a (by omega), h10 k a (by omega)⟩, fun k a b => h11 k a b⟩
/-- a canton as it may stand in a story: tiles 9 at most, every storm with a chance -/
def SC (μ : gM) (c : Nat) : Prop := CI μ c ∧ (∀ k, 0 ≤ k → k < 4 * μ c 0 → μ (c + 3) k ≤ 9) ∧ (∀ k, 0 ≤ k → k < μ c 1 → 1 ≤ μ (c + 10) k)
theorem fC_pos {v : gV} {m : Int} (hm : 0 < m) (h : ∀ k, 0 ≤ k → k < m → 1 ≤ v 10 k ∧ v 10 k ≤ 9) : 0 < fC v m := by
  have := sI_bd (f := fun s => v 10 s) (a := 1) (b := 9) (n := m) (by omega) h
  unfold fC
  omega
theorem SC_pos {μ : gM} {c : Nat} (h : SC μ c) (hm : 0 < μ c 1) : 0 < fC (vw μ c) (μ c 1) := fC_pos hm (fun k a b => ⟨h.2.2 k a b, (CI_chance h.1 k).2⟩)
theorem fA_bd9 {μ : gM} {c : Nat} (h : SC μ c) (s : Int) {w : Int} (hw : 0 ≤ w ∧ w ≤ 1) : 0 ≤ fA (vw μ c) (μ c 0) s w ∧ fA (vw μ c) (μ c 0) s w ≤ 126 := by
  have hn := CI_roofs h.1
  have := sI_bd (f := fun r => fB (vw μ c) s r w) (a := 0) (b := 18) hn.1 (fun k k1 k2 => by
    have a1 := fb_bd (CI.VI h.1) s k 0 w
    have a2 := fb_bd (CI.VI h.1) s k 1 w
    have b1 := fb_le (vw μ c) s k 0 w
    have b2 := fb_le (vw μ c) s k 1 w
    have c1 := h.2.1 (4 * k + 2 * 0 + w) (by omega) (by omega)
    have c2 := h.2.1 (4 * k + 2 * 1 + w) (by omega) (by omega)
    simp only [vw_a] at b1 b2
    unfold fB
    omega)
  unfold fA
  omega
def dcd (v : gV) (n s r : Int) : Prop := fW (fL v n s) ≠ fW (fL v n s - fB v s r 0 + fB v s r 1)
noncomputable def fD (v : gV) (n m r : Int) : Int := sI (fun s => @ite _ (dcd v n s r) (Classical.propDecidable _) 1 0) m
noncomputable def fP (v : gV) (n m r : Int) : Int := sI (fun s => @ite _ (dcd v n s r) (Classical.propDecidable _) (v 10 s) 0) m
theorem fP_bd {v : gV} (h : VI v) {m : Int} (hm : 0 ≤ m ∧ m ≤ 6) (n r : Int) : 0 ≤ fP v n m r ∧ fP v n m r ≤ 54 := by
  have := sI_bd (f := fun s => @ite _ (dcd v n s r) (Classical.propDecidable _) (v 10 s) 0) (a := 0) (b := 9) hm.1 (fun k _ _ => by
    have := h.2.2.2.2.1 k
    split <;> omega)
  unfold fP
  omega
