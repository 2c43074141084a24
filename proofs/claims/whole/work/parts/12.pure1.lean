/-! bounds of what is computed -/
theorem vw_a (μ : gM) (c j : Nat) (k : Int) : vw μ c j k = μ (c + j) k := rfl
def VI (v : gV) : Prop := (∀ k, 0 ≤ v 1 k ∧ v 1 k ≤ 5) ∧ (∀ k, 0 ≤ v 2 k ∧ v 2 k ≤ 9) ∧ (∀ k, 0 ≤ v 3 k ∧ v 3 k ≤ 20) ∧ (∀ k, 0 ≤ v 9 k ∧ v 9 k ≤ 9) ∧ (∀ k, 0 ≤ v 10 k ∧ v 10 k ≤ 9) ∧ (∀ k, 0 ≤ v 11 k ∧ v 11 k ≤ 1)
theorem CI.VI {μ : gM} {c : Nat} (h : CI μ c) : VI (vw μ c) := ⟨CI_kind h, CI_age h, CI_cover h, CI_size h, CI_chance h, CI_guns h⟩
theorem fF_bd {v : gV} (h : VI v) (s r sl : Int) : 0 ≤ fF v s r sl ∧ fF v s r sl ≤ 9 := by
  obtain ⟨h1, h2, h3, h4, h5, h6⟩ := h
  have a1 := h4 s
  have a2 := h6 r
  have a3 := h6 (r - 1)
  have a4 := h6 (r + 1)
  unfold fF
  constructor <;> ((repeat' split) <;> omega)
theorem fT_bd {v : gV} (h : VI v) (s r sl : Int) : 0 ≤ fT v s r sl ∧ fT v s r sl ≤ 18 := by
  have a1 := fF_bd h s r sl
  obtain ⟨h1, h2, h3, h4, h5, h6⟩ := h
  have a2 := h2 r
  unfold fT
  constructor <;> ((repeat' split) <;> omega)
theorem fb_bd {v : gV} (h : VI v) (s r sl w : Int) : 0 ≤ fb v s r sl w ∧ fb v s r sl w ≤ 18 := by
  have a1 := fT_bd h s r sl
  have a2 := h.2.2.1 (4 * r + 2 * sl + w)
  unfold fb
  omega
theorem fB_bd {v : gV} (h : VI v) (s r w : Int) : 0 ≤ fB v s r w ∧ fB v s r w ≤ 36 := by
  have a1 := fb_bd h s r 0 w
  have a2 := fb_bd h s r 1 w
  unfold fB
  omega
theorem fA_bd {v : gV} (h : VI v) {n : Int} (hn : 0 ≤ n ∧ n ≤ 7) (s w : Int) : 0 ≤ fA v n s w ∧ fA v n s w ≤ 252 := by
  have := sI_bd (f := fun r => fB v s r w) hn.1 (fun k _ _ => fB_bd h s k w)
  unfold fA
  omega
theorem fL_bd {v : gV} (h : VI v) {n : Int} (hn : 0 ≤ n ∧ n ≤ 7) (s : Int) : -252 ≤ fL v n s ∧ fL v n s ≤ 252 := by
  have := sI_bd (f := fun r => fB v s r 0 - fB v s r 1) (a := -36) (b := 36) hn.1 (fun k _ _ => by
    have a1 := fB_bd h s k 0
    have a2 := fB_bd h s k 1
    omega)
  unfold fL
  omega
theorem fW_bd (x : Int) : -1 ≤ fW x ∧ fW x ≤ 1 := by
  unfold fW
  constructor <;> ((repeat' split) <;> omega)
theorem fC_bd {v : gV} (h : VI v) {m : Int} (hm : 0 ≤ m ∧ m ≤ 6) : 0 ≤ fC v m ∧ fC v m ≤ 54 := by
  have := sI_bd (f := fun s => v 10 s) hm.1 (fun k _ _ => h.2.2.2.2.1 k)
  unfold fC
  omega
theorem fO_bd {v : gV} (h : VI v) {m : Int} (hm : 0 ≤ m ∧ m ≤ 6) (n who : Int) : 0 ≤ fO v n m who ∧ fO v n m who ≤ 54 := by
  have := sI_bd (f := fun s => if fW (fL v n s) = who then v 10 s else 0) (a := 0) (b := 9) hm.1 (fun k _ _ => by
    have := h.2.2.2.2.1 k
    split <;> omega)
  unfold fO
  omega
theorem fE_bd {v : gV} (h : VI v) {m : Int} (hm : 0 ≤ m ∧ m ≤ 6) (n : Int) : -54 ≤ fE v n m ∧ fE v n m ≤ 54 := by
  have := sI_bd (f := fun s => if fL v n s < 0 then v 10 s else if 0 < fL v n s then - v 10 s else 0) (a := -9) (b := 9) hm.1 (fun k _ _ => by
    have := h.2.2.2.2.1 k
    (repeat' split) <;> omega)
  unfold fE
  omega
def it (F : Int → Int → Int) (h : Int) : Nat → Int
  | 0 => h
  | n + 1 => F n (it F h n)
def itI (F : Int → Int → Int) (h n : Int) : Int := it F h n.toNat
theorem itI_0 (F : Int → Int → Int) (h : Int) : itI F h 0 = h := rfl
theorem itI_s (F : Int → Int → Int) (h : Int) {n : Int} (hn : 0 ≤ n) : itI F h (n + 1) = F n (itI F h n) := by
  unfold itI
  obtain ⟨k, rfl⟩ := Int.eq_ofNat_of_zero_le hn
  rfl
theorem it_cg {F F2 : Int → Int → Int} {h : Int} : ∀ n : Nat, (∀ k x : Int, 0 ≤ k → k < n → F k x = F2 k x) → it F h n = it F2 h n
  | 0, _ => rfl
  | n + 1, q => by rw [it, it, it_cg n (fun k x h1 h2 => q k x h1 (by omega)), q n _ (by omega) (by omega)]
theorem itI_cg {F F2 : Int → Int → Int} {h n : Int} (q : ∀ k x : Int, 0 ≤ k → k < n → F k x = F2 k x) : itI F h n = itI F2 h n := by
  unfold itI
  exact it_cg _ (fun k x h1 h2 => q k x h1 (by omega))
def mxS (v : gV) (s h : Int) : Int := 31 * (31 * (31 * (31 * (31 * h + v 6 s) + v 7 s) + v 8 s) + v 9 s) + v 10 s
def mxR (v : gV) (r h : Int) : Int := 31 * (31 * itI (fun i x => 31 * x + v 3 (4 * r + i)) (31 * (31 * h + v 1 r) + v 2 r) 4 + v 4 r) + v 5 r
theorem wr_restore {μ : gM} {a : Nat} {i j : Int} (h : i ≠ j) : wr (wr (wr (wr μ a j (μ a j - 1)) a i (wr μ a j (μ a j - 1) a i + 1)) a i (wr (wr μ a j (μ a j - 1)) a i (wr μ a j (μ a j - 1) a i + 1) a i - 1)) a j (wr (wr (wr μ a j (μ a j - 1)) a i (wr μ a j (μ a j - 1) a i + 1)) a i (wr (wr μ a j (μ a j - 1)) a i (wr μ a j (μ a j - 1) a i + 1) a i - 1) a j + 1) = μ := by
  funext b k
  unfold wr
  by_cases hb : b = a
  · subst hb
    by_cases h1 : k = j
    · subst h1
      simp [h, Ne.symm h]
    · by_cases h2 : k = i
      · subst h2
        simp [h1]
      · simp [h1, h2]
  · simp [hb]
theorem wr_same {μ : gM} {a : Nat} {i x : Int} (h : μ a i = x) : wr μ a i x = μ := by
  funext b k
  unfold wr
  split
  · next q => rw [q.1, q.2, h]
  · rfl
theorem wr_wr {μ : gM} {a : Nat} {i x y : Int} : wr (wr μ a i x) a i y = wr μ a i y := by
  funext b k
  unfold wr
  split
  · rfl
  · rfl
/-- a canton stays in bounds where a place of one of its rows is changed within bounds -/
theorem CI_cover_wr {μ : gM} {c : Nat} {i x : Int} (h : CI μ c) (hx : 0 ≤ x ∧ x ≤ 20) : CI (wr μ (c + 3) i x) c := by
  have e : ∀ j, j ≠ 3 → wr μ (c + 3) i x (c + j) = μ (c + j) := fun j hj => wr_o (by omega)
  have e0 : wr μ (c + 3) i x c = μ c := wr_o (by omega)
  obtain ⟨h1, h2, h3, h4, h5, h6, h7, h8, h9, h10, h11, h12, h13⟩ := h
  unfold CI
  rw [e0, e 1 (by decide), e 2 (by decide), e 4 (by decide), e 5 (by decide), e 6 (by decide), e 7 (by decide), e 8 (by decide), e 9 (by decide), e 10 (by decide), e 11 (by decide)]
  refine ⟨h1, h2, h3, h4, fun k => ?_, h6, h7, h8, h9, h10, h11, h12, h13⟩
  have := h5 k
  unfold wr
  split <;> omega
theorem CI_guns_wr {μ : gM} {c : Nat} {i x : Int} (h : CI μ c) (hx : 0 ≤ x ∧ x ≤ 1) : CI (wr μ (c + 11) i x) c := by
  have e : ∀ j, j ≠ 11 → wr μ (c + 11) i x (c + j) = μ (c + j) := fun j hj => wr_o (by omega)
  have e0 : wr μ (c + 11) i x c = μ c := wr_o (by omega)
  obtain ⟨h1, h2, h3, h4, h5, h6, h7, h8, h9, h10, h11, h12, h13⟩ := h
  unfold CI
  rw [e0, e 1 (by decide), e 2 (by decide), e 3 (by decide), e 4 (by decide), e 5 (by decide), e 6 (by decide), e 7 (by decide), e 8 (by decide), e 9 (by decide), e 10 (by decide)]
  refine ⟨h1, h2, h3, h4, h5, h6, h7, h8, h9, h10, h11, h12, fun k => ?_⟩
  have := h13 k
  unfold wr
  split <;> omega
