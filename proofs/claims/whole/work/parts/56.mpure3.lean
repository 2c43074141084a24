/-- roof r without its tiles -/
def zv (v : gV) (r : Int) : gV := fun j i => if j = 3 ∧ 4 * r ≤ i ∧ i < 4 * r + 4 then 0 else v j i
theorem zv_o {v : gV} {r : Int} {j : Nat} (h : j ≠ 3) : zv v r j = v j := by
  funext i
  simp [zv, h]
theorem zv_3 {v : gV} {r i : Int} : zv v r 3 i = if 4 * r ≤ i ∧ i < 4 * r + 4 then 0 else v 3 i := by
  simp [zv]
theorem zv_L {v : gV} (hV : VI v) {n s r : Int} (hr : 0 ≤ r ∧ r < n) : fL (zv v r) n s = fL v n s - fB v s r 0 + fB v s r 1 := by
  have t := fun sl => VL_T (v := v) (v2 := zv v r) (fun j hj => zv_o hj) s r sl
  have h := sI_one (f := fun i => fB v s i 0 - fB v s i 1) (f2 := fun i => fB (zv v r) s i 0 - fB (zv v r) s i 1) (k := r) (n := n) (fun i hi => by
    have t0 := VL_T (v := v) (v2 := zv v r) (fun j hj => zv_o hj) s i 0
    have t1 := VL_T (v := v) (v2 := zv v r) (fun j hj => zv_o hj) s i 1
    unfold fB fb
    rw [t0, t1, zv_3, zv_3, zv_3, zv_3, if_neg (by omega), if_neg (by omega), if_neg (by omega), if_neg (by omega)]) hr
  unfold fL
  rw [h]
  have z : ∀ w, 0 ≤ w → w ≤ 1 → fB (zv v r) s r w = 0 := by
    intro w w1 w2
    have b0 := fT_bd hV s r 0
    have b1 := fT_bd hV s r 1
    unfold fB fb
    rw [t 0, t 1, zv_3, zv_3, if_pos (by omega), if_pos (by omega)]
    omega
  rw [z 0 (by decide) (by decide), z 1 (by decide) (by decide)]
  omega
theorem MV_zv {μ m : gM} {v : gV} {n mm r : Int} (h : MV μ v n mm) (h168 : m 168 = μ 168) (h173 : m 173 = μ 173) (h172 : ∀ i, 0 ≤ i → i < 4 * n → m 172 i = if 4 * r ≤ i ∧ i < 4 * r + 4 then 0 else μ 172 i) : MV m (zv v r) n mm := by
  have hc := h.1.2.2.1.1.2.2.1
  have hJ : VJ (zv v r) := VJ_3 h.1.2.2.1 (fun j hj => zv_o hj) (fun i => by
    have := hc i
    rw [zv_3]
    split <;> omega)
  obtain ⟨h1, h2, h3, h4, h5⟩ := h
  refine ⟨MG_v (MG_fr h168 h1) hJ (fun j hj => zv_o hj), by rw [h168]; exact h2, h3, ?_, fun i a b => ?_⟩
  · rw [h168, h173, zv_o (by decide), zv_o (by decide), zv_o (by decide), zv_o (by decide)]; exact h4
  · rw [h172 i a b, zv_3, h5 i a b]
theorem VJ_gv {v : gV} (h : VJ v) (p : Int) : VJ (gv v p) := by
  obtain ⟨⟨q1, q2, q3, q4, q5, q6⟩, p1, p2, p3, p4, p5⟩ := h
  have e : ∀ j, j ≠ 11 → gv v p j = v j := by
    intro j hj
    funext i
    simp [gv, hj]
  unfold VJ VI
  rw [e 1 (by decide), e 2 (by decide), e 3 (by decide), e 6 (by decide), e 7 (by decide), e 8 (by decide), e 9 (by decide), e 10 (by decide), e 4 (by decide), e 5 (by decide)]
  refine ⟨⟨q1, q2, q3, q4, q5, fun k => ?_⟩, p1, p2, p3, p4, p5⟩
  have := q6 k
  unfold gv
  split <;> omega
theorem MV_gv {μ : gM} {v : gV} {n m p : Int} (h : MV μ v n m) (hp : 0 ≤ p ∧ p < 7) : MV (wr μ 168 (86 + p) 1) (gv v p) n m := by
  have e : ∀ j, j ≠ 11 → gv v p j = v j := by
    intro j hj
    funext i
    simp [gv, hj]
  obtain ⟨⟨g1, g2, g3, g4, g5⟩, h2, h3, h4, h5⟩ := h
  refine ⟨⟨?_, g2, VJ_gv g3 p, fun k a b => ?_, fun k a b => ?_⟩, ?_, h3, fun k a b => ?_, fun i a b => ?_⟩
  · rw [wr_n (by omega)]; exact g1
  · rw [wr_n (by omega), wr_n (by omega), wr_n (by omega), wr_n (by omega), wr_n (by omega), e 6 (by decide), e 7 (by decide), e 8 (by decide), e 9 (by decide), e 10 (by decide)]
    exact g4 k a b
  · by_cases q : k = p
    · subst q; rw [wr_s]; simp [gv]
    · rw [wr_n (by omega), g5 k a b]; simp [gv, q]
  · rw [wr_n (by omega)]; exact h2
  · rw [wr_n (by omega), wr_n (by omega), wr_n (by omega), wr_o (by decide), e 1 (by decide), e 2 (by decide), e 4 (by decide), e 5 (by decide)]
    exact h4 k a b
  · rw [wr_o (by decide), e 3 (by decide)]; exact h5 i a b
