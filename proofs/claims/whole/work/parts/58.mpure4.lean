theorem fA_b9 {v : gV} {n : Int} (hV : VI v) (hn : 0 ≤ n ∧ n ≤ 7) (h9 : ∀ i, 0 ≤ i → i < 4 * n → v 3 i ≤ 9) (s : Int) {w : Int} (hw : 0 ≤ w ∧ w ≤ 1) : 0 ≤ fA v n s w ∧ fA v n s w ≤ 126 := by
  have := sI_bd (f := fun r => fB v s r w) (a := 0) (b := 18) hn.1 (fun k k1 k2 => by
    have a1 := fb_bd hV s k 0 w
    have a2 := fb_bd hV s k 1 w
    have b1 := fb_le v s k 0 w
    have b2 := fb_le v s k 1 w
    have c1 := h9 (4 * k + 2 * 0 + w) (by omega) (by omega)
    have c2 := h9 (4 * k + 2 * 1 + w) (by omega) (by omega)
    unfold fB
    omega)
  unfold fA
  omega
theorem fD_y {v : gV} {n r k c : Int} (hk : 0 ≤ k) (h : c = fD v n k r) (hd : dcd v n k r) : c + 1 = fD v n (k + 1) r := by
  unfold fD at h ⊢
  rw [sI_s _ hk, ← h, if_pos hd]
theorem fD_n {v : gV} {n r k c : Int} (hk : 0 ≤ k) (h : c = fD v n k r) (hd : ¬ dcd v n k r) : c + 0 = fD v n (k + 1) r := by
  unfold fD at h ⊢
  rw [sI_s _ hk, ← h, if_neg hd]
theorem fP_y {v : gV} {n r k c : Int} (hk : 0 ≤ k) (h : c = fP v n k r) (hd : dcd v n k r) : c + v 10 k = fP v n (k + 1) r := by
  unfold fP at h ⊢
  rw [sI_s _ hk, ← h, if_pos hd]
theorem fP_n {v : gV} {n r k c : Int} (hk : 0 ≤ k) (h : c = fP v n k r) (hd : ¬ dcd v n k r) : c + 0 = fP v n (k + 1) r := by
  unfold fP at h ⊢
  rw [sI_s _ hk, ← h, if_neg hd]
