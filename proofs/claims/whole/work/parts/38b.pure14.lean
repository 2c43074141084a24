theorem cn_rd {c i : Nat} (hc : cn c) (hi : i < 12) : c + i ≠ 151 ∧ c + i ≠ 152 ∧ c + i ≠ 153 ∧ c + i ≠ 154 ∧ c + i ≠ 0 := by
  have h := cn_all (p := fun c => (List.range 12).all (fun i => decide (c + i ≠ 151 ∧ c + i ≠ 152 ∧ c + i ≠ 153 ∧ c + i ≠ 154 ∧ c + i ≠ 0))) (by decide) hc
  have h2 := List.all_eq_true.mp h i (List.mem_range.mpr hi)
  simp only [decide_eq_true_eq] at h2
  exact h2
theorem mAR_o {μ : gM} {c a : Nat} {n k b x0 x1 x2 x3 : Int} (h : a < c ∨ c + 6 ≤ a) : mAR μ c n k b x0 x1 x2 x3 a = μ a := by
  unfold mAR
  rw [wr_o (by omega), wr_o (by omega), wr_o (by omega), wr_o (by omega), wr_o (by omega), wr_o (by omega), wr_o (by omega), wr_o (by omega), wr_o (by omega)]
theorem mAS_o {μ : gM} {c a : Nat} {n f t w z y : Int} (h : a < c ∨ (c < a ∧ a < c + 6) ∨ c + 11 ≤ a) : mAS μ c n f t w z y a = μ a := by
  unfold mAS
  rw [wr_o (by omega), wr_o (by omega), wr_o (by omega), wr_o (by omega), wr_o (by omega), wr_o (by omega)]
theorem wr_cg {μ m : gM} {c a : Nat} {i x : Int} (h : m a = μ a) : wr m c i x a = wr μ c i x a := by
  funext j
  unfold wr
  rw [h]
theorem mAR_cg {μ m : gM} {c a : Nat} {n k b x0 x1 x2 x3 : Int} (h : m a = μ a) : mAR m c n k b x0 x1 x2 x3 a = mAR μ c n k b x0 x1 x2 x3 a := by
  unfold mAR
  exact wr_cg (wr_cg (wr_cg (wr_cg (wr_cg (wr_cg (wr_cg (wr_cg (wr_cg h))))))))
theorem mAS_cg {μ m : gM} {c a : Nat} {n f t w z y : Int} (h : m a = μ a) : mAS m c n f t w z y a = mAS μ c n f t w z y a := by
  unfold mAS
  exact wr_cg (wr_cg (wr_cg (wr_cg (wr_cg (wr_cg h)))))
/-- what a reading into canton c leaves as it was -/
def smc (c : Nat) (μ μ2 : gM) : Prop := μ2 152 = μ 152 ∧ μ2 151 0 = μ 151 0 ∧ ∀ a, a ≠ 151 → a ≠ 153 → (a < c ∨ c + 12 ≤ a) → μ2 a = μ a
theorem sme.smc {c : Nat} {μ μ2 : gM} (h : sme μ μ2) : smc c μ μ2 := ⟨h.1, h.2.1, fun a h1 h2 _ => h.2.2 a h1 h2⟩
theorem smc.trans {c : Nat} {a b d : gM} (h : smc c a b) (k : smc c b d) : smc c a d := ⟨k.1.trans h.1, k.2.1.trans h.2.1, fun x h1 h2 h3 => (k.2.2 x h1 h2 h3).trans (h.2.2 x h1 h2 h3)⟩
theorem nq_y {T : Int → Int} {L p : Int} {r : Int × Int} {R : List (Int × Int)} (h : tS T L p = 2 ∧ r.1 ≤ tV T L p ∧ tV T L p ≤ r.2) : nq T L (r :: R) p = nq T L R (tE T L p) := if_pos h
theorem nq_n {T : Int → Int} {L p : Int} {r : Int × Int} {R : List (Int × Int)} (h : ¬ (tS T L p = 2 ∧ r.1 ≤ tV T L p ∧ tV T L p ≤ r.2)) : nq T L (r :: R) p = (0, p) := if_neg h
theorem nq_t {T : Int → Int} {L p : Int} (h : tS T L p = 3) : nq T L [] p = (1, p) := if_pos h
theorem nq_f {T : Int → Int} {L p : Int} (h : tS T L p ≠ 3) : nq T L [] p = (0, p) := if_neg h
