theorem gcd_inv {a b x y i : Int} (h1 : 0 ≤ i) (h3 : 0 ≤ x) (h4 : x < 562949953421312) (h5 : 0 ≤ y) (h6 : y < 562949953421312) (hi : i < 100) (hy : 0 < y) (h7 : Int.gcd x y = Int.gcd a b) (h8 : 0 < i → y < x ∧ 2 ^ (i - 1).toNat * (x * y) < 2 ^ 98) :
    0 ≤ i + 1 ∧ i + 1 ≤ 100 ∧ 0 ≤ y ∧ y < 562949953421312 ∧ 0 ≤ x % y ∧ x % y < 562949953421312 ∧ Int.gcd y (x % y) = Int.gcd a b ∧ (0 < i + 1 → x % y < y ∧ (2 : Int) ^ (i + 1 - 1).toNat * (y * (x % y)) < 2 ^ 98) := by
  have m1 := Int.emod_nonneg x (by omega : y ≠ 0)
  have m2 := Int.emod_lt_of_pos x hy
  refine ⟨by omega, by omega, h5, h6, m1, by omega, by rw [gcd_step h3 hy, h7], fun _ => ⟨m2, ?_⟩⟩
  rcases (by omega : i = 0 ∨ 0 < i) with rfl | hp
  · have e : y * (x % y) ≤ 562949953421311 * 562949953421311 := Int.mul_le_mul (by omega) (by omega) m1 (by omega)
    show (2 : Int) ^ 0 * (y * (x % y)) < 2 ^ 98
    omega
  · obtain ⟨q1, q2⟩ := h8 hp
    have hh := gcd_half (Int.le_of_lt q1) hy
    have e : (i + 1 - 1).toNat = (i - 1).toNat + 1 := by omega
    rw [e, Int.pow_succ, Int.mul_assoc]
    refine Int.lt_of_le_of_lt (Int.mul_le_mul_of_nonneg_left hh (Int.le_of_lt (Int.pow_pos (by decide)))) q2
theorem gcd_end {x y i : Int} (hi : i = 100) (h8 : 0 < i → y < x ∧ 2 ^ (i - 1).toNat * (x * y) < 2 ^ 98) (h3 : 0 ≤ x) (h5 : 0 ≤ y) : y = 0 := by
  subst hi
  obtain ⟨q1, q2⟩ := h8 (by decide)
  rcases (by omega : y = 0 ∨ 0 < y) with h | h
  · exact h
  · exfalso
    have h1 : 0 < x * y := Int.mul_pos (by omega) h
    have h2 : (2 : Int) ^ 99 * 1 ≤ 2 ^ 99 * (x * y) := Int.mul_le_mul_of_nonneg_left (by omega) (by decide)
    have q3 : (2 : Int) ^ 99 * (x * y) < 2 ^ 98 := q2
    omega
theorem mt_absl_s : Cond.static Lib.MathLoose.abs_long.x ∈ lw_gt := gt_of (by decide +kernel) rfl
theorem mt_absl_c : Cond.code Lib.MathLoose.abs_long.x Lib.MathLoose.abs_long.code 2 (some .long) ∈ lw_gt := gt_of (by decide +kernel) rfl
theorem w_absl {g : gG} {l : Launch} {Y : gY} {d : Nat} {post : gQ} {pc : Nat} {lv : List (Option gA)} {st : List gA} {μ : gM} {idx : Nat} {a : Int} (ha : -9223372036854775808 < a ∧ a < 9223372036854775808) (h1 : 1 ≤ d) (h2 : (st.map gcat).sum ≤ 27) (hl : Cond.methodLink Y.1.cls idx Lib.MathLoose.abs_long.x ∈ lw_gt) (hd : decode Y.2.1 pc = .ok (.invokestatic idx, 3))
    (kk : WA g l Y d post (pc + 3) lv (vL (a.natAbs : Int) :: st) μ) : WA g l Y d post pc lv (vL a :: st) μ := by
  intro p en s m args below meth c0 H locs ls C L hP hS
  refine va_mabs_long (x := lI a) C.1 C.2.1 (by rw [C.2.2.2.1]; exact L.1.symm) C.2.2.2.2.1 (C.2.2.2.2.2.1 _ hl) (C.2.2.2.2.2.1 _ mt_absl_s) (C.2.2.2.2.2.1 _ mt_i) (C.2.2.2.2.2.1 _ mt_absl_c) h1 (by rw [gcat_sum]; show _ ≤ 40 * d; omega) (Nat.zero_le _) (Nat.zero_le _) hd ?_
  have e : (if (0 : Int64) < lI a then lI a else -lI a) = lI (a.natAbs : Int) := by
    have hz : (0 : Int64) < lI a ↔ (0 : Int) < a := lI_lt (a := 0) (by decide) (by omega)
    by_cases q : 0 < a
    · rw [if_pos (hz.mpr q)]
      congr 1
      omega
    · rw [if_neg (fun z => q (hz.mp z)), lI_neg]
      congr 1
      omega
  rw [e]
  exact kk p en s m args below meth c0 H locs ls C L hP hS
