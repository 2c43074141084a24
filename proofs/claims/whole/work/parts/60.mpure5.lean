def fbq (v : gV) (s i : Int) : Int := if s = -1 then 0 else fb v s (i / 4) (i / 2 % 2) (i % 2)
theorem sm_four {f : Int → Int} : ∀ n : Nat, sm f (4 * n) = sm (fun r => f (4 * r) + f (4 * r + 1) + (f (4 * r + 2) + f (4 * r + 3))) n
  | 0 => rfl
  | n + 1 => by
    have e : 4 * (n + 1) = 4 * n + 1 + 1 + 1 + 1 := by omega
    rw [e]
    show sm f (4 * n) + f ((4 * n : Nat) : Int) + f ((4 * n + 1 : Nat) : Int) + f ((4 * n + 1 + 1 : Nat) : Int) + f ((4 * n + 1 + 1 + 1 : Nat) : Int) = sm _ n + (f (4 * (n : Int)) + f (4 * (n : Int) + 1) + (f (4 * (n : Int) + 2) + f (4 * (n : Int) + 3)))
    rw [sm_four n, show ((4 * n : Nat) : Int) = 4 * (n : Int) by omega, show ((4 * n + 1 : Nat) : Int) = 4 * (n : Int) + 1 by omega, show ((4 * n + 1 + 1 : Nat) : Int) = 4 * (n : Int) + 2 by omega, show ((4 * n + 1 + 1 + 1 : Nat) : Int) = 4 * (n : Int) + 3 by omega]
    omega
theorem sI_four {f : Int → Int} {n : Int} (hn : 0 ≤ n) : sI f (4 * n) = sI (fun r => f (4 * r) + f (4 * r + 1) + (f (4 * r + 2) + f (4 * r + 3))) n := by
  obtain ⟨j, rfl⟩ := Int.eq_ofNat_of_zero_le hn
  unfold sI
  rw [show (4 * (j : Int)).toNat = 4 * j by omega, show ((j : Int)).toNat = j by omega]
  exact sm_four j
theorem fY_q {v : gV} {n s : Int} (hn : 0 ≤ n) : sI (fbq v s) (4 * n) = fY v n s := by
  rw [sI_four hn]
  unfold fY
  refine sI_cg (fun r a b => ?_)
  unfold fbq
  by_cases h : s = -1
  · simp [h]
  · simp only [if_neg h]
    rw [show (4 * r) / 4 = r by omega, show (4 * r + 1) / 4 = r by omega, show (4 * r + 2) / 4 = r by omega, show (4 * r + 3) / 4 = r by omega, show (4 * r) / 2 % 2 = 0 by omega, show (4 * r + 1) / 2 % 2 = 0 by omega, show (4 * r + 2) / 2 % 2 = 1 by omega, show (4 * r + 3) / 2 % 2 = 1 by omega, show (4 * r) % 2 = 0 by omega, show (4 * r + 1) % 2 = 1 by omega, show (4 * r + 2) % 2 = 0 by omega, show (4 * r + 3) % 2 = 1 by omega]
theorem fbq_bd {v : gV} (h : VI v) (s i : Int) : 0 ≤ fbq v s i ∧ fbq v s i ≤ v 3 i ∧ fbq v s i ≤ 18 := by
  unfold fbq
  have c := h.2.2.1 i
  split
  · omega
  · have a := fb_bd h s (i / 4) (i / 2 % 2) (i % 2)
    have b := fb_le v s (i / 4) (i / 2 % 2) (i % 2)
    rw [show 4 * (i / 4) + 2 * (i / 2 % 2) + i % 2 = i by omega] at b
    omega
theorem yv_3 {v : gV} {n s i : Int} (h : 0 ≤ i ∧ i < 4 * n) : yv v n s 3 i = v 3 i - fbq v s i := by
  unfold yv fbq
  rw [if_pos ⟨rfl, h⟩]
theorem yv_2 {v : gV} {n s i : Int} (h : 0 ≤ i ∧ i < n) : yv v n s 2 i = min (v 2 i + 1) 9 := by
  unfold yv
  rw [if_neg (by omega), if_pos ⟨rfl, h⟩]
theorem yv_o {v : gV} {n s : Int} {j : Nat} (h3 : j ≠ 3) (h2 : j ≠ 2) : yv v n s j = v j := by
  funext i
  simp [yv, h3, h2]
theorem VJ_yv {v : gV} (h : VJ v) (n s : Int) : VJ (yv v n s) := by
  have hV := h.1
  obtain ⟨⟨q1, q2, q3, q4, q5, q6⟩, p1, p2, p3, p4, p5⟩ := h
  unfold VJ VI
  rw [yv_o (j := 1) (by decide) (by decide), yv_o (j := 6) (by decide) (by decide), yv_o (j := 7) (by decide) (by decide), yv_o (j := 8) (by decide) (by decide), yv_o (j := 9) (by decide) (by decide), yv_o (j := 10) (by decide) (by decide), yv_o (j := 11) (by decide) (by decide), yv_o (j := 4) (by decide) (by decide), yv_o (j := 5) (by decide) (by decide)]
  refine ⟨⟨q1, fun k => ?_, fun k => ?_, q4, q5, q6⟩, p1, p2, p3, p4, p5⟩
  · have := q2 k
    by_cases q : 0 ≤ k ∧ k < n
    · rw [yv_2 q]; omega
    · unfold yv
      rw [if_neg (by omega), if_neg (by omega)]; exact this
  · have := q3 k
    have := fbq_bd hV s k
    by_cases q : 0 ≤ k ∧ k < 4 * n
    · rw [yv_3 q]; omega
    · unfold yv
      rw [if_neg (by omega), if_neg (by omega)]; omega
theorem MV_yv {μ m : gM} {v : gV} {n mm s : Int} (h : MV μ v n mm) (h168 : m 168 = μ 168) (h173 : ∀ i, 0 ≤ i → i < n → m 173 i = min (v 2 i + 1) 9) (h172 : ∀ i, 0 ≤ i → i < 4 * n → m 172 i = v 3 i - fbq v s i) : MV m (yv v n s) n mm := by
  obtain ⟨⟨g1, g2, g3, g4, g5⟩, h2, h3, h4, h5⟩ := h
  refine ⟨⟨by rw [h168]; exact g1, g2, VJ_yv g3 n s, ?_, ?_⟩, by rw [h168]; exact h2, h3, fun k a b => ?_, fun i a b => ?_⟩
  · rw [h168, yv_o (by decide) (by decide), yv_o (by decide) (by decide), yv_o (by decide) (by decide), yv_o (by decide) (by decide), yv_o (by decide) (by decide)]; exact g4
  · rw [h168, yv_o (by decide) (by decide)]; exact g5
  · obtain ⟨q1, q2, q3, q4⟩ := h4 k a b
    rw [h168, yv_o (j := 1) (by decide) (by decide), yv_o (j := 4) (by decide) (by decide), yv_o (j := 5) (by decide) (by decide), yv_2 ⟨a, b⟩]
    exact ⟨q1, h173 k a b, q3, q4⟩
  · rw [h172 i a b, yv_3 ⟨a, b⟩]
theorem fbq_hv {v : gV} {K : Int → Int} {n s k : Int} (hs : s ≠ -1) (hk : 0 ≤ k ∧ k < 4 * n) (h : K k = v 3 k) : fb (hv v K n) s (k / 4) (k / 2 % 2) (k % 2) = fbq v s k := by
  have t := VL_T (v := v) (v2 := hv v K n) (fun j hj => hv_o hj) s (k / 4) (k / 2 % 2)
  unfold fbq
  rw [if_neg hs]
  unfold fb
  rw [t, show 4 * (k / 4) + 2 * (k / 2 % 2) + k % 2 = k by omega, hv_3 hk, h]
/-- rows with places copied -/
def cX (D S : Int → Int) (a b n : Int) : Int → Int := fun j => if a ≤ j ∧ j < a + n then S (b + (j - a)) else D j
theorem cX_0 (D S : Int → Int) (a b : Int) : cX D S a b 0 = D := by
  funext j
  unfold cX
  rw [if_neg (by omega)]
theorem cX_s {D S : Int → Int} {a b k i x : Int} (hk : 0 ≤ k) (hi : i = a + k) (hx : x = S (b + k)) : kup (cX D S a b k) i x = cX D S a b (k + 1) := by
  funext j
  subst hi hx
  unfold kup cX
  by_cases h : j = a + k
  · subst h
    rw [if_pos rfl, if_pos (by omega), show b + (a + k - a) = b + k by omega]
  · rw [if_neg h]
    by_cases h2 : a ≤ j ∧ j < a + k
    · rw [if_pos h2, if_pos (by omega)]
    · rw [if_neg h2, if_neg (by omega)]
theorem cX_o {D S : Int → Int} {a b n j : Int} (h : j < a ∨ a + n ≤ j) : cX D S a b n j = D j := by
  unfold cX
  rw [if_neg (by omega)]
theorem cX_i {D S : Int → Int} {a b n j : Int} (h : a ≤ j ∧ j < a + n) : cX D S a b n j = S (b + (j - a)) := by
  unfold cX
  rw [if_pos h]
def kFO (K : Int → Int) : Int → Int := if K 96 = 3 then kup (cX K K 97 192 190) 96 2 else K
def kKY (K : Int → Int) : Int → Int := kup (cX (kFO K) (kFO K) (97 + 95 * kFO K 96) 0 95) 96 (kFO K 96 + 1)
theorem kFO_lt {K : Int → Int} {j : Int} (h : j < 96) : kFO K j = K j := by
  unfold kFO
  split
  · rw [kup_n (by omega), cX_o (by omega)]
  · rfl
theorem kFO_u {K : Int → Int} (h : 0 ≤ K 96 ∧ K 96 ≤ 3) : 0 ≤ kFO K 96 ∧ kFO K 96 ≤ 2 := by
  unfold kFO
  split
  · rw [kup_s]; decide
  · omega
theorem kKY_lt {K : Int → Int} {j : Int} (hK : 0 ≤ K 96 ∧ K 96 ≤ 3) (h : j < 96) : kKY K j = K j := by
  have := kFO_u hK
  unfold kKY
  rw [kup_n (by omega), cX_o (by omega), kFO_lt h]
theorem NW_cg {μ μ2 : gM} {v : gV} {n m : Int} (h : ∀ j, 0 ≤ j → j < 95 → μ2 168 j = μ 168 j) (hN : NW μ v n m) : NW μ2 v n m := by
  obtain ⟨⟨g1, g2, g3, g4, g5⟩, h2, h3, h4, h5⟩ := hN
  refine ⟨⟨by rw [h _ (by decide) (by decide)]; exact g1, g2, g3, fun k a b => ?_, fun k a b => ?_⟩, by rw [h _ (by decide) (by decide)]; exact h2, h3, fun k a b => ?_, fun k j a b c d => ?_⟩
  · rw [h _ (by omega) (by omega), h _ (by omega) (by omega), h _ (by omega) (by omega), h _ (by omega) (by omega), h _ (by omega) (by omega)]
    exact g4 k a b
  · rw [h _ (by omega) (by omega)]; exact g5 k a b
  · rw [h _ (by omega) (by omega), h _ (by omega) (by omega), h _ (by omega) (by omega), h _ (by omega) (by omega)]
    exact h4 k a b
  · rw [h _ (by omega) (by omega)]; exact h5 k j a b c d
/-- the year's tiles and ages told back: r roofs, and of roof r so many tiles -/
def kYq (K : Int → Int) (v : gV) (r j : Int) : Int → Int := fun i => if 0 ≤ i ∧ i < 8 * r ∧ i % 8 = 1 then v 2 (i / 8) else if 0 ≤ i ∧ i < 8 * r ∧ 2 ≤ i % 8 ∧ i % 8 < 6 then v 3 (4 * (i / 8) + (i % 8 - 2)) else if 8 * r + 2 ≤ i ∧ i < 8 * r + 2 + j then v 3 (4 * r + (i - 8 * r - 2)) else K i
theorem kYq_0 (K : Int → Int) (v : gV) : kYq K v 0 0 = K := by
  funext i
  unfold kYq
  rw [if_neg (by omega), if_neg (by omega), if_neg (by omega)]
theorem kYq_s {K : Int → Int} {v : gV} {r j x i : Int} (hr : 0 ≤ r) (hj : 0 ≤ j ∧ j < 4) (hi : i = 8 * r + 2 + j) (hx : x = v 3 (4 * r + j)) : kup (kYq K v r j) i x = kYq K v r (j + 1) := by
  funext y
  subst hi hx
  unfold kup
  by_cases h : y = 8 * r + 2 + j
  · subst h
    unfold kYq
    rw [if_pos rfl, if_neg (by omega), if_neg (by omega), if_pos (by omega), show 8 * r + 2 + j - 8 * r - 2 = j by omega]
  · rw [if_neg h]
    unfold kYq
    by_cases c1 : 0 ≤ y ∧ y < 8 * r ∧ y % 8 = 1
    · rw [if_pos c1, if_pos c1]
    · rw [if_neg c1, if_neg c1]
      by_cases c2 : 0 ≤ y ∧ y < 8 * r ∧ 2 ≤ y % 8 ∧ y % 8 < 6
      · rw [if_pos c2, if_pos c2]
      · rw [if_neg c2, if_neg c2]
        by_cases c3 : 8 * r + 2 ≤ y ∧ y < 8 * r + 2 + j
        · rw [if_pos c3, if_pos (by omega)]
        · rw [if_neg c3, if_neg (by omega)]
theorem kYq_t {K : Int → Int} {v : gV} {r x i : Int} (hr : 0 ≤ r) (hi : i = 8 * r + 1) (hx : x = v 2 r) : kup (kYq K v r 4) i x = kYq K v (r + 1) 0 := by
  funext y
  subst hi hx
  unfold kup
  by_cases h : y = 8 * r + 1
  · subst h
    unfold kYq
    rw [if_pos rfl, if_pos (by omega), show (8 * r + 1) / 8 = r by omega]
  · rw [if_neg h]
    unfold kYq
    by_cases c1 : 0 ≤ y ∧ y < 8 * r ∧ y % 8 = 1
    · rw [if_pos c1, if_pos (by omega)]
    · rw [if_neg c1, if_neg (show ¬ (0 ≤ y ∧ y < 8 * (r + 1) ∧ y % 8 = 1) by omega)]
      by_cases c2 : 0 ≤ y ∧ y < 8 * r ∧ 2 ≤ y % 8 ∧ y % 8 < 6
      · rw [if_pos c2, if_pos (by omega)]
      · rw [if_neg c2]
        by_cases c3 : 8 * r + 2 ≤ y ∧ y < 8 * r + 2 + 4
        · rw [if_pos c3, if_pos (show 0 ≤ y ∧ y < 8 * (r + 1) ∧ 2 ≤ y % 8 ∧ y % 8 < 6 by omega), show y / 8 = r by omega, show y % 8 - 2 = y - 8 * r - 2 by omega]
        · rw [if_neg c3, if_neg (by omega), if_neg (by omega)]
def kYR (K : Int → Int) (v : gV) (n : Int) : Int → Int := kup (kYq K v n 0) 95 (K 95 + 1)
theorem kYq_95 {K : Int → Int} {v : gV} {r : Int} (h : r ≤ 7) : kYq K v r 0 95 = K 95 := by
  unfold kYq
  rw [if_neg (by omega), if_neg (by omega), if_neg (by omega)]
theorem kYq_hi {K : Int → Int} {v : gV} {r j i : Int} (h : r ≤ 6) (hj : j ≤ 4) (hi : 56 ≤ i) : kYq K v r j i = K i := by
  unfold kYq
  rw [if_neg (by omega), if_neg (by omega), if_neg (by omega)]
def kUN (K : Int → Int) : Int → Int := cX (kup (kup K 96 (K 96 - 1)) 95 (K 95 - 1)) (kup (kup K 96 (K 96 - 1)) 95 (K 95 - 1)) 0 (97 + 95 * (K 96 - 1)) 95
