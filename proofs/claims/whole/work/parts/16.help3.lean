theorem gf_X4_55_1 {g : gG} {l : Launch} {Y : gY} {d : Nat} {post : gQ} {pc : Nat} {lv : List (Option gA)} {st : List gA} {μ : gM} (hY : Y.1.cls = RX4) (hd : decode Y.2.1 pc = .ok (.getfield 55, 3)) (kk : WA g l Y d post (pc + 3) lv (vR 3 :: st) μ) : WA g l Y d post pc lv (vR 1 :: st) μ := gf_X4_55 hY (snO sn1) hd kk
theorem gf_X4_55_51 {g : gG} {l : Launch} {Y : gY} {d : Nat} {post : gQ} {pc : Nat} {lv : List (Option gA)} {st : List gA} {μ : gM} (hY : Y.1.cls = RX4) (hd : decode Y.2.1 pc = .ok (.getfield 55, 3)) (kk : WA g l Y d post (pc + 3) lv (vR 53 :: st) μ) : WA g l Y d post pc lv (vR 51 :: st) μ := gf_X4_55 hY (snO sn51) hd kk
theorem gf_X4_55_101 {g : gG} {l : Launch} {Y : gY} {d : Nat} {post : gQ} {pc : Nat} {lv : List (Option gA)} {st : List gA} {μ : gM} (hY : Y.1.cls = RX4) (hd : decode Y.2.1 pc = .ok (.getfield 55, 3)) (kk : WA g l Y d post (pc + 3) lv (vR 103 :: st) μ) : WA g l Y d post pc lv (vR 101 :: st) μ := gf_X4_55 hY (snO sn101) hd kk
theorem cn53 : cn 53 := by unfold cn; decide
theorem cn103 : cn 103 := by unfold cn; decide
theorem lI_tdiv {a b : Int} (ha : -9223372036854775807 ≤ a ∧ a < 9223372036854775808) (hb : 0 < b ∧ b < 9223372036854775808) : lI a / lI b = lI (a.tdiv b) := by
  have h1 : (a.tdiv b).natAbs ≤ a.natAbs := by
    rw [Int.natAbs_tdiv]
    exact Nat.div_le_self _ _
  rw [← Int64.toInt_inj, Int64.toInt_div, lI_toInt (by omega), lI_toInt (by omega), lI_toInt (by omega)]
  rw [Int.bmod_eq_of_le] <;> omega
theorem w_ldivT {g : gG} {l : Launch} {Y : gY} {d : Nat} {post : gQ} {pc : Nat} {lv : List (Option gA)} {st : List gA} {μ : gM} {a b : Int} (ha : -9223372036854775807 ≤ a ∧ a < 9223372036854775808) (hb : 0 < b ∧ b < 9223372036854775808) (hd : decode Y.2.1 pc = .ok (.ldiv, 1)) (kk : WA g l Y d post (pc + 1) lv (vL (a.tdiv b) :: st) μ) : WA g l Y d post pc lv (vL b :: vL a :: st) μ := by
  intro p en s m args below meth c H locs ls C L hP hS
  refine lv_ldiv (x := lI a) (y := lI b) C.1 C.2.1 hd (fun h => ?_) ?_
  · have h0 : lI b = lI 0 := h
    rw [lI_eq (by omega) (by omega)] at h0
    omega
  · rw [lI_tdiv ha hb]
    exact kk p en s m args below meth c H locs ls C L hP hS
/-- what both keep to choose k of n by -/
def ch (n : Int) : Nat → Int
  | 0 => 1
  | i + 1 => ch n i * (n - i) / (i + 1)
def chI (n k : Int) : Int := ch n k.toNat
theorem chI_s (n : Int) {k : Int} (hk : 0 ≤ k) : chI n (k + 1) = chI n k * (n - k) / (k + 1) := by
  unfold chI
  obtain ⟨j, rfl⟩ := Int.eq_ofNat_of_zero_le hk
  rfl
theorem ch_step {n w B x i : Int} (hw : 0 ≤ w ∧ w ≤ B) (hx : (0 ≤ x ∧ x ≤ 252) ∨ w = 0) (hi : 0 < i) (hB : 0 ≤ B) : 0 ≤ w * x ∧ w * x ≤ B * 252 ∧ 0 ≤ w * x / i ∧ w * x / i ≤ B * 252 / i := by
  have h1 : 0 ≤ w * x ∧ w * x ≤ B * 252 := by
    rcases hx with h | h
    · exact ⟨Int.mul_nonneg hw.1 h.1, Int.mul_le_mul hw.2 h.2 h.1 hB⟩
    · rw [h, Int.zero_mul]
      omega
  exact ⟨h1.1, h1.2, Int.ediv_nonneg h1.1 (by omega), Int.ediv_le_ediv hi h1.2⟩
theorem ch_z (n : Nat) : ∀ j : Nat, ch n (n + 1 + j) = 0
  | 0 => by
    show ch n n * ((n : Int) - (n : Nat)) / ((n : Nat) + 1) = 0
    rw [Int.sub_self, Int.mul_zero, Int.zero_ediv]
  | j + 1 => by
    show ch n (n + 1 + j) * _ / _ = 0
    rw [ch_z n j, Int.zero_mul, Int.zero_ediv]
theorem chI_z {n k : Int} (hn : 0 ≤ n) (hk : n < k) : chI n k = 0 := by
  obtain ⟨a, rfl⟩ := Int.eq_ofNat_of_zero_le hn
  have : chI a k = ch a (a + 1 + (k.toNat - (a + 1))) := by
    unfold chI
    congr 1
    omega
  rw [this]
  exact ch_z a _
def chB : Nat → Int
  | 0 => 1
  | 1 => 252
  | 2 => 31752
  | 3 => 2667168
  | 4 => 168031584
  | 5 => 8468791833
  | 6 => 355689256986
  | 7 => 12804813251496
  | _ => 403351617422124
theorem chI_bd {n : Int} (hn : 0 ≤ n ∧ n ≤ 252) : ∀ k : Nat, k ≤ 8 → 0 ≤ chI n k ∧ chI n k ≤ chB k
  | 0, _ => ⟨(by decide : (0 : Int) ≤ 1), (by decide : (1 : Int) ≤ 1)⟩
  | k + 1, hk => by
    have ih := chI_bd hn k (by omega)
    have e : chI n ((k + 1 : Nat) : Int) = chI n k * (n - k) / (k + 1) := by
      have := chI_s n (k := k) (by omega)
      simpa using this
    have hx : (0 ≤ n - k ∧ n - k ≤ 252) ∨ chI n k = 0 := by
      by_cases h : (k : Int) ≤ n
      · left; omega
      · right; exact chI_z hn.1 (by omega)
    rw [e]
    have q := ch_step (n := n) (i := (k : Int) + 1) ih hx (by omega) (by rcases (by omega : k = 0 ∨ k = 1 ∨ k = 2 ∨ k = 3 ∨ k = 4 ∨ k = 5 ∨ k = 6 ∨ k = 7) with rfl | rfl | rfl | rfl | rfl | rfl | rfl | rfl <;> decide)
    refine ⟨q.2.2.1, Int.le_trans q.2.2.2 ?_⟩
    rcases (by omega : k = 0 ∨ k = 1 ∨ k = 2 ∨ k = 3 ∨ k = 4 ∨ k = 5 ∨ k = 6 ∨ k = 7) with rfl | rfl | rfl | rfl | rfl | rfl | rfl | rfl <;> decide
theorem chI_bd2 {n k : Int} (hn : 0 ≤ n ∧ n ≤ 252) (hk : 0 ≤ k ∧ k ≤ 8) : 0 ≤ chI n k ∧ chI n k ≤ 403351617422124 := by
  obtain ⟨j, rfl⟩ := Int.eq_ofNat_of_zero_le hk.1
  have h := chI_bd hn j (by omega)
  refine ⟨h.1, Int.le_trans h.2 ?_⟩
  rcases (by omega : j = 0 ∨ j = 1 ∨ j = 2 ∨ j = 3 ∨ j = 4 ∨ j = 5 ∨ j = 6 ∨ j = 7 ∨ j = 8) with rfl | rfl | rfl | rfl | rfl | rfl | rfl | rfl | rfl <;> decide
/-- Euclid: a step keeps the greatest shared measure, and halves the product -/
theorem gcd_step {x y : Int} (hx : 0 ≤ x) (hy : 0 < y) : Int.gcd y (x % y) = Int.gcd x y := by
  obtain ⟨a, rfl⟩ := Int.eq_ofNat_of_zero_le hx
  obtain ⟨b, rfl⟩ := Int.eq_ofNat_of_zero_le (Int.le_of_lt hy)
  show Nat.gcd b (a % b) = Nat.gcd a b
  rw [Nat.gcd_comm a b, Nat.gcd_rec b a, Nat.gcd_comm]
theorem gcd_half {x y : Int} (hxy : y ≤ x) (hy : 0 < y) : 2 * (y * (x % y)) ≤ x * y := by
  have h1 := Int.emod_nonneg x (by omega : y ≠ 0)
  have h2 := Int.emod_lt_of_pos x hy
  have h3 := Int.emod_add_mul_ediv x y
  have h4 : 1 ≤ x / y := by
    rw [Int.le_ediv_iff_mul_le hy]
    omega
  have h5 : y * 1 ≤ y * (x / y) := Int.mul_le_mul_of_nonneg_left h4 (by omega)
  have h6 : 2 * (x % y) ≤ x := by omega
  calc 2 * (y * (x % y)) = y * (2 * (x % y)) := by rw [Int.mul_left_comm]
    _ ≤ y * x := Int.mul_le_mul_of_nonneg_left h6 (by omega)
    _ = x * y := Int.mul_comm _ _
