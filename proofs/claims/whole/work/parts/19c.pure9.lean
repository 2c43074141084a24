/-! bytes typed, samples -/
def tM (μ : gM) (b o : Nat) (f L v n c : Int) : gM := fun a j => if a = b ∧ L ≤ j ∧ j < L + c then (lUshr v (8 * (n - 1 - (j - L)))) % 256 else if a = o ∧ j = f then L + c else μ a j
theorem tM_0 {μ : gM} {b o : Nat} {f L v n : Int} (hL : μ o f = L) : tM μ b o f L v n 0 = μ := by
  funext a j
  unfold tM
  rw [if_neg (by omega)]
  split
  · next h => rw [h.1, h.2, hL]; omega
  · rfl
theorem tM_s {μ : gM} {b o : Nat} {f L v n c x : Int} (hbo : b ≠ o) (hc : 0 ≤ c) (hx : x = (lUshr v (8 * (n - 1 - c))) % 256) : wr (wr (tM μ b o f L v n c) b (L + c) x) o f (L + c + 1) = tM μ b o f L v n (c + 1) := by
  funext a j
  unfold wr
  by_cases ho : a = o ∧ j = f
  · rw [if_pos ho]
    unfold tM
    rw [if_neg (by omega), if_pos ho]
    omega
  · rw [if_neg ho]
    by_cases hb : a = b ∧ j = L + c
    · rw [if_pos hb, hx]
      unfold tM
      rw [if_pos (by omega)]
      congr 3
      omega
    · rw [if_neg hb]
      unfold tM
      by_cases q : a = b ∧ L ≤ j ∧ j < L + c
      · rw [if_pos q, if_pos (by omega)]
      · rw [if_neg q, if_neg ho, if_neg (by omega), if_neg ho]
theorem bAnd_255 (a : Int) : bAnd a 255 = a % 256 := by
  unfold bAnd
  have h := pk_and (iI a) (m := iI 255) 8 (by decide)
  rw [h]
  have e : (iI a).toBitVec.toNat % 2 ^ 8 = (a % 256).toNat := by
    have h2 : (iI a).toBitVec = BitVec.ofInt 32 a := rfl
    rw [h2, BitVec.toNat_ofInt]
    omega
  rw [e, nI_toInt (by omega)]
  omega
theorem lAnd_255 (a : Int) : lAnd a 255 = a % 256 := by
  unfold lAnd
  have h2 : (lI a &&& lI 255).toBitVec = BitVec.ofInt 64 a &&& BitVec.ofInt 64 255 := rfl
  have h3 : (BitVec.ofInt 64 a &&& BitVec.ofInt 64 255).toNat = (a % 256).toNat := by
    rw [BitVec.toNat_and, BitVec.toNat_ofInt, BitVec.toNat_ofInt]
    have e : ((255 : Int) % (2 ^ 64 : Nat)).toNat = 2 ^ 8 - 1 := by decide
    rw [e, Nat.and_two_pow_sub_one_eq_mod]
    omega
  have h4 : (lI a &&& lI 255).toInt = (lI a &&& lI 255).toBitVec.toInt := rfl
  rw [h4, h2, BitVec.toInt_eq_toNat_of_lt (by rw [h3]; omega), h3]
  omega
def rS (a b m : Int) : Int := sI (fun i => chI a (m / 2 + 1 + i) * chI b (m - (m / 2 + 1 + i))) (m - m / 2)
def chC : Nat → Int
  | 0 => 1
  | 1 => 126
  | 2 => 7938
  | 3 => 333396
  | 4 => 10501974
  | 5 => 264649744
  | 6 => 5557644624
  | 7 => 100037603232
  | _ => 1575592250904
theorem ch_step2 {w B x i : Int} (hw : 0 ≤ w ∧ w ≤ B) (hx : (0 ≤ x ∧ x ≤ 126) ∨ w = 0) (hi : 0 < i) (hB : 0 ≤ B) : 0 ≤ w * x / i ∧ w * x / i ≤ B * 126 / i := by
  have h1 : 0 ≤ w * x ∧ w * x ≤ B * 126 := by
    rcases hx with h | h
    · exact ⟨Int.mul_nonneg hw.1 h.1, Int.mul_le_mul hw.2 h.2 h.1 hB⟩
    · rw [h, Int.zero_mul]
      omega
  exact ⟨Int.ediv_nonneg h1.1 (by omega), Int.ediv_le_ediv hi h1.2⟩
theorem chI_bdC {n : Int} (hn : 0 ≤ n ∧ n ≤ 126) : ∀ k : Nat, k ≤ 8 → 0 ≤ chI n k ∧ chI n k ≤ chC k
  | 0, _ => ⟨(by decide : (0 : Int) ≤ 1), (by decide : (1 : Int) ≤ 1)⟩
  | k + 1, hk => by
    have ih := chI_bdC hn k (by omega)
    have e : chI n ((k + 1 : Nat) : Int) = chI n k * (n - k) / (k + 1) := by
      have := chI_s n (k := k) (by omega)
      simpa using this
    have hx : (0 ≤ n - k ∧ n - k ≤ 126) ∨ chI n k = 0 := by
      by_cases h : (k : Int) ≤ n
      · left; omega
      · right; exact chI_z hn.1 (by omega)
    rw [e]
    have q := ch_step2 (i := (k : Int) + 1) ih hx (by omega) (by rcases (by omega : k = 0 ∨ k = 1 ∨ k = 2 ∨ k = 3 ∨ k = 4 ∨ k = 5 ∨ k = 6 ∨ k = 7) with rfl | rfl | rfl | rfl | rfl | rfl | rfl | rfl <;> decide)
    refine ⟨q.1, Int.le_trans q.2 ?_⟩
    rcases (by omega : k = 0 ∨ k = 1 ∨ k = 2 ∨ k = 3 ∨ k = 4 ∨ k = 5 ∨ k = 6 ∨ k = 7) with rfl | rfl | rfl | rfl | rfl | rfl | rfl | rfl <;> decide
theorem ch_prod {a b : Int} (ha : 0 ≤ a ∧ a ≤ 126) (hb : 0 ≤ b ∧ b ≤ 126) {k j : Int} (hk : 0 ≤ k) (hj : 0 ≤ j) (hkj : k + j ≤ 8) (h2 : j < k) : 0 ≤ chI a k * chI b j ∧ chI a k * chI b j ≤ 100000000000000 := by
  obtain ⟨x, rfl⟩ := Int.eq_ofNat_of_zero_le hk
  obtain ⟨y, rfl⟩ := Int.eq_ofNat_of_zero_le hj
  have h1 := chI_bdC ha x (by omega)
  have h3 := chI_bdC hb y (by omega)
  refine ⟨Int.mul_nonneg h1.1 h3.1, Int.le_trans (Int.mul_le_mul h1.2 h3.2 h3.1 (by omega)) ?_⟩
  rcases (by omega : y = 0 ∨ y = 1 ∨ y = 2 ∨ y = 3) with rfl | rfl | rfl | rfl <;> (rcases (by omega : x = 1 ∨ x = 2 ∨ x = 3 ∨ x = 4 ∨ x = 5 ∨ x = 6 ∨ x = 7 ∨ x = 8) with rfl | rfl | rfl | rfl | rfl | rfl | rfl | rfl <;> first | decide | omega)
theorem rS_bd {a b m : Int} (ha : 0 ≤ a ∧ a ≤ 126) (hb : 0 ≤ b ∧ b ≤ 126) (hm : 1 ≤ m ∧ m ≤ 8) : 0 ≤ rS a b m ∧ rS a b m < 562949953421312 := by
  have := sI_bd (f := fun i => chI a (m / 2 + 1 + i) * chI b (m - (m / 2 + 1 + i))) (a := 0) (b := 100000000000000) (n := m - m / 2) (by omega) (fun k h1 h2 => ch_prod ha hb (by omega) (by omega) (by omega) (by omega))
  unfold rS
  omega
def bn : Nat → Nat → Nat
  | _, 0 => 1
  | 0, _ + 1 => 0
  | n + 1, k + 1 => bn n k + bn n (k + 1)
theorem bn_0 : ∀ n : Nat, bn n 0 = 1
  | 0 => rfl
  | _ + 1 => rfl
theorem bn_A : ∀ n k : Nat, (k + 1) * bn n (k + 1) + k * bn n k = n * bn n k
  | 0, 0 => rfl
  | 0, k + 1 => by simp [bn]
  | n + 1, 0 => by
    have h := bn_A n 0
    rw [bn_0] at h
    show (0 + 1) * (bn n 0 + bn n (0 + 1)) + 0 * _ = (n + 1) * 1
    rw [bn_0]
    omega
  | n + 1, j + 1 => by
    have h1 := bn_A n j
    have h2 := bn_A n (j + 1)
    show (j + 1 + 1) * (bn n (j + 1) + bn n (j + 1 + 1)) + (j + 1) * (bn n j + bn n (j + 1)) = (n + 1) * (bn n j + bn n (j + 1))
    simp only [Nat.add_mul, Nat.mul_add, Nat.one_mul] at h1 h2 ⊢
    omega
theorem bn_pos : ∀ n k : Nat, k ≤ n → 0 < bn n k
  | n, 0, _ => by rw [bn_0]; decide
  | 0, k + 1, h => by omega
  | n + 1, k + 1, h => by
    have := bn_pos n k (by omega)
    show 0 < bn n k + bn n (k + 1)
    omega
theorem ch_bn (n : Nat) : ∀ k : Nat, ch n k = (bn n k : Int)
  | 0 => by rw [bn_0]; rfl
  | k + 1 => by
    show ch n k * ((n : Int) - k) / (k + 1) = _
    rw [ch_bn n k]
    have h := bn_A n k
    have e : (bn n k : Int) * ((n : Int) - k) = (bn n (k + 1) : Int) * (k + 1) := by
      have h2 : (((k + 1) * bn n (k + 1) + k * bn n k : Nat) : Int) = ((n * bn n k : Nat) : Int) := by rw [h]
      simp only [Int.natCast_add, Int.natCast_mul, Int.natCast_one] at h2
      rw [Int.mul_sub, Int.mul_comm (bn n k : Int) n, Int.mul_comm (bn n k : Int) k, Int.mul_comm (bn n (k + 1) : Int)]
      omega
    rw [e, Int.mul_ediv_cancel _ (by omega)]
theorem chI_pos {n k : Int} (hk : 0 ≤ k) (h : k ≤ n) : 0 < chI n k := by
  obtain ⟨j, rfl⟩ := Int.eq_ofNat_of_zero_le hk
  obtain ⟨a, rfl⟩ := Int.eq_ofNat_of_zero_le (by omega : 0 ≤ n)
  show 0 < ch a j
  rw [ch_bn]
  have := bn_pos a j (by omega)
  omega
/-- the reference's sum over all k, terms that aren't asked for left out -/
def rT (a b m : Int) : Int := sI (fun k => if 2 * k > m ∧ k ≤ a ∧ m - k ≤ b then chI a k * chI b (m - k) else 0) (m + 1)
theorem sm_split (f : Int → Int) (p : Nat) : ∀ q : Nat, sm f (p + q) = sm f p + sm (fun i => f (p + i)) q
  | 0 => by simp [sm]
  | q + 1 => by
    show sm f (p + q) + f ((p + q : Nat) : Int) = sm f p + (sm (fun i => f (p + i)) q + f (p + q))
    rw [sm_split f p q]
    simp only [Int.natCast_add]
    omega
theorem sI_split (f : Int → Int) {p q : Int} (hp : 0 ≤ p) (hq : 0 ≤ q) : sI f (p + q) = sI f p + sI (fun i => f (p + i)) q := by
  obtain ⟨a, rfl⟩ := Int.eq_ofNat_of_zero_le hp
  obtain ⟨b, rfl⟩ := Int.eq_ofNat_of_zero_le hq
  exact sm_split f a b
theorem sI_zero {f : Int → Int} {n : Int} (h : ∀ k, 0 ≤ k → k < n → f k = 0) : sI f n = 0 := by
  rw [sI_cg (f2 := fun _ => 0) h]
  unfold sI
  have : ∀ k : Nat, sm (fun _ => 0) k = 0 := by
    intro k
    induction k with
    | zero => rfl
    | succ k ih => rw [sm, ih]; rfl
  exact this _
theorem rS_rT {a b m : Int} (ha : 0 ≤ a) (hb : 0 ≤ b) (hm : 1 ≤ m) : rT a b m = rS a b m := by
  unfold rT rS
  have e : m + 1 = (m / 2 + 1) + (m - m / 2) := by omega
  rw [e, sI_split _ (by omega) (by omega), sI_zero (n := m / 2 + 1) (fun k h1 h2 => if_neg (by omega)), Int.zero_add]
  refine sI_cg (fun k h1 h2 => ?_)
  by_cases q1 : m / 2 + 1 + k ≤ a
  · by_cases q2 : m - (m / 2 + 1 + k) ≤ b
    · rw [if_pos (by omega)]
    · rw [if_neg (by omega), chI_z hb (by omega), Int.mul_zero]
  · rw [if_neg (by omega), chI_z ha (by omega), Int.zero_mul]
