/-! the model's tokens: 14 where it begins, 15 how long, 16 its sort, 17 its value -/
def mT (μ : gM) (A l t x : Int) : gM := wr (wr (wr (wr μ 167 14 A) 167 15 l) 167 16 t) 167 17 x
theorem mT_14 {μ : gM} {A l t x : Int} : mT μ A l t x 167 14 = A := by simp [mT, wr]
theorem mT_15 {μ : gM} {A l t x : Int} : mT μ A l t x 167 15 = l := by simp [mT, wr]
theorem mT_16 {μ : gM} {A l t x : Int} : mT μ A l t x 167 16 = t := by simp [mT, wr]
theorem mT_17 {μ : gM} {A l t x : Int} : mT μ A l t x 167 17 = x := by simp [mT, wr]
theorem mT_13 {μ : gM} {A l t x : Int} : mT μ A l t x 167 13 = μ 167 13 := by simp [mT, wr]
theorem mT_lt {μ : gM} {A l t x j : Int} (h : j < 14) : mT μ A l t x 167 j = μ 167 j := by
  unfold mT
  rw [wr_n (by omega), wr_n (by omega), wr_n (by omega), wr_n (by omega)]
theorem mT_o {μ : gM} {A l t x : Int} {a : Nat} (h : a ≠ 167) : mT μ A l t x a = μ a := by
  unfold mT
  rw [wr_o h, wr_o h, wr_o h, wr_o h]
theorem mT_177 {μ : gM} {A l t x : Int} : mT μ A l t x 177 = μ 177 := mT_o (by decide)
theorem wr_sw {μ : gM} {a : Nat} {i j x y : Int} (h : i ≠ j) : wr (wr μ a i x) a j y = wr (wr μ a j y) a i x := by
  funext b k
  unfold wr
  by_cases h1 : b = a ∧ k = j
  · obtain ⟨rfl, rfl⟩ := h1
    rw [if_pos ⟨rfl, rfl⟩, if_neg (by omega), if_pos ⟨rfl, rfl⟩]
  · rw [if_neg h1]
    by_cases h2 : b = a ∧ k = i
    · rw [if_pos h2, if_pos h2]
    · rw [if_neg h2, if_neg h2, if_neg h1]
theorem mT_w15 {μ : gM} {A l t x y : Int} : wr (mT μ A l t x) 167 15 y = mT μ A y t x := by
  unfold mT
  rw [wr_sw (i := 17) (j := 15) (by decide), wr_sw (i := 16) (j := 15) (by decide), wr_wr]
theorem mT_w16 {μ : gM} {A l t x y : Int} : wr (mT μ A l t x) 167 16 y = mT μ A l y x := by
  unfold mT
  rw [wr_sw (i := 17) (j := 16) (by decide), wr_wr]
theorem mT_w17 {μ : gM} {A l t x y : Int} : wr (mT μ A l t x) 167 17 y = mT μ A l t y := by
  unfold mT
  rw [wr_wr]
def tkm (μ : gM) (T : Int → Int) (L p : Int) : Prop := μ 167 14 = tA T L p ∧ μ 167 14 + μ 167 15 = tE T L p ∧ μ 167 16 = tS T L p ∧ (tS T L p = 2 → μ 167 17 = tV T L p)
def sml (μ μ2 : gM) : Prop := (∀ a, a ≠ 167 → μ2 a = μ a) ∧ (∀ j, j < 14 → μ2 167 j = μ 167 j)
def smm (μ μ2 : gM) : Prop := (∀ a, a ≠ 167 → a ≠ 178 → a ≠ 179 → μ2 a = μ a) ∧ (∀ j, j < 14 → μ2 167 j = μ 167 j)
theorem sml.smm {μ μ2 : gM} (h : sml μ μ2) : smm μ μ2 := ⟨fun a a1 _ _ => h.1 a a1, h.2⟩
theorem smm.trans {a b c : gM} (h : smm a b) (k : smm b c) : smm a c := ⟨fun x x1 x2 x3 => (k.1 x x1 x2 x3).trans (h.1 x x1 x2 x3), fun j hj => (k.2 j hj).trans (h.2 j hj)⟩
theorem smm.refl (μ : gM) : smm μ μ := ⟨fun _ _ _ _ => rfl, fun _ _ => rfl⟩
theorem smm.T {μ μ2 : gM} {T : Int → Int} (h : smm μ μ2) (hT : μ 177 = T) : μ2 177 = T := (h.1 177 (by decide) (by decide) (by decide)).trans hT
theorem smm.L {μ μ2 : gM} {L : Int} (h : smm μ μ2) (hL : μ 167 13 = L) : μ2 167 13 = L := (h.2 13 (by decide)).trans hL
theorem tkm_fr {μ μ2 : gM} {T : Int → Int} {L p : Int} (h : μ2 167 = μ 167) (ht : tkm μ T L p) : tkm μ2 T L p := by
  unfold tkm at ht ⊢
  rw [h]
  exact ht
theorem pk_bd (T : Int → Int) {L p : Int} (h : 0 ≤ p ∧ p ≤ L) : ∀ k : Nat, 0 ≤ pk_ T L p k ∧ pk_ T L p k ≤ L
  | 0 => h
  | k + 1 => tE_p T (pk_bd T h k)
theorem pk_s (T : Int → Int) (L p : Int) {k : Int} (hk : 0 ≤ k) : pk_ T L p (k + 1).toNat = tE T L (pk_ T L p k.toNat) := by
  rw [show (k + 1).toNat = k.toNat + 1 by omega]
  rfl
theorem roofR_d {k : Int} (h : 1 ≤ k ∧ k < 6) : roofR.drop k.toNat = (0, 9) :: roofR.drop (k + 1).toNat := by
  rcases (by omega : k = 1 ∨ k = 2 ∨ k = 3 ∨ k = 4 ∨ k = 5) with rfl | rfl | rfl | rfl | rfl <;> rfl
/-- rows alike where a canton is told -/
def KA (K K2 : Int → Int) : Prop := ∀ j, 0 ≤ j → j < 95 → K j = K2 j
theorem KA_kup {K K2 : Int → Int} {i x y : Int} (h : KA K K2) (hxy : x = y) : KA (kup K i x) (kup K2 i y) := by
  intro j a b
  subst hxy
  unfold kup
  split
  · rfl
  · exact h j a b
theorem iqE_KA {T : Int → Int} {L p : Int} {K K2 : Int → Int} (h : KA K K2) : iqE T L K p = iqE T L K2 p := by
  unfold iqE
  rw [h 93 (by decide) (by decide), h 94 (by decide) (by decide)]
  congr 3
  by_cases c : tS T L (tE T L p) = 2 ∧ 0 ≤ tV T L (tE T L p) ∧ tV T L (tE T L p) ≤ 6
  · rw [if_pos c, if_pos c, h _ (by omega) (by omega)]
  · rw [if_neg c, if_neg c]
theorem kAR_KA {K K2 : Int → Int} {n n2 k a b0 n0 b1 n1 : Int} (h : KA K K2) (hn : n = n2) : KA (kAR K n k a b0 n0 b1 n1) (kAR K2 n2 k a b0 n0 b1 n1) := by
  subst hn
  unfold kAR
  exact KA_kup (KA_kup (KA_kup (KA_kup (KA_kup (KA_kup (KA_kup (KA_kup (KA_kup h rfl) rfl) rfl) rfl) rfl) rfl) rfl) rfl) rfl
theorem kAS_KA {K K2 : Int → Int} {n n2 f t w z y : Int} (h : KA K K2) (hn : n = n2) : KA (kAS K n f t w z y) (kAS K2 n2 f t w z y) := by
  subst hn
  unfold kAS
  exact KA_kup (KA_kup (KA_kup (KA_kup (KA_kup (KA_kup h rfl) rfl) rfl) rfl) rfl) rfl
theorem iqK_KA {T : Int → Int} {L p : Int} {K K2 : Int → Int} (h : KA K K2) : KA (iqK T L K p) (iqK T L K2 p) := by
  unfold iqK
  by_cases c : isW T L p wRoof
  · rw [ift_p c, ift_p c]
    exact kAR_KA h (h 93 (by decide) (by decide))
  · rw [ift_n c, ift_n c]
    by_cases c2 : isW T L p wStorm
    · rw [ift_p c2, ift_p c2]
      exact kAS_KA h (h 94 (by decide) (by decide))
    · rw [ift_n c2, ift_n c2]
      exact KA_kup h rfl
theorem rl_KA {T : Int → Int} {L : Int} : ∀ (f : Nat) {K K2 : Int → Int} {p n : Int}, KA K K2 → (rl T L f K p n).1 = (rl T L f K2 p n).1 ∧ KA (rl T L f K p n).2 (rl T L f K2 p n).2
  | 0, K, K2, p, n, h => ⟨rfl, h⟩
  | f + 1, K, K2, p, n, h => by
    by_cases c : tS T L p = 0
    · rw [rl_0 c, rl_0 c]
      exact ⟨rfl, h⟩
    · by_cases c2 : (iqE T L K p).1 = 1
      · rw [rl_1 rfl c c2, rl_1 rfl c (by rw [← iqE_KA h]; exact c2), iqE_KA h]
        exact rl_KA f (iqK_KA h)
      · rw [rl_2 rfl c c2, rl_2 rfl c (by rw [← iqE_KA h]; exact c2), iqE_KA h]
        exact ⟨rfl, h⟩
/-- what a row under reading keeps to -/
def KI (K : Int → Int) : Prop := (0 ≤ K 93 ∧ K 93 ≤ 7) ∧ (0 ≤ K 94 ∧ K 94 ≤ 6) ∧ ∀ j, 0 ≤ j → j < 7 → K (86 + j) = 0 ∨ K (86 + j) = 1
theorem KI_iq {T : Int → Int} {L p : Int} {K : Int → Int} (h : KI K) (ho : (iqE T L K p).1 = 1) : KI (iqK T L K p) := by
  obtain ⟨h1, h2, h3⟩ := h
  unfold iqE at ho
  unfold iqK
  by_cases c : isW T L p wRoof
  · rw [ift_p c] at ho ⊢
    have h7 : K 93 < 7 := by
      by_cases q : K 93 < 7
      · exact q
      · rw [if_neg q] at ho
        simp at ho
    have e : ∀ j, 56 ≤ j → j ≠ 93 → kAR K (K 93) (qv T L p 0) (qv T L p 1) (qv T L p 2) (qv T L p 3) (qv T L p 4) (qv T L p 5) j = K j := by
      intro j j1 j2
      unfold kAR
      rw [kup_n (by omega), kup_n (by omega), kup_n (by omega), kup_n (by omega), kup_n (by omega), kup_n (by omega), kup_n (by omega), kup_n (by omega), kup_n (by omega)]
    refine ⟨?_, ?_, fun j a b => ?_⟩
    · have e9 : kAR K (K 93) (qv T L p 0) (qv T L p 1) (qv T L p 2) (qv T L p 3) (qv T L p 4) (qv T L p 5) 93 = K 93 + 1 := kup_s
      rw [e9]
      omega
    · rw [e 94 (by decide) (by decide)]; exact h2
    · rw [e _ (by omega) (by omega)]; exact h3 j a b
  · rw [ift_n c] at ho ⊢
    by_cases c2 : isW T L p wStorm
    · rw [ift_p c2] at ho ⊢
      have h7 : K 94 < 6 := by
        by_cases q : K 94 < 6
        · exact q
        · rw [if_neg q] at ho
          simp at ho
      have e : ∀ j, 86 ≤ j → j ≠ 94 → kAS K (K 94) (qv T L p 0) (qv T L p 1) (qv T L p 2) (qv T L p 3) (qv T L p 4) j = K j := by
        intro j j1 j2
        unfold kAS
        rw [kup_n (by omega), kup_n (by omega), kup_n (by omega), kup_n (by omega), kup_n (by omega), kup_n (by omega)]
      refine ⟨?_, ?_, fun j a b => ?_⟩
      · rw [e 93 (by decide) (by decide)]; exact h1
      · have e9 : kAS K (K 94) (qv T L p 0) (qv T L p 1) (qv T L p 2) (qv T L p 3) (qv T L p 4) 94 = K 94 + 1 := kup_s
        rw [e9]
        omega
      · rw [e _ (by omega) (by omega)]; exact h3 j a b
    · rw [ift_n c2] at ho ⊢
      by_cases c3 : isW T L p wCannon
      · rw [ift_p c3] at ho
        by_cases q : tS T L (tE T L p) = 2 ∧ 0 ≤ tV T L (tE T L p) ∧ tV T L (tE T L p) ≤ 6
        · have eq : qv T L p 0 = tV T L (tE T L p) := rfl
          rw [eq]
          refine ⟨?_, ?_, fun j a b => ?_⟩
          · rw [kup_n (by omega)]; exact h1
          · rw [kup_n (by omega)]; exact h2
          · unfold kup
            split
            · exact Or.inr rfl
            · exact h3 j a b
        · rw [if_neg q] at ho
          simp at ho
      · rw [ift_n c3] at ho
        simp at ho
