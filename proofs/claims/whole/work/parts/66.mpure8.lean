def stv (μ μ2 : gM) : Prop := (∀ a, a ≠ 167 → a ≠ 179 → μ2 a = μ a) ∧ (∀ j, j < 14 → μ2 167 j = μ 167 j)
theorem stv.trans {a b c : gM} (h : stv a b) (k : stv b c) : stv a c := ⟨fun x x1 x2 => (k.1 x x1 x2).trans (h.1 x x1 x2), fun j hj => (k.2 j hj).trans (h.2 j hj)⟩
theorem stv.refl (μ : gM) : stv μ μ := ⟨fun _ _ _ => rfl, fun _ _ => rfl⟩
theorem sml.stv {μ μ2 : gM} (h : sml μ μ2) : stv μ μ2 := ⟨fun a a1 _ => h.1 a a1, h.2⟩
theorem stv.smm {μ μ2 : gM} (h : stv μ μ2) : smm μ μ2 := ⟨fun a a1 _ a3 => h.1 a a1 a3, h.2⟩
theorem stv.T {μ μ2 : gM} {T : Int → Int} (h : stv μ μ2) (hT : μ 177 = T) : μ2 177 = T := (h.1 177 (by decide) (by decide)).trans hT
theorem stv.L {μ μ2 : gM} {L : Int} (h : stv μ μ2) (hL : μ 167 13 = L) : μ2 167 13 = L := (h.2 13 (by decide)).trans hL
/-- what takes tells -/
def TKQ (T : Int → Int) (L p k lo hi : Int) (μ : gM) (e : Int) (μ2 : gM) : Prop := (e = 1 ∧ (tS T L p = 2 ∧ lo ≤ tV T L p ∧ tV T L p ≤ hi) ∧ tkm μ2 T L (tE T L p) ∧ μ2 179 k = tV T L p ∧ (∀ j, j ≠ k → μ2 179 j = μ 179 j) ∧ stv μ μ2) ∨ (e = 0 ∧ ¬ (tS T L p = 2 ∧ lo ≤ tV T L p ∧ tV T L p ≤ hi) ∧ μ = μ2)
theorem TKQ.s {T : Int → Int} {L p k lo hi e : Int} {μ μ2 : gM} (h : TKQ T L p k lo hi μ e μ2) : stv μ μ2 := by
  rcases h with ⟨-, -, -, -, -, h⟩ | ⟨-, -, rfl⟩
  · exact h
  · exact stv.refl _
theorem TKQ.e {T : Int → Int} {L p k lo hi e : Int} {μ μ2 : gM} (h : TKQ T L p k lo hi μ e μ2) : e = 0 ∨ e = 1 := by
  rcases h with ⟨h, -⟩ | ⟨h, -⟩
  · exact Or.inr h
  · exact Or.inl h
theorem TKQ.y {T : Int → Int} {L p k lo hi e : Int} {μ μ2 : gM} (h : TKQ T L p k lo hi μ e μ2) (he : ¬ e = 0) : (tS T L p = 2 ∧ lo ≤ tV T L p ∧ tV T L p ≤ hi) ∧ tkm μ2 T L (tE T L p) ∧ μ2 179 k = tV T L p ∧ (∀ j, j ≠ k → μ2 179 j = μ 179 j) := by
  rcases h with ⟨-, h1, h2, h3, h4, -⟩ | ⟨h, -⟩
  · exact ⟨h1, h2, h3, h4⟩
  · exact absurd h he
theorem TKQ.n {T : Int → Int} {L p k lo hi e : Int} {μ μ2 : gM} (h : TKQ T L p k lo hi μ e μ2) (he : e = 0) : ¬ (tS T L p = 2 ∧ lo ≤ tV T L p ∧ tV T L p ≤ hi) ∧ μ = μ2 := by
  rcases h with ⟨h, -⟩ | ⟨-, h⟩
  · omega
  · exact h
/-- a roof's numbers under way -/
def RQ (T : Int → Int) (L P b k : Int) (m : gM) : Prop := (b = 1 ∧ tkm m T L (pk_ T L P k.toNat) ∧ (∀ j, 0 ≤ j → j < k → m 179 j = tV T L (pk_ T L P j.toNat)) ∧ nq T L roofR P = nq T L (roofR.drop k.toNat) (pk_ T L P k.toNat)) ∨ (b = 0 ∧ ∃ q, (0 ≤ q ∧ q ≤ L) ∧ tkm m T L q ∧ nq T L roofR P = (0, q))
theorem RQ_b {T : Int → Int} {L P b k : Int} {m : gM} (h : RQ T L P b k m) : b = 0 ∨ b = 1 := by
  rcases h with ⟨h, -⟩ | ⟨h, -⟩
  · exact Or.inr h
  · exact Or.inl h
theorem RQ_0 {T : Int → Int} {L P e : Int} {μ m : gM} (h : TKQ T L P 0 0 5 μ e m) (ht : tkm μ T L P) (hP : 0 ≤ P ∧ P ≤ L) : RQ T L P e 1 m := by
  rcases h with ⟨h0, h1, h2, h3, -, -⟩ | ⟨h0, h1, rfl⟩
  · refine Or.inl ⟨h0, h2, fun j a b => ?_, nq_y h1⟩
    have : j = 0 := by omega
    subst this
    exact h3
  · exact Or.inr ⟨h0, P, hP, ht, nq_n h1⟩
theorem RQ_s {T : Int → Int} {L P k e : Int} {m m2 : gM} (h : RQ T L P 1 k m) (hk : 1 ≤ k ∧ k < 6) (hP : 0 ≤ P ∧ P ≤ L) (q : TKQ T L (pk_ T L P k.toNat) k 0 9 m e m2) : RQ T L P e (k + 1) m2 := by
  rcases h with ⟨-, a1, a2, a3⟩ | ⟨z, -⟩
  · rcases q with ⟨h0, h1, h2, h3, h4, -⟩ | ⟨h0, h1, rfl⟩
    · refine Or.inl ⟨h0, ?_, fun j c d => ?_, ?_⟩
      · rw [pk_s T L P (by omega)]; exact h2
      · by_cases ej : j = k
        · rw [ej]; exact h3
        · rw [h4 j ej]; exact a2 j c (by omega)
      · rw [a3, roofR_d hk, pk_s T L P (by omega)]
        exact nq_y h1
    · refine Or.inr ⟨h0, _, pk_bd T hP k.toNat, a1, ?_⟩
      rw [a3, roofR_d hk]
      exact nq_n h1
  · omega
/-- what reading an item tells -/
def ITQ (T : Int → Int) (L : Int) (E : Int × Int) (K2 : Int → Int) (μ : gM) (e : Int) (μ2 : gM) : Prop := ∃ q, (0 ≤ q ∧ q ≤ L) ∧ tkm μ2 T L q ∧ smm μ μ2 ∧ ((e = 1 ∧ E = (if tS T L q = 3 then (1, q) else (0, q)) ∧ μ2 178 = K2) ∨ (e = 0 ∧ E = (0, q)))
theorem ITQ.e {T : Int → Int} {L : Int} {E : Int × Int} {K2 : Int → Int} {μ μ2 : gM} {e : Int} (h : ITQ T L E K2 μ e μ2) : e = 0 ∨ e = 1 := by
  obtain ⟨q, -, -, -, ⟨h, -⟩ | ⟨h, -⟩⟩ := h
  · exact Or.inr h
  · exact Or.inl h
theorem kAR_f {K : Int → Int} {n k a b0 n0 b1 n1 : Int} (hn : n = K 93) (h : 0 ≤ n ∧ n < 7) : kup (kRf K n k a b0 n0 b1 n1) 93 (kRf K n k a b0 n0 b1 n1 93 + 1) = kAR K (K 93) k a b0 n0 b1 n1 := by
  rw [kRf_93 h]
  subst hn
  rfl
theorem kAS_f {K : Int → Int} {n f t w z h : Int} (hn : n = K 94) (h6 : 0 ≤ n ∧ n < 6) : kup (kSt K n f t w z h) 94 (kSt K n f t w z h 94 + 1) = kAS K (K 94) f t w z h := by
  rw [kSt_94 h6]
  subst hn
  rfl
