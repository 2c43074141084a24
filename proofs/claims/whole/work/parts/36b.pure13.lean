def TXo (T : Int → Int) (L : Int) : Prop := (0 ≤ L ∧ L ≤ 250) ∧ ∀ k, 0 ≤ k → k < L → 0 ≤ T k ∧ T k ≤ 255
def tok (μ : gM) (T : Int → Int) (L q : Int) : Prop := μ 151 3 = tA T L q ∧ μ 151 4 = tE T L q ∧ μ 151 5 = tS T L q
def sme (μ μ2 : gM) : Prop := μ2 152 = μ 152 ∧ μ2 151 0 = μ 151 0 ∧ ∀ a, a ≠ 151 → a ≠ 153 → μ2 a = μ a
theorem sme.trans {a b c : gM} (h : sme a b) (k : sme b c) : sme a c := ⟨k.1.trans h.1, k.2.1.trans h.2.1, fun x h1 h2 => (k.2.2 x h1 h2).trans (h.2.2 x h1 h2)⟩
theorem rd30 {μ : gM} {x : Int} : wr μ 151 3 x 151 0 = μ 151 0 := wr_n (by decide)
theorem rd34 {μ : gM} {x : Int} : wr μ 151 3 x 151 4 = μ 151 4 := wr_n (by decide)
theorem rd35 {μ : gM} {x : Int} : wr μ 151 3 x 151 5 = μ 151 5 := wr_n (by decide)
theorem rd40 {μ : gM} {x : Int} : wr μ 151 4 x 151 0 = μ 151 0 := wr_n (by decide)
theorem rd43 {μ : gM} {x : Int} : wr μ 151 4 x 151 3 = μ 151 3 := wr_n (by decide)
theorem rd45 {μ : gM} {x : Int} : wr μ 151 4 x 151 5 = μ 151 5 := wr_n (by decide)
theorem rd50 {μ : gM} {x : Int} : wr μ 151 5 x 151 0 = μ 151 0 := wr_n (by decide)
theorem rd53 {μ : gM} {x : Int} : wr μ 151 5 x 151 3 = μ 151 3 := wr_n (by decide)
theorem rd54 {μ : gM} {x : Int} : wr μ 151 5 x 151 4 = μ 151 4 := wr_n (by decide)
theorem rw2 {μ : gM} {i x : Int} : wr μ 151 i x 152 = μ 152 := wr_o (by decide)
theorem rw3 {μ : gM} {i x : Int} : wr μ 151 i x 153 = μ 153 := wr_o (by decide)
theorem rwo {μ : gM} {i x : Int} {a : Nat} (h : a ≠ 151) : wr μ 151 i x a = μ a := wr_o h
/-- numbers as told one behind another, then a stop: (1, the stop's place) or (0, the place of the first that can't stand there) -/
def nq (T : Int → Int) (L : Int) : List (Int × Int) → Int → Int × Int
  | [], p => if tS T L p = 3 then (1, p) else (0, p)
  | r :: R, p => if tS T L p = 2 ∧ r.1 ≤ tV T L p ∧ tV T L p ≤ r.2 then nq T L R (tE T L p) else (0, p)
/-- the place of the k-th token behind p -/
def pk_ (T : Int → Int) (L p : Int) : Nat → Int
  | 0 => p
  | k + 1 => tE T L (pk_ T L p k)
def roofR : List (Int × Int) := [(0, 5), (0, 9), (0, 9), (0, 9), (0, 9), (0, 9)]
def stormR (f : Int) : List (Int × Int) := [(0, 6), (f, 6), (0, 1), (1, 9), (1, 9)]
def cW (μ : gM) (w : List Int) : Prop := μ 151 5 = 1 ∧ μ 151 4 - μ 151 3 = w.length ∧ ∀ j : Nat, j < w.length → μ 152 (μ 151 3 + j) = w.getD j 0
theorem cW_isW {μ : gM} {T : Int → Int} {L q : Int} {w : List Int} (hT : μ 152 = T) (h : tok μ T L q) : cW μ w ↔ isW T L q w := by
  unfold cW isW
  rw [h.1, h.2.1, h.2.2, hT]
theorem tok_p {μ : gM} {T : Int → Int} {L q : Int} (h : tok μ T L q) : μ 151 4 = tE T L q := h.2.1
theorem tE_p (T : Int → Int) {L p : Int} (h : 0 ≤ p ∧ p ≤ L) : 0 ≤ tE T L p ∧ tE T L p ≤ L := by
  have a := tA_bd T h.2
  have b := tE_bd T h.2
  omega
