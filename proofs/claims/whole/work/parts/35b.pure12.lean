/-! the text and its tokens -/
def er (T : Int → Int) (lo hi : Int) : Nat → Int → Int
  | 0, i => i
  | n + 1, i => if lo ≤ T i ∧ T i ≤ hi then er T lo hi n (i + 1) else i
def eor (T : Int → Int) (L lo hi i : Int) : Int := er T lo hi (L - i).toNat i
theorem eor_in {T : Int → Int} {L lo hi i : Int} (h : i < L) (hT : lo ≤ T i ∧ T i ≤ hi) : eor T L lo hi i = eor T L lo hi (i + 1) := by
  unfold eor
  have e : (L - i).toNat = (L - (i + 1)).toNat + 1 := by omega
  rw [e]
  show (if lo ≤ T i ∧ T i ≤ hi then er T lo hi (L - (i + 1)).toNat (i + 1) else i) = _
  rw [if_pos hT]
theorem eor_out {T : Int → Int} {L lo hi i : Int} (h : i < L) (hT : ¬ (lo ≤ T i ∧ T i ≤ hi)) : eor T L lo hi i = i := by
  unfold eor
  have e : (L - i).toNat = (L - (i + 1)).toNat + 1 := by omega
  rw [e]
  show (if lo ≤ T i ∧ T i ≤ hi then er T lo hi (L - (i + 1)).toNat (i + 1) else i) = _
  rw [if_neg hT]
theorem eor_end {T : Int → Int} {L lo hi i : Int} (h : L ≤ i) : eor T L lo hi i = i := by
  unfold eor
  have e : (L - i).toNat = 0 := by omega
  rw [e]
  rfl
theorem er_bd (T : Int → Int) (lo hi : Int) : ∀ (n : Nat) (i : Int), i ≤ er T lo hi n i ∧ er T lo hi n i ≤ i + n
  | 0, i => ⟨Int.le_refl _, by show i ≤ i + 0; omega⟩
  | n + 1, i => by
    have ih := er_bd T lo hi n (i + 1)
    unfold er
    split
    · have : ((n + 1 : Nat) : Int) = n + 1 := by omega
      omega
    · omega
theorem eor_bd (T : Int → Int) {L lo hi i : Int} (h : i ≤ L) : i ≤ eor T L lo hi i ∧ eor T L lo hi i ≤ L := by
  have := er_bd T lo hi (L - i).toNat i
  unfold eor
  omega
theorem er_cg {T T2 : Int → Int} {lo hi : Int} : ∀ (n : Nat) (i : Int), (∀ j, i ≤ j → j < i + n → T j = T2 j) → er T lo hi n i = er T2 lo hi n i
  | 0, _, _ => rfl
  | n + 1, i, h => by
    unfold er
    rw [h i (Int.le_refl _) (by omega), er_cg n (i + 1) (fun j a b => h j (by omega) (by omega))]
theorem eor_cg {T T2 : Int → Int} {L lo hi i : Int} (h0 : 0 ≤ i) (h : ∀ j, 0 ≤ j → j < L → T j = T2 j) : eor T L lo hi i = eor T2 L lo hi i :=
  er_cg _ i (fun j a b => h j (by omega) (by omega))
/-- a token that is looked for from p on: where it begins, where it ends, its sort (0 none, 1 word, 2 figure, 3 stop, 4 strange) -/
def tA (T : Int → Int) (L p : Int) : Int := eor T L 32 32 p
def tS (T : Int → Int) (L p : Int) : Int := if L ≤ tA T L p then 0 else if 97 ≤ T (tA T L p) ∧ T (tA T L p) ≤ 122 then 1 else if 48 ≤ T (tA T L p) ∧ T (tA T L p) ≤ 57 then (if eor T L 48 57 (tA T L p) - tA T L p = 1 then 2 else 4) else if T (tA T L p) = 59 then 3 else 4
def tE (T : Int → Int) (L p : Int) : Int := if L ≤ tA T L p then L else if 97 ≤ T (tA T L p) ∧ T (tA T L p) ≤ 122 then eor T L 97 122 (tA T L p) else if 48 ≤ T (tA T L p) ∧ T (tA T L p) ≤ 57 then eor T L 48 57 (tA T L p) else tA T L p + 1
theorem tA_bd (T : Int → Int) {L p : Int} (h : p ≤ L) : p ≤ tA T L p ∧ tA T L p ≤ L := eor_bd T h
theorem tE_bd (T : Int → Int) {L p : Int} (h : p ≤ L) : tA T L p ≤ tE T L p ∧ tE T L p ≤ L ∧ (tA T L p < L → tA T L p < tE T L p) := by
  have a := tA_bd T h
  unfold tE
  split
  · omega
  · split
    · next h1 h2 =>
      rw [eor_in (by omega) h2]
      have := eor_bd T (L := L) (lo := 97) (hi := 122) (i := tA T L p + 1) (by omega)
      omega
    · split
      · next h1 h2 h3 =>
        rw [eor_in (by omega) h3]
        have := eor_bd T (L := L) (lo := 48) (hi := 57) (i := tA T L p + 1) (by omega)
        omega
      · omega
theorem tS_bd (T : Int → Int) (L p : Int) : 0 ≤ tS T L p ∧ tS T L p ≤ 4 := by
  unfold tS
  constructor <;> ((repeat' split) <;> omega)
theorem tS_0 {T : Int → Int} {L p : Int} (h : p ≤ L) : tS T L p = 0 ↔ tA T L p = L := by
  have a := tA_bd T h
  unfold tS
  constructor
  · intro q
    (repeat' split at q) <;> omega
  · intro q
    rw [if_pos (by omega)]
theorem tS_cg {T T2 : Int → Int} {L p : Int} (h0 : 0 ≤ p) (hp : p ≤ L) (h : ∀ j, 0 ≤ j → j < L → T j = T2 j) : tA T L p = tA T2 L p ∧ tE T L p = tE T2 L p ∧ tS T L p = tS T2 L p := by
  have e : tA T L p = tA T2 L p := eor_cg h0 h
  have a := tA_bd T2 hp
  refine ⟨e, ?_, ?_⟩
  · unfold tE
    rw [e]
    by_cases q : L ≤ tA T2 L p
    · rw [if_pos q, if_pos q]
    · rw [h (tA T2 L p) (by omega) (by omega), eor_cg (by omega) h, eor_cg (by omega) h]
  · unfold tS
    rw [e]
    by_cases q : L ≤ tA T2 L p
    · rw [if_pos q, if_pos q]
    · rw [h (tA T2 L p) (by omega) (by omega), eor_cg (by omega) h]
/-- the token at p is this word (letters by their numbers) -/
def isW (T : Int → Int) (L p : Int) (w : List Int) : Prop := tS T L p = 1 ∧ tE T L p - tA T L p = w.length ∧ ∀ j : Nat, j < w.length → T (tA T L p + j) = w.getD j 0
def wRoof : List Int := [114, 111, 111, 102]
def wStorm : List Int := [115, 116, 111, 114, 109]
def wCannon : List Int := [99, 97, 110, 110, 111, 110]
def tV (T : Int → Int) (L p : Int) : Int := T (tA T L p) - 48
/-- a number as told stands there -/
def nk (T : Int → Int) (L p lo hi : Int) : Prop := tS T L p = 2 ∧ lo ≤ tV T L p ∧ tV T L p ≤ hi
theorem tV_bd {T : Int → Int} {L p : Int} (h : tS T L p = 2) : 0 ≤ tV T L p ∧ tV T L p ≤ 9 := by
  unfold tS at h
  unfold tV
  (repeat' split at h) <;> omega
