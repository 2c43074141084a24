theorem rl_bd1 {T : Int → Int} {L : Int} (hL : L ≤ 250) : ∀ (f : Nat) (K : Int → Int) (p n : Int), 0 ≤ p ∧ p ≤ L → 0 ≤ n → -1000 ≤ (rl T L f K p n).1 ∧ (rl T L f K p n).1 ≤ n + f
  | 0, K, p, n, hp, hn => by
    show -1000 ≤ n ∧ n ≤ n + 0
    omega
  | f + 1, K, p, n, hp, hn => by
    by_cases h : tS T L p = 0
    · rw [rl_0 h]
      dsimp only
      omega
    · have ib := iqE_bd T K hp
      by_cases h1 : (iqE T L K p).1 = 1
      · rw [rl_1 rfl h h1]
        have := rl_bd1 (T := T) hL f (iqK T L K p) (tE T L (iqE T L K p).2) (n + 1) (tE_p T ⟨ib.1, ib.2.1⟩) (by omega)
        omega
      · rw [rl_2 rfl h h1]
        dsimp only
        have := tA_bd T (L := L) (p := (iqE T L K p).2) ib.2.1
        omega
theorem rl_bd {T : Int → Int} {L : Int} (hX : TXo T L) : -1000 ≤ (rl T L 251 (fun _ => 0) 0 0).1 ∧ (rl T L 251 (fun _ => 0) 0 0).1 ≤ 1000 := by
  have := hX.1
  have := rl_bd1 (T := T) this.2 251 (fun _ => 0) 0 0 (by omega) (by omega)
  omega
