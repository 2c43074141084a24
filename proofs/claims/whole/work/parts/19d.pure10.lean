theorem VA_fY {v v2 : gV} {n m : Int} (h : VA v v2 n m) (hn : n ≤ 7) {s : Int} (hs : s = -1 ∨ (0 ≤ s ∧ s < m)) : fY v n s = fY v2 n s :=
  sI_cg (fun k h1 h2 => by
    rcases hs with rfl | hs
    · rfl
    · rw [VA_fb h hn hs ⟨h1, h2⟩ (by decide) (by decide), VA_fb h hn hs ⟨h1, h2⟩ (by decide) (by decide), VA_fb h hn hs ⟨h1, h2⟩ (by decide) (by decide), VA_fb h hn hs ⟨h1, h2⟩ (by decide) (by decide)])
