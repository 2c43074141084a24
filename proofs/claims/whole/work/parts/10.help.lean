/-! cantons, stories, arrays: which cells they are -/
def cn (c : Nat) : Prop := c ∈ cnL
def sn (c : Nat) : Prop := c = 1 ∨ c = 51 ∨ c = 101
theorem cn_all {p : Nat → Bool} (h : cnL.all p = true) {c : Nat} (hc : cn c) : p c = true := List.all_eq_true.mp h c hc
theorem cnO {c : Nat} (hc : cn c) : obj c 0 := by
  have h := cn_all (p := fun c => decide (c < 180) && decide (sh c = 0)) (by decide) hc
  simp only [Bool.and_eq_true, decide_eq_true_eq] at h
  exact ⟨h.1, h.2, by decide⟩
theorem cA_kind {c : Nat} (hc : cn c) : arr (c + 1) 7 := by
  have h := cn_all (p := fun c => decide (c + 1 < 180) && (decide (sh (c + 1) = 6) && decide (ln (c + 1) = 7))) (by decide) hc
  simp only [Bool.and_eq_true, decide_eq_true_eq] at h
  exact ⟨h.1, h.2.1, h.2.2, by decide⟩
theorem cA_age {c : Nat} (hc : cn c) : arr (c + 2) 7 := by
  have h := cn_all (p := fun c => decide (c + 2 < 180) && (decide (sh (c + 2) = 6) && decide (ln (c + 2) = 7))) (by decide) hc
  simp only [Bool.and_eq_true, decide_eq_true_eq] at h
  exact ⟨h.1, h.2.1, h.2.2, by decide⟩
theorem cA_cover {c : Nat} (hc : cn c) : arr (c + 3) 28 := by
  have h := cn_all (p := fun c => decide (c + 3 < 180) && (decide (sh (c + 3) = 6) && decide (ln (c + 3) = 28))) (by decide) hc
  simp only [Bool.and_eq_true, decide_eq_true_eq] at h
  exact ⟨h.1, h.2.1, h.2.2, by decide⟩
theorem cA_blue {c : Nat} (hc : cn c) : arr (c + 4) 7 := by
  have h := cn_all (p := fun c => decide (c + 4 < 180) && (decide (sh (c + 4) = 6) && decide (ln (c + 4) = 7))) (by decide) hc
  simp only [Bool.and_eq_true, decide_eq_true_eq] at h
  exact ⟨h.1, h.2.1, h.2.2, by decide⟩
theorem cA_brown {c : Nat} (hc : cn c) : arr (c + 5) 7 := by
  have h := cn_all (p := fun c => decide (c + 5 < 180) && (decide (sh (c + 5) = 6) && decide (ln (c + 5) = 7))) (by decide) hc
  simp only [Bool.and_eq_true, decide_eq_true_eq] at h
  exact ⟨h.1, h.2.1, h.2.2, by decide⟩
theorem cA_first {c : Nat} (hc : cn c) : arr (c + 6) 6 := by
  have h := cn_all (p := fun c => decide (c + 6 < 180) && (decide (sh (c + 6) = 6) && decide (ln (c + 6) = 6))) (by decide) hc
  simp only [Bool.and_eq_true, decide_eq_true_eq] at h
  exact ⟨h.1, h.2.1, h.2.2, by decide⟩
theorem cA_last {c : Nat} (hc : cn c) : arr (c + 7) 6 := by
  have h := cn_all (p := fun c => decide (c + 7 < 180) && (decide (sh (c + 7) = 6) && decide (ln (c + 7) = 6))) (by decide) hc
  simp only [Bool.and_eq_true, decide_eq_true_eq] at h
  exact ⟨h.1, h.2.1, h.2.2, by decide⟩
theorem cA_wind {c : Nat} (hc : cn c) : arr (c + 8) 6 := by
  have h := cn_all (p := fun c => decide (c + 8 < 180) && (decide (sh (c + 8) = 6) && decide (ln (c + 8) = 6))) (by decide) hc
  simp only [Bool.and_eq_true, decide_eq_true_eq] at h
  exact ⟨h.1, h.2.1, h.2.2, by decide⟩
theorem cA_size {c : Nat} (hc : cn c) : arr (c + 9) 6 := by
  have h := cn_all (p := fun c => decide (c + 9 < 180) && (decide (sh (c + 9) = 6) && decide (ln (c + 9) = 6))) (by decide) hc
  simp only [Bool.and_eq_true, decide_eq_true_eq] at h
  exact ⟨h.1, h.2.1, h.2.2, by decide⟩
theorem cA_chance {c : Nat} (hc : cn c) : arr (c + 10) 6 := by
  have h := cn_all (p := fun c => decide (c + 10 < 180) && (decide (sh (c + 10) = 6) && decide (ln (c + 10) = 6))) (by decide) hc
  simp only [Bool.and_eq_true, decide_eq_true_eq] at h
  exact ⟨h.1, h.2.1, h.2.2, by decide⟩
theorem cA_guns {c : Nat} (hc : cn c) : arr (c + 11) 7 := by
  have h := cn_all (p := fun c => decide (c + 11 < 180) && (decide (sh (c + 11) = 6) && decide (ln (c + 11) = 7))) (by decide) hc
  simp only [Bool.and_eq_true, decide_eq_true_eq] at h
  exact ⟨h.1, h.2.1, h.2.2, by decide⟩
theorem ar_152 : arr 152 250 := ⟨by decide, by decide, by decide, by decide⟩
theorem ar_153 : arr 153 6 := ⟨by decide, by decide, by decide, by decide⟩
theorem ar_168 : arr 168 382 := ⟨by decide, by decide, by decide, by decide⟩
theorem ar_169 : arr 169 764 := ⟨by decide, by decide, by decide, by decide⟩
theorem ar_171 : arr 171 3 := ⟨by decide, by decide, by decide, by decide⟩
theorem ar_172 : arr 172 28 := ⟨by decide, by decide, by decide, by decide⟩
theorem ar_173 : arr 173 7 := ⟨by decide, by decide, by decide, by decide⟩
theorem ar_174 : arr 174 14 := ⟨by decide, by decide, by decide, by decide⟩
theorem ar_175 : arr 175 14 := ⟨by decide, by decide, by decide, by decide⟩
theorem ar_177 : arr 177 250 := ⟨by decide, by decide, by decide, by decide⟩
theorem ar_178 : arr 178 95 := ⟨by decide, by decide, by decide, by decide⟩
theorem ar_179 : arr 179 6 := ⟨by decide, by decide, by decide, by decide⟩
theorem ar_170 : arZ 170 2 := ⟨by decide, by decide, by decide, by decide⟩
theorem ar_176 : arZ 176 6 := ⟨by decide, by decide, by decide, by decide⟩
theorem ob_0 : obj 0 4 := ⟨by decide, by decide, by decide⟩
theorem ob_151 : obj 151 2 := ⟨by decide, by decide, by decide⟩
theorem ob_154 : obj 154 1 := ⟨by decide, by decide, by decide⟩
theorem ob_167 : obj 167 5 := ⟨by decide, by decide, by decide⟩
theorem snO {c : Nat} (h : sn c) : obj c 3 := by
  rcases h with rfl | rfl | rfl <;> exact ⟨by decide, by decide, by decide⟩
theorem snP {c : Nat} (h : sn c) : arP (c + 1) := by
  rcases h with rfl | rfl | rfl <;> exact ⟨by decide, by decide, by decide⟩
theorem snC {c : Nat} (h : sn c) : cn (c + 2) := by
  rcases h with rfl | rfl | rfl <;> (unfold cn; decide)
theorem cn155 : cn 155 := by unfold cn; decide
theorem sn1 : sn 1 := Or.inl rfl
theorem sn51 : sn 51 := Or.inr (Or.inl rfl)
theorem sn101 : sn 101 := Or.inr (Or.inr rfl)
theorem cn3 : cn 3 := by unfold cn; decide
/-- what every canton keeps to -/
def CI (μ : gM) (c : Nat) : Prop := (0 ≤ μ c 0 ∧ μ c 0 ≤ 7) ∧ (0 ≤ μ c 1 ∧ μ c 1 ≤ 6) ∧ (∀ k, 0 ≤ μ (c + 1) k ∧ μ (c + 1) k ≤ 5) ∧ (∀ k, 0 ≤ μ (c + 2) k ∧ μ (c + 2) k ≤ 9) ∧ (∀ k, 0 ≤ μ (c + 3) k ∧ μ (c + 3) k ≤ 20) ∧ (∀ k, -1 ≤ μ (c + 4) k ∧ μ (c + 4) k ≤ 18) ∧ (∀ k, -1 ≤ μ (c + 5) k ∧ μ (c + 5) k ≤ 18) ∧ (∀ k, 0 ≤ μ (c + 6) k ∧ μ (c + 6) k ≤ 6) ∧ (∀ k, 0 ≤ μ (c + 7) k ∧ μ (c + 7) k ≤ 6) ∧ (∀ k, 0 ≤ μ (c + 8) k ∧ μ (c + 8) k ≤ 1) ∧ (∀ k, 0 ≤ μ (c + 9) k ∧ μ (c + 9) k ≤ 9) ∧ (∀ k, 0 ≤ μ (c + 10) k ∧ μ (c + 10) k ≤ 9) ∧ (∀ k, 0 ≤ μ (c + 11) k ∧ μ (c + 11) k ≤ 1)
theorem CI_roofs {μ : gM} {c : Nat} (h : CI μ c) : 0 ≤ μ c 0 ∧ μ c 0 ≤ 7 := h.1
theorem CI_storms {μ : gM} {c : Nat} (h : CI μ c) : 0 ≤ μ c 1 ∧ μ c 1 ≤ 6 := h.2.1
theorem CI_kind {μ : gM} {c : Nat} (h : CI μ c) : ∀ k, 0 ≤ μ (c + 1) k ∧ μ (c + 1) k ≤ 5 := h.2.2.1
theorem CI_age {μ : gM} {c : Nat} (h : CI μ c) : ∀ k, 0 ≤ μ (c + 2) k ∧ μ (c + 2) k ≤ 9 := h.2.2.2.1
theorem CI_cover {μ : gM} {c : Nat} (h : CI μ c) : ∀ k, 0 ≤ μ (c + 3) k ∧ μ (c + 3) k ≤ 20 := h.2.2.2.2.1
theorem CI_blue {μ : gM} {c : Nat} (h : CI μ c) : ∀ k, -1 ≤ μ (c + 4) k ∧ μ (c + 4) k ≤ 18 := h.2.2.2.2.2.1
theorem CI_brown {μ : gM} {c : Nat} (h : CI μ c) : ∀ k, -1 ≤ μ (c + 5) k ∧ μ (c + 5) k ≤ 18 := h.2.2.2.2.2.2.1
theorem CI_first {μ : gM} {c : Nat} (h : CI μ c) : ∀ k, 0 ≤ μ (c + 6) k ∧ μ (c + 6) k ≤ 6 := h.2.2.2.2.2.2.2.1
theorem CI_last {μ : gM} {c : Nat} (h : CI μ c) : ∀ k, 0 ≤ μ (c + 7) k ∧ μ (c + 7) k ≤ 6 := h.2.2.2.2.2.2.2.2.1
theorem CI_wind {μ : gM} {c : Nat} (h : CI μ c) : ∀ k, 0 ≤ μ (c + 8) k ∧ μ (c + 8) k ≤ 1 := h.2.2.2.2.2.2.2.2.2.1
theorem CI_size {μ : gM} {c : Nat} (h : CI μ c) : ∀ k, 0 ≤ μ (c + 9) k ∧ μ (c + 9) k ≤ 9 := h.2.2.2.2.2.2.2.2.2.2.1
theorem CI_chance {μ : gM} {c : Nat} (h : CI μ c) : ∀ k, 0 ≤ μ (c + 10) k ∧ μ (c + 10) k ≤ 9 := h.2.2.2.2.2.2.2.2.2.2.2.1
theorem CI_guns {μ : gM} {c : Nat} (h : CI μ c) : ∀ k, 0 ≤ μ (c + 11) k ∧ μ (c + 11) k ≤ 1 := h.2.2.2.2.2.2.2.2.2.2.2.2
theorem w_cV0 {g : gG} {l : Launch} {Y : gY} {d : Nat} {post : gQ} {pc : Nat} {lv : List (Option gA)} {st : List gA} {μ : gM} {Yc : gY} {dc idx b ci N : Nat} {T : u_T} {q : gQ} (hk : kV Yc 0) (hl : Cond.methodLink Y.1.cls idx Yc.1 ∈ lw_gt) (ho : obj b ci) (hcl : vwCl[ci]? = some (Yc.1.cls, T, N)) (hst : (st.map gcat).sum ≤ 8) (hdd : dc + 1 ≤ d) (hd : decode Y.2.1 pc = .ok (.invokevirtual idx, 3)) (hC : CT g l Yc dc [vR b] μ q) (kk : ∀ (r : Option gA) (μ' : gM), q r μ' → WA g l Y d post (pc + 3) lv (r.toList ++ st) μ') : WA g l Y d post pc lv (vR b :: st) μ := w_callV (as := []) hk hl ho hcl rfl hst hdd hd hC kk
theorem w_cV1 {g : gG} {l : Launch} {Y : gY} {d : Nat} {post : gQ} {pc : Nat} {lv : List (Option gA)} {st : List gA} {μ : gM} {Yc : gY} {dc idx b ci N : Nat} {T : u_T} {a1 : gA} {q : gQ} (hk : kV Yc 1) (hl : Cond.methodLink Y.1.cls idx Yc.1 ∈ lw_gt) (ho : obj b ci) (hcl : vwCl[ci]? = some (Yc.1.cls, T, N)) (hst : (st.map gcat).sum ≤ 8) (hdd : dc + 1 ≤ d) (hd : decode Y.2.1 pc = .ok (.invokevirtual idx, 3)) (hC : CT g l Yc dc [vR b, a1] μ q) (kk : ∀ (r : Option gA) (μ' : gM), q r μ' → WA g l Y d post (pc + 3) lv (r.toList ++ st) μ') : WA g l Y d post pc lv (a1 :: vR b :: st) μ := w_callV (as := [a1]) hk hl ho hcl rfl hst hdd hd hC kk
theorem w_cS1 {g : gG} {l : Launch} {Y : gY} {d : Nat} {post : gQ} {pc : Nat} {lv : List (Option gA)} {st : List gA} {μ : gM} {Yc : gY} {dc idx : Nat} {a1 : gA} {q : gQ} (hk : kS Yc 1) (hl : Cond.methodLink Y.1.cls idx Yc.1 ∈ lw_gt) (hst : (st.map gcat).sum ≤ 8) (hdd : dc + 1 ≤ d) (hd : decode Y.2.1 pc = .ok (.invokestatic idx, 3)) (hC : CT g l Yc dc [a1] μ q) (kk : ∀ (r : Option gA) (μ' : gM), q r μ' → WA g l Y d post (pc + 3) lv (r.toList ++ st) μ') : WA g l Y d post pc lv (a1 :: st) μ := w_callS (as := [a1]) hk hl rfl hst hdd hd hC kk
theorem w_cV2 {g : gG} {l : Launch} {Y : gY} {d : Nat} {post : gQ} {pc : Nat} {lv : List (Option gA)} {st : List gA} {μ : gM} {Yc : gY} {dc idx b ci N : Nat} {T : u_T} {a1 a2 : gA} {q : gQ} (hk : kV Yc 2) (hl : Cond.methodLink Y.1.cls idx Yc.1 ∈ lw_gt) (ho : obj b ci) (hcl : vwCl[ci]? = some (Yc.1.cls, T, N)) (hst : (st.map gcat).sum ≤ 8) (hdd : dc + 1 ≤ d) (hd : decode Y.2.1 pc = .ok (.invokevirtual idx, 3)) (hC : CT g l Yc dc [vR b, a1, a2] μ q) (kk : ∀ (r : Option gA) (μ' : gM), q r μ' → WA g l Y d post (pc + 3) lv (r.toList ++ st) μ') : WA g l Y d post pc lv (a2 :: a1 :: vR b :: st) μ := w_callV (as := [a1, a2]) hk hl ho hcl rfl hst hdd hd hC kk
theorem w_cS2 {g : gG} {l : Launch} {Y : gY} {d : Nat} {post : gQ} {pc : Nat} {lv : List (Option gA)} {st : List gA} {μ : gM} {Yc : gY} {dc idx : Nat} {a1 a2 : gA} {q : gQ} (hk : kS Yc 2) (hl : Cond.methodLink Y.1.cls idx Yc.1 ∈ lw_gt) (hst : (st.map gcat).sum ≤ 8) (hdd : dc + 1 ≤ d) (hd : decode Y.2.1 pc = .ok (.invokestatic idx, 3)) (hC : CT g l Yc dc [a1, a2] μ q) (kk : ∀ (r : Option gA) (μ' : gM), q r μ' → WA g l Y d post (pc + 3) lv (r.toList ++ st) μ') : WA g l Y d post pc lv (a2 :: a1 :: st) μ := w_callS (as := [a1, a2]) hk hl rfl hst hdd hd hC kk
theorem w_cV3 {g : gG} {l : Launch} {Y : gY} {d : Nat} {post : gQ} {pc : Nat} {lv : List (Option gA)} {st : List gA} {μ : gM} {Yc : gY} {dc idx b ci N : Nat} {T : u_T} {a1 a2 a3 : gA} {q : gQ} (hk : kV Yc 3) (hl : Cond.methodLink Y.1.cls idx Yc.1 ∈ lw_gt) (ho : obj b ci) (hcl : vwCl[ci]? = some (Yc.1.cls, T, N)) (hst : (st.map gcat).sum ≤ 8) (hdd : dc + 1 ≤ d) (hd : decode Y.2.1 pc = .ok (.invokevirtual idx, 3)) (hC : CT g l Yc dc [vR b, a1, a2, a3] μ q) (kk : ∀ (r : Option gA) (μ' : gM), q r μ' → WA g l Y d post (pc + 3) lv (r.toList ++ st) μ') : WA g l Y d post pc lv (a3 :: a2 :: a1 :: vR b :: st) μ := w_callV (as := [a1, a2, a3]) hk hl ho hcl rfl hst hdd hd hC kk
theorem w_cS3 {g : gG} {l : Launch} {Y : gY} {d : Nat} {post : gQ} {pc : Nat} {lv : List (Option gA)} {st : List gA} {μ : gM} {Yc : gY} {dc idx : Nat} {a1 a2 a3 : gA} {q : gQ} (hk : kS Yc 3) (hl : Cond.methodLink Y.1.cls idx Yc.1 ∈ lw_gt) (hst : (st.map gcat).sum ≤ 8) (hdd : dc + 1 ≤ d) (hd : decode Y.2.1 pc = .ok (.invokestatic idx, 3)) (hC : CT g l Yc dc [a1, a2, a3] μ q) (kk : ∀ (r : Option gA) (μ' : gM), q r μ' → WA g l Y d post (pc + 3) lv (r.toList ++ st) μ') : WA g l Y d post pc lv (a3 :: a2 :: a1 :: st) μ := w_callS (as := [a1, a2, a3]) hk hl rfl hst hdd hd hC kk
theorem w_cV4 {g : gG} {l : Launch} {Y : gY} {d : Nat} {post : gQ} {pc : Nat} {lv : List (Option gA)} {st : List gA} {μ : gM} {Yc : gY} {dc idx b ci N : Nat} {T : u_T} {a1 a2 a3 a4 : gA} {q : gQ} (hk : kV Yc 4) (hl : Cond.methodLink Y.1.cls idx Yc.1 ∈ lw_gt) (ho : obj b ci) (hcl : vwCl[ci]? = some (Yc.1.cls, T, N)) (hst : (st.map gcat).sum ≤ 8) (hdd : dc + 1 ≤ d) (hd : decode Y.2.1 pc = .ok (.invokevirtual idx, 3)) (hC : CT g l Yc dc [vR b, a1, a2, a3, a4] μ q) (kk : ∀ (r : Option gA) (μ' : gM), q r μ' → WA g l Y d post (pc + 3) lv (r.toList ++ st) μ') : WA g l Y d post pc lv (a4 :: a3 :: a2 :: a1 :: vR b :: st) μ := w_callV (as := [a1, a2, a3, a4]) hk hl ho hcl rfl hst hdd hd hC kk
theorem w_cS4 {g : gG} {l : Launch} {Y : gY} {d : Nat} {post : gQ} {pc : Nat} {lv : List (Option gA)} {st : List gA} {μ : gM} {Yc : gY} {dc idx : Nat} {a1 a2 a3 a4 : gA} {q : gQ} (hk : kS Yc 4) (hl : Cond.methodLink Y.1.cls idx Yc.1 ∈ lw_gt) (hst : (st.map gcat).sum ≤ 8) (hdd : dc + 1 ≤ d) (hd : decode Y.2.1 pc = .ok (.invokestatic idx, 3)) (hC : CT g l Yc dc [a1, a2, a3, a4] μ q) (kk : ∀ (r : Option gA) (μ' : gM), q r μ' → WA g l Y d post (pc + 3) lv (r.toList ++ st) μ') : WA g l Y d post pc lv (a4 :: a3 :: a2 :: a1 :: st) μ := w_callS (as := [a1, a2, a3, a4]) hk hl rfl hst hdd hd hC kk
theorem w_cV5 {g : gG} {l : Launch} {Y : gY} {d : Nat} {post : gQ} {pc : Nat} {lv : List (Option gA)} {st : List gA} {μ : gM} {Yc : gY} {dc idx b ci N : Nat} {T : u_T} {a1 a2 a3 a4 a5 : gA} {q : gQ} (hk : kV Yc 5) (hl : Cond.methodLink Y.1.cls idx Yc.1 ∈ lw_gt) (ho : obj b ci) (hcl : vwCl[ci]? = some (Yc.1.cls, T, N)) (hst : (st.map gcat).sum ≤ 8) (hdd : dc + 1 ≤ d) (hd : decode Y.2.1 pc = .ok (.invokevirtual idx, 3)) (hC : CT g l Yc dc [vR b, a1, a2, a3, a4, a5] μ q) (kk : ∀ (r : Option gA) (μ' : gM), q r μ' → WA g l Y d post (pc + 3) lv (r.toList ++ st) μ') : WA g l Y d post pc lv (a5 :: a4 :: a3 :: a2 :: a1 :: vR b :: st) μ := w_callV (as := [a1, a2, a3, a4, a5]) hk hl ho hcl rfl hst hdd hd hC kk
theorem w_cS5 {g : gG} {l : Launch} {Y : gY} {d : Nat} {post : gQ} {pc : Nat} {lv : List (Option gA)} {st : List gA} {μ : gM} {Yc : gY} {dc idx : Nat} {a1 a2 a3 a4 a5 : gA} {q : gQ} (hk : kS Yc 5) (hl : Cond.methodLink Y.1.cls idx Yc.1 ∈ lw_gt) (hst : (st.map gcat).sum ≤ 8) (hdd : dc + 1 ≤ d) (hd : decode Y.2.1 pc = .ok (.invokestatic idx, 3)) (hC : CT g l Yc dc [a1, a2, a3, a4, a5] μ q) (kk : ∀ (r : Option gA) (μ' : gM), q r μ' → WA g l Y d post (pc + 3) lv (r.toList ++ st) μ') : WA g l Y d post pc lv (a5 :: a4 :: a3 :: a2 :: a1 :: st) μ := w_callS (as := [a1, a2, a3, a4, a5]) hk hl rfl hst hdd hd hC kk
theorem w_cV6 {g : gG} {l : Launch} {Y : gY} {d : Nat} {post : gQ} {pc : Nat} {lv : List (Option gA)} {st : List gA} {μ : gM} {Yc : gY} {dc idx b ci N : Nat} {T : u_T} {a1 a2 a3 a4 a5 a6 : gA} {q : gQ} (hk : kV Yc 6) (hl : Cond.methodLink Y.1.cls idx Yc.1 ∈ lw_gt) (ho : obj b ci) (hcl : vwCl[ci]? = some (Yc.1.cls, T, N)) (hst : (st.map gcat).sum ≤ 8) (hdd : dc + 1 ≤ d) (hd : decode Y.2.1 pc = .ok (.invokevirtual idx, 3)) (hC : CT g l Yc dc [vR b, a1, a2, a3, a4, a5, a6] μ q) (kk : ∀ (r : Option gA) (μ' : gM), q r μ' → WA g l Y d post (pc + 3) lv (r.toList ++ st) μ') : WA g l Y d post pc lv (a6 :: a5 :: a4 :: a3 :: a2 :: a1 :: vR b :: st) μ := w_callV (as := [a1, a2, a3, a4, a5, a6]) hk hl ho hcl rfl hst hdd hd hC kk
theorem w_cS6 {g : gG} {l : Launch} {Y : gY} {d : Nat} {post : gQ} {pc : Nat} {lv : List (Option gA)} {st : List gA} {μ : gM} {Yc : gY} {dc idx : Nat} {a1 a2 a3 a4 a5 a6 : gA} {q : gQ} (hk : kS Yc 6) (hl : Cond.methodLink Y.1.cls idx Yc.1 ∈ lw_gt) (hst : (st.map gcat).sum ≤ 8) (hdd : dc + 1 ≤ d) (hd : decode Y.2.1 pc = .ok (.invokestatic idx, 3)) (hC : CT g l Yc dc [a1, a2, a3, a4, a5, a6] μ q) (kk : ∀ (r : Option gA) (μ' : gM), q r μ' → WA g l Y d post (pc + 3) lv (r.toList ++ st) μ') : WA g l Y d post pc lv (a6 :: a5 :: a4 :: a3 :: a2 :: a1 :: st) μ := w_callS (as := [a1, a2, a3, a4, a5, a6]) hk hl rfl hst hdd hd hC kk
theorem w_cS7 {g : gG} {l : Launch} {Y : gY} {d : Nat} {post : gQ} {pc : Nat} {lv : List (Option gA)} {st : List gA} {μ : gM} {Yc : gY} {dc idx : Nat} {a1 a2 a3 a4 a5 a6 a7 : gA} {q : gQ} (hk : kS Yc 7) (hl : Cond.methodLink Y.1.cls idx Yc.1 ∈ lw_gt) (hst : (st.map gcat).sum ≤ 8) (hdd : dc + 1 ≤ d) (hd : decode Y.2.1 pc = .ok (.invokestatic idx, 3)) (hC : CT g l Yc dc [a1, a2, a3, a4, a5, a6, a7] μ q) (kk : ∀ (r : Option gA) (μ' : gM), q r μ' → WA g l Y d post (pc + 3) lv (r.toList ++ st) μ') : WA g l Y d post pc lv (a7 :: a6 :: a5 :: a4 :: a3 :: a2 :: a1 :: st) μ := w_callS (as := [a1, a2, a3, a4, a5, a6, a7]) hk hl rfl hst hdd hd hC kk
theorem w_cS8 {g : gG} {l : Launch} {Y : gY} {d : Nat} {post : gQ} {pc : Nat} {lv : List (Option gA)} {st : List gA} {μ : gM} {Yc : gY} {dc idx : Nat} {a1 a2 a3 a4 a5 a6 a7 a8 : gA} {q : gQ} (hk : kS Yc 8) (hl : Cond.methodLink Y.1.cls idx Yc.1 ∈ lw_gt) (hst : (st.map gcat).sum ≤ 8) (hdd : dc + 1 ≤ d) (hd : decode Y.2.1 pc = .ok (.invokestatic idx, 3)) (hC : CT g l Yc dc [a1, a2, a3, a4, a5, a6, a7, a8] μ q) (kk : ∀ (r : Option gA) (μ' : gM), q r μ' → WA g l Y d post (pc + 3) lv (r.toList ++ st) μ') : WA g l Y d post pc lv (a8 :: a7 :: a6 :: a5 :: a4 :: a3 :: a2 :: a1 :: st) μ := w_callS (as := [a1, a2, a3, a4, a5, a6, a7, a8]) hk hl rfl hst hdd hd hC kk
theorem w_cN {g : gG} {l : Launch} {Y : gY} {d : Nat} {post : gQ} {pc : Nat} {lv : List (Option gA)} {st : List gA} {μ : gM} {dc : Nat} {a1 a2 a3 : gA} {q : gQ} (hY : Y.1.cls = RX2) (hst : (st.map gcat).sum ≤ 8) (hdd : dc + 1 ≤ d) (hd : decode Y.2.1 pc = .ok (.invokestatic 87, 3)) (hC : CT g l YX4_within dc [a1, a2, a3] μ q) (kk : ∀ (r : Option gA) (μ' : gM), q r μ' → WA g l Y d post (pc + 3) lv (r.toList ++ st) μ') : WA g l Y d post pc lv (a3 :: a2 :: a1 :: st) μ := w_callSN (as := [a1, a2, a3]) kX4_within (fun s h => by rw [hY]; exact h.2.1.1) rfl hst hdd hd hC kk
theorem w_loop {g : gG} {l : Launch} {Y : gY} {d : Nat} {post : gQ} {pc : Nat} {ι : Type} (I : ι → Prop) (m : ι → Nat) (lvf : ι → List (Option gA)) (muf : ι → gM) (step : ∀ i, I i → (∀ j, I j → m j < m i → WA g l Y d post pc (lvf j) [] (muf j)) → WA g l Y d post pc (lvf i) [] (muf i)) (i : ι) (hi : I i) : WA g l Y d post pc (lvf i) [] (muf i) := by
  have key : ∀ n : Nat, ∀ i, m i < n → I i → WA g l Y d post pc (lvf i) [] (muf i) := by
    intro n
    induction n with
    | zero => intro i h; omega
    | succ n ih => intro i h hI; exact step i hI (fun j hJ hlt => ih j (by omega) hJ)
  exact key (m i + 1) i (by omega) hi
def sm (f : Int → Int) : Nat → Int
  | 0 => 0
  | n + 1 => sm f n + f n
def sI (f : Int → Int) (n : Int) : Int := sm f n.toNat
theorem sI_0 (f : Int → Int) : sI f 0 = 0 := rfl
theorem sI_s (f : Int → Int) {n : Int} (h : 0 ≤ n) : sI f (n + 1) = sI f n + f n := by
  unfold sI
  obtain ⟨k, rfl⟩ := Int.eq_ofNat_of_zero_le h
  rfl
theorem sm_cg {f f2 : Int → Int} : ∀ n : Nat, (∀ k : Int, 0 ≤ k → k < n → f k = f2 k) → sm f n = sm f2 n
  | 0, _ => rfl
  | n + 1, h => by rw [sm, sm, sm_cg n (fun k h1 h2 => h k h1 (by omega)), h n (by omega) (by omega)]
theorem sI_cg {f f2 : Int → Int} {n : Int} (h : ∀ k : Int, 0 ≤ k → k < n → f k = f2 k) : sI f n = sI f2 n := by
  unfold sI
  exact sm_cg _ (fun k h1 h2 => h k h1 (by omega))
theorem sm_bd {f : Int → Int} {a b : Int} : ∀ n : Nat, (∀ k : Int, 0 ≤ k → k < n → a ≤ f k ∧ f k ≤ b) → a * n ≤ sm f n ∧ sm f n ≤ b * n
  | 0, _ => by simp [sm]
  | n + 1, h => by
    have h1 := sm_bd n (fun k h1 h2 => h k h1 (by omega))
    have h2 := h n (by omega) (by omega)
    rw [sm]
    push_cast
    rw [Int.mul_add, Int.mul_add]
    omega
theorem sI_bd {f : Int → Int} {a b n : Int} (hn : 0 ≤ n) (h : ∀ k : Int, 0 ≤ k → k < n → a ≤ f k ∧ f k ≤ b) : a * n ≤ sI f n ∧ sI f n ≤ b * n := by
  obtain ⟨k, rfl⟩ := Int.eq_ofNat_of_zero_le hn
  exact sm_bd k (fun i h1 h2 => h i h1 h2)
