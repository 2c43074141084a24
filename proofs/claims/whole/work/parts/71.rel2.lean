/-! what each call does to the pair -/
theorem Rel.nowr {a a2 b b2 : gM} (h : Rel a b) (ha : ∀ x, (x < 3 ∨ 15 ≤ x) → a2 x = a x) (hC : CR a2 3 (b2 168) (b 168 95)) (hS : SC a2 3) (hK : ∀ j, 95 ≤ j → j < 382 → b2 168 j = b 168 j) (hb : ∀ x, x ≠ 168 → b2 x = b x) : Rel a2 b2 := by
  obtain ⟨h1, h2, h3, h4⟩ := h
  refine ⟨h1.now (fun x _ _ q => ha x q) hC hS hK (hb _ (by omega)) (hb _ (by omega)), ?_, ?_, ?_⟩
  · unfold RT
    rw [ha 151 (by omega), ha 152 (by omega), hb 167 (by omega), hb 177 (by omega)]
    exact h2
  · unfold RF
    rw [ha 154 (by omega), hb 167 (by omega)]
    exact h3
  · unfold RC
    rw [ha 0 (by omega), hb 171 (by omega)]
    exact h4
def msn (b b2 : gM) : Prop := (b2 169 = b 169 ∧ b2 170 = b 170 ∧ b2 171 = b 171 ∧ b2 177 = b 177) ∧ b2 167 4 = b 167 4 ∧ b2 167 5 = b 167 5 ∧ b2 167 13 = b 167 13
theorem Rel.story {a a2 b b2 : gM} (h : Rel a b) (hA : AI a2) (hp : PS a2 1) (hS : SR a2 1 (b2 168)) (ha : ∀ x, x = 0 ∨ (51 ≤ x ∧ x ≤ 150) ∨ x = 152 ∨ x = 154 → a2 x = a x) (h5 : a2 151 0 = a 151 0) (hb : msn b b2) : Rel a2 b2 := by
  obtain ⟨h1, h2, h3, h4⟩ := h
  obtain ⟨⟨d2, d3, d4, d5⟩, d6, d7, d8⟩ := hb
  refine ⟨h1.one (fun x q1 q2 => ha x (by omega)) hA hp hS d2 d3, ?_, ?_, ?_⟩
  · unfold RT
    rw [h5, ha 152 (by omega), d8, d5]
    exact h2
  · unfold RF
    rw [ha 154 (by omega), d6, d7]
    exact h3
  · unfold RC
    rw [ha 0 (by omega), d4]
    exact h4
theorem mARo {a : gM} {c x : Nat} {n k g b0 n0 b1 n1 : Int} (h : x < c ∨ c + 12 ≤ x) : mAR a c n k g b0 n0 b1 n1 x = a x := by
  unfold mAR
  rw [wr_o (by omega), wr_o (by omega), wr_o (by omega), wr_o (by omega), wr_o (by omega), wr_o (by omega), wr_o (by omega), wr_o (by omega), wr_o (by omega)]
theorem mASo {a : gM} {c x : Nat} {n f t w z h : Int} (q : x < c ∨ c + 12 ≤ x) : mAS a c n f t w z h x = a x := by
  unfold mAS
  rw [wr_o (by omega), wr_o (by omega), wr_o (by omega), wr_o (by omega), wr_o (by omega), wr_o (by omega)]
theorem Rel.roof {a b : gM} (h : Rel a b) (h7 : a 3 0 < 7) {k g b0 n0 b1 n1 : Int} (hk : 0 ≤ k ∧ k ≤ 5) (hg : 0 ≤ g ∧ g ≤ 9) (hb0 : 0 ≤ b0 ∧ b0 ≤ 9) (hn0 : 0 ≤ n0 ∧ n0 ≤ 9) (hb1 : 0 ≤ b1 ∧ b1 ≤ 9) (hn1 : 0 ≤ n1 ∧ n1 ≤ 9) : Rel (mAR a 3 (a 3 0) k g b0 n0 b1 n1) (rw_ b 168 (kAR (b 168) (a 3 0) k g b0 n0 b1 n1)) := by
  have hn := h.n
  have hm := h.m
  refine h.nowr (fun x q => mARo (by omega)) ?_ (SC_AR h.sc rfl h7 hk hg hb0 hn0 hb1 hn1) (fun j h1 h2 => ?_) (fun x q => rw_o q)
  · rw [rw_s]
    exact CR_AR h.cr hn.1.symm ⟨hn.2.1, h7⟩ (by omega)
  · rw [rw_s]
    unfold kAR
    rw [kup_n (by omega), kup_n (by omega), kup_n (by omega), kup_n (by omega), kup_n (by omega), kup_n (by omega), kup_n (by omega), kup_n (by omega), kup_n (by omega)]
theorem Rel.storm {a b : gM} (h : Rel a b) (h6 : a 3 1 < 6) {f t w z y : Int} (hf : 0 ≤ f ∧ f ≤ 6) (ht : 0 ≤ t ∧ t ≤ 6) (hw : 0 ≤ w ∧ w ≤ 1) (hz : 0 ≤ z ∧ z ≤ 9) (hy : 1 ≤ y ∧ y ≤ 9) : Rel (mAS a 3 (a 3 1) f t w z y) (rw_ b 168 (kAS (b 168) (a 3 1) f t w z y)) := by
  have hn := h.n
  have hm := h.m
  refine h.nowr (fun x q => mASo (by omega)) ?_ (SC_AS h.sc rfl h6 hf ht hw hz hy) (fun j h1 h2 => ?_) (fun x q => rw_o q)
  · rw [rw_s]
    exact CR_AS h.cr hm.1.symm ⟨hm.2.1, h6⟩ (by omega)
  · rw [rw_s]
    unfold kAS
    rw [kup_n (by omega), kup_n (by omega), kup_n (by omega), kup_n (by omega), kup_n (by omega), kup_n (by omega)]
theorem Rel.gun {a b : gM} (h : Rel a b) {p x : Int} (hp : 0 ≤ p ∧ p ≤ 6) (hx : 0 ≤ x ∧ x ≤ 1) : Rel (wr a (3 + 11) p x) (wr b 168 (86 + p) x) := by
  have hn := h.n
  have hm := h.m
  rw [wr_ri (μ := b)]
  refine h.nowr (fun x q => wr_o (by omega)) ?_ (SC_gun h.sc hx) (fun j h1 h2 => ?_) (fun x q => rw_o q)
  · rw [rw_s]
    exact CR_gun h.cr ⟨hp.1, by omega⟩ (by omega) (by omega)
  · rw [rw_s, kup_n (by omega)]
theorem SC_shards {a : gM} {c : Nat} {r x y : Int} (h : SC a c) (hx : -1 ≤ x ∧ x ≤ 18) (hy : -1 ≤ y ∧ y ≤ 18) : SC (wr (wr a (c + 4) r x) (c + 5) r y) c := by
  have o : ∀ i, i ≠ 4 → i ≠ 5 → wr (wr a (c + 4) r x) (c + 5) r y (c + i) = a (c + i) := fun i h1 h2 => by rw [wr_o (by omega), wr_o (by omega)]
  have e0 : wr (wr a (c + 4) r x) (c + 5) r y c = a c := o 0 (by omega) (by omega)
  have hI := h.1
  refine ⟨?_, ?_, ?_⟩
  · unfold CI at hI ⊢
    rw [e0, o 1 (by omega) (by omega), o 2 (by omega) (by omega), o 3 (by omega) (by omega), o 6 (by omega) (by omega), o 7 (by omega) (by omega), o 8 (by omega) (by omega), o 9 (by omega) (by omega), o 10 (by omega) (by omega), o 11 (by omega) (by omega)]
    obtain ⟨i0, i1, i2, i3, i4, i5, i6, i7⟩ := hI
    refine ⟨i0, i1, i2, i3, i4, fun k => ?_, fun k => ?_, i7⟩
    · rw [wr_o (by omega)]
      by_cases e : k = r
      · subst e
        rw [wr_s]
        exact hx
      · rw [wr_n e]
        exact i5 k
    · by_cases e : k = r
      · subst e
        rw [wr_s]
        exact hy
      · rw [wr_n e, wr_o (by omega)]
        exact i6 k
  · rw [e0, o 3 (by omega) (by omega)]
    exact h.2.1
  · rw [e0, o 10 (by omega) (by omega)]
    exact h.2.2
theorem Rel.shards {a b : gM} (h : Rel a b) {r x y : Int} (hr : 0 ≤ r ∧ r < a 3 0) (hx : -1 ≤ x ∧ x ≤ 18) (hy : -1 ≤ y ∧ y ≤ 18) : Rel (wr (wr a (3 + 4) r x) (3 + 5) r y) (wr (wr b 168 (0 + 8 * r + 6) x) 168 (0 + 8 * r + 6 + 1) y) := by
  have hn := h.n
  have hm := h.m
  have o : ∀ i, i ≠ 7 → i ≠ 8 → wr (wr a (3 + 4) r x) (3 + 5) r y i = a i := fun i h1 h2 => by rw [wr_o (by omega), wr_o (by omega)]
  have k : ∀ j, j ≠ 8 * r + 6 → j ≠ 8 * r + 7 → wr (wr b 168 (0 + 8 * r + 6) x) 168 (0 + 8 * r + 6 + 1) y 168 j = b 168 j := fun j h1 h2 => by rw [wr_n (by omega), wr_n (by omega)]
  refine h.nowr (fun x q => o x (by omega) (by omega)) ?_ (SC_shards h.sc hx hy) (fun j h1 h2 => k j (by omega) (by omega)) (fun x q => by rw [wr_o q, wr_o q])
  obtain ⟨⟨a1, a2, a3⟩, e1, d, e, f⟩ := h.cr
  have k93 := k 93 (by omega) (by omega)
  have k94 := k 94 (by omega) (by omega)
  refine ⟨⟨?_, ?_, ?_⟩, fun q h1 h2 => ?_, fun q j h1 h2 h3 h4 => ?_, fun s h1 h2 => ?_, fun p h1 h2 => ?_⟩
  · rw [o 3 (by omega) (by omega), k93]
    exact a1
  · rw [o 3 (by omega) (by omega), k94]
    exact a2
  · rw [o 3 (by omega) (by omega)]
    exact a3
  · rw [k93] at h2
    rw [o (3 + 1) (by omega) (by omega), o (3 + 2) (by omega) (by omega), k (8 * q) (by omega) (by omega), k (8 * q + 1) (by omega) (by omega)]
    have z := e1 q h1 h2
    refine ⟨z.1, z.2.1, ?_, ?_⟩
    · rw [wr_o (by omega)]
      by_cases eq : q = r
      · subst eq
        rw [wr_s, wr_n (by omega), show (8 * q + 6 : Int) = 0 + 8 * q + 6 by omega, wr_s]
      · rw [wr_n eq, wr_n (by omega), wr_n (by omega)]
        exact z.2.2.1
    · by_cases eq : q = r
      · subst eq
        rw [wr_s, show (8 * q + 7 : Int) = 0 + 8 * q + 6 + 1 by omega, wr_s]
      · rw [wr_n eq, wr_o (by omega), k (8 * q + 7) (by omega) (by omega)]
        exact z.2.2.2
  · rw [k93] at h2
    rw [o (3 + 3) (by omega) (by omega), k (8 * q + 2 + j) (by omega) (by omega)]
    exact d q j h1 h2 h3 h4
  · rw [k94] at h2
    rw [o (3 + 6) (by omega) (by omega), o (3 + 7) (by omega) (by omega), o (3 + 8) (by omega) (by omega), o (3 + 9) (by omega) (by omega), o (3 + 10) (by omega) (by omega), k (56 + 5 * s) (by omega) (by omega), k (56 + 5 * s + 1) (by omega) (by omega), k (56 + 5 * s + 2) (by omega) (by omega), k (56 + 5 * s + 3) (by omega) (by omega), k (56 + 5 * s + 4) (by omega) (by omega)]
    exact e s h1 h2
  · rw [o (3 + 11) (by omega) (by omega), k (86 + p) (by omega) (by omega)]
    exact f p h1 h2
theorem SR_SBC {μ μ2 : gM} {st ot : Nat} {K : Int → Int} (hs : sn st) (ho : sn ot) (hps : PS μ st) (hA : AI μ) (h : SBC μ μ2 st ot) (hS : SR μ ot K) : SR μ2 st K := by
  obtain ⟨h1, h2, h3, h4, h5, h6, h7⟩ := h
  obtain ⟨a, b, d, e⟩ := hS
  refine ⟨CR_CQ h5 (hA _ (snC ho)) a, SC_CQ h5 (h7 _ (snC hs)) b, by rw [h3]; exact d, fun i q1 q2 => ?_⟩
  have q := h6 i q1 (by rw [d.1]; exact q2)
  rw [h2]
  exact ⟨CR_CQ q (e i q1 q2).2.1 (e i q1 q2).1, SC_CQ q (h7 _ (psC hs hps ⟨q1, by omega⟩)) (e i q1 q2).2⟩
theorem SRz_FO {μ : gM} {st : Nat} {K : Int → Int} {z : Int} (hp : PS μ st) (h : SRz μ st K z) (h3 : K 96 = 3) : SRz (mFO μ st) st (kFO K) z := by
  obtain ⟨a, b, d, e⟩ := h
  have hb := CR_bd a b.1
  have k96 : kFO K 96 = 2 := by
    unfold kFO
    rw [if_pos h3, kup_s]
  have k95 : kFO K 95 = K 95 := kFO_lt (by omega)
  have kp : ∀ i j : Int, 0 ≤ i → i < 2 → 0 ≤ j → j < 95 → kFO K (97 + 95 * i + j) = K (97 + 95 * (i + 1) + j) := by
    intro i j h1 h2 h4 h5
    unfold kFO
    rw [if_pos h3, kup_n (by omega), cX_i (by omega)]
    congr 1
    omega
  have o : ∀ x, x ≠ st → x ≠ st + 1 → mFO μ st x = μ x := fun x q1 q2 => mFO_o q1 q2
  unfold SRz
  rw [k96, k95]
  refine ⟨CR_cg (fun j q1 q2 => kFO_lt (by omega)) hb.1.2 hb.2.2 (CR_fr (fun i hi => o _ (by omega) (by omega)) a), SC_fr (fun i hi => o _ (by omega) (by omega)) b, ⟨mFO_u.1, by omega, by omega⟩, fun i q1 q2 => ?_⟩
  have hm : mFO μ st (st + 1) i = ((μ (st + 1) (i + 1)).toNat : Int) := by
    rcases (by omega : i = 0 ∨ i = 1) with rfl | rfl
    · exact mFO_p.1
    · exact mFO_p.2.1
  have r := psR hp (j := i + 1) ⟨by omega, by omega⟩
  rw [hm, Int.toNat_natCast]
  have q := e (i + 1) (by omega) (by omega)
  have hb2 := CR_bd q.1 q.2.1
  exact ⟨CR_cg (fun j h4 h5 => kp i j q1 q2 h4 h5) hb2.1.2 hb2.2.2 (CR_fr (fun k hk => o _ (by omega) (by omega)) (CR_y q.1 (by omega))), SC_fr (fun k hk => o _ (by omega) (by omega)) q.2⟩
theorem SRz_rem {μ μ3 : gM} {st : Nat} {K : Int → Int} (hp : PS μ st) (h : SRz μ st K (K 95)) (hu : K 96 ≤ 2) (hB : BC μ μ3 (μ (st + 1) (μ st 1)).toNat (st + 2)) : SRz (wr μ3 st 1 (μ st 1 + 1)) st (kup (cX K K (97 + 95 * K 96) 0 95) 96 (K 96 + 1)) (K 95 + 1) := by
  obtain ⟨a, b, d, e⟩ := h
  have hb := CR_bd a b.1
  rw [d.1] at hB ⊢
  have r := psR hp (j := K 96) ⟨d.2.1, by omega⟩
  have o : ∀ x, x ≠ st → (x < (μ (st + 1) (K 96)).toNat ∨ (μ (st + 1) (K 96)).toNat + 12 ≤ x) → wr μ3 st 1 (K 96 + 1) x = μ x := fun x q1 q2 => by rw [wr_o q1, hB.fr q2]
  have klo : ∀ j, j < 96 → kup (cX K K (97 + 95 * K 96) 0 95) 96 (K 96 + 1) j = K j := fun j h1 => by rw [kup_n (by omega), cX_o (by omega)]
  have k96 : kup (cX K K (97 + 95 * K 96) 0 95) 96 (K 96 + 1) 96 = K 96 + 1 := kup_s
  unfold SRz
  rw [klo 95 (by omega), k96]
  refine ⟨CR_cg (fun j h1 h2 => klo j (by omega)) hb.1.2 hb.2.2 (CR_fr (fun i hi => o _ (by omega) (by omega)) a), SC_fr (fun i hi => o _ (by omega) (by omega)) b, ⟨wr_s, by omega, by omega⟩, fun i q1 q2 => ?_⟩
  rw [o (st + 1) (by omega) (by omega)]
  by_cases hi : i = K 96
  · subst hi
    have hcq : CQ (wr μ3 st 1 (K 96 + 1)) (μ (st + 1) (K 96)).toNat μ (st + 2) := CQ_fr (fun i hi => wr_o (by omega)) (fun _ _ => rfl) hB.cq
    have hI : CI (wr μ3 st 1 (K 96 + 1)) (μ (st + 1) (K 96)).toNat := CI_fr (fun i hi => wr_o (by omega)) hB.ci
    refine ⟨CR_cg (fun j h3 h4 => ?_) hb.1.2 hb.2.2 (CR_y (CR_CQ hcq b.1 a) (by omega)), SC_CQ hcq hI b⟩
    show kup (cX K K (97 + 95 * K 96) 0 95) 96 (K 96 + 1) (97 + 95 * K 96 + j) = K j
    rw [kup_n (by omega), cX_i (by omega)]
    congr 1
    omega
  · have r2 := psR hp (j := i) ⟨q1, by omega⟩
    have hne := psD hp (i := i) (j := K 96) ⟨q1, by omega⟩ ⟨d.2.1, by omega⟩ hi
    have q := e i q1 (by omega)
    have hb2 := CR_bd q.1 q.2.1
    refine ⟨CR_cg (fun j h3 h4 => ?_) hb2.1.2 hb2.2.2 (CR_fr (fun k hk => o _ (by omega) (by omega)) (CR_y q.1 (by omega))), SC_fr (fun k hk => o _ (by omega) (by omega)) q.2⟩
    show kup (cX K K (97 + 95 * K 96) 0 95) 96 (K 96 + 1) (97 + 95 * i + j) = K (97 + 95 * i + j)
    rw [kup_n (by omega), cX_o (by omega)]
theorem SR_year {a : gM} {K : Int → Int} {s n y : Int} {w : gV} (hp : PS a 1) (h : SRz a 1 K (K 95 + 1)) (hn : n = K 93) (hw2 : ∀ k, 0 ≤ k → k < n → w 2 k = yr a 3 s n (3 + 2) k) (hw3 : ∀ k, 0 ≤ k → k < 4 * n → w 3 k = yr a 3 s n (3 + 3) k) (hy : y = a 3 2 + 1) : SR (wr (yr a 3 s n) 3 2 y) 1 (kYR K w n) ∧ SC (wr (yr a 3 s n) 3 2 y) 3 := by
  have hc : CR a 3 K (K 95) := h.1
  have hsc : SC a 3 := h.2.1
  have hb := CR_bd hc hsc.1
  obtain ⟨⟨a1, a2, a3⟩, b, d, e, f⟩ := hc
  have k95 : kYR K w n 95 = K 95 + 1 := kup_s
  have kq : ∀ i, i ≠ 95 → kYR K w n i = kYq K w n 0 i := fun i h => kup_n h
  have khi : ∀ i, 56 ≤ i → i ≠ 95 → kYR K w n i = K i := by
    intro i h1 h2
    rw [kq i h2]
    unfold kYq
    rw [if_neg (by omega), if_neg (by omega), if_neg (by omega)]
  have o : ∀ x, x ≠ 3 → x ≠ 3 + 2 → x ≠ 3 + 3 → wr (yr a 3 s n) 3 2 y x = a x := fun x h1 h2 h3 => by rw [wr_o h1, yr_o h3 h2]
  have o3 : ∀ j, j ≠ 2 → wr (yr a 3 s n) 3 2 y 3 j = a 3 j := fun j h1 => by rw [wr_n h1, yr_o (by omega) (by omega)]
  have hS : SC (wr (yr a 3 s n) 3 2 y) 3 := by
    refine ⟨CI_yr2 (yr_CI hsc.1), fun k h1 h2 => ?_, fun k h1 h2 => ?_⟩
    · rw [o3 0 (by omega)] at h2
      rw [wr_o (by omega), yr_3 ⟨h1, by omega⟩]
      have z1 := hsc.2.1 k h1 h2
      have z2 := (fb_bd (CI.VI hsc.1) s (k / 4) (k / 2 % 2) (k % 2)).1
      split <;> omega
    · rw [o3 1 (by omega)] at h2
      rw [o (3 + 10) (by omega) (by omega) (by omega)]
      exact hsc.2.2 k h1 h2
  refine ⟨SR.now (K := K) (z := K 95 + 1) hp h (fun x h1 h2 h3 => o x (by omega) (by omega) (by omega)) ?_ hS k95 (fun j h1 h2 => khi j (by omega) (by omega)), hS⟩
  rw [k95]
  show CR (wr (yr a 3 s n) 3 2 y) 3 (kYR K w n) (K 95 + 1)
  have k93 := khi 93 (by omega) (by omega)
  have k94 := khi 94 (by omega) (by omega)
  refine ⟨⟨?_, ?_, ?_⟩, fun r h1 h2 => ?_, fun r j h1 h2 h3 h4 => ?_, fun s2 h1 h2 => ?_, fun p h1 h2 => ?_⟩
  · rw [o3 0 (by omega), k93]
    exact a1
  · rw [o3 1 (by omega), k94]
    exact a2
  · rw [wr_s]
    omega
  · rw [k93] at h2
    have z := b r h1 h2
    rw [o (3 + 1) (by omega) (by omega) (by omega), o (3 + 4) (by omega) (by omega) (by omega), o (3 + 5) (by omega) (by omega) (by omega), wr_o (by omega)]
    refine ⟨?_, ?_, ?_, ?_⟩
    · rw [kq _ (by omega)]
      unfold kYq
      rw [if_neg (by omega), if_neg (by omega), if_neg (by omega)]
      exact z.1
    · rw [kq _ (by omega)]
      unfold kYq
      rw [if_pos (by omega), show (8 * r + 1) / 8 = r by omega]
      exact (hw2 r h1 (by omega)).symm
    · rw [kq _ (by omega)]
      unfold kYq
      rw [if_neg (by omega), if_neg (by omega), if_neg (by omega)]
      exact z.2.2.1
    · rw [kq _ (by omega)]
      unfold kYq
      rw [if_neg (by omega), if_neg (by omega), if_neg (by omega)]
      exact z.2.2.2
  · rw [k93] at h2
    rw [wr_o (by omega), kq _ (by omega)]
    unfold kYq
    rw [if_neg (by omega), if_pos (by omega), show (8 * r + 2 + j) / 8 = r by omega, show 4 * r + ((8 * r + 2 + j) % 8 - 2) = 4 * r + j by omega]
    exact (hw3 (4 * r + j) (by omega) (by omega)).symm
  · rw [k94] at h2
    rw [o (3 + 6) (by omega) (by omega) (by omega), o (3 + 7) (by omega) (by omega) (by omega), o (3 + 8) (by omega) (by omega) (by omega), o (3 + 9) (by omega) (by omega) (by omega), o (3 + 10) (by omega) (by omega) (by omega), khi (56 + 5 * s2) (by omega) (by omega), khi (56 + 5 * s2 + 1) (by omega) (by omega), khi (56 + 5 * s2 + 2) (by omega) (by omega), khi (56 + 5 * s2 + 3) (by omega) (by omega), khi (56 + 5 * s2 + 4) (by omega) (by omega)]
    exact e s2 h1 h2
  · rw [o (3 + 11) (by omega) (by omega) (by omega), khi (86 + p) (by omega) (by omega)]
    exact f p h1 h2
theorem Rel.year {a b a2 b2 : gM} {s : Int} (h : Rel a b) (hs : s = -1 ∨ (0 ≤ s ∧ s < a 3 1)) (hx : ∃ μ1 μ3, ((μ1 = a ∧ a 1 1 < 3) ∨ (μ1 = mFO a 1 ∧ a 1 1 = 3)) ∧ BC μ1 μ3 (μ1 2 (μ1 1 1)).toNat 3 ∧ a2 = wr (yr (wr μ3 1 1 (μ1 1 1 + 1)) 3 s (a 3 0)) 3 2 (a 3 2 + 1)) (hb : msn b b2) (h8 : b2 168 = kYR (kKY (b 168)) (yv (vw a 3) (a 3 0) s) (a 3 0)) : Rel a2 b2 ∧ MF a a2 := by
  obtain ⟨μ1, μ3, hc, hB, rfl⟩ := hx
  have hp := h.1.2.1.1
  have hS := h.1.2.2.2.1
  have hu := h.u
  have hn := h.n
  have k95 : kFO (b 168) 95 = b 168 95 := kFO_lt (by omega)
  have key : SRz μ1 1 (kFO (b 168)) (kFO (b 168) 95) ∧ PS μ1 1 ∧ AI μ1 ∧ (∀ x, x ≠ 1 → x ≠ 2 → μ1 x = a x) ∧ kFO (b 168) 96 ≤ 2 ∧ ∀ j, j ≠ 1 → μ1 1 j = a 1 j := by
    rw [k95]
    rcases hc with ⟨rfl, q⟩ | ⟨rfl, q⟩
    · have e : kFO (b 168) = b 168 := by
        unfold kFO
        rw [if_neg (by omega)]
      rw [e]
      exact ⟨hS, hp, h.ai, fun _ _ _ => rfl, by omega, fun _ _ => rfl⟩
    · exact ⟨SRz_FO hp hS (by omega), mFO_PS hp, mFO_AI sn1 h.ai, fun x q1 q2 => mFO_o q1 q2, (kFO_u (by omega)).2, mFO_u.2⟩
  obtain ⟨S1, p1, A1, o1, u2, -⟩ := key
  have hm11 : μ1 1 1 = kFO (b 168) 96 := S1.2.2.1.1
  have S2 : SRz (wr μ3 1 1 (μ1 1 1 + 1)) 1 (kKY (b 168)) (kFO (b 168) 95 + 1) := SRz_rem p1 S1 u2 hB
  have r := psR p1 (j := kFO (b 168) 96) ⟨S1.2.2.1.2.1, by omega⟩
  have hcn : cn (μ1 2 (μ1 1 1)).toNat := by
    rw [hm11]
    exact psC sn1 p1 ⟨S1.2.2.1.2.1, by omega⟩
  have r' : ((μ1 2 (μ1 1 1)).toNat = 15 ∨ (μ1 2 (μ1 1 1)).toNat = 27 ∨ (μ1 2 (μ1 1 1)).toNat = 39) := by
    rw [hm11]
    exact r.1
  have oM : ∀ x, x ≠ 1 → x ≠ 2 → (x < 15 ∨ 51 ≤ x) → wr μ3 1 1 (μ1 1 1 + 1) x = a x := fun x q1 q2 q3 => by rw [wr_o q1, hB.fr (by omega), o1 x q1 q2]
  have pM : PS (wr μ3 1 1 (μ1 1 1 + 1)) 1 := PS_fr (μ := μ1) (by
    show wr μ3 1 1 (μ1 1 1 + 1) 2 = μ1 2
    rw [wr_o (by omega), hB.fr (by omega)]) p1
  have aM : AI (wr μ3 1 1 (μ1 1 1 + 1)) := AI_st sn1 (Or.inl rfl) (AI_BC hcn hB A1)
  have hk95 : kKY (b 168) 95 = b 168 95 := kKY_lt (by omega) (by omega)
  have hk93 : kKY (b 168) 93 = b 168 93 := kKY_lt (by omega) (by omega)
  generalize wr μ3 1 1 (μ1 1 1 + 1) = M at S2 oM pM aM ⊢
  have hv : VA (vw M 3) (vw a 3) (a 3 0) (a 3 1) := vw_fr (fun i hi => oM _ (by omega) (by omega) (by omega))
  have hv2 := VA_yv hv (by omega) hs
  have e2 : ∀ k, yr M 3 s (a 3 0) (3 + 2) k = yv (vw M 3) (a 3 0) s 2 k := fun k => congrFun (congrFun (vw_yr M 3 (a 3 0) s) 2) k
  have e3 : ∀ k, yr M 3 s (a 3 0) (3 + 3) k = yv (vw M 3) (a 3 0) s 3 k := fun k => congrFun (congrFun (vw_yr M 3 (a 3 0) s) 3) k
  have S3 := SR_year (K := kKY (b 168)) (s := s) (n := a 3 0) (y := a 3 2 + 1) (w := yv (vw a 3) (a 3 0) s) pM (by rw [hk95, ← k95]; exact S2) (by rw [hk93]; omega) (fun k h1 h2 => by rw [e2]; exact (hv2.1 k h1 h2).2.1.symm) (fun k h1 h2 => by rw [e3]; exact (hv2.2.1 k h1 h2).symm) (by rw [oM 3 (by omega) (by omega) (by omega)])
  have oA : ∀ x, x ≠ 3 → x ≠ 3 + 2 → x ≠ 3 + 3 → wr (yr M 3 s (a 3 0)) 3 2 (a 3 2 + 1) x = M x := fun x h1 h2 h3 => by rw [wr_o h1, yr_o h3 h2]
  refine ⟨h.story (fun c hc2 => ?_) (PS_fr (oA 2 (by omega) (by omega) (by omega)) pM) (by rw [h8]; exact S3.1) (fun x q => ?_) ?_ hb, fun x q => ?_⟩
  · by_cases e : c = 3
    · subst e
      exact S3.2.1
    · have h1 := cn_cn hc2 cn3 e
      exact CI_fr (fun i hi => oA _ (by omega) (by omega) (by omega)) (aM c hc2)
  · rw [oA x (by omega) (by omega) (by omega), oM x (by omega) (by omega) (by omega)]
  · rw [oA 151 (by omega) (by omega) (by omega), oM 151 (by omega) (by omega) (by omega)]
  · rw [oA x (by omega) (by omega) (by omega), oM x (by omega) (by omega) (by omega)]
