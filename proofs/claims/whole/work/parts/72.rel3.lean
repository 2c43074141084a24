theorem msn_rw (b : gM) (K : Int → Int) : msn b (rw_ b 168 K) := ⟨⟨rw_o (by omega), rw_o (by omega), rw_o (by omega), rw_o (by omega)⟩, by rw [rw_o (by omega)], by rw [rw_o (by omega)], by rw [rw_o (by omega)]⟩
theorem Rel.undo {a b a2 : gM} (h : Rel a b) (hu : 0 < a 1 1) (hB : BC (wr a 1 1 (a 1 1 - 1)) a2 3 (a 2 (a 1 1 - 1)).toNat) : Rel a2 (rw_ b 168 (kUN (b 168))) ∧ MF a a2 := by
  have hp := h.1.2.1.1
  have h1 := h.u
  have hS : SR a 1 (b 168) := h.1.2.2.2.1
  obtain ⟨c0, sc0, d, e⟩ := hS
  have hq := e (a 1 1 - 1) (by omega) (by omega)
  have r := psR hp (j := a 1 1 - 1) ⟨by omega, by omega⟩
  have r' : (a 2 (a 1 1 - 1)).toNat = 15 ∨ (a 2 (a 1 1 - 1)).toNat = 27 ∨ (a 2 (a 1 1 - 1)).toNat = 39 := r.1
  have hcr : CR (wr a 1 1 (a 1 1 - 1)) (a 2 (a 1 1 - 1)).toNat (fun j => b 168 (97 + 95 * (a 1 1 - 1) + j)) (b 168 95 - (b 168 96 - (a 1 1 - 1))) := CR_fr (fun i hi => wr_o (by omega)) hq.1
  have hsc : SC (wr a 1 1 (a 1 1 - 1)) (a 2 (a 1 1 - 1)).toNat := SC_fr (fun i hi => wr_o (by omega)) hq.2
  have hb2 := CR_bd hcr hsc.1
  have kU95 : kUN (b 168) 95 = b 168 95 - 1 := by
    unfold kUN
    rw [cX_o (by omega), kup_s]
  have kU96 : kUN (b 168) 96 = b 168 96 - 1 := by
    unfold kUN
    rw [cX_o (by omega), kup_n (by omega), kup_s]
  have kUh : ∀ j, 97 ≤ j → kUN (b 168) j = b 168 j := by
    intro j q
    unfold kUN
    rw [cX_o (by omega), kup_n (by omega), kup_n (by omega)]
  have kUl : ∀ j, 0 ≤ j → j < 95 → kUN (b 168) j = b 168 (97 + 95 * (a 1 1 - 1) + j) := by
    intro j q1 q2
    unfold kUN
    rw [cX_i (by omega), kup_n (by omega), kup_n (by omega)]
    congr 1
    omega
  have o : ∀ x, (x < 3 ∨ 15 ≤ x) → x ≠ 1 → a2 x = a x := fun x q1 q2 => by rw [hB.fr (by omega), wr_o q2]
  have e11 : a2 1 1 = a 1 1 - 1 := by rw [hB.fr (by omega), wr_s]
  have e2 : a2 (1 + 1) = a (1 + 1) := o 2 (by omega) (by omega)
  refine ⟨h.story (AI_BC cn3 hB (AI_st sn1 (Or.inl rfl) h.ai)) (PS_fr e2 hp) ?_ (fun x q => o x (by omega) (by omega)) (by rw [o 151 (by omega) (by omega)]) (msn_rw _ _), fun x q => o x (by omega) (by omega)⟩
  rw [rw_s]
  refine ⟨?_, SC_CQ hB.cq hB.ci hsc, ⟨by rw [e11, kU96]; omega, by omega, by omega⟩, fun i q1 q2 => ?_⟩
  · rw [kU95]
    exact CR_cg (fun j q1 q2 => kUl j q1 q2) hb2.1.2 hb2.2.2 (CR_y (CR_CQ hB.cq hsc.1 hcr) (by omega))
  · rw [kU96] at q2
    have ri := psR hp (j := i) ⟨q1, by omega⟩
    rw [e2, kU95, kU96]
    have q := e i q1 (by omega)
    have hb3 := CR_bd q.1 q.2.1
    exact ⟨CR_cg (fun j h3 h4 => kUh _ (by omega)) hb3.1.2 hb3.2.2 (CR_fr (fun k hk => o _ (by omega) (by omega)) (CR_y q.1 (by omega))), SC_fr (fun k hk => o _ (by omega) (by omega)) q.2⟩
theorem SRz_wr2 {μ : gM} {st : Nat} {K : Int → Int} {z x : Int} (hp : PS μ st) (h : SRz μ st K z) : SRz (wr μ st 2 x) st K z := by
  obtain ⟨a, b, d, e⟩ := h
  refine ⟨CR_fr (fun i hi => wr_o (by omega)) a, SC_fr (fun i hi => wr_o (by omega)) b, by rw [wr_n (by omega)]; exact d, fun i h1 h2 => ?_⟩
  have r := psR hp (j := i) ⟨h1, by omega⟩
  rw [wr_o (by omega)]
  exact ⟨CR_fr (fun i hi => wr_o (by omega)) (e i h1 h2).1, SC_fr (fun i hi => wr_o (by omega)) (e i h1 h2).2⟩
theorem Rel.image0 {a b m : gM} (h : Rel a b) (hB : SBC a m 51 1) : Rel (wr m 51 2 1) (wr (rw_ b 169 (cX (b 169) (b 168) (382 * 0) 0 382)) 170 0 1) ∧ MF a (wr m 51 2 1) := by
  have hU := h.u
  obtain ⟨⟨hA, ⟨p1, p5, p10⟩, hu, s1, k5, k10⟩, h2, h3, h4⟩ := h
  have o : ∀ x, (x < 51 ∨ 101 ≤ x) → wr m 51 2 1 x = a x := fun x q => by rw [wr_o (by omega), hB.1 x (by omega)]
  have pm : PS m 51 := PS_fr hB.2.1 p5
  have e52 : wr m 51 2 1 (51 + 1) = a (51 + 1) := by rw [wr_o (by omega), hB.2.1]
  have e8 : wr (rw_ b 169 (cX (b 169) (b 168) (382 * 0) 0 382)) 170 0 1 168 = b 168 := by rw [wr_o (by omega), rw_o (by omega)]
  have e9 : wr (rw_ b 169 (cX (b 169) (b 168) (382 * 0) 0 382)) 170 0 1 169 = cX (b 169) (b 168) (382 * 0) 0 382 := by rw [wr_o (by omega), rw_s]
  have eo : ∀ x, x ≠ 169 → x ≠ 170 → wr (rw_ b 169 (cX (b 169) (b 168) (382 * 0) 0 382)) 170 0 1 x = b x := fun x q1 q2 => by rw [wr_o q2, rw_o q1]
  refine ⟨⟨⟨AI_st sn51 (Or.inl rfl) hB.2.2.2.2.2.2, ⟨PS_fr (o 2 (by omega)) p1, PS_fr e52 p5, PS_fr (o 102 (by omega)) p10⟩, ?_, ?_, ?_, ?_⟩, ?_, ?_, ?_⟩, fun x q => o x (by omega)⟩
  · rw [wr_n (by omega), hB.2.2.1, o 101 (by omega)]
    exact ⟨hU.2, hu.2⟩
  · rw [e8]
    exact SR_fr p1 (fun x q1 q2 => o x (by omega)) s1
  · refine ⟨by rw [wr_s, wr_s], Or.inr wr_s, fun _ => ?_⟩
    rw [e9]
    refine SR_cg (K := b 168) (fun j q1 q2 => ?_) (SRz_wr2 pm (SR_SBC sn51 sn1 p5 hA hB s1))
    rw [cX_i (by omega)]
    congr 1
    omega
  · refine ⟨?_, by rw [o 101 (by omega)]; exact k10.2.1, fun q => ?_⟩
    · rw [o 101 (by omega), wr_n (by omega), rw_o (by omega)]
      exact k10.1
    · rw [o 101 (by omega)] at q
      rw [e9]
      refine SR_cg (K := fun j => b 169 (382 + j)) (fun j q1 q2 => ?_) (SR_fr p10 (fun x q1 q2 => o x (by omega)) (k10.2.2 q))
      show cX (b 169) (b 168) (382 * 0) 0 382 (382 + j) = b 169 (382 + j)
      rw [cX_o (by omega)]
  · unfold RT
    rw [o 151 (by omega), o 152 (by omega), eo 167 (by omega) (by omega), eo 177 (by omega) (by omega)]
    exact h2
  · unfold RF
    rw [o 154 (by omega), eo 167 (by omega) (by omega)]
    exact h3
  · unfold RC
    rw [o 0 (by omega), eo 171 (by omega) (by omega)]
    exact h4
theorem Rel.image1 {a b m : gM} (h : Rel a b) (hB : SBC a m 101 1) : Rel (wr m 101 2 1) (wr (rw_ b 169 (cX (b 169) (b 168) (382 * 1) 0 382)) 170 1 1) ∧ MF a (wr m 101 2 1) := by
  have hU := h.u
  obtain ⟨⟨hA, ⟨p1, p5, p10⟩, hu, s1, k5, k10⟩, h2, h3, h4⟩ := h
  have o : ∀ x, (x < 101 ∨ 151 ≤ x) → wr m 101 2 1 x = a x := fun x q => by rw [wr_o (by omega), hB.1 x (by omega)]
  have pm : PS m 101 := PS_fr hB.2.1 p10
  have e52 : wr m 101 2 1 (101 + 1) = a (101 + 1) := by rw [wr_o (by omega), hB.2.1]
  have e8 : wr (rw_ b 169 (cX (b 169) (b 168) (382 * 1) 0 382)) 170 1 1 168 = b 168 := by rw [wr_o (by omega), rw_o (by omega)]
  have e9 : wr (rw_ b 169 (cX (b 169) (b 168) (382 * 1) 0 382)) 170 1 1 169 = cX (b 169) (b 168) (382 * 1) 0 382 := by rw [wr_o (by omega), rw_s]
  have eo : ∀ x, x ≠ 169 → x ≠ 170 → wr (rw_ b 169 (cX (b 169) (b 168) (382 * 1) 0 382)) 170 1 1 x = b x := fun x q1 q2 => by rw [wr_o q2, rw_o q1]
  refine ⟨⟨⟨AI_st sn101 (Or.inl rfl) hB.2.2.2.2.2.2, ⟨PS_fr (o 2 (by omega)) p1, PS_fr (o 52 (by omega)) p5, PS_fr e52 p10⟩, ?_, ?_, ?_, ?_⟩, ?_, ?_, ?_⟩, fun x q => o x (by omega)⟩
  · rw [wr_n (by omega), hB.2.2.1, o 51 (by omega)]
    exact ⟨hu.1, hU.2⟩
  · rw [e8]
    exact SR_fr p1 (fun x q1 q2 => o x (by omega)) s1
  · refine ⟨?_, by rw [o 51 (by omega)]; exact k5.2.1, fun q => ?_⟩
    · rw [o 51 (by omega), wr_n (by omega), rw_o (by omega)]
      exact k5.1
    · rw [o 51 (by omega)] at q
      rw [e9]
      refine SR_cg (K := b 169) (fun j q1 q2 => ?_) (SR_fr p5 (fun x q1 q2 => o x (by omega)) (k5.2.2 q))
      rw [cX_o (by omega)]
  · refine ⟨by rw [wr_s, wr_s], Or.inr wr_s, fun _ => ?_⟩
    rw [e9]
    refine SR_cg (K := b 168) (fun j q1 q2 => ?_) (SRz_wr2 pm (SR_SBC sn101 sn1 p10 hA hB s1))
    show cX (b 169) (b 168) (382 * 1) 0 382 (382 + j) = b 168 j
    rw [cX_i (by omega)]
    congr 1
    omega
  · unfold RT
    rw [o 151 (by omega), o 152 (by omega), eo 167 (by omega) (by omega), eo 177 (by omega) (by omega)]
    exact h2
  · unfold RF
    rw [o 154 (by omega), eo 167 (by omega) (by omega)]
    exact h3
  · unfold RC
    rw [o 0 (by omega), eo 171 (by omega) (by omega)]
    exact h4
theorem Rel.from0 {a b a2 : gM} (h : Rel a b) (hk : a 51 2 = 1) (hB : SBC a a2 1 51) : Rel a2 (rw_ b 168 (cX (b 168) (b 169) 0 (382 * 0) 382)) ∧ MF a a2 := by
  have o : ∀ x, (x < 1 ∨ 51 ≤ x) → a2 x = a x := fun x q => hB.1 x (by omega)
  refine ⟨h.story hB.2.2.2.2.2.2 (PS_fr hB.2.1 h.1.2.1.1) ?_ (fun x q => o x (by omega)) (by rw [o 151 (by omega)]) (msn_rw _ _), fun x q => o x (by omega)⟩
  rw [rw_s]
  refine SR_cg (K := b 169) (fun j q1 q2 => ?_) (SR_SBC sn1 sn51 h.1.2.1.1 h.ai hB (h.1.2.2.2.2.1.2.2 hk))
  rw [cX_i (by omega)]
  congr 1
  omega
theorem Rel.from1 {a b a2 : gM} (h : Rel a b) (hk : a 101 2 = 1) (hB : SBC a a2 1 101) : Rel a2 (rw_ b 168 (cX (b 168) (b 169) 0 (382 * 1) 382)) ∧ MF a a2 := by
  have o : ∀ x, (x < 1 ∨ 51 ≤ x) → a2 x = a x := fun x q => hB.1 x (by omega)
  refine ⟨h.story hB.2.2.2.2.2.2 (PS_fr hB.2.1 h.1.2.1.1) ?_ (fun x q => o x (by omega)) (by rw [o 151 (by omega)]) (msn_rw _ _), fun x q => o x (by omega)⟩
  rw [rw_s]
  refine SR_cg (K := fun j => b 169 (382 + j)) (fun j q1 q2 => ?_) (SR_SBC sn1 sn101 h.1.2.1.1 h.ai hB (h.1.2.2.2.2.2.2.2 hk))
  rw [cX_i (by omega)]
  congr 1
  omega
theorem Rel.read {a b b2 mt mb : gM} {Kr : Int → Int} (h : Rel a b) (h1 : smc 155 a mt) (h2 : SC mt 155) (h3 : CR mt 155 Kr 0) (hB : BC mt mb 3 155) (hb : msn b b2) (hK : ∀ j, 0 ≤ j → j < 95 → b2 168 j = Kr j) (h95 : b2 168 95 = 0) (h96 : b2 168 96 = 0) : Rel (wr mb 1 1 0) b2 := by
  have hbd := CR_bd h3 h2.1
  have oT : ∀ x, x ≠ 151 → x ≠ 153 → (x < 155 ∨ 167 ≤ x) → mt x = a x := fun x q1 q2 q3 => h1.2.2 x q1 q2 (by omega)
  have hA : AI mt := by
    intro c hc
    rcases cn_lt hc with rfl | ⟨q1, q2⟩
    · exact h2.1
    · exact CI_fr (fun i hi => oT _ (by omega) (by omega) (by omega)) (h.ai c hc)
  have o : ∀ x, x ≠ 1 → (x < 3 ∨ 15 ≤ x) → wr mb 1 1 0 x = mt x := fun x q1 q2 => by rw [wr_o q1, hB.fr (by omega)]
  refine h.story (AI_st sn1 (Or.inl rfl) (AI_BC cn3 hB hA)) (PS_fr (μ := a) ?_ h.1.2.1.1) ?_ (fun x q => ?_) ?_ hb
  · show wr mb 1 1 0 2 = a 2
    rw [o 2 (by omega) (by omega), oT 2 (by omega) (by omega) (by omega)]
  · refine ⟨?_, SC_fr (μ := mb) (fun i hi => wr_o (by omega)) (SC_CQ hB.cq hB.ci h2), ⟨by rw [wr_s, h96], by omega, by omega⟩, fun i q1 q2 => by omega⟩
    rw [h95]
    exact CR_cg hK hbd.1.2 hbd.2.2 (CR_fr (μ := mb) (fun i hi => wr_o (by omega)) (CR_CQ hB.cq h2.1 h3))
  · rcases q with q | q | q | q
    · rw [o x (by omega) (by omega), oT x (by omega) (by omega) (by omega)]
    · rw [o x (by omega) (by omega), oT x (by omega) (by omega) (by omega)]
    · subst q
      rw [o 152 (by omega) (by omega)]
      exact h1.1
    · rw [o x (by omega) (by omega), oT x (by omega) (by omega) (by omega)]
  · rw [o 151 (by omega) (by omega)]
    exact h1.2.1
theorem tM_x {μ : gM} {b o x : Nat} {f L v n c : Int} (h1 : x ≠ b) (h2 : x ≠ o) : tM μ b o f L v n c x = μ x := by
  funext j
  unfold tM
  rw [if_neg (by omega), if_neg (by omega)]
theorem tM_ol {μ : gM} {b o : Nat} {f L v n c : Int} (h : o ≠ b) : tM μ b o f L v n c o f = L + c := by
  unfold tM
  rw [if_neg (by omega), if_pos ⟨rfl, rfl⟩]
theorem tM_of {μ : gM} {b o : Nat} {f L v n c j : Int} (h : o ≠ b) (hj : j ≠ f) : tM μ b o f L v n c o j = μ o j := by
  unfold tM
  rw [if_neg (by omega), if_neg (by omega)]
theorem tM_b {μ : gM} {b o : Nat} {f L v n c j : Int} (h : o ≠ b) : tM μ b o f L v n c b j = if L ≤ j ∧ j < L + c then (lUshr v (8 * (n - 1 - (j - L)))) % 256 else μ b j := by
  unfold tM
  by_cases q : L ≤ j ∧ j < L + c
  · rw [if_pos ⟨rfl, q⟩, if_pos q]
  · rw [if_neg (fun z => q z.2), if_neg q, if_neg (fun z => h z.1.symm)]
theorem Rel.typed {a b : gM} (h : Rel a b) {v n : Int} (hn : 1 ≤ n ∧ n ≤ 8) (hL : a 151 0 + n ≤ 250) : Rel (tM a 152 151 0 (a 151 0) v n n) (tM b 177 167 13 (b 167 13) v n n) := by
  obtain ⟨h1, h2, h3, h4⟩ := h
  refine ⟨h1.fr (fun x q1 q2 => tM_x (by omega) (by omega)) (CI_fr (fun i hi => tM_x (by omega) (by omega)) (h1.1 _ cn155)) (tM_x (by omega) (by omega)) (tM_x (by omega) (by omega)) (tM_x (by omega) (by omega)), ?_, ?_, ?_⟩
  · obtain ⟨t1, t2, t3⟩ := h2
    refine ⟨?_, ⟨?_, fun k q1 q2 => ?_⟩, ?_⟩
    · rw [tM_ol (by omega), tM_ol (by omega), t1]
    · rw [tM_ol (by omega)]
      have := t2.1
      omega
    · rw [tM_ol (by omega)] at q2
      rw [tM_b (by omega)]
      split
      · omega
      · exact t2.2 k q1 (by omega)
    · funext j
      rw [tM_b (by omega), tM_b (by omega), t1, t3]
  · unfold RF
    rw [tM_x (by omega) (by omega), tM_of (by omega) (by omega), tM_of (by omega) (by omega)]
    exact h3
  · unfold RC
    rw [tM_x (by omega) (by omega), tM_x (by omega) (by omega)]
    exact h4
theorem Rel.cleared {a b : gM} (h : Rel a b) : Rel (wr a 151 0 0) (wr b 167 13 0) := by
  obtain ⟨h1, h2, h3, h4⟩ := h
  refine ⟨h1.fr (fun x q1 q2 => wr_o (by omega)) (CI_fr (fun i hi => wr_o (by omega)) (h1.1 _ cn155)) (wr_o (by omega)) (wr_o (by omega)) (wr_o (by omega)), ?_, ?_, ?_⟩
  · refine ⟨by rw [wr_s, wr_s], ⟨by rw [wr_s]; omega, fun k q1 q2 => ?_⟩, ?_⟩
    · rw [wr_s] at q2
      omega
    · rw [wr_o (by omega), wr_o (by omega)]
      exact h2.2.2
  · unfold RF
    rw [wr_o (by omega), wr_n (by omega), wr_n (by omega)]
    exact h3
  · unfold RC
    rw [wr_o (by omega), wr_o (by omega)]
    exact h4
theorem it_split (F : Int → Int → Int) (h : Int) (p : Nat) : ∀ q : Nat, it F h (p + q) = it (fun k => F (p + k)) (it F h p) q
  | 0 => rfl
  | q + 1 => by
    rw [← Nat.add_assoc, it, it, it_split F h p q, Int.natCast_add]
theorem it_8 (F : Int → Int) (x : Int) : it (fun k y => 31 * y + F k) x 8 = 31 * (31 * (31 * (31 * (31 * (31 * (31 * (31 * x + F 0) + F 1) + F 2) + F 3) + F 4) + F 5) + F 6) + F 7 := rfl
theorem it_5 (F : Int → Int) (x : Int) : it (fun k y => 31 * y + F k) x 5 = 31 * (31 * (31 * (31 * (31 * x + F 0) + F 1) + F 2) + F 3) + F 4 := rfl
theorem it_4 (F : Int → Int) (x : Int) : itI (fun k y => 31 * y + F k) x 4 = 31 * (31 * (31 * (31 * x + F 0) + F 1) + F 2) + F 3 := rfl
theorem dg_R {v : gV} {G : Int → Int} {h : Int} : ∀ n : Nat, (∀ r : Int, 0 ≤ r → r < n → (G (8 * r) = v 1 r ∧ G (8 * r + 1) = v 2 r ∧ G (8 * r + 6) = v 4 r ∧ G (8 * r + 7) = v 5 r) ∧ ∀ j, 0 ≤ j → j < 4 → G (8 * r + 2 + j) = v 3 (4 * r + j)) → it (fun k y => 31 * y + G (0 + k)) h (8 * n) = it (mxR v) h n
  | 0, _ => rfl
  | n + 1, H => by
    have ih := dg_R (v := v) (G := G) (h := h) n (fun r h1 h2 => H r h1 (by omega))
    obtain ⟨⟨g0, g1, g6, g7⟩, gc⟩ := H n (by omega) (by omega)
    rw [show 8 * (n + 1) = 8 * n + 8 by omega, it_split, ih, it_8 (fun k => G (0 + ((8 * n : Nat) + k))), it, mxR, it_4 (fun i => v 3 (4 * (n : Int) + i))]
    have c2 := gc 0 (by omega) (by omega)
    have c3 := gc 1 (by omega) (by omega)
    have c4 := gc 2 (by omega) (by omega)
    have c5 := gc 3 (by omega) (by omega)
    rw [← g0, ← g1, ← g6, ← g7, ← c2, ← c3, ← c4, ← c5]
    have e0 : (0 + (((8 * n : Nat) : Int) + 0)) = 8 * (n : Int) := by omega
    have e1 : (0 + (((8 * n : Nat) : Int) + 1)) = 8 * (n : Int) + 1 := by omega
    have e2 : (0 + (((8 * n : Nat) : Int) + 2)) = 8 * (n : Int) + 2 + 0 := by omega
    have e3 : (0 + (((8 * n : Nat) : Int) + 3)) = 8 * (n : Int) + 2 + 1 := by omega
    have e4 : (0 + (((8 * n : Nat) : Int) + 4)) = 8 * (n : Int) + 2 + 2 := by omega
    have e5 : (0 + (((8 * n : Nat) : Int) + 5)) = 8 * (n : Int) + 2 + 3 := by omega
    have e6 : (0 + (((8 * n : Nat) : Int) + 6)) = 8 * (n : Int) + 6 := by omega
    have e7 : (0 + (((8 * n : Nat) : Int) + 7)) = 8 * (n : Int) + 7 := by omega
    rw [e0, e1, e2, e3, e4, e5, e6, e7]
theorem dg_S {v : gV} {G : Int → Int} {h : Int} : ∀ n : Nat, (∀ r : Int, 0 ≤ r → r < n → G (56 + 5 * r) = v 6 r ∧ G (56 + 5 * r + 1) = v 7 r ∧ G (56 + 5 * r + 2) = v 8 r ∧ G (56 + 5 * r + 3) = v 9 r ∧ G (56 + 5 * r + 4) = v 10 r) → it (fun k y => 31 * y + G (56 + k)) h (5 * n) = it (mxS v) h n
  | 0, _ => rfl
  | n + 1, H => by
    have ih := dg_S (v := v) (G := G) (h := h) n (fun r h1 h2 => H r h1 (by omega))
    obtain ⟨g0, g1, g2, g3, g4⟩ := H n (by omega) (by omega)
    rw [show 5 * (n + 1) = 5 * n + 5 by omega, it_split, ih, it_5 (fun k => G (56 + ((5 * n : Nat) + k))), it, mxS, ← g0, ← g1, ← g2, ← g3, ← g4]
    have e0 : (56 + (((5 * n : Nat) : Int) + 0)) = 56 + 5 * (n : Int) := by omega
    have e1 : (56 + (((5 * n : Nat) : Int) + 1)) = 56 + 5 * (n : Int) + 1 := by omega
    have e2 : (56 + (((5 * n : Nat) : Int) + 2)) = 56 + 5 * (n : Int) + 2 := by omega
    have e3 : (56 + (((5 * n : Nat) : Int) + 3)) = 56 + 5 * (n : Int) + 3 := by omega
    have e4 : (56 + (((5 * n : Nat) : Int) + 4)) = 56 + 5 * (n : Int) + 4 := by omega
    rw [e0, e1, e2, e3, e4]
theorem Rel.cntE {a b : gM} (h : Rel a b) {w : Int} (hw : 0 ≤ w ∧ w ≤ 5) : cnt a w = cntm b w := by
  have h1 := h.n
  have h2 := h.m
  have h3 := h.y
  have h4 := h.u
  have h5 := h.2.1.1
  have h6 : sI (fun k => vw a 3 11 k) 7 = sI (fun k => b 168 (86 + k)) 7 := sI_cg (fun k q1 q2 => h.cr.2.2.2.2 k q1 q2)
  skip
  unfold cnt cntm
  rcases (by omega : w = 0 ∨ w = 1 ∨ w = 2 ∨ w = 3 ∨ w = 4 ∨ w = 5) with rfl | rfl | rfl | rfl | rfl | rfl
  · exact h1.1.symm
  · exact h2.1.symm
  · exact h6
  · exact h3
  · exact h4.1
  · exact h5
theorem Rel.dg {a b : gM} (h : Rel a b) : dgs a = dgm b := by
  have hn := h.n
  have hm := h.m
  have hI := h.ci
  obtain ⟨-, cb, cd, ce, cf⟩ := h.cr
  have rg : ∀ x : Int, -2147483648 ≤ x ∧ x < 2147483648 → (iI x).toInt = x := fun x q => iI_toInt q
  obtain ⟨n, en⟩ := Int.eq_ofNat_of_zero_le hn.2.1
  obtain ⟨m, em⟩ := Int.eq_ofNat_of_zero_le hm.2.1
  have s0 : itI (fun k x => 31 * x + (iI (cnt a k)).toInt) 719 6 = itI (fun k x => 31 * x + (iI (cntm b k)).toInt) 719 6 := itI_cg (fun k x q1 q2 => by rw [h.cntE ⟨q1, by omega⟩])
  have s1 : ∀ x, sms b x 0 (8 * b 168 93) = itI (mxR (vw a 3)) x (a 3 0) := by
    intro x
    unfold sms itI
    rw [hn.1, en, show (8 * (n : Int)).toNat = 8 * n by omega, Int.toNat_natCast]
    refine dg_R (G := fun k => (iI (b 168 k)).toInt) n (fun r h1 h2 => ?_)
    have q := cb r h1 (by omega)
    refine ⟨⟨?_, ?_, ?_, ?_⟩, fun j h3 h4 => ?_⟩
    · show (iI (b 168 (8 * r))).toInt = a (3 + 1) r
      rw [← q.1]
      exact rg _ (by have := CI_kind hI r; omega)
    · show (iI (b 168 (8 * r + 1))).toInt = a (3 + 2) r
      rw [← q.2.1]
      exact rg _ (by have := CI_age hI r; omega)
    · show (iI (b 168 (8 * r + 6))).toInt = a (3 + 4) r
      rw [← q.2.2.1]
      exact rg _ (by have := CI_blue hI r; omega)
    · show (iI (b 168 (8 * r + 7))).toInt = a (3 + 5) r
      rw [← q.2.2.2]
      exact rg _ (by have := CI_brown hI r; omega)
    · show (iI (b 168 (8 * r + 2 + j))).toInt = a (3 + 3) (4 * r + j)
      rw [← cd r j h1 (by omega) h3 h4]
      exact rg _ (by have := CI_cover hI (4 * r + j); omega)
  have s2 : ∀ x, sms b x 56 (5 * b 168 94) = itI (mxS (vw a 3)) x (a 3 1) := by
    intro x
    unfold sms itI
    rw [hm.1, em, show (5 * (m : Int)).toNat = 5 * m by omega, Int.toNat_natCast]
    refine dg_S (G := fun k => (iI (b 168 k)).toInt) m (fun r h1 h2 => ?_)
    have q := ce r h1 (by omega)
    refine ⟨?_, ?_, ?_, ?_, ?_⟩
    · show (iI (b 168 (56 + 5 * r))).toInt = a (3 + 6) r
      rw [← q.1]
      exact rg _ (by have := CI_first hI r; omega)
    · show (iI (b 168 (56 + 5 * r + 1))).toInt = a (3 + 7) r
      rw [← q.2.1]
      exact rg _ (by have := CI_last hI r; omega)
    · show (iI (b 168 (56 + 5 * r + 2))).toInt = a (3 + 8) r
      rw [← q.2.2.1]
      exact rg _ (by have := CI_wind hI r; omega)
    · show (iI (b 168 (56 + 5 * r + 3))).toInt = a (3 + 9) r
      rw [← q.2.2.2.1]
      exact rg _ (by have := CI_size hI r; omega)
    · show (iI (b 168 (56 + 5 * r + 4))).toInt = a (3 + 10) r
      rw [← q.2.2.2.2]
      exact rg _ (by have := CI_chance hI r; omega)
  have s3 : ∀ x, sms b x 86 7 = itI (fun k y => 31 * y + vw a 3 11 k) x 7 := by
    intro x
    unfold sms
    refine itI_cg (fun k y q1 q2 => ?_)
    show 31 * y + (iI (b 168 (86 + k))).toInt = 31 * y + a (3 + 11) k
    rw [← cf k q1 q2, rg _ (by have := CI_guns hI k; omega)]
  unfold dgs dgm
  rw [s1, s2, s3, s0, h.2.2.1.1, h.2.2.1.2]
