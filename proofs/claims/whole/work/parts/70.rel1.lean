/-! the class and the model side by side -/
theorem cn_lt {c : Nat} (hc : cn c) : c = 155 ∨ (3 ≤ c ∧ c + 12 ≤ 151) := by
  have h := cn_all (p := fun c => decide (c = 155 ∨ (3 ≤ c ∧ c + 12 ≤ 151))) (by decide) hc
  exact of_decide_eq_true h
theorem CR_bd {μ : gM} {c : Nat} {K : Int → Int} {y : Int} (h : CR μ c K y) (hI : CI μ c) : (0 ≤ K 93 ∧ K 93 ≤ 7) ∧ (0 ≤ K 94 ∧ K 94 ≤ 6) := by
  have h1 := CI_roofs hI
  have h2 := CI_storms hI
  have h3 := h.1.1
  have h4 := h.1.2.1
  omega
theorem CR_cg {μ : gM} {c : Nat} {K K2 : Int → Int} {y : Int} (h : ∀ j, 0 ≤ j → j < 95 → K2 j = K j) (hn : K 93 ≤ 7) (hm : K 94 ≤ 6) (hC : CR μ c K y) : CR μ c K2 y := by
  obtain ⟨⟨a1, a2, a3⟩, b, d, e, f⟩ := hC
  have e93 := h 93 (by omega) (by omega)
  have e94 := h 94 (by omega) (by omega)
  refine ⟨⟨by rw [e93]; exact a1, by rw [e94]; exact a2, a3⟩, fun r h1 h2 => ?_, fun r j h1 h2 h3 h4 => ?_, fun s h1 h2 => ?_, fun p h1 h2 => ?_⟩
  · rw [e93] at h2
    rw [h (8 * r) (by omega) (by omega), h (8 * r + 1) (by omega) (by omega), h (8 * r + 6) (by omega) (by omega), h (8 * r + 7) (by omega) (by omega)]
    exact b r h1 h2
  · rw [e93] at h2
    rw [h (8 * r + 2 + j) (by omega) (by omega)]
    exact d r j h1 h2 h3 h4
  · rw [e94] at h2
    rw [h (56 + 5 * s) (by omega) (by omega), h (56 + 5 * s + 1) (by omega) (by omega), h (56 + 5 * s + 2) (by omega) (by omega), h (56 + 5 * s + 3) (by omega) (by omega), h (56 + 5 * s + 4) (by omega) (by omega)]
    exact e s h1 h2
  · rw [h (86 + p) (by omega) (by omega)]
    exact f p h1 h2
theorem CR_y {μ : gM} {c : Nat} {K : Int → Int} {y z : Int} (h : CR μ c K y) (e : y = z) : CR μ c K z := e ▸ h
theorem CR_CQ {μ μ2 : gM} {c o : Nat} {K : Int → Int} {y : Int} (hq : CQ μ2 c μ o) (hI : CI μ o) (h : CR μ o K y) : CR μ2 c K y := by
  have hb := CR_bd h hI
  obtain ⟨⟨q0, q1, q2⟩, k1, k2, k3, k4, k5, k6, k7, k8, k9, k10, k11⟩ := hq
  obtain ⟨⟨a1, a2, a3⟩, b, d, e, f⟩ := h
  refine ⟨⟨q0.trans a1, q1.trans a2, q2.trans a3⟩, fun r h1 h2 => ?_, fun r j h1 h2 h3 h4 => ?_, fun s h1 h2 => ?_, fun p h1 h2 => ?_⟩
  · rw [k1 r h1 (by omega), k2 r h1 (by omega), k4 r h1 (by omega), k5 r h1 (by omega)]
    exact b r h1 h2
  · rw [k3 (4 * r + j) (by omega) (by omega)]
    exact d r j h1 h2 h3 h4
  · rw [k6 s h1 (by omega), k7 s h1 (by omega), k8 s h1 (by omega), k9 s h1 (by omega), k10 s h1 (by omega)]
    exact e s h1 h2
  · rw [k11 p h1 (by omega)]
    exact f p h1 h2
theorem SC_CQ {μ μ2 : gM} {c o : Nat} (hq : CQ μ2 c μ o) (hI : CI μ2 c) (h : SC μ o) : SC μ2 c := by
  have h0 := CI_roofs h.1
  have h1 := CI_storms h.1
  obtain ⟨⟨q0, q1, q2⟩, k1, k2, k3, k4, k5, k6, k7, k8, k9, k10, k11⟩ := hq
  refine ⟨hI, fun k a b => ?_, fun k a b => ?_⟩
  · rw [q0] at b
    rw [k3 k a (by omega)]
    exact h.2.1 k a b
  · rw [q1] at b
    rw [k10 k a (by omega)]
    exact h.2.2 k a b
/-- a story of the class and a row of the model; z: the years that the past counts back from -/
def SRz (μ : gM) (st : Nat) (K : Int → Int) (z : Int) : Prop := CR μ (st + 2) K (K 95) ∧ SC μ (st + 2) ∧ (μ st 1 = K 96 ∧ 0 ≤ K 96 ∧ K 96 ≤ 3) ∧ ∀ i : Int, 0 ≤ i → i < K 96 → CR μ (μ (st + 1) i).toNat (fun j => K (97 + 95 * i + j)) (z - (K 96 - i)) ∧ SC μ (μ (st + 1) i).toNat
def SR (μ : gM) (st : Nat) (K : Int → Int) : Prop := SRz μ st K (K 95)
theorem SRz_fr {μ μ2 : gM} {st : Nat} {K : Int → Int} {z : Int} (hp : PS μ st) (h : ∀ x, st ≤ x → x < st + 50 → μ2 x = μ x) (hS : SRz μ st K z) : SRz μ2 st K z := by
  obtain ⟨a, b, d, e⟩ := hS
  refine ⟨CR_fr (fun i hi => h _ (by omega) (by omega)) a, SC_fr (fun i hi => h _ (by omega) (by omega)) b, by rw [h st (by omega) (by omega)]; exact d, fun i h1 h2 => ?_⟩
  have r := psR hp (j := i) ⟨h1, by omega⟩
  rw [h (st + 1) (by omega) (by omega)]
  exact ⟨CR_fr (fun k hk => h _ (by omega) (by omega)) (e i h1 h2).1, SC_fr (fun k hk => h _ (by omega) (by omega)) (e i h1 h2).2⟩
theorem SR_fr {μ μ2 : gM} {st : Nat} {K : Int → Int} (hp : PS μ st) (h : ∀ x, st ≤ x → x < st + 50 → μ2 x = μ x) (hS : SR μ st K) : SR μ2 st K := SRz_fr hp h hS
theorem SR_cg {μ : gM} {st : Nat} {K K2 : Int → Int} (h : ∀ j, 0 ≤ j → j < 382 → K2 j = K j) (hS : SR μ st K) : SR μ st K2 := by
  obtain ⟨a, b, d, e⟩ := hS
  have e95 := h 95 (by omega) (by omega)
  have e96 := h 96 (by omega) (by omega)
  have hb := CR_bd a b.1
  unfold SR SRz
  rw [e95, e96]
  refine ⟨CR_cg (fun j h1 h2 => h j h1 (by omega)) hb.1.2 hb.2.2 a, b, d, fun i h1 h2 => ?_⟩
  have q := e i h1 h2
  have hb2 := CR_bd q.1 q.2.1
  exact ⟨CR_cg (fun j h3 h4 => h _ (by omega) (by omega)) hb2.1.2 hb2.2.2 q.1, q.2⟩
/-- what is now has changed, the past has not -/
theorem SR.now {a a2 : gM} {st : Nat} {K K2 : Int → Int} {z : Int} (hp : PS a st) (h : SRz a st K z) (ha : ∀ x, st ≤ x → x < st + 50 → (x < st + 2 ∨ st + 14 ≤ x) → a2 x = a x) (hC : CR a2 (st + 2) K2 (K2 95)) (hS : SC a2 (st + 2)) (hz : K2 95 = z) (hK : ∀ j, 96 ≤ j → j < 382 → K2 j = K j) : SR a2 st K2 := by
  obtain ⟨-, -, d, e⟩ := h
  have e96 := hK 96 (by omega) (by omega)
  refine ⟨hC, hS, by rw [ha st (by omega) (by omega) (by omega), e96]; exact d, fun i h1 h2 => ?_⟩
  rw [e96] at h2
  have r := psR hp (j := i) ⟨h1, by omega⟩
  rw [ha (st + 1) (by omega) (by omega) (by omega), e96, hz]
  have q := e i h1 h2
  have hb2 := CR_bd q.1 q.2.1
  exact ⟨CR_cg (fun j h3 h4 => hK _ (by omega) (by omega)) hb2.1.2 hb2.2.2 (CR_fr (fun k hk => ha _ (by omega) (by omega) (by omega)) q.1), SC_fr (fun k hk => ha _ (by omega) (by omega) (by omega)) q.2⟩
def RS (a b : gM) : Prop := AI a ∧ (PS a 1 ∧ PS a 51 ∧ PS a 101) ∧ ((0 ≤ a 51 1 ∧ a 51 1 ≤ 3) ∧ (0 ≤ a 101 1 ∧ a 101 1 ≤ 3)) ∧ SR a 1 (b 168) ∧ (a 51 2 = b 170 0 ∧ (a 51 2 = 0 ∨ a 51 2 = 1) ∧ (a 51 2 = 1 → SR a 51 (b 169))) ∧ (a 101 2 = b 170 1 ∧ (a 101 2 = 0 ∨ a 101 2 = 1) ∧ (a 101 2 = 1 → SR a 101 (fun j => b 169 (382 + j))))
theorem RS.fr {a a2 b b2 : gM} (h : RS a b) (ha : ∀ x, 1 ≤ x → x ≤ 150 → a2 x = a x) (hc : CI a2 155) (h8 : b2 168 = b 168) (h9 : b2 169 = b 169) (h0 : b2 170 = b 170) : RS a2 b2 := by
  obtain ⟨hA, ⟨p1, p5, p10⟩, hu, s1, k5, k10⟩ := h
  have e51 := ha 51 (by omega) (by omega)
  have e101 := ha 101 (by omega) (by omega)
  refine ⟨fun c hc2 => ?_, ⟨PS_fr (ha 2 (by omega) (by omega)) p1, PS_fr (ha 52 (by omega) (by omega)) p5, PS_fr (ha 102 (by omega) (by omega)) p10⟩, ?_, ?_, ?_, ?_⟩
  · rcases cn_lt hc2 with rfl | ⟨h1, h2⟩
    · exact hc
    · exact CI_fr (fun i hi => ha (c + i) (by omega) (by omega)) (hA c hc2)
  · rw [e51, e101]
    exact hu
  · rw [h8]
    exact SR_fr p1 (fun x h1 h2 => ha x (by omega) (by omega)) s1
  · rw [e51, h0, h9]
    exact ⟨k5.1, k5.2.1, fun h => SR_fr p5 (fun x h1 h2 => ha x (by omega) (by omega)) (k5.2.2 h)⟩
  · rw [e101, h0, h9]
    exact ⟨k10.1, k10.2.1, fun h => SR_fr p10 (fun x h1 h2 => ha x (by omega) (by omega)) (k10.2.2 h)⟩
/-- the story of now has changed, the images have not -/
theorem RS.one {a a2 b b2 : gM} (h : RS a b) (ha : ∀ x, 51 ≤ x → x ≤ 150 → a2 x = a x) (hA : AI a2) (hp : PS a2 1) (hS : SR a2 1 (b2 168)) (h9 : b2 169 = b 169) (h0 : b2 170 = b 170) : RS a2 b2 := by
  obtain ⟨-, ⟨-, p5, p10⟩, hu, -, k5, k10⟩ := h
  have e51 := ha 51 (by omega) (by omega)
  have e101 := ha 101 (by omega) (by omega)
  refine ⟨hA, ⟨hp, PS_fr (ha 52 (by omega) (by omega)) p5, PS_fr (ha 102 (by omega) (by omega)) p10⟩, ?_, hS, ?_, ?_⟩
  · rw [e51, e101]
    exact hu
  · rw [e51, h0, h9]
    exact ⟨k5.1, k5.2.1, fun h => SR_fr p5 (fun x h1 h2 => ha x (by omega) (by omega)) (k5.2.2 h)⟩
  · rw [e101, h0, h9]
    exact ⟨k10.1, k10.2.1, fun h => SR_fr p10 (fun x h1 h2 => ha x (by omega) (by omega)) (k10.2.2 h)⟩
/-- the canton of now has changed, the past and the images have not -/
theorem RS.now {a a2 b b2 : gM} (h : RS a b) (ha : ∀ x, 1 ≤ x → x ≤ 166 → (x < 3 ∨ 15 ≤ x) → a2 x = a x) (hC : CR a2 3 (b2 168) (b 168 95)) (hS : SC a2 3) (hK : ∀ j, 95 ≤ j → j < 382 → b2 168 j = b 168 j) (h9 : b2 169 = b 169) (h0 : b2 170 = b 170) : RS a2 b2 := by
  have hp := h.2.1.1
  refine h.one (fun x h1 h2 => ha x (by omega) (by omega) (by omega)) (fun c hc => ?_) (PS_fr (ha 2 (by omega) (by omega) (by omega)) hp) ?_ h9 h0
  · by_cases e : c = 3
    · subst e
      exact hS.1
    · have h1 := cn_cn hc cn3 e
      have h2 := cn_lt hc
      exact CI_fr (fun i hi => ha _ (by omega) (by omega) (by omega)) (h.1 c hc)
  · refine SR.now hp h.2.2.2.1 (fun x h1 h2 h3 => ha x (by omega) (by omega) (by omega)) (CR_y hC (hK 95 (by omega) (by omega)).symm) hS (hK 95 (by omega) (by omega)) (fun j h1 h2 => hK j (by omega) h2)
def RT (a b : gM) : Prop := a 151 0 = b 167 13 ∧ TXo (a 152) (a 151 0) ∧ a 152 = b 177
def RF (a b : gM) : Prop := a 154 0 = b 167 4 ∧ a 154 1 = b 167 5
def RC (a b : gM) : Prop := a 0 6 = b 171 0 ∧ a 0 7 = b 171 1 ∧ a 0 8 = b 171 2
def Rel (a b : gM) : Prop := RS a b ∧ RT a b ∧ RF a b ∧ RC a b
/-- what of the class's memory, what of the model's, is shown -/
def csm (a a2 : gM) : Prop := (∀ x, x ≤ 150 → a2 x = a x) ∧ CI a2 155 ∧ a2 151 0 = a 151 0 ∧ a2 152 = a 152 ∧ a2 154 = a 154
def msm (b b2 : gM) : Prop := (b2 168 = b 168 ∧ b2 169 = b 169 ∧ b2 170 = b 170 ∧ b2 171 = b 171 ∧ b2 177 = b 177) ∧ b2 167 4 = b 167 4 ∧ b2 167 5 = b 167 5 ∧ b2 167 13 = b 167 13
theorem msm.refl (b : gM) : msm b b := ⟨⟨rfl, rfl, rfl, rfl, rfl⟩, rfl, rfl, rfl⟩
theorem csm.refl {a : gM} (h : AI a) : csm a a := ⟨fun _ _ => rfl, h _ cn155, rfl, rfl, rfl⟩
theorem msm.trans {a b c : gM} (h : msm a b) (k : msm b c) : msm a c := by
  obtain ⟨⟨h1, h2, h3, h4, h5⟩, h6, h7, h8⟩ := h
  obtain ⟨⟨k1, k2, k3, k4, k5⟩, k6, k7, k8⟩ := k
  exact ⟨⟨k1.trans h1, k2.trans h2, k3.trans h3, k4.trans h4, k5.trans h5⟩, k6.trans h6, k7.trans h7, k8.trans h8⟩
theorem Rel.ai {a b : gM} (h : Rel a b) : AI a := h.1.1
theorem Rel.cg {a a2 b b2 : gM} (h : Rel a b) (ha : csm a a2) (hb : msm b b2) : Rel a2 b2 := by
  obtain ⟨h1, h2, h3, h4⟩ := h
  obtain ⟨c1, c2, c3, c4, c5⟩ := ha
  obtain ⟨⟨d1, d2, d3, d4, d5⟩, d6, d7, d8⟩ := hb
  refine ⟨h1.fr (fun x _ q => c1 x q) c2 d1 d2 d3, ?_, ?_, ?_⟩
  · unfold RT
    rw [c3, c4, d8, d5]
    exact h2
  · unfold RF
    rw [c5, d6, d7]
    exact h3
  · unfold RC
    rw [c1 0 (by omega), d4]
    exact h4
theorem Rel.rbad {a b : gM} (h : Rel a b) : Rel (bad a) (rb b) := by
  obtain ⟨h1, h2, h3, h4⟩ := h
  refine ⟨h1.fr (fun x q _ => wr_o (by omega)) (CI_fr (fun i hi => wr_o (by omega)) (h1.1 _ cn155)) (wr_o (by omega)) (wr_o (by omega)) (wr_o (by omega)), ?_, ?_, ?_⟩
  · unfold RT bad rb
    rw [wr_o (by omega), wr_o (by omega), wr_o (by omega), wr_o (by omega)]
    exact h2
  · unfold RF bad rb
    rw [wr_o (by omega), wr_o (by omega)]
    exact h3
  · unfold RC bad rb
    rw [wr_s, wr_s, wr_n (by omega), wr_n (by omega), wr_n (by omega), wr_n (by omega), h4.1]
    exact ⟨rfl, h4.2⟩
theorem Rel.rno {a b : gM} (h : Rel a b) : Rel (nop a) (rn b) := by
  obtain ⟨h1, h2, h3, h4⟩ := h
  refine ⟨h1.fr (fun x q _ => wr_o (by omega)) (CI_fr (fun i hi => wr_o (by omega)) (h1.1 _ cn155)) (wr_o (by omega)) (wr_o (by omega)) (wr_o (by omega)), ?_, ?_, ?_⟩
  · unfold RT nop rn
    rw [wr_o (by omega), wr_o (by omega), wr_o (by omega), wr_o (by omega)]
    exact h2
  · unfold RF nop rn
    rw [wr_o (by omega), wr_o (by omega)]
    exact h3
  · unfold RC nop rn
    rw [wr_s, wr_s, wr_n (by omega), wr_n (by omega), wr_n (by omega), wr_n (by omega), h4.2.1]
    exact ⟨h4.1, rfl, h4.2.2⟩
theorem Rel.rful {a b : gM} (h : Rel a b) : Rel (ful a) (rf b) := by
  obtain ⟨h1, h2, h3, h4⟩ := h
  refine ⟨h1.fr (fun x q _ => wr_o (by omega)) (CI_fr (fun i hi => wr_o (by omega)) (h1.1 _ cn155)) (wr_o (by omega)) (wr_o (by omega)) (wr_o (by omega)), ?_, ?_, ?_⟩
  · unfold RT ful rf
    rw [wr_o (by omega), wr_o (by omega), wr_o (by omega), wr_o (by omega)]
    exact h2
  · unfold RF ful rf
    rw [wr_o (by omega), wr_o (by omega)]
    exact h3
  · unfold RC ful rf
    rw [wr_s, wr_s, wr_n (by omega), wr_n (by omega), wr_n (by omega), wr_n (by omega), h4.2.2]
    exact ⟨h4.1, h4.2.1, rfl⟩
theorem Rel.frac {a b : gM} (h : Rel a b) (x y : Int) : Rel (frc a x y) (frm b x y) := by
  obtain ⟨h1, h2, h3, h4⟩ := h
  have m13 : frm b x y 167 13 = b 167 13 := by
    unfold frm
    rw [wr_n (by omega), wr_n (by omega)]
  refine ⟨h1.fr (fun x q _ => frc_o (by omega)) (CI_fr (fun i hi => frc_o (by omega)) (h1.1 _ cn155)) (frm_o (by omega)) (frm_o (by omega)) (frm_o (by omega)), ?_, ?_, ?_⟩
  · unfold RT
    rw [m13, frc_o (by omega), frc_o (by omega), frm_o (by omega)]
    exact h2
  · constructor <;> simp [frc, frm, wr]
  · unfold RC
    rw [frc_o (by omega), frm_o (by omega)]
    exact h4
/-- the model leaves the class's cells, the class the model's -/
def MF (a a2 : gM) : Prop := ∀ x, 167 ≤ x → a2 x = a x
def CF (a a2 : gM) : Prop := ∀ x, x < 167 → a2 x = a x
theorem MF.ms {a a2 : gM} (h : MF a a2) : msm a a2 := by
  have e := h 167 (by omega)
  exact ⟨⟨h _ (by omega), h _ (by omega), h _ (by omega), h _ (by omega), h _ (by omega)⟩, by rw [e], by rw [e], by rw [e]⟩
theorem CF.cs {a a2 : gM} (h : CF a a2) (hI : AI a) : csm a a2 := ⟨fun x q => h x (by omega), CI_fr (fun i hi => h _ (by omega)) (hI _ cn155), by rw [h 151 (by omega)], h _ (by omega), h _ (by omega)⟩
/-- the end of a call of both: class part done first, then the model's -/
theorem Rel.fin {a b : gM} (h : Rel a b) (hc : CF a b) : Rel b b := h.cg (hc.cs h.ai) (msm.refl b)
theorem Rel.mf {a a2 : gM} (h : Rel a a) (hm : MF a a2) : Rel a a2 := h.cg (csm.refl h.ai) hm.ms
theorem MF_wr {a : gM} {c : Nat} {i x : Int} (h : c < 167) : MF a (wr a c i x) := fun y hy => wr_o (by omega)
theorem MF.trans {a b c : gM} (h : MF a b) (k : MF b c) : MF a c := fun x hx => (k x hx).trans (h x hx)
theorem CF.trans {a b c : gM} (h : CF a b) (k : CF b c) : CF a c := fun x hx => (k x hx).trans (h x hx)
theorem MF_bad (a : gM) : MF a (bad a) := MF_wr (by omega)
theorem MF_nop (a : gM) : MF a (nop a) := MF_wr (by omega)
theorem MF_ful (a : gM) : MF a (ful a) := MF_wr (by omega)
theorem MF_frc (a : gM) (x y : Int) : MF a (frc a x y) := fun z hz => frc_o (by omega)
theorem MF_refl (a : gM) : MF a a := fun _ _ => rfl
theorem CF_refl (a : gM) : CF a a := fun _ _ => rfl
theorem CF_wr {a : gM} {c : Nat} {i x : Int} (h : 167 ≤ c) : CF a (wr a c i x) := fun y hy => wr_o (by omega)
theorem CF_rb (a : gM) : CF a (rb a) := CF_wr (by omega)
theorem CF_rn (a : gM) : CF a (rn a) := CF_wr (by omega)
theorem CF_rf (a : gM) : CF a (rf a) := CF_wr (by omega)
theorem CF_tkN (a : gM) : CF a (tkN a) := fun x hx => tkN_o (by omega) (by omega)
theorem CF_frm (a : gM) (x y : Int) : CF a (frm a x y) := fun z hz => frm_o (by omega)
theorem CF_rw {a : gM} {c : Nat} {K : Int → Int} (h : 167 ≤ c) : CF a (rw_ a c K) := fun y hy => rw_o (by omega)
theorem MF_BC {a a2 : gM} {c o : Nat} (h : BC a a2 c o) (hc : c + 12 ≤ 167) : MF a a2 := fun x hx => h.fr (by omega)
theorem msm_tkN (b : gM) : msm b (tkN b) := by
  have e := tkN_o (μ := b) (a := 167) (by omega) (by omega)
  exact ⟨⟨tkN_o (by omega) (by omega), tkN_o (by omega) (by omega), tkN_o (by omega) (by omega), tkN_o (by omega) (by omega), tkN_o (by omega) (by omega)⟩, by rw [e], by rw [e], by rw [e]⟩
theorem csm_BC {a a2 : gM} {o : Nat} (h : BC a a2 155 o) : csm a a2 := ⟨fun x q => h.fr (by omega), h.ci, by rw [h.fr (by omega)], h.fr (by omega), h.fr (by omega)⟩
/-- what the calls ask of both -/
theorem Rel.ci {a b : gM} (h : Rel a b) : CI a 3 := h.ai 3 cn3
theorem Rel.sc {a b : gM} (h : Rel a b) : SC a 3 := h.1.2.2.2.1.2.1
theorem Rel.cr {a b : gM} (h : Rel a b) : CR a 3 (b 168) (b 168 95) := h.1.2.2.2.1.1
theorem Rel.nw {a b : gM} (h : Rel a b) : NW b (vw a 3) (a 3 0) (a 3 1) := CR_NW h.cr h.ci
theorem Rel.fc {a b : gM} (h : Rel a b) : 0 < a 3 1 → 0 < fC (vw a 3) (a 3 1) := fun q => SC_pos h.sc q
theorem Rel.h9 {a b : gM} (h : Rel a b) : ∀ i, 0 ≤ i → i < 4 * a 3 0 → vw a 3 3 i ≤ 9 := h.sc.2.1
theorem Rel.n {a b : gM} (h : Rel a b) : b 168 93 = a 3 0 ∧ (0 ≤ a 3 0 ∧ a 3 0 ≤ 7) := ⟨h.cr.1.1.symm, CI_roofs h.ci⟩
theorem Rel.m {a b : gM} (h : Rel a b) : b 168 94 = a 3 1 ∧ (0 ≤ a 3 1 ∧ a 3 1 ≤ 6) := ⟨h.cr.1.2.1.symm, CI_storms h.ci⟩
theorem Rel.u {a b : gM} (h : Rel a b) : a 1 1 = b 168 96 ∧ (0 ≤ a 1 1 ∧ a 1 1 ≤ 3) := by
  have := h.1.2.2.2.1.2.2.1
  omega
theorem Rel.y {a b : gM} (h : Rel a b) : a 3 2 = b 168 95 := h.cr.1.2.2
