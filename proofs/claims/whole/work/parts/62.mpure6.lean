theorem kYq_h0 {K : Int → Int} {v : gV} {r i : Int} (h : r ≤ 7) (hi : 56 ≤ i) : kYq K v r 0 i = K i := by
  unfold kYq
  rw [if_neg (by omega), if_neg (by omega), if_neg (by omega)]
theorem rw_rw {μ : gM} {a : Nat} {K K2 : Int → Int} : rw_ (rw_ μ a K) a K2 = rw_ μ a K2 := by
  funext b
  unfold rw_
  split <;> rfl
theorem rw_e {μ : gM} {a : Nat} {K : Int → Int} (h : μ a = K) : rw_ μ a K = μ := by
  subst h
  exact rw_i
def cntm (μ : gM) (w : Int) : Int := if w = 0 then μ 168 93 else if w = 1 then μ 168 94 else if w = 2 then sI (fun k => μ 168 (86 + k)) 7 else if w = 3 then μ 168 95 else if w = 4 then μ 168 96 else μ 167 13
def sms (μ : gM) (h f c : Int) : Int := itI (fun k x => 31 * x + (iI (μ 168 (f + k))).toInt) h c
def dgm (μ : gM) : Int := 31 * (31 * sms μ (sms μ (sms μ (itI (fun k x => 31 * x + (iI (cntm μ k)).toInt) 719 6) 0 (8 * μ 168 93)) 56 (5 * μ 168 94)) 86 7 + μ 167 4) + μ 167 5
