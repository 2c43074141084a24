/-! constructors that call constructors -/
section IMORE
variable {D : va_G} {J : gJ} {l : Launch} {Y : gY} {rm : Room} {h0 : Nat} {E : (Nat → Nat) → va_W} {pc : Nat} {st : List Value} {ws : va_W} {k n : Nat}
theorem i_aastk {a q : Nat} {v : Int32} {N i : Nat} {f : Nat → Option Nat} {vs : List Value} {ws2 : va_W} (qa qk : Nat) (hi : v.toNatClampNeg = i) (ha : ws[qa]? = some (a, .inl (J.2.2, N, .inr (.inr (.inr (.inr f)))))) (hq : ws[qk]? = some (q, .inr (0, vs))) (hin : vp_in v N) (hd : decode Y.2.1 pc = .ok (.aastore, 1)) (hw : ws.set qa (a, .inl (J.2.2, N, .inr (.inr (.inr (.inr (va_up f i (some q))))))) = ws2) (kk : WI D J l Y rm h0 E (pc + 1) st ws2 k n) : WI D J l Y rm h0 E pc (.ref q :: .int v :: .ref a :: st) ws k n := by
  subst hi
  exact i_aast qa qk ha hq hin hd hw kk
theorem cell_q {cA : ClassId} {N : Nat} {f f2 : Nat → Option Nat} (h : ∀ k, k < N → f k = f2 k) : vp_cell cA (N, .inr (.inr (.inr (.inr f)))) = vp_cell cA (N, .inr (.inr (.inr (.inr f2)))) := by
  rw [vp_cell_q, vp_cell_q]
  unfold arrV
  have e : (fun j : Fin N => va_rf (f j.val)) = (fun j : Fin N => va_rf (f2 j.val)) := funext fun j => by rw [h j.val j.isLt]
  rw [e]
theorem i_arr {a N : Nat} {cA : ClassId} {f f2 : Nat → Option Nat} {ws2 : va_W} (qa : Nat) (ha : ws[qa]? = some (a, .inl (cA, N, .inr (.inr (.inr (.inr f)))))) (hf : ∀ k, k < N → f k = f2 k) (hw : ws.set qa (a, .inl (cA, N, .inr (.inr (.inr (.inr f2))))) = ws2) (kk : WI D J l Y rm h0 E pc st ws2 k n) : WI D J l Y rm h0 E pc st ws k n := by
  subst hw
  intro p e s m args below meth c H locs ls A C h1 h2 hP hD hS
  have hl := (List.getElem?_eq_some_iff.mp ha).1
  have key : ∀ (i : Nat) (x : Nat × va_E), (ws.set qa (a, .inl (cA, N, .inr (.inr (.inr (.inr f2))))))[i]? = some x → ∃ y, ws[i]? = some y ∧ y.1 = x.1 ∧ (va_at D vwCl y H → va_at D vwCl x H) := by
    intro i x hx
    by_cases hi : i = qa
    · subst hi
      rw [List.getElem?_set_self hl] at hx
      cases hx
      refine ⟨_, ha, rfl, fun z => ?_⟩
      have z2 : H[a]? = some (vp_cell cA (N, .inr (.inr (.inr (.inr f))))) := z
      show H[a]? = some (vp_cell cA (N, .inr (.inr (.inr (.inr f2)))))
      rw [z2, cell_q hf]
    · rw [List.getElem?_set_ne (Ne.symm hi)] at hx
      exact ⟨x, hx, rfl, fun z => z⟩
  refine kk p e s m args below meth c H locs ls A C h1 h2 (fun i x hx => ?_) ⟨fun i j x y hi hj hxy => ?_, fun i x hx => ?_⟩ hS
  · obtain ⟨y, g1, g2, g3⟩ := key i x hx
    exact g3 (hP i y g1)
  · obtain ⟨x', g1, g2, g3⟩ := key i x hi
    obtain ⟨y', f1, f2, f3⟩ := key j y hj
    exact hD.1 i j x' y' g1 f1 (by rw [g2, f2]; exact hxy)
  · obtain ⟨y, g1, g2, g3⟩ := key i x hx
    rw [← g2]
    exact hD.2 i y g1
end IMORE
theorem eCan_cg {J : gJ} {f f2 : Nat → Nat} (h : ∀ i, i < 12 → f i = f2 i) : eCan J f = eCan J f2 := by
  simp only [eCan, h 0 (by decide), h 1 (by decide), h 2 (by decide), h 3 (by decide), h 4 (by decide), h 5 (by decide), h 6 (by decide), h 7 (by decide), h 8 (by decide), h 9 (by decide), h 10 (by decide), h 11 (by decide)]
theorem eFra_cg {J : gJ} {f f2 : Nat → Nat} (h : ∀ i, i < 1 → f i = f2 i) : eFra J f = eFra J f2 := by
  simp only [eFra, h 0 (by decide)]
theorem eRdr_cg {J : gJ} {f f2 : Nat → Nat} (h : ∀ i, i < 3 → f i = f2 i) : eRdr J f = eRdr J f2 := by
  simp only [eRdr, h 0 (by decide), h 1 (by decide), h 2 (by decide)]
theorem pF_cg {f f2 : Nat → Nat} (h : ∀ i, i < 50 → f i = f2 i) : pF f = pF f2 := by
  funext k
  simp only [pF, h 14 (by decide), h 26 (by decide), h 38 (by decide)]
theorem eSto_cg {J : gJ} {f f2 : Nat → Nat} (h : ∀ i, i < 50 → f i = f2 i) : eSto J f = eSto J f2 := by
  unfold eSto
  rw [eCan_cg (f := fun i => f (2 + i)) (f2 := fun i => f2 (2 + i)) (fun i hi => h _ (by omega)), eCan_cg (f := fun i => f (14 + i)) (f2 := fun i => f2 (14 + i)) (fun i hi => h _ (by omega)), eCan_cg (f := fun i => f (26 + i)) (f2 := fun i => f2 (26 + i)) (fun i hi => h _ (by omega)), eCan_cg (f := fun i => f (38 + i)) (f2 := fun i => f2 (38 + i)) (fun i hi => h _ (by omega)), pF_cg h, h 0 (by decide), h 1 (by decide), h 2 (by decide)]
theorem cli3_9 : Cond.classLink RX3 9 RX0 ∈ lw_gt := gt_i 82 (by decide +kernel) rfl
theorem cli4_7 : Cond.classLink RX4 7 RX3 ∈ lw_gt := gt_i 76 (by decide +kernel) rfl
theorem cli4_22 : Cond.classLink RX4 22 RX2 ∈ lw_gt := gt_i 159 (by decide +kernel) rfl
theorem cli4_29 : Cond.classLink RX4 29 RX1 ∈ lw_gt := gt_i 185 (by decide +kernel) rfl
theorem cli4_36 : Cond.classLink RX4 36 RX0 ∈ lw_gt := gt_i 200 (by decide +kernel) rfl
def fSto (h0 a : Nat) (f1 f2 f3 f4 : Nat → Nat) (i : Nat) : Nat := if i = 0 then h0 else if i = 1 then a else if i < 14 then f1 (i - 2) else if i < 26 then f2 (i - 14) else if i < 38 then f3 (i - 26) else f4 (i - 38)
theorem fSto_1 {h0 a : Nat} {f1 f2 f3 f4 : Nat → Nat} (i : Nat) (hi : i < 12) : fSto h0 a f1 f2 f3 f4 (2 + i) = f1 i := by
  unfold fSto
  rw [if_neg (by omega), if_neg (by omega), if_pos (by omega), show 2 + i - 2 = i by omega]
theorem fSto_2 {h0 a : Nat} {f1 f2 f3 f4 : Nat → Nat} (i : Nat) (hi : i < 12) : fSto h0 a f1 f2 f3 f4 (14 + i) = f2 i := by
  unfold fSto
  rw [if_neg (by omega), if_neg (by omega), if_neg (by omega), if_pos (by omega), show 14 + i - 14 = i by omega]
theorem fSto_3 {h0 a : Nat} {f1 f2 f3 f4 : Nat → Nat} (i : Nat) (hi : i < 12) : fSto h0 a f1 f2 f3 f4 (26 + i) = f3 i := by
  unfold fSto
  rw [if_neg (by omega), if_neg (by omega), if_neg (by omega), if_neg (by omega), if_pos (by omega), show 26 + i - 26 = i by omega]
theorem fSto_4 {h0 a : Nat} {f1 f2 f3 f4 : Nat → Nat} (i : Nat) (hi : i < 12) : fSto h0 a f1 f2 f3 f4 (38 + i) = f4 i := by
  unfold fSto
  rw [if_neg (by omega), if_neg (by omega), if_neg (by omega), if_neg (by omega), if_neg (by omega), show 38 + i - 38 = i by omega]
theorem eSto_of {J : gJ} {h0 a : Nat} {f1 f2 f3 f4 : Nat → Nat} : (h0, .inr (3, [.ref (f1 0), .int 0, .int 0, .ref a])) :: (a, aP J (pF (fSto h0 a f1 f2 f3 f4))) :: (eCan J f1 ++ (eCan J f2 ++ (eCan J f3 ++ eCan J f4))) = eSto J (fSto h0 a f1 f2 f3 f4) := by
  unfold eSto
  rw [eCan_cg (fun i hi => fSto_1 (h0 := h0) (a := a) (f1 := f1) (f2 := f2) (f3 := f3) (f4 := f4) i hi), eCan_cg (fun i hi => fSto_2 (h0 := h0) (a := a) (f1 := f1) (f2 := f2) (f3 := f3) (f4 := f4) i hi), eCan_cg (fun i hi => fSto_3 (h0 := h0) (a := a) (f1 := f1) (f2 := f2) (f3 := f3) (f4 := f4) i hi), eCan_cg (fun i hi => fSto_4 (h0 := h0) (a := a) (f1 := f1) (f2 := f2) (f3 := f3) (f4 := f4) i hi)]
  rfl
set_option maxRecDepth 100000 in
set_option maxHeartbeats 4000000 in
theorem n_X3 {D : va_G} {J : gJ} {l : Launch} : IT D J l Yi3 rSto (eSto J) c0S := by
  refine IT.of (by decide) rfl rfl (fun h0 => ?_)
  refine i_aload rfl dX3_init_0 ?_
  refine i_obj obi3 (Nat.le_of_ble_eq_true rfl) (Nat.le_of_ble_eq_true rfl) dX3_init_1 ?_
  refine i_aload rfl dX3_init_4 ?_
  refine i_new (ci := 0) (Cn := RX0) (T := TX0) (N := 14) (tyf := tyX0) [.int 0, .int 0, .int 0, .null, .null, .null, .null, .null, .null, .null, .null, .null, .null, .null] rfl inG0 tyX0_ok cli3_9 ist0 ini0 dfi0 (Nat.le_of_ble_eq_true rfl) (Nat.le_of_ble_eq_true rfl) dX3_init_5 (fun q1 => ?_)
  refine i_dup rfl dX3_init_8 ?_
  refine i_call n_X0 cdi0 rfl rfl imi0 ini0 ⟨by decide +kernel, by decide +kernel, by decide +kernel⟩ (fun s h => h.2.2.1) ⟨(Nat.le_of_ble_eq_true rfl), (Nat.le_of_ble_eq_true rfl)⟩ (Nat.le_of_ble_eq_true rfl) (Nat.le_of_ble_eq_true rfl) (Nat.le_of_ble_eq_true rfl) dX3_init_9 (fun f1 ef1 => ?_)
  subst ef1
  refine i_putF (kf := 0) (ci := 3) (T := TX3) (N := 4) (tyf := tyX3) (fs := [.null, .int 0, .int 0, .null]) (w := eCan J f1) rfl inG3 tyX3_ok nmX3 (by decide) rfl rfl fl_X3_12 rfl rfl (Nat.le_of_ble_eq_true rfl) dX3_init_12 ?_
  refine i_aload rfl dX3_init_15 ?_
  refine i_iconst 3 dX3_init_16 rfl ?_
  refine i_newq 3 (by decide) (by decide) (by decide) cli3_9 (Nat.le_of_ble_eq_true rfl) (Nat.le_of_ble_eq_true rfl) dX3_init_17 (fun a => ?_)
  refine i_dup rfl dX3_init_20 ?_
  refine i_iconst 0 dX3_init_21 rfl ?_
  refine i_new (ci := 0) (Cn := RX0) (T := TX0) (N := 14) (tyf := tyX0) [.int 0, .int 0, .int 0, .null, .null, .null, .null, .null, .null, .null, .null, .null, .null, .null] rfl inG0 tyX0_ok cli3_9 ist0 ini0 dfi0 (Nat.le_of_ble_eq_true rfl) (Nat.le_of_ble_eq_true rfl) dX3_init_22 (fun q2 => ?_)
  refine i_dup rfl dX3_init_25 ?_
  refine i_call n_X0 cdi0 rfl rfl imi0 ini0 ⟨by decide +kernel, by decide +kernel, by decide +kernel⟩ (fun s h => h.2.2.1) ⟨(Nat.le_of_ble_eq_true rfl), (Nat.le_of_ble_eq_true rfl)⟩ (Nat.le_of_ble_eq_true rfl) (Nat.le_of_ble_eq_true rfl) (Nat.le_of_ble_eq_true rfl) dX3_init_26 (fun f2 ef2 => ?_)
  subst ef2
  refine i_aastk (ws2 := (h0, .inr (3, [.ref (f1 0), .int 0, .int 0, .null])) :: (eCan J f1 ++ ((a, aP J (va_up (fun _ => none) 0 (some (f2 0)))) :: eCan J f2))) (f := (fun _ => none)) 13 14 (i := 0) (by decide) rfl rfl (by unfold vp_in; decide) dX3_init_29 rfl ?_
  refine i_dup rfl dX3_init_30 ?_
  refine i_iconst 1 dX3_init_31 rfl ?_
  refine i_new (ci := 0) (Cn := RX0) (T := TX0) (N := 14) (tyf := tyX0) [.int 0, .int 0, .int 0, .null, .null, .null, .null, .null, .null, .null, .null, .null, .null, .null] rfl inG0 tyX0_ok cli3_9 ist0 ini0 dfi0 (Nat.le_of_ble_eq_true rfl) (Nat.le_of_ble_eq_true rfl) dX3_init_32 (fun q3 => ?_)
  refine i_dup rfl dX3_init_35 ?_
  refine i_call n_X0 cdi0 rfl rfl imi0 ini0 ⟨by decide +kernel, by decide +kernel, by decide +kernel⟩ (fun s h => h.2.2.1) ⟨(Nat.le_of_ble_eq_true rfl), (Nat.le_of_ble_eq_true rfl)⟩ (Nat.le_of_ble_eq_true rfl) (Nat.le_of_ble_eq_true rfl) (Nat.le_of_ble_eq_true rfl) dX3_init_36 (fun f3 ef3 => ?_)
  subst ef3
  refine i_aastk (ws2 := (h0, .inr (3, [.ref (f1 0), .int 0, .int 0, .null])) :: (eCan J f1 ++ ((a, aP J (va_up (va_up (fun _ => none) 0 (some (f2 0))) 1 (some (f3 0)))) :: (eCan J f2 ++ eCan J f3)))) (f := (va_up (fun _ => none) 0 (some (f2 0)))) 13 26 (i := 1) (by decide) rfl rfl (by unfold vp_in; decide) dX3_init_39 rfl ?_
  refine i_dup rfl dX3_init_40 ?_
  refine i_iconst 2 dX3_init_41 rfl ?_
  refine i_new (ci := 0) (Cn := RX0) (T := TX0) (N := 14) (tyf := tyX0) [.int 0, .int 0, .int 0, .null, .null, .null, .null, .null, .null, .null, .null, .null, .null, .null] rfl inG0 tyX0_ok cli3_9 ist0 ini0 dfi0 (Nat.le_of_ble_eq_true rfl) (Nat.le_of_ble_eq_true rfl) dX3_init_42 (fun q4 => ?_)
  refine i_dup rfl dX3_init_45 ?_
  refine i_call n_X0 cdi0 rfl rfl imi0 ini0 ⟨by decide +kernel, by decide +kernel, by decide +kernel⟩ (fun s h => h.2.2.1) ⟨(Nat.le_of_ble_eq_true rfl), (Nat.le_of_ble_eq_true rfl)⟩ (Nat.le_of_ble_eq_true rfl) (Nat.le_of_ble_eq_true rfl) (Nat.le_of_ble_eq_true rfl) dX3_init_46 (fun f4 ef4 => ?_)
  subst ef4
  refine i_aastk (ws2 := (h0, .inr (3, [.ref (f1 0), .int 0, .int 0, .null])) :: (eCan J f1 ++ ((a, aP J (va_up (va_up (va_up (fun _ => none) 0 (some (f2 0))) 1 (some (f3 0))) 2 (some (f4 0)))) :: ((eCan J f2 ++ eCan J f3) ++ eCan J f4)))) (f := (va_up (va_up (fun _ => none) 0 (some (f2 0))) 1 (some (f3 0)))) 13 38 (i := 2) (by decide) rfl rfl (by unfold vp_in; decide) dX3_init_49 rfl ?_
  refine i_putF (kf := 3) (ci := 3) (T := TX3) (N := 4) (tyf := tyX3) (fs := [.ref (f1 0), .int 0, .int 0, .null]) (w := eCan J f1 ++ ((a, aP J (va_up (va_up (va_up (fun _ => none) 0 (some (f2 0))) 1 (some (f3 0))) 2 (some (f4 0)))) :: ((eCan J f2 ++ eCan J f3) ++ eCan J f4))) rfl inG3 tyX3_ok nmX3 (by decide) rfl rfl fl_X3_18 rfl rfl (Nat.le_of_ble_eq_true rfl) dX3_init_50 ?_
  refine i_sub (ws2 := (h0, .inr (3, [.ref (f1 0), .int 0, .int 0, .ref a])) :: (a, aP J (va_up (va_up (va_up (fun _ => none) 0 (some (f2 0))) 1 (some (f3 0))) 2 (some (f4 0)))) :: (eCan J f1 ++ (eCan J f2 ++ (eCan J f3 ++ eCan J f4)))) [0, 13, 1, 2, 3, 4, 5, 6, 7, 8, 9, 10, 11, 12, 14, 15, 16, 17, 18, 19, 20, 21, 22, 23, 24, 25, 26, 27, 28, 29, 30, 31, 32, 33, 34, 35, 36, 37, 38, 39, 40, 41, 42, 43, 44, 45, 46, 47, 48, 49] rfl (by decide) ?_
  refine i_arr (ws2 := (h0, .inr (3, [.ref (f1 0), .int 0, .int 0, .ref a])) :: (a, aP J (pF (fSto h0 a f1 f2 f3 f4))) :: (eCan J f1 ++ (eCan J f2 ++ (eCan J f3 ++ eCan J f4)))) (f := (va_up (va_up (va_up (fun _ => none) 0 (some (f2 0))) 1 (some (f3 0))) 2 (some (f4 0)))) (f2 := pF (fSto h0 a f1 f2 f3 f4)) 1 rfl (fun k hk => by rcases (show k = 0 ∨ k = 1 ∨ k = 2 by omega) with rfl | rfl | rfl <;> rfl) rfl ?_
  exact i_ret (fSto h0 a f1 f2 f3 f4) rfl eSto_of rfl (Nat.le_of_ble_eq_true rfl) (Nat.le_of_ble_eq_true rfl) dX3_init_53
def fHV (h0 : Nat) (f1 f2 f3 f4 f5 f6 : Nat → Nat) (i : Nat) : Nat := if i = 0 then h0 else if i < 51 then f1 (i - 1) else if i < 101 then f2 (i - 51) else if i < 151 then f3 (i - 101) else if i < 154 then f4 (i - 151) else if i < 155 then f5 (i - 154) else f6 (i - 155)
theorem fHV_1 {h0 : Nat} {f1 f2 f3 f4 f5 f6 : Nat → Nat} (i : Nat) (hi : i < 50) : fHV h0 f1 f2 f3 f4 f5 f6 (1 + i) = f1 i := by
  unfold fHV
  rw [if_neg (by omega), if_pos (by omega), show 1 + i - 1 = i by omega]
theorem fHV_2 {h0 : Nat} {f1 f2 f3 f4 f5 f6 : Nat → Nat} (i : Nat) (hi : i < 50) : fHV h0 f1 f2 f3 f4 f5 f6 (51 + i) = f2 i := by
  unfold fHV
  rw [if_neg (by omega), if_neg (by omega), if_pos (by omega), show 51 + i - 51 = i by omega]
theorem fHV_3 {h0 : Nat} {f1 f2 f3 f4 f5 f6 : Nat → Nat} (i : Nat) (hi : i < 50) : fHV h0 f1 f2 f3 f4 f5 f6 (101 + i) = f3 i := by
  unfold fHV
  rw [if_neg (by omega), if_neg (by omega), if_neg (by omega), if_pos (by omega), show 101 + i - 101 = i by omega]
theorem fHV_4 {h0 : Nat} {f1 f2 f3 f4 f5 f6 : Nat → Nat} (i : Nat) (hi : i < 3) : fHV h0 f1 f2 f3 f4 f5 f6 (151 + i) = f4 i := by
  unfold fHV
  rw [if_neg (by omega), if_neg (by omega), if_neg (by omega), if_neg (by omega), if_pos (by omega), show 151 + i - 151 = i by omega]
theorem fHV_5 {h0 : Nat} {f1 f2 f3 f4 f5 f6 : Nat → Nat} (i : Nat) (hi : i < 1) : fHV h0 f1 f2 f3 f4 f5 f6 (154 + i) = f5 i := by
  unfold fHV
  rw [if_neg (by omega), if_neg (by omega), if_neg (by omega), if_neg (by omega), if_neg (by omega), if_pos (by omega), show 154 + i - 154 = i by omega]
theorem fHV_6 {h0 : Nat} {f1 f2 f3 f4 f5 f6 : Nat → Nat} (i : Nat) (hi : i < 12) : fHV h0 f1 f2 f3 f4 f5 f6 (155 + i) = f6 i := by
  unfold fHV
  rw [if_neg (by omega), if_neg (by omega), if_neg (by omega), if_neg (by omega), if_neg (by omega), if_neg (by omega), show 155 + i - 155 = i by omega]
theorem eHV_of {J : gJ} {h0 : Nat} {f1 f2 f3 f4 f5 f6 : Nat → Nat} : (h0, .inr (4, [.ref (f1 0), .ref (f2 0), .ref (f3 0), .ref (f4 0), .ref (f5 0), .ref (f6 0), .int 0, .int 0, .int 0])) :: (((((eSto J f1 ++ eSto J f2) ++ eSto J f3) ++ eRdr J f4) ++ eFra J f5) ++ eCan J f6) = eHV J (fHV h0 f1 f2 f3 f4 f5 f6) := by
  unfold eHV
  rw [eSto_cg (fun i hi => fHV_1 (h0 := h0) (f1 := f1) (f2 := f2) (f3 := f3) (f4 := f4) (f5 := f5) (f6 := f6) i hi), eSto_cg (fun i hi => fHV_2 (h0 := h0) (f1 := f1) (f2 := f2) (f3 := f3) (f4 := f4) (f5 := f5) (f6 := f6) i hi), eSto_cg (fun i hi => fHV_3 (h0 := h0) (f1 := f1) (f2 := f2) (f3 := f3) (f4 := f4) (f5 := f5) (f6 := f6) i hi), eRdr_cg (fun i hi => fHV_4 (h0 := h0) (f1 := f1) (f2 := f2) (f3 := f3) (f4 := f4) (f5 := f5) (f6 := f6) i hi), eFra_cg (fun i hi => fHV_5 (h0 := h0) (f1 := f1) (f2 := f2) (f3 := f3) (f4 := f4) (f5 := f5) (f6 := f6) i hi), eCan_cg (fun i hi => fHV_6 (h0 := h0) (f1 := f1) (f2 := f2) (f3 := f3) (f4 := f4) (f5 := f5) (f6 := f6) i hi)]
  simp only [List.append_assoc]
  rfl
set_option maxRecDepth 100000 in
set_option maxHeartbeats 4000000 in
theorem n_X4 {D : va_G} {J : gJ} {l : Launch} : IT D J l Yi4 rHV (eHV J) c0H := by
  refine IT.of (by decide) rfl rfl (fun h0 => ?_)
  refine i_aload rfl dX4_init_0 ?_
  refine i_obj obi4 (Nat.le_of_ble_eq_true rfl) (Nat.le_of_ble_eq_true rfl) dX4_init_1 ?_
  refine i_aload rfl dX4_init_4 ?_
  refine i_new (ci := 3) (Cn := RX3) (T := TX3) (N := 4) (tyf := tyX3) [.null, .int 0, .int 0, .null] rfl inG3 tyX3_ok cli4_7 ist3 ini3 dfi3 (Nat.le_of_ble_eq_true rfl) (Nat.le_of_ble_eq_true rfl) dX4_init_5 (fun q1 => ?_)
  refine i_dup rfl dX4_init_8 ?_
  refine i_call n_X3 cdi3 rfl rfl imi3 ini3 ⟨by decide +kernel, by decide +kernel, by decide +kernel⟩ (fun s h => h.2.2.2.1) ⟨(Nat.le_of_ble_eq_true rfl), (Nat.le_of_ble_eq_true rfl)⟩ (Nat.le_of_ble_eq_true rfl) (Nat.le_of_ble_eq_true rfl) (Nat.le_of_ble_eq_true rfl) dX4_init_9 (fun f1 ef1 => ?_)
  subst ef1
  refine i_putF (kf := 0) (ci := 4) (T := TX4) (N := 9) (tyf := tyX4) (fs := [.null, .null, .null, .null, .null, .null, .int 0, .int 0, .int 0]) (w := eSto J f1) rfl inG4 tyX4_ok nmX4 (by decide) rfl rfl fl_X4_10 rfl rfl (Nat.le_of_ble_eq_true rfl) dX4_init_12 ?_
  refine i_aload rfl dX4_init_15 ?_
  refine i_new (ci := 3) (Cn := RX3) (T := TX3) (N := 4) (tyf := tyX3) [.null, .int 0, .int 0, .null] rfl inG3 tyX3_ok cli4_7 ist3 ini3 dfi3 (Nat.le_of_ble_eq_true rfl) (Nat.le_of_ble_eq_true rfl) dX4_init_16 (fun q2 => ?_)
  refine i_dup rfl dX4_init_19 ?_
  refine i_call n_X3 cdi3 rfl rfl imi3 ini3 ⟨by decide +kernel, by decide +kernel, by decide +kernel⟩ (fun s h => h.2.2.2.1) ⟨(Nat.le_of_ble_eq_true rfl), (Nat.le_of_ble_eq_true rfl)⟩ (Nat.le_of_ble_eq_true rfl) (Nat.le_of_ble_eq_true rfl) (Nat.le_of_ble_eq_true rfl) dX4_init_20 (fun f2 ef2 => ?_)
  subst ef2
  refine i_putF (kf := 1) (ci := 4) (T := TX4) (N := 9) (tyf := tyX4) (fs := [.ref (f1 0), .null, .null, .null, .null, .null, .int 0, .int 0, .int 0]) (w := (eSto J f1 ++ eSto J f2)) rfl inG4 tyX4_ok nmX4 (by decide) rfl rfl fl_X4_16 rfl rfl (Nat.le_of_ble_eq_true rfl) dX4_init_23 ?_
  refine i_aload rfl dX4_init_26 ?_
  refine i_new (ci := 3) (Cn := RX3) (T := TX3) (N := 4) (tyf := tyX3) [.null, .int 0, .int 0, .null] rfl inG3 tyX3_ok cli4_7 ist3 ini3 dfi3 (Nat.le_of_ble_eq_true rfl) (Nat.le_of_ble_eq_true rfl) dX4_init_27 (fun q3 => ?_)
  refine i_dup rfl dX4_init_30 ?_
  refine i_call n_X3 cdi3 rfl rfl imi3 ini3 ⟨by decide +kernel, by decide +kernel, by decide +kernel⟩ (fun s h => h.2.2.2.1) ⟨(Nat.le_of_ble_eq_true rfl), (Nat.le_of_ble_eq_true rfl)⟩ (Nat.le_of_ble_eq_true rfl) (Nat.le_of_ble_eq_true rfl) (Nat.le_of_ble_eq_true rfl) dX4_init_31 (fun f3 ef3 => ?_)
  subst ef3
  refine i_putF (kf := 2) (ci := 4) (T := TX4) (N := 9) (tyf := tyX4) (fs := [.ref (f1 0), .ref (f2 0), .null, .null, .null, .null, .int 0, .int 0, .int 0]) (w := ((eSto J f1 ++ eSto J f2) ++ eSto J f3)) rfl inG4 tyX4_ok nmX4 (by decide) rfl rfl fl_X4_19 rfl rfl (Nat.le_of_ble_eq_true rfl) dX4_init_34 ?_
  refine i_aload rfl dX4_init_37 ?_
  refine i_new (ci := 2) (Cn := RX2) (T := TX2) (N := 6) (tyf := tyX2) [.int 0, .null, .null, .int 0, .int 0, .int 0] rfl inG2 tyX2_ok cli4_22 ist2 ini2 dfi2 (Nat.le_of_ble_eq_true rfl) (Nat.le_of_ble_eq_true rfl) dX4_init_38 (fun q4 => ?_)
  refine i_dup rfl dX4_init_41 ?_
  refine i_call n_X2 cdi2 rfl rfl imi2 ini2 ⟨by decide +kernel, by decide +kernel, by decide +kernel⟩ (fun s h => h.2.2.2.2.1) ⟨(Nat.le_of_ble_eq_true rfl), (Nat.le_of_ble_eq_true rfl)⟩ (Nat.le_of_ble_eq_true rfl) (Nat.le_of_ble_eq_true rfl) (Nat.le_of_ble_eq_true rfl) dX4_init_42 (fun f4 ef4 => ?_)
  subst ef4
  refine i_putF (kf := 3) (ci := 4) (T := TX4) (N := 9) (tyf := tyX4) (fs := [.ref (f1 0), .ref (f2 0), .ref (f3 0), .null, .null, .null, .int 0, .int 0, .int 0]) (w := (((eSto J f1 ++ eSto J f2) ++ eSto J f3) ++ eRdr J f4)) rfl inG4 tyX4_ok nmX4 (by decide) rfl rfl fl_X4_25 rfl rfl (Nat.le_of_ble_eq_true rfl) dX4_init_45 ?_
  refine i_aload rfl dX4_init_48 ?_
  refine i_new (ci := 1) (Cn := RX1) (T := TX1) (N := 2) (tyf := tyX1) [.long 0, .long 0] rfl inG1 tyX1_ok cli4_29 ist1 ini1 dfi1 (Nat.le_of_ble_eq_true rfl) (Nat.le_of_ble_eq_true rfl) dX4_init_49 (fun q5 => ?_)
  refine i_dup rfl dX4_init_52 ?_
  refine i_call n_X1 cdi1 rfl rfl imi1 ini1 ⟨by decide +kernel, by decide +kernel, by decide +kernel⟩ (fun s h => h.2.2.2.2.2.1) ⟨(Nat.le_of_ble_eq_true rfl), (Nat.le_of_ble_eq_true rfl)⟩ (Nat.le_of_ble_eq_true rfl) (Nat.le_of_ble_eq_true rfl) (Nat.le_of_ble_eq_true rfl) dX4_init_53 (fun f5 ef5 => ?_)
  subst ef5
  refine i_putF (kf := 4) (ci := 4) (T := TX4) (N := 9) (tyf := tyX4) (fs := [.ref (f1 0), .ref (f2 0), .ref (f3 0), .ref (f4 0), .null, .null, .int 0, .int 0, .int 0]) (w := ((((eSto J f1 ++ eSto J f2) ++ eSto J f3) ++ eRdr J f4) ++ eFra J f5)) rfl inG4 tyX4_ok nmX4 (by decide) rfl rfl fl_X4_32 rfl rfl (Nat.le_of_ble_eq_true rfl) dX4_init_56 ?_
  refine i_aload rfl dX4_init_59 ?_
  refine i_new (ci := 0) (Cn := RX0) (T := TX0) (N := 14) (tyf := tyX0) [.int 0, .int 0, .int 0, .null, .null, .null, .null, .null, .null, .null, .null, .null, .null, .null] rfl inG0 tyX0_ok cli4_36 ist0 ini0 dfi0 (Nat.le_of_ble_eq_true rfl) (Nat.le_of_ble_eq_true rfl) dX4_init_60 (fun q6 => ?_)
  refine i_dup rfl dX4_init_63 ?_
  refine i_call n_X0 cdi0 rfl rfl imi0 ini0 ⟨by decide +kernel, by decide +kernel, by decide +kernel⟩ (fun s h => h.2.2.2.2.2.2) ⟨(Nat.le_of_ble_eq_true rfl), (Nat.le_of_ble_eq_true rfl)⟩ (Nat.le_of_ble_eq_true rfl) (Nat.le_of_ble_eq_true rfl) (Nat.le_of_ble_eq_true rfl) dX4_init_64 (fun f6 ef6 => ?_)
  subst ef6
  refine i_putF (kf := 5) (ci := 4) (T := TX4) (N := 9) (tyf := tyX4) (fs := [.ref (f1 0), .ref (f2 0), .ref (f3 0), .ref (f4 0), .ref (f5 0), .null, .int 0, .int 0, .int 0]) (w := (((((eSto J f1 ++ eSto J f2) ++ eSto J f3) ++ eRdr J f4) ++ eFra J f5) ++ eCan J f6)) rfl inG4 tyX4_ok nmX4 (by decide) rfl rfl fl_X4_39 rfl rfl (Nat.le_of_ble_eq_true rfl) dX4_init_67 ?_
  exact i_ret (fHV h0 f1 f2 f3 f4 f5 f6) rfl eHV_of rfl (Nat.le_of_ble_eq_true rfl) (Nat.le_of_ble_eq_true rfl) dX4_init_70
