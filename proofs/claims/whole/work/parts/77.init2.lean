/-! the constructors -/
abbrev c0C : va_E := .inr (0, [.int 0, .int 0, .int 0, .null, .null, .null, .null, .null, .null, .null, .null, .null, .null, .null])
abbrev c0F : va_E := .inr (1, [.long 0, .long 0])
abbrev c0R : va_E := .inr (2, [.int 0, .null, .null, .int 0, .int 0, .int 0])
abbrev c0S : va_E := .inr (3, [.null, .int 0, .int 0, .null])
abbrev c0H : va_E := .inr (4, [.null, .null, .null, .null, .null, .null, .int 0, .int 0, .int 0])
abbrev c0M : va_E := .inr (5, [.null, .null, .null, .null, .long 0, .long 0, .null, .null, .null, .null, .int 0, .null, .null, .int 0, .int 0, .int 0, .int 0, .int 0, .null, .null])
abbrev aI (J : gJ) (n : Nat) : va_E := .inl (J.1, n, .inl (fun _ => 0))
abbrev aZ (J : gJ) (n : Nat) : va_E := .inl (J.2.1, n, .inl (fun _ => 0))
def pF (f : Nat → Nat) (k : Nat) : Option Nat := if k = 0 then some (f 14) else if k = 1 then some (f 26) else some (f 38)
abbrev aP (J : gJ) (p : Nat → Option Nat) : va_E := .inl (J.2.2, 3, .inr (.inr (.inr (.inr p))))
def rCan : Room := { frames := 1, cells := 11, slots := 93, locals := 12 }
def rFra : Room := { frames := 1, cells := 0, slots := 0, locals := 12 }
def rRdr : Room := { frames := 1, cells := 2, slots := 256, locals := 12 }
def rSto : Room := { frames := 2, cells := 49, slots := 431, locals := 32 }
def rHV : Room := { frames := 3, cells := 166, slots := 1676, locals := 52 }
def rMod : Room := { frames := 1, cells := 12, slots := 1571, locals := 12 }
def eCan (J : gJ) (f : Nat → Nat) : va_W := [(f 0, .inr (0, [.int 0, .int 0, .int 0, .ref (f 1), .ref (f 2), .ref (f 3), .ref (f 4), .ref (f 5), .ref (f 6), .ref (f 7), .ref (f 8), .ref (f 9), .ref (f 10), .ref (f 11)])), (f 1, aI J 7), (f 2, aI J 7), (f 3, aI J 28), (f 4, aI J 7), (f 5, aI J 7), (f 6, aI J 6), (f 7, aI J 6), (f 8, aI J 6), (f 9, aI J 6), (f 10, aI J 6), (f 11, aI J 7)]
def eFra (J : gJ) (f : Nat → Nat) : va_W := [(f 0, .inr (1, [.long 0, .long 1]))]
def eRdr (J : gJ) (f : Nat → Nat) : va_W := [(f 0, .inr (2, [.int 0, .ref (f 1), .ref (f 2), .int 0, .int 0, .int 0])), (f 1, aI J 250), (f 2, aI J 6)]
def eMod (J : gJ) (f : Nat → Nat) : va_W := [(f 0, .inr (5, [.ref (f 1), .ref (f 2), .ref (f 3), .ref (f 4), .long 0, .long 1, .ref (f 5), .ref (f 6), .ref (f 7), .ref (f 8), .int 0, .ref (f 9), .ref (f 10), .int 0, .int 0, .int 0, .int 0, .int 0, .ref (f 11), .ref (f 12)])), (f 1, aI J 382), (f 2, aI J 764), (f 3, aZ J 2), (f 4, aI J 3), (f 5, aI J 28), (f 6, aI J 7), (f 7, aI J 14), (f 8, aI J 14), (f 9, aZ J 6), (f 10, aI J 250), (f 11, aI J 95), (f 12, aI J 6)]
def eSto (J : gJ) (f : Nat → Nat) : va_W := (f 0, .inr (3, [.ref (f 2), .int 0, .int 0, .ref (f 1)])) :: (f 1, aP J (pF f)) :: (eCan J (fun i => f (2 + i)) ++ (eCan J (fun i => f (14 + i)) ++ (eCan J (fun i => f (26 + i)) ++ eCan J (fun i => f (38 + i)))))
def eHV (J : gJ) (f : Nat → Nat) : va_W := (f 0, .inr (4, [.ref (f 1), .ref (f 51), .ref (f 101), .ref (f 151), .ref (f 154), .ref (f 155), .int 0, .int 0, .int 0])) :: (eSto J (fun i => f (1 + i)) ++ (eSto J (fun i => f (51 + i)) ++ (eSto J (fun i => f (101 + i)) ++ (eRdr J (fun i => f (151 + i)) ++ (eFra J (fun i => f (154 + i)) ++ eCan J (fun i => f (155 + i)))))))
abbrev Yi0 : gY := (yX0_init, cX0_init, 1, none)
theorem cdi0 : Cond.code yX0_init cX0_init 1 none ∈ lw_gt := gt_i 86 (by decide +kernel) rfl
theorem imi0 : Cond.instanceMethod yX0_init ∈ lw_gt := gt_i 85 (by decide +kernel) rfl
theorem ini0 : Cond.initialized RX0 ∈ lw_gt := gt_i 58 (by decide +kernel) rfl
theorem ist0 : Cond.instantiable RX0 14 ∈ lw_gt := gt_i 83 (by decide +kernel) rfl
theorem obi0 : Cond.methodLink RX0 3 objectInit ∈ lw_gt := gt_i 87 (by decide +kernel) rfl
theorem dfi0 : ∀ j, j < 14 → defaultValue (tyX0 j) = vp_V [.int 0, .int 0, .int 0, .null, .null, .null, .null, .null, .null, .null, .null, .null, .null, .null] j := fun j hj => by rcases (show j = 0 ∨ j = 1 ∨ j = 2 ∨ j = 3 ∨ j = 4 ∨ j = 5 ∨ j = 6 ∨ j = 7 ∨ j = 8 ∨ j = 9 ∨ j = 10 ∨ j = 11 ∨ j = 12 ∨ j = 13 by omega) with rfl | rfl | rfl | rfl | rfl | rfl | rfl | rfl | rfl | rfl | rfl | rfl | rfl | rfl <;> rfl
abbrev Yi1 : gY := (yX1_init, cX1_init, 1, none)
theorem cdi1 : Cond.code yX1_init cX1_init 1 none ∈ lw_gt := gt_i 189 (by decide +kernel) rfl
theorem imi1 : Cond.instanceMethod yX1_init ∈ lw_gt := gt_i 188 (by decide +kernel) rfl
theorem ini1 : Cond.initialized RX1 ∈ lw_gt := gt_i 60 (by decide +kernel) rfl
theorem ist1 : Cond.instantiable RX1 2 ∈ lw_gt := gt_i 186 (by decide +kernel) rfl
theorem obi1 : Cond.methodLink RX1 1 objectInit ∈ lw_gt := gt_i 190 (by decide +kernel) rfl
theorem dfi1 : ∀ j, j < 2 → defaultValue (tyX1 j) = vp_V [.long 0, .long 0] j := fun j hj => by rcases (show j = 0 ∨ j = 1 by omega) with rfl | rfl <;> rfl
abbrev Yi2 : gY := (yX2_init, cX2_init, 1, none)
theorem cdi2 : Cond.code yX2_init cX2_init 1 none ∈ lw_gt := gt_i 163 (by decide +kernel) rfl
theorem imi2 : Cond.instanceMethod yX2_init ∈ lw_gt := gt_i 162 (by decide +kernel) rfl
theorem ini2 : Cond.initialized RX2 ∈ lw_gt := gt_i 59 (by decide +kernel) rfl
theorem ist2 : Cond.instantiable RX2 6 ∈ lw_gt := gt_i 160 (by decide +kernel) rfl
theorem obi2 : Cond.methodLink RX2 3 objectInit ∈ lw_gt := gt_i 164 (by decide +kernel) rfl
theorem dfi2 : ∀ j, j < 6 → defaultValue (tyX2 j) = vp_V [.int 0, .null, .null, .int 0, .int 0, .int 0] j := fun j hj => by rcases (show j = 0 ∨ j = 1 ∨ j = 2 ∨ j = 3 ∨ j = 4 ∨ j = 5 by omega) with rfl | rfl | rfl | rfl | rfl | rfl <;> rfl
abbrev Yi3 : gY := (yX3_init, cX3_init, 1, none)
theorem cdi3 : Cond.code yX3_init cX3_init 1 none ∈ lw_gt := gt_i 80 (by decide +kernel) rfl
theorem imi3 : Cond.instanceMethod yX3_init ∈ lw_gt := gt_i 79 (by decide +kernel) rfl
theorem ini3 : Cond.initialized RX3 ∈ lw_gt := gt_i 57 (by decide +kernel) rfl
theorem ist3 : Cond.instantiable RX3 4 ∈ lw_gt := gt_i 77 (by decide +kernel) rfl
theorem obi3 : Cond.methodLink RX3 3 objectInit ∈ lw_gt := gt_i 81 (by decide +kernel) rfl
theorem dfi3 : ∀ j, j < 4 → defaultValue (tyX3 j) = vp_V [.null, .int 0, .int 0, .null] j := fun j hj => by rcases (show j = 0 ∨ j = 1 ∨ j = 2 ∨ j = 3 by omega) with rfl | rfl | rfl | rfl <;> rfl
abbrev Yi4 : gY := (yX4_init, cX4_init, 1, none)
theorem cdi4 : Cond.code yX4_init cX4_init 1 none ∈ lw_gt := gt_i 72 (by decide +kernel) rfl
theorem imi4 : Cond.instanceMethod yX4_init ∈ lw_gt := gt_i 71 (by decide +kernel) rfl
theorem ini4 : Cond.initialized RX4 ∈ lw_gt := gt_i 56 (by decide +kernel) rfl
theorem ist4 : Cond.instantiable RX4 9 ∈ lw_gt := gt_i 69 (by decide +kernel) rfl
theorem obi4 : Cond.methodLink RX4 1 objectInit ∈ lw_gt := gt_i 73 (by decide +kernel) rfl
theorem dfi4 : ∀ j, j < 9 → defaultValue (tyX4 j) = vp_V [.null, .null, .null, .null, .null, .null, .int 0, .int 0, .int 0] j := fun j hj => by rcases (show j = 0 ∨ j = 1 ∨ j = 2 ∨ j = 3 ∨ j = 4 ∨ j = 5 ∨ j = 6 ∨ j = 7 ∨ j = 8 by omega) with rfl | rfl | rfl | rfl | rfl | rfl | rfl | rfl | rfl <;> rfl
abbrev Yi5 : gY := (yX5_init, cX5_init, 1, none)
theorem cdi5 : Cond.code yX5_init cX5_init 1 none ∈ lw_gt := gt_i 638 (by decide +kernel) rfl
theorem imi5 : Cond.instanceMethod yX5_init ∈ lw_gt := gt_i 637 (by decide +kernel) rfl
theorem ini5 : Cond.initialized RX5 ∈ lw_gt := gt_i 61 (by decide +kernel) rfl
theorem ist5 : Cond.instantiable RX5 20 ∈ lw_gt := gt_i 635 (by decide +kernel) rfl
theorem obi5 : Cond.methodLink RX5 1 objectInit ∈ lw_gt := gt_i 639 (by decide +kernel) rfl
theorem dfi5 : ∀ j, j < 20 → defaultValue (tyX5 j) = vp_V [.null, .null, .null, .null, .long 0, .long 0, .null, .null, .null, .null, .int 0, .null, .null, .int 0, .int 0, .int 0, .int 0, .int 0, .null, .null] j := fun j hj => by rcases (show j = 0 ∨ j = 1 ∨ j = 2 ∨ j = 3 ∨ j = 4 ∨ j = 5 ∨ j = 6 ∨ j = 7 ∨ j = 8 ∨ j = 9 ∨ j = 10 ∨ j = 11 ∨ j = 12 ∨ j = 13 ∨ j = 14 ∨ j = 15 ∨ j = 16 ∨ j = 17 ∨ j = 18 ∨ j = 19 by omega) with rfl | rfl | rfl | rfl | rfl | rfl | rfl | rfl | rfl | rfl | rfl | rfl | rfl | rfl | rfl | rfl | rfl | rfl | rfl | rfl <;> rfl
set_option maxRecDepth 100000 in
set_option maxHeartbeats 4000000 in
theorem n_X0 {D : va_G} {J : gJ} {l : Launch} : IT D J l Yi0 rCan (eCan J) c0C := by
  refine IT.of (by decide) rfl rfl (fun h0 => ?_)
  refine i_aload rfl dX0_init_0 ?_
  refine i_obj obi0 (Nat.le_of_ble_eq_true rfl) (Nat.le_of_ble_eq_true rfl) dX0_init_1 ?_
  refine i_aload rfl dX0_init_4 ?_
  refine i_bipush 7 dX0_init_5 rfl ?_
  refine i_newi 7 (by decide) (by decide) (by decide) (Nat.le_of_ble_eq_true rfl) (Nat.le_of_ble_eq_true rfl) dX0_init_7 (fun q1 => ?_)
  refine i_putF (kf := 3) (ci := 0) (T := TX0) (N := 14) (tyf := tyX0) (fs := [.int 0, .int 0, .int 0, .null, .null, .null, .null, .null, .null, .null, .null, .null, .null, .null]) (w := [(q1, aI J 7)]) rfl inG0 tyX0_ok nmX0 (by decide) rfl rfl fl_X0_9 rfl rfl (Nat.le_of_ble_eq_true rfl) dX0_init_9 ?_
  refine i_aload rfl dX0_init_12 ?_
  refine i_bipush 7 dX0_init_13 rfl ?_
  refine i_newi 7 (by decide) (by decide) (by decide) (Nat.le_of_ble_eq_true rfl) (Nat.le_of_ble_eq_true rfl) dX0_init_15 (fun q2 => ?_)
  refine i_putF (kf := 4) (ci := 0) (T := TX0) (N := 14) (tyf := tyX0) (fs := [.int 0, .int 0, .int 0, .ref q1, .null, .null, .null, .null, .null, .null, .null, .null, .null, .null]) (w := [(q1, aI J 7), (q2, aI J 7)]) rfl inG0 tyX0_ok nmX0 (by decide) rfl rfl fl_X0_15 rfl rfl (Nat.le_of_ble_eq_true rfl) dX0_init_17 ?_
  refine i_aload rfl dX0_init_20 ?_
  refine i_bipush 28 dX0_init_21 rfl ?_
  refine i_newi 28 (by decide) (by decide) (by decide) (Nat.le_of_ble_eq_true rfl) (Nat.le_of_ble_eq_true rfl) dX0_init_23 (fun q3 => ?_)
  refine i_putF (kf := 5) (ci := 0) (T := TX0) (N := 14) (tyf := tyX0) (fs := [.int 0, .int 0, .int 0, .ref q1, .ref q2, .null, .null, .null, .null, .null, .null, .null, .null, .null]) (w := [(q1, aI J 7), (q2, aI J 7), (q3, aI J 28)]) rfl inG0 tyX0_ok nmX0 (by decide) rfl rfl fl_X0_18 rfl rfl (Nat.le_of_ble_eq_true rfl) dX0_init_25 ?_
  refine i_aload rfl dX0_init_28 ?_
  refine i_bipush 7 dX0_init_29 rfl ?_
  refine i_newi 7 (by decide) (by decide) (by decide) (Nat.le_of_ble_eq_true rfl) (Nat.le_of_ble_eq_true rfl) dX0_init_31 (fun q4 => ?_)
  refine i_putF (kf := 6) (ci := 0) (T := TX0) (N := 14) (tyf := tyX0) (fs := [.int 0, .int 0, .int 0, .ref q1, .ref q2, .ref q3, .null, .null, .null, .null, .null, .null, .null, .null]) (w := [(q1, aI J 7), (q2, aI J 7), (q3, aI J 28), (q4, aI J 7)]) rfl inG0 tyX0_ok nmX0 (by decide) rfl rfl fl_X0_21 rfl rfl (Nat.le_of_ble_eq_true rfl) dX0_init_33 ?_
  refine i_aload rfl dX0_init_36 ?_
  refine i_bipush 7 dX0_init_37 rfl ?_
  refine i_newi 7 (by decide) (by decide) (by decide) (Nat.le_of_ble_eq_true rfl) (Nat.le_of_ble_eq_true rfl) dX0_init_39 (fun q5 => ?_)
  refine i_putF (kf := 7) (ci := 0) (T := TX0) (N := 14) (tyf := tyX0) (fs := [.int 0, .int 0, .int 0, .ref q1, .ref q2, .ref q3, .ref q4, .null, .null, .null, .null, .null, .null, .null]) (w := [(q1, aI J 7), (q2, aI J 7), (q3, aI J 28), (q4, aI J 7), (q5, aI J 7)]) rfl inG0 tyX0_ok nmX0 (by decide) rfl rfl fl_X0_24 rfl rfl (Nat.le_of_ble_eq_true rfl) dX0_init_41 ?_
  refine i_aload rfl dX0_init_44 ?_
  refine i_bipush 6 dX0_init_45 rfl ?_
  refine i_newi 6 (by decide) (by decide) (by decide) (Nat.le_of_ble_eq_true rfl) (Nat.le_of_ble_eq_true rfl) dX0_init_47 (fun q6 => ?_)
  refine i_putF (kf := 8) (ci := 0) (T := TX0) (N := 14) (tyf := tyX0) (fs := [.int 0, .int 0, .int 0, .ref q1, .ref q2, .ref q3, .ref q4, .ref q5, .null, .null, .null, .null, .null, .null]) (w := [(q1, aI J 7), (q2, aI J 7), (q3, aI J 28), (q4, aI J 7), (q5, aI J 7), (q6, aI J 6)]) rfl inG0 tyX0_ok nmX0 (by decide) rfl rfl fl_X0_27 rfl rfl (Nat.le_of_ble_eq_true rfl) dX0_init_49 ?_
  refine i_aload rfl dX0_init_52 ?_
  refine i_bipush 6 dX0_init_53 rfl ?_
  refine i_newi 6 (by decide) (by decide) (by decide) (Nat.le_of_ble_eq_true rfl) (Nat.le_of_ble_eq_true rfl) dX0_init_55 (fun q7 => ?_)
  refine i_putF (kf := 9) (ci := 0) (T := TX0) (N := 14) (tyf := tyX0) (fs := [.int 0, .int 0, .int 0, .ref q1, .ref q2, .ref q3, .ref q4, .ref q5, .ref q6, .null, .null, .null, .null, .null]) (w := [(q1, aI J 7), (q2, aI J 7), (q3, aI J 28), (q4, aI J 7), (q5, aI J 7), (q6, aI J 6), (q7, aI J 6)]) rfl inG0 tyX0_ok nmX0 (by decide) rfl rfl fl_X0_30 rfl rfl (Nat.le_of_ble_eq_true rfl) dX0_init_57 ?_
  refine i_aload rfl dX0_init_60 ?_
  refine i_bipush 6 dX0_init_61 rfl ?_
  refine i_newi 6 (by decide) (by decide) (by decide) (Nat.le_of_ble_eq_true rfl) (Nat.le_of_ble_eq_true rfl) dX0_init_63 (fun q8 => ?_)
  refine i_putF (kf := 10) (ci := 0) (T := TX0) (N := 14) (tyf := tyX0) (fs := [.int 0, .int 0, .int 0, .ref q1, .ref q2, .ref q3, .ref q4, .ref q5, .ref q6, .ref q7, .null, .null, .null, .null]) (w := [(q1, aI J 7), (q2, aI J 7), (q3, aI J 28), (q4, aI J 7), (q5, aI J 7), (q6, aI J 6), (q7, aI J 6), (q8, aI J 6)]) rfl inG0 tyX0_ok nmX0 (by decide) rfl rfl fl_X0_33 rfl rfl (Nat.le_of_ble_eq_true rfl) dX0_init_65 ?_
  refine i_aload rfl dX0_init_68 ?_
  refine i_bipush 6 dX0_init_69 rfl ?_
  refine i_newi 6 (by decide) (by decide) (by decide) (Nat.le_of_ble_eq_true rfl) (Nat.le_of_ble_eq_true rfl) dX0_init_71 (fun q9 => ?_)
  refine i_putF (kf := 11) (ci := 0) (T := TX0) (N := 14) (tyf := tyX0) (fs := [.int 0, .int 0, .int 0, .ref q1, .ref q2, .ref q3, .ref q4, .ref q5, .ref q6, .ref q7, .ref q8, .null, .null, .null]) (w := [(q1, aI J 7), (q2, aI J 7), (q3, aI J 28), (q4, aI J 7), (q5, aI J 7), (q6, aI J 6), (q7, aI J 6), (q8, aI J 6), (q9, aI J 6)]) rfl inG0 tyX0_ok nmX0 (by decide) rfl rfl fl_X0_36 rfl rfl (Nat.le_of_ble_eq_true rfl) dX0_init_73 ?_
  refine i_aload rfl dX0_init_76 ?_
  refine i_bipush 6 dX0_init_77 rfl ?_
  refine i_newi 6 (by decide) (by decide) (by decide) (Nat.le_of_ble_eq_true rfl) (Nat.le_of_ble_eq_true rfl) dX0_init_79 (fun q10 => ?_)
  refine i_putF (kf := 12) (ci := 0) (T := TX0) (N := 14) (tyf := tyX0) (fs := [.int 0, .int 0, .int 0, .ref q1, .ref q2, .ref q3, .ref q4, .ref q5, .ref q6, .ref q7, .ref q8, .ref q9, .null, .null]) (w := [(q1, aI J 7), (q2, aI J 7), (q3, aI J 28), (q4, aI J 7), (q5, aI J 7), (q6, aI J 6), (q7, aI J 6), (q8, aI J 6), (q9, aI J 6), (q10, aI J 6)]) rfl inG0 tyX0_ok nmX0 (by decide) rfl rfl fl_X0_39 rfl rfl (Nat.le_of_ble_eq_true rfl) dX0_init_81 ?_
  refine i_aload rfl dX0_init_84 ?_
  refine i_bipush 7 dX0_init_85 rfl ?_
  refine i_newi 7 (by decide) (by decide) (by decide) (Nat.le_of_ble_eq_true rfl) (Nat.le_of_ble_eq_true rfl) dX0_init_87 (fun q11 => ?_)
  refine i_putF (kf := 13) (ci := 0) (T := TX0) (N := 14) (tyf := tyX0) (fs := [.int 0, .int 0, .int 0, .ref q1, .ref q2, .ref q3, .ref q4, .ref q5, .ref q6, .ref q7, .ref q8, .ref q9, .ref q10, .null]) (w := [(q1, aI J 7), (q2, aI J 7), (q3, aI J 28), (q4, aI J 7), (q5, aI J 7), (q6, aI J 6), (q7, aI J 6), (q8, aI J 6), (q9, aI J 6), (q10, aI J 6), (q11, aI J 7)]) rfl inG0 tyX0_ok nmX0 (by decide) rfl rfl fl_X0_42 rfl rfl (Nat.le_of_ble_eq_true rfl) dX0_init_89 ?_
  exact i_ret (fun i => [h0, q1, q2, q3, q4, q5, q6, q7, q8, q9, q10, q11].getD i 0) rfl rfl rfl (Nat.le_of_ble_eq_true rfl) (Nat.le_of_ble_eq_true rfl) dX0_init_92
set_option maxRecDepth 100000 in
set_option maxHeartbeats 4000000 in
theorem n_X1 {D : va_G} {J : gJ} {l : Launch} : IT D J l Yi1 rFra (eFra J) c0F := by
  refine IT.of (by decide) rfl rfl (fun h0 => ?_)
  refine i_aload rfl dX1_init_0 ?_
  refine i_obj obi1 (Nat.le_of_ble_eq_true rfl) (Nat.le_of_ble_eq_true rfl) dX1_init_1 ?_
  refine i_aload rfl dX1_init_4 ?_
  refine i_lconst 0 dX1_init_5 rfl ?_
  refine i_put (kf := 0) (ci := 1) (T := TX1) (N := 2) (tyf := tyX1) (fs := [.long 0, .long 0]) (w := []) rfl inG1 tyX1_ok nmX1 (by decide) rfl fl_X1_7 rfl rfl (Nat.le_of_ble_eq_true rfl) dX1_init_6 ?_
  refine i_aload rfl dX1_init_9 ?_
  refine i_lconst 1 dX1_init_10 rfl ?_
  refine i_put (kf := 1) (ci := 1) (T := TX1) (N := 2) (tyf := tyX1) (fs := [.long 0, .long 0]) (w := []) rfl inG1 tyX1_ok nmX1 (by decide) rfl fl_X1_13 rfl rfl (Nat.le_of_ble_eq_true rfl) dX1_init_11 ?_
  exact i_ret (fun i => [h0].getD i 0) rfl rfl rfl (Nat.le_of_ble_eq_true rfl) (Nat.le_of_ble_eq_true rfl) dX1_init_14
set_option maxRecDepth 100000 in
set_option maxHeartbeats 4000000 in
theorem n_X2 {D : va_G} {J : gJ} {l : Launch} : IT D J l Yi2 rRdr (eRdr J) c0R := by
  refine IT.of (by decide) rfl rfl (fun h0 => ?_)
  refine i_aload rfl dX2_init_0 ?_
  refine i_obj obi2 (Nat.le_of_ble_eq_true rfl) (Nat.le_of_ble_eq_true rfl) dX2_init_1 ?_
  refine i_aload rfl dX2_init_4 ?_
  refine i_sipush 250 dX2_init_5 rfl ?_
  refine i_newi 250 (by decide) (by decide) (by decide) (Nat.le_of_ble_eq_true rfl) (Nat.le_of_ble_eq_true rfl) dX2_init_8 (fun q1 => ?_)
  refine i_putF (kf := 1) (ci := 2) (T := TX2) (N := 6) (tyf := tyX2) (fs := [.int 0, .null, .null, .int 0, .int 0, .int 0]) (w := [(q1, aI J 250)]) rfl inG2 tyX2_ok nmX2 (by decide) rfl rfl fl_X2_9 rfl rfl (Nat.le_of_ble_eq_true rfl) dX2_init_10 ?_
  refine i_aload rfl dX2_init_13 ?_
  refine i_bipush 6 dX2_init_14 rfl ?_
  refine i_newi 6 (by decide) (by decide) (by decide) (Nat.le_of_ble_eq_true rfl) (Nat.le_of_ble_eq_true rfl) dX2_init_16 (fun q2 => ?_)
  refine i_putF (kf := 2) (ci := 2) (T := TX2) (N := 6) (tyf := tyX2) (fs := [.int 0, .ref q1, .null, .int 0, .int 0, .int 0]) (w := [(q1, aI J 250), (q2, aI J 6)]) rfl inG2 tyX2_ok nmX2 (by decide) rfl rfl fl_X2_15 rfl rfl (Nat.le_of_ble_eq_true rfl) dX2_init_18 ?_
  exact i_ret (fun i => [h0, q1, q2].getD i 0) rfl rfl rfl (Nat.le_of_ble_eq_true rfl) (Nat.le_of_ble_eq_true rfl) dX2_init_21
set_option maxRecDepth 100000 in
set_option maxHeartbeats 4000000 in
theorem n_X5 {D : va_G} {J : gJ} {l : Launch} : IT D J l Yi5 rMod (eMod J) c0M := by
  refine IT.of (by decide) rfl rfl (fun h0 => ?_)
  refine i_aload rfl dX5_init_0 ?_
  refine i_obj obi5 (Nat.le_of_ble_eq_true rfl) (Nat.le_of_ble_eq_true rfl) dX5_init_1 ?_
  refine i_aload rfl dX5_init_4 ?_
  refine i_sipush 382 dX5_init_5 rfl ?_
  refine i_newi 382 (by decide) (by decide) (by decide) (Nat.le_of_ble_eq_true rfl) (Nat.le_of_ble_eq_true rfl) dX5_init_8 (fun q1 => ?_)
  refine i_putF (kf := 0) (ci := 5) (T := TX5) (N := 20) (tyf := tyX5) (fs := [.null, .null, .null, .null, .long 0, .long 0, .null, .null, .null, .null, .int 0, .null, .null, .int 0, .int 0, .int 0, .int 0, .int 0, .null, .null]) (w := [(q1, aI J 382)]) rfl inG5 tyX5_ok nmX5 (by decide) rfl rfl fl_X5_7 rfl rfl (Nat.le_of_ble_eq_true rfl) dX5_init_10 ?_
  refine i_aload rfl dX5_init_13 ?_
  refine i_sipush 764 dX5_init_14 rfl ?_
  refine i_newi 764 (by decide) (by decide) (by decide) (Nat.le_of_ble_eq_true rfl) (Nat.le_of_ble_eq_true rfl) dX5_init_17 (fun q2 => ?_)
  refine i_putF (kf := 1) (ci := 5) (T := TX5) (N := 20) (tyf := tyX5) (fs := [.ref q1, .null, .null, .null, .long 0, .long 0, .null, .null, .null, .null, .int 0, .null, .null, .int 0, .int 0, .int 0, .int 0, .int 0, .null, .null]) (w := [(q1, aI J 382), (q2, aI J 764)]) rfl inG5 tyX5_ok nmX5 (by decide) rfl rfl fl_X5_13 rfl rfl (Nat.le_of_ble_eq_true rfl) dX5_init_19 ?_
  refine i_aload rfl dX5_init_22 ?_
  refine i_iconst 2 dX5_init_23 rfl ?_
  refine i_newz 2 (by decide) (by decide) (by decide) (Nat.le_of_ble_eq_true rfl) (Nat.le_of_ble_eq_true rfl) dX5_init_24 (fun q3 => ?_)
  refine i_putF (kf := 2) (ci := 5) (T := TX5) (N := 20) (tyf := tyX5) (fs := [.ref q1, .ref q2, .null, .null, .long 0, .long 0, .null, .null, .null, .null, .int 0, .null, .null, .int 0, .int 0, .int 0, .int 0, .int 0, .null, .null]) (w := [(q1, aI J 382), (q2, aI J 764), (q3, aZ J 2)]) rfl inG5 tyX5_ok nmX5 (by decide) rfl rfl fl_X5_16 rfl rfl (Nat.le_of_ble_eq_true rfl) dX5_init_26 ?_
  refine i_aload rfl dX5_init_29 ?_
  refine i_iconst 3 dX5_init_30 rfl ?_
  refine i_newi 3 (by decide) (by decide) (by decide) (Nat.le_of_ble_eq_true rfl) (Nat.le_of_ble_eq_true rfl) dX5_init_31 (fun q4 => ?_)
  refine i_putF (kf := 3) (ci := 5) (T := TX5) (N := 20) (tyf := tyX5) (fs := [.ref q1, .ref q2, .ref q3, .null, .long 0, .long 0, .null, .null, .null, .null, .int 0, .null, .null, .int 0, .int 0, .int 0, .int 0, .int 0, .null, .null]) (w := [(q1, aI J 382), (q2, aI J 764), (q3, aZ J 2), (q4, aI J 3)]) rfl inG5 tyX5_ok nmX5 (by decide) rfl rfl fl_X5_20 rfl rfl (Nat.le_of_ble_eq_true rfl) dX5_init_33 ?_
  refine i_aload rfl dX5_init_36 ?_
  refine i_lconst 1 dX5_init_37 rfl ?_
  refine i_put (kf := 5) (ci := 5) (T := TX5) (N := 20) (tyf := tyX5) (fs := [.ref q1, .ref q2, .ref q3, .ref q4, .long 0, .long 0, .null, .null, .null, .null, .int 0, .null, .null, .int 0, .int 0, .int 0, .int 0, .int 0, .null, .null]) (w := [(q1, aI J 382), (q2, aI J 764), (q3, aZ J 2), (q4, aI J 3)]) rfl inG5 tyX5_ok nmX5 (by decide) rfl fl_X5_23 rfl rfl (Nat.le_of_ble_eq_true rfl) dX5_init_38 ?_
  refine i_aload rfl dX5_init_41 ?_
  refine i_bipush 28 dX5_init_42 rfl ?_
  refine i_newi 28 (by decide) (by decide) (by decide) (Nat.le_of_ble_eq_true rfl) (Nat.le_of_ble_eq_true rfl) dX5_init_44 (fun q5 => ?_)
  refine i_putF (kf := 6) (ci := 5) (T := TX5) (N := 20) (tyf := tyX5) (fs := [.ref q1, .ref q2, .ref q3, .ref q4, .long 0, .long 1, .null, .null, .null, .null, .int 0, .null, .null, .int 0, .int 0, .int 0, .int 0, .int 0, .null, .null]) (w := [(q1, aI J 382), (q2, aI J 764), (q3, aZ J 2), (q4, aI J 3), (q5, aI J 28)]) rfl inG5 tyX5_ok nmX5 (by decide) rfl rfl fl_X5_27 rfl rfl (Nat.le_of_ble_eq_true rfl) dX5_init_46 ?_
  refine i_aload rfl dX5_init_49 ?_
  refine i_bipush 7 dX5_init_50 rfl ?_
  refine i_newi 7 (by decide) (by decide) (by decide) (Nat.le_of_ble_eq_true rfl) (Nat.le_of_ble_eq_true rfl) dX5_init_52 (fun q6 => ?_)
  refine i_putF (kf := 7) (ci := 5) (T := TX5) (N := 20) (tyf := tyX5) (fs := [.ref q1, .ref q2, .ref q3, .ref q4, .long 0, .long 1, .ref q5, .null, .null, .null, .int 0, .null, .null, .int 0, .int 0, .int 0, .int 0, .int 0, .null, .null]) (w := [(q1, aI J 382), (q2, aI J 764), (q3, aZ J 2), (q4, aI J 3), (q5, aI J 28), (q6, aI J 7)]) rfl inG5 tyX5_ok nmX5 (by decide) rfl rfl fl_X5_30 rfl rfl (Nat.le_of_ble_eq_true rfl) dX5_init_54 ?_
  refine i_aload rfl dX5_init_57 ?_
  refine i_bipush 14 dX5_init_58 rfl ?_
  refine i_newi 14 (by decide) (by decide) (by decide) (Nat.le_of_ble_eq_true rfl) (Nat.le_of_ble_eq_true rfl) dX5_init_60 (fun q7 => ?_)
  refine i_putF (kf := 8) (ci := 5) (T := TX5) (N := 20) (tyf := tyX5) (fs := [.ref q1, .ref q2, .ref q3, .ref q4, .long 0, .long 1, .ref q5, .ref q6, .null, .null, .int 0, .null, .null, .int 0, .int 0, .int 0, .int 0, .int 0, .null, .null]) (w := [(q1, aI J 382), (q2, aI J 764), (q3, aZ J 2), (q4, aI J 3), (q5, aI J 28), (q6, aI J 7), (q7, aI J 14)]) rfl inG5 tyX5_ok nmX5 (by decide) rfl rfl fl_X5_33 rfl rfl (Nat.le_of_ble_eq_true rfl) dX5_init_62 ?_
  refine i_aload rfl dX5_init_65 ?_
  refine i_bipush 14 dX5_init_66 rfl ?_
  refine i_newi 14 (by decide) (by decide) (by decide) (Nat.le_of_ble_eq_true rfl) (Nat.le_of_ble_eq_true rfl) dX5_init_68 (fun q8 => ?_)
  refine i_putF (kf := 9) (ci := 5) (T := TX5) (N := 20) (tyf := tyX5) (fs := [.ref q1, .ref q2, .ref q3, .ref q4, .long 0, .long 1, .ref q5, .ref q6, .ref q7, .null, .int 0, .null, .null, .int 0, .int 0, .int 0, .int 0, .int 0, .null, .null]) (w := [(q1, aI J 382), (q2, aI J 764), (q3, aZ J 2), (q4, aI J 3), (q5, aI J 28), (q6, aI J 7), (q7, aI J 14), (q8, aI J 14)]) rfl inG5 tyX5_ok nmX5 (by decide) rfl rfl fl_X5_36 rfl rfl (Nat.le_of_ble_eq_true rfl) dX5_init_70 ?_
  refine i_aload rfl dX5_init_73 ?_
  refine i_bipush 6 dX5_init_74 rfl ?_
  refine i_newz 6 (by decide) (by decide) (by decide) (Nat.le_of_ble_eq_true rfl) (Nat.le_of_ble_eq_true rfl) dX5_init_76 (fun q9 => ?_)
  refine i_putF (kf := 11) (ci := 5) (T := TX5) (N := 20) (tyf := tyX5) (fs := [.ref q1, .ref q2, .ref q3, .ref q4, .long 0, .long 1, .ref q5, .ref q6, .ref q7, .ref q8, .int 0, .null, .null, .int 0, .int 0, .int 0, .int 0, .int 0, .null, .null]) (w := [(q1, aI J 382), (q2, aI J 764), (q3, aZ J 2), (q4, aI J 3), (q5, aI J 28), (q6, aI J 7), (q7, aI J 14), (q8, aI J 14), (q9, aZ J 6)]) rfl inG5 tyX5_ok nmX5 (by decide) rfl rfl fl_X5_39 rfl rfl (Nat.le_of_ble_eq_true rfl) dX5_init_78 ?_
  refine i_aload rfl dX5_init_81 ?_
  refine i_sipush 250 dX5_init_82 rfl ?_
  refine i_newi 250 (by decide) (by decide) (by decide) (Nat.le_of_ble_eq_true rfl) (Nat.le_of_ble_eq_true rfl) dX5_init_85 (fun q10 => ?_)
  refine i_putF (kf := 12) (ci := 5) (T := TX5) (N := 20) (tyf := tyX5) (fs := [.ref q1, .ref q2, .ref q3, .ref q4, .long 0, .long 1, .ref q5, .ref q6, .ref q7, .ref q8, .int 0, .ref q9, .null, .int 0, .int 0, .int 0, .int 0, .int 0, .null, .null]) (w := [(q1, aI J 382), (q2, aI J 764), (q3, aZ J 2), (q4, aI J 3), (q5, aI J 28), (q6, aI J 7), (q7, aI J 14), (q8, aI J 14), (q9, aZ J 6), (q10, aI J 250)]) rfl inG5 tyX5_ok nmX5 (by decide) rfl rfl fl_X5_42 rfl rfl (Nat.le_of_ble_eq_true rfl) dX5_init_87 ?_
  refine i_aload rfl dX5_init_90 ?_
  refine i_bipush 95 dX5_init_91 rfl ?_
  refine i_newi 95 (by decide) (by decide) (by decide) (Nat.le_of_ble_eq_true rfl) (Nat.le_of_ble_eq_true rfl) dX5_init_93 (fun q11 => ?_)
  refine i_putF (kf := 18) (ci := 5) (T := TX5) (N := 20) (tyf := tyX5) (fs := [.ref q1, .ref q2, .ref q3, .ref q4, .long 0, .long 1, .ref q5, .ref q6, .ref q7, .ref q8, .int 0, .ref q9, .ref q10, .int 0, .int 0, .int 0, .int 0, .int 0, .null, .null]) (w := [(q1, aI J 382), (q2, aI J 764), (q3, aZ J 2), (q4, aI J 3), (q5, aI J 28), (q6, aI J 7), (q7, aI J 14), (q8, aI J 14), (q9, aZ J 6), (q10, aI J 250), (q11, aI J 95)]) rfl inG5 tyX5_ok nmX5 (by decide) rfl rfl fl_X5_45 rfl rfl (Nat.le_of_ble_eq_true rfl) dX5_init_95 ?_
  refine i_aload rfl dX5_init_98 ?_
  refine i_bipush 6 dX5_init_99 rfl ?_
  refine i_newi 6 (by decide) (by decide) (by decide) (Nat.le_of_ble_eq_true rfl) (Nat.le_of_ble_eq_true rfl) dX5_init_101 (fun q12 => ?_)
  refine i_putF (kf := 19) (ci := 5) (T := TX5) (N := 20) (tyf := tyX5) (fs := [.ref q1, .ref q2, .ref q3, .ref q4, .long 0, .long 1, .ref q5, .ref q6, .ref q7, .ref q8, .int 0, .ref q9, .ref q10, .int 0, .int 0, .int 0, .int 0, .int 0, .ref q11, .null]) (w := [(q1, aI J 382), (q2, aI J 764), (q3, aZ J 2), (q4, aI J 3), (q5, aI J 28), (q6, aI J 7), (q7, aI J 14), (q8, aI J 14), (q9, aZ J 6), (q10, aI J 250), (q11, aI J 95), (q12, aI J 6)]) rfl inG5 tyX5_ok nmX5 (by decide) rfl rfl fl_X5_48 rfl rfl (Nat.le_of_ble_eq_true rfl) dX5_init_103 ?_
  exact i_ret (fun i => [h0, q1, q2, q3, q4, q5, q6, q7, q8, q9, q10, q11, q12].getD i 0) rfl rfl rfl (Nat.le_of_ble_eq_true rfl) (Nat.le_of_ble_eq_true rfl) dX5_init_106
