section INEW
variable {D : va_G} {J : gJ} {l : Launch} {Y : gY} {rm : Room} {h0 : Nat} {E : (Nat → Nat) → va_W} {pc : Nat} {st : List Value} {ws : va_W} {k n : Nat}
theorem cell0i (N : Nat) (cA : ClassId) : vp_cell cA (N, .inl (fun _ => 0)) = arrV cA N (fun _ => defaultValue .int) := by
  rw [vp_cell_i]
  rfl
theorem cell0z (N : Nat) (cA : ClassId) : vp_cell cA (N, .inl (fun _ => 0)) = arrV cA N (fun _ => defaultValue .boolean) := by
  rw [vp_cell_i]
  rfl
theorem tJ3 (J : gJ) (x : ClassId × FieldType) : (tysJ J ++ [x])[3]? = some x := rfl
theorem tJ0 (J : gJ) : (tysJ J)[0]? = some (J.1, .int) := rfl
theorem tJ1 (J : gJ) : (tysJ J)[1]? = some (J.2.1, .boolean) := rfl
theorem i_newi {v : Int32} (N : Nat) (h0v : ¬ v < 0) (hN : v.toNatClampNeg = N) (hb : N * componentBytes .int ≤ 536870912) (hk : k + 1 ≤ rm.cells) (hn : n + N ≤ rm.slots) (hd : decode Y.2.1 pc = .ok (.newarray .int, 2)) (kk : ∀ q, WI D J l Y rm h0 E (pc + 2) (.ref q :: st) (ws ++ [(q, .inl (J.1, N, .inl (fun _ => 0)))]) (k + 1) (n + N)) : WI D J l Y rm h0 E pc (.int v :: st) ws k n := by
  intro p e s m args below meth c H locs ls A C h1 h2 hP hD hS
  have hK := C.2.2.2.2.2.2.2.1.1
  refine va_newa (atype := .int) (ty := .int) (a0 := (N, .inl (fun _ => 0))) C.1 C.2.1 (C.2.2.2.2.2.1 (.arrayClass .int) gt_aI) rfl hK hP hD hS C.2.2.2.2.2.2.2.2.2 (cell0i N) h0v hN hb hk hn hd (fun q cA H1 hK1 hP1 hD1 hS1 => ?_)
  have e1 : cA = J.1 := ra_i (hK1.2 3 (cA, .int) (tJ3 J _)).2 (hK.2 0 (J.1, .int) (tJ0 J)).2
  subst e1
  exact kk q p e s m args below meth c H1 locs ls A C h1 h2 hP1 hD1 hS1
theorem i_newz {v : Int32} (N : Nat) (h0v : ¬ v < 0) (hN : v.toNatClampNeg = N) (hb : N * componentBytes .boolean ≤ 536870912) (hk : k + 1 ≤ rm.cells) (hn : n + N ≤ rm.slots) (hd : decode Y.2.1 pc = .ok (.newarray .boolean, 2)) (kk : ∀ q, WI D J l Y rm h0 E (pc + 2) (.ref q :: st) (ws ++ [(q, .inl (J.2.1, N, .inl (fun _ => 0)))]) (k + 1) (n + N)) : WI D J l Y rm h0 E pc (.int v :: st) ws k n := by
  intro p e s m args below meth c H locs ls A C h1 h2 hP hD hS
  have hK := C.2.2.2.2.2.2.2.1.1
  refine va_newa (atype := .boolean) (ty := .boolean) (a0 := (N, .inl (fun _ => 0))) C.1 C.2.1 (C.2.2.2.2.2.1 (.arrayClass .boolean) gt_aZ) rfl hK hP hD hS C.2.2.2.2.2.2.2.2.2 (cell0z N) h0v hN hb hk hn hd (fun q cA H1 hK1 hP1 hD1 hS1 => ?_)
  have e1 : cA = J.2.1 := ra_z (hK1.2 3 (cA, .boolean) (tJ3 J _)).2 (hK.2 1 (J.2.1, .boolean) (tJ1 J)).2
  subst e1
  exact kk q p e s m args below meth c H1 locs ls A C h1 h2 hP1 hD1 hS1
end INEW
