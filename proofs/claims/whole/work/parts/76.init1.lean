/-! constructors: a judgement of their own, worlds as lists that grow -/
abbrev gJ : Type := ClassId × ClassId × ClassId
def tysJ (J : gJ) : List (ClassId × FieldType) := [(J.1, .int), (J.2.1, .boolean), (J.2.2, .object RX0)]
def KK (D : va_G) (J : gJ) (U : State) : Prop := va_K D vwCl (tysJ J) U ∧ va_AO RX0 U ∧ va_Nw (.methodLinkNest RX3 11 yX0_init RX4) U ∧ va_Nw (.methodLinkNest RX4 9 yX3_init RX4) U ∧ va_Nw (.methodLinkNest RX4 24 yX2_init RX4) U ∧ va_Nw (.methodLinkNest RX4 31 yX1_init RX4) U ∧ va_Nw (.methodLinkNest RX4 38 yX0_init RX4) U
theorem KK.warm {D : va_G} {J : gJ} {s U : State} (hW : s.WarmedH U.vm) (h : KK D J s) : KK D J U := by
  obtain ⟨h1, h2, h3, h4, h5, h6, h7⟩ := h
  exact ⟨va_K.moved hW.alike h1, va_AO.moved hW.alike h2, h3.warmM hW, h4.warmM hW, h5.warmM hW, h6.warmM hW, h7.warmM hW⟩
theorem KK.blind {D : va_G} {J : gJ} {U V : State} (hv : V.vm = U.vm) (h : KK D J U) : KK D J V := by
  obtain ⟨h1, h2, h3, h4, h5, h6, h7⟩ := h
  have hA : U.vm.Alike V.vm := by rw [hv]; exact Vm.Alike.refl U.vm
  exact ⟨va_K.moved hA h1, va_AO.moved hA h2, h3.same rfl hv.symm, h4.same rfl hv.symm, h5.same rfl hv.symm, h6.same rfl hv.symm, h7.same rfl hv.symm⟩
def IQ (D : va_G) (h0 : Nat) (E : (Nat → Nat) → va_W) (A : Nat → Prop) : Array Value → State → Outcome → State → Prop := va_Qv (S := Nat → Nat) (fun f => f 0 = h0) (fun f t => va_P D vwCl (E f) t.heap ∧ va_D A (E f)) A
def IP (D : va_G) (J : gJ) (h0 : Nat) (e0 : va_E) (sz : Nat) : Array Value → State → Prop := va_Pc [.ref h0] (fun U => U.heap.size = sz ∧ va_P D vwCl [(h0, e0)] U.heap ∧ KK D J U)
/-- a constructor's contract: from the blank object e0 it makes the cells E f, the object the first of them -/
def IT (D : va_G) (J : gJ) (l : Launch) (Y : gY) (rm : Room) (E : (Nat → Nat) → va_W) (e0 : va_E) : Prop := ∀ h0 sz : Nat, Met l Y.1 (wsY Y) rm (IP D J h0 e0 sz) (IQ D h0 E (va_A [(h0, e0)] sz)) rm.cells rm.slots (va_A [(h0, e0)] sz)
def IX (D : va_G) (J : gJ) (Y : gY) (p : Program) (s : State) (m : MethodId) (args : Array Value) (meth : Method) (c : Code) (A : Nat → Prop) : Prop :=
  p.tables.exec = Jvm.exec ∧ c.code = Y.2.1 ∧ meth.sig.returnType = Y.2.2.2 ∧ c.maxLocals = Y.2.2.1 ∧ s.vm.findClass Y.1.cls = some m.cls ∧ (∀ w ∈ lw_gt, w.before args s = true) ∧ meth.locks = false ∧ KK D J s ∧ meth.name = "<init>" ∧ ∀ q, s.heap.size ≤ q → A q
def WI (D : va_G) (J : gJ) (l : Launch) (Y : gY) (rm : Room) (h0 : Nat) (E : (Nat → Nat) → va_W) (pc : Nat) (st : List Value) (ws : va_W) (k n : Nat) : Prop :=
  ∀ (p : Program) (e : Env) (s : State) (m : MethodId) (args : Array Value) (below : List Frame) (meth : Method) (c : Code) (H : Heap) (locs : List Loc) (ls : Array Slot) (A : Nat → Prop),
    IX D J Y p s m args meth c A → ls.size = Y.2.2.1 → ls[0]? = some (.val (.ref h0)) → va_P D vwCl ws H → va_D A ws → va_S A s.heap H locs →
    W p l e rm s m args below meth c H locs k n (MQ below (IQ D h0 E A) args s rm.cells rm.slots A) (F0 m pc ls st)
theorem IT.of {D : va_G} {J : gJ} {l : Launch} {Y : gY} {rm : Room} {E : (Nat → Nat) → va_W} {e0 : va_E} (hy : plainName Y.1.cls = true) (hni : Y.1.name = "<init>") (h1 : Y.2.2.1 = 1) (h : ∀ h0, WI D J l Y rm h0 E 0 [] [(h0, e0)] 0 0) : IT D J l Y rm E e0 := by
  intro h0 sz
  refine Met.ofW (cc := Y.2.1) (maxL := Y.2.2.1) (ret := Y.2.2.2) hy rfl ?_
  intro p e s m args below meth c s₁ B hml hv
  obtain ⟨rfl, hsz, hP, hK⟩ := hv
  subst hsz
  have hts := atoms_spec (ws := wsY Y) B.pre
  have hl := lv_entry ([.ref h0]) (n := Y.2.2.1) (by rw [h1]; exact Nat.le_refl 1)
  rw [lg_entry_eq]
  refine h h0 p e s m _ below meth c s.heap [] _ _ ⟨B.exec, B.bytes, B.returns, hml, findClass_of_methodNamed B.named, fun w hw => hts w (List.mem_cons_of_mem _ hw), B.notSynchronized, hK, (name_of_methodNamed B.named B.method).1.trans hni, fun q hq => Or.inr hq⟩ hl.1 (hl.2.2 (0, .ref h0) List.mem_cons_self) hP ⟨fun i j x y hi hj _ => ?_, fun i x hi => va_A.in hi⟩ va_S.rf
  have h2 := (List.getElem?_eq_some_iff.mp hi).1
  have h3 := (List.getElem?_eq_some_iff.mp hj).1
  simp at h2 h3
  omega
theorem ra_i {s : State} {c1 c2 : ClassId} (h1 : va_RA s c1 .int) (h2 : va_RA s c2 .int) : c1 = c2 := by
  unfold va_RA at h1 h2
  exact Option.some.inj (h1.symm.trans h2)
theorem ra_z {s : State} {c1 c2 : ClassId} (h1 : va_RA s c1 .boolean) (h2 : va_RA s c2 .boolean) : c1 = c2 := by
  unfold va_RA at h1 h2
  exact Option.some.inj (h1.symm.trans h2)
theorem gt_aI : Cond.arrayClass .int ∈ lw_gt := gt_of (by decide +kernel) rfl
theorem gt_aZ : Cond.arrayClass .boolean ∈ lw_gt := gt_of (by decide +kernel) rfl
section ICALL
variable {D : va_G} {J : gJ} {l : Launch} {Y : gY} {rm : Room} {h0 : Nat} {E : (Nat → Nat) → va_W} {pc : Nat} {st : List Value} {ws : va_W} {k n : Nat}
theorem i_aload {z : Fin 4} (hz : (z : Nat) = 0) (hd : decode Y.2.1 pc = .ok (.aload_n z, 1)) (kk : WI D J l Y rm h0 E (pc + 1) (.ref h0 :: st) ws k n) : WI D J l Y rm h0 E pc st ws k n := by
  intro p e s m args below meth c H locs ls A C h1 h2 hP hD hS
  exact lv_aload_n C.1 C.2.1 hd hz h2 (kk p e s m args below meth c H locs ls A C h1 h2 hP hD hS)
theorem i_iconst {x : Int} (v : Int32) (hd : decode Y.2.1 pc = .ok (.iconst x, 1)) (hv : Int32.ofInt x = v) (kk : WI D J l Y rm h0 E (pc + 1) (.int v :: st) ws k n) : WI D J l Y rm h0 E pc st ws k n := by
  intro p e s m args below meth c H locs ls A C h1 h2 hP hD hS
  exact lv_iconst C.1 C.2.1 hd hv (kk p e s m args below meth c H locs ls A C h1 h2 hP hD hS)
theorem i_bipush {x : Int} (v : Int32) (hd : decode Y.2.1 pc = .ok (.bipush x, 2)) (hv : (Int8.ofInt x).toInt32 = v) (kk : WI D J l Y rm h0 E (pc + 2) (.int v :: st) ws k n) : WI D J l Y rm h0 E pc st ws k n := by
  intro p e s m args below meth c H locs ls A C h1 h2 hP hD hS
  exact lv_bipush C.1 C.2.1 hd hv (kk p e s m args below meth c H locs ls A C h1 h2 hP hD hS)
theorem i_sipush {x : Int} (v : Int32) (hd : decode Y.2.1 pc = .ok (.sipush x, 3)) (hv : (Int16.ofInt x).toInt32 = v) (kk : WI D J l Y rm h0 E (pc + 3) (.int v :: st) ws k n) : WI D J l Y rm h0 E pc st ws k n := by
  intro p e s m args below meth c H locs ls A C h1 h2 hP hD hS
  exact lv_sipush C.1 C.2.1 hd hv (kk p e s m args below meth c H locs ls A C h1 h2 hP hD hS)
theorem i_lconst {x : Fin 2} (v : Int64) (hd : decode Y.2.1 pc = .ok (.lconst x, 1)) (hv : Int64.ofNat (x : Nat) = v) (kk : WI D J l Y rm h0 E (pc + 1) (.long v :: st) ws k n) : WI D J l Y rm h0 E pc st ws k n := by
  intro p e s m args below meth c H locs ls A C h1 h2 hP hD hS
  exact lv_lconst C.1 C.2.1 hd hv (kk p e s m args below meth c H locs ls A C h1 h2 hP hD hS)
theorem i_dup {v : Value} (hv : v.category = 1) (hd : decode Y.2.1 pc = .ok (.dup, 1)) (kk : WI D J l Y rm h0 E (pc + 1) (v :: v :: st) ws k n) : WI D J l Y rm h0 E pc (v :: st) ws k n := by
  intro p e s m args below meth c H locs ls A C h1 h2 hP hD hS
  exact lv_dup C.1 C.2.1 hd hv (kk p e s m args below meth c H locs ls A C h1 h2 hP hD hS)
theorem i_obj {idx : Nat} (hl : Cond.methodLink Y.1.cls idx objectInit ∈ lw_gt) (hf : 1 ≤ rm.frames) (hlo : 12 ≤ rm.locals) (hd : decode Y.2.1 pc = .ok (.invokespecial idx, 3)) (kk : WI D J l Y rm h0 E (pc + 3) [] ws k n) : WI D J l Y rm h0 E pc [.ref h0] ws k n := by
  intro p e s m args below meth c H locs ls A C h1 h2 hP hD hS
  refine W.objInit C.1 C.2.1 C.2.2.2.2.1 (C.2.2.2.2.2.1 _ hl) (C.2.2.2.2.2.1 (.instanceMethod objectInit) (gt_i 74 (by decide +kernel) rfl)) (C.2.2.2.2.2.1 (.code objectInit ⟨#[0xb1]⟩ 1 none) (gt_i 75 (by decide +kernel) rfl)) rfl (h1.trans C.2.2.2.1.symm) rfl hd hf ?_ ?_
  · show 2 * 0 + 0 + 12 ≤ rm.locals
    omega
  · exact kk p e s m args below meth c H locs ls A C h1 h2 hP hD hS
theorem i_newq {v : Int32} {idx : Nat} (N : Nat) (h0v : ¬ v < 0) (hN : v.toNatClampNeg = N) (hb : N * 4 ≤ 536870912) (hl : Cond.classLink Y.1.cls idx RX0 ∈ lw_gt) (hk : k + 1 ≤ rm.cells) (hn : n + N ≤ rm.slots) (hd : decode Y.2.1 pc = .ok (.anewarray idx, 3)) (kk : ∀ q, WI D J l Y rm h0 E (pc + 3) (.ref q :: st) (ws ++ [(q, .inl (J.2.2, N, .inr (.inr (.inr (.inr (fun _ => none))))))]) (k + 1) (n + N)) : WI D J l Y rm h0 E pc (.int v :: st) ws k n := by
  intro p e s m args below meth c H locs ls A C h1 h2 hP hD hS
  have hK := C.2.2.2.2.2.2.2.1.1
  refine va_newq (C := RX0) C.1 C.2.1 C.2.2.2.2.1 (C.2.2.2.2.2.1 _ hl) C.2.2.2.2.2.2.2.1.2.1 hK hP hD hS C.2.2.2.2.2.2.2.2.2 h0v hN hb hk hn hd (fun q cA H1 hK1 hP1 hD1 hS1 => ?_)
  have e1 : cA = J.2.2 := by
    obtain ⟨_, _, -, -, -, f1⟩ := (hK1.2 3 _ rfl).2
    obtain ⟨_, _, -, -, -, f2⟩ := (hK.2 2 _ rfl).2
    exact Option.some.inj (f1.symm.trans f2)
  subst e1
  exact kk q p e s m args below meth c H1 locs ls A C h1 h2 hP1 hD1 hS1
theorem i_new {idx ci N : Nat} {Cn : String} {T : u_T} {tyf : Nat → FieldType} (fs : List Value) (hcl : vwCl[ci]? = some (Cn, T, N)) (hin : ∀ w ∈ u_ws Cn T N, w ∈ lw_gt) (hty : ∀ k, k < N → parseFieldDescriptor (T k).2.2.1 = some (tyf k)) (hl : Cond.classLink Y.1.cls idx Cn ∈ lw_gt) (hi : Cond.instantiable Cn N ∈ lw_gt) (ht : Cond.initialized Cn ∈ lw_gt) (hfs : ∀ j, j < N → defaultValue (tyf j) = vp_V fs j) (hk : k + 1 ≤ rm.cells) (hn : n + N ≤ rm.slots) (hd : decode Y.2.1 pc = .ok (.new idx, 3)) (kk : ∀ q, WI D J l Y rm h0 E (pc + 3) (.ref q :: st) (ws ++ [(q, .inr (ci, fs))]) (k + 1) (n + N)) : WI D J l Y rm h0 E pc st ws k n := by
  intro p e s m args below meth c H locs ls A C h1 h2 hP hD hS
  refine va_new (fs := fs) C.1 C.2.1 C.2.2.2.2.2.1 hin tyf hty C.2.2.2.2.1 (C.2.2.2.2.2.1 _ hl) (C.2.2.2.2.2.1 _ hi) (C.2.2.2.2.2.1 _ ht) C.2.2.2.2.2.2.2.1.1 hP hD hS C.2.2.2.2.2.2.2.2.2 hcl hfs hk hn hd (fun q H1 hP1 hD1 hS1 => ?_)
  exact kk q p e s m args below meth c H1 locs ls A C h1 h2 hP1 hD1 hS1
theorem i_putF {kf idx ci N : Nat} {T : u_T} {tyf : Nat → FieldType} {fs : List Value} {v : Value} {w : va_W} (hcl : vwCl[ci]? = some (Y.1.cls, T, N)) (hin : ∀ w ∈ u_ws Y.1.cls T N, w ∈ lw_gt) (hty : ∀ k, k < N → parseFieldDescriptor (T k).2.2.1 = some (tyf k)) (hnm : ∀ a, a < N → ∀ b, b < N → a ≠ b → (T a).2.1 ≠ (T b).2.1) (hkf : kf < N) (hfin : (T kf).2.2.2 = true) (hown : (T kf).1 = Y.1.cls) (hlink : Cond.fieldLink Y.1.cls idx (T kf).1 (T kf).2.1 (T kf).2.2.1 ∈ lw_gt) (hnr : narrow (tyf kf) v = v) (hft : fits (tyf kf) v = true) (hlen : kf < fs.length) (hd : decode Y.2.1 pc = .ok (.putfield idx, 3)) (kk : WI D J l Y rm h0 E (pc + 3) st ((h0, .inr (ci, fs.set kf v)) :: w) k n) : WI D J l Y rm h0 E pc (v :: .ref h0 :: st) ((h0, .inr (ci, fs)) :: w) k n := by
  intro p e s m args below meth c H locs ls A C h1 h2 hP hD hS
  refine va_putF (ref := (T kf).1) (ty := tyf kf) (v := v) (fs := fs) C.1 C.2.1 C.2.2.2.2.2.1 hin tyf hty hnm C.2.2.2.2.1 C.2.2.2.2.2.2.2.1.1 hP hD hS 0 rfl hcl kf hkf (C.2.2.2.2.2.1 _ hlink) (fun _ h => h) hfin C.2.2.2.2.2.2.2.2.1 hown (hty kf hkf) hnr hft hlen hd (fun H1 locs1 hP1 hD1 hS1 => ?_)
  exact kk p e s m args below meth c H1 locs1 ls A C h1 h2 hP1 hD1 hS1
theorem i_put {kf idx ci N : Nat} {T : u_T} {tyf : Nat → FieldType} {fs : List Value} {v : Value} {w : va_W} (hcl : vwCl[ci]? = some (Y.1.cls, T, N)) (hin : ∀ w ∈ u_ws Y.1.cls T N, w ∈ lw_gt) (hty : ∀ k, k < N → parseFieldDescriptor (T k).2.2.1 = some (tyf k)) (hnm : ∀ a, a < N → ∀ b, b < N → a ≠ b → (T a).2.1 ≠ (T b).2.1) (hkf : kf < N) (hfin : (T kf).2.2.2 = false) (hlink : Cond.fieldLink Y.1.cls idx (T kf).1 (T kf).2.1 (T kf).2.2.1 ∈ lw_gt) (hnr : narrow (tyf kf) v = v) (hft : fits (tyf kf) v = true) (hlen : kf < fs.length) (hd : decode Y.2.1 pc = .ok (.putfield idx, 3)) (kk : WI D J l Y rm h0 E (pc + 3) st ((h0, .inr (ci, fs.set kf v)) :: w) k n) : WI D J l Y rm h0 E pc (v :: .ref h0 :: st) ((h0, .inr (ci, fs)) :: w) k n := by
  intro p e s m args below meth c H locs ls A C h1 h2 hP hD hS
  refine va_put (ref := (T kf).1) (ty := tyf kf) (v := v) (fs := fs) C.1 C.2.1 C.2.2.2.2.2.1 hin tyf hty hnm C.2.2.2.2.1 C.2.2.2.2.2.2.2.1.1 hP hD hS 0 rfl hcl kf hkf (C.2.2.2.2.2.1 _ hlink) (fun _ h => h) hfin (hty kf hkf) hnr hft hlen hd (fun H1 locs1 hP1 hD1 hS1 => ?_)
  exact kk p e s m args below meth c H1 locs1 ls A C h1 h2 hP1 hD1 hS1
theorem i_aast {a q : Nat} {v : Int32} {N : Nat} {f : Nat → Option Nat} {vs : List Value} {ws2 : va_W} (qa qk : Nat) (ha : ws[qa]? = some (a, .inl (J.2.2, N, .inr (.inr (.inr (.inr f)))))) (hq : ws[qk]? = some (q, .inr (0, vs))) (hin : vp_in v N) (hd : decode Y.2.1 pc = .ok (.aastore, 1)) (hw : ws.set qa (a, .inl (J.2.2, N, .inr (.inr (.inr (.inr (va_up f v.toNatClampNeg (some q))))))) = ws2) (kk : WI D J l Y rm h0 E (pc + 1) st ws2 k n) : WI D J l Y rm h0 E pc (.ref q :: .int v :: .ref a :: st) ws k n := by
  intro p e s m args below meth c H locs ls A C h1 h2 hP hD hS
  refine va_astq (r := (RX0, TX0, 14)) C.1 C.2.1 C.2.2.2.2.2.2.2.1.1 hP hD hS qa 2 qk 0 ha rfl hq rfl hin hd (fun H1 locs1 hP1 hD1 hS1 => ?_)
  rw [hw] at hP1 hD1
  exact kk p e s m args below meth c H1 locs1 ls A C h1 h2 hP1 hD1 hS1
theorem joinA {A0 : Nat → Prop} {w1 : va_W} {q : Nat} {e : va_E} {H H1 : Heap} (hP : va_P D vwCl (ws ++ [(q, e)]) H) (hD : va_D A0 (ws ++ [(q, e)])) (hk : ∀ x : Nat, x < H.size → ¬ va_A [(q, e)] H.size x → H1[x]? = H[x]?) (hF : ∀ x, va_A [(q, e)] H.size x → A0 x) (hP1 : va_P D vwCl w1 H1) (hD1 : va_D (va_A [(q, e)] H.size) w1) : va_P D vwCl (ws ++ w1) H1 ∧ va_D A0 (ws ++ w1) := by
  have inl : ∀ (i : Nat) (x : Nat × va_E), ws[i]? = some x → (ws ++ [(q, e)])[i]? = some x := fun i x hx => by
    rw [List.getElem?_append_left (List.getElem?_eq_some_iff.mp hx).1]
    exact hx
  have apart : ∀ (i : Nat) (x : Nat × va_E), ws[i]? = some x → x.1 < H.size ∧ ¬ va_A [(q, e)] H.size x.1 := by
    intro i x hx
    have hl := (hP i x (inl i x hx)).lt
    refine ⟨hl, fun h => ?_⟩
    rcases h with ⟨k2, e2, h⟩ | h
    · have hk2 : k2 = 0 := by
        have := (List.getElem?_eq_some_iff.mp h).1
        simp at this
        exact this
      subst hk2
      have hq : (q, e) = (x.1, e2) := Option.some.inj h
      have hi := hD.1 i ws.length x (q, e) (inl i x hx) (by simp) (by rw [← (Prod.mk.inj hq).1])
      have := (List.getElem?_eq_some_iff.mp hx).1
      omega
    · omega
  have hDw : va_D A0 ws := ⟨fun i j x y hi hj hxy => hD.1 i j x y (inl i x hi) (inl j y hj) hxy, fun i x hi => hD.2 i x (inl i x hi)⟩
  refine ⟨va_P.app (fun i x hx => ?_) hP1, va_D.app hDw (hD1.weaken (fun i x _ h => hF x.1 h)) (fun i j x y hx hy hxy => ?_)⟩
  · obtain ⟨g1, g2⟩ := apart i x hx
    exact (hP i x (inl i x hx)).kept (hk x.1 g1 g2)
  · exact (apart i x hx).2 (by rw [hxy]; exact hD1.2 j y hy)
theorem i_call {Yc : gY} {rc : Room} {Ec : (Nat → Nat) → va_W} {e0 : va_E} {idx q : Nat} (hC : IT D J l Yc rc Ec e0) (hcode : Cond.code Yc.1 Yc.2.1 Yc.2.2.1 Yc.2.2.2 ∈ lw_gt) (hret : Yc.2.2.2 = none) (hnm : Yc.1.name = "<init>") (hin : Cond.instanceMethod Yc.1 ∈ lw_gt) (hini : Cond.initialized Yc.1.cls ∈ lw_gt) (hdn : Yc.1.cls ≠ "java/lang/invoke/MethodHandle" ∧ Yc.1.cls ≠ "java/lang/invoke/VarHandle" ∧ (parseMethodDescriptor Yc.1.desc).map (fun d => d.parameters.length) = some 0) (hl : ∀ s, KK D J s → va_Nw (.methodLinkNest Y.1.cls idx Yc.1 RX4) s) (hR : rc.frames + 1 ≤ rm.frames ∧ 8 + (Yc.2.2.1 + 11) + rc.locals ≤ rm.locals) (hst : (st.map fun v => v.category).sum ≤ 8) (hk : k + rc.cells ≤ rm.cells) (hn : n + rc.slots ≤ rm.slots) (hd : decode Y.2.1 pc = .ok (.invokespecial idx, 3)) (kk : ∀ f : Nat → Nat, f 0 = q → WI D J l Y rm h0 E (pc + 3) st (ws ++ Ec f) (k + rc.cells) (n + rc.slots)) : WI D J l Y rm h0 E pc (.ref q :: st) (ws ++ [(q, e0)]) k n := by
  intro p e s m args below meth c H locs ls A C h1 h2 hP hD hS
  have hts := C.2.2.2.2.2.1
  have hwg : ∀ w ∈ wsY Yc, w ∈ lw_gt := wsY_good hcode
  have cw : va_CN rm s args Y.1.cls idx Yc.1 RX4 Yc.2.1 Yc.2.2.1 none (wsY Yc) rc rc.cells rc.slots 0 :=
    va_cnB 0 hts (gtIn hwg) (by unfold wsY; rw [hret]) rfl rfl (hl s C.2.2.2.2.2.2.2.1) (hts _ hini) hdn hR
  have hPq : va_P D vwCl [(q, e0)] H := fun i x hx => by
    have hi : i = 0 := by
      have := (List.getElem?_eq_some_iff.mp hx).1
      simp at this
      exact this
    subst hi
    refine hP ws.length x ?_
    rw [List.getElem?_append_right (Nat.le_refl _), Nat.sub_self]
    exact hx
  have hF : ∀ x, va_A [(q, e0)] H.size x → A x := by
    intro x h
    rcases h with ⟨k2, e2, h⟩ | h
    · have hk2 : k2 = 0 := by
        have := (List.getElem?_eq_some_iff.mp h).1
        simp at this
        exact this
      subst hk2
      exact hD.2 ws.length (x, e2) (by
        rw [List.getElem?_append_right (Nat.le_refl _), Nat.sub_self]
        exact h)
    · exact C.2.2.2.2.2.2.2.2.2 x (Nat.le_trans hS.1 h)
  refine va_callv (va_runIN (As := []) (rest := st) ⟨C.1, C.2.1, C.2.2.2.1, C.2.2.2.2.1, hts⟩ (hC q H.size) ⟨cw, hnm, hts _ hin⟩ ⟨fun a U g mk z => ⟨z.1, z.2.1, z.2.2.1, KK.blind rfl z.2.2.2⟩, fun U hU hW => ⟨rfl, by rw [hU], by rw [hU]; exact hPq, KK.warm hW C.2.2.2.2.2.2.2.1⟩⟩ rfl rfl h1 rfl (lv_room hst) hd ⟨hk, hn⟩) hS (fun x _ h => hF x h) hF (fun f t H1 locs1 ht hvm hf hB hz1 hk1 hS1 => ?_)
  rw [ht] at hB
  obtain ⟨hP2, hD2⟩ := joinA hP hD hk1 hF hB.1 hB.2
  exact kk f hf p e s m args below meth c H1 locs1 ls A C h1 h2 hP2 hD2 hS1
theorem i_sub {ws2 : va_W} (is : List Nat) (hs : is.map (fun i => ws[i]?) = ws2.map some) (hn : va_nd is = true) (kk : WI D J l Y rm h0 E pc st ws2 k n) : WI D J l Y rm h0 E pc st ws k n := by
  intro p e s m args below meth c H locs ls A C h1 h2 hP hD hS
  refine kk p e s m args below meth c H locs ls A C h1 h2 (fun i x hx => ?_) (hD.sub is hn hs) hS
  have h3 : (is.map (fun i => ws[i]?))[i]? = some (some x) := by rw [hs, List.getElem?_map, hx]; rfl
  rw [List.getElem?_map] at h3
  cases hi : is[i]? with
  | none => rw [hi] at h3; cases h3
  | some j => rw [hi] at h3; exact hP j x (Option.some.inj h3)
theorem i_ws {ws2 : va_W} (hw : ws = ws2) (kk : WI D J l Y rm h0 E pc st ws2 k n) : WI D J l Y rm h0 E pc st ws k n := hw ▸ kk
theorem i_ret (f : Nat → Nat) (hf : f 0 = h0) (hw : ws = E f) (hr : Y.2.2.2 = none) (hk : k ≤ rm.cells) (hn : n ≤ rm.slots) (hd : decode Y.2.1 pc = .ok (.return_, 1)) : WI D J l Y rm h0 E pc [] ws k n := by
  intro p e s m args below meth c H locs ls A C h1 h2 hP hD hS
  subst hw
  refine W.widen hk hn ?_
  exact W.vret C.1 C.2.1 (C.2.2.1.trans hr) (fun t ht hW => ⟨⟨f, rfl, hf, by rw [ht]; exact hP, hD⟩, hS.F ht⟩) hS.2.2 hd C.2.2.2.2.2.2.1
end ICALL
