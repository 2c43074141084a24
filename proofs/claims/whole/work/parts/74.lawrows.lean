/-! THE CLAIM OUT OF ONE WALK OF THE LAW'S BODY. Your part is whole_start (and what it stands on); all else here is the same for every law, but numbers. -/
def R_law : String := "HailVotesLaw"
def lw_P (b : Addr) (xs : List Int32) (args : Array Value) (s : State) : Prop := args = #[.ref b] ∧ s.IntsAt b xs ∧ xs.length ≤ 3584 ∧ (Jvm.Cond.and given_1 narrow_1).before args s = true
def lw_Q (_ : Array Value) (s : State) (o : Outcome) (t : State) : Prop := o = .returned (some (.int 1)) ∧ Framed s o t [] 180 3276
def lw_Z (below : List Frame) (a : Array Value) (s : State) : State → Prop := fun t => ∃ o, t.status = .running ∧ Ended t below o ∧ lw_Q a s o t
/-- the law's own end, with 1 on the stack, nothing written that was there before, its room as the claim has it -/
theorem lw_ret {p : Program} {l : Launch} {e : Env} {s : State} {m : MethodId} {below : List Frame} {meth : Method} {c : Code} {b : Nat} (hx : p.tables.exec = Jvm.exec) (hb : c.code = code) (hr : meth.sig.returnType = ret) (hlocks : meth.locks = false) {pc : Nat} {H : Heap} {ls : Array Slot} (hdg : decode code pc = .ok (.ireturn, 1)) : W p l e room_1 s m #[Value.ref b] below meth c H [] 180 3276 (lw_Z below #[Value.ref b] s) (F0 m pc ls [.int 1]) := by
  intro T hT X
  obtain ⟨fs, hret, hrun, hended, hW, hframe⟩ := X.leave (v := some (.int 1)) (hlocks := hlocks) (fun h => by rw [hr] at h; cases h)
  have hmeth' : T.vm.method? m = some meth := X.method'
  refine ⟨T.setFrames fs, ?_, .returned (some (.int 1)), hrun, hended, rfl, ⟨_, rfl⟩, hW, hframe⟩
  jvm_step X.here [X.here.top, hx, hb, hdg, hmeth', hr, ret, narrow_b1]
  (try refine ⟨rfl, ?_⟩); (try refine ⟨rfl, ?_⟩)
  first | (intro acts; rw [hret _ acts rfl rfl rfl]) | rw [hret _ _ rfl rfl rfl]
  exact Steps.refl _
/-- what holds at the law's entry: the machine, the code, the tables' words (any of lw_tbl by 'hts w (by decide +kernel)'), the script of L ints xs at the cell b, what the Statement gives of the start (any of its parts by flat_of_before) -/
def lw_At (p : Program) (s : State) (m : MethodId) (meth : Method) (c : Code) (b L : Nat) (xs : Nat → Int32) : Prop :=
  p.tables.exec = Jvm.exec ∧ c.code = code ∧ meth.sig.returnType = ret ∧ c.maxLocals = 4 ∧ s.vm.findClass R_law = some m.cls ∧ (∀ w ∈ lw_tbl, w.before #[Value.ref b] s = true) ∧ va_X b L xs s s.heap ∧ b < s.heap.size ∧ meth.locks = false ∧ (Jvm.Cond.and given_1 narrow_1).before #[Value.ref b] s = true
/-- what holds all through the law: the machine, the script, the 180 cells apart from all that was there before -/
def LC (g : gG) (b L : Nat) (xs : Nat → Int32) (p : Program) (s : State) (m : MethodId) (meth : Method) (c : Code) : Prop :=
  p.tables.exec = Jvm.exec ∧ c.code = cL_law ∧ meth.sig.returnType = ret ∧ c.maxLocals = 4 ∧ s.vm.findClass RL = some m.cls ∧ (∀ w ∈ lw_gt, w.before #[Value.ref b] s = true) ∧ va_X b L xs s s.heap ∧ b < s.heap.size ∧ meth.locks = false ∧ wK g s ∧ gOK g ∧ (∀ i, i < 180 → s.heap.size ≤ g.1 i) ∧ g.1 3000 = b
def LW (g : gG) (l : Launch) (b L : Nat) (xs : Nat → Int32) (pc : Nat) (lv : List (Option gA)) (st : List gA) (μ : gM) : Prop :=
  ∀ (p : Program) (e : Env) (s : State) (m : MethodId) (below : List Frame) (meth : Method) (c : Code) (H : Heap) (locs : List Loc) (ls : Array Slot),
    LC g b L xs p s m meth c → LV g ls 4 lv → va_P g.2.1 vwCl (wl g μ) H → va_S (wA g) s.heap H locs →
    W p l e room_1 s m #[Value.ref b] below meth c H locs 180 3276 (lw_Z below #[Value.ref b] s) (F0 m pc ls (st.map (cv g)))
theorem q_iconst {g : gG} {l : Launch} {b L : Nat} {xs : Nat → Int32} {pc : Nat} {lv : List (Option gA)} {st : List gA} {μ : gM} {n : Int} (hd : decode cL_law pc = .ok (.iconst n, 1)) (kk : LW g l b L xs (pc + 1) lv (vI n :: st) μ) : LW g l b L xs (pc) lv (st) μ := by
  intro p en s m below meth c H locs ls C V hP hS
  exact lv_iconst C.1 C.2.1 hd rfl (kk p en s m below meth c H locs ls C V hP hS)
theorem q_bipush {g : gG} {l : Launch} {b L : Nat} {xs : Nat → Int32} {pc : Nat} {lv : List (Option gA)} {st : List gA} {μ : gM} {n : Int} (hd : decode cL_law pc = .ok (.bipush n, 2)) (hn : (Int8.ofInt n).toInt32 = iI n) (kk : LW g l b L xs (pc + 2) lv (vI n :: st) μ) : LW g l b L xs (pc) lv (st) μ := by
  intro p en s m below meth c H locs ls C V hP hS
  exact lv_bipush C.1 C.2.1 hd hn (kk p en s m below meth c H locs ls C V hP hS)
theorem q_ldc2 {g : gG} {l : Launch} {b L : Nat} {xs : Nat → Int32} {pc : Nat} {lv : List (Option gA)} {st : List gA} {μ : gM} {i : Nat} {x : Int64} (v : Int) (hw : Cond.constantLong RL i x ∈ lw_gt) (hd : decode cL_law pc = .ok (.ldc2_w i, 3)) (hn : x = lI v) (kk : LW g l b L xs (pc + 3) lv (vL v :: st) μ) : LW g l b L xs (pc) lv (st) μ := by
  intro p en s m below meth c H locs ls C V hP hS
  subst hn
  exact lv_ldc2 C.1 C.2.1 C.2.2.2.2.1 (C.2.2.2.2.2.1 _ hw) hd (kk p en s m below meth c H locs ls C V hP hS)
theorem q_iload_n {g : gG} {l : Launch} {b L : Nat} {xs : Nat → Int32} {pc : Nat} {lv : List (Option gA)} {st : List gA} {μ : gM} {k : Fin 4} {e : Int} (hd : decode cL_law pc = .ok (.iload_n k, 1)) (hl : lv[(k : Nat)]? = some (some (vI e))) (kk : LW g l b L xs (pc + 1) lv (vI e :: st) μ) : LW g l b L xs (pc) lv (st) μ := by
  intro p en s m below meth c H locs ls C V hP hS
  exact lv_iload_n C.1 C.2.1 hd rfl (V.2.2 _ _ hl) (kk p en s m below meth c H locs ls C V hP hS)
theorem q_aload_n {g : gG} {l : Launch} {b L : Nat} {xs : Nat → Int32} {pc : Nat} {lv : List (Option gA)} {st : List gA} {μ : gM} {k : Fin 4} {e : Nat} (hd : decode cL_law pc = .ok (.aload_n k, 1)) (hl : lv[(k : Nat)]? = some (some (vR e))) (kk : LW g l b L xs (pc + 1) lv (vR e :: st) μ) : LW g l b L xs (pc) lv (st) μ := by
  intro p en s m below meth c H locs ls C V hP hS
  exact lv_aload_n C.1 C.2.1 hd rfl (V.2.2 _ _ hl) (kk p en s m below meth c H locs ls C V hP hS)
theorem q_iinc {g : gG} {l : Launch} {b L : Nat} {xs : Nat → Int32} {pc : Nat} {lv : List (Option gA)} {st : List gA} {μ : gM} {k : Nat} {n e : Int} (hd : decode cL_law pc = .ok (.iinc k n, 3)) (hl : lv[k]? = some (some (vI e))) (hn : k < 4) (ho : nl lv k = true) (kk : LW g l b L xs (pc + 3) (lv.set k (some (vI (e + n)))) (st) μ) : LW g l b L xs (pc) lv (st) μ := by
  intro p en s m below meth c H locs ls C V hP hS
  obtain ⟨j, hj⟩ := List.getElem?_of_mem ((ol_mem g lv 0 (k, cv g (vI e))).mpr ⟨k, vI e, by simp, hl, rfl⟩)
  refine lv_iinc (x := iI e) (v := iI (e + n)) C.1 C.2.1 hd V.has (k := j) hj (iI_add e n) hn rfl (fun ls2 h2 => ?_)
  exact kk p en s m below meth c H locs ls2 C (LV.set1 (v := vI (e + n)) ho h2) hP hS
theorem q_iadd {g : gG} {l : Launch} {b L : Nat} {xs : Nat → Int32} {pc : Nat} {lv : List (Option gA)} {st : List gA} {μ : gM} {a y : Int} (hd : decode cL_law pc = .ok (.iadd, 1)) (kk : LW g l b L xs (pc + 1) lv (vI (a + y) :: st) μ) : LW g l b L xs (pc) lv (vI y :: vI a :: st) μ := by
  intro p en s m below meth c H locs ls C V hP hS
  refine lv_iadd (x := iI a) (y := iI y) C.1 C.2.1 hd ?_
  rw [iI_add]
  exact kk p en s m below meth c H locs ls C V hP hS
theorem q_isub {g : gG} {l : Launch} {b L : Nat} {xs : Nat → Int32} {pc : Nat} {lv : List (Option gA)} {st : List gA} {μ : gM} {a y : Int} (hd : decode cL_law pc = .ok (.isub, 1)) (kk : LW g l b L xs (pc + 1) lv (vI (a - y) :: st) μ) : LW g l b L xs (pc) lv (vI y :: vI a :: st) μ := by
  intro p en s m below meth c H locs ls C V hP hS
  refine lv_isub (x := iI a) (y := iI y) C.1 C.2.1 hd ?_
  rw [iI_sub]
  exact kk p en s m below meth c H locs ls C V hP hS
theorem q_iand {g : gG} {l : Launch} {b L : Nat} {xs : Nat → Int32} {pc : Nat} {lv : List (Option gA)} {st : List gA} {μ : gM} {a y : Int} (hd : decode cL_law pc = .ok (.iand, 1)) (kk : LW g l b L xs (pc + 1) lv (vI (bAnd a y) :: st) μ) : LW g l b L xs (pc) lv (vI y :: vI a :: st) μ := by
  intro p en s m below meth c H locs ls C V hP hS
  refine lv_iand (x := iI a) (y := iI y) C.1 C.2.1 hd ?_
  have h := kk p en s m below meth c H locs ls C V hP hS
  have e2 : cv g (vI (bAnd a y)) = .int (iI a &&& iI y) := congrArg Value.int (iI_of _)
  rw [List.map_cons, e2] at h
  exact h
theorem q_i2l {g : gG} {l : Launch} {b L : Nat} {xs : Nat → Int32} {pc : Nat} {lv : List (Option gA)} {st : List gA} {μ : gM} {a : Int} (ha : -2147483648 ≤ a ∧ a < 2147483648) (hd : decode cL_law pc = .ok (.i2l, 1)) (kk : LW g l b L xs (pc + 1) lv (vL a :: st) μ) : LW g l b L xs (pc) lv (vI a :: st) μ := by
  intro p en s m below meth c H locs ls C V hP hS
  exact lv_i2l C.1 C.2.1 hd (iI_l ha) (kk p en s m below meth c H locs ls C V hP hS)
theorem q_land {g : gG} {l : Launch} {b L : Nat} {xs : Nat → Int32} {pc : Nat} {lv : List (Option gA)} {st : List gA} {μ : gM} {a y : Int} (hd : decode cL_law pc = .ok (.land, 1)) (kk : LW g l b L xs (pc + 1) lv (vL (lAnd a y) :: st) μ) : LW g l b L xs (pc) lv (vL y :: vL a :: st) μ := by
  intro p en s m below meth c H locs ls C V hP hS
  refine lv_land (x := lI a) (y := lI y) C.1 C.2.1 hd ?_
  have h := kk p en s m below meth c H locs ls C V hP hS
  have e2 : cv g (vL (lAnd a y)) = .long (lI a &&& lI y) := congrArg Value.long (lI_of _)
  rw [List.map_cons, e2] at h
  exact h
theorem q_lor {g : gG} {l : Launch} {b L : Nat} {xs : Nat → Int32} {pc : Nat} {lv : List (Option gA)} {st : List gA} {μ : gM} {a y : Int} (hd : decode cL_law pc = .ok (.lor, 1)) (kk : LW g l b L xs (pc + 1) lv (vL (lOr a y) :: st) μ) : LW g l b L xs (pc) lv (vL y :: vL a :: st) μ := by
  intro p en s m below meth c H locs ls C V hP hS
  refine lv_lor (x := lI a) (y := lI y) C.1 C.2.1 hd ?_
  have h := kk p en s m below meth c H locs ls C V hP hS
  have e2 : cv g (vL (lOr a y)) = .long (lI a ||| lI y) := congrArg Value.long (lI_of _)
  rw [List.map_cons, e2] at h
  exact h
theorem q_lshl {g : gG} {l : Launch} {b L : Nat} {xs : Nat → Int32} {pc : Nat} {lv : List (Option gA)} {st : List gA} {μ : gM} {a y : Int} (hd : decode cL_law pc = .ok (.lshl, 1)) (kk : LW g l b L xs (pc + 1) lv (vL (lShl a y) :: st) μ) : LW g l b L xs pc lv (vI y :: vL a :: st) μ := by
  intro p en s m below meth c H locs ls C V hP hS
  refine lv_lshl (x := lI a) (y := iI y) C.1 C.2.1 hd rfl ?_
  have h := kk p en s m below meth c H locs ls C V hP hS
  have e2 : cv g (vL (lShl a y)) = .long (lI a <<< ((iI y).toInt64 &&& 63)) := congrArg Value.long (lI_of _)
  rw [List.map_cons, e2] at h
  exact h
theorem q_goto {g : gG} {l : Launch} {b L : Nat} {xs : Nat → Int32} {pc : Nat} {lv : List (Option gA)} {st : List gA} {μ : gM} {off : Int} {tgt : Nat} (hd : decode cL_law pc = .ok (.goto off, 3)) (ht : (pc : Int) + off = (tgt : Int)) (kk : LW g l b L xs (tgt) lv (st) μ) : LW g l b L xs (pc) lv (st) μ := by
  intro p en s m below meth c H locs ls C V hP hS
  exact lv_goto C.1 C.2.1 hd ht (kk p en s m below meth c H locs ls C V hP hS)
theorem q_icmp_gt {g : gG} {l : Launch} {b L : Nat} {xs : Nat → Int32} {pc : Nat} {lv : List (Option gA)} {st : List gA} {μ : gM} {a y : Int} {off : Int} {tgt : Nat} (ha : -2147483648 ≤ a ∧ a < 2147483648) (hb : -2147483648 ≤ y ∧ y < 2147483648) (hd : decode cL_law pc = .ok (.if_icmp .gt off, 3)) (ht : (pc : Int) + off = (tgt : Int)) (kt : y < a → LW g l b L xs (tgt) lv (st) μ) (kf : ¬ (y < a) → LW g l b L xs (pc + 3) lv (st) μ) : LW g l b L xs (pc) lv (vI y :: vI a :: st) μ := by
  intro p en s m below meth c H locs ls C V hP hS
  have hi := iI_lt hb ha
  exact lv_icmp_gt (x := iI a) (y := iI y) C.1 C.2.1 hd ht (fun h => kt (hi.mp h) p en s m below meth c H locs ls C V hP hS) (fun h => kf (fun q => h (hi.mpr q)) p en s m below meth c H locs ls C V hP hS)
theorem q_if_eq {g : gG} {l : Launch} {b L : Nat} {xs : Nat → Int32} {pc : Nat} {lv : List (Option gA)} {st : List gA} {μ : gM} {a : Int} {off : Int} {tgt : Nat} (ha : -2147483648 ≤ a ∧ a < 2147483648) (hd : decode cL_law pc = .ok (.ifCond .eq off, 3)) (ht : (pc : Int) + off = (tgt : Int)) (kt : a = 0 → LW g l b L xs (tgt) lv (st) μ) (kf : ¬ (a = 0) → LW g l b L xs (pc + 3) lv (st) μ) : LW g l b L xs (pc) lv (vI a :: st) μ := by
  intro p en s m below meth c H locs ls C V hP hS
  have hi := iI_eq ha (show -2147483648 ≤ (0 : Int) ∧ (0 : Int) < 2147483648 by decide)
  exact lv_if_eq (x := iI a) C.1 C.2.1 hd ht (fun h => kt (hi.mp h) p en s m below meth c H locs ls C V hP hS) (fun h => kf (fun q => h (hi.mpr q)) p en s m below meth c H locs ls C V hP hS)
theorem q_tableOut {g : gG} {l : Launch} {b L : Nat} {xs : Nat → Int32} {pc : Nat} {lv : List (Option gA)} {st : List gA} {μ : gM} {dflt lo hi : Int} {offs : Array Int} {len : Nat} {a : Int} {tgt : Nat} (ha : -2147483648 ≤ a ∧ a < 2147483648) (hd : decode cL_law pc = .ok (.tableswitch dflt lo hi offs, len)) (h : a < lo ∨ hi < a) (ht : (pc : Int) + dflt = (tgt : Int)) (kk : LW g l b L xs (tgt) lv (st) μ) : LW g l b L xs (pc) lv (vI a :: st) μ := by
  intro p en s m below meth c H locs ls C V hP hS
  exact lv_tableOut (x := iI a) C.1 C.2.1 hd (by rw [iI_toInt ha]; exact h) ht (kk p en s m below meth c H locs ls C V hP hS)
theorem q_tableIn {g : gG} {l : Launch} {b L : Nat} {xs : Nat → Int32} {pc : Nat} {lv : List (Option gA)} {st : List gA} {μ : gM} {dflt lo hi : Int} {offs : Array Int} {len : Nat} {a off : Int} (v : Int) {tgt : Nat} (hd : decode cL_law pc = .ok (.tableswitch dflt lo hi offs, len)) (hv : a = v) (hr : -2147483648 ≤ v ∧ v < 2147483648) (h : ¬ v < lo ∧ ¬ hi < v) (ho : offs[(v - lo).toNat]? = some off) (ht : (pc : Int) + off = (tgt : Int)) (kk : LW g l b L xs (tgt) lv (st) μ) : LW g l b L xs (pc) lv (vI a :: st) μ := by
  intro p en s m below meth c H locs ls C V hP hS
  subst hv
  exact lv_tableIn (x := iI a) C.1 C.2.1 hd (by rw [iI_toInt hr]; exact h.1) (by rw [iI_toInt hr]; exact h.2) (by rw [iI_toInt hr]; exact ho) ht (kk p en s m below meth c H locs ls C V hP hS)
theorem q_nA {g : gG} {b L : Nat} {xs : Nat → Int32} {p : Program} {s : State} {m : MethodId} {meth : Method} {c : Code} (C : LC g b L xs p s m meth c) : ¬ wA g b := by
  rintro ⟨i, h1, h2⟩
  have h3 := C.2.2.2.2.2.2.2.2.2.2.2.1 i h1
  have h4 := C.2.2.2.2.2.2.2.1
  omega
theorem q_eqI {g : gG} {l : Launch} {b L : Nat} {xs : Nat → Int32} {pc : Nat} {lv : List (Option gA)} {st : List gA} {μ : gM} {a : Int} {off : Int} {tgt : Nat} (hd : decode cL_law pc = .ok (.if_icmp .eq off, 3)) (ht : (pc : Int) + off = (tgt : Int)) (kk : LW g l b L xs tgt lv st μ) : LW g l b L xs pc lv (vI a :: vI a :: st) μ := by
  intro p en s m below meth c H locs ls C V hP hS
  exact lv_icmp_eq (x := iI a) (y := iI a) C.1 C.2.1 hd ht (fun h => kk p en s m below meth c H locs ls C V hP hS) (fun h => absurd rfl h)
theorem q_eqL {g : gG} {l : Launch} {b L : Nat} {xs : Nat → Int32} {pc : Nat} {lv : List (Option gA)} {st : List gA} {μ : gM} {a : Int} {off : Int} {tgt : Nat} (hd : decode cL_law pc = .ok (.lcmp, 1)) (hd2 : decode cL_law (pc + 1) = .ok (.ifCond .eq off, 3)) (ht : ((pc + 1 : Nat) : Int) + off = (tgt : Int)) (kk : LW g l b L xs tgt lv st μ) : LW g l b L xs pc lv (vL a :: vL a :: st) μ := by
  have k2 : LW g l b L xs (pc + 1) lv (vI 0 :: st) μ := q_if_eq (by decide) hd2 ht (fun _ => kk) (fun h => absurd rfl h)
  intro p en s m below meth c H locs ls C V hP hS
  refine W.lcmp (x := lI a) (y := lI a) C.1 C.2.1 hd ?_
  have e0 : cv g (vI 0) = .int 0 := rfl
  have k3 := k2 p en s m below meth c H locs ls C V hP hS
  rw [List.map_cons, e0] at k3
  have ez : lg_cmp (lI a) (lI a) = 0 := by
    unfold lg_cmp
    rw [if_neg (fun h => Int64.lt_irrefl h), if_pos rfl]
  rw [ez]
  exact k3
theorem q_sld {g : gG} {l : Launch} {b L : Nat} {xs : Nat → Int32} {pc : Nat} {lv : List (Option gA)} {st : List gA} {μ : gM} {i : Int} (hi : 0 ≤ i ∧ i < L) (hL : L ≤ 3584) (hd : decode cL_law pc = .ok (.iaload, 1)) (kk : LW g l b L xs (pc + 1) lv (vI (xs i.toNat).toInt :: st) μ) : LW g l b L xs pc lv (vI i :: vR 3000 :: st) μ := by
  intro p en s m below meth c H locs ls C V hP hS
  have e1 : cv g (vR 3000) = .ref b := congrArg Value.ref C.2.2.2.2.2.2.2.2.2.2.2.2
  have e2 : (iI i).toNatClampNeg = i.toNat := by
    have := iI_nat (n := L) ⟨hi.1, hi.2⟩ (by omega)
    omega
  have k2 := kk p en s m below meth c H locs ls C V hP hS
  have e3 : cv g (vI (xs i.toNat).toInt) = .int (xs i.toNat) := congrArg Value.int (iI_of _)
  rw [List.map_cons, e3] at k2
  rw [List.map_cons, List.map_cons, e1]
  refine va_sld (i := iI i) C.1 C.2.1 C.2.2.2.2.2.2.1 C.2.2.2.2.2.2.2.1 (q_nA C) hS (iI_in ⟨hi.1, hi.2⟩ (by omega)) hd ?_
  rw [e2]
  exact k2
theorem q_slen {g : gG} {l : Launch} {b L : Nat} {xs : Nat → Int32} {pc : Nat} {lv : List (Option gA)} {st : List gA} {μ : gM} (hL : L ≤ 3584) (hd : decode cL_law pc = .ok (.arraylength, 1)) (kk : LW g l b L xs (pc + 1) lv (vI (L : Int) :: st) μ) : LW g l b L xs pc lv (vR 3000 :: st) μ := by
  intro p en s m below meth c H locs ls C V hP hS
  have e1 : cv g (vR 3000) = .ref b := congrArg Value.ref C.2.2.2.2.2.2.2.2.2.2.2.2
  have e2 : Int32.ofNat L = iI (L : Int) := nI_iI (by omega)
  have k2 := kk p en s m below meth c H locs ls C V hP hS
  rw [List.map_cons, e1]
  refine va_slen C.1 C.2.1 C.2.2.2.2.2.2.1 C.2.2.2.2.2.2.2.1 (q_nA C) hS hd ?_
  rw [e2]
  exact k2
theorem q_end {g : gG} {l : Launch} {b L : Nat} {xs : Nat → Int32} {pc : Nat} {lv : List (Option gA)} {μ : gM} (hd : decode cL_law pc = .ok (.ireturn, 1)) : LW g l b L xs pc lv [vI 1] μ := by
  intro p en s m below meth c H locs ls C V hP hS
  refine va_forget (fun q hq => ?_) (lw_ret C.1 C.2.1 C.2.2.1 C.2.2.2.2.2.2.2.2.1 hd)
  obtain ⟨i, h1, h2⟩ := hS.2.2 q hq
  rw [h2]
  exact C.2.2.2.2.2.2.2.2.2.2.2.1 i h1
theorem run_goL {p : Program} {l : Launch} {e : Env} {R : Room} {s : State} {m : MethodId} {args : Array Value} {below : List Frame} {meth : Method} {c : Code} {H : Heap} {locs : List Loc} {cells slots : Nat} {Q : State → Prop} {g : gG} {q : gQ} {pc : Nat} {ls : Array Slot} {st0 rest : List Value} {a : Array Value}
    (hr : va_Run p l e R s m args below meth c H locs cells slots 0 0 (F0 m pc ls st0) rest (QQ g q a) (wA g)) (hS : va_S (wA g) s.heap H locs)
    (kk : ∀ (r : Option gA) (μ' : gM) (H1 : Heap) (locs1 : List Loc), q r μ' → va_P g.2.1 vwCl (wl g μ') H1 → va_S (wA g) s.heap H1 locs1 → W p l e R s m args below meth c H1 locs1 cells slots Q (F0 m (pc + 3) ls ((r.map (cv g)).toList ++ rest))) : W p l e R s m args below meth c H locs cells slots Q (F0 m pc ls st0) := by
  intro T hT X
  obtain ⟨v, st₀, t, T', L, h0, X', hL, e1, e2, ⟨⟨r, μ', hv, hq, hP'⟩, hz, hk⟩, st⟩ := hr T hT X
  cases hv
  rw [h0] at hz hk
  obtain ⟨t2, a1, b1⟩ := kk r μ' T'.heap (locs ++ L) hq (by rw [e1]; exact hP')
    ⟨Nat.le_trans hS.1 (by rw [e1]; exact hz), fun q h1 h2 => by rw [e1, hk q (Nat.lt_of_lt_of_le h1 hS.1) h2]; exact hS.2.1 q h1 h2, fun q hq => by
      rcases List.mem_append.mp hq with h | h
      · exact hS.2.2 q h
      · exact hL q h⟩ T' rfl X'
  exact ⟨t2, st t2 a1, b1⟩
theorem q_call {g : gG} {l : Launch} {b L : Nat} {xs : Nat → Int32} {pc : Nat} {lv : List (Option gA)} {st : List gA} {μ : gM} {Yc : gY} {dc n idx x ci N : Nat} {T : u_T} {as : List gA} {q : gQ} (hk : kV Yc n) (hl : Cond.methodLink RL idx Yc.1 ∈ lw_gt) (ho : obj x ci) (hcl : vwCl[ci]? = some (Yc.1.cls, T, N)) (hn : as.length = n) (hst : (st.map gcat).sum ≤ 8) (hdd : dc + 1 ≤ 11) (hd : decode cL_law pc = .ok (.invokevirtual idx, 3)) (hC : CT g l Yc dc (vR x :: as) μ q)
    (kk : ∀ (r : Option gA) (μ' : gM), q r μ' → LW g l b L xs (pc + 3) lv (r.toList ++ st) μ') : LW g l b L xs pc lv (as.reverse ++ vR x :: st) μ := by
  intro p en s m below meth c0 H locs ls C V hP hS
  obtain ⟨k1, k2, k3, k4, k5, k6⟩ := hk
  have hts := C.2.2.2.2.2.1
  have hw := C.2.2.2.2.2.2.2.2.2.1
  have hg := C.2.2.2.2.2.2.2.2.2.2.1
  have cw : CallW room_1 s #[Value.ref b] RL Yc.1.cls idx Yc.1 Yc.2.1 Yc.2.2.1 Yc.2.2.2 (wsY Yc) (RM dc) 0 0 n := by
    refine cwV n hts (gtIn (fun w hw => ?_)) rfl rfl rfl ⟨rfl, k5⟩ ⟨by show dc + 1 ≤ 12; omega, by show 8 + (Yc.2.2.1 + 11) + 40 * dc ≤ 488; omega⟩
    rcases List.mem_append.mp hw with h | h
    · simp only [List.mem_cons, List.not_mem_nil, or_false] at h
      rcases h with rfl | rfl | rfl | rfl
      · exact hl
      · exact k2
      · exact k3
      · exact k4
    · exact wsY_good k1 w h
  have hmap : (as.reverse ++ vR x :: st).map (cv g) = (as.map (cv g)).reverse ++ .ref (g.1 x) :: st.map (cv g) := by
    simp [List.map_reverse, cv]
  rw [hmap]
  refine run_goL (va_runV (As := as.map (cv g)) (rest := st.map (cv g)) ⟨C.1, C.2.1, C.2.2.2.1, C.2.2.2.2.1, hts⟩ hC cw ⟨PP_blind g _ μ, va_recv hw.1 hP hcl (by rw [wl_get g μ ho.1, cellE_o ho.2.1 ho.2.2]), fun U hU hW => ⟨rfl, wK_call hw hS hU hW, hg, by rw [hU]; exact hP⟩⟩ rfl (by rw [List.length_map]; exact hn) V.1 rfl (lv_room (by rw [gcat_sum]; exact hst)) hd ⟨Nat.le_refl _, Nat.le_refl _⟩) hS (fun r μ' H1 locs1 hq hP1 hS1 => ?_)
  rw [cvToList]
  exact kk r μ' hq p en s m below meth c0 H1 locs1 ls C V hP1 hS1
theorem q_c0 {g : gG} {l : Launch} {b L : Nat} {xs : Nat → Int32} {pc : Nat} {lv : List (Option gA)} {st : List gA} {μ : gM} {Yc : gY} {dc idx x ci N : Nat} {T : u_T} {q : gQ} (hk : kV Yc 0) (hl : Cond.methodLink RL idx Yc.1 ∈ lw_gt) (ho : obj x ci) (hcl : vwCl[ci]? = some (Yc.1.cls, T, N)) (hst : (st.map gcat).sum ≤ 8) (hdd : dc + 1 ≤ 11) (hd : decode cL_law pc = .ok (.invokevirtual idx, 3)) (hC : CT g l Yc dc [vR x] μ q) (kk : ∀ (r : Option gA) (μ' : gM), q r μ' → LW g l b L xs (pc + 3) lv (r.toList ++ st) μ') : LW g l b L xs pc lv (vR x :: st) μ := q_call (as := []) hk hl ho hcl rfl hst hdd hd hC kk
theorem q_c1 {g : gG} {l : Launch} {b L : Nat} {xs : Nat → Int32} {pc : Nat} {lv : List (Option gA)} {st : List gA} {μ : gM} {Yc : gY} {dc idx x ci N : Nat} {T : u_T} {a1 : gA} {q : gQ} (hk : kV Yc 1) (hl : Cond.methodLink RL idx Yc.1 ∈ lw_gt) (ho : obj x ci) (hcl : vwCl[ci]? = some (Yc.1.cls, T, N)) (hst : (st.map gcat).sum ≤ 8) (hdd : dc + 1 ≤ 11) (hd : decode cL_law pc = .ok (.invokevirtual idx, 3)) (hC : CT g l Yc dc [vR x, a1] μ q) (kk : ∀ (r : Option gA) (μ' : gM), q r μ' → LW g l b L xs (pc + 3) lv (r.toList ++ st) μ') : LW g l b L xs pc lv (a1 :: vR x :: st) μ := q_call (as := [a1]) hk hl ho hcl rfl hst hdd hd hC kk
theorem q_c2 {g : gG} {l : Launch} {b L : Nat} {xs : Nat → Int32} {pc : Nat} {lv : List (Option gA)} {st : List gA} {μ : gM} {Yc : gY} {dc idx x ci N : Nat} {T : u_T} {a1 a2 : gA} {q : gQ} (hk : kV Yc 2) (hl : Cond.methodLink RL idx Yc.1 ∈ lw_gt) (ho : obj x ci) (hcl : vwCl[ci]? = some (Yc.1.cls, T, N)) (hst : (st.map gcat).sum ≤ 8) (hdd : dc + 1 ≤ 11) (hd : decode cL_law pc = .ok (.invokevirtual idx, 3)) (hC : CT g l Yc dc [vR x, a1, a2] μ q) (kk : ∀ (r : Option gA) (μ' : gM), q r μ' → LW g l b L xs (pc + 3) lv (r.toList ++ st) μ') : LW g l b L xs pc lv (a2 :: a1 :: vR x :: st) μ := q_call (as := [a1, a2]) hk hl ho hcl rfl hst hdd hd hC kk
theorem q_c3 {g : gG} {l : Launch} {b L : Nat} {xs : Nat → Int32} {pc : Nat} {lv : List (Option gA)} {st : List gA} {μ : gM} {Yc : gY} {dc idx x ci N : Nat} {T : u_T} {a1 a2 a3 : gA} {q : gQ} (hk : kV Yc 3) (hl : Cond.methodLink RL idx Yc.1 ∈ lw_gt) (ho : obj x ci) (hcl : vwCl[ci]? = some (Yc.1.cls, T, N)) (hst : (st.map gcat).sum ≤ 8) (hdd : dc + 1 ≤ 11) (hd : decode cL_law pc = .ok (.invokevirtual idx, 3)) (hC : CT g l Yc dc [vR x, a1, a2, a3] μ q) (kk : ∀ (r : Option gA) (μ' : gM), q r μ' → LW g l b L xs (pc + 3) lv (r.toList ++ st) μ') : LW g l b L xs pc lv (a3 :: a2 :: a1 :: vR x :: st) μ := q_call (as := [a1, a2, a3]) hk hl ho hcl rfl hst hdd hd hC kk
theorem q_c4 {g : gG} {l : Launch} {b L : Nat} {xs : Nat → Int32} {pc : Nat} {lv : List (Option gA)} {st : List gA} {μ : gM} {Yc : gY} {dc idx x ci N : Nat} {T : u_T} {a1 a2 a3 a4 : gA} {q : gQ} (hk : kV Yc 4) (hl : Cond.methodLink RL idx Yc.1 ∈ lw_gt) (ho : obj x ci) (hcl : vwCl[ci]? = some (Yc.1.cls, T, N)) (hst : (st.map gcat).sum ≤ 8) (hdd : dc + 1 ≤ 11) (hd : decode cL_law pc = .ok (.invokevirtual idx, 3)) (hC : CT g l Yc dc [vR x, a1, a2, a3, a4] μ q) (kk : ∀ (r : Option gA) (μ' : gM), q r μ' → LW g l b L xs (pc + 3) lv (r.toList ++ st) μ') : LW g l b L xs pc lv (a4 :: a3 :: a2 :: a1 :: vR x :: st) μ := q_call (as := [a1, a2, a3, a4]) hk hl ho hcl rfl hst hdd hd hC kk
theorem q_c5 {g : gG} {l : Launch} {b L : Nat} {xs : Nat → Int32} {pc : Nat} {lv : List (Option gA)} {st : List gA} {μ : gM} {Yc : gY} {dc idx x ci N : Nat} {T : u_T} {a1 a2 a3 a4 a5 : gA} {q : gQ} (hk : kV Yc 5) (hl : Cond.methodLink RL idx Yc.1 ∈ lw_gt) (ho : obj x ci) (hcl : vwCl[ci]? = some (Yc.1.cls, T, N)) (hst : (st.map gcat).sum ≤ 8) (hdd : dc + 1 ≤ 11) (hd : decode cL_law pc = .ok (.invokevirtual idx, 3)) (hC : CT g l Yc dc [vR x, a1, a2, a3, a4, a5] μ q) (kk : ∀ (r : Option gA) (μ' : gM), q r μ' → LW g l b L xs (pc + 3) lv (r.toList ++ st) μ') : LW g l b L xs pc lv (a5 :: a4 :: a3 :: a2 :: a1 :: vR x :: st) μ := q_call (as := [a1, a2, a3, a4, a5]) hk hl ho hcl rfl hst hdd hd hC kk
theorem q_c6 {g : gG} {l : Launch} {b L : Nat} {xs : Nat → Int32} {pc : Nat} {lv : List (Option gA)} {st : List gA} {μ : gM} {Yc : gY} {dc idx x ci N : Nat} {T : u_T} {a1 a2 a3 a4 a5 a6 : gA} {q : gQ} (hk : kV Yc 6) (hl : Cond.methodLink RL idx Yc.1 ∈ lw_gt) (ho : obj x ci) (hcl : vwCl[ci]? = some (Yc.1.cls, T, N)) (hst : (st.map gcat).sum ≤ 8) (hdd : dc + 1 ≤ 11) (hd : decode cL_law pc = .ok (.invokevirtual idx, 3)) (hC : CT g l Yc dc [vR x, a1, a2, a3, a4, a5, a6] μ q) (kk : ∀ (r : Option gA) (μ' : gM), q r μ' → LW g l b L xs (pc + 3) lv (r.toList ++ st) μ') : LW g l b L xs pc lv (a6 :: a5 :: a4 :: a3 :: a2 :: a1 :: vR x :: st) μ := q_call (as := [a1, a2, a3, a4, a5, a6]) hk hl ho hcl rfl hst hdd hd hC kk
theorem q_kI {g : gG} {l : Launch} {b L : Nat} {xs : Nat → Int32} {pc : Nat} {lv : List (Option gA)} {st : List gA} {q : Int → gM → Prop} (kk : ∀ (e : Int) (μ' : gM), q e μ' → LW g l b L xs pc lv (vI e :: st) μ') : ∀ (r : Option gA) (μ' : gM), pI q r μ' → LW g l b L xs pc lv (r.toList ++ st) μ' := by
  rintro r μ' ⟨e, rfl, h⟩
  exact kk e μ' h
theorem q_kL {g : gG} {l : Launch} {b L : Nat} {xs : Nat → Int32} {pc : Nat} {lv : List (Option gA)} {st : List gA} {q : Int → gM → Prop} (kk : ∀ (e : Int) (μ' : gM), q e μ' → LW g l b L xs pc lv (vL e :: st) μ') : ∀ (r : Option gA) (μ' : gM), pL q r μ' → LW g l b L xs pc lv (r.toList ++ st) μ' := by
  rintro r μ' ⟨e, rfl, h⟩
  exact kk e μ' h
theorem q_tcase {g : gG} {l : Launch} {b L : Nat} {xs : Nat → Int32} {pc : Nat} {lv : List (Option gA)} {st : List gA} {μ : gM} {dflt lo hi : Int} {offs : Array Int} {len : Nat} {a off : Int} (v : Int) {tgt : Nat} (hd : decode cL_law pc = .ok (.tableswitch dflt lo hi offs, len)) (hr : -2147483648 ≤ v ∧ v < 2147483648) (h : ¬ v < lo ∧ ¬ hi < v) (ho : offs[(v - lo).toNat]? = some off) (ht : (pc : Int) + off = (tgt : Int)) (kt : a = v → LW g l b L xs tgt lv st μ) (kf : ¬ a = v → LW g l b L xs pc lv (vI a :: st) μ) : LW g l b L xs pc lv (vI a :: st) μ := by
  by_cases hv : a = v
  · exact q_tableIn v hd hv hr h ho ht (kt hv)
  · exact kf hv
theorem bAnd_rg (a c : Int) : -2147483648 ≤ bAnd a c ∧ bAnd a c < 2147483648 := toInt_rg _
