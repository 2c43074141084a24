/-! the world: 180 cells by number; the memory holds whole numbers -/
abbrev gA : Type := Int ⊕ (Int ⊕ Nat)
abbrev vI (e : Int) : gA := Sum.inl e
abbrev vL (e : Int) : gA := Sum.inr (Sum.inl e)
abbrev vR (c : Nat) : gA := Sum.inr (Sum.inr c)
abbrev gM : Type := Nat → Int → Int
abbrev gG : Type := (Nat → Nat) × va_G × (ClassId × ClassId × ClassId)
def iI (e : Int) : Int32 := Int32.ofInt e
def lI (e : Int) : Int64 := Int64.ofInt e
def cv (g : gG) : gA → Value
  | .inl e => .int (iI e)
  | .inr (.inl e) => .long (lI e)
  | .inr (.inr c) => .ref (g.1 c)
def shL : List Nat := [4, 3, 8, 0, 6, 6, 6, 6, 6, 6, 6, 6, 6, 6, 6, 0, 6, 6, 6, 6, 6, 6, 6, 6, 6, 6, 6, 0, 6, 6, 6, 6, 6, 6, 6, 6, 6, 6, 6, 0, 6, 6, 6, 6, 6, 6, 6, 6, 6, 6, 6, 3, 8, 0, 6, 6, 6, 6, 6, 6, 6, 6, 6, 6, 6, 0, 6, 6, 6, 6, 6, 6, 6, 6, 6, 6, 6, 0, 6, 6, 6, 6, 6, 6, 6, 6, 6, 6, 6, 0, 6, 6, 6, 6, 6, 6, 6, 6, 6, 6, 6, 3, 8, 0, 6, 6, 6, 6, 6, 6, 6, 6, 6, 6, 6, 0, 6, 6, 6, 6, 6, 6, 6, 6, 6, 6, 6, 0, 6, 6, 6, 6, 6, 6, 6, 6, 6, 6, 6, 0, 6, 6, 6, 6, 6, 6, 6, 6, 6, 6, 6, 2, 6, 6, 1, 0, 6, 6, 6, 6, 6, 6, 6, 6, 6, 6, 6, 5, 6, 6, 7, 6, 6, 6, 6, 6, 7, 6, 6, 6]
def lnL : List Nat := [0, 0, 3, 0, 7, 7, 28, 7, 7, 6, 6, 6, 6, 6, 7, 0, 7, 7, 28, 7, 7, 6, 6, 6, 6, 6, 7, 0, 7, 7, 28, 7, 7, 6, 6, 6, 6, 6, 7, 0, 7, 7, 28, 7, 7, 6, 6, 6, 6, 6, 7, 0, 3, 0, 7, 7, 28, 7, 7, 6, 6, 6, 6, 6, 7, 0, 7, 7, 28, 7, 7, 6, 6, 6, 6, 6, 7, 0, 7, 7, 28, 7, 7, 6, 6, 6, 6, 6, 7, 0, 7, 7, 28, 7, 7, 6, 6, 6, 6, 6, 7, 0, 3, 0, 7, 7, 28, 7, 7, 6, 6, 6, 6, 6, 7, 0, 7, 7, 28, 7, 7, 6, 6, 6, 6, 6, 7, 0, 7, 7, 28, 7, 7, 6, 6, 6, 6, 6, 7, 0, 7, 7, 28, 7, 7, 6, 6, 6, 6, 6, 7, 0, 250, 6, 0, 0, 7, 7, 28, 7, 7, 6, 6, 6, 6, 6, 7, 0, 382, 764, 2, 3, 28, 7, 14, 14, 6, 250, 95, 6]
def cnL : List Nat := [3, 15, 27, 39, 53, 65, 77, 89, 103, 115, 127, 139, 155]
def sh (c : Nat) : Nat := shL.getD c 9
def ln (c : Nat) : Nat := lnL.getD c 0
def ftab : Nat → List Nat
  | 0 => [0, 0, 0, 3, 4, 5, 6, 7, 8, 9, 10, 11, 12, 13]
  | 1 => [1, 1]
  | 2 => [0, 3, 4, 0, 0, 0]
  | 3 => [4, 0, 0, 3]
  | 4 => [3, 53, 103, 153, 156, 157, 0, 0, 0]
  | 5 => [3, 4, 5, 6, 1, 1, 7, 8, 9, 10, 0, 11, 12, 0, 0, 0, 0, 0, 13, 14]
  | _ => []
def fv (g : gG) (μ : gM) (c k : Nat) : Nat → Value
  | 0 => .int (iI (μ c k))
  | 1 => .long (lI (μ c k))
  | d + 2 => .ref (g.1 (c + d))
def cellE (g : gG) (μ : gM) (c : Nat) : va_E := match sh c with
  | 6 => .inl (g.2.2.1, ln c, .inl (fun k => iI (μ c k)))
  | 7 => .inl (g.2.2.2.1, ln c, .inl (fun k => iI (μ c k)))
  | 8 => .inl (g.2.2.2.2, ln c, .inr (.inr (.inr (.inr (fun k => some (g.1 (μ c k).toNat))))))
  | n => .inr (n, (ftab n).mapIdx (fun k code => fv g μ c k code))
def wl (g : gG) (μ : gM) : va_W := (List.range 180).map (fun c => (g.1 c, cellE g μ c))
def wA (g : gG) : Nat → Prop := fun q => ∃ c, c < 180 ∧ q = g.1 c
def gOK (g : gG) : Prop := ∀ i j : Nat, i < 180 → j < 180 → g.1 i = g.1 j → i = j
def wr (μ : gM) (c : Nat) (i v : Int) : gM := fun a j => if a = c ∧ j = i then v else μ a j
theorem wr_o {μ : gM} {c a : Nat} {i v : Int} (h : a ≠ c) : wr μ c i v a = μ a := by
  funext j
  simp [wr, h]
theorem wr_s {μ : gM} {c : Nat} {i v : Int} : wr μ c i v c i = v := by simp [wr]
theorem wr_n {μ : gM} {c : Nat} {i j v : Int} (h : j ≠ i) : wr μ c i v c j = μ c j := by simp [wr, h]
theorem wl_len (g : gG) (μ : gM) : (wl g μ).length = 180 := by simp [wl]
theorem wl_get (g : gG) (μ : gM) {c : Nat} (h : c < 180) : (wl g μ)[c]? = some (g.1 c, cellE g μ c) := by
  simp [wl, List.getElem?_map, List.getElem?_range h]
theorem cellE_cg {g : gG} {μ μ' : gM} {c : Nat} (h : μ' c = μ c) : cellE g μ' c = cellE g μ c := by
  have hf : ∀ k code, fv g μ' c k code = fv g μ c k code := by
    intro k code
    rcases code with _ | _ | d <;> simp [fv, h]
  unfold cellE
  split <;> simp [h, hf]
theorem wl_set {g : gG} {μ μ' : gM} {c : Nat} {E : va_E} (hE : cellE g μ' c = E) (ho : ∀ a, a ≠ c → μ' a = μ a) : (wl g μ).set c (g.1 c, E) = wl g μ' := by
  apply List.ext_getElem?
  intro i
  by_cases hi : i < 180
  · rw [wl_get g μ' hi]
    by_cases hc : i = c
    · subst hc
      rw [List.getElem?_set_self (by rw [wl_len]; exact hi), hE]
    · rw [List.getElem?_set_ne (Ne.symm hc), wl_get g μ hi, cellE_cg (ho i hc)]
  · rw [List.getElem?_eq_none (by rw [List.length_set, wl_len]; omega), List.getElem?_eq_none (by rw [wl_len]; omega)]
theorem wl_D {g : gG} (h : gOK g) (μ : gM) : va_D (wA g) (wl g μ) := by
  have key : ∀ (k : Nat) (q : Nat × va_E), (wl g μ)[k]? = some q → k < 180 ∧ q.1 = g.1 k := by
    intro k q hk
    have hl : k < 180 := by
      have := (List.getElem?_eq_some_iff.mp hk).1
      rwa [wl_len] at this
    rw [wl_get g μ hl] at hk
    cases hk
    exact ⟨hl, rfl⟩
  refine ⟨fun i j p q hi hj hpq => ?_, fun k q hk => ?_⟩
  · obtain ⟨h1, h2⟩ := key i p hi
    obtain ⟨h3, h4⟩ := key j q hj
    exact h i j h1 h3 (by rw [← h2, ← h4]; exact hpq)
  · obtain ⟨h1, h2⟩ := key k q hk
    exact ⟨k, h1, h2⟩
def tysG (g : gG) : List (ClassId × FieldType) := [(g.2.2.1, .int), (g.2.2.2.1, .boolean), (g.2.2.2.2, .object RX0)]
def sLen : List Nat := [4, 5, 6]
def sByt : List (List Int32) := [[114, 111, 111, 102], [115, 116, 111, 114, 109], [99, 97, 110, 110, 111, 110]]
def wZ (g : gG) (U : State) (H : Heap) : Prop := vk_S 3 sLen sByt (fun i => g.1 (1000 + i)) (fun i => g.1 (2000 + i)) (wA g) U H ∧ va_Z "java/lang/String" "COMPACT_STRINGS" "Z" (.int 1) (wA g) U H ∧ va_Zq "jdk/internal/util/Preconditions" "SIOOBE_FORMATTER" "Ljava/util/function/BiFunction;" (wA g) U H
def wN (g : gG) (U : State) : Prop := va_Nw (.methodLinkNest RX2 87 yX4_within RX4) U ∧ vk_R RX2 43 "roof" (g.1 1000) U ∧ vk_R RX2 55 "storm" (g.1 1001) U ∧ vk_R RX2 63 "cannon" (g.1 1002) U
def wK (g : gG) (U : State) : Prop := va_K g.2.1 vwCl (tysG g) U ∧ wN g U ∧ wZ g U U.heap
abbrev gY : Type := MethodName × ByteArray × Nat × Option FieldType
def lw_gt : List Cond := lw_tbl.filter goodWord
theorem gt_of {w : Cond} (h : w ∈ lw_tbl) (hg : goodWord w = true) : w ∈ lw_gt := List.mem_filter.mpr ⟨h, hg⟩
theorem gt_good {w : Cond} (h : w ∈ lw_gt) : (w.onTables && w.keeps) = true ∨ ∃ ty, w = .arrayClass ty := good_of_word (List.mem_filter.mp h).2
def wsY (Y : gY) : List Cond := Cond.code Y.1 Y.2.1 Y.2.2.1 Y.2.2.2 :: lw_gt
def RM (d : Nat) : Room := { frames := d, cells := 0, slots := 0, locals := 40 * d }
abbrev gQ : Type := Option gA → gM → Prop
def QQ (g : gG) (post : gQ) : Array Value → State → Outcome → State → Prop := fun _ st oc t =>
  (∃ (r : Option gA) (μ' : gM), oc = .returned (r.map (cv g)) ∧ post r μ' ∧ va_P g.2.1 vwCl (wl g μ') t.heap) ∧ va_F (wA g) st t
def PP (g : gG) (av : List gA) (μ : gM) : Array Value → State → Prop := va_Pc (av.map (cv g)) (fun U => wK g U ∧ gOK g ∧ va_P g.2.1 vwCl (wl g μ) U.heap)
/-- a method's contract: from the memory μ and these arguments it ends, and 'post answer memory' -/
def CT (g : gG) (l : Launch) (Y : gY) (d : Nat) (av : List gA) (μ : gM) (post : gQ) : Prop := Met l Y.1 (wsY Y) (RM d) (PP g av μ) (QQ g post) 0 0 (wA g)
def LV (g : gG) (ls : Array Slot) (nL : Nat) (lv : List (Option gA)) : Prop := ls.size = nL ∧ lv_wf ls ∧ ∀ (k : Nat) (v : gA), lv[k]? = some (some v) → ls[k]? = some (.val (cv g v))
def CX (g : gG) (Y : gY) (p : Program) (s : State) (m : MethodId) (args : Array Value) (meth : Method) (c : Code) : Prop :=
  p.tables.exec = Jvm.exec ∧ c.code = Y.2.1 ∧ meth.sig.returnType = Y.2.2.2 ∧ c.maxLocals = Y.2.2.1 ∧ s.vm.findClass Y.1.cls = some m.cls ∧ (∀ w ∈ lw_gt, w.before args s = true) ∧ meth.locks = false ∧ wK g s ∧ gOK g
/-- the walk: at pc, with these locals, this stack, this memory, the method comes to its end with 'post' -/
def WA (g : gG) (l : Launch) (Y : gY) (d : Nat) (post : gQ) (pc : Nat) (lv : List (Option gA)) (st : List gA) (μ : gM) : Prop :=
  ∀ (p : Program) (e : Env) (s : State) (m : MethodId) (args : Array Value) (below : List Frame) (meth : Method) (c : Code) (H : Heap) (locs : List Loc) (ls : Array Slot),
    CX g Y p s m args meth c → LV g ls Y.2.2.1 lv → va_P g.2.1 vwCl (wl g μ) H → va_S (wA g) s.heap H locs →
    W p l e (RM d) s m args below meth c H locs 0 0 (MQ below (QQ g post) args s 0 0 (wA g)) (F0 m pc ls (st.map (cv g)))
def eL : List gA → List (Option gA)
  | [] => []
  | .inr (.inl e) :: r => some (vL e) :: none :: eL r
  | v :: r => some v :: eL r
theorem cv_cat (g : gG) (v : gA) : (cv g v).category = (match v with | .inr (.inl _) => 2 | _ => 1) := by
  rcases v with e | e | c <;> rfl
theorem eL_args (g : gG) : ∀ (av : List gA) (i k : Nat) (v : gA), (eL av)[k]? = some (some v) → (i + k, cv g v) ∈ lv_args i (av.map (cv g))
  | [], i, k, v, h => by simp [eL] at h
  | .inl e :: r, i, k, v, h => by
    simp only [List.map_cons, lv_args]
    cases k with
    | zero => simp [eL] at h; subst h; exact List.mem_cons_self
    | succ k =>
      have h2 := eL_args g r (i + 1) k v (by simpa [eL] using h)
      refine List.mem_cons_of_mem _ ?_
      have e1 : i + (k + 1) = i + 1 + k := by omega
      rw [e1]
      simpa [cv, Value.category] using h2
  | .inr (.inr c) :: r, i, k, v, h => by
    simp only [List.map_cons, lv_args]
    cases k with
    | zero => simp [eL] at h; subst h; exact List.mem_cons_self
    | succ k =>
      have h2 := eL_args g r (i + 1) k v (by simpa [eL] using h)
      refine List.mem_cons_of_mem _ ?_
      have e1 : i + (k + 1) = i + 1 + k := by omega
      rw [e1]
      simpa [cv, Value.category] using h2
  | .inr (.inl e) :: r, i, k, v, h => by
    simp only [List.map_cons, lv_args]
    match k with
    | 0 => simp [eL] at h; subst h; exact List.mem_cons_self
    | 1 => simp [eL] at h
    | k + 2 =>
      have h2 := eL_args g r (i + 2) k v (by simpa [eL] using h)
      refine List.mem_cons_of_mem _ ?_
      have e1 : i + (k + 2) = i + 2 + k := by omega
      rw [e1]
      simpa [cv, Value.category] using h2
theorem eL_len (g : gG) : ∀ av : List gA, (lg_sl (av.map (cv g))).length = (eL av).length
  | [] => rfl
  | .inl e :: r => by simpa [lg_sl, eL, cv, Value.category] using eL_len g r
  | .inr (.inr c) :: r => by simpa [lg_sl, eL, cv, Value.category] using eL_len g r
  | .inr (.inl e) :: r => by
    have := eL_len g r
    simp [lg_sl, eL, cv, Value.category] at this ⊢
    omega
theorem PP_blind (g : gG) (av : List gA) (μ : gM) : FrameBlind (PP g av μ) := by
  intro a U gg mk q
  obtain ⟨q0, ⟨qK, ⟨qN, q1, q2, q3⟩, qZ⟩, qO, qP⟩ := q
  exact ⟨q0, ⟨va_K.moved (u := U) (U := U.calling gg mk a) (Vm.Alike.refl U.vm) qK, ⟨qN, q1.same rfl, q2.same rfl, q3.same rfl⟩, ⟨qZ.1.moved (u := U) (U := U.calling gg mk a) (Vm.Alike.refl U.vm), qZ.2.1.moved (u := U) (U := U.calling gg mk a) (Vm.Alike.refl U.vm), qZ.2.2.moved (u := U) (U := U.calling gg mk a) (Vm.Alike.refl U.vm)⟩⟩, qO, qP⟩
theorem CT.of {g : gG} {l : Launch} {Y : gY} {d : Nat} {av : List gA} {μ : gM} {post : gQ} {n : Nat} (hy : plainName Y.1.cls = true) (hn : (eL av).length + n = Y.2.2.1) (h : WA g l Y d post 0 (eL av ++ List.replicate n none) [] μ) : CT g l Y d av μ post := by
  refine Met.ofW (cc := Y.2.1) (maxL := Y.2.2.1) (ret := Y.2.2.2) hy rfl ?_
  intro p e s m args below meth c s₁ B hml hv
  obtain ⟨rfl, hK, hO, hP⟩ := hv
  have hts := atoms_spec (ws := wsY Y) B.pre
  have hl := lv_entry (av.map (cv g)) (n := Y.2.2.1) (by rw [eL_len]; omega)
  rw [lg_entry_eq]
  refine h p e s m _ below meth c s.heap [] _ ⟨B.exec, B.bytes, B.returns, hml, findClass_of_methodNamed B.named, fun w hw => hts w (List.mem_cons_of_mem _ hw), B.notSynchronized, hK, hO⟩ ⟨hl.1, hl.2.1, fun k v hk => ?_⟩ hP va_S.rf
  have hk2 : (eL av)[k]? = some (some v) := by
    by_cases hlt : k < (eL av).length
    · rwa [List.getElem?_append_left hlt] at hk
    · rw [List.getElem?_append_right (by omega)] at hk
      have := List.eq_of_mem_replicate (List.mem_of_getElem? hk)
      cases this
  have := eL_args g av 0 k v hk2
  rw [Nat.zero_add] at this
  exact hl.2.2 _ this
