/-! calls -/
theorem wK_call {g : gG} {s U : State} {H : Heap} {locs : List Loc} (h : wK g s) (hS : va_S (wA g) s.heap H locs) (hU : U.heap = H) (hW : s.WarmedH U.vm) : wK g U := by
  obtain ⟨qK, ⟨qN, q1, q2, q3⟩, qZ⟩ := h
  refine ⟨va_K.moved hW.alike qK, ⟨qN.warmM hW, q1.warm hW, q2.warm hW, q3.warm hW⟩, ?_⟩
  rw [hU]
  exact ⟨(qZ.1.kept hS.2.1).moved hW.alike, (qZ.2.1.kept hS.2.1).moved hW.alike, (qZ.2.2.kept hS.2.1).moved hW.alike⟩
theorem run_go {p : Program} {l : Launch} {e : Env} {R : Room} {s : State} {m : MethodId} {args : Array Value} {below : List Frame} {meth : Method} {c : Code} {H : Heap} {locs : List Loc} {Q : State → Prop} {g : gG} {q : gQ} {pc : Nat} {ls : Array Slot} {st0 rest : List Value} {a : Array Value}
    (hr : va_Run p l e R s m args below meth c H locs 0 0 0 0 (F0 m pc ls st0) rest (QQ g q a) (wA g)) (hS : va_S (wA g) s.heap H locs)
    (kk : ∀ (r : Option gA) (μ' : gM) (H1 : Heap) (locs1 : List Loc), q r μ' → va_P g.2.1 vwCl (wl g μ') H1 → va_S (wA g) s.heap H1 locs1 → W p l e R s m args below meth c H1 locs1 0 0 Q (F0 m (pc + 3) ls ((r.map (cv g)).toList ++ rest))) : W p l e R s m args below meth c H locs 0 0 Q (F0 m pc ls st0) := by
  intro T hT X
  obtain ⟨v, st₀, t, T', L, h0, X', hL, e1, e2, ⟨⟨r, μ', hv, hq, hP'⟩, hz, hk⟩, st⟩ := hr T hT X
  cases hv
  rw [h0] at hz hk
  obtain ⟨t2, a1, b1⟩ := kk r μ' T'.heap (locs ++ L) hq (by rw [e1]; exact hP')
    ⟨Nat.le_trans hS.1 (by rw [e1]; exact hz), fun q h1 h2 => by rw [e1, hk q (Nat.lt_of_lt_of_le h1 hS.1) h2]; exact hS.2.1 q h1 h2, fun q hq => by
      rcases List.mem_append.mp hq with h | h
      · exact hS.2.2 q h
      · exact hL q h⟩ T' rfl X'
  exact ⟨t2, st t2 a1, b1⟩
def kD (Y : gY) (n : Nat) : Prop := (Y.1.cls ≠ "java/lang/invoke/MethodHandle" ∧ Y.1.cls ≠ "java/lang/invoke/VarHandle" ∧ (parseMethodDescriptor Y.1.desc).map (fun d => d.parameters.length) = some n) ∧ Y.2.2.1 ≤ 21
def kV (Y : gY) (n : Nat) : Prop := Cond.code Y.1 Y.2.1 Y.2.2.1 Y.2.2.2 ∈ lw_gt ∧ Cond.instanceMethod Y.1 ∈ lw_gt ∧ Cond.selects Y.1.cls Y.1 Y.1 ∈ lw_gt ∧ Cond.initialized Y.1.cls ∈ lw_gt ∧ kD Y n
def kS (Y : gY) (n : Nat) : Prop := Cond.code Y.1 Y.2.1 Y.2.2.1 Y.2.2.2 ∈ lw_gt ∧ Cond.static Y.1 ∈ lw_gt ∧ Cond.initialized Y.1.cls ∈ lw_gt ∧ kD Y n
theorem wsY_good {Y : gY} (h : Cond.code Y.1 Y.2.1 Y.2.2.1 Y.2.2.2 ∈ lw_gt) : ∀ w ∈ wsY Y, w ∈ lw_gt := fun w hw => by
  rcases List.mem_cons.mp hw with rfl | h2
  · exact h
  · exact h2
theorem gtIn {ws : List Cond} (h : ∀ w ∈ ws, w ∈ lw_gt) : GoodIn lw_gt ws := fun w hw => ⟨h w hw, gt_good (h w hw)⟩
theorem cvToList (g : gG) (r : Option gA) (st : List gA) : (r.map (cv g)).toList ++ st.map (cv g) = (r.toList ++ st).map (cv g) := by
  cases r <;> rfl
section CALL
variable {g : gG} {l : Launch} {Y : gY} {d : Nat} {post : gQ} {pc : Nat} {lv : List (Option gA)} {st : List gA} {μ : gM}
theorem w_callV {Yc : gY} {dc n idx b ci N : Nat} {T : u_T} {as : List gA} {q : gQ} (hk : kV Yc n) (hl : Cond.methodLink Y.1.cls idx Yc.1 ∈ lw_gt) (ho : obj b ci) (hcl : vwCl[ci]? = some (Yc.1.cls, T, N)) (hn : as.length = n) (hst : (st.map gcat).sum ≤ 8) (hdd : dc + 1 ≤ d) (hd : decode Y.2.1 pc = .ok (.invokevirtual idx, 3)) (hC : CT g l Yc dc (vR b :: as) μ q)
    (kk : ∀ (r : Option gA) (μ' : gM), q r μ' → WA g l Y d post (pc + 3) lv (r.toList ++ st) μ') : WA g l Y d post pc lv (as.reverse ++ vR b :: st) μ := by
  intro p en s m args below meth c0 H locs ls C L hP hS
  obtain ⟨k1, k2, k3, k4, k5, k6⟩ := hk
  have hts := C.2.2.2.2.2.1
  have cw : CallW (RM d) s args Y.1.cls Yc.1.cls idx Yc.1 Yc.2.1 Yc.2.2.1 Yc.2.2.2 (wsY Yc) (RM dc) 0 0 n := by
    refine cwV n hts (gtIn (fun w hw => ?_)) rfl rfl rfl ⟨rfl, k5⟩ ⟨hdd, by show 8 + (Yc.2.2.1 + 11) + 40 * dc ≤ 40 * d; omega⟩
    rcases List.mem_append.mp hw with h | h
    · simp only [List.mem_cons, List.not_mem_nil, or_false] at h
      rcases h with rfl | rfl | rfl | rfl
      · exact hl
      · exact k2
      · exact k3
      · exact k4
    · exact wsY_good k1 w h
  have hmap : (as.reverse ++ vR b :: st).map (cv g) = (as.map (cv g)).reverse ++ .ref (g.1 b) :: st.map (cv g) := by
    simp [List.map_reverse, cv]
  rw [hmap]
  refine run_go (va_runV (As := as.map (cv g)) (rest := st.map (cv g)) ⟨C.1, C.2.1, C.2.2.2.1, C.2.2.2.2.1, hts⟩ hC cw ⟨PP_blind g _ μ, va_recv C.2.2.2.2.2.2.2.1.1 hP hcl (by rw [wl_get g μ ho.1, cellE_o ho.2.1 ho.2.2]), fun U hU hW => ⟨rfl, wK_call C.2.2.2.2.2.2.2.1 hS hU hW, C.2.2.2.2.2.2.2.2, by rw [hU]; exact hP⟩⟩ rfl (by rw [List.length_map]; exact hn) L.1 rfl (lv_room (by rw [gcat_sum]; exact hst)) hd ⟨Nat.le_refl _, Nat.le_refl _⟩) hS (fun r μ' H1 locs1 hq hP1 hS1 => ?_)
  rw [cvToList]
  exact kk r μ' hq p en s m args below meth c0 H1 locs1 ls C L hP1 hS1
theorem w_callS {Yc : gY} {dc n idx : Nat} {as : List gA} {q : gQ} (hk : kS Yc n) (hl : Cond.methodLink Y.1.cls idx Yc.1 ∈ lw_gt) (hn : as.length = n) (hst : (st.map gcat).sum ≤ 8) (hdd : dc + 1 ≤ d) (hd : decode Y.2.1 pc = .ok (.invokestatic idx, 3)) (hC : CT g l Yc dc as μ q)
    (kk : ∀ (r : Option gA) (μ' : gM), q r μ' → WA g l Y d post (pc + 3) lv (r.toList ++ st) μ') : WA g l Y d post pc lv (as.reverse ++ st) μ := by
  intro p en s m args below meth c0 H locs ls C L hP hS
  obtain ⟨k1, k2, k4, k5, k6⟩ := hk
  have hts := C.2.2.2.2.2.1
  have cw : CallB (RM d) s args Y.1.cls idx Yc.1 Yc.2.1 Yc.2.2.1 Yc.2.2.2 (wsY Yc) (RM dc) 0 0 n ∧ (Cond.static Yc.1).before args s = true := by
    refine va_cwS n hts (gtIn (fun w hw => ?_)) rfl rfl rfl k5 ⟨hdd, by show 8 + (Yc.2.2.1 + 11) + 40 * dc ≤ 40 * d; omega⟩
    rcases List.mem_append.mp hw with h | h
    · simp only [List.mem_cons, List.not_mem_nil, or_false] at h
      rcases h with rfl | rfl | rfl
      · exact hl
      · exact k2
      · exact k4
    · exact wsY_good k1 w h
  have hmap : (as.reverse ++ st).map (cv g) = (as.map (cv g)).reverse ++ st.map (cv g) := by
    simp [List.map_reverse]
  rw [hmap]
  refine run_go (va_runS (As := as.map (cv g)) (rest := st.map (cv g)) ⟨C.1, C.2.1, C.2.2.2.1, C.2.2.2.2.1, hts⟩ hC cw ⟨PP_blind g _ μ, fun U hU hW => ⟨rfl, wK_call C.2.2.2.2.2.2.2.1 hS hU hW, C.2.2.2.2.2.2.2.2, by rw [hU]; exact hP⟩⟩ rfl (by rw [List.length_map]; exact hn) L.1 rfl (lv_room (by rw [gcat_sum]; exact hst)) hd ⟨Nat.le_refl _, Nat.le_refl _⟩) hS (fun r μ' H1 locs1 hq hP1 hS1 => ?_)
  rw [cvToList]
  exact kk r μ' hq p en s m args below meth c0 H1 locs1 ls C L hP1 hS1
theorem w_callSN {Yc : gY} {dc n idx : Nat} {host : String} {as : List gA} {q : gQ} (hk : kS Yc n) (hl : ∀ s, wK g s → va_Nw (.methodLinkNest Y.1.cls idx Yc.1 host) s) (hn : as.length = n) (hst : (st.map gcat).sum ≤ 8) (hdd : dc + 1 ≤ d) (hd : decode Y.2.1 pc = .ok (.invokestatic idx, 3)) (hC : CT g l Yc dc as μ q)
    (kk : ∀ (r : Option gA) (μ' : gM), q r μ' → WA g l Y d post (pc + 3) lv (r.toList ++ st) μ') : WA g l Y d post pc lv (as.reverse ++ st) μ := by
  intro p en s m args below meth c0 H locs ls C L hP hS
  obtain ⟨k1, k2, k4, k5, k6⟩ := hk
  have hts := C.2.2.2.2.2.1
  have cw : va_CN (RM d) s args Y.1.cls idx Yc.1 host Yc.2.1 Yc.2.2.1 Yc.2.2.2 (wsY Yc) (RM dc) 0 0 n :=
    va_cnB n hts (gtIn (wsY_good k1)) rfl rfl rfl (hl s C.2.2.2.2.2.2.2.1) (hts _ k4) k5 ⟨hdd, by show 8 + (Yc.2.2.1 + 11) + 40 * dc ≤ 40 * d; omega⟩
  have hmap : (as.reverse ++ st).map (cv g) = (as.map (cv g)).reverse ++ st.map (cv g) := by
    simp [List.map_reverse]
  rw [hmap]
  refine run_go (va_runSN (As := as.map (cv g)) (rest := st.map (cv g)) ⟨C.1, C.2.1, C.2.2.2.1, C.2.2.2.2.1, hts⟩ hC ⟨cw, hts _ k2, trivial⟩ ⟨PP_blind g _ μ, fun U hU hW => ⟨rfl, wK_call C.2.2.2.2.2.2.2.1 hS hU hW, C.2.2.2.2.2.2.2.2, by rw [hU]; exact hP⟩⟩ rfl (by rw [List.length_map]; exact hn) L.1 rfl (lv_room (by rw [gcat_sum]; exact hst)) hd ⟨Nat.le_refl _, Nat.le_refl _⟩) hS (fun r μ' H1 locs1 hq hP1 hS1 => ?_)
  rw [cvToList]
  exact kk r μ' hq p en s m args below meth c0 H1 locs1 ls C L hP1 hS1
end CALL
def pI (q : Int → gM → Prop) : gQ := fun r μ' => ∃ e, r = some (vI e) ∧ q e μ'
def pL (q : Int → gM → Prop) : gQ := fun r μ' => ∃ e, r = some (vL e) ∧ q e μ'
def pV (q : gM → Prop) : gQ := fun r μ' => r = none ∧ q μ'
theorem CT.weaken {g : gG} {l : Launch} {Y : gY} {d : Nat} {av : List gA} {μ : gM} {q q' : gQ} (h : CT g l Y d av μ q) (hq : ∀ r μ', q r μ' → q' r μ') : CT g l Y d av μ q' := by
  intro p e h1 h2 h3 s m args below h4 h5 h6 h7
  obtain ⟨k, o, h8, h9, h10, ⟨⟨⟨r, μ', a1, a2, a3⟩, a4⟩, a5⟩⟩ := h p e h1 h2 h3 s m args below h4 h5 h6 h7
  exact ⟨k, o, h8, h9, h10, ⟨⟨⟨r, μ', a1, hq _ _ a2, a3⟩, a4⟩, a5⟩⟩
theorem w_post {g : gG} {l : Launch} {Y : gY} {d : Nat} {post post' : gQ} {pc : Nat} {lv : List (Option gA)} {st : List gA} {μ : gM} (h : WA g l Y d post pc lv st μ) (hq : ∀ r μ', post r μ' → post' r μ') : WA g l Y d post' pc lv st μ := by
  intro p en s m args below meth c0 H locs ls C L hP hS T hT X
  obtain ⟨t, a, o, h1, h2, ⟨⟨r, μ', b1, b2, b3⟩, b4⟩, h4⟩ := h p en s m args below meth c0 H locs ls C L hP hS T hT X
  exact ⟨t, a, o, h1, h2, ⟨⟨r, μ', b1, hq _ _ b2, b3⟩, b4⟩, h4⟩
section CALL2
variable {g : gG} {l : Launch} {Y : gY} {d : Nat} {post : gQ} {pc : Nat} {lv : List (Option gA)} {st : List gA} {μ : gM}
theorem w_iretP {e : Int} {q : Int → gM → Prop} (hr : Y.2.2.2 = some .int) (hd : decode Y.2.1 pc = .ok (.ireturn, 1)) (hp : q e μ) : WA g l Y d (pI q) pc lv [vI e] μ := w_iret hr hd ⟨e, rfl, hp⟩
theorem w_zretP {e : Int} {q : Int → gM → Prop} (hr : Y.2.2.2 = some .boolean) (hd : decode Y.2.1 pc = .ok (.ireturn, 1)) (he : e = 0 ∨ e = 1) (hp : q e μ) : WA g l Y d (pI q) pc lv [vI e] μ := w_zret hr he hd ⟨e, rfl, hp⟩
theorem w_lretP {e : Int} {q : Int → gM → Prop} (hr : Y.2.2.2 = some .long) (hd : decode Y.2.1 pc = .ok (.lreturn, 1)) (hp : q e μ) : WA g l Y d (pL q) pc lv [vL e] μ := w_lret hr hd ⟨e, rfl, hp⟩
theorem w_vretP {q : gM → Prop} (hr : Y.2.2.2 = none) (hd : decode Y.2.1 pc = .ok (.return_, 1)) (hp : q μ) : WA g l Y d (pV q) pc lv [] μ := w_vret hr hd ⟨rfl, hp⟩
theorem kI {q : Int → gM → Prop} (kk : ∀ (e : Int) (μ' : gM), q e μ' → WA g l Y d post pc lv (vI e :: st) μ') : ∀ (r : Option gA) (μ' : gM), pI q r μ' → WA g l Y d post pc lv (r.toList ++ st) μ' := by
  rintro r μ' ⟨e, rfl, h⟩
  exact kk e μ' h
theorem kL {q : Int → gM → Prop} (kk : ∀ (e : Int) (μ' : gM), q e μ' → WA g l Y d post pc lv (vL e :: st) μ') : ∀ (r : Option gA) (μ' : gM), pL q r μ' → WA g l Y d post pc lv (r.toList ++ st) μ' := by
  rintro r μ' ⟨e, rfl, h⟩
  exact kk e μ' h
theorem kU {q : gM → Prop} (kk : ∀ (μ' : gM), q μ' → WA g l Y d post pc lv st μ') : ∀ (r : Option gA) (μ' : gM), pV q r μ' → WA g l Y d post pc lv (r.toList ++ st) μ' := by
  rintro r μ' ⟨rfl, h⟩
  exact kk μ' h
end CALL2
