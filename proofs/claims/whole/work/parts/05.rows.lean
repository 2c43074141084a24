theorem w_iconst {g : gG} {l : Launch} {Y : gY} {d : Nat} {post : gQ} {pc : Nat} {lv : List (Option gA)} {st : List gA} {μ : gM} {n : Int} (hd : decode Y.2.1 pc = .ok (.iconst n, 1)) (kk : WA g l Y d post (pc + 1) lv (vI n :: st) μ) : WA g l Y d post (pc) lv (st) μ := by
  intro p en s m args below meth c H locs ls C L hP hS
  exact lv_iconst C.1 C.2.1 hd rfl (kk p en s m args below meth c H locs ls C L hP hS)
theorem w_bipush {g : gG} {l : Launch} {Y : gY} {d : Nat} {post : gQ} {pc : Nat} {lv : List (Option gA)} {st : List gA} {μ : gM} {n : Int} (hd : decode Y.2.1 pc = .ok (.bipush n, 2)) (hn : (Int8.ofInt n).toInt32 = iI n) (kk : WA g l Y d post (pc + 2) lv (vI n :: st) μ) : WA g l Y d post (pc) lv (st) μ := by
  intro p en s m args below meth c H locs ls C L hP hS
  exact lv_bipush C.1 C.2.1 hd hn (kk p en s m args below meth c H locs ls C L hP hS)
theorem w_sipush {g : gG} {l : Launch} {Y : gY} {d : Nat} {post : gQ} {pc : Nat} {lv : List (Option gA)} {st : List gA} {μ : gM} {n : Int} (hd : decode Y.2.1 pc = .ok (.sipush n, 3)) (hn : (Int16.ofInt n).toInt32 = iI n) (kk : WA g l Y d post (pc + 3) lv (vI n :: st) μ) : WA g l Y d post (pc) lv (st) μ := by
  intro p en s m args below meth c H locs ls C L hP hS
  exact lv_sipush C.1 C.2.1 hd hn (kk p en s m args below meth c H locs ls C L hP hS)
theorem w_lconst {g : gG} {l : Launch} {Y : gY} {d : Nat} {post : gQ} {pc : Nat} {lv : List (Option gA)} {st : List gA} {μ : gM} {n : Fin 2} (v : Int) (hd : decode Y.2.1 pc = .ok (.lconst n, 1)) (hn : Int64.ofNat (n : Nat) = lI v) (kk : WA g l Y d post (pc + 1) lv (vL v :: st) μ) : WA g l Y d post (pc) lv (st) μ := by
  intro p en s m args below meth c H locs ls C L hP hS
  exact lv_lconst C.1 C.2.1 hd hn (kk p en s m args below meth c H locs ls C L hP hS)
theorem w_ldc2 {g : gG} {l : Launch} {Y : gY} {d : Nat} {post : gQ} {pc : Nat} {lv : List (Option gA)} {st : List gA} {μ : gM} {i : Nat} {x : Int64} (v : Int) (hw : Cond.constantLong Y.1.cls i x ∈ lw_gt) (hd : decode Y.2.1 pc = .ok (.ldc2_w i, 3)) (hn : x = lI v) (kk : WA g l Y d post (pc + 3) lv (vL v :: st) μ) : WA g l Y d post (pc) lv (st) μ := by
  intro p en s m args below meth c H locs ls C L hP hS
  subst hn
  exact lv_ldc2 C.1 C.2.1 C.2.2.2.2.1 (C.2.2.2.2.2.1 _ hw) hd (kk p en s m args below meth c H locs ls C L hP hS)
theorem w_ldc {g : gG} {l : Launch} {Y : gY} {d : Nat} {post : gQ} {pc : Nat} {lv : List (Option gA)} {st : List gA} {μ : gM} {i : Nat} {x : Int32} (v : Int) (hw : Cond.constant Y.1.cls i x ∈ lw_gt) (hd : decode Y.2.1 pc = .ok (.ldc i, 2)) (hn : x = iI v) (kk : WA g l Y d post (pc + 2) lv (vI v :: st) μ) : WA g l Y d post (pc) lv (st) μ := by
  intro p en s m args below meth c H locs ls C L hP hS
  subst hn
  exact lv_ldc C.1 C.2.1 C.2.2.2.2.1 (C.2.2.2.2.2.1 _ hw) hd (kk p en s m args below meth c H locs ls C L hP hS)
theorem w_iload_n {g : gG} {l : Launch} {Y : gY} {d : Nat} {post : gQ} {pc : Nat} {lv : List (Option gA)} {st : List gA} {μ : gM} {k : Fin 4} {e : Int} (hd : decode Y.2.1 pc = .ok (.iload_n k, 1)) (hl : lv[(k : Nat)]? = some (some (vI e))) (kk : WA g l Y d post (pc + 1) lv (vI e :: st) μ) : WA g l Y d post (pc) lv (st) μ := by
  intro p en s m args below meth c H locs ls C L hP hS
  exact lv_iload_n C.1 C.2.1 hd rfl (L.2.2 _ _ hl) (kk p en s m args below meth c H locs ls C L hP hS)
theorem w_iload {g : gG} {l : Launch} {Y : gY} {d : Nat} {post : gQ} {pc : Nat} {lv : List (Option gA)} {st : List gA} {μ : gM} {k : Nat} {e : Int} (hd : decode Y.2.1 pc = .ok (.iload k, 2)) (hl : lv[k]? = some (some (vI e))) (kk : WA g l Y d post (pc + 2) lv (vI e :: st) μ) : WA g l Y d post (pc) lv (st) μ := by
  intro p en s m args below meth c H locs ls C L hP hS
  exact lv_iload C.1 C.2.1 hd (L.2.2 _ _ hl) (kk p en s m args below meth c H locs ls C L hP hS)
theorem w_lload_n {g : gG} {l : Launch} {Y : gY} {d : Nat} {post : gQ} {pc : Nat} {lv : List (Option gA)} {st : List gA} {μ : gM} {k : Fin 4} {e : Int} (hd : decode Y.2.1 pc = .ok (.lload_n k, 1)) (hl : lv[(k : Nat)]? = some (some (vL e))) (kk : WA g l Y d post (pc + 1) lv (vL e :: st) μ) : WA g l Y d post (pc) lv (st) μ := by
  intro p en s m args below meth c H locs ls C L hP hS
  exact lv_lload_n C.1 C.2.1 hd rfl (L.2.2 _ _ hl) (kk p en s m args below meth c H locs ls C L hP hS)
theorem w_lload {g : gG} {l : Launch} {Y : gY} {d : Nat} {post : gQ} {pc : Nat} {lv : List (Option gA)} {st : List gA} {μ : gM} {k : Nat} {e : Int} (hd : decode Y.2.1 pc = .ok (.lload k, 2)) (hl : lv[k]? = some (some (vL e))) (kk : WA g l Y d post (pc + 2) lv (vL e :: st) μ) : WA g l Y d post (pc) lv (st) μ := by
  intro p en s m args below meth c H locs ls C L hP hS
  exact lv_lload C.1 C.2.1 hd (L.2.2 _ _ hl) (kk p en s m args below meth c H locs ls C L hP hS)
theorem w_aload_n {g : gG} {l : Launch} {Y : gY} {d : Nat} {post : gQ} {pc : Nat} {lv : List (Option gA)} {st : List gA} {μ : gM} {k : Fin 4} {e : Nat} (hd : decode Y.2.1 pc = .ok (.aload_n k, 1)) (hl : lv[(k : Nat)]? = some (some (vR e))) (kk : WA g l Y d post (pc + 1) lv (vR e :: st) μ) : WA g l Y d post (pc) lv (st) μ := by
  intro p en s m args below meth c H locs ls C L hP hS
  exact lv_aload_n C.1 C.2.1 hd rfl (L.2.2 _ _ hl) (kk p en s m args below meth c H locs ls C L hP hS)
theorem w_aload {g : gG} {l : Launch} {Y : gY} {d : Nat} {post : gQ} {pc : Nat} {lv : List (Option gA)} {st : List gA} {μ : gM} {k : Nat} {e : Nat} (hd : decode Y.2.1 pc = .ok (.aload k, 2)) (hl : lv[k]? = some (some (vR e))) (kk : WA g l Y d post (pc + 2) lv (vR e :: st) μ) : WA g l Y d post (pc) lv (st) μ := by
  intro p en s m args below meth c H locs ls C L hP hS
  exact lv_aload C.1 C.2.1 hd (L.2.2 _ _ hl) (kk p en s m args below meth c H locs ls C L hP hS)
def ol (g : gG) : Nat → List (Option gA) → List (Nat × Value)
  | _, [] => []
  | b, none :: r => ol g (b + 1) r
  | b, some v :: r => (b, cv g v) :: ol g (b + 1) r
theorem ol_mem (g : gG) : ∀ (lv : List (Option gA)) (b : Nat) (q : Nat × Value), q ∈ ol g b lv ↔ ∃ k w, q.1 = b + k ∧ lv[k]? = some (some w) ∧ q.2 = cv g w
  | [], b, q => by simp [ol]
  | none :: r, b, q => by
    rw [ol, ol_mem g r (b + 1) q]
    constructor
    · rintro ⟨k, w, h1, h2, h3⟩
      exact ⟨k + 1, w, by omega, by simpa using h2, h3⟩
    · rintro ⟨k, w, h1, h2, h3⟩
      cases k with
      | zero => simp at h2
      | succ k => exact ⟨k, w, by omega, by simpa using h2, h3⟩
  | some v :: r, b, q => by
    rw [ol, List.mem_cons, ol_mem g r (b + 1) q]
    constructor
    · rintro (rfl | ⟨k, w, h1, h2, h3⟩)
      · exact ⟨0, v, rfl, rfl, rfl⟩
      · exact ⟨k + 1, w, by omega, by simpa using h2, h3⟩
    · rintro ⟨k, w, h1, h2, h3⟩
      cases k with
      | zero =>
        simp at h2
        subst h2
        exact Or.inl (Prod.ext h1 h3)
      | succ k => exact Or.inr ⟨k, w, by omega, by simpa using h2, h3⟩
theorem LV.has {g : gG} {ls : Array Slot} {n : Nat} {lv : List (Option gA)} (h : LV g ls n lv) : lv_has ls n (ol g 0 lv) := by
  refine ⟨h.1, h.2.1, fun q hq => ?_⟩
  obtain ⟨k, w, h1, h2, h3⟩ := (ol_mem g lv 0 q).mp hq
  rw [h1, h3, Nat.zero_add]
  exact h.2.2 k w h2
/-- no long begins just ahead of place i -/
def nl (lv : List (Option gA)) : Nat → Bool
  | 0 => true
  | j + 1 => match lv[j]? with
    | some (some (.inr (.inl _))) => false
    | _ => true
theorem nl_cat {g : gG} {lv : List (Option gA)} {i k : Nat} {w : gA} (h : nl lv i = true) (hk : k + 1 = i) (hw : lv[k]? = some (some w)) : (cv g w).category = 1 := by
  subst hk
  rcases w with e | e | c
  · rfl
  · simp [nl, hw] at h
  · rfl
theorem LV.set1 {g : gG} {ls : Array Slot} {n i : Nat} {lv : List (Option gA)} {v : gA} (hn : nl lv i = true) (h : lv_has ls n ((i, cv g v) :: (ol g 0 lv).filter (fun q => !(q.1 == i) && !(q.1 + 1 == i && q.2.category == 2)))) : LV g ls n (lv.set i (some v)) := by
  refine ⟨h.1, h.2.1, fun k w hk => ?_⟩
  by_cases hi : k = i
  · subst hi
    by_cases hl : k < lv.length
    · rw [List.getElem?_set_self hl] at hk
      cases hk
      exact h.2.2 (k, cv g v) List.mem_cons_self
    · rw [List.getElem?_eq_none (by rw [List.length_set]; omega)] at hk
      cases hk
  · rw [List.getElem?_set_ne (Ne.symm hi)] at hk
    refine h.2.2 (k, cv g w) (List.mem_cons_of_mem _ (List.mem_filter.mpr ⟨(ol_mem g lv 0 _).mpr ⟨k, w, by simp, hk, rfl⟩, ?_⟩))
    simp only [Bool.and_eq_true, Bool.not_eq_true', beq_eq_false_iff_ne, ne_eq, Bool.and_eq_false_iff]
    refine ⟨hi, ?_⟩
    by_cases h1 : k + 1 = i
    · right
      simp [nl_cat (g := g) hn h1 hk]
    · exact Or.inl h1
theorem LV.set2 {g : gG} {ls : Array Slot} {n i : Nat} {lv : List (Option gA)} {v : gA} (hn : nl lv i = true) (h : lv_has ls n ((i, cv g v) :: (ol g 0 lv).filter (fun q => !(q.1 == i) && (!(q.1 == i + 1) && !(q.1 + 1 == i && q.2.category == 2))))) : LV g ls n ((lv.set i (some v)).set (i + 1) none) := by
  refine ⟨h.1, h.2.1, fun k w hk => ?_⟩
  by_cases h1 : k = i + 1
  · subst h1
    by_cases hl : i + 1 < (lv.set i (some v)).length
    · rw [List.getElem?_set_self hl] at hk
      cases hk
    · rw [List.getElem?_eq_none (by rw [List.length_set]; omega)] at hk
      cases hk
  · rw [List.getElem?_set_ne (Ne.symm h1)] at hk
    by_cases hi : k = i
    · subst hi
      by_cases hl : k < lv.length
      · rw [List.getElem?_set_self hl] at hk
        cases hk
        exact h.2.2 (k, cv g v) List.mem_cons_self
      · rw [List.getElem?_eq_none (by rw [List.length_set]; omega)] at hk
        cases hk
    · rw [List.getElem?_set_ne (Ne.symm hi)] at hk
      refine h.2.2 (k, cv g w) (List.mem_cons_of_mem _ (List.mem_filter.mpr ⟨(ol_mem g lv 0 _).mpr ⟨k, w, by simp, hk, rfl⟩, ?_⟩))
      simp only [Bool.and_eq_true, Bool.not_eq_true', beq_eq_false_iff_ne, ne_eq, Bool.and_eq_false_iff]
      refine ⟨hi, h1, ?_⟩
      by_cases h2 : k + 1 = i
      · right
        simp [nl_cat (g := g) hn h2 hk]
      · exact Or.inl h2
theorem w_istore_n {g : gG} {l : Launch} {Y : gY} {d : Nat} {post : gQ} {pc : Nat} {lv : List (Option gA)} {st : List gA} {μ : gM} {k : Fin 4} {e : Int} (hd : decode Y.2.1 pc = .ok (.istore_n k, 1)) (hn : (k : Nat) < Y.2.2.1) (ho : nl lv k = true) (kk : WA g l Y d post (pc + 1) (lv.set (k : Nat) (some (vI e))) (st) μ) : WA g l Y d post (pc) lv (vI e :: st) μ := by
  intro p en s m args below meth c H locs ls C L hP hS
  exact lv_istore_n C.1 C.2.1 hd rfl L.has hn rfl (fun ls2 h2 => kk p en s m args below meth c H locs ls2 C (LV.set1 ho h2) hP hS)
theorem w_istore {g : gG} {l : Launch} {Y : gY} {d : Nat} {post : gQ} {pc : Nat} {lv : List (Option gA)} {st : List gA} {μ : gM} {k : Nat} {e : Int} (hd : decode Y.2.1 pc = .ok (.istore k, 2)) (hn : k < Y.2.2.1) (ho : nl lv k = true) (kk : WA g l Y d post (pc + 2) (lv.set k (some (vI e))) (st) μ) : WA g l Y d post (pc) lv (vI e :: st) μ := by
  intro p en s m args below meth c H locs ls C L hP hS
  exact lv_istore C.1 C.2.1 hd L.has hn rfl (fun ls2 h2 => kk p en s m args below meth c H locs ls2 C (LV.set1 ho h2) hP hS)
theorem w_astore_n {g : gG} {l : Launch} {Y : gY} {d : Nat} {post : gQ} {pc : Nat} {lv : List (Option gA)} {st : List gA} {μ : gM} {k : Fin 4} {e : Nat} (hd : decode Y.2.1 pc = .ok (.astore_n k, 1)) (hn : (k : Nat) < Y.2.2.1) (ho : nl lv k = true) (kk : WA g l Y d post (pc + 1) (lv.set (k : Nat) (some (vR e))) (st) μ) : WA g l Y d post (pc) lv (vR e :: st) μ := by
  intro p en s m args below meth c H locs ls C L hP hS
  exact lv_astore_n C.1 C.2.1 hd rfl L.has hn rfl (fun ls2 h2 => kk p en s m args below meth c H locs ls2 C (LV.set1 ho h2) hP hS)
theorem w_astore {g : gG} {l : Launch} {Y : gY} {d : Nat} {post : gQ} {pc : Nat} {lv : List (Option gA)} {st : List gA} {μ : gM} {k : Nat} {e : Nat} (hd : decode Y.2.1 pc = .ok (.astore k, 2)) (hn : k < Y.2.2.1) (ho : nl lv k = true) (kk : WA g l Y d post (pc + 2) (lv.set k (some (vR e))) (st) μ) : WA g l Y d post (pc) lv (vR e :: st) μ := by
  intro p en s m args below meth c H locs ls C L hP hS
  exact lv_astore C.1 C.2.1 hd L.has hn rfl (fun ls2 h2 => kk p en s m args below meth c H locs ls2 C (LV.set1 ho h2) hP hS)
theorem w_lstore_n {g : gG} {l : Launch} {Y : gY} {d : Nat} {post : gQ} {pc : Nat} {lv : List (Option gA)} {st : List gA} {μ : gM} {k : Fin 4} {e : Int} (hd : decode Y.2.1 pc = .ok (.lstore_n k, 1)) (hn : (k : Nat) + 1 < Y.2.2.1) (ho : nl lv k = true) (kk : WA g l Y d post (pc + 1) ((lv.set (k : Nat) (some (vL e))).set ((k : Nat) + 1) none) (st) μ) : WA g l Y d post (pc) lv (vL e :: st) μ := by
  intro p en s m args below meth c H locs ls C L hP hS
  exact lv_lstore_n C.1 C.2.1 hd rfl L.has hn rfl (fun ls2 h2 => kk p en s m args below meth c H locs ls2 C (LV.set2 ho h2) hP hS)
theorem w_lstore {g : gG} {l : Launch} {Y : gY} {d : Nat} {post : gQ} {pc : Nat} {lv : List (Option gA)} {st : List gA} {μ : gM} {k : Nat} {e : Int} (hd : decode Y.2.1 pc = .ok (.lstore k, 2)) (hn : k + 1 < Y.2.2.1) (ho : nl lv k = true) (kk : WA g l Y d post (pc + 2) ((lv.set k (some (vL e))).set (k + 1) none) (st) μ) : WA g l Y d post (pc) lv (vL e :: st) μ := by
  intro p en s m args below meth c H locs ls C L hP hS
  exact lv_lstore C.1 C.2.1 hd L.has hn rfl (fun ls2 h2 => kk p en s m args below meth c H locs ls2 C (LV.set2 ho h2) hP hS)
theorem w_iinc {g : gG} {l : Launch} {Y : gY} {d : Nat} {post : gQ} {pc : Nat} {lv : List (Option gA)} {st : List gA} {μ : gM} {k : Nat} {n e : Int} (hd : decode Y.2.1 pc = .ok (.iinc k n, 3)) (hl : lv[k]? = some (some (vI e))) (hn : k < Y.2.2.1) (ho : nl lv k = true) (kk : WA g l Y d post (pc + 3) (lv.set k (some (vI (e + n)))) (st) μ) : WA g l Y d post (pc) lv (st) μ := by
  intro p en s m args below meth c H locs ls C L hP hS
  obtain ⟨j, hj⟩ := List.getElem?_of_mem ((ol_mem g lv 0 (k, cv g (vI e))).mpr ⟨k, vI e, by simp, hl, rfl⟩)
  refine lv_iinc (x := iI e) (v := iI (e + n)) C.1 C.2.1 hd L.has (k := j) hj (iI_add e n) hn rfl (fun ls2 h2 => ?_)
  exact kk p en s m args below meth c H locs ls2 C (LV.set1 (v := vI (e + n)) ho h2) hP hS
theorem w_drop {g : gG} {l : Launch} {Y : gY} {d : Nat} {post : gQ} {pc : Nat} {lv : List (Option gA)} {st : List gA} {μ : gM} (k : Nat) (kk : WA g l Y d post (pc) (lv.set k none) (st) μ) : WA g l Y d post (pc) lv (st) μ := by
  intro p en s m args below meth c H locs ls C L hP hS
  refine kk p en s m args below meth c H locs ls C ⟨L.1, L.2.1, fun j v hj => ?_⟩ hP hS
  by_cases h : j = k
  · subst h
    by_cases hl : j < lv.length
    · rw [List.getElem?_set_self hl] at hj
      cases hj
    · rw [List.getElem?_eq_none (by rw [List.length_set]; omega)] at hj
      cases hj
  · rw [List.getElem?_set_ne (Ne.symm h)] at hj
    exact L.2.2 j v hj
theorem w_iadd {g : gG} {l : Launch} {Y : gY} {d : Nat} {post : gQ} {pc : Nat} {lv : List (Option gA)} {st : List gA} {μ : gM} {a b : Int} (hd : decode Y.2.1 pc = .ok (.iadd, 1)) (kk : WA g l Y d post (pc + 1) lv (vI (a + b) :: st) μ) : WA g l Y d post (pc) lv (vI b :: vI a :: st) μ := by
  intro p en s m args below meth c H locs ls C L hP hS
  refine lv_iadd (x := iI a) (y := iI b) C.1 C.2.1 hd ?_
  rw [iI_add]
  exact kk p en s m args below meth c H locs ls C L hP hS
theorem w_ladd {g : gG} {l : Launch} {Y : gY} {d : Nat} {post : gQ} {pc : Nat} {lv : List (Option gA)} {st : List gA} {μ : gM} {a b : Int} (hd : decode Y.2.1 pc = .ok (.ladd, 1)) (kk : WA g l Y d post (pc + 1) lv (vL (a + b) :: st) μ) : WA g l Y d post (pc) lv (vL b :: vL a :: st) μ := by
  intro p en s m args below meth c H locs ls C L hP hS
  refine lv_ladd (x := lI a) (y := lI b) C.1 C.2.1 hd ?_
  rw [lI_add]
  exact kk p en s m args below meth c H locs ls C L hP hS
theorem w_isub {g : gG} {l : Launch} {Y : gY} {d : Nat} {post : gQ} {pc : Nat} {lv : List (Option gA)} {st : List gA} {μ : gM} {a b : Int} (hd : decode Y.2.1 pc = .ok (.isub, 1)) (kk : WA g l Y d post (pc + 1) lv (vI (a - b) :: st) μ) : WA g l Y d post (pc) lv (vI b :: vI a :: st) μ := by
  intro p en s m args below meth c H locs ls C L hP hS
  refine lv_isub (x := iI a) (y := iI b) C.1 C.2.1 hd ?_
  rw [iI_sub]
  exact kk p en s m args below meth c H locs ls C L hP hS
theorem w_lsub {g : gG} {l : Launch} {Y : gY} {d : Nat} {post : gQ} {pc : Nat} {lv : List (Option gA)} {st : List gA} {μ : gM} {a b : Int} (hd : decode Y.2.1 pc = .ok (.lsub, 1)) (kk : WA g l Y d post (pc + 1) lv (vL (a - b) :: st) μ) : WA g l Y d post (pc) lv (vL b :: vL a :: st) μ := by
  intro p en s m args below meth c H locs ls C L hP hS
  refine lv_lsub (x := lI a) (y := lI b) C.1 C.2.1 hd ?_
  rw [lI_sub]
  exact kk p en s m args below meth c H locs ls C L hP hS
theorem w_imul {g : gG} {l : Launch} {Y : gY} {d : Nat} {post : gQ} {pc : Nat} {lv : List (Option gA)} {st : List gA} {μ : gM} {a b : Int} (hd : decode Y.2.1 pc = .ok (.imul, 1)) (kk : WA g l Y d post (pc + 1) lv (vI (a * b) :: st) μ) : WA g l Y d post (pc) lv (vI b :: vI a :: st) μ := by
  intro p en s m args below meth c H locs ls C L hP hS
  refine lv_imul (x := iI a) (y := iI b) C.1 C.2.1 hd ?_
  rw [iI_mul]
  exact kk p en s m args below meth c H locs ls C L hP hS
theorem w_lmul {g : gG} {l : Launch} {Y : gY} {d : Nat} {post : gQ} {pc : Nat} {lv : List (Option gA)} {st : List gA} {μ : gM} {a b : Int} (hd : decode Y.2.1 pc = .ok (.lmul, 1)) (kk : WA g l Y d post (pc + 1) lv (vL (a * b) :: st) μ) : WA g l Y d post (pc) lv (vL b :: vL a :: st) μ := by
  intro p en s m args below meth c H locs ls C L hP hS
  refine lv_lmul (x := lI a) (y := lI b) C.1 C.2.1 hd ?_
  rw [lI_mul]
  exact kk p en s m args below meth c H locs ls C L hP hS
theorem w_ineg {g : gG} {l : Launch} {Y : gY} {d : Nat} {post : gQ} {pc : Nat} {lv : List (Option gA)} {st : List gA} {μ : gM} {a : Int} (hd : decode Y.2.1 pc = .ok (.ineg, 1)) (kk : WA g l Y d post (pc + 1) lv (vI (-a) :: st) μ) : WA g l Y d post (pc) lv (vI a :: st) μ := by
  intro p en s m args below meth c H locs ls C L hP hS
  refine lv_ineg (x := iI a) C.1 C.2.1 hd ?_
  rw [iI_neg]
  exact kk p en s m args below meth c H locs ls C L hP hS
theorem w_idiv {g : gG} {l : Launch} {Y : gY} {d : Nat} {post : gQ} {pc : Nat} {lv : List (Option gA)} {st : List gA} {μ : gM} {a b : Int} (ha : 0 ≤ a ∧ a < 2147483648) (hb : 0 < b ∧ b < 2147483648) (hd : decode Y.2.1 pc = .ok (.idiv, 1)) (kk : WA g l Y d post (pc + 1) lv (vI (a / b) :: st) μ) : WA g l Y d post (pc) lv (vI b :: vI a :: st) μ := by
  intro p en s m args below meth c H locs ls C L hP hS
  refine lv_idiv (x := iI a) (y := iI b) C.1 C.2.1 hd (fun h => ?_) ?_
  · have h0 : iI b = iI 0 := h
    rw [iI_eq (by omega) (by omega)] at h0
    omega
  · rw [iI_div ha hb]
    exact kk p en s m args below meth c H locs ls C L hP hS
theorem w_irem {g : gG} {l : Launch} {Y : gY} {d : Nat} {post : gQ} {pc : Nat} {lv : List (Option gA)} {st : List gA} {μ : gM} {a b : Int} (ha : 0 ≤ a ∧ a < 2147483648) (hb : 0 < b ∧ b < 2147483648) (hd : decode Y.2.1 pc = .ok (.irem, 1)) (kk : WA g l Y d post (pc + 1) lv (vI (a % b) :: st) μ) : WA g l Y d post (pc) lv (vI b :: vI a :: st) μ := by
  intro p en s m args below meth c H locs ls C L hP hS
  refine lv_irem (x := iI a) (y := iI b) C.1 C.2.1 hd (fun h => ?_) ?_
  · have h0 : iI b = iI 0 := h
    rw [iI_eq (by omega) (by omega)] at h0
    omega
  · rw [iI_rem ha hb]
    exact kk p en s m args below meth c H locs ls C L hP hS
theorem w_lneg {g : gG} {l : Launch} {Y : gY} {d : Nat} {post : gQ} {pc : Nat} {lv : List (Option gA)} {st : List gA} {μ : gM} {a : Int} (hd : decode Y.2.1 pc = .ok (.lneg, 1)) (kk : WA g l Y d post (pc + 1) lv (vL (-a) :: st) μ) : WA g l Y d post (pc) lv (vL a :: st) μ := by
  intro p en s m args below meth c H locs ls C L hP hS
  refine lv_lneg (x := lI a) C.1 C.2.1 hd ?_
  rw [lI_neg]
  exact kk p en s m args below meth c H locs ls C L hP hS
theorem w_ldiv {g : gG} {l : Launch} {Y : gY} {d : Nat} {post : gQ} {pc : Nat} {lv : List (Option gA)} {st : List gA} {μ : gM} {a b : Int} (ha : 0 ≤ a ∧ a < 9223372036854775808) (hb : 0 < b ∧ b < 9223372036854775808) (hd : decode Y.2.1 pc = .ok (.ldiv, 1)) (kk : WA g l Y d post (pc + 1) lv (vL (a / b) :: st) μ) : WA g l Y d post (pc) lv (vL b :: vL a :: st) μ := by
  intro p en s m args below meth c H locs ls C L hP hS
  refine lv_ldiv (x := lI a) (y := lI b) C.1 C.2.1 hd (fun h => ?_) ?_
  · have h0 : lI b = lI 0 := h
    rw [lI_eq (by omega) (by omega)] at h0
    omega
  · rw [lI_div ha hb]
    exact kk p en s m args below meth c H locs ls C L hP hS
theorem w_lrem {g : gG} {l : Launch} {Y : gY} {d : Nat} {post : gQ} {pc : Nat} {lv : List (Option gA)} {st : List gA} {μ : gM} {a b : Int} (ha : 0 ≤ a ∧ a < 9223372036854775808) (hb : 0 < b ∧ b < 9223372036854775808) (hd : decode Y.2.1 pc = .ok (.lrem, 1)) (kk : WA g l Y d post (pc + 1) lv (vL (a % b) :: st) μ) : WA g l Y d post (pc) lv (vL b :: vL a :: st) μ := by
  intro p en s m args below meth c H locs ls C L hP hS
  refine lv_lrem (x := lI a) (y := lI b) C.1 C.2.1 hd (fun h => ?_) ?_
  · have h0 : lI b = lI 0 := h
    rw [lI_eq (by omega) (by omega)] at h0
    omega
  · rw [lI_rem ha hb]
    exact kk p en s m args below meth c H locs ls C L hP hS
theorem w_i2l {g : gG} {l : Launch} {Y : gY} {d : Nat} {post : gQ} {pc : Nat} {lv : List (Option gA)} {st : List gA} {μ : gM} {a : Int} (ha : -2147483648 ≤ a ∧ a < 2147483648) (hd : decode Y.2.1 pc = .ok (.i2l, 1)) (kk : WA g l Y d post (pc + 1) lv (vL a :: st) μ) : WA g l Y d post (pc) lv (vI a :: st) μ := by
  intro p en s m args below meth c H locs ls C L hP hS
  exact lv_i2l C.1 C.2.1 hd (iI_l ha) (kk p en s m args below meth c H locs ls C L hP hS)
theorem w_l2i {g : gG} {l : Launch} {Y : gY} {d : Nat} {post : gQ} {pc : Nat} {lv : List (Option gA)} {st : List gA} {μ : gM} {a : Int} (hd : decode Y.2.1 pc = .ok (.l2i, 1)) (kk : WA g l Y d post (pc + 1) lv (vI a :: st) μ) : WA g l Y d post (pc) lv (vL a :: st) μ := by
  intro p en s m args below meth c H locs ls C L hP hS
  exact lv_l2i C.1 C.2.1 hd (lI_i a) (kk p en s m args below meth c H locs ls C L hP hS)
def bOr (a b : Int) : Int := (iI a ||| iI b).toInt
def bAnd (a b : Int) : Int := (iI a &&& iI b).toInt
def bShl (a b : Int) : Int := (iI a <<< (iI b &&& 31)).toInt
def lOr (a b : Int) : Int := (lI a ||| lI b).toInt
def lAnd (a b : Int) : Int := (lI a &&& lI b).toInt
theorem w_ior {g : gG} {l : Launch} {Y : gY} {d : Nat} {post : gQ} {pc : Nat} {lv : List (Option gA)} {st : List gA} {μ : gM} {a b : Int} (hd : decode Y.2.1 pc = .ok (.ior, 1)) (kk : WA g l Y d post (pc + 1) lv (vI (bOr a b) :: st) μ) : WA g l Y d post (pc) lv (vI b :: vI a :: st) μ := by
  intro p en s m args below meth c H locs ls C L hP hS
  refine lv_ior (x := iI a) (y := iI b) C.1 C.2.1 hd ?_
  have h := kk p en s m args below meth c H locs ls C L hP hS
  have e2 : cv g (vI (bOr a b)) = .int (iI a ||| iI b) := congrArg Value.int (iI_of _)
  rw [List.map_cons, e2] at h
  exact h
theorem w_iand {g : gG} {l : Launch} {Y : gY} {d : Nat} {post : gQ} {pc : Nat} {lv : List (Option gA)} {st : List gA} {μ : gM} {a b : Int} (hd : decode Y.2.1 pc = .ok (.iand, 1)) (kk : WA g l Y d post (pc + 1) lv (vI (bAnd a b) :: st) μ) : WA g l Y d post (pc) lv (vI b :: vI a :: st) μ := by
  intro p en s m args below meth c H locs ls C L hP hS
  refine lv_iand (x := iI a) (y := iI b) C.1 C.2.1 hd ?_
  have h := kk p en s m args below meth c H locs ls C L hP hS
  have e2 : cv g (vI (bAnd a b)) = .int (iI a &&& iI b) := congrArg Value.int (iI_of _)
  rw [List.map_cons, e2] at h
  exact h
theorem w_lor {g : gG} {l : Launch} {Y : gY} {d : Nat} {post : gQ} {pc : Nat} {lv : List (Option gA)} {st : List gA} {μ : gM} {a b : Int} (hd : decode Y.2.1 pc = .ok (.lor, 1)) (kk : WA g l Y d post (pc + 1) lv (vL (lOr a b) :: st) μ) : WA g l Y d post (pc) lv (vL b :: vL a :: st) μ := by
  intro p en s m args below meth c H locs ls C L hP hS
  refine lv_lor (x := lI a) (y := lI b) C.1 C.2.1 hd ?_
  have h := kk p en s m args below meth c H locs ls C L hP hS
  have e2 : cv g (vL (lOr a b)) = .long (lI a ||| lI b) := congrArg Value.long (lI_of _)
  rw [List.map_cons, e2] at h
  exact h
theorem w_land {g : gG} {l : Launch} {Y : gY} {d : Nat} {post : gQ} {pc : Nat} {lv : List (Option gA)} {st : List gA} {μ : gM} {a b : Int} (hd : decode Y.2.1 pc = .ok (.land, 1)) (kk : WA g l Y d post (pc + 1) lv (vL (lAnd a b) :: st) μ) : WA g l Y d post (pc) lv (vL b :: vL a :: st) μ := by
  intro p en s m args below meth c H locs ls C L hP hS
  refine lv_land (x := lI a) (y := lI b) C.1 C.2.1 hd ?_
  have h := kk p en s m args below meth c H locs ls C L hP hS
  have e2 : cv g (vL (lAnd a b)) = .long (lI a &&& lI b) := congrArg Value.long (lI_of _)
  rw [List.map_cons, e2] at h
  exact h
theorem w_dup_i {g : gG} {l : Launch} {Y : gY} {d : Nat} {post : gQ} {pc : Nat} {lv : List (Option gA)} {st : List gA} {μ : gM} {e : Int} (hd : decode Y.2.1 pc = .ok (.dup, 1)) (kk : WA g l Y d post (pc + 1) lv (vI e :: vI e :: st) μ) : WA g l Y d post (pc) lv (vI e :: st) μ := by
  intro p en s m args below meth c H locs ls C L hP hS
  exact lv_dup C.1 C.2.1 hd rfl (kk p en s m args below meth c H locs ls C L hP hS)
theorem w_pop_i {g : gG} {l : Launch} {Y : gY} {d : Nat} {post : gQ} {pc : Nat} {lv : List (Option gA)} {st : List gA} {μ : gM} {e : Int} (hd : decode Y.2.1 pc = .ok (.pop, 1)) (kk : WA g l Y d post (pc + 1) lv (st) μ) : WA g l Y d post (pc) lv (vI e :: st) μ := by
  intro p en s m args below meth c H locs ls C L hP hS
  exact lv_pop C.1 C.2.1 hd rfl (kk p en s m args below meth c H locs ls C L hP hS)
theorem w_dup_a {g : gG} {l : Launch} {Y : gY} {d : Nat} {post : gQ} {pc : Nat} {lv : List (Option gA)} {st : List gA} {μ : gM} {e : Nat} (hd : decode Y.2.1 pc = .ok (.dup, 1)) (kk : WA g l Y d post (pc + 1) lv (vR e :: vR e :: st) μ) : WA g l Y d post (pc) lv (vR e :: st) μ := by
  intro p en s m args below meth c H locs ls C L hP hS
  exact lv_dup C.1 C.2.1 hd rfl (kk p en s m args below meth c H locs ls C L hP hS)
theorem w_pop_a {g : gG} {l : Launch} {Y : gY} {d : Nat} {post : gQ} {pc : Nat} {lv : List (Option gA)} {st : List gA} {μ : gM} {e : Nat} (hd : decode Y.2.1 pc = .ok (.pop, 1)) (kk : WA g l Y d post (pc + 1) lv (st) μ) : WA g l Y d post (pc) lv (vR e :: st) μ := by
  intro p en s m args below meth c H locs ls C L hP hS
  exact lv_pop C.1 C.2.1 hd rfl (kk p en s m args below meth c H locs ls C L hP hS)
theorem w_dup2 {g : gG} {l : Launch} {Y : gY} {d : Nat} {post : gQ} {pc : Nat} {lv : List (Option gA)} {st : List gA} {μ : gM} {i : Int} {a : Nat} (hd : decode Y.2.1 pc = .ok (.dup2, 1)) (kk : WA g l Y d post (pc + 1) lv (vI i :: vR a :: vI i :: vR a :: st) μ) : WA g l Y d post (pc) lv (vI i :: vR a :: st) μ := by
  intro p en s m args below meth c H locs ls C L hP hS
  exact lv_dup2_11 C.1 C.2.1 hd rfl rfl (kk p en s m args below meth c H locs ls C L hP hS)
theorem w_dup_x1 {g : gG} {l : Launch} {Y : gY} {d : Nat} {post : gQ} {pc : Nat} {lv : List (Option gA)} {st : List gA} {μ : gM} {i : Int} {a : Nat} (hd : decode Y.2.1 pc = .ok (.dup_x1, 1)) (kk : WA g l Y d post (pc + 1) lv (vI i :: vR a :: vI i :: st) μ) : WA g l Y d post (pc) lv (vI i :: vR a :: st) μ := by
  intro p en s m args below meth c H locs ls C L hP hS
  exact lv_dup_x1 C.1 C.2.1 hd rfl rfl (kk p en s m args below meth c H locs ls C L hP hS)
theorem w_icmp_eq {g : gG} {l : Launch} {Y : gY} {d : Nat} {post : gQ} {pc : Nat} {lv : List (Option gA)} {st : List gA} {μ : gM} {a b : Int} {off : Int} {tgt : Nat} (ha : -2147483648 ≤ a ∧ a < 2147483648) (hb : -2147483648 ≤ b ∧ b < 2147483648) (hd : decode Y.2.1 pc = .ok (.if_icmp .eq off, 3)) (ht : (pc : Int) + off = (tgt : Int)) (kt : a = b → WA g l Y d post (tgt) lv (st) μ) (kf : ¬ (a = b) → WA g l Y d post (pc + 3) lv (st) μ) : WA g l Y d post (pc) lv (vI b :: vI a :: st) μ := by
  intro p en s m args below meth c H locs ls C L hP hS
  have hi := iI_eq ha hb
  exact lv_icmp_eq (x := iI a) (y := iI b) C.1 C.2.1 hd ht (fun h => kt (hi.mp h) p en s m args below meth c H locs ls C L hP hS) (fun h => kf (fun q => h (hi.mpr q)) p en s m args below meth c H locs ls C L hP hS)
theorem w_if_eq {g : gG} {l : Launch} {Y : gY} {d : Nat} {post : gQ} {pc : Nat} {lv : List (Option gA)} {st : List gA} {μ : gM} {a : Int} {off : Int} {tgt : Nat} (ha : -2147483648 ≤ a ∧ a < 2147483648) (hd : decode Y.2.1 pc = .ok (.ifCond .eq off, 3)) (ht : (pc : Int) + off = (tgt : Int)) (kt : a = 0 → WA g l Y d post (tgt) lv (st) μ) (kf : ¬ (a = 0) → WA g l Y d post (pc + 3) lv (st) μ) : WA g l Y d post (pc) lv (vI a :: st) μ := by
  intro p en s m args below meth c H locs ls C L hP hS
  have hi := iI_eq ha (show -2147483648 ≤ (0 : Int) ∧ (0 : Int) < 2147483648 by decide)
  exact lv_if_eq (x := iI a) C.1 C.2.1 hd ht (fun h => kt (hi.mp h) p en s m args below meth c H locs ls C L hP hS) (fun h => kf (fun q => h (hi.mpr q)) p en s m args below meth c H locs ls C L hP hS)
theorem w_icmp_ne {g : gG} {l : Launch} {Y : gY} {d : Nat} {post : gQ} {pc : Nat} {lv : List (Option gA)} {st : List gA} {μ : gM} {a b : Int} {off : Int} {tgt : Nat} (ha : -2147483648 ≤ a ∧ a < 2147483648) (hb : -2147483648 ≤ b ∧ b < 2147483648) (hd : decode Y.2.1 pc = .ok (.if_icmp .ne off, 3)) (ht : (pc : Int) + off = (tgt : Int)) (kt : a ≠ b → WA g l Y d post (tgt) lv (st) μ) (kf : a = b → WA g l Y d post (pc + 3) lv (st) μ) : WA g l Y d post (pc) lv (vI b :: vI a :: st) μ := by
  intro p en s m args below meth c H locs ls C L hP hS
  have hi := not_congr (iI_eq ha hb)
  exact lv_icmp_ne (x := iI a) (y := iI b) C.1 C.2.1 hd ht (fun h => kt (hi.mp h) p en s m args below meth c H locs ls C L hP hS) (fun h => kf ((iI_eq ha hb).mp h) p en s m args below meth c H locs ls C L hP hS)
theorem w_if_ne {g : gG} {l : Launch} {Y : gY} {d : Nat} {post : gQ} {pc : Nat} {lv : List (Option gA)} {st : List gA} {μ : gM} {a : Int} {off : Int} {tgt : Nat} (ha : -2147483648 ≤ a ∧ a < 2147483648) (hd : decode Y.2.1 pc = .ok (.ifCond .ne off, 3)) (ht : (pc : Int) + off = (tgt : Int)) (kt : a ≠ 0 → WA g l Y d post (tgt) lv (st) μ) (kf : a = 0 → WA g l Y d post (pc + 3) lv (st) μ) : WA g l Y d post (pc) lv (vI a :: st) μ := by
  intro p en s m args below meth c H locs ls C L hP hS
  have hi := not_congr (iI_eq ha (show -2147483648 ≤ (0 : Int) ∧ (0 : Int) < 2147483648 by decide))
  exact lv_if_ne (x := iI a) C.1 C.2.1 hd ht (fun h => kt (hi.mp h) p en s m args below meth c H locs ls C L hP hS) (fun h => kf ((iI_eq ha (show -2147483648 ≤ (0 : Int) ∧ (0 : Int) < 2147483648 by decide)).mp h) p en s m args below meth c H locs ls C L hP hS)
theorem w_icmp_lt {g : gG} {l : Launch} {Y : gY} {d : Nat} {post : gQ} {pc : Nat} {lv : List (Option gA)} {st : List gA} {μ : gM} {a b : Int} {off : Int} {tgt : Nat} (ha : -2147483648 ≤ a ∧ a < 2147483648) (hb : -2147483648 ≤ b ∧ b < 2147483648) (hd : decode Y.2.1 pc = .ok (.if_icmp .lt off, 3)) (ht : (pc : Int) + off = (tgt : Int)) (kt : a < b → WA g l Y d post (tgt) lv (st) μ) (kf : ¬ (a < b) → WA g l Y d post (pc + 3) lv (st) μ) : WA g l Y d post (pc) lv (vI b :: vI a :: st) μ := by
  intro p en s m args below meth c H locs ls C L hP hS
  have hi := iI_lt ha hb
  exact lv_icmp_lt (x := iI a) (y := iI b) C.1 C.2.1 hd ht (fun h => kt (hi.mp h) p en s m args below meth c H locs ls C L hP hS) (fun h => kf (fun q => h (hi.mpr q)) p en s m args below meth c H locs ls C L hP hS)
theorem w_if_lt {g : gG} {l : Launch} {Y : gY} {d : Nat} {post : gQ} {pc : Nat} {lv : List (Option gA)} {st : List gA} {μ : gM} {a : Int} {off : Int} {tgt : Nat} (ha : -2147483648 ≤ a ∧ a < 2147483648) (hd : decode Y.2.1 pc = .ok (.ifCond .lt off, 3)) (ht : (pc : Int) + off = (tgt : Int)) (kt : a < 0 → WA g l Y d post (tgt) lv (st) μ) (kf : ¬ (a < 0) → WA g l Y d post (pc + 3) lv (st) μ) : WA g l Y d post (pc) lv (vI a :: st) μ := by
  intro p en s m args below meth c H locs ls C L hP hS
  have hi := iI_lt ha (show -2147483648 ≤ (0 : Int) ∧ (0 : Int) < 2147483648 by decide)
  exact lv_if_lt (x := iI a) C.1 C.2.1 hd ht (fun h => kt (hi.mp h) p en s m args below meth c H locs ls C L hP hS) (fun h => kf (fun q => h (hi.mpr q)) p en s m args below meth c H locs ls C L hP hS)
theorem w_icmp_ge {g : gG} {l : Launch} {Y : gY} {d : Nat} {post : gQ} {pc : Nat} {lv : List (Option gA)} {st : List gA} {μ : gM} {a b : Int} {off : Int} {tgt : Nat} (ha : -2147483648 ≤ a ∧ a < 2147483648) (hb : -2147483648 ≤ b ∧ b < 2147483648) (hd : decode Y.2.1 pc = .ok (.if_icmp .ge off, 3)) (ht : (pc : Int) + off = (tgt : Int)) (kt : b ≤ a → WA g l Y d post (tgt) lv (st) μ) (kf : ¬ (b ≤ a) → WA g l Y d post (pc + 3) lv (st) μ) : WA g l Y d post (pc) lv (vI b :: vI a :: st) μ := by
  intro p en s m args below meth c H locs ls C L hP hS
  have hi := iI_le hb ha
  exact lv_icmp_ge (x := iI a) (y := iI b) C.1 C.2.1 hd ht (fun h => kt (hi.mp h) p en s m args below meth c H locs ls C L hP hS) (fun h => kf (fun q => h (hi.mpr q)) p en s m args below meth c H locs ls C L hP hS)
theorem w_if_ge {g : gG} {l : Launch} {Y : gY} {d : Nat} {post : gQ} {pc : Nat} {lv : List (Option gA)} {st : List gA} {μ : gM} {a : Int} {off : Int} {tgt : Nat} (ha : -2147483648 ≤ a ∧ a < 2147483648) (hd : decode Y.2.1 pc = .ok (.ifCond .ge off, 3)) (ht : (pc : Int) + off = (tgt : Int)) (kt : 0 ≤ a → WA g l Y d post (tgt) lv (st) μ) (kf : ¬ (0 ≤ a) → WA g l Y d post (pc + 3) lv (st) μ) : WA g l Y d post (pc) lv (vI a :: st) μ := by
  intro p en s m args below meth c H locs ls C L hP hS
  have hi := iI_le (show -2147483648 ≤ (0 : Int) ∧ (0 : Int) < 2147483648 by decide) ha
  exact lv_if_ge (x := iI a) C.1 C.2.1 hd ht (fun h => kt (hi.mp h) p en s m args below meth c H locs ls C L hP hS) (fun h => kf (fun q => h (hi.mpr q)) p en s m args below meth c H locs ls C L hP hS)
theorem w_icmp_gt {g : gG} {l : Launch} {Y : gY} {d : Nat} {post : gQ} {pc : Nat} {lv : List (Option gA)} {st : List gA} {μ : gM} {a b : Int} {off : Int} {tgt : Nat} (ha : -2147483648 ≤ a ∧ a < 2147483648) (hb : -2147483648 ≤ b ∧ b < 2147483648) (hd : decode Y.2.1 pc = .ok (.if_icmp .gt off, 3)) (ht : (pc : Int) + off = (tgt : Int)) (kt : b < a → WA g l Y d post (tgt) lv (st) μ) (kf : ¬ (b < a) → WA g l Y d post (pc + 3) lv (st) μ) : WA g l Y d post (pc) lv (vI b :: vI a :: st) μ := by
  intro p en s m args below meth c H locs ls C L hP hS
  have hi := iI_lt hb ha
  exact lv_icmp_gt (x := iI a) (y := iI b) C.1 C.2.1 hd ht (fun h => kt (hi.mp h) p en s m args below meth c H locs ls C L hP hS) (fun h => kf (fun q => h (hi.mpr q)) p en s m args below meth c H locs ls C L hP hS)
theorem w_if_gt {g : gG} {l : Launch} {Y : gY} {d : Nat} {post : gQ} {pc : Nat} {lv : List (Option gA)} {st : List gA} {μ : gM} {a : Int} {off : Int} {tgt : Nat} (ha : -2147483648 ≤ a ∧ a < 2147483648) (hd : decode Y.2.1 pc = .ok (.ifCond .gt off, 3)) (ht : (pc : Int) + off = (tgt : Int)) (kt : 0 < a → WA g l Y d post (tgt) lv (st) μ) (kf : ¬ (0 < a) → WA g l Y d post (pc + 3) lv (st) μ) : WA g l Y d post (pc) lv (vI a :: st) μ := by
  intro p en s m args below meth c H locs ls C L hP hS
  have hi := iI_lt (show -2147483648 ≤ (0 : Int) ∧ (0 : Int) < 2147483648 by decide) ha
  exact lv_if_gt (x := iI a) C.1 C.2.1 hd ht (fun h => kt (hi.mp h) p en s m args below meth c H locs ls C L hP hS) (fun h => kf (fun q => h (hi.mpr q)) p en s m args below meth c H locs ls C L hP hS)
theorem w_icmp_le {g : gG} {l : Launch} {Y : gY} {d : Nat} {post : gQ} {pc : Nat} {lv : List (Option gA)} {st : List gA} {μ : gM} {a b : Int} {off : Int} {tgt : Nat} (ha : -2147483648 ≤ a ∧ a < 2147483648) (hb : -2147483648 ≤ b ∧ b < 2147483648) (hd : decode Y.2.1 pc = .ok (.if_icmp .le off, 3)) (ht : (pc : Int) + off = (tgt : Int)) (kt : a ≤ b → WA g l Y d post (tgt) lv (st) μ) (kf : ¬ (a ≤ b) → WA g l Y d post (pc + 3) lv (st) μ) : WA g l Y d post (pc) lv (vI b :: vI a :: st) μ := by
  intro p en s m args below meth c H locs ls C L hP hS
  have hi := iI_le ha hb
  exact lv_icmp_le (x := iI a) (y := iI b) C.1 C.2.1 hd ht (fun h => kt (hi.mp h) p en s m args below meth c H locs ls C L hP hS) (fun h => kf (fun q => h (hi.mpr q)) p en s m args below meth c H locs ls C L hP hS)
theorem w_if_le {g : gG} {l : Launch} {Y : gY} {d : Nat} {post : gQ} {pc : Nat} {lv : List (Option gA)} {st : List gA} {μ : gM} {a : Int} {off : Int} {tgt : Nat} (ha : -2147483648 ≤ a ∧ a < 2147483648) (hd : decode Y.2.1 pc = .ok (.ifCond .le off, 3)) (ht : (pc : Int) + off = (tgt : Int)) (kt : a ≤ 0 → WA g l Y d post (tgt) lv (st) μ) (kf : ¬ (a ≤ 0) → WA g l Y d post (pc + 3) lv (st) μ) : WA g l Y d post (pc) lv (vI a :: st) μ := by
  intro p en s m args below meth c H locs ls C L hP hS
  have hi := iI_le ha (show -2147483648 ≤ (0 : Int) ∧ (0 : Int) < 2147483648 by decide)
  exact lv_if_le (x := iI a) C.1 C.2.1 hd ht (fun h => kt (hi.mp h) p en s m args below meth c H locs ls C L hP hS) (fun h => kf (fun q => h (hi.mpr q)) p en s m args below meth c H locs ls C L hP hS)
theorem w_goto {g : gG} {l : Launch} {Y : gY} {d : Nat} {post : gQ} {pc : Nat} {lv : List (Option gA)} {st : List gA} {μ : gM} {off : Int} {tgt : Nat} (hd : decode Y.2.1 pc = .ok (.goto off, 3)) (ht : (pc : Int) + off = (tgt : Int)) (kk : WA g l Y d post (tgt) lv (st) μ) : WA g l Y d post (pc) lv (st) μ := by
  intro p en s m args below meth c H locs ls C L hP hS
  exact lv_goto C.1 C.2.1 hd ht (kk p en s m args below meth c H locs ls C L hP hS)
def cmpI (a b : Int) : Int := if b < a then 1 else if a = b then 0 else -1
theorem lg_cmp_I {a b : Int} (ha : -9223372036854775808 ≤ a ∧ a < 9223372036854775808) (hb : -9223372036854775808 ≤ b ∧ b < 9223372036854775808) : lg_cmp (lI a) (lI b) = iI (cmpI a b) := by
  unfold lg_cmp cmpI
  simp only [gt_iff_lt, lI_lt hb ha, lI_eq ha hb]
  split
  · rfl
  · split <;> rfl
theorem cmpI_r (a b : Int) : -2147483648 ≤ cmpI a b ∧ cmpI a b < 2147483648 := by
  unfold cmpI
  split
  · decide
  · split <;> decide
theorem cmpI_eq (a b : Int) : cmpI a b = 0 ↔ a = b := by
  unfold cmpI
  split
  · omega
  · split <;> omega
theorem w_lcmp_eq {g : gG} {l : Launch} {Y : gY} {d : Nat} {post : gQ} {pc : Nat} {lv : List (Option gA)} {st : List gA} {μ : gM} {a b : Int} {off : Int} {tgt : Nat} (ha : -9223372036854775808 ≤ a ∧ a < 9223372036854775808) (hb : -9223372036854775808 ≤ b ∧ b < 9223372036854775808) (hd : decode Y.2.1 pc = .ok (.lcmp, 1)) (hd2 : decode Y.2.1 (pc + 1) = .ok (.ifCond .eq off, 3)) (ht : ((pc + 1 : Nat) : Int) + off = (tgt : Int)) (kt : a = b → WA g l Y d post (tgt) lv (st) μ) (kf : ¬ (a = b) → WA g l Y d post (pc + 1 + 3) lv (st) μ) : WA g l Y d post (pc) lv (vL b :: vL a :: st) μ := by
  have k2 := w_if_eq (g := g) (l := l) (Y := Y) (d := d) (post := post) (lv := lv) (st := st) (μ := μ) (cmpI_r a b) hd2 ht (fun h => kt ((cmpI_eq a b).mp h)) (fun h => kf (fun q => h ((cmpI_eq a b).mpr q)))
  intro p en s m args below meth c H locs ls C L hP hS
  refine W.lcmp (x := lI a) (y := lI b) C.1 C.2.1 hd ?_
  rw [lg_cmp_I ha hb]
  exact k2 p en s m args below meth c H locs ls C L hP hS
theorem cmpI_ne (a b : Int) : cmpI a b ≠ 0 ↔ a ≠ b := by
  unfold cmpI
  split
  · omega
  · split <;> omega
theorem w_lcmp_ne {g : gG} {l : Launch} {Y : gY} {d : Nat} {post : gQ} {pc : Nat} {lv : List (Option gA)} {st : List gA} {μ : gM} {a b : Int} {off : Int} {tgt : Nat} (ha : -9223372036854775808 ≤ a ∧ a < 9223372036854775808) (hb : -9223372036854775808 ≤ b ∧ b < 9223372036854775808) (hd : decode Y.2.1 pc = .ok (.lcmp, 1)) (hd2 : decode Y.2.1 (pc + 1) = .ok (.ifCond .ne off, 3)) (ht : ((pc + 1 : Nat) : Int) + off = (tgt : Int)) (kt : a ≠ b → WA g l Y d post (tgt) lv (st) μ) (kf : a = b → WA g l Y d post (pc + 1 + 3) lv (st) μ) : WA g l Y d post (pc) lv (vL b :: vL a :: st) μ := by
  have k2 := w_if_ne (g := g) (l := l) (Y := Y) (d := d) (post := post) (lv := lv) (st := st) (μ := μ) (cmpI_r a b) hd2 ht (fun h => kt ((cmpI_ne a b).mp h)) (fun h => kf ((cmpI_eq a b).mp h))
  intro p en s m args below meth c H locs ls C L hP hS
  refine W.lcmp (x := lI a) (y := lI b) C.1 C.2.1 hd ?_
  rw [lg_cmp_I ha hb]
  exact k2 p en s m args below meth c H locs ls C L hP hS
theorem cmpI_lt (a b : Int) : cmpI a b < 0 ↔ a < b := by
  unfold cmpI
  split
  · omega
  · split <;> omega
theorem w_lcmp_lt {g : gG} {l : Launch} {Y : gY} {d : Nat} {post : gQ} {pc : Nat} {lv : List (Option gA)} {st : List gA} {μ : gM} {a b : Int} {off : Int} {tgt : Nat} (ha : -9223372036854775808 ≤ a ∧ a < 9223372036854775808) (hb : -9223372036854775808 ≤ b ∧ b < 9223372036854775808) (hd : decode Y.2.1 pc = .ok (.lcmp, 1)) (hd2 : decode Y.2.1 (pc + 1) = .ok (.ifCond .lt off, 3)) (ht : ((pc + 1 : Nat) : Int) + off = (tgt : Int)) (kt : a < b → WA g l Y d post (tgt) lv (st) μ) (kf : ¬ (a < b) → WA g l Y d post (pc + 1 + 3) lv (st) μ) : WA g l Y d post (pc) lv (vL b :: vL a :: st) μ := by
  have k2 := w_if_lt (g := g) (l := l) (Y := Y) (d := d) (post := post) (lv := lv) (st := st) (μ := μ) (cmpI_r a b) hd2 ht (fun h => kt ((cmpI_lt a b).mp h)) (fun h => kf (fun q => h ((cmpI_lt a b).mpr q)))
  intro p en s m args below meth c H locs ls C L hP hS
  refine W.lcmp (x := lI a) (y := lI b) C.1 C.2.1 hd ?_
  rw [lg_cmp_I ha hb]
  exact k2 p en s m args below meth c H locs ls C L hP hS
theorem cmpI_ge (a b : Int) : 0 ≤ cmpI a b ↔ b ≤ a := by
  unfold cmpI
  split
  · omega
  · split <;> omega
theorem w_lcmp_ge {g : gG} {l : Launch} {Y : gY} {d : Nat} {post : gQ} {pc : Nat} {lv : List (Option gA)} {st : List gA} {μ : gM} {a b : Int} {off : Int} {tgt : Nat} (ha : -9223372036854775808 ≤ a ∧ a < 9223372036854775808) (hb : -9223372036854775808 ≤ b ∧ b < 9223372036854775808) (hd : decode Y.2.1 pc = .ok (.lcmp, 1)) (hd2 : decode Y.2.1 (pc + 1) = .ok (.ifCond .ge off, 3)) (ht : ((pc + 1 : Nat) : Int) + off = (tgt : Int)) (kt : b ≤ a → WA g l Y d post (tgt) lv (st) μ) (kf : ¬ (b ≤ a) → WA g l Y d post (pc + 1 + 3) lv (st) μ) : WA g l Y d post (pc) lv (vL b :: vL a :: st) μ := by
  have k2 := w_if_ge (g := g) (l := l) (Y := Y) (d := d) (post := post) (lv := lv) (st := st) (μ := μ) (cmpI_r a b) hd2 ht (fun h => kt ((cmpI_ge a b).mp h)) (fun h => kf (fun q => h ((cmpI_ge a b).mpr q)))
  intro p en s m args below meth c H locs ls C L hP hS
  refine W.lcmp (x := lI a) (y := lI b) C.1 C.2.1 hd ?_
  rw [lg_cmp_I ha hb]
  exact k2 p en s m args below meth c H locs ls C L hP hS
theorem cmpI_gt (a b : Int) : 0 < cmpI a b ↔ b < a := by
  unfold cmpI
  split
  · omega
  · split <;> omega
theorem w_lcmp_gt {g : gG} {l : Launch} {Y : gY} {d : Nat} {post : gQ} {pc : Nat} {lv : List (Option gA)} {st : List gA} {μ : gM} {a b : Int} {off : Int} {tgt : Nat} (ha : -9223372036854775808 ≤ a ∧ a < 9223372036854775808) (hb : -9223372036854775808 ≤ b ∧ b < 9223372036854775808) (hd : decode Y.2.1 pc = .ok (.lcmp, 1)) (hd2 : decode Y.2.1 (pc + 1) = .ok (.ifCond .gt off, 3)) (ht : ((pc + 1 : Nat) : Int) + off = (tgt : Int)) (kt : b < a → WA g l Y d post (tgt) lv (st) μ) (kf : ¬ (b < a) → WA g l Y d post (pc + 1 + 3) lv (st) μ) : WA g l Y d post (pc) lv (vL b :: vL a :: st) μ := by
  have k2 := w_if_gt (g := g) (l := l) (Y := Y) (d := d) (post := post) (lv := lv) (st := st) (μ := μ) (cmpI_r a b) hd2 ht (fun h => kt ((cmpI_gt a b).mp h)) (fun h => kf (fun q => h ((cmpI_gt a b).mpr q)))
  intro p en s m args below meth c H locs ls C L hP hS
  refine W.lcmp (x := lI a) (y := lI b) C.1 C.2.1 hd ?_
  rw [lg_cmp_I ha hb]
  exact k2 p en s m args below meth c H locs ls C L hP hS
theorem cmpI_le (a b : Int) : cmpI a b ≤ 0 ↔ a ≤ b := by
  unfold cmpI
  split
  · omega
  · split <;> omega
theorem w_lcmp_le {g : gG} {l : Launch} {Y : gY} {d : Nat} {post : gQ} {pc : Nat} {lv : List (Option gA)} {st : List gA} {μ : gM} {a b : Int} {off : Int} {tgt : Nat} (ha : -9223372036854775808 ≤ a ∧ a < 9223372036854775808) (hb : -9223372036854775808 ≤ b ∧ b < 9223372036854775808) (hd : decode Y.2.1 pc = .ok (.lcmp, 1)) (hd2 : decode Y.2.1 (pc + 1) = .ok (.ifCond .le off, 3)) (ht : ((pc + 1 : Nat) : Int) + off = (tgt : Int)) (kt : a ≤ b → WA g l Y d post (tgt) lv (st) μ) (kf : ¬ (a ≤ b) → WA g l Y d post (pc + 1 + 3) lv (st) μ) : WA g l Y d post (pc) lv (vL b :: vL a :: st) μ := by
  have k2 := w_if_le (g := g) (l := l) (Y := Y) (d := d) (post := post) (lv := lv) (st := st) (μ := μ) (cmpI_r a b) hd2 ht (fun h => kt ((cmpI_le a b).mp h)) (fun h => kf (fun q => h ((cmpI_le a b).mpr q)))
  intro p en s m args below meth c H locs ls C L hP hS
  refine W.lcmp (x := lI a) (y := lI b) C.1 C.2.1 hd ?_
  rw [lg_cmp_I ha hb]
  exact k2 p en s m args below meth c H locs ls C L hP hS
theorem w_tableOut {g : gG} {l : Launch} {Y : gY} {d : Nat} {post : gQ} {pc : Nat} {lv : List (Option gA)} {st : List gA} {μ : gM} {dflt lo hi : Int} {offs : Array Int} {len : Nat} {a : Int} {tgt : Nat} (ha : -2147483648 ≤ a ∧ a < 2147483648) (hd : decode Y.2.1 pc = .ok (.tableswitch dflt lo hi offs, len)) (h : a < lo ∨ hi < a) (ht : (pc : Int) + dflt = (tgt : Int)) (kk : WA g l Y d post (tgt) lv (st) μ) : WA g l Y d post (pc) lv (vI a :: st) μ := by
  intro p en s m args below meth c H locs ls C L hP hS
  exact lv_tableOut (x := iI a) C.1 C.2.1 hd (by rw [iI_toInt ha]; exact h) ht (kk p en s m args below meth c H locs ls C L hP hS)
theorem w_tableIn {g : gG} {l : Launch} {Y : gY} {d : Nat} {post : gQ} {pc : Nat} {lv : List (Option gA)} {st : List gA} {μ : gM} {dflt lo hi : Int} {offs : Array Int} {len : Nat} {a off : Int} (v : Int) {tgt : Nat} (hd : decode Y.2.1 pc = .ok (.tableswitch dflt lo hi offs, len)) (hv : a = v) (hr : -2147483648 ≤ v ∧ v < 2147483648) (h : ¬ v < lo ∧ ¬ hi < v) (ho : offs[(v - lo).toNat]? = some off) (ht : (pc : Int) + off = (tgt : Int)) (kk : WA g l Y d post (tgt) lv (st) μ) : WA g l Y d post (pc) lv (vI a :: st) μ := by
  intro p en s m args below meth c H locs ls C L hP hS
  subst hv
  exact lv_tableIn (x := iI a) C.1 C.2.1 hd (by rw [iI_toInt hr]; exact h.1) (by rw [iI_toInt hr]; exact h.2) (by rw [iI_toInt hr]; exact ho) ht (kk p en s m args below meth c H locs ls C L hP hS)
theorem w_iret {g : gG} {l : Launch} {Y : gY} {d : Nat} {post : gQ} {pc : Nat} {lv : List (Option gA)} {μ : gM} {e : Int} (hr : Y.2.2.2 = some .int) (hd : decode Y.2.1 pc = .ok (.ireturn, 1)) (hp : post (some (vI e)) μ) : WA g l Y d post pc lv [vI e] μ := by
  intro p en s m args below meth c H locs ls C L hP hS
  exact W.iret (v := iI e) C.1 C.2.1 (C.2.2.1.trans hr) (fun t ht hW => ⟨⟨some (vI e), μ, rfl, hp, by rw [ht]; exact hP⟩, hS.F ht⟩) hS.2.2 hd C.2.2.2.2.2.2.1
theorem w_zret {g : gG} {l : Launch} {Y : gY} {d : Nat} {post : gQ} {pc : Nat} {lv : List (Option gA)} {μ : gM} {e : Int} (hr : Y.2.2.2 = some .boolean) (he : e = 0 ∨ e = 1) (hd : decode Y.2.1 pc = .ok (.ireturn, 1)) (hp : post (some (vI e)) μ) : WA g l Y d post pc lv [vI e] μ := by
  intro p en s m args below meth c H locs ls C L hP hS
  exact W.zret (v := iI e) (ty := .boolean) C.1 C.2.1 (C.2.2.1.trans hr) (by rcases he with rfl | rfl <;> rfl) (fun t ht hW => ⟨⟨some (vI e), μ, rfl, hp, by rw [ht]; exact hP⟩, hS.F ht⟩) hS.2.2 hd C.2.2.2.2.2.2.1
theorem w_lret {g : gG} {l : Launch} {Y : gY} {d : Nat} {post : gQ} {pc : Nat} {lv : List (Option gA)} {μ : gM} {e : Int} (hr : Y.2.2.2 = some .long) (hd : decode Y.2.1 pc = .ok (.lreturn, 1)) (hp : post (some (vL e)) μ) : WA g l Y d post pc lv [vL e] μ := by
  intro p en s m args below meth c H locs ls C L hP hS
  exact W.lret (v := lI e) C.1 C.2.1 (C.2.2.1.trans hr) (fun t ht hW => ⟨⟨some (vL e), μ, rfl, hp, by rw [ht]; exact hP⟩, hS.F ht⟩) hS.2.2 hd C.2.2.2.2.2.2.1
theorem w_vret {g : gG} {l : Launch} {Y : gY} {d : Nat} {post : gQ} {pc : Nat} {lv : List (Option gA)} {μ : gM} (hr : Y.2.2.2 = none) (hd : decode Y.2.1 pc = .ok (.return_, 1)) (hp : post none μ) : WA g l Y d post pc lv [] μ := by
  intro p en s m args below meth c H locs ls C L hP hS
  exact W.vret C.1 C.2.1 (C.2.2.1.trans hr) (fun t ht hW => ⟨⟨none, μ, rfl, hp, by rw [ht]; exact hP⟩, hS.F ht⟩) hS.2.2 hd C.2.2.2.2.2.2.1
