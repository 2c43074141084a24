theorem w_tcase {g : gG} {l : Launch} {Y : gY} {d : Nat} {post : gQ} {pc : Nat} {lv : List (Option gA)} {st : List gA} {μ : gM} {dflt lo hi : Int} {offs : Array Int} {len : Nat} {a off : Int} (v : Int) {tgt : Nat} (ha : -2147483648 ≤ a ∧ a < 2147483648) (hd : decode Y.2.1 pc = .ok (.tableswitch dflt lo hi offs, len)) (hr : -2147483648 ≤ v ∧ v < 2147483648) (h : ¬ v < lo ∧ ¬ hi < v) (ho : offs[(v - lo).toNat]? = some off) (ht : (pc : Int) + off = (tgt : Int)) (kt : a = v → WA g l Y d post tgt lv st μ) (kf : ¬ a = v → WA g l Y d post pc lv (vI a :: st) μ) : WA g l Y d post pc lv (vI a :: st) μ := by
  by_cases hv : a = v
  · exact w_tableIn v hd hv hr h ho ht (kt hv)
  · exact kf hv
theorem w_ishl {g : gG} {l : Launch} {Y : gY} {d : Nat} {post : gQ} {pc : Nat} {lv : List (Option gA)} {st : List gA} {μ : gM} {a b : Int} (hd : decode Y.2.1 pc = .ok (.ishl, 1)) (kk : WA g l Y d post (pc + 1) lv (vI (bShl a b) :: st) μ) : WA g l Y d post pc lv (vI b :: vI a :: st) μ := by
  intro p en s m args below meth c H locs ls C L hP hS
  refine lv_ishl (x := iI a) (y := iI b) C.1 C.2.1 hd ?_
  have h := kk p en s m args below meth c H locs ls C L hP hS
  have e2 : cv g (vI (bShl a b)) = .int (iI a <<< (iI b &&& 31)) := congrArg Value.int (iI_of _)
  rw [List.map_cons, e2] at h
  exact h
def lUshr (a b : Int) : Int := ((lI a).toUInt64 >>> ((iI b).toInt64.toUInt64 &&& Int64.toUInt64 63)).toInt64.toInt
def lShl (a b : Int) : Int := (lI a <<< ((iI b).toInt64 &&& 63)).toInt
theorem w_lushr {g : gG} {l : Launch} {Y : gY} {d : Nat} {post : gQ} {pc : Nat} {lv : List (Option gA)} {st : List gA} {μ : gM} {a b : Int} (hd : decode Y.2.1 pc = .ok (.lushr, 1)) (kk : WA g l Y d post (pc + 1) lv (vL (lUshr a b) :: st) μ) : WA g l Y d post pc lv (vI b :: vL a :: st) μ := by
  intro p en s m args below meth c H locs ls C L hP hS
  refine lv_lushr (x := lI a) (y := iI b) C.1 C.2.1 hd rfl ?_
  have h := kk p en s m args below meth c H locs ls C L hP hS
  have e2 : cv g (vL (lUshr a b)) = .long (((lI a).toUInt64 >>> ((iI b).toInt64.toUInt64 &&& Int64.toUInt64 63)).toInt64) := congrArg Value.long (lI_of _)
  rw [List.map_cons, e2] at h
  exact h
theorem w_lshl {g : gG} {l : Launch} {Y : gY} {d : Nat} {post : gQ} {pc : Nat} {lv : List (Option gA)} {st : List gA} {μ : gM} {a b : Int} (hd : decode Y.2.1 pc = .ok (.lshl, 1)) (kk : WA g l Y d post (pc + 1) lv (vL (lShl a b) :: st) μ) : WA g l Y d post pc lv (vI b :: vL a :: st) μ := by
  intro p en s m args below meth c H locs ls C L hP hS
  refine lv_lshl (x := lI a) (y := iI b) C.1 C.2.1 hd rfl ?_
  have h := kk p en s m args below meth c H locs ls C L hP hS
  have e2 : cv g (vL (lShl a b)) = .long (lI a <<< ((iI b).toInt64 &&& 63)) := congrArg Value.long (lI_of _)
  rw [List.map_cons, e2] at h
  exact h
/-! what is computed of a canton: 'view j k' is place k of its row j -/
abbrev gV : Type := Nat → Int → Int
def vw (μ : gM) (c : Nat) : gV := fun j k => μ (c + j) k
def fF (v : gV) (s r sl : Int) : Int := if r < v 6 s ∨ v 7 s < r then 0 else max 0 ((if sl = v 8 s then v 9 s else v 9 s / 2) - 2 * v 11 r - (if 0 < r then v 11 (r - 1) else 0) - (if r < 6 then v 11 (r + 1) else 0))
def fT (v : gV) (s r sl : Int) : Int := if fF v s r sl = 0 then 0 else if v 1 r = 1 then fF v s r sl + v 2 r else if v 1 r = 2 then fF v s r sl / 2 else if v 1 r = 3 then max 0 (fF v s r sl / 2 - 1) else if v 1 r = 4 then max 0 (fF v s r sl + v 2 r - 3) else if v 1 r = 5 then 0 else fF v s r sl
def fb (v : gV) (s r sl w : Int) : Int := min (fT v s r sl) (v 3 (4 * r + 2 * sl + w))
def fB (v : gV) (s r w : Int) : Int := fb v s r 0 w + fb v s r 1 w
def fA (v : gV) (n s w : Int) : Int := sI (fun r => fB v s r w) n
def fL (v : gV) (n s : Int) : Int := sI (fun r => fB v s r 0 - fB v s r 1) n
def fW (x : Int) : Int := if x = 0 then -1 else if 0 < x then 1 else 0
def fC (v : gV) (m : Int) : Int := sI (fun s => v 10 s) m
def fO (v : gV) (n m who : Int) : Int := sI (fun s => if fW (fL v n s) = who then v 10 s else 0) m
def fE (v : gV) (n m : Int) : Int := sI (fun s => if fL v n s < 0 then v 10 s else if 0 < fL v n s then - v 10 s else 0) m
