/-! cells by their kinds -/
def arr (a n : Nat) : Prop := a < 180 ∧ sh a = 6 ∧ ln a = n ∧ n < 1000
def arZ (a n : Nat) : Prop := a < 180 ∧ sh a = 7 ∧ ln a = n ∧ n < 1000
def arP (a : Nat) : Prop := a < 180 ∧ sh a = 8 ∧ ln a = 3
def obj (c ci : Nat) : Prop := c < 180 ∧ sh c = ci ∧ ci < 6
theorem cellE_i {g : gG} {μ : gM} {c : Nat} (h : sh c = 6) : cellE g μ c = .inl (g.2.2.1, ln c, .inl (fun k => iI (μ c k))) := by simp [cellE, h]
theorem cellE_z {g : gG} {μ : gM} {c : Nat} (h : sh c = 7) : cellE g μ c = .inl (g.2.2.2.1, ln c, .inl (fun k => iI (μ c k))) := by simp [cellE, h]
theorem cellE_p {g : gG} {μ : gM} {c : Nat} (h : sh c = 8) : cellE g μ c = .inl (g.2.2.2.2, ln c, .inr (.inr (.inr (.inr (fun k => some (g.1 (μ c k).toNat)))))) := by simp [cellE, h]
theorem cellE_o {g : gG} {μ : gM} {c ci : Nat} (h : sh c = ci) (hc : ci < 6) : cellE g μ c = .inr (ci, (ftab ci).mapIdx (fun k code => fv g μ c k code)) := by
  subst h
  unfold cellE
  split
  · omega
  · omega
  · omega
  · next n h6 h7 h8 => rfl
theorem fs_set {g : gG} {μ : gM} {c ci k code : Nat} {v : Int} {x : Value} (hf : (ftab ci)[k]? = some code) (hx : x = fv g (wr μ c k v) c k code) : ((ftab ci).mapIdx (fun k code => fv g μ c k code)).set k x = (ftab ci).mapIdx (fun j cd => fv g (wr μ c k v) c j cd) := by
  have hk := (List.getElem?_eq_some_iff.mp hf).1
  apply List.ext_getElem?
  intro i
  by_cases hi : i = k
  · subst hi
    rw [List.getElem?_set_self (by simpa using hk), List.getElem?_mapIdx, hf, hx]
    rfl
  · rw [List.getElem?_set_ne (Ne.symm hi), List.getElem?_mapIdx, List.getElem?_mapIdx]
    cases (ftab ci)[i]? with
    | none => rfl
    | some cd =>
      simp only [Option.map_some]
      congr 1
      have hi2 : (i : Int) ≠ k := by omega
      rcases cd with _ | _ | d <;> simp [fv, wr, hi2]
section GET
variable {g : gG} {l : Launch} {Y : gY} {d : Nat} {post : gQ} {pc : Nat} {lv : List (Option gA)} {st : List gA} {μ : gM}
theorem w_getI {c k idx ci : Nat} {Cn : String} {T : u_T} {N : Nat} (ki : Int) (ho : obj c ci) (hcl : vwCl[ci]? = some (Cn, T, N)) (hin : ∀ w ∈ u_ws Cn T N, w ∈ lw_gt) (hk : k < N) (hf : (ftab ci)[k]? = some 0) (hki : (k : Int) = ki) (hlink : Cond.fieldLink Y.1.cls idx (T k).1 (T k).2.1 (T k).2.2.1 ∈ lw_gt) (hd : decode Y.2.1 pc = .ok (.getfield idx, 3))
    (kk : WA g l Y d post (pc + 3) lv (vI (μ c ki) :: st) μ) : WA g l Y d post pc lv (vR c :: st) μ := by
  subst hki
  intro p en s m args below meth c0 H locs ls C L hP hS
  refine va_get (ref := (T k).1) (fs := (ftab ci).mapIdx (fun k code => fv g μ c k code)) C.1 C.2.1 C.2.2.2.2.2.1 hin C.2.2.2.2.1 C.2.2.2.2.2.2.2.1.1 hP c ?_ hcl k hk (C.2.2.2.2.2.1 _ hlink) (fun _ h => h) ?_ hd (kk p en s m args below meth c0 H locs ls C L hP hS)
  · rw [wl_get g μ ho.1, cellE_o ho.2.1 ho.2.2]
  · rw [List.getElem?_mapIdx, hf]
    rfl
theorem w_getL {c k idx ci : Nat} {Cn : String} {T : u_T} {N : Nat} (ki : Int) (ho : obj c ci) (hcl : vwCl[ci]? = some (Cn, T, N)) (hin : ∀ w ∈ u_ws Cn T N, w ∈ lw_gt) (hk : k < N) (hf : (ftab ci)[k]? = some 1) (hki : (k : Int) = ki) (hlink : Cond.fieldLink Y.1.cls idx (T k).1 (T k).2.1 (T k).2.2.1 ∈ lw_gt) (hd : decode Y.2.1 pc = .ok (.getfield idx, 3))
    (kk : WA g l Y d post (pc + 3) lv (vL (μ c ki) :: st) μ) : WA g l Y d post pc lv (vR c :: st) μ := by
  subst hki
  intro p en s m args below meth c0 H locs ls C L hP hS
  refine va_get (ref := (T k).1) (fs := (ftab ci).mapIdx (fun k code => fv g μ c k code)) C.1 C.2.1 C.2.2.2.2.2.1 hin C.2.2.2.2.1 C.2.2.2.2.2.2.2.1.1 hP c ?_ hcl k hk (C.2.2.2.2.2.1 _ hlink) (fun _ h => h) ?_ hd (kk p en s m args below meth c0 H locs ls C L hP hS)
  · rw [wl_get g μ ho.1, cellE_o ho.2.1 ho.2.2]
  · rw [List.getElem?_mapIdx, hf]
    rfl
theorem w_getR {c k idx ci dd : Nat} {Cn : String} {T : u_T} {N : Nat} (ho : obj c ci) (hcl : vwCl[ci]? = some (Cn, T, N)) (hin : ∀ w ∈ u_ws Cn T N, w ∈ lw_gt) (hk : k < N) (hf : (ftab ci)[k]? = some (dd + 2)) (hlink : Cond.fieldLink Y.1.cls idx (T k).1 (T k).2.1 (T k).2.2.1 ∈ lw_gt) (hd : decode Y.2.1 pc = .ok (.getfield idx, 3))
    (kk : WA g l Y d post (pc + 3) lv (vR (c + dd) :: st) μ) : WA g l Y d post pc lv (vR c :: st) μ := by
  intro p en s m args below meth c0 H locs ls C L hP hS
  refine va_get (ref := (T k).1) (fs := (ftab ci).mapIdx (fun k code => fv g μ c k code)) C.1 C.2.1 C.2.2.2.2.2.1 hin C.2.2.2.2.1 C.2.2.2.2.2.2.2.1.1 hP c ?_ hcl k hk (C.2.2.2.2.2.1 _ hlink) (fun _ h => h) ?_ hd (kk p en s m args below meth c0 H locs ls C L hP hS)
  · rw [wl_get g μ ho.1, cellE_o ho.2.1 ho.2.2]
  · rw [List.getElem?_mapIdx, hf]
    rfl
theorem w_putI {c k idx ci : Nat} {Cn : String} {T : u_T} {N : Nat} {tyf : Nat → FieldType} (ki : Int) {v : Int} (ho : obj c ci) (hcl : vwCl[ci]? = some (Cn, T, N)) (hin : ∀ w ∈ u_ws Cn T N, w ∈ lw_gt) (hty : ∀ k, k < N → parseFieldDescriptor (T k).2.2.1 = some (tyf k)) (hnm : ∀ a, a < N → ∀ b, b < N → a ≠ b → (T a).2.1 ≠ (T b).2.1) (hk : k < N) (hf : (ftab ci)[k]? = some 0) (hfin : (T k).2.2.2 = false) (htk : tyf k = .int ∨ (tyf k = .boolean ∧ (v = 0 ∨ v = 1))) (hki : (k : Int) = ki) (hlink : Cond.fieldLink Y.1.cls idx (T k).1 (T k).2.1 (T k).2.2.1 ∈ lw_gt) (hd : decode Y.2.1 pc = .ok (.putfield idx, 3))
    (kk : WA g l Y d post (pc + 3) lv st (wr μ c ki v)) : WA g l Y d post pc lv (vI v :: vR c :: st) μ := by
  subst hki
  intro p en s m args below meth c0 H locs ls C L hP hS
  have hlen : (ftab ci).length > k := (List.getElem?_eq_some_iff.mp hf).1
  have hnf : narrow (tyf k) (.int (iI v)) = .int (iI v) ∧ fits (tyf k) (.int (iI v)) = true := by
    rcases htk with h | ⟨h, rfl | rfl⟩ <;> rw [h] <;> exact ⟨rfl, rfl⟩
  refine va_put (ref := (T k).1) (ty := tyf k) (v := .int (iI v)) (fs := (ftab ci).mapIdx (fun k code => fv g μ c k code)) C.1 C.2.1 C.2.2.2.2.2.1 hin tyf hty hnm C.2.2.2.2.1 C.2.2.2.2.2.2.2.1.1 hP (wl_D C.2.2.2.2.2.2.2.2 μ) hS c ?_ hcl k hk (C.2.2.2.2.2.1 _ hlink) (fun _ h => h) hfin (hty k hk) hnf.1 hnf.2 (by simpa using hlen) hd (fun H1 locs1 hP1 hD1 hS1 => ?_)
  · rw [wl_get g μ ho.1, cellE_o ho.2.1 ho.2.2]
  · rw [fs_set (v := v) hf (by simp [fv, wr]), wl_set (g := g) (μ' := wr μ c k v) (cellE_o ho.2.1 ho.2.2) (fun a ha => wr_o ha)] at hP1
    exact kk p en s m args below meth c0 H1 locs1 ls C L hP1 hS1
theorem w_putL {c k idx ci : Nat} {Cn : String} {T : u_T} {N : Nat} {tyf : Nat → FieldType} (ki : Int) {v : Int} (ho : obj c ci) (hcl : vwCl[ci]? = some (Cn, T, N)) (hin : ∀ w ∈ u_ws Cn T N, w ∈ lw_gt) (hty : ∀ k, k < N → parseFieldDescriptor (T k).2.2.1 = some (tyf k)) (hnm : ∀ a, a < N → ∀ b, b < N → a ≠ b → (T a).2.1 ≠ (T b).2.1) (hk : k < N) (hf : (ftab ci)[k]? = some 1) (hfin : (T k).2.2.2 = false) (htk : tyf k = .long) (hki : (k : Int) = ki) (hlink : Cond.fieldLink Y.1.cls idx (T k).1 (T k).2.1 (T k).2.2.1 ∈ lw_gt) (hd : decode Y.2.1 pc = .ok (.putfield idx, 3))
    (kk : WA g l Y d post (pc + 3) lv st (wr μ c ki v)) : WA g l Y d post pc lv (vL v :: vR c :: st) μ := by
  subst hki
  intro p en s m args below meth c0 H locs ls C L hP hS
  have hlen : (ftab ci).length > k := (List.getElem?_eq_some_iff.mp hf).1
  refine va_put (ref := (T k).1) (ty := tyf k) (v := .long (lI v)) (fs := (ftab ci).mapIdx (fun k code => fv g μ c k code)) C.1 C.2.1 C.2.2.2.2.2.1 hin tyf hty hnm C.2.2.2.2.1 C.2.2.2.2.2.2.2.1.1 hP (wl_D C.2.2.2.2.2.2.2.2 μ) hS c ?_ hcl k hk (C.2.2.2.2.2.1 _ hlink) (fun _ h => h) hfin (hty k hk) (by rw [htk]; rfl) (by rw [htk]; rfl) (by simpa using hlen) hd (fun H1 locs1 hP1 hD1 hS1 => ?_)
  · rw [wl_get g μ ho.1, cellE_o ho.2.1 ho.2.2]
  · rw [fs_set (v := v) hf (by simp [fv, wr]), wl_set (g := g) (μ' := wr μ c k v) (cellE_o ho.2.1 ho.2.2) (fun a ha => wr_o ha)] at hP1
    exact kk p en s m args below meth c0 H1 locs1 ls C L hP1 hS1
theorem w_iald {a n : Nat} {i : Int} (hA : arr a n) (hi : 0 ≤ i ∧ i < n) (hd : decode Y.2.1 pc = .ok (.iaload, 1)) (kk : WA g l Y d post (pc + 1) lv (vI (μ a i) :: st) μ) : WA g l Y d post pc lv (vI i :: vR a :: st) μ := by
  intro p en s m args below meth c0 H locs ls C L hP hS
  obtain ⟨h1, h2, rfl, h4⟩ := hA
  refine va_iald (i := iI i) C.1 C.2.1 C.2.2.2.2.2.2.2.1.1 hP a 0 (by rw [wl_get g μ h1, cellE_i h2]) rfl (iI_in hi (by omega)) hd ?_
  have k2 := kk p en s m args below meth c0 H locs ls C L hP hS
  rw [iI_nat hi (by omega)]
  exact k2
theorem w_ialdB {a n : Nat} {i lo hi' : Int} (hB : ∀ k, lo ≤ μ a k ∧ μ a k ≤ hi') (hA : arr a n) (hi : 0 ≤ i ∧ i < n) (hd : decode Y.2.1 pc = .ok (.iaload, 1)) (kk : lo ≤ μ a i ∧ μ a i ≤ hi' → WA g l Y d post (pc + 1) lv (vI (μ a i) :: st) μ) : WA g l Y d post pc lv (vI i :: vR a :: st) μ :=
  w_iald hA hi hd (kk (hB i))
theorem w_zald {a n : Nat} {i : Int} (hA : arZ a n) (hi : 0 ≤ i ∧ i < n) (hd : decode Y.2.1 pc = .ok (.baload, 1)) (kk : WA g l Y d post (pc + 1) lv (vI (μ a i) :: st) μ) : WA g l Y d post pc lv (vI i :: vR a :: st) μ := by
  intro p en s m args below meth c0 H locs ls C L hP hS
  obtain ⟨h1, h2, rfl, h4⟩ := hA
  refine va_zald (i := iI i) C.1 C.2.1 C.2.2.2.2.2.2.2.1.1 hP a 1 (by rw [wl_get g μ h1, cellE_z h2]) rfl (iI_in hi (by omega)) hd ?_
  have k2 := kk p en s m args below meth c0 H locs ls C L hP hS
  rw [iI_nat hi (by omega)]
  exact k2
theorem upd_wr {μ : gM} {a n : Nat} {i x : Int} (hi : 0 ≤ i ∧ i < n) (hn : n < 2147483648) : upd (fun k : Nat => iI (μ a k)) (iI i).toNatClampNeg (iI x) = fun k : Nat => iI (wr μ a i x a k) := by
  funext k
  have h := iI_nat hi hn
  unfold upd wr
  by_cases hk : k = (iI i).toNatClampNeg
  · subst hk
    simp [h]
  · have h2 : (k : Int) ≠ i := by omega
    simp [hk, h2]
theorem w_iast {a n : Nat} {i x : Int} (hA : arr a n) (hi : 0 ≤ i ∧ i < n) (hd : decode Y.2.1 pc = .ok (.iastore, 1)) (kk : WA g l Y d post (pc + 1) lv st (wr μ a i x)) : WA g l Y d post pc lv (vI x :: vI i :: vR a :: st) μ := by
  intro p en s m args below meth c0 H locs ls C L hP hS
  obtain ⟨h1, h2, rfl, h4⟩ := hA
  refine va_iast (i := iI i) (x := iI x) C.1 C.2.1 C.2.2.2.2.2.2.2.1.1 hP (wl_D C.2.2.2.2.2.2.2.2 μ) hS a 0 (by rw [wl_get g μ h1, cellE_i h2]) rfl (iI_in hi (by omega)) hd (fun H1 locs1 hP1 hD1 hS1 => ?_)
  rw [upd_wr hi (by omega), wl_set (g := g) (μ' := wr μ a i x) (cellE_i h2) (fun b hb => wr_o hb)] at hP1
  exact kk p en s m args below meth c0 H1 locs1 ls C L hP1 hS1
theorem w_zast {a n : Nat} {i x : Int} (hA : arZ a n) (hi : 0 ≤ i ∧ i < n) (hx : x = 0 ∨ x = 1) (hd : decode Y.2.1 pc = .ok (.bastore, 1)) (kk : WA g l Y d post (pc + 1) lv st (wr μ a i x)) : WA g l Y d post pc lv (vI x :: vI i :: vR a :: st) μ := by
  intro p en s m args below meth c0 H locs ls C L hP hS
  obtain ⟨h1, h2, rfl, h4⟩ := hA
  refine va_zast (i := iI i) (x := iI x) C.1 C.2.1 C.2.2.2.2.2.2.2.1.1 hP (wl_D C.2.2.2.2.2.2.2.2 μ) hS a 1 (by rw [wl_get g μ h1, cellE_z h2]) rfl (iI_in hi (by omega)) hd (fun H1 locs1 hP1 hD1 hS1 => ?_)
  have hnar : vp_nar .boolean (iI x) = iI x := by rcases hx with rfl | rfl <;> rfl
  rw [hnar, upd_wr hi (by omega), wl_set (g := g) (μ' := wr μ a i x) (cellE_z h2) (fun b hb => wr_o hb)] at hP1
  exact kk p en s m args below meth c0 H1 locs1 ls C L hP1 hS1
theorem w_aald {a : Nat} {i : Int} (hA : arP a) (hi : 0 ≤ i ∧ i < 3) (hd : decode Y.2.1 pc = .ok (.aaload, 1)) (kk : WA g l Y d post (pc + 1) lv (vR (μ a i).toNat :: st) μ) : WA g l Y d post pc lv (vI i :: vR a :: st) μ := by
  intro p en s m args below meth c0 H locs ls C L hP hS
  obtain ⟨h1, h2, h3⟩ := hA
  refine va_aldq (i := iI i) (n := 3) (C := RX0) (cA := g.2.2.2.2) (f := fun k => some (g.1 (μ a k).toNat)) C.1 C.2.1 C.2.2.2.2.2.2.2.1.1 hP a 2 (by rw [wl_get g μ h1, cellE_p h2, h3]) rfl (iI_in hi (by omega)) hd ?_
  have k2 := kk p en s m args below meth c0 H locs ls C L hP hS
  rw [iI_nat (n := 3) hi (by omega)]
  exact k2
theorem w_aast {a c : Nat} {i : Int} (hA : arP a) (hc : obj c 0) (hi : 0 ≤ i ∧ i < 3) (hd : decode Y.2.1 pc = .ok (.aastore, 1)) (kk : WA g l Y d post (pc + 1) lv st (wr μ a i c)) : WA g l Y d post pc lv (vR c :: vI i :: vR a :: st) μ := by
  intro p en s m args below meth c0 H locs ls C L hP hS
  obtain ⟨h1, h2, h3⟩ := hA
  refine va_astq (i := iI i) (n := 3) (v := g.1 c) (r := (RX0, TX0, 14)) (vs := (ftab 0).mapIdx (fun k code => fv g μ c k code)) (cA := g.2.2.2.2) (f := fun k => some (g.1 (μ a k).toNat)) C.1 C.2.1 C.2.2.2.2.2.2.2.1.1 hP (wl_D C.2.2.2.2.2.2.2.2 μ) hS a 2 c 0 (by rw [wl_get g μ h1, cellE_p h2, h3]) rfl (by rw [wl_get g μ hc.1, cellE_o hc.2.1 hc.2.2]) rfl (iI_in hi (by omega)) hd (fun H1 locs1 hP1 hD1 hS1 => ?_)
  have hu : va_up (fun k : Nat => some (g.1 (μ a k).toNat)) (iI i).toNatClampNeg (some (g.1 c)) = fun k : Nat => some (g.1 (wr μ a i c a k).toNat) := by
    funext k
    have h := iI_nat (n := 3) hi (by omega)
    unfold va_up wr
    by_cases hk : k = (iI i).toNatClampNeg
    · subst hk
      simp [h]
    · have h2 : (k : Int) ≠ i := by omega
      simp [hk, h2]
  rw [hu, wl_set (g := g) (μ' := wr μ a i c) (by rw [cellE_p h2, h3]) (fun b hb => wr_o hb)] at hP1
  exact kk p en s m args below meth c0 H1 locs1 ls C L hP1 hS1
end GET
def gcat : gA → Nat
  | .inr (.inl _) => 2
  | _ => 1
theorem gcat_sum (g : gG) (st : List gA) : ((st.map (cv g)).map fun v => v.category).sum = (st.map gcat).sum := by
  induction st with
  | nil => rfl
  | cons v r ih =>
    simp only [List.map_cons, List.sum_cons, ih]
    congr 1
    rcases v with e | e | c <;> rfl
section MATH
variable {g : gG} {l : Launch} {Y : gY} {d : Nat} {post : gQ} {pc : Nat} {lv : List (Option gA)} {st : List gA} {μ : gM}
theorem w_max {idx : Nat} {a b : Int} (ha : -2147483648 ≤ a ∧ a < 2147483648) (hb : -2147483648 ≤ b ∧ b < 2147483648) (h1 : 1 ≤ d) (h2 : (st.map gcat).sum ≤ 27) (hl : Cond.methodLink Y.1.cls idx Lib.Math.max.name ∈ lw_gt) (hs : Cond.static Lib.Math.max.name ∈ lw_gt) (hi : Cond.initialized "java/lang/Math" ∈ lw_gt) (hc : Cond.code Lib.Math.max.name Lib.Math.max.code 2 (some .int) ∈ lw_gt) (hd : decode Y.2.1 pc = .ok (.invokestatic idx, 3))
    (kk : WA g l Y d post (pc + 3) lv (vI (max a b) :: st) μ) : WA g l Y d post pc lv (vI b :: vI a :: st) μ := by
  intro p en s m args below meth c0 H locs ls C L hP hS
  refine va_mmax (x := iI a) (y := iI b) C.1 C.2.1 (by rw [C.2.2.2.1]; exact L.1.symm) C.2.2.2.2.1 (C.2.2.2.2.2.1 _ hl) (C.2.2.2.2.2.1 _ hs) (C.2.2.2.2.2.1 _ hi) (C.2.2.2.2.2.1 _ hc) h1 (by rw [gcat_sum]; show _ ≤ 40 * d; omega) (Nat.zero_le _) (Nat.zero_le _) hd ?_
  rw [iI_max ha hb]
  exact kk p en s m args below meth c0 H locs ls C L hP hS
theorem w_min {idx : Nat} {a b : Int} (ha : -2147483648 ≤ a ∧ a < 2147483648) (hb : -2147483648 ≤ b ∧ b < 2147483648) (h1 : 1 ≤ d) (h2 : (st.map gcat).sum ≤ 27) (hl : Cond.methodLink Y.1.cls idx Lib.Math.min.name ∈ lw_gt) (hs : Cond.static Lib.Math.min.name ∈ lw_gt) (hi : Cond.initialized "java/lang/Math" ∈ lw_gt) (hc : Cond.code Lib.Math.min.name Lib.Math.min.code 2 (some .int) ∈ lw_gt) (hd : decode Y.2.1 pc = .ok (.invokestatic idx, 3))
    (kk : WA g l Y d post (pc + 3) lv (vI (min a b) :: st) μ) : WA g l Y d post pc lv (vI b :: vI a :: st) μ := by
  intro p en s m args below meth c0 H locs ls C L hP hS
  refine va_mmin (x := iI a) (y := iI b) C.1 C.2.1 (by rw [C.2.2.2.1]; exact L.1.symm) C.2.2.2.2.1 (C.2.2.2.2.2.1 _ hl) (C.2.2.2.2.2.1 _ hs) (C.2.2.2.2.2.1 _ hi) (C.2.2.2.2.2.1 _ hc) h1 (by rw [gcat_sum]; show _ ≤ 40 * d; omega) (Nat.zero_le _) (Nat.zero_le _) hd ?_
  rw [iI_min ha hb]
  exact kk p en s m args below meth c0 H locs ls C L hP hS
def cpy (μ : gM) (a0 a1 : Nat) (n : Int) : gM := fun a j => if a = a1 ∧ 0 ≤ j ∧ j < n then μ a0 j else μ a j
theorem cpy_o {μ : gM} {a0 a1 a : Nat} {n : Int} (h : a ≠ a1) : cpy μ a0 a1 n a = μ a := by
  funext j
  simp [cpy, h]
theorem w_copy {idx a0 a1 n : Nat} {ni : Int} (hA0 : arr a0 n) (hA1 : arr a1 n) (hni : (n : Int) = ni) (h1 : 1 ≤ d) (h2 : (st.map gcat).sum ≤ 8) (hl : Cond.methodLink Y.1.cls idx arraycopyName ∈ lw_gt) (hn : Cond.native arraycopyName ∈ lw_gt) (hs : Cond.static arraycopyName ∈ lw_gt) (hi : Cond.initialized "java/lang/System" ∈ lw_gt) (hd : decode Y.2.1 pc = .ok (.invokestatic idx, 3))
    (kk : WA g l Y d post (pc + 3) lv st (cpy μ a0 a1 ni)) : WA g l Y d post pc lv (vI ni :: vI 0 :: vR a1 :: vI 0 :: vR a0 :: st) μ := by
  subst hni
  intro p en s m args below meth c0 H locs ls C L hP hS
  obtain ⟨p1, p2, p3, p4⟩ := hA0
  obtain ⟨q1, q2, q3, q4⟩ := hA1
  have hz : (iI 0).toNatClampNeg = 0 := rfl
  have hnn : (iI n).toNatClampNeg = n := by
    show (iI n).toInt.toNat = n
    rw [iI_toInt (by omega)]
    omega
  have hn0 : ¬ iI n < 0 := by
    have : iI n < iI 0 ↔ (n : Int) < 0 := iI_lt (by omega) (by omega)
    intro h
    have := this.mp h
    omega
  have hwrd : nativeFrameWords "java/lang/System" "arraycopy" 5 + 11 ≤ 32 := by decide +kernel
  refine va_copyi (sp := iI 0) (dp := iI 0) (n := iI n) (n0 := n) (n1 := n) (ty := .int) (f := fun k => iI (μ a0 k)) (g := fun k => iI (μ a1 k)) C.1 C.2.1 (by rw [C.2.2.2.1]; exact L.1.symm) C.2.2.2.2.1 (C.2.2.2.2.2.1 _ hl) (C.2.2.2.2.2.1 _ hn) (C.2.2.2.2.2.1 _ hs) (C.2.2.2.2.2.1 _ hi) C.2.2.2.2.2.2.2.1.1 hP (wl_D C.2.2.2.2.2.2.2.2 μ) hS a0 a1 0 0 (by rw [wl_get g μ p1, cellE_i p2, p3]) (by rw [wl_get g μ q1, cellE_i q2, q3]) rfl rfl rfl (by decide) (by decide) hn0 (by rw [hz, hnn]; omega) (by rw [hz, hnn]; omega) (fun i _ => rfl) h1 (by rw [gcat_sum]; show _ ≤ 40 * d; omega) hd (fun H1 locs1 hP1 hD1 hS1 => ?_)
  have hu : va_cpy (fun k : Nat => iI (μ a0 k)) (fun k : Nat => iI (μ a1 k)) (iI 0).toNatClampNeg (iI 0).toNatClampNeg (iI n).toNatClampNeg = fun k : Nat => iI (cpy μ a0 a1 n a1 k) := by
    funext k
    rw [hz, hnn]
    unfold va_cpy cpy
    by_cases hk : k < n
    · rw [if_pos ⟨Nat.zero_le _, by omega⟩, if_pos ⟨rfl, by omega, by omega⟩]
      simp
    · rw [if_neg (by omega), if_neg (by omega)]
  rw [hu, wl_set (g := g) (μ' := cpy μ a0 a1 n) (by rw [cellE_i q2, q3]) (fun b hb => cpy_o hb)] at hP1
  exact kk p en s m args below meth c0 H1 locs1 ls C L hP1 hS1
end MATH
