/-! what the Statement gives of the start -/
theorem htG {s : State} {b : Nat} (hts : ∀ w ∈ lw_tbl, w.before #[Value.ref b] s = true) : ∀ w ∈ lw_gt, w.before #[Value.ref b] s = true := fun w h => hts w (List.mem_filter.mp h).1
set_option maxRecDepth 100000 in
set_option maxHeartbeats 4000000 in
theorem st_KK {s : State} {b : Nat} (hts : ∀ w ∈ lw_tbl, w.before #[Value.ref b] s = true) : ∃ (D : va_G) (J : gJ), KK D J s := by
  have htg := htG hts
  obtain ⟨c0, i0, k0⟩ := u_known (C := RX0) (T := TX0) (N := 14) (n := 14) htg inG0 (htg _ ist0)
  obtain ⟨c1, i1, k1⟩ := u_known (C := RX1) (T := TX1) (N := 2) (n := 2) htg inG1 (htg _ ist1)
  obtain ⟨c2, i2, k2⟩ := u_known (C := RX2) (T := TX2) (N := 6) (n := 6) htg inG2 (htg _ ist2)
  obtain ⟨c3, i3, k3⟩ := u_known (C := RX3) (T := TX3) (N := 4) (n := 4) htg inG3 (htg _ ist3)
  obtain ⟨c4, i4, k4⟩ := u_known (C := RX4) (T := TX4) (N := 9) (n := 9) htg inG4 (htg _ ist4)
  obtain ⟨c5, i5, k5⟩ := u_known (C := RX5) (T := TX5) (N := 20) (n := 20) htg inG5 (htg _ ist5)
  obtain ⟨cI, kI, pI, a1, a2, a3⟩ := Cond.arrayClass_spec (htg (.arrayClass .int) gt_aI)
  obtain ⟨cZ, kZ, pZ, z1, z2, z3⟩ := Cond.arrayClass_spec (htg (.arrayClass .boolean) gt_aZ)
  have hao := hts (.arrayOver (.object RX0)) (List.mem_of_getElem? (i := 143) (by decide +kernel))
  obtain ⟨pC, cC, kC, b1, b2, b3, b4, b5⟩ := Cond.arrayOver_spec hao
  refine ⟨(fun k => if k = 0 then c0 else if k = 1 then c1 else if k = 2 then c2 else if k = 3 then c3 else if k = 4 then c4 else c5, fun k => if k = 0 then i0 else if k = 1 then i1 else if k = 2 then i2 else if k = 3 then i3 else if k = 4 then i4 else i5), (cI, cZ, cC), ⟨fun k q hq => ?_, fun k q hq => ?_⟩, va_AO.of hao, ?_⟩
  · match k, hq with
    | 0, hq => cases hq; exact k0
    | 1, hq => cases hq; exact k1
    | 2, hq => cases hq; exact k2
    | 3, hq => cases hq; exact k3
    | 4, hq => cases hq; exact k4
    | 5, hq => cases hq; exact k5
    | k + 6, hq => simp [vwCl] at hq
  · match k, hq with
    | 0, hq => cases hq; exact ⟨fun n z => ⟨fun k h => (by cases h), kI, a2, pI, a3⟩, a1⟩
    | 1, hq => cases hq; exact ⟨fun n z => ⟨fun k h => (by cases h), kZ, z2, pZ, z3⟩, z1⟩
    | 2, hq => cases hq; exact ⟨fun n z => ⟨fun k h => (by cases h), kC, b3, pC, b4⟩, ⟨kC, pC, b3, b4, b1, b5⟩⟩
    | k + 3, hq => simp [tysJ] at hq
  exact ⟨va_Nw.of rfl (hts (.methodLinkNest RX3 11 yX0_init RX4) (List.mem_of_getElem? (i := 84) (by decide +kernel))), va_Nw.of rfl (hts (.methodLinkNest RX4 9 yX3_init RX4) (List.mem_of_getElem? (i := 78) (by decide +kernel))), va_Nw.of rfl (hts (.methodLinkNest RX4 24 yX2_init RX4) (List.mem_of_getElem? (i := 161) (by decide +kernel))), va_Nw.of rfl (hts (.methodLinkNest RX4 31 yX1_init RX4) (List.mem_of_getElem? (i := 187) (by decide +kernel))), va_Nw.of rfl (hts (.methodLinkNest RX4 38 yX0_init RX4) (List.mem_of_getElem? (i := 201) (by decide +kernel)))⟩
def tmS (i : Nat) : Term := if i = 0 then .string RX2 43 else if i = 1 then .string RX2 55 else .string RX2 63
theorem fl_ex : ∀ i : Nat, i < 3 → Cond.exactly (tmS i) "java/lang/String" ∈ flatC (Jvm.Cond.and given_1 narrow_1) := by decide +kernel
theorem fl_co : ∀ i : Nat, i < 3 → Cond.eq (.field (tmS i) "java/lang/String" "coder" "B") (.int 0) ∈ flatC (Jvm.Cond.and given_1 narrow_1) := by decide +kernel
theorem fl_ar : ∀ i : Nat, i < 3 → Cond.arrayOf (.field (tmS i) "java/lang/String" "value" "[B") .byte ∈ flatC (Jvm.Cond.and given_1 narrow_1) := by decide +kernel
theorem fl_le : ∀ i : Nat, i < 3 → Cond.eq (.length (.field (tmS i) "java/lang/String" "value" "[B")) (.int (Int32.ofNat (sLen.getD i 0))) ∈ flatC (Jvm.Cond.and given_1 narrow_1) := by decide +kernel
theorem fl_el : ∀ i : Nat, i < 3 → ∀ j : Nat, j < sLen.getD i 0 → Cond.eq (.elem (.field (tmS i) "java/lang/String" "value" "[B") (.int (Int32.ofNat j))) (.int ((sByt.getD i []).getD j 0)) ∈ flatC (Jvm.Cond.and given_1 narrow_1) := by decide +kernel
theorem fl_ne : ∀ i : Nat, i < 3 → ∀ j : Nat, j < 3 → i ≠ j → Cond.not (Cond.eq (tmS i) (tmS j)) ∈ flatC (Jvm.Cond.and given_1 narrow_1) ∨ Cond.not (Cond.eq (tmS j) (tmS i)) ∈ flatC (Jvm.Cond.and given_1 narrow_1) := by decide +kernel
theorem fl_cs : Cond.eq (.static "java/lang/String" "COMPACT_STRINGS" "Z") (.int 1) ∈ flatC (Jvm.Cond.and given_1 narrow_1) := by decide +kernel
theorem fl_si : Cond.isRef (.static "jdk/internal/util/Preconditions" "SIOOBE_FORMATTER" "Ljava/util/function/BiFunction;") ∈ flatC (Jvm.Cond.and given_1 narrow_1) := by decide +kernel
theorem sLen_lt : ∀ i : Nat, i < 3 → sLen.getD i 0 < 2 ^ 31 := by decide
theorem st_S {s : State} {b : Nat} {A : Nat → Prop} (hgv : (Jvm.Cond.and given_1 narrow_1).before #[Value.ref b] s = true) (hA : ∀ a : Nat, a < s.heap.size → ¬ A a) : ∃ adK adV : Nat → Nat, vk_S 3 sLen sByt adK adV A s s.heap ∧ ∀ i : Nat, i < 3 → (tmS i).eval #[Value.ref b] s none [] s = some (.ref (adK i)) := by
  have hs := flat_of_before _ hgv
  exact vk_Sof (tm := tmS) sLen_lt (fun i hi => hs _ (fl_ex i hi)) (fun i hi => hs _ (fl_co i hi)) (fun i hi => hs _ (fl_ar i hi)) (fun i hi => hs _ (fl_le i hi)) (fun i hi j hj => hs _ (fl_el i hi j hj)) (fun i j hi hj hij => (fl_ne i hi j hj hij).imp (hs _) (hs _)) hA
theorem st_Z {s : State} {b : Nat} {A : Nat → Prop} (hts : ∀ w ∈ lw_tbl, w.before #[Value.ref b] s = true) (hgv : (Jvm.Cond.and given_1 narrow_1).before #[Value.ref b] s = true) (hA : ∀ a : Nat, a < s.heap.size → ¬ A a) : va_Z "java/lang/String" "COMPACT_STRINGS" "Z" (.int 1) A s s.heap ∧ va_Zq "jdk/internal/util/Preconditions" "SIOOBE_FORMATTER" "Ljava/util/function/BiFunction;" A s s.heap := by
  have hs := flat_of_before _ hgv
  exact ⟨va_Zof (hts (.laysStatic "java/lang/String" "COMPACT_STRINGS" "Z") (List.mem_of_getElem? (i := 326) (by decide +kernel))) (hts (.initialized "java/lang/String") (List.mem_of_getElem? (i := 62) (by decide +kernel))) (va_eqt (hs _ fl_cs)) hA, va_Zqof (hts (.laysStatic "jdk/internal/util/Preconditions" "SIOOBE_FORMATTER" "Ljava/util/function/BiFunction;") (List.mem_of_getElem? (i := 342) (by decide +kernel))) (hts (.initialized "jdk/internal/util/Preconditions") (List.mem_of_getElem? (i := 64) (by decide +kernel))) (hs _ fl_si) hA⟩
theorem st_R {s : State} {b : Nat} (hts : ∀ w ∈ lw_tbl, w.before #[Value.ref b] s = true) : (Cond.stringRef RX2 43 "roof").before #[Value.ref b] s = true ∧ (Cond.stringRef RX2 55 "storm").before #[Value.ref b] s = true ∧ (Cond.stringRef RX2 63 "cannon").before #[Value.ref b] s = true ∧ va_Nw (.methodLinkNest RX2 87 yX4_within RX4) s := ⟨hts _ (List.mem_of_getElem? (i := 312) (by decide +kernel)), hts _ (List.mem_of_getElem? (i := 378) (by decide +kernel)), hts _ (List.mem_of_getElem? (i := 384) (by decide +kernel)), va_Nw.of rfl (hts (.methodLinkNest RX2 87 yX4_within RX4) (List.mem_of_getElem? (i := 307) (by decide +kernel)))⟩
theorem eHV_cg {J : gJ} {f f2 : Nat → Nat} (h : ∀ i, i < 167 → f i = f2 i) : eHV J f = eHV J f2 := by
  unfold eHV
  rw [eSto_cg (f := fun i => f (1 + i)) (f2 := fun i => f2 (1 + i)) (fun i hi => h _ (by omega)), eSto_cg (f := fun i => f (51 + i)) (f2 := fun i => f2 (51 + i)) (fun i hi => h _ (by omega)), eSto_cg (f := fun i => f (101 + i)) (f2 := fun i => f2 (101 + i)) (fun i hi => h _ (by omega)), eRdr_cg (f := fun i => f (151 + i)) (f2 := fun i => f2 (151 + i)) (fun i hi => h _ (by omega)), eFra_cg (f := fun i => f (154 + i)) (f2 := fun i => f2 (154 + i)) (fun i hi => h _ (by omega)), eCan_cg (f := fun i => f (155 + i)) (f2 := fun i => f2 (155 + i)) (fun i hi => h _ (by omega)), h 0 (by decide), h 1 (by decide), h 51 (by decide), h 101 (by decide), h 151 (by decide), h 154 (by decide), h 155 (by decide)]
def fG (f f2 adK adV : Nat → Nat) (b : Nat) (i : Nat) : Nat := if i < 167 then f i else if i < 180 then f2 (i - 167) else if i = 3000 then b else if i < 2000 then adK (i - 1000) else adV (i - 2000)
theorem fG_1 {f f2 adK adV : Nat → Nat} {b i : Nat} (h : i < 167) : fG f f2 adK adV b i = f i := by
  unfold fG
  rw [if_pos h]
theorem fG_2 {f f2 adK adV : Nat → Nat} {b i : Nat} (h : i < 13) : fG f f2 adK adV b (167 + i) = f2 i := by
  unfold fG
  rw [if_neg (by omega), if_pos (by omega), show 167 + i - 167 = i by omega]
theorem fG_b {f f2 adK adV : Nat → Nat} {b : Nat} : fG f f2 adK adV b 3000 = b := by
  unfold fG
  rw [if_neg (by omega), if_neg (by omega), if_pos rfl]
theorem fG_K {f f2 adK adV : Nat → Nat} {b i : Nat} (h : i < 3) : fG f f2 adK adV b (1000 + i) = adK i := by
  unfold fG
  rw [if_neg (by omega), if_neg (by omega), if_neg (by omega), if_pos (by omega), show 1000 + i - 1000 = i by omega]
theorem fG_V {f f2 adK adV : Nat → Nat} {b i : Nat} (h : i < 3) : fG f f2 adK adV b (2000 + i) = adV i := by
  unfold fG
  rw [if_neg (by omega), if_neg (by omega), if_neg (by omega), if_neg (by omega), show 2000 + i - 2000 = i by omega]
/-- the world stands: what the law's loop begins from -/
theorem go_loop {p : Program} {e : Env} {s : State} {m : MethodId} {below : List Frame} {meth : Method} {c : Code} {l : Launch} {b L : Nat} {xs : Nat → Int32} (hL : L ≤ 3584) (C0 : lw_At p s m meth c b L xs) {D : va_G} {J : gJ} (hKK : KK D J s) {f f2 : Nat → Nat} {H : Heap} {locs : List Loc} {ls : Array Slot} (hP : va_P D vwCl (eHV J f ++ eMod J f2) H) (hD : va_D (fun q => s.heap.size ≤ q) (eHV J f ++ eMod J f2)) (hS : va_S (fun q => s.heap.size ≤ q) s.heap H locs) (hl : lv_has ls 4 [(3, .int 0), (2, .ref (f2 0)), (1, .ref (f 0)), (0, .ref b)]) : W p l e room_1 s m #[Value.ref b] below meth c H locs 180 3276 (lw_Z below #[Value.ref b] s) (F0 m 18 ls []) := by
  obtain ⟨hx, hb, hr, hml, hown, hts, hX, hbl, hlocks, hgv⟩ := id C0
  have hA : ∀ a : Nat, a < s.heap.size → ¬ (fun q : Nat => s.heap.size ≤ q) a := fun a h => Nat.not_le.mpr h
  obtain ⟨adK, adV, hSt, hev⟩ := st_S (A := fun q : Nat => s.heap.size ≤ q) hgv hA
  obtain ⟨hZ1, hZ2⟩ := st_Z (A := fun q : Nat => s.heap.size ≤ q) hts hgv hA
  obtain ⟨r1, r2, r3, r4⟩ := st_R hts
  have hw : wl (fG f f2 adK adV b, D, J) mu0 = eHV J f ++ eMod J f2 := by
    rw [wl_mu0, eHV_cg (f := fG f f2 adK adV b) (f2 := f) (fun i hi => fG_1 hi), eMod_cg (f := fun i => fG f f2 adK adV b (167 + i)) (f2 := f2) (fun i hi => fG_2 hi)]
  rw [← hw] at hP hD
  have hge : ∀ i, i < 180 → s.heap.size ≤ fG f f2 adK adV b i := fun i hi => hD.2 i _ (wl_get (fG f f2 adK adV b, D, J) mu0 hi)
  have hAB : ∀ q, wA (fG f f2 adK adV b, D, J) q → s.heap.size ≤ q := by
    rintro q ⟨i, h1, h2⟩
    rw [h2]
    exact hge i h1
  have hgo : gOK (fG f f2 adK adV b, D, J) := fun i j hi hj hij => hD.1 i j _ _ (wl_get _ mu0 hi) (wl_get _ mu0 hj) hij
  have hk3 : ∀ i, i < 3 → (tmS i).eval #[Value.ref b] s none [] s = some (.ref (fG f f2 adK adV b (1000 + i))) := fun i hi => by
    rw [fG_K hi]
    exact hev i hi
  have hwK : wK (fG f f2 adK adV b, D, J) s := by
    refine ⟨hKK.1, ⟨r4, vk_R.of r1 ?_, vk_R.of r2 ?_, vk_R.of r3 ?_⟩, ⟨⟨fun i hi => ?_, fun i j hi hj hij => ?_⟩, hZ1.narrow hAB, hZ2.narrow hAB⟩⟩
    · exact hk3 0 (by decide)
    · exact hk3 1 (by decide)
    · exact hk3 2 (by decide)
    · show va_O _ (fG f f2 adK adV b (1000 + i)) _ _ _ ∧ va_OF _ _ _ _ (fG f f2 adK adV b (1000 + i)) _ _ _ ∧ va_OF _ _ _ (.ref (fG f f2 adK adV b (2000 + i))) (fG f f2 adK adV b (1000 + i)) _ _ _ ∧ va_T _ (fG f f2 adK adV b (2000 + i)) _ _ _ _ _
      rw [fG_K hi, fG_V hi]
      exact (hSt.narrow hAB).1 i hi
    · refine hSt.2 i j hi hj ?_
      have h2 : fG f f2 adK adV b (1000 + i) = fG f f2 adK adV b (1000 + j) := hij
      rwa [fG_K hi, fG_K hj] at h2
  have hLC : LC (fG f f2 adK adV b, D, J) b L xs p s m meth c := ⟨hx, hb, hr, hml, hown, htG hts, hX, hbl, hlocks, hwK, hgo, hge, (fG_b (f := f) (f2 := f2) (adK := adK) (adV := adV) (b := b))⟩
  have hLV : LV (fG f f2 adK adV b, D, J) ls 4 (lvL 0) := by
    refine ⟨hl.1, hl.2.1, fun k v hk => ?_⟩
    match k, hk with
    | 0, hk =>
      cases hk
      show ls[0]? = some (.val (.ref (fG f f2 adK adV b 3000)))
      rw [fG_b]
      exact hl.2.2 (0, .ref b) (by simp)
    | 1, hk =>
      cases hk
      show ls[1]? = some (.val (.ref (fG f f2 adK adV b 0)))
      rw [fG_1 (by decide)]
      exact hl.2.2 (1, .ref (f 0)) (by simp)
    | 2, hk =>
      cases hk
      show ls[2]? = some (.val (.ref (fG f f2 adK adV b (167 + 0))))
      rw [fG_2 (by decide)]
      exact hl.2.2 (2, .ref (f2 0)) (by simp)
    | 3, hk =>
      cases hk
      show ls[3]? = some (.val (.int (iI 0)))
      rw [iI_0]
      exact hl.2.2 (3, .int 0) (by simp)
    | k + 4, hk => simp at hk
  refine va_forget (fun q hq => hS.2.2 q hq) ?_
  exact law_loop (g := (fG f f2 adK adV b, D, J)) hL (L + 1) 0 mu0 (by omega) (by omega) (by omega) Rel_mu0 p e s m below meth c H [] ls hLC hLV hP ⟨hS.1, fun q h1 _ => hS.2.1 q h1 (hA q h1), fun q hq => by cases hq⟩
theorem clL_7 : Cond.classLink RL 7 RX4 ∈ lw_gt := gt_of (List.mem_of_getElem? (i := 68) (by decide +kernel)) rfl
theorem clL_10 : Cond.classLink RL 10 RX5 ∈ lw_gt := gt_of (List.mem_of_getElem? (i := 634) (by decide +kernel)) rfl
theorem mlL_9 : Cond.methodLink RL 9 yX4_init ∈ lw_gt := gt_of (List.mem_of_getElem? (i := 70) (by decide +kernel)) rfl
theorem mlL_12 : Cond.methodLink RL 12 yX5_init ∈ lw_gt := gt_of (List.mem_of_getElem? (i := 636) (by decide +kernel)) rfl
/-- the last of the cells, and what is from here on -/
theorem last_P {D : va_G} {ws : va_W} {q : Nat} {e : va_E} {H : Heap} (hP : va_P D vwCl (ws ++ [(q, e)]) H) : va_P D vwCl [(q, e)] H := fun i x hx => by
  have hi : i = 0 := by
    have := (List.getElem?_eq_some_iff.mp hx).1
    simp at this
    exact this
  subst hi
  refine hP ws.length x ?_
  rw [List.getElem?_append_right (Nat.le_refl _), Nat.sub_self]
  exact hx
theorem last_F {ws : va_W} {q sz sz0 : Nat} {e : va_E} (hD : va_D (fun q => sz0 ≤ q) (ws ++ [(q, e)])) (hz : sz0 ≤ sz) : ∀ x, va_A [(q, e)] sz x → (fun q => sz0 ≤ q) x := by
  intro x h
  rcases h with ⟨k2, e2, h⟩ | h
  · have hk2 : k2 = 0 := by
      have := (List.getElem?_eq_some_iff.mp h).1
      simp at this
      exact this
    subst hk2
    exact hD.2 ws.length (x, e2) (by
      rw [List.getElem?_append_right (Nat.le_refl _), Nat.sub_self]
      exact h)
  · exact Nat.le_trans hz h
set_option maxRecDepth 100000 in
set_option maxHeartbeats 4000000 in
/-- from the entry, for every script of at most 3584 ints, the law comes to its end with true -/
theorem whole_start {p : Program} {e : Env} {s : State} {m : MethodId} {below : List Frame} {meth : Method} {c : Code} (l : Launch) {b L : Nat} {xs : Nat → Int32} (hL : L ≤ 3584) (C0 : lw_At p s m meth c b L xs) : W p l e room_1 s m #[Value.ref b] below meth c s.heap [] 0 0 (lw_Z below #[Value.ref b] s) (entryFrame m ([Value.ref b] : List Value).toArray 4) := by
  obtain ⟨hx, hb, hr, hml, hown, hts, hX, hbl, hlocks, hgv⟩ := id C0
  have htg := htG hts
  obtain ⟨D, J, hKK⟩ := st_KK hts
  have hA : ∀ q : Nat, s.heap.size ≤ q → (fun q : Nat => s.heap.size ≤ q) q := fun _ h => h
  have hS : va_S (fun q : Nat => s.heap.size ≤ q) s.heap s.heap [] := va_S.rf
  have hP : va_P D vwCl [] s.heap := fun k q h => by simp at h
  have hD : va_D (fun q : Nat => s.heap.size ≤ q) [] := ⟨fun i j p q h => by simp at h, fun k q h => by simp at h⟩
  have hl := lv_entry ([.ref b]) (n := 4) (Nat.le_of_ble_eq_true rfl)
  rw [lg_entry_eq]
  generalize (lg_sl ([.ref b]) ++ List.replicate (4 - (lg_sl ([.ref b])).length) Slot.unset).toArray = ls at hl ⊢
  have hl : lv_has ls 4 [(0, .ref b)] := hl
  refine va_new (ci := 4) (fs := [.null, .null, .null, .null, .null, .null, .int 0, .int 0, .int 0]) (C := RX4) (T := TX4) (N := 9) hx hb htg inG4 tyX4 tyX4_ok hown (htg _ clL_7) (htg _ ist4) (htg _ ini4) hKK.1 hP hD hS hA rfl dfi4 (Nat.le_of_ble_eq_true rfl) (Nat.le_of_ble_eq_true rfl) dL_law_0 (fun q H hP hD hS => ?_)
  refine lv_dup hx hb dL_law_3 rfl ?_
  have hPq := last_P hP
  have hF := last_F (sz := H.size) hD hS.1
  refine va_callv (va_runI (As := []) (rest := [.ref q]) ⟨hx, hb, hml, hown, htg⟩ (n_X4 (D := D) (J := J) (l := l) q H.size) (cwI 0 htg (gtIn (wsY_good (Y := Yi4) cdi4)) rfl rfl rfl (htg _ ini4) (htg _ mlL_9) (htg _ imi4) rfl ⟨by decide +kernel, by decide +kernel, by decide +kernel⟩ ⟨(Nat.le_of_ble_eq_true rfl), (Nat.le_of_ble_eq_true rfl)⟩) ⟨fun a U g mk z => ⟨z.1, z.2.1, z.2.2.1, KK.blind rfl z.2.2.2⟩, fun U hU hW => ⟨rfl, by rw [hU], by rw [hU]; exact hPq, KK.warm hW hKK⟩⟩ rfl rfl hl.1 rfl (lv_room (Nat.le_of_ble_eq_true rfl)) dL_law_4 ⟨(Nat.le_of_ble_eq_true rfl), (Nat.le_of_ble_eq_true rfl)⟩) hS (fun x _ h => hF x h) hF (fun f t H1 locs ht hvm hf hB hz1 hk1 hS => ?_)
  rw [ht] at hB
  obtain ⟨hPa, hDa⟩ := joinA hP hD hk1 hF hB.1 hB.2
  have hf : f 0 = q := hf
  subst hf
  rw [List.nil_append] at hPa hDa
  refine lv_astore_n (lv' := [(1, .ref (f 0)), (0, .ref b)]) hx hb dL_law_7 rfl hl (by decide) rfl (fun ls hl => ?_)
  refine va_new (ci := 5) (fs := [.null, .null, .null, .null, .long 0, .long 0, .null, .null, .null, .null, .int 0, .null, .null, .int 0, .int 0, .int 0, .int 0, .int 0, .null, .null]) (C := RX5) (T := TX5) (N := 20) hx hb htg inG5 tyX5 tyX5_ok hown (htg _ clL_10) (htg _ ist5) (htg _ ini5) hKK.1 hPa hDa hS hA rfl dfi5 (Nat.le_of_ble_eq_true rfl) (Nat.le_of_ble_eq_true rfl) dL_law_8 (fun q H hP hD hS => ?_)
  refine lv_dup hx hb dL_law_11 rfl ?_
  have hPq := last_P hP
  have hF := last_F (sz := H.size) hD hS.1
  refine va_callv (va_runI (As := []) (rest := [.ref q]) ⟨hx, hb, hml, hown, htg⟩ (n_X5 (D := D) (J := J) (l := l) q H.size) (cwI 0 htg (gtIn (wsY_good (Y := Yi5) cdi5)) rfl rfl rfl (htg _ ini5) (htg _ mlL_12) (htg _ imi5) rfl ⟨by decide +kernel, by decide +kernel, by decide +kernel⟩ ⟨(Nat.le_of_ble_eq_true rfl), (Nat.le_of_ble_eq_true rfl)⟩) ⟨fun a U g mk z => ⟨z.1, z.2.1, z.2.2.1, KK.blind rfl z.2.2.2⟩, fun U hU hW => ⟨rfl, by rw [hU], by rw [hU]; exact hPq, KK.warm hW hKK⟩⟩ rfl rfl hl.1 rfl (lv_room (Nat.le_of_ble_eq_true rfl)) dL_law_12 ⟨(Nat.le_of_ble_eq_true rfl), (Nat.le_of_ble_eq_true rfl)⟩) hS (fun x _ h => hF x h) hF (fun f2 t H1 locs ht hvm hf hB hz1 hk1 hS => ?_)
  rw [ht] at hB
  obtain ⟨hPb, hDb⟩ := joinA hP hD hk1 hF hB.1 hB.2
  have hf : f2 0 = q := hf
  subst hf
  refine lv_astore_n (lv' := [(2, .ref (f2 0)), (1, .ref (f 0)), (0, .ref b)]) hx hb dL_law_15 rfl hl (by decide) rfl (fun ls hl => ?_)
  refine lv_iconst (v := 0) hx hb dL_law_16 (by decide) ?_
  refine lv_istore_n (lv' := [(3, .int 0), (2, .ref (f2 0)), (1, .ref (f 0)), (0, .ref b)]) hx hb dL_law_17 rfl hl (by decide) rfl (fun ls hl => ?_)
  refine W.widen (k := 180) (n := 3276) (Nat.le_of_ble_eq_true rfl) (Nat.le_of_ble_eq_true rfl) ?_
  exact go_loop hL C0 hKK hPb hDb hS hl
