/-! the memory at the start, and the world as the constructors leave it -/
def mu0 : gM := fun c i => if c = 2 ∨ c = 52 ∨ c = 102 then (c : Int) + (if i = 0 then 13 else if i = 1 then 25 else 37) else if (c = 154 ∧ i = 1) ∨ (c = 167 ∧ i = 5) then 1 else 0
theorem mu0_z {c : Nat} (h : (c ≠ 2 ∧ c ≠ 52 ∧ c ≠ 102) ∧ c ≠ 154 ∧ c ≠ 167) (k : Int) : mu0 c k = 0 := by
  unfold mu0
  rw [if_neg (by omega), if_neg (by omega)]
theorem mu0_p {c : Nat} (h : c = 2 ∨ c = 52 ∨ c = 102) (k : Int) : mu0 c k = (c : Int) + (if k = 0 then 13 else if k = 1 then 25 else 37) := by
  unfold mu0
  rw [if_pos h]
theorem mu0_can {c : Nat} (hc : cn c) {i : Nat} (hi : i < 12) (k : Int) : mu0 (c + i) k = 0 := by
  have h := cn_all (p := fun c => (List.range 12).all (fun i => decide ((c + i ≠ 2 ∧ c + i ≠ 52 ∧ c + i ≠ 102) ∧ c + i ≠ 154 ∧ c + i ≠ 167))) (by decide) hc
  exact mu0_z (of_decide_eq_true (List.all_eq_true.mp h i (List.mem_range.mpr hi))) k
theorem cz_i {g : gG} {c n : Nat} (ha : arr c n) (h : ∀ k, mu0 c k = 0) : cellE g mu0 c = aI g.2.2 n := by
  rw [cellE_i ha.2.1, ha.2.2.1]
  have e : (fun k : Nat => iI (mu0 c k)) = fun _ => 0 := funext fun k => by rw [h]; rfl
  rw [e]
theorem cz_z {g : gG} {c n : Nat} (ha : arZ c n) (h : ∀ k, mu0 c k = 0) : cellE g mu0 c = aZ g.2.2 n := by
  rw [cellE_z ha.2.1, ha.2.2.1]
  have e : (fun k : Nat => iI (mu0 c k)) = fun _ => 0 := funext fun k => by rw [h]; rfl
  rw [e]
/-- a stretch of the world -/
def Bw (g : gG) (a n : Nat) : va_W := (List.range n).map (fun i => (g.1 (a + i), cellE g mu0 (a + i)))
theorem Bw_app (g : gG) (a m n : Nat) : Bw g a (m + n) = Bw g a m ++ Bw g (a + m) n := by
  unfold Bw
  induction n with
  | zero => simp
  | succ n ih => rw [← Nat.add_assoc, List.range_succ, List.map_append, ih, List.range_succ, List.map_append, List.append_assoc]; simp only [List.map_cons, List.map_nil, Nat.add_assoc]
theorem wl_Bw (g : gG) : wl g mu0 = Bw g 0 180 := by
  unfold wl Bw
  simp only [Nat.zero_add]
theorem fv_can (g : gG) (c : Nat) : (ftab 0).mapIdx (fun k code => fv g mu0 c k code) = [.int (iI (mu0 c (0 : Nat))), .int (iI (mu0 c (1 : Nat))), .int (iI (mu0 c (2 : Nat))), .ref (g.1 (c + 1)), .ref (g.1 (c + 2)), .ref (g.1 (c + 3)), .ref (g.1 (c + 4)), .ref (g.1 (c + 5)), .ref (g.1 (c + 6)), .ref (g.1 (c + 7)), .ref (g.1 (c + 8)), .ref (g.1 (c + 9)), .ref (g.1 (c + 10)), .ref (g.1 (c + 11))] := rfl
theorem fv_fra (g : gG) (c : Nat) : (ftab 1).mapIdx (fun k code => fv g mu0 c k code) = [.long (lI (mu0 c (0 : Nat))), .long (lI (mu0 c (1 : Nat)))] := rfl
theorem fv_rdr (g : gG) (c : Nat) : (ftab 2).mapIdx (fun k code => fv g mu0 c k code) = [.int (iI (mu0 c (0 : Nat))), .ref (g.1 (c + 1)), .ref (g.1 (c + 2)), .int (iI (mu0 c (3 : Nat))), .int (iI (mu0 c (4 : Nat))), .int (iI (mu0 c (5 : Nat)))] := rfl
theorem fv_sto (g : gG) (c : Nat) : (ftab 3).mapIdx (fun k code => fv g mu0 c k code) = [.ref (g.1 (c + 2)), .int (iI (mu0 c (1 : Nat))), .int (iI (mu0 c (2 : Nat))), .ref (g.1 (c + 1))] := rfl
theorem fv_hv (g : gG) (c : Nat) : (ftab 4).mapIdx (fun k code => fv g mu0 c k code) = [.ref (g.1 (c + 1)), .ref (g.1 (c + 51)), .ref (g.1 (c + 101)), .ref (g.1 (c + 151)), .ref (g.1 (c + 154)), .ref (g.1 (c + 155)), .int (iI (mu0 c (6 : Nat))), .int (iI (mu0 c (7 : Nat))), .int (iI (mu0 c (8 : Nat)))] := rfl
theorem fv_mod (g : gG) (c : Nat) : (ftab 5).mapIdx (fun k code => fv g mu0 c k code) = [.ref (g.1 (c + 1)), .ref (g.1 (c + 2)), .ref (g.1 (c + 3)), .ref (g.1 (c + 4)), .long (lI (mu0 c (4 : Nat))), .long (lI (mu0 c (5 : Nat))), .ref (g.1 (c + 5)), .ref (g.1 (c + 6)), .ref (g.1 (c + 7)), .ref (g.1 (c + 8)), .int (iI (mu0 c (10 : Nat))), .ref (g.1 (c + 9)), .ref (g.1 (c + 10)), .int (iI (mu0 c (13 : Nat))), .int (iI (mu0 c (14 : Nat))), .int (iI (mu0 c (15 : Nat))), .int (iI (mu0 c (16 : Nat))), .int (iI (mu0 c (17 : Nat))), .ref (g.1 (c + 11)), .ref (g.1 (c + 12))] := by
  simp only [ftab, List.mapIdx_cons, List.mapIdx_nil, Nat.zero_add]
  rfl
theorem lI_0 : lI 0 = 0 := rfl
theorem lI_1 : lI 1 = 1 := rfl
theorem Bw_can {g : gG} {c : Nat} (hc : cn c) {f : Nat → Nat} (hf : ∀ i, i < 12 → f i = g.1 (c + i)) : Bw g c 12 = eCan g.2.2 f := by
  rw [eCan_cg (f2 := fun i => g.1 (c + i)) hf]
  have z : ∀ k, mu0 c k = 0 := mu0_can hc (i := 0) (by decide)
  have e0 : cellE g mu0 (c + 0) = .inr (0, [.int 0, .int 0, .int 0, .ref (g.1 (c + 1)), .ref (g.1 (c + 2)), .ref (g.1 (c + 3)), .ref (g.1 (c + 4)), .ref (g.1 (c + 5)), .ref (g.1 (c + 6)), .ref (g.1 (c + 7)), .ref (g.1 (c + 8)), .ref (g.1 (c + 9)), .ref (g.1 (c + 10)), .ref (g.1 (c + 11))]) := by
    rw [Nat.add_zero, cellE_o (cnO hc).2.1 (by decide), fv_can, z, z, z, iI_0]
  have e1 := cz_i (g := g) (cA_kind hc) (mu0_can hc (by decide))
  have e2 := cz_i (g := g) (cA_age hc) (mu0_can hc (by decide))
  have e3 := cz_i (g := g) (cA_cover hc) (mu0_can hc (by decide))
  have e4 := cz_i (g := g) (cA_blue hc) (mu0_can hc (by decide))
  have e5 := cz_i (g := g) (cA_brown hc) (mu0_can hc (by decide))
  have e6 := cz_i (g := g) (cA_first hc) (mu0_can hc (by decide))
  have e7 := cz_i (g := g) (cA_last hc) (mu0_can hc (by decide))
  have e8 := cz_i (g := g) (cA_wind hc) (mu0_can hc (by decide))
  have e9 := cz_i (g := g) (cA_size hc) (mu0_can hc (by decide))
  have e10 := cz_i (g := g) (cA_chance hc) (mu0_can hc (by decide))
  have e11 := cz_i (g := g) (cA_guns hc) (mu0_can hc (by decide))
  show [(g.1 (c + 0), cellE g mu0 (c + 0)), (g.1 (c + 1), cellE g mu0 (c + 1)), (g.1 (c + 2), cellE g mu0 (c + 2)), (g.1 (c + 3), cellE g mu0 (c + 3)), (g.1 (c + 4), cellE g mu0 (c + 4)), (g.1 (c + 5), cellE g mu0 (c + 5)), (g.1 (c + 6), cellE g mu0 (c + 6)), (g.1 (c + 7), cellE g mu0 (c + 7)), (g.1 (c + 8), cellE g mu0 (c + 8)), (g.1 (c + 9), cellE g mu0 (c + 9)), (g.1 (c + 10), cellE g mu0 (c + 10)), (g.1 (c + 11), cellE g mu0 (c + 11))] = _
  rw [e0, e1, e2, e3, e4, e5, e6, e7, e8, e9, e10, e11]
  rfl
theorem Bw_sto {g : gG} {st : Nat} (ho : obj st 3) (hp : arP (st + 1)) (h0 : st + 1 = 2 ∨ st + 1 = 52 ∨ st + 1 = 102) (c1 : cn (st + 2)) (c2 : cn (st + 14)) (c3 : cn (st + 26)) (c4 : cn (st + 38)) : Bw g st 50 = eSto g.2.2 (fun i => g.1 (st + i)) := by
  have a1 : Bw g st 50 = Bw g st 2 ++ (Bw g (st + 2) 12 ++ (Bw g (st + 2 + 12) 12 ++ (Bw g (st + 2 + 12 + 12) 12 ++ Bw g (st + 2 + 12 + 12 + 12) 12))) := by
    rw [← Bw_app, ← Bw_app, ← Bw_app, ← Bw_app]
  have z : ∀ k, mu0 st k = 0 := mu0_z (by omega)
  have e0 : cellE g mu0 (st + 0) = .inr (3, [.ref (g.1 (st + 2)), .int 0, .int 0, .ref (g.1 (st + 1))]) := by
    rw [Nat.add_zero, cellE_o ho.2.1 (by decide), fv_sto, z, z, iI_0]
  have e1 : cellE g mu0 (st + 1) = aP g.2.2 (pF (fun i => g.1 (st + i))) := by
    rw [cellE_p hp.2.1, hp.2.2]
    have e : (fun k : Nat => some (g.1 (mu0 (st + 1) (k : Int)).toNat)) = pF (fun i => g.1 (st + i)) := by
      funext k
      rw [mu0_p h0]
      unfold pF
      by_cases k0 : k = 0
      · subst k0
        rw [if_pos (show ((0 : Nat) : Int) = 0 from rfl), if_pos rfl]
        show some (g.1 (((st + 1 : Nat) : Int) + 13).toNat) = some (g.1 (st + 14))
        rw [show (((st + 1 : Nat) : Int) + 13).toNat = st + 14 by omega]
      · rw [if_neg (by omega), if_neg k0]
        by_cases k1 : k = 1
        · subst k1
          rw [if_pos (show ((1 : Nat) : Int) = 1 from rfl), if_pos rfl]
          show some (g.1 (((st + 1 : Nat) : Int) + 25).toNat) = some (g.1 (st + 26))
          rw [show (((st + 1 : Nat) : Int) + 25).toNat = st + 26 by omega]
        · rw [if_neg (by omega), if_neg k1]
          show some (g.1 (((st + 1 : Nat) : Int) + 37).toNat) = some (g.1 (st + 38))
          rw [show (((st + 1 : Nat) : Int) + 37).toNat = st + 38 by omega]
    rw [e]
  rw [a1, Bw_can c1 (f := fun i => g.1 (st + (2 + i))) (fun i _ => by rw [Nat.add_assoc]), Bw_can (c := st + 2 + 12) c2 (f := fun i => g.1 (st + (14 + i))) (fun i _ => by show g.1 (st + (14 + i)) = _; rw [show st + (14 + i) = st + 2 + 12 + i by omega]), Bw_can (c := st + 2 + 12 + 12) c3 (f := fun i => g.1 (st + (26 + i))) (fun i _ => by show g.1 (st + (26 + i)) = _; rw [show st + (26 + i) = st + 2 + 12 + 12 + i by omega]), Bw_can (c := st + 2 + 12 + 12 + 12) c4 (f := fun i => g.1 (st + (38 + i))) (fun i _ => by show g.1 (st + (38 + i)) = _; rw [show st + (38 + i) = st + 2 + 12 + 12 + 12 + i by omega])]
  show [(g.1 (st + 0), cellE g mu0 (st + 0)), (g.1 (st + 1), cellE g mu0 (st + 1))] ++ _ = _
  rw [e0, e1]
  rfl
theorem Bw_rdr {g : gG} : Bw g 151 3 = eRdr g.2.2 (fun i => g.1 (151 + i)) := by
  have z : ∀ k, mu0 151 k = 0 := mu0_z (by decide)
  have e0 : cellE g mu0 (151 + 0) = .inr (2, [.int 0, .ref (g.1 (151 + 1)), .ref (g.1 (151 + 2)), .int 0, .int 0, .int 0]) := by
    rw [Nat.add_zero, cellE_o (show sh 151 = 2 by decide) (by decide), fv_rdr, z, z, z, z, iI_0]
  have e1 : cellE g mu0 (151 + 1) = aI g.2.2 250 := cz_i ar_152 (mu0_z (by decide))
  have e2 : cellE g mu0 (151 + 2) = aI g.2.2 6 := cz_i ar_153 (mu0_z (by decide))
  show [(g.1 (151 + 0), cellE g mu0 (151 + 0)), (g.1 (151 + 1), cellE g mu0 (151 + 1)), (g.1 (151 + 2), cellE g mu0 (151 + 2))] = _
  rw [e0, e1, e2]
  rfl
theorem Bw_fra {g : gG} : Bw g 154 1 = eFra g.2.2 (fun i => g.1 (154 + i)) := by
  have e0 : cellE g mu0 (154 + 0) = .inr (1, [.long 0, .long 1]) := by
    rw [Nat.add_zero, cellE_o (show sh 154 = 1 by decide) (by decide), fv_fra, show mu0 154 ((0 : Nat) : Int) = 0 by decide, show mu0 154 ((1 : Nat) : Int) = 1 by decide, lI_0, lI_1]
  show [(g.1 (154 + 0), cellE g mu0 (154 + 0))] = _
  rw [e0]
  rfl
theorem Bw_mod {g : gG} : Bw g 167 13 = eMod g.2.2 (fun i => g.1 (167 + i)) := by
  have z : ∀ k : Int, k ≠ 5 → mu0 167 k = 0 := fun k hk => by
    unfold mu0
    rw [if_neg (by decide), if_neg (by omega)]
  have e0 : cellE g mu0 (167 + 0) = .inr (5, [.ref (g.1 (167 + 1)), .ref (g.1 (167 + 2)), .ref (g.1 (167 + 3)), .ref (g.1 (167 + 4)), .long 0, .long 1, .ref (g.1 (167 + 5)), .ref (g.1 (167 + 6)), .ref (g.1 (167 + 7)), .ref (g.1 (167 + 8)), .int 0, .ref (g.1 (167 + 9)), .ref (g.1 (167 + 10)), .int 0, .int 0, .int 0, .int 0, .int 0, .ref (g.1 (167 + 11)), .ref (g.1 (167 + 12))]) := by
    rw [Nat.add_zero, cellE_o (show sh 167 = 5 by decide) (by decide), fv_mod, z ((4 : Nat) : Int) (by decide), z ((10 : Nat) : Int) (by decide), z ((13 : Nat) : Int) (by decide), z ((14 : Nat) : Int) (by decide), z ((15 : Nat) : Int) (by decide), z ((16 : Nat) : Int) (by decide), z ((17 : Nat) : Int) (by decide), show mu0 167 ((5 : Nat) : Int) = 1 by decide, iI_0, lI_0, lI_1]
  have e1 : cellE g mu0 (167 + 1) = aI g.2.2 382 := cz_i ⟨by decide, by decide, by decide, by decide⟩ (mu0_z (by decide))
  have e2 : cellE g mu0 (167 + 2) = aI g.2.2 764 := cz_i ⟨by decide, by decide, by decide, by decide⟩ (mu0_z (by decide))
  have e3 : cellE g mu0 (167 + 3) = aZ g.2.2 2 := cz_z ⟨by decide, by decide, by decide, by decide⟩ (mu0_z (by decide))
  have e4 : cellE g mu0 (167 + 4) = aI g.2.2 3 := cz_i ⟨by decide, by decide, by decide, by decide⟩ (mu0_z (by decide))
  have e5 : cellE g mu0 (167 + 5) = aI g.2.2 28 := cz_i ⟨by decide, by decide, by decide, by decide⟩ (mu0_z (by decide))
  have e6 : cellE g mu0 (167 + 6) = aI g.2.2 7 := cz_i ⟨by decide, by decide, by decide, by decide⟩ (mu0_z (by decide))
  have e7 : cellE g mu0 (167 + 7) = aI g.2.2 14 := cz_i ⟨by decide, by decide, by decide, by decide⟩ (mu0_z (by decide))
  have e8 : cellE g mu0 (167 + 8) = aI g.2.2 14 := cz_i ⟨by decide, by decide, by decide, by decide⟩ (mu0_z (by decide))
  have e9 : cellE g mu0 (167 + 9) = aZ g.2.2 6 := cz_z ⟨by decide, by decide, by decide, by decide⟩ (mu0_z (by decide))
  have e10 : cellE g mu0 (167 + 10) = aI g.2.2 250 := cz_i ⟨by decide, by decide, by decide, by decide⟩ (mu0_z (by decide))
  have e11 : cellE g mu0 (167 + 11) = aI g.2.2 95 := cz_i ⟨by decide, by decide, by decide, by decide⟩ (mu0_z (by decide))
  have e12 : cellE g mu0 (167 + 12) = aI g.2.2 6 := cz_i ⟨by decide, by decide, by decide, by decide⟩ (mu0_z (by decide))
  show [(g.1 (167 + 0), cellE g mu0 (167 + 0)), (g.1 (167 + 1), cellE g mu0 (167 + 1)), (g.1 (167 + 2), cellE g mu0 (167 + 2)), (g.1 (167 + 3), cellE g mu0 (167 + 3)), (g.1 (167 + 4), cellE g mu0 (167 + 4)), (g.1 (167 + 5), cellE g mu0 (167 + 5)), (g.1 (167 + 6), cellE g mu0 (167 + 6)), (g.1 (167 + 7), cellE g mu0 (167 + 7)), (g.1 (167 + 8), cellE g mu0 (167 + 8)), (g.1 (167 + 9), cellE g mu0 (167 + 9)), (g.1 (167 + 10), cellE g mu0 (167 + 10)), (g.1 (167 + 11), cellE g mu0 (167 + 11)), (g.1 (167 + 12), cellE g mu0 (167 + 12))] = _
  rw [e0, e1, e2, e3, e4, e5, e6, e7, e8, e9, e10, e11, e12]
  rfl
theorem cn_of {c : Nat} (h : cnL.contains c = true) : cn c := List.contains_iff_mem.mp h
theorem eMod_cg {J : gJ} {f f2 : Nat → Nat} (h : ∀ i, i < 13 → f i = f2 i) : eMod J f = eMod J f2 := by
  simp only [eMod, h 0 (by decide), h 1 (by decide), h 2 (by decide), h 3 (by decide), h 4 (by decide), h 5 (by decide), h 6 (by decide), h 7 (by decide), h 8 (by decide), h 9 (by decide), h 10 (by decide), h 11 (by decide), h 12 (by decide)]
theorem wl_mu0 (g : gG) : wl g mu0 = eHV g.2.2 g.1 ++ eMod g.2.2 (fun i => g.1 (167 + i)) := by
  have a1 : Bw g 0 180 = Bw g 0 1 ++ (Bw g (0 + 1) 50 ++ (Bw g (0 + 1 + 50) 50 ++ (Bw g (0 + 1 + 50 + 50) 50 ++ (Bw g (0 + 1 + 50 + 50 + 50) 3 ++ (Bw g (0 + 1 + 50 + 50 + 50 + 3) 1 ++ (Bw g (0 + 1 + 50 + 50 + 50 + 3 + 1) 12 ++ Bw g (0 + 1 + 50 + 50 + 50 + 3 + 1 + 12) 13)))))) := by
    rw [← Bw_app, ← Bw_app, ← Bw_app, ← Bw_app, ← Bw_app, ← Bw_app, ← Bw_app]
  have z : ∀ k, mu0 0 k = 0 := mu0_z (by decide)
  have e0 : cellE g mu0 (0 + 0) = .inr (4, [.ref (g.1 (0 + 1)), .ref (g.1 (0 + 51)), .ref (g.1 (0 + 101)), .ref (g.1 (0 + 151)), .ref (g.1 (0 + 154)), .ref (g.1 (0 + 155)), .int 0, .int 0, .int 0]) := by
    rw [Nat.add_zero, cellE_o (show sh 0 = 4 by decide) (by decide), fv_hv, z, z, z, iI_0]
  have s1 : Bw g (0 + 1) 50 = eSto g.2.2 (fun i => g.1 (1 + i)) := Bw_sto (st := 1) ⟨by decide, by decide, by decide⟩ ⟨by decide, by decide, by decide⟩ (by decide) (cn_of (by decide)) (cn_of (by decide)) (cn_of (by decide)) (cn_of (by decide))
  have s2 : Bw g (0 + 1 + 50) 50 = eSto g.2.2 (fun i => g.1 (51 + i)) := Bw_sto (st := 51) ⟨by decide, by decide, by decide⟩ ⟨by decide, by decide, by decide⟩ (by decide) (cn_of (by decide)) (cn_of (by decide)) (cn_of (by decide)) (cn_of (by decide))
  have s3 : Bw g (0 + 1 + 50 + 50) 50 = eSto g.2.2 (fun i => g.1 (101 + i)) := Bw_sto (st := 101) ⟨by decide, by decide, by decide⟩ ⟨by decide, by decide, by decide⟩ (by decide) (cn_of (by decide)) (cn_of (by decide)) (cn_of (by decide)) (cn_of (by decide))
  have s4 : Bw g (0 + 1 + 50 + 50 + 50) 3 = eRdr g.2.2 (fun i => g.1 (151 + i)) := Bw_rdr
  have s5 : Bw g (0 + 1 + 50 + 50 + 50 + 3) 1 = eFra g.2.2 (fun i => g.1 (154 + i)) := Bw_fra
  have s6 : Bw g (0 + 1 + 50 + 50 + 50 + 3 + 1) 12 = eCan g.2.2 (fun i => g.1 (155 + i)) := Bw_can (c := 155) (cn_of (by decide)) (fun i _ => rfl)
  have s7 : Bw g (0 + 1 + 50 + 50 + 50 + 3 + 1 + 12) 13 = eMod g.2.2 (fun i => g.1 (167 + i)) := Bw_mod
  rw [wl_Bw, a1, s1, s2, s3, s4, s5, s6, s7]
  show [(g.1 (0 + 0), cellE g mu0 (0 + 0))] ++ _ = _
  rw [e0]
  unfold eHV
  simp only [List.cons_append, List.nil_append, List.append_assoc, Nat.zero_add]
theorem CI_mu0 {c : Nat} (hc : cn c) : CI mu0 c := by
  have z : ∀ i, i < 12 → ∀ k, mu0 (c + i) k = 0 := fun i hi k => mu0_can hc hi k
  have z0 : ∀ k, mu0 c k = 0 := z 0 (by decide)
  unfold CI
  simp only [z0, z 1 (by decide), z 2 (by decide), z 3 (by decide), z 4 (by decide), z 5 (by decide), z 6 (by decide), z 7 (by decide), z 8 (by decide), z 9 (by decide), z 10 (by decide), z 11 (by decide)]
  refine ⟨by decide, by decide, fun _ => by decide, fun _ => by decide, fun _ => by decide, fun _ => by decide, fun _ => by decide, fun _ => by decide, fun _ => by decide, fun _ => by decide, fun _ => by decide, fun _ => by decide, fun _ => by decide⟩
theorem PS_mu0 {st : Nat} (h0 : st + 1 = 2 ∨ st + 1 = 52 ∨ st + 1 = 102) : PS mu0 st := by
  refine ⟨fun j h1 h2 => ?_, ?_, ?_, ?_⟩
  · rw [mu0_p h0]
    rcases (show j = 0 ∨ j = 1 ∨ j = 2 by omega) with rfl | rfl | rfl
    · left
      show ((st + 1 : Nat) : Int) + 13 = _
      omega
    · right; left
      show ((st + 1 : Nat) : Int) + 25 = _
      omega
    · right; right
      show ((st + 1 : Nat) : Int) + 37 = _
      omega
  · rw [mu0_p h0, mu0_p h0]
    show ((st + 1 : Nat) : Int) + 13 ≠ ((st + 1 : Nat) : Int) + 25
    omega
  · rw [mu0_p h0, mu0_p h0]
    show ((st + 1 : Nat) : Int) + 13 ≠ ((st + 1 : Nat) : Int) + 37
    omega
  · rw [mu0_p h0, mu0_p h0]
    show ((st + 1 : Nat) : Int) + 25 ≠ ((st + 1 : Nat) : Int) + 37
    omega
theorem Rel_mu0 : Rel mu0 mu0 := by
  have zc : ∀ k, mu0 3 k = 0 := mu0_z (by decide)
  have z168 : ∀ k, mu0 168 k = 0 := mu0_z (by decide)
  have cr : CR mu0 (1 + 2) (mu0 168) (mu0 168 95) := by
    refine ⟨⟨by rw [z168]; exact zc 0, by rw [z168]; exact zc 1, by rw [z168]; exact zc 2⟩, fun r h1 h2 => ?_, fun r j h1 h2 => ?_, fun t h1 h2 => ?_, fun p h1 h2 => ?_⟩
    · rw [z168] at h2; omega
    · rw [z168] at h2; omega
    · rw [z168] at h2; omega
    · rw [z168]; exact mu0_can (c := 3) (cn_of (by decide)) (i := 11) (by decide) p
  refine ⟨⟨fun c hc => CI_mu0 hc, ⟨PS_mu0 (by decide), PS_mu0 (by decide), PS_mu0 (by decide)⟩, ⟨⟨by decide, by decide⟩, by decide, by decide⟩, ⟨cr, ⟨CI_mu0 (cn_of (by decide)), fun k h1 h2 => ?_, fun k h1 h2 => ?_⟩, ⟨by decide, by decide, by decide⟩, fun i h1 h2 => ?_⟩, ⟨by decide, by decide, fun h => absurd h (by decide)⟩, ⟨by decide, by decide, fun h => absurd h (by decide)⟩⟩, ⟨by decide, ⟨by decide, fun k h1 h2 => ?_⟩, ?_⟩, ⟨by decide, by decide⟩, by decide, by decide, by decide⟩
  · have e : mu0 (1 + 2) 0 = 0 := zc 0
    rw [e] at h2
    omega
  · have e : mu0 (1 + 2) 1 = 0 := zc 1
    rw [e] at h2
    omega
  · rw [z168] at h2
    omega
  · have e : mu0 151 0 = 0 := by decide
    rw [e] at h2
    omega
  · funext k
    rw [mu0_z (by decide), mu0_z (by decide)]
