/-! the three words as Strings of the constant pool -/
def words : Nat → List Int
  | 0 => wRoof
  | 1 => wStorm
  | _ => wCannon
theorem words_len {i : Nat} (hi : i < 3) : (words i).length = sLen.getD i 0 := by
  rcases (by omega : i = 0 ∨ i = 1 ∨ i = 2) with rfl | rfl | rfl <;> rfl
theorem words_b {i j : Nat} (hi : i < 3) (hj : j < (words i).length) : (sByt.getD i []).getD j 0 = iI ((words i).getD j 0) ∧ 0 ≤ (words i).getD j 0 ∧ (words i).getD j 0 < 128 := by
  rcases (by omega : i = 0 ∨ i = 1 ∨ i = 2) with rfl | rfl | rfl
  · have h4 : j < 4 := hj
    rcases (by omega : j = 0 ∨ j = 1 ∨ j = 2 ∨ j = 3) with rfl | rfl | rfl | rfl <;> decide
  · have h4 : j < 5 := hj
    rcases (by omega : j = 0 ∨ j = 1 ∨ j = 2 ∨ j = 3 ∨ j = 4) with rfl | rfl | rfl | rfl | rfl <;> decide
  · have h4 : j < 6 := hj
    rcases (by omega : j = 0 ∨ j = 1 ∨ j = 2 ∨ j = 3 ∨ j = 4 ∨ j = 5) with rfl | rfl | rfl | rfl | rfl | rfl <;> decide
theorem fl_J0_38 : Cond.fieldLink RJ0 38 "java/lang/String" "COMPACT_STRINGS" "Z" ∈ lw_gt := gt_of (by decide +kernel) rfl
theorem fl_J0_15 : Cond.fieldLink RJ0 15 "java/lang/String" "coder" "B" ∈ lw_gt := gt_of (by decide +kernel) rfl
theorem fl_J0_9 : Cond.fieldLink RJ0 9 "java/lang/String" "value" "[B" ∈ lw_gt := gt_of (by decide +kernel) rfl
theorem fl_J0_1053 : Cond.fieldLink RJ0 1053 "jdk/internal/util/Preconditions" "SIOOBE_FORMATTER" "Ljava/util/function/BiFunction;" ∈ lw_gt := gt_of (by decide +kernel) rfl
theorem nI_iI {k : Nat} (h : k < 2147483648) : nI k = iI (k : Int) := Int32.toInt_inj.mp (by rw [nI_toInt (by omega), iI_toInt (by omega)])
section STR
variable {g : gG} {l : Launch} {Y : gY} {d : Nat} {post : gQ} {pc : Nat} {lv : List (Option gA)} {st : List gA} {μ : gM}
theorem w_gstat (hY : Y.1.cls = RJ0) (hd : decode Y.2.1 pc = .ok (.getstatic 38, 3)) (kk : WA g l Y d post (pc + 3) lv (vI 1 :: st) μ) : WA g l Y d post pc lv st μ := by
  intro p en s m args below meth c0 H locs ls C L hP hS
  exact va_gets (v := .int 1) C.1 C.2.1 C.2.2.2.2.2.2.2.1.2.2.2.1 hS C.2.2.2.2.1 (C.2.2.2.2.2.1 _ (by rw [hY]; exact fl_J0_38)) (fun _ h => h) hd (kk p en s m args below meth c0 H locs ls C L hP hS)
theorem w_scod {i : Nat} (hi : i < 3) (hY : Y.1.cls = RJ0) (hd : decode Y.2.1 pc = .ok (.getfield 15, 3)) (kk : WA g l Y d post (pc + 3) lv (vI 0 :: st) μ) : WA g l Y d post pc lv (vR (1000 + i) :: st) μ := by
  intro p en s m args below meth c0 H locs ls C L hP hS
  exact vk_getf (v := .int 0) C.1 C.2.1 (C.2.2.2.2.2.2.2.1.2.2.1.1 i hi).2.1 hS C.2.2.2.2.1 (C.2.2.2.2.2.1 _ (by rw [hY]; exact fl_J0_15)) (fun _ h => h) hd (kk p en s m args below meth c0 H locs ls C L hP hS)
theorem w_sval {i : Nat} (hi : i < 3) (hY : Y.1.cls = RJ0) (hd : decode Y.2.1 pc = .ok (.getfield 9, 3)) (kk : WA g l Y d post (pc + 3) lv (vR (2000 + i) :: st) μ) : WA g l Y d post pc lv (vR (1000 + i) :: st) μ := by
  intro p en s m args below meth c0 H locs ls C L hP hS
  exact vk_getf C.1 C.2.1 (C.2.2.2.2.2.2.2.1.2.2.1.1 i hi).2.2.1 hS C.2.2.2.2.1 (C.2.2.2.2.2.1 _ (by rw [hY]; exact fl_J0_9)) (fun _ h => h) hd (kk p en s m args below meth c0 H locs ls C L hP hS)
theorem w_slen {i : Nat} (hi : i < 3) (hd : decode Y.2.1 pc = .ok (.arraylength, 1)) (kk : WA g l Y d post (pc + 1) lv (vI ((words i).length : Int) :: st) μ) : WA g l Y d post pc lv (vR (2000 + i) :: st) μ := by
  intro p en s m args below meth c0 H locs ls C L hP hS
  refine va_tlen (v := iI ((words i).length : Int)) C.1 C.2.1 (C.2.2.2.2.2.2.2.1.2.2.1.1 i hi).2.2.2 hS ?_ hd (kk p en s m args below meth c0 H locs ls C L hP hS)
  rw [words_len hi]
  rcases (by omega : i = 0 ∨ i = 1 ∨ i = 2) with rfl | rfl | rfl <;> decide
theorem w_sld {i : Nat} {j : Int} (hi : i < 3) (hj : 0 ≤ j ∧ j < (words i).length) (hd : decode Y.2.1 pc = .ok (.baload, 1)) (kk : WA g l Y d post (pc + 1) lv (vI ((words i).getD j.toNat 0) :: st) μ) : WA g l Y d post pc lv (vI j :: vR (2000 + i) :: st) μ := by
  intro p en s m args below meth c0 H locs ls C L hP hS
  have hl : (words i).length < 100 := by
    rcases (by omega : i = 0 ∨ i = 1 ∨ i = 2) with rfl | rfl | rfl <;> decide
  refine va_tb (i := iI j) C.1 C.2.1 (C.2.2.2.2.2.2.2.1.2.2.1.1 i hi).2.2.2 hS (by rw [← words_len hi]; exact iI_in hj (by omega)) ?_ hd (kk p en s m args below meth c0 H locs ls C L hP hS)
  have e : (iI j).toNatClampNeg = j.toNat := by
    have := iI_nat hj (by omega)
    omega
  show Value.int _ = Value.int _
  rw [e, (words_b hi (by omega)).1]
theorem w_i2c {a : Int} (ha : 0 ≤ a ∧ a < 65536) (hd : decode Y.2.1 pc = .ok (.i2c, 1)) (kk : WA g l Y d post (pc + 1) lv (vI a :: st) μ) : WA g l Y d post pc lv (vI a :: st) μ := by
  intro p en s m args below meth c0 H locs ls C L hP hS
  refine lv_i2c (x := iI a) (v := iI a) C.1 C.2.1 hd ?_ (kk p en s m args below meth c0 H locs ls C L hP hS)
  rw [pk_char]
  have e : (iI a).toBitVec.toNat % 65536 = a.toNat := by
    show (BitVec.ofInt 32 a).toNat % 65536 = a.toNat
    rw [BitVec.toNat_ofInt]
    omega
  rw [e]
  obtain ⟨k, rfl⟩ := Int.eq_ofNat_of_zero_le ha.1
  exact nI_iI (by omega)
theorem w_cret {q : Int → gM → Prop} {a : Int} (hr : Y.2.2.2 = some .char) (ha : 0 ≤ a ∧ a < 65536) (hd : decode Y.2.1 pc = .ok (.ireturn, 1)) (hp : q a μ) : WA g l Y d (pI q) pc lv [vI a] μ := by
  intro p en s m args below meth c0 H locs ls C L hP hS
  refine W.zret (v := iI a) (ty := .char) C.1 C.2.1 (C.2.2.1.trans hr) ?_ (fun t ht hW => ⟨⟨some (vI a), μ, rfl, ⟨a, rfl, hp⟩, by rw [ht]; exact hP⟩, hS.F ht⟩) hS.2.2 hd C.2.2.2.2.2.2.1
  obtain ⟨k, rfl⟩ := Int.eq_ofNat_of_zero_le ha.1
  have h := (pk_charN (q := k) (by omega)).1
  have e : nI k = iI (k : Int) := nI_iI (by omega)
  rw [e] at h
  exact h
theorem w_bret {q : Int → gM → Prop} (hr : Y.2.2.2 = some .byte) (hd : decode Y.2.1 pc = .ok (.ireturn, 1)) (hp : q 0 μ) : WA g l Y d (pI q) pc lv [vI 0] μ := by
  intro p en s m args below meth c0 H locs ls C L hP hS
  exact W.zret (v := iI 0) (ty := .byte) C.1 C.2.1 (C.2.2.1.trans hr) rfl (fun t ht hW => ⟨⟨some (vI 0), μ, rfl, ⟨0, rfl, hp⟩, by rw [ht]; exact hP⟩, hS.F ht⟩) hS.2.2 hd C.2.2.2.2.2.2.1
theorem w_ishr0 {a : Int} (hd : decode Y.2.1 pc = .ok (.ishr, 1)) (kk : WA g l Y d post (pc + 1) lv (vI a :: st) μ) : WA g l Y d post pc lv (vI 0 :: vI a :: st) μ := by
  intro p en s m args below meth c0 H locs ls C L hP hS
  refine lv_ishr (x := iI a) (y := iI 0) C.1 C.2.1 hd ?_
  have e : iI a >>> (iI 0 &&& 31) = iI a := by
    have h0 : iI 0 &&& 31 = 0 := by decide
    rw [h0, Int32.shiftRight_zero]
  rw [e]
  exact kk p en s m args below meth c0 H locs ls C L hP hS
/-- a call on one of the three Strings -/
theorem w_cT {Yc : gY} {dc n idx i : Nat} {as : List gA} {q : gQ} (hi : i < 3) (hcs : Yc.1.cls = RJ0) (hk : kV Yc n) (hl : Cond.methodLink Y.1.cls idx Yc.1 ∈ lw_gt) (hn : as.length = n) (hst : (st.map gcat).sum ≤ 8) (hdd : dc + 1 ≤ d) (hd : decode Y.2.1 pc = .ok (.invokevirtual idx, 3)) (hC : CT g l Yc dc (vR (1000 + i) :: as) μ q)
    (kk : ∀ (r : Option gA) (μ' : gM), q r μ' → WA g l Y d post (pc + 3) lv (r.toList ++ st) μ') : WA g l Y d post pc lv (as.reverse ++ vR (1000 + i) :: st) μ := by
  intro p en s m args below meth c0 H locs ls C L hP hS
  obtain ⟨k1, k2, k3, k4, k5, k6⟩ := hk
  have hts := C.2.2.2.2.2.1
  have cw : CallW (RM d) s args Y.1.cls Yc.1.cls idx Yc.1 Yc.2.1 Yc.2.2.1 Yc.2.2.2 (wsY Yc) (RM dc) 0 0 n := by
    refine cwV n hts (gtIn (fun w hw => ?_)) rfl rfl rfl ⟨rfl, k5⟩ ⟨hdd, by show 8 + (Yc.2.2.1 + 11) + 40 * dc ≤ 40 * d; omega⟩
    rcases List.mem_append.mp hw with h | h
    · simp only [List.mem_cons, List.not_mem_nil, or_false] at h
      rcases h with rfl | rfl | rfl | rfl
      · exact hl
      · exact k2
      · exact k3
      · exact k4
    · exact wsY_good k1 w h
  have hmap : (as.reverse ++ vR (1000 + i) :: st).map (cv g) = (as.map (cv g)).reverse ++ .ref (g.1 (1000 + i)) :: st.map (cv g) := by
    simp [List.map_reverse, cv]
  rw [hmap]
  have hrec : ∃ cell : Cell, H[g.1 (1000 + i)]? = some cell ∧ cell.vm.isStatics = false ∧ s.vm.findClass Yc.1.cls = some cell.cls := by
    rw [hcs]
    exact vk_recv (adK := fun i => g.1 (1000 + i)) (adV := fun i => g.1 (2000 + i)) (i := i) C.2.2.2.2.2.2.2.1.2.2.1 hi hS
  refine run_go (va_runV (As := as.map (cv g)) (rest := st.map (cv g)) ⟨C.1, C.2.1, C.2.2.2.1, C.2.2.2.2.1, hts⟩ hC cw ⟨PP_blind g _ μ, hrec, fun U hU hW => ⟨rfl, wK_call C.2.2.2.2.2.2.2.1 hS hU hW, C.2.2.2.2.2.2.2.2, by rw [hU]; exact hP⟩⟩ rfl (by rw [List.length_map]; exact hn) L.1 rfl (lv_room (by rw [gcat_sum]; exact hst)) hd ⟨Nat.le_refl _, Nat.le_refl _⟩) hS (fun r μ' H1 locs1 hq hP1 hS1 => ?_)
  rw [cvToList]
  exact kk r μ' hq p en s m args below meth c0 H1 locs1 ls C L hP1 hS1
end STR
theorem c_coder {g : gG} {l : Launch} {μ : gM} {i : Nat} (hi : i < 3) : CT g l YJ0_coder_7d493 0 [vR (1000 + i)] μ (pI fun e μ2 => e = 0 ∧ μ = μ2) := by
  refine CT.of (n := 0) (by decide) rfl ?_
  show WA g l YJ0_coder_7d493 0 _ 0 [some (vR (1000 + i))] [] μ
  refine w_gstat rfl dJ0_coder_7d493_0 ?_
  refine w_if_eq (tgt := 13) (by omega) dJ0_coder_7d493_3 (by decide) (fun h => by omega) (fun h => ?_)
  refine w_aload_n dJ0_coder_7d493_6 rfl ?_
  refine w_scod hi rfl dJ0_coder_7d493_7 ?_
  refine w_goto (tgt := 14) dJ0_coder_7d493_10 (by decide) ?_
  exact w_bret rfl dJ0_coder_7d493_14 ⟨rfl, rfl⟩
theorem c_isLatin1 {g : gG} {l : Launch} {μ : gM} {i : Nat} (hi : i < 3) : CT g l YJ0_isLatin1_aae02 0 [vR (1000 + i)] μ (pI fun e μ2 => e = 1 ∧ μ = μ2) := by
  refine CT.of (n := 0) (by decide) rfl ?_
  show WA g l YJ0_isLatin1_aae02 0 _ 0 [some (vR (1000 + i))] [] μ
  refine w_gstat rfl dJ0_isLatin1_aae02_0 ?_
  refine w_if_eq (tgt := 17) (by omega) dJ0_isLatin1_aae02_3 (by decide) (fun h => by omega) (fun h => ?_)
  refine w_aload_n dJ0_isLatin1_aae02_6 rfl ?_
  refine w_scod hi rfl dJ0_isLatin1_aae02_7 ?_
  refine w_if_ne (tgt := 17) (by omega) dJ0_isLatin1_aae02_10 (by decide) (fun h => by omega) (fun h => ?_)
  refine w_iconst dJ0_isLatin1_aae02_13 ?_
  refine w_goto (tgt := 18) dJ0_isLatin1_aae02_14 (by decide) ?_
  exact w_zretP rfl dJ0_isLatin1_aae02_18 (by omega) ⟨rfl, rfl⟩
theorem c_slength {g : gG} {l : Launch} {μ : gM} {i : Nat} (hi : i < 3) : CT g l YJ0_length_8abf5 1 [vR (1000 + i)] μ (pI fun e μ2 => e = ((words i).length : Int) ∧ μ = μ2) := by
  refine CT.of (n := 0) (by decide) rfl ?_
  show WA g l YJ0_length_8abf5 1 _ 0 [some (vR (1000 + i))] [] μ
  refine w_aload_n dJ0_length_8abf5_0 rfl ?_
  refine w_sval hi rfl dJ0_length_8abf5_1 ?_
  refine w_slen hi dJ0_length_8abf5_4 ?_
  refine w_aload_n dJ0_length_8abf5_5 rfl ?_
  refine w_cT (as := []) hi rfl kJ0_coder_7d493 ml_J0_335 rfl (Nat.le_of_ble_eq_true rfl) (by decide) dJ0_length_8abf5_6 (c_coder hi) (kI (fun e m q => ?_))
  obtain ⟨rfl, rfl⟩ := q
  refine w_ishr0 dJ0_length_8abf5_9 ?_
  exact w_iretP rfl dJ0_length_8abf5_10 ⟨rfl, rfl⟩
/-- the index check: its third argument is whatever the static holds -/
theorem c_jcheck {g : gG} {l : Launch} {μ : gM} {a b : Int} (v : Value) (hv : v.category = 1) (h : 0 ≤ a ∧ a < b) (hb : b < 1000) : Met l yJ3_checkIndex_8e157 (wsY YJ3_checkIndex_8e157) (RM 0) (va_Pc [.int (iI a), .int (iI b), v] (fun U => wK g U ∧ gOK g ∧ va_P g.2.1 vwCl (wl g μ) U.heap)) (QQ g (pI fun e μ2 => μ = μ2)) 0 0 (wA g) := by
  have key : WA g l YJ3_checkIndex_8e157 0 (pI fun e μ2 => μ = μ2) 0 [some (vI a), some (vI b), none] [] μ := by
    refine w_iload_n dJ3_checkIndex_8e157_0 rfl ?_
    refine w_if_lt (tgt := 9) (by omega) dJ3_checkIndex_8e157_1 (by decide) (fun h => by omega) (fun h1 => ?_)
    refine w_iload_n dJ3_checkIndex_8e157_4 rfl ?_
    refine w_iload_n dJ3_checkIndex_8e157_5 rfl ?_
    refine w_icmp_lt (tgt := 16) (by omega) (by omega) dJ3_checkIndex_8e157_6 (by decide) (fun h2 => ?_) (fun h2 => by omega)
    refine w_iload_n dJ3_checkIndex_8e157_16 rfl ?_
    exact w_iretP rfl dJ3_checkIndex_8e157_17 rfl
  refine Met.ofW (cc := cJ3_checkIndex_8e157) (maxL := 3) (ret := some .int) (by decide) rfl ?_
  intro p e s m args below meth c s₁ B hml hvv
  obtain ⟨rfl, hK, hO, hP⟩ := hvv
  have hts := atoms_spec (ws := wsY YJ3_checkIndex_8e157) B.pre
  have hlen : (lg_sl [.int (iI a), .int (iI b), v]).length = 3 := by
    simp [lg_sl, hv, show ∀ x, (Value.int x).category = 1 from fun _ => rfl]
  have hl := lv_entry [.int (iI a), .int (iI b), v] (n := 3) (by rw [hlen]; decide)
  rw [lg_entry_eq]
  refine key p e s m _ below meth c s.heap [] _ ⟨B.exec, B.bytes, B.returns, hml, findClass_of_methodNamed B.named, fun w hw => hts w (List.mem_cons_of_mem _ hw), B.notSynchronized, hK, hO⟩ ⟨hl.1, hl.2.1, fun k w hk => ?_⟩ hP va_S.rf
  rcases (by
    have := (List.getElem?_eq_some_iff.mp hk).1
    simp at this
    omega : k = 0 ∨ k = 1 ∨ k = 2) with rfl | rfl | rfl
  · cases hk
    exact hl.2.2 (0, .int (iI a)) List.mem_cons_self
  · cases hk
    exact hl.2.2 (1, .int (iI b)) (List.mem_cons_of_mem _ List.mem_cons_self)
  · cases hk
theorem c_scheck {g : gG} {l : Launch} {μ : gM} {a b : Int} (h : 0 ≤ a ∧ a < b) (hb : b < 1000) : CT g l YJ0_checkIndex_df160 1 [vI a, vI b] μ (pV fun μ2 => μ = μ2) := by
  refine CT.of (n := 0) (by decide) rfl ?_
  show WA g l YJ0_checkIndex_df160 1 _ 0 [some (vI a), some (vI b)] [] μ
  refine w_iload_n dJ0_checkIndex_df160_0 rfl ?_
  refine w_iload_n dJ0_checkIndex_df160_1 rfl ?_
  intro p en s m args below meth c0 H locs ls C L hP hS
  have go : ∀ v : Value, v.category = 1 → W p l en (RM 1) s m args below meth c0 H locs 0 0 (MQ below (QQ g (pV fun μ2 => μ = μ2)) args s 0 0 (wA g)) (F0 m (0 + 1 + 1 + 3) ls (v :: .int (iI b) :: .int (iI a) :: [])) := by
    intro v hv
    have hts := C.2.2.2.2.2.1
    obtain ⟨k1, k2, k4, k5, k6⟩ := kJ3_checkIndex_8e157
    have cw : CallB (RM 1) s args RJ0 1059 yJ3_checkIndex_8e157 cJ3_checkIndex_8e157 3 (some .int) (wsY YJ3_checkIndex_8e157) (RM 0) 0 0 3 ∧ (Cond.static yJ3_checkIndex_8e157).before args s = true := by
      refine va_cwS 3 hts (gtIn (fun w hw => ?_)) rfl rfl rfl k5 ⟨by decide, by decide⟩
      rcases List.mem_append.mp hw with h | h
      · simp only [List.mem_cons, List.not_mem_nil, or_false] at h
        rcases h with rfl | rfl | rfl
        · exact ml_J0_1059
        · exact k2
        · exact k4
      · exact wsY_good k1 w h
    refine run_go (va_runS (As := [.int (iI a), .int (iI b), v]) (rest := []) ⟨C.1, C.2.1, C.2.2.2.1, C.2.2.2.2.1, hts⟩ (c_jcheck v hv h hb) cw ⟨fun x U gg mk q => ?_, fun U hU hW => ⟨rfl, wK_call C.2.2.2.2.2.2.2.1 hS hU hW, C.2.2.2.2.2.2.2.2, by rw [hU]; exact hP⟩⟩ rfl rfl L.1 rfl (lv_room (Nat.le_of_ble_eq_true rfl)) dJ0_checkIndex_df160_5 ⟨Nat.le_refl _, Nat.le_refl _⟩) hS (fun r μ' H1 locs1 hq hP1 hS1 => ?_)
    · obtain ⟨q0, q1, q2, q3⟩ := q
      obtain ⟨-, w1, w2, w3⟩ := PP_blind g [] μ #[] U gg mk ⟨rfl, q1, q2, q3⟩
      exact ⟨q0, w1, w2, w3⟩
    · obtain ⟨e, rfl, rfl⟩ := hq
      exact w_pop_i (g := g) (l := l) (Y := YJ0_checkIndex_df160) (d := 1) (post := pV fun μ2 => μ = μ2) (lv := [some (vI a), some (vI b)]) (st := []) dJ0_checkIndex_df160_8 (w_vretP rfl dJ0_checkIndex_df160_9 rfl) p en s m args below meth c0 H1 locs1 ls C L hP1 hS1
  rcases C.2.2.2.2.2.2.2.1.2.2.2.2 with hz | ⟨t, hz⟩
  · exact va_gets C.1 C.2.1 hz hS C.2.2.2.2.1 (C.2.2.2.2.2.1 _ fl_J0_1053) (fun _ h => h) dJ0_checkIndex_df160_2 (go .null rfl)
  · exact va_gets C.1 C.2.1 hz hS C.2.2.2.2.1 (C.2.2.2.2.2.1 _ fl_J0_1053) (fun _ h => h) dJ0_checkIndex_df160_2 (go (.ref t) rfl)
theorem c_lcharAt {g : gG} {l : Launch} {μ : gM} {i : Nat} {j : Int} (hi : i < 3) (hj : 0 ≤ j ∧ j < (words i).length) : CT g l YJ1_charAt_3b067 2 [vR (2000 + i), vI j] μ (pI fun e μ2 => e = (words i).getD j.toNat 0 ∧ μ = μ2) := by
  have hl : (words i).length < 100 := by
    rcases (by omega : i = 0 ∨ i = 1 ∨ i = 2) with rfl | rfl | rfl <;> decide
  have hb := words_b hi (j := j.toNat) (by omega)
  refine CT.of (n := 0) (by decide) rfl ?_
  show WA g l YJ1_charAt_3b067 2 _ 0 [some (vR (2000 + i)), some (vI j)] [] μ
  refine w_iload_n dJ1_charAt_3b067_0 rfl ?_
  refine w_aload_n dJ1_charAt_3b067_1 rfl ?_
  refine w_slen hi dJ1_charAt_3b067_2 ?_
  refine w_cS2 kJ0_checkIndex_df160 ml_J1_9 (Nat.le_of_ble_eq_true rfl) (by decide) dJ1_charAt_3b067_3 (c_scheck hj (by omega)) (kU (fun m q => ?_))
  obtain rfl := q
  refine w_aload_n dJ1_charAt_3b067_6 rfl ?_
  refine w_iload_n dJ1_charAt_3b067_7 rfl ?_
  refine w_sld hi hj dJ1_charAt_3b067_8 ?_
  refine w_sipush dJ1_charAt_3b067_9 (by decide) ?_
  refine w_iand dJ1_charAt_3b067_12 ?_
  rw [bAnd_255, Int.emod_eq_of_lt hb.2.1 (by omega)]
  refine w_i2c (by omega) dJ1_charAt_3b067_13 ?_
  exact w_cret rfl (by omega) dJ1_charAt_3b067_14 ⟨rfl, rfl⟩
theorem c_scharAt {g : gG} {l : Launch} {μ : gM} {i : Nat} {j : Int} (hi : i < 3) (hj : 0 ≤ j ∧ j < (words i).length) : CT g l YJ0_charAt_5068e 4 [vR (1000 + i), vI j] μ (pI fun e μ2 => e = (words i).getD j.toNat 0 ∧ μ = μ2) := by
  have hl : (words i).length < 100 := by
    rcases (by omega : i = 0 ∨ i = 1 ∨ i = 2) with rfl | rfl | rfl <;> decide
  have hb := words_b hi (j := j.toNat) (by omega)
  refine CT.of (n := 0) (by decide) rfl ?_
  show WA g l YJ0_charAt_5068e 4 _ 0 [some (vR (1000 + i)), some (vI j)] [] μ
  refine w_aload_n dJ0_charAt_5068e_0 rfl ?_
  refine w_cT (as := []) hi rfl kJ0_isLatin1_aae02 ml_J0_492 rfl (Nat.le_of_ble_eq_true rfl) (by decide) dJ0_charAt_5068e_1 (c_isLatin1 hi) (kI (fun e m q => ?_))
  obtain ⟨rfl, rfl⟩ := q
  refine w_if_eq (tgt := 16) (by omega) dJ0_charAt_5068e_4 (by decide) (fun h => by omega) (fun h => ?_)
  refine w_aload_n dJ0_charAt_5068e_7 rfl ?_
  refine w_sval hi rfl dJ0_charAt_5068e_8 ?_
  refine w_iload_n dJ0_charAt_5068e_11 rfl ?_
  refine w_cS2 kJ1_charAt_3b067 ml_J0_495 (Nat.le_of_ble_eq_true rfl) (by decide) dJ0_charAt_5068e_12 (c_lcharAt hi hj) (kI (fun e m q => ?_))
  obtain ⟨rfl, rfl⟩ := q
  exact w_cret rfl (by omega) dJ0_charAt_5068e_15 ⟨rfl, rfl⟩
theorem w_cT0 {g : gG} {l : Launch} {Y : gY} {d : Nat} {post : gQ} {pc : Nat} {lv : List (Option gA)} {st : List gA} {μ : gM} {idx i : Nat} (hi : i < 3) (hl : Cond.methodLink Y.1.cls idx yJ0_length_8abf5 ∈ lw_gt) (hst : (st.map gcat).sum ≤ 8) (hdd : 1 + 1 ≤ d) (hd : decode Y.2.1 pc = .ok (.invokevirtual idx, 3)) (kk : WA g l Y d post (pc + 3) lv (vI ((words i).length : Int) :: st) μ) : WA g l Y d post pc lv (vR (1000 + i) :: st) μ :=
  w_cT (as := []) hi rfl kJ0_length_8abf5 hl rfl hst hdd hd (c_slength hi) (kI (fun e m q => by obtain ⟨rfl, rfl⟩ := q; exact kk))
theorem w_cT1 {g : gG} {l : Launch} {Y : gY} {d : Nat} {post : gQ} {pc : Nat} {lv : List (Option gA)} {st : List gA} {μ : gM} {idx i : Nat} {j : Int} (hi : i < 3) (hj : 0 ≤ j ∧ j < (words i).length) (hl : Cond.methodLink Y.1.cls idx yJ0_charAt_5068e ∈ lw_gt) (hst : (st.map gcat).sum ≤ 8) (hdd : 4 + 1 ≤ d) (hd : decode Y.2.1 pc = .ok (.invokevirtual idx, 3)) (kk : WA g l Y d post (pc + 3) lv (vI ((words i).getD j.toNat 0) :: st) μ) : WA g l Y d post pc lv (vI j :: vR (1000 + i) :: st) μ :=
  w_cT (as := [vI j]) hi rfl kJ0_charAt_5068e hl rfl hst hdd hd (c_scharAt hi hj) (kI (fun e m q => by obtain ⟨rfl, rfl⟩ := q; exact kk))
theorem w_ldcS {g : gG} {l : Launch} {Y : gY} {d : Nat} {post : gQ} {pc : Nat} {lv : List (Option gA)} {st : List gA} {μ : gM} {idx c : Nat} (tx : String) (hw : ∀ s, wK g s → vk_R Y.1.cls idx tx (g.1 c) s) (hd : decode Y.2.1 pc = .ok (.ldc idx, 2)) (kk : WA g l Y d post (pc + 2) lv (vR c :: st) μ) : WA g l Y d post pc lv st μ := by
  intro p en s m args below meth c0 H locs ls C L hP hS
  exact va_ldcS C.1 C.2.1 C.2.2.2.2.1 (hw s C.2.2.2.2.2.2.2.1) hd (kk p en s m args below meth c0 H locs ls C L hP hS)
