theorem kz_ixT {S : kz_S} {j : Nat} (ht : ∃ d, d < 2 ^ 30 ∧ S 1 0 = nI d) (hj : j < 48) : vp_in (X3_indexFor_r (X3_weekdayOf_r (S 1 0)) (nI j)) 336 := by
  obtain ⟨d, hd, e⟩ := ht
  rw [e, X3_weekdayOf_r, X3_indexFor_r, kz_wdN hd, kz_ixN]
  exact vp_in_nI (by omega) (by decide)
theorem kz_ixIn {x : Int32} (h : 0 ≤ x) : vp_in (kz_rem x 48) 48 := by
  obtain ⟨n, hn, rfl⟩ := nI_of (x := x) (fun q => absurd h (Int32.not_le.mpr q))
  rw [show (48 : Int32) = nI 48 from rfl, kz_remN hn (by omega) (by omega)]
  exact vp_in_nI (by omega) (by decide)
theorem kz_lvIn {S : kz_S} {j : Nat} (hw : ∃ w, w < 8 ∧ S 5 j = nI w) (hj : j < 48) (h : ¬ S 5 j = 0) : vp_in (X3_indexFor_r (S 5 j) (nI j)) 336 := by
  obtain ⟨w, hw8, e⟩ := hw
  cases w with
  | zero => exact absurd (e.trans nI_0) h
  | succ w =>
    rw [e, X3_indexFor_r, kz_ixN]
    exact vp_in_nI (by omega) (by decide)

abbrev X1_isFree_p (S : kz_S) (j : Nat) : Prop := ((S 5) j) = 0
set_option maxHeartbeats 4000000 in
set_option maxRecDepth 100000 in
theorem c_X1_isFree (l : Launch) (G : kz_G) (a : Nat → Nat) (S : kz_S) (j : Nat) (hj : j < 48) : kz_rd l G yX1_isFree wsX1_isFree 0 0 [.ref (a 0), .int (nI j)] [shW G a S] (if X1_isFree_p S j then 1 else 0) := by
  refine Met.ofW (cc := cX1_isFree) (maxL := 2) (ret := (some .boolean)) (by decide) rfl ?_
  intro p e s m args below meth c s₁ B hml hv
  obtain ⟨rfl, hP, hK⟩ := hv
  have hx := B.exec
  have hb := B.bytes
  have hr := B.returns
  have hts := atoms_spec (ws := wsX1_isFree) B.pre
  have hown : s.vm.findClass RX1 = some m.cls := findClass_of_methodNamed B.named
  have hlocks := B.notSynchronized
  have hinX1 : ∀ w ∈ u_ws RX1 TX1 14, w ∈ wsX1_isFree := by decide +kernel
  have hl := lv_entry ([.ref (a 0), .int (nI j)]) (n := 2) (Nat.le_of_ble_eq_true rfl)
  rw [lg_entry_eq]
  generalize (lg_sl ([.ref (a 0), .int (nI j)]) ++ List.replicate (2 - (lg_sl ([.ref (a 0), .int (nI j)])).length) Slot.unset).toArray = ls at hl ⊢
  have hl : lv_has ls 2 [(0, .ref (a 0)), (1, .int (nI j))] := hl
  refine kz_start (fun QQ hQ => ?_)
  refine lv_aload_n hx hb dX1_isFree_0 rfl (lv_at hl 0 rfl) ?_
  refine va_get (D := G.1) (ci := 1) (v := .ref (a 2)) (C := RX1) (T := TX1) (N := 14) hx hb hts hinX1 hown hK.1 hP 0 rfl rfl 5 (by decide) (hts (.fieldLink RX1 15 "ParcelShelves$Shop" "weekdays" "[I") (by decide +kernel)) (fun _ h9 => h9) rfl dX1_isFree_1 ?_
  refine lv_iload_n hx hb dX1_isFree_4 rfl (lv_at hl 1 rfl) ?_
  refine va_iald (f := (S 5)) hx hb hK.1 hP 2 0 rfl rfl (vp_in_nI (n := j) (N := 48) (by omega) (by decide)) dX1_isFree_5 ?_
  refine lv_topi (fun y_1 ey_2 => ?_)
  obtain rfl : y_1 = ((S 5) j) := by rw [ey_2, kz_nI_clamp (n := j) (by omega)]
  refine lv_if_ne (tgt := 13) hx hb dX1_isFree_6 (by decide) (fun c_3 => ?_) (fun c_3 => ?_)
  · refine lv_iconst (v := 0) hx hb dX1_isFree_13 (by decide +kernel) ?_
    subst hQ
    exact W.zret (v := 0) hx hb hr (by decide +kernel) (fun t ht _ => ⟨0, rfl, ((if_neg c_3).symm), ht⟩) (fun _ h9 => absurd h9 List.not_mem_nil) dX1_isFree_14
  · refine lv_iconst (v := 1) hx hb dX1_isFree_9 (by decide +kernel) ?_
    refine lv_goto (tgt := 14) hx hb dX1_isFree_10 (by decide) ?_
    subst hQ
    exact W.zret (v := 1) hx hb hr (by decide +kernel) (fun t ht _ => ⟨1, rfl, ((if_pos c_3).symm), ht⟩) (fun _ h9 => absurd h9 List.not_mem_nil) dX1_isFree_14
def X1_codeOn_r (S : kz_S) (j : Nat) : Int32 := (X3_codeFor_r ((S 5) j) (nI j))
set_option maxHeartbeats 4000000 in
set_option maxRecDepth 100000 in
theorem c_X1_codeOn (l : Launch) (G : kz_G) (a : Nat → Nat) (S : kz_S) (j : Nat) (hj : j < 48) : kz_rd l G yX1_codeOn wsX1_codeOn 2 45 [.ref (a 0), .int (nI j)] [shW G a S] (X1_codeOn_r S j) := by
  refine Met.ofW (cc := cX1_codeOn) (maxL := 2) (ret := (some .int)) (by decide) rfl ?_
  intro p e s m args below meth c s₁ B hml hv
  obtain ⟨rfl, hP, hK⟩ := hv
  have hx := B.exec
  have hb := B.bytes
  have hr := B.returns
  have hts := atoms_spec (ws := wsX1_codeOn) B.pre
  have hown : s.vm.findClass RX1 = some m.cls := findClass_of_methodNamed B.named
  have hlocks := B.notSynchronized
  have hinX1 : ∀ w ∈ u_ws RX1 TX1 14, w ∈ wsX1_codeOn := by decide +kernel
  have hl := lv_entry ([.ref (a 0), .int (nI j)]) (n := 2) (Nat.le_of_ble_eq_true rfl)
  rw [lg_entry_eq]
  generalize (lg_sl ([.ref (a 0), .int (nI j)]) ++ List.replicate (2 - (lg_sl ([.ref (a 0), .int (nI j)])).length) Slot.unset).toArray = ls at hl ⊢
  have hl : lv_has ls 2 [(0, .ref (a 0)), (1, .int (nI j))] := hl
  refine kz_start (fun QQ hQ => ?_)
  refine lv_aload_n hx hb dX1_codeOn_0 rfl (lv_at hl 0 rfl) ?_
  refine va_get (D := G.1) (ci := 1) (v := .ref (a 2)) (C := RX1) (T := TX1) (N := 14) hx hb hts hinX1 hown hK.1 hP 0 rfl rfl 5 (by decide) (hts (.fieldLink RX1 15 "ParcelShelves$Shop" "weekdays" "[I") (by decide +kernel)) (fun _ h9 => h9) rfl dX1_codeOn_1 ?_
  refine lv_iload_n hx hb dX1_codeOn_4 rfl (lv_at hl 1 rfl) ?_
  refine va_iald (f := (S 5)) hx hb hK.1 hP 2 0 rfl rfl (vp_in_nI (n := j) (N := 48) (by omega) (by decide)) dX1_codeOn_5 ?_
  refine lv_topi (fun y_1 ey_2 => ?_)
  obtain rfl : y_1 = ((S 5) j) := by rw [ey_2, kz_nI_clamp (n := j) (by omega)]
  refine lv_iload_n hx hb dX1_codeOn_6 rfl (lv_at hl 1 rfl) ?_
  refine kz_rdSN (As := [.int ((S 5) j), .int (nI j)]) (rest := []) ⟨hx, hb, hml, hown, hts⟩ (c_X3_codeFor l G ((S 5) j) (nI j)) ⟨va_cnB 2 hts gX1_codeOn_X3_codeFor_n70 rfl rfl rfl hK.2.2.2.1 (hts (.initialized RX3) (by decide +kernel)) (by decide +kernel) ⟨Nat.le_of_ble_eq_true rfl, Nat.le_of_ble_eq_true rfl⟩, hts (.static yX3_codeFor) (by decide +kernel), trivial⟩ hK (hP.sub (cs := []) [] rfl) rfl hl.1 rfl (Nat.le_of_ble_eq_true rfl) dX1_codeOn_7 ⟨Nat.le_of_ble_eq_true rfl, Nat.le_of_ble_eq_true rfl⟩ ?_
  subst hQ
  exact W.iret (v := (X3_codeFor_r ((S 5) j) (nI j))) hx hb hr (fun t ht _ => ⟨(X3_codeFor_r ((S 5) j) (nI j)), rfl, rfl, ht⟩) (fun _ h9 => absurd h9 List.not_mem_nil) dX1_codeOn_10
abbrev X1_isLocked_p (S : kz_S) : Prop := ¬ ((S 2 0) < 3)
set_option maxHeartbeats 4000000 in
set_option maxRecDepth 100000 in
theorem c_X1_isLocked (l : Launch) (G : kz_G) (a : Nat → Nat) (S : kz_S) : kz_rd l G yX1_isLocked wsX1_isLocked 0 0 [.ref (a 0)] [shW G a S] (if X1_isLocked_p S then 1 else 0) := by
  refine Met.ofW (cc := cX1_isLocked) (maxL := 1) (ret := (some .boolean)) (by decide) rfl ?_
  intro p e s m args below meth c s₁ B hml hv
  obtain ⟨rfl, hP, hK⟩ := hv
  have hx := B.exec
  have hb := B.bytes
  have hr := B.returns
  have hts := atoms_spec (ws := wsX1_isLocked) B.pre
  have hown : s.vm.findClass RX1 = some m.cls := findClass_of_methodNamed B.named
  have hlocks := B.notSynchronized
  have hinX1 : ∀ w ∈ u_ws RX1 TX1 14, w ∈ wsX1_isLocked := by decide +kernel
  have hl := lv_entry ([.ref (a 0)]) (n := 1) (Nat.le_of_ble_eq_true rfl)
  rw [lg_entry_eq]
  generalize (lg_sl ([.ref (a 0)]) ++ List.replicate (1 - (lg_sl ([.ref (a 0)])).length) Slot.unset).toArray = ls at hl ⊢
  have hl : lv_has ls 1 [(0, .ref (a 0))] := hl
  refine kz_start (fun QQ hQ => ?_)
  refine lv_aload_n hx hb dX1_isLocked_0 rfl (lv_at hl 0 rfl) ?_
  refine va_get (D := G.1) (ci := 1) (v := .int (S 2 0)) (C := RX1) (T := TX1) (N := 14) hx hb hts hinX1 hown hK.1 hP 0 rfl rfl 2 (by decide) (hts (.fieldLink RX1 61 "ParcelShelves$Shop" "wrongCodes" "I") (by decide +kernel)) (fun _ h9 => h9) rfl dX1_isLocked_1 ?_
  refine lv_iconst (v := 3) hx hb dX1_isLocked_4 (by decide +kernel) ?_
  refine lv_icmp_lt (tgt := 12) hx hb dX1_isLocked_5 (by decide) (fun c_1 => ?_) (fun c_1 => ?_)
  · refine lv_iconst (v := 0) hx hb dX1_isLocked_12 (by decide +kernel) ?_
    subst hQ
    exact W.zret (v := 0) hx hb hr (by decide +kernel) (fun t ht _ => ⟨0, rfl, ((if_neg (fun h => h c_1)).symm), ht⟩) (fun _ h9 => absurd h9 List.not_mem_nil) dX1_isLocked_13
  · refine lv_iconst (v := 1) hx hb dX1_isLocked_8 (by decide +kernel) ?_
    refine lv_goto (tgt := 13) hx hb dX1_isLocked_9 (by decide) ?_
    subst hQ
    exact W.zret (v := 1) hx hb hr (by decide +kernel) (fun t ht _ => ⟨1, rfl, ((if_pos c_1).symm), ht⟩) (fun _ h9 => absurd h9 List.not_mem_nil) dX1_isLocked_13
abbrev X1_rests_p (S : kz_S) (k : Int32) : Prop := (¬ (((S 9) k.toNatClampNeg) = (-1)) ∧ (¬ ((((S 9) k.toNatClampNeg) + ((S 0) 0)) ≤ (S 1 0))))
set_option maxHeartbeats 4000000 in
set_option maxRecDepth 100000 in
theorem c_X1_rests (l : Launch) (G : kz_G) (a : Nat → Nat) (S : kz_S) (k : Int32) (hk : vp_in k 336) : kz_rd l G yX1_rests wsX1_rests 0 0 [.ref (a 0), .int k] [shW G a S] (if X1_rests_p S k then 1 else 0) := by
  refine Met.ofW (cc := cX1_rests) (maxL := 2) (ret := (some .boolean)) (by decide) rfl ?_
  intro p e s m args below meth c s₁ B hml hv
  obtain ⟨rfl, hP, hK⟩ := hv
  have hx := B.exec
  have hb := B.bytes
  have hr := B.returns
  have hts := atoms_spec (ws := wsX1_rests) B.pre
  have hown : s.vm.findClass RX1 = some m.cls := findClass_of_methodNamed B.named
  have hlocks := B.notSynchronized
  have hinX1 : ∀ w ∈ u_ws RX1 TX1 14, w ∈ wsX1_rests := by decide +kernel
  have hl := lv_entry ([.ref (a 0), .int k]) (n := 2) (Nat.le_of_ble_eq_true rfl)
  rw [lg_entry_eq]
  generalize (lg_sl ([.ref (a 0), .int k]) ++ List.replicate (2 - (lg_sl ([.ref (a 0), .int k])).length) Slot.unset).toArray = ls at hl ⊢
  have hl : lv_has ls 2 [(0, .ref (a 0)), (1, .int k)] := hl
  refine kz_start (fun QQ hQ => ?_)
  refine lv_aload_n hx hb dX1_rests_0 rfl (lv_at hl 0 rfl) ?_
  refine va_get (D := G.1) (ci := 1) (v := .ref (a 6)) (C := RX1) (T := TX1) (N := 14) hx hb hts hinX1 hown hK.1 hP 0 rfl rfl 9 (by decide) (hts (.fieldLink RX1 27 "ParcelShelves$Shop" "leftOn" "[I") (by decide +kernel)) (fun _ h9 => h9) rfl dX1_rests_1 ?_
  refine lv_iload_n hx hb dX1_rests_4 rfl (lv_at hl 1 rfl) ?_
  refine va_iald (f := (S 9)) hx hb hK.1 hP 6 0 rfl rfl (by assumption) dX1_rests_5 ?_
  refine lv_iconst (v := (-1)) hx hb dX1_rests_6 (by decide +kernel) ?_
  refine lv_icmp_eq (tgt := 34) hx hb dX1_rests_7 (by decide) (fun c_1 => ?_) (fun c_1 => ?_)
  · refine lv_iconst (v := 0) hx hb dX1_rests_34 (by decide +kernel) ?_
    subst hQ
    exact W.zret (v := 0) hx hb hr (by decide +kernel) (fun t ht _ => ⟨0, rfl, ((if_neg (fun h => h.1 c_1)).symm), ht⟩) (fun _ h9 => absurd h9 List.not_mem_nil) dX1_rests_35
  · refine lv_aload_n hx hb dX1_rests_10 rfl (lv_at hl 0 rfl) ?_
    refine va_get (D := G.1) (ci := 1) (v := .int (S 1 0)) (C := RX1) (T := TX1) (N := 14) hx hb hts hinX1 hown hK.1 hP 0 rfl rfl 1 (by decide) (hts (.fieldLink RX1 57 "ParcelShelves$Shop" "today" "I") (by decide +kernel)) (fun _ h9 => h9) rfl dX1_rests_11 ?_
    refine lv_aload_n hx hb dX1_rests_14 rfl (lv_at hl 0 rfl) ?_
    refine va_get (D := G.1) (ci := 1) (v := .ref (a 6)) (C := RX1) (T := TX1) (N := 14) hx hb hts hinX1 hown hK.1 hP 0 rfl rfl 9 (by decide) (hts (.fieldLink RX1 27 "ParcelShelves$Shop" "leftOn" "[I") (by decide +kernel)) (fun _ h9 => h9) rfl dX1_rests_15 ?_
    refine lv_iload_n hx hb dX1_rests_18 rfl (lv_at hl 1 rfl) ?_
    refine va_iald (f := (S 9)) hx hb hK.1 hP 6 0 rfl rfl (by assumption) dX1_rests_19 ?_
    refine lv_aload_n hx hb dX1_rests_20 rfl (lv_at hl 0 rfl) ?_
    refine va_get (D := G.1) (ci := 1) (v := .ref (a 1)) (C := RX1) (T := TX1) (N := 14) hx hb hts hinX1 hown hK.1 hP 0 rfl rfl 0 (by decide) (hts (.fieldLink RX1 9 "ParcelShelves$Shop" "settings" "[I") (by decide +kernel)) (fun _ h9 => h9) rfl dX1_rests_21 ?_
    refine lv_iconst (v := 0) hx hb dX1_rests_24 (by decide +kernel) ?_
    refine va_iald (f := (S 0)) hx hb hK.1 hP 1 0 rfl rfl (vp_in_nI (n := 0) (N := 5) (by decide) (by decide)) dX1_rests_25 ?_
    refine lv_topi (fun y_2 ey_3 => ?_)
    obtain rfl : y_2 = ((S 0) 0) := by rw [ey_3]; rfl
    refine lv_iadd hx hb dX1_rests_26 ?_
    refine lv_icmp_ge (tgt := 34) hx hb dX1_rests_27 (by decide) (fun c_4 => ?_) (fun c_4 => ?_)
    · refine lv_iconst (v := 0) hx hb dX1_rests_34 (by decide +kernel) ?_
      subst hQ
      exact W.zret (v := 0) hx hb hr (by decide +kernel) (fun t ht _ => ⟨0, rfl, ((if_neg (fun h => (fun h => h c_4) h.2)).symm), ht⟩) (fun _ h9 => absurd h9 List.not_mem_nil) dX1_rests_35
    · refine lv_iconst (v := 1) hx hb dX1_rests_30 (by decide +kernel) ?_
      refine lv_goto (tgt := 35) hx hb dX1_rests_31 (by decide) ?_
      subst hQ
      exact W.zret (v := 1) hx hb hr (by decide +kernel) (fun t ht _ => ⟨1, rfl, ((if_pos ⟨c_1, c_4⟩).symm), ht⟩) (fun _ h9 => absurd h9 List.not_mem_nil) dX1_rests_35
abbrev X1_restsToday_p (S : kz_S) (j : Nat) : Prop := X1_rests_p S (X3_indexFor_r (X3_weekdayOf_r (S 1 0)) (nI j))
set_option maxHeartbeats 4000000 in
set_option maxRecDepth 100000 in
theorem c_X1_restsToday (l : Launch) (G : kz_G) (a : Nat → Nat) (S : kz_S) (j : Nat) (hj : j < 48) (ht : ∃ d, d < 2 ^ 30 ∧ S 1 0 = nI d) : kz_rd l G yX1_restsToday wsX1_restsToday 1 21 [.ref (a 0), .int (nI j)] [shW G a S] (if X1_restsToday_p S j then 1 else 0) := by
  refine Met.ofW (cc := cX1_restsToday) (maxL := 2) (ret := (some .boolean)) (by decide) rfl ?_
  intro p e s m args below meth c s₁ B hml hv
  obtain ⟨rfl, hP, hK⟩ := hv
  have hx := B.exec
  have hb := B.bytes
  have hr := B.returns
  have hts := atoms_spec (ws := wsX1_restsToday) B.pre
  have hown : s.vm.findClass RX1 = some m.cls := findClass_of_methodNamed B.named
  have hlocks := B.notSynchronized
  have hinX1 : ∀ w ∈ u_ws RX1 TX1 14, w ∈ wsX1_restsToday := by decide +kernel
  have hl := lv_entry ([.ref (a 0), .int (nI j)]) (n := 2) (Nat.le_of_ble_eq_true rfl)
  rw [lg_entry_eq]
  generalize (lg_sl ([.ref (a 0), .int (nI j)]) ++ List.replicate (2 - (lg_sl ([.ref (a 0), .int (nI j)])).length) Slot.unset).toArray = ls at hl ⊢
  have hl : lv_has ls 2 [(0, .ref (a 0)), (1, .int (nI j))] := hl
  refine kz_start (fun QQ hQ => ?_)
  refine lv_aload_n hx hb dX1_restsToday_0 rfl (lv_at hl 0 rfl) ?_
  refine lv_aload_n hx hb dX1_restsToday_1 rfl (lv_at hl 0 rfl) ?_
  refine va_get (D := G.1) (ci := 1) (v := .int (S 1 0)) (C := RX1) (T := TX1) (N := 14) hx hb hts hinX1 hown hK.1 hP 0 rfl rfl 1 (by decide) (hts (.fieldLink RX1 57 "ParcelShelves$Shop" "today" "I") (by decide +kernel)) (fun _ h9 => h9) rfl dX1_restsToday_2 ?_
  refine kz_rdSN (As := [.int (S 1 0)]) (rest := [.ref (a 0)]) ⟨hx, hb, hml, hown, hts⟩ (c_X3_weekdayOf l G (S 1 0)) ⟨va_cnB 1 hts gX1_restsToday_X3_weekdayOf_n74 rfl rfl rfl hK.2.1 (hts (.initialized RX3) (by decide +kernel)) (by decide +kernel) ⟨Nat.le_of_ble_eq_true rfl, Nat.le_of_ble_eq_true rfl⟩, hts (.static yX3_weekdayOf) (by decide +kernel), trivial⟩ hK (hP.sub (cs := []) [] rfl) rfl hl.1 rfl (Nat.le_of_ble_eq_true rfl) dX1_restsToday_5 ⟨Nat.le_of_ble_eq_true rfl, Nat.le_of_ble_eq_true rfl⟩ ?_
  refine lv_iload_n hx hb dX1_restsToday_8 rfl (lv_at hl 1 rfl) ?_
  refine kz_rdSN (As := [.int (X3_weekdayOf_r (S 1 0)), .int (nI j)]) (rest := [.ref (a 0)]) ⟨hx, hb, hml, hown, hts⟩ (c_X3_indexFor l G (X3_weekdayOf_r (S 1 0)) (nI j)) ⟨va_cnB 2 hts gX1_restsToday_X3_indexFor_n78 rfl rfl rfl hK.2.2.1 (hts (.initialized RX3) (by decide +kernel)) (by decide +kernel) ⟨Nat.le_of_ble_eq_true rfl, Nat.le_of_ble_eq_true rfl⟩, hts (.static yX3_indexFor) (by decide +kernel), trivial⟩ hK (hP.sub (cs := []) [] rfl) rfl hl.1 rfl (Nat.le_of_ble_eq_true rfl) dX1_restsToday_9 ⟨Nat.le_of_ble_eq_true rfl, Nat.le_of_ble_eq_true rfl⟩ ?_
  refine kz_rdV (As := [.int (X3_indexFor_r (X3_weekdayOf_r (S 1 0)) (nI j))]) (rest := []) (b := a 0) ⟨hx, hb, hml, hown, hts⟩ (c_X1_rests l G a S (X3_indexFor_r (X3_weekdayOf_r (S 1 0)) (nI j)) (kz_ixT ht hj)) (cwV 1 hts gX1_restsToday_X1_rests rfl rfl rfl (by decide +kernel) ⟨Nat.le_of_ble_eq_true rfl, Nat.le_of_ble_eq_true rfl⟩) hK hP (kz_recv hK hP (ci := 1) (q0 := 0) rfl rfl) rfl hl.1 rfl (Nat.le_of_ble_eq_true rfl) dX1_restsToday_12 ⟨Nat.le_of_ble_eq_true rfl, Nat.le_of_ble_eq_true rfl⟩ ?_
  subst hQ
  exact W.zret (v := (if X1_rests_p S (X3_indexFor_r (X3_weekdayOf_r (S 1 0)) (nI j)) then 1 else 0)) hx hb hr (by split <;> decide +kernel) (fun t ht _ => ⟨(if X1_rests_p S (X3_indexFor_r (X3_weekdayOf_r (S 1 0)) (nI j)) then 1 else 0), rfl, rfl, ht⟩) (fun _ h9 => absurd h9 List.not_mem_nil) dX1_restsToday_15
def X1_placeWith_r (S : kz_S) (code : Int32) : Int32 := if 0 ≤ (X3_indexOfCode_r code) then (if ((S 5) (kz_rem (X3_indexOfCode_r code) 48).toNatClampNeg) = (((X3_indexOfCode_r code) / 48) + 1) then (kz_rem (X3_indexOfCode_r code) 48) else (-1)) else (-1)
set_option maxHeartbeats 4000000 in
set_option maxRecDepth 100000 in
theorem c_X1_placeWith (l : Launch) (G : kz_G) (a : Nat → Nat) (S : kz_S) (code : Int32) : kz_rd l G yX1_placeWith wsX1_placeWith 3 66 [.ref (a 0), .int code] [shW G a S] (X1_placeWith_r S code) := by
  refine Met.ofW (cc := cX1_placeWith) (maxL := 4) (ret := (some .int)) (by decide) rfl ?_
  intro p e s m args below meth c s₁ B hml hv
  obtain ⟨rfl, hP, hK⟩ := hv
  have hx := B.exec
  have hb := B.bytes
  have hr := B.returns
  have hts := atoms_spec (ws := wsX1_placeWith) B.pre
  have hown : s.vm.findClass RX1 = some m.cls := findClass_of_methodNamed B.named
  have hlocks := B.notSynchronized
  have hinX1 : ∀ w ∈ u_ws RX1 TX1 14, w ∈ wsX1_placeWith := by decide +kernel
  have hl := lv_entry ([.ref (a 0), .int code]) (n := 4) (Nat.le_of_ble_eq_true rfl)
  rw [lg_entry_eq]
  generalize (lg_sl ([.ref (a 0), .int code]) ++ List.replicate (4 - (lg_sl ([.ref (a 0), .int code])).length) Slot.unset).toArray = ls at hl ⊢
  have hl : lv_has ls 4 [(0, .ref (a 0)), (1, .int code)] := hl
  refine kz_start (fun QQ hQ => ?_)
  refine lv_iload_n hx hb dX1_placeWith_0 rfl (lv_at hl 1 rfl) ?_
  refine kz_rdSN (As := [.int code]) (rest := []) ⟨hx, hb, hml, hown, hts⟩ (c_X3_indexOfCode l G code) ⟨va_cnB 1 hts gX1_placeWith_X3_indexOfCode_n85 rfl rfl rfl hK.2.2.2.2.1 (hts (.initialized RX3) (by decide +kernel)) (by decide +kernel) ⟨Nat.le_of_ble_eq_true rfl, Nat.le_of_ble_eq_true rfl⟩, hts (.static yX3_indexOfCode) (by decide +kernel), trivial⟩ hK (hP.sub (cs := []) [] rfl) rfl hl.1 rfl (Nat.le_of_ble_eq_true rfl) dX1_placeWith_1 ⟨Nat.le_of_ble_eq_true rfl, Nat.le_of_ble_eq_true rfl⟩ ?_
  refine lv_istore_n (lv' := [(2, .int (X3_indexOfCode_r code)), (0, .ref (a 0)), (1, .int code)]) hx hb dX1_placeWith_4 rfl hl (by decide) rfl (fun ls hl => ?_)
  refine lv_iload_n hx hb dX1_placeWith_5 rfl (lv_at hl 0 rfl) ?_
  refine lv_if_ge (tgt := 11) hx hb dX1_placeWith_6 (by decide) (fun c_1 => ?_) (fun c_1 => ?_)
  · refine lv_iload_n hx hb dX1_placeWith_11 rfl (lv_at hl 0 rfl) ?_
    refine lv_bipush (v := 48) hx hb dX1_placeWith_12 (by decide +kernel) ?_
    refine lv_irem hx hb dX1_placeWith_14 (by decide +kernel) ?_
    refine kz_topR ?_
    refine lv_istore_n (lv' := [(3, .int (kz_rem (X3_indexOfCode_r code) 48)), (2, .int (X3_indexOfCode_r code)), (0, .ref (a 0)), (1, .int code)]) hx hb dX1_placeWith_15 rfl hl (by decide) rfl (fun ls hl => ?_)
    refine lv_aload_n hx hb dX1_placeWith_16 rfl (lv_at hl 2 rfl) ?_
    refine va_get (D := G.1) (ci := 1) (v := .ref (a 2)) (C := RX1) (T := TX1) (N := 14) hx hb hts hinX1 hown hK.1 hP 0 rfl rfl 5 (by decide) (hts (.fieldLink RX1 15 "ParcelShelves$Shop" "weekdays" "[I") (by decide +kernel)) (fun _ h9 => h9) rfl dX1_placeWith_17 ?_
    refine lv_iload_n hx hb dX1_placeWith_20 rfl (lv_at hl 0 rfl) ?_
    refine va_iald (f := (S 5)) hx hb hK.1 hP 2 0 rfl rfl (kz_ixIn c_1) dX1_placeWith_21 ?_
    refine lv_iload_n hx hb dX1_placeWith_22 rfl (lv_at hl 1 rfl) ?_
    refine lv_bipush (v := 48) hx hb dX1_placeWith_23 (by decide +kernel) ?_
    refine lv_idiv hx hb dX1_placeWith_25 (by decide +kernel) ?_
    refine lv_iconst (v := 1) hx hb dX1_placeWith_26 (by decide +kernel) ?_
    refine lv_iadd hx hb dX1_placeWith_27 ?_
    refine lv_icmp_ne (tgt := 35) hx hb dX1_placeWith_28 (by decide) (fun c_2 => ?_) (fun c_2 => ?_)
    · refine lv_iconst (v := (-1)) hx hb dX1_placeWith_35 (by decide +kernel) ?_
      subst hQ
      exact W.iret (v := (-1)) hx hb hr (fun t ht _ => ⟨(-1), rfl, (by rw [X1_placeWith_r, if_pos c_1, if_neg c_2]), ht⟩) (fun _ h9 => absurd h9 List.not_mem_nil) dX1_placeWith_36
    · refine lv_iload_n hx hb dX1_placeWith_31 rfl (lv_at hl 0 rfl) ?_
      refine lv_goto (tgt := 36) hx hb dX1_placeWith_32 (by decide) ?_
      subst hQ
      exact W.iret (v := (kz_rem (X3_indexOfCode_r code) 48)) hx hb hr (fun t ht _ => ⟨(kz_rem (X3_indexOfCode_r code) 48), rfl, (by rw [X1_placeWith_r, if_pos c_1, if_pos c_2]), ht⟩) (fun _ h9 => absurd h9 List.not_mem_nil) dX1_placeWith_36
  · refine lv_iconst (v := (-1)) hx hb dX1_placeWith_9 (by decide +kernel) ?_
    subst hQ
    exact W.iret (v := (-1)) hx hb hr (fun t ht _ => ⟨(-1), rfl, (by rw [X1_placeWith_r, if_neg c_1]), ht⟩) (fun _ h9 => absurd h9 List.not_mem_nil) dX1_placeWith_10
abbrev X1_give_p (S : kz_S) (j : Nat) : Prop := X1_isFree_p S j ∧ ¬ X1_restsToday_p S j
def X1_placeToGive_r (S : kz_S) (p0 q : Nat) : Int32 := kz_ff (X1_give_p S) (-1) (8 * p0) (8 * (q + 1) - 8 * p0)
set_option maxHeartbeats 4000000 in
set_option maxRecDepth 100000 in
theorem c_X1_placeToGive (l : Launch) (G : kz_G) (a : Nat → Nat) (S : kz_S) (p0 : Nat) (q : Nat) (hp : p0 < 6) (hq : q < 6) (ht : ∃ d, d < 2 ^ 30 ∧ S 1 0 = nI d) : kz_rd l G yX1_placeToGive wsX1_placeToGive 2 42 [.ref (a 0), .int (nI p0), .int (nI q)] [shW G a S] (X1_placeToGive_r S p0 q) := by
  refine Met.ofW (cc := cX1_placeToGive) (maxL := 5) (ret := (some .int)) (by decide) rfl ?_
  intro p e s m args below meth c s₁ B hml hv
  obtain ⟨rfl, hP, hK⟩ := hv
  have hx := B.exec
  have hb := B.bytes
  have hr := B.returns
  have hts := atoms_spec (ws := wsX1_placeToGive) B.pre
  have hown : s.vm.findClass RX1 = some m.cls := findClass_of_methodNamed B.named
  have hlocks := B.notSynchronized
  have hl := lv_entry ([.ref (a 0), .int (nI p0), .int (nI q)]) (n := 5) (Nat.le_of_ble_eq_true rfl)
  rw [lg_entry_eq]
  generalize (lg_sl ([.ref (a 0), .int (nI p0), .int (nI q)]) ++ List.replicate (5 - (lg_sl ([.ref (a 0), .int (nI p0), .int (nI q)])).length) Slot.unset).toArray = ls at hl ⊢
  have hl : lv_has ls 5 [(0, .ref (a 0)), (1, .int (nI p0)), (2, .int (nI q))] := hl
  refine kz_start (fun QQ hQ => ?_)
  refine lv_iload_n hx hb dX1_placeToGive_0 rfl (lv_at hl 2 rfl) ?_
  refine lv_iconst (v := 1) hx hb dX1_placeToGive_1 (by decide +kernel) ?_
  refine lv_iadd hx hb dX1_placeToGive_2 ?_
  refine lv_bipush (v := 8) hx hb dX1_placeToGive_3 (by decide +kernel) ?_
  refine lv_imul hx hb dX1_placeToGive_5 ?_
  refine lv_topi (fun y_1 ey_2 => ?_)
  obtain rfl : y_1 = (nI (8 * (q + 1))) := by rw [ey_2]; exact kz_e1 q
  refine lv_istore_n (lv' := [(3, .int (nI (8 * (q + 1)))), (0, .ref (a 0)), (1, .int (nI p0)), (2, .int (nI q))]) hx hb dX1_placeToGive_6 rfl hl (by decide) rfl (fun ls hl => ?_)
  refine lv_iload_n hx hb dX1_placeToGive_7 rfl (lv_at hl 2 rfl) ?_
  refine lv_bipush (v := 8) hx hb dX1_placeToGive_8 (by decide +kernel) ?_
  refine lv_imul hx hb dX1_placeToGive_10 ?_
  refine lv_topi (fun y_3 ey_4 => ?_)
  obtain rfl : y_3 = (nI (8 * p0)) := by rw [ey_4]; exact kz_e2 p0
  refine lv_istore (lv' := [(4, .int (nI (8 * p0))), (3, .int (nI (8 * (q + 1)))), (0, .ref (a 0)), (1, .int (nI p0)), (2, .int (nI q))]) hx hb dX1_placeToGive_11 hl (by decide) rfl (fun ls hl => ?_)
  have L13_5 : ∀ (n13 : Nat) (i : Nat), (8 * (q + 1) - i < n13) → (8 * p0 ≤ i) → (i ≤ 8 * p0 + 8 * (q + 1)) → (X1_placeToGive_r S p0 q = kz_ff (X1_give_p S) (-1) i (8 * (q + 1) - i)) → ∀ ls : Array Slot, lv_has ls 5 [(4, .int (nI i)), (3, .int (nI (8 * (q + 1)))), (0, .ref (a 0)), (1, .int (nI p0)), (2, .int (nI q))] → W p l e (headSpec wsX1_placeToGive (kz_rm 2 42)).room s m ([.ref (a 0), .int (nI p0), .int (nI q)] : List Value).toArray below meth c s.heap [] 0 0 QQ (F0 m 13 ls []) := by
    intro n13
    induction n13 with
    | zero => intro i h0; exact absurd h0 (Nat.not_lt_zero _)
    | succ n13 ih13_6 =>
      intro i hmeas13 hi1 hi2 hres ls hl
      refine lv_iload hx hb dX1_placeToGive_13 (lv_at hl 0 rfl) ?_
      refine lv_iload_n hx hb dX1_placeToGive_15 rfl (lv_at hl 1 rfl) ?_
      refine lv_icmp_ge (tgt := 46) hx hb dX1_placeToGive_16 (by decide) (fun c_7 => ?_) (fun c_7 => ?_)
      · have hge := kz_le (a := 8 * (q + 1)) (b := i) c_7 (by omega) (by omega)
        refine lv_iconst (v := (-1)) hx hb dX1_placeToGive_46 (by decide +kernel) ?_
        subst hQ
        exact W.iret (v := (-1)) hx hb hr (fun t ht _ => ⟨(-1), rfl, ((hres.trans (kz_ff_e hge)).symm), ht⟩) (fun _ h9 => absurd h9 List.not_mem_nil) dX1_placeToGive_47
      · have hlt := kz_gt (a := 8 * (q + 1)) (b := i) c_7 (by omega) (by omega)
        refine lv_aload_n hx hb dX1_placeToGive_19 rfl (lv_at hl 2 rfl) ?_
        refine lv_iload hx hb dX1_placeToGive_20 (lv_at hl 0 rfl) ?_
        refine kz_rdV (As := [.int (nI i)]) (rest := []) (b := a 0) ⟨hx, hb, hml, hown, hts⟩ (c_X1_isFree l G a S i (by omega)) (cwV 1 hts gX1_placeToGive_X1_isFree rfl rfl rfl (by decide +kernel) ⟨Nat.le_of_ble_eq_true rfl, Nat.le_of_ble_eq_true rfl⟩) hK hP (kz_recv hK hP (ci := 1) (q0 := 0) rfl rfl) rfl hl.1 rfl (Nat.le_of_ble_eq_true rfl) dX1_placeToGive_22 ⟨Nat.le_of_ble_eq_true rfl, Nat.le_of_ble_eq_true rfl⟩ ?_
        refine lv_topi (fun y_8 ey_9 => ?_)
        by_cases c_10 : X1_isFree_p S i
        · rw [if_pos c_10] at ey_9
          subst ey_9
          refine lv_if_eq (tgt := 40) hx hb dX1_placeToGive_25 (by decide) (fun c => absurd c (by decide)) (fun _ => ?_)
          refine lv_aload_n hx hb dX1_placeToGive_28 rfl (lv_at hl 2 rfl) ?_
          refine lv_iload hx hb dX1_placeToGive_29 (lv_at hl 0 rfl) ?_
          refine kz_rdV (As := [.int (nI i)]) (rest := []) (b := a 0) ⟨hx, hb, hml, hown, hts⟩ (c_X1_restsToday l G a S i (by omega) (by assumption)) (cwV 1 hts gX1_placeToGive_X1_restsToday rfl rfl rfl (by decide +kernel) ⟨Nat.le_of_ble_eq_true rfl, Nat.le_of_ble_eq_true rfl⟩) hK hP (kz_recv hK hP (ci := 1) (q0 := 0) rfl rfl) rfl hl.1 rfl (Nat.le_of_ble_eq_true rfl) dX1_placeToGive_31 ⟨Nat.le_of_ble_eq_true rfl, Nat.le_of_ble_eq_true rfl⟩ ?_
          refine lv_topi (fun y_11 ey_12 => ?_)
          by_cases c_13 : X1_restsToday_p S i
          · rw [if_pos c_13] at ey_12
            subst ey_12
            refine lv_if_ne (tgt := 40) hx hb dX1_placeToGive_34 (by decide) (fun _ => ?_) (fun c => absurd c (by decide))
            refine lv_iinc (v := (nI (i + 1))) (lv' := [(4, .int (nI (i + 1))), (3, .int (nI (8 * (q + 1)))), (0, .ref (a 0)), (1, .int (nI p0)), (2, .int (nI q))]) hx hb dX1_placeToGive_40 hl (k := 0) rfl (nI_1 _) (by decide) rfl (fun ls hl => ?_)
            refine lv_goto (tgt := 13) hx hb dX1_placeToGive_43 (by decide) ?_
            exact ih13_6 (i + 1) (by omega) (by omega) (by omega) (hres.trans (kz_ff_f hlt (fun h => h.2 c_13))) ls (lv_sub hl [0, 1, 2, 3, 4] rfl)
          · rw [if_neg c_13] at ey_12
            subst ey_12
            refine lv_if_ne (tgt := 40) hx hb dX1_placeToGive_34 (by decide) (fun c => absurd c (by decide)) (fun _ => ?_)
            refine lv_iload hx hb dX1_placeToGive_37 (lv_at hl 0 rfl) ?_
            subst hQ
            exact W.iret (v := (nI i)) hx hb hr (fun t ht _ => ⟨(nI i), rfl, ((hres.trans (kz_ff_t hlt ⟨c_10, c_13⟩)).symm), ht⟩) (fun _ h9 => absurd h9 List.not_mem_nil) dX1_placeToGive_39
        · rw [if_neg c_10] at ey_9
          subst ey_9
          refine lv_if_eq (tgt := 40) hx hb dX1_placeToGive_25 (by decide) (fun _ => ?_) (fun c => absurd c (by decide))
          refine lv_iinc (v := (nI (i + 1))) (lv' := [(4, .int (nI (i + 1))), (3, .int (nI (8 * (q + 1)))), (0, .ref (a 0)), (1, .int (nI p0)), (2, .int (nI q))]) hx hb dX1_placeToGive_40 hl (k := 0) rfl (nI_1 _) (by decide) rfl (fun ls hl => ?_)
          refine lv_goto (tgt := 13) hx hb dX1_placeToGive_43 (by decide) ?_
          exact ih13_6 (i + 1) (by omega) (by omega) (by omega) (hres.trans (kz_ff_f hlt (fun h => c_10 h.1))) ls (lv_sub hl [0, 1, 2, 3, 4] rfl)
  exact L13_5 _ (8 * p0) (Nat.lt_succ_self _) (Nat.le_refl _) (by omega) rfl ls (lv_sub hl [0, 1, 2, 3, 4] rfl)
abbrev X1_hasFreePlace_p (S : kz_S) (p0 q : Nat) : Prop := kz_fb (X1_isFree_p S) (8 * p0) (8 * (q + 1) - 8 * p0) = true
set_option maxHeartbeats 4000000 in
set_option maxRecDepth 100000 in
theorem c_X1_hasFreePlace (l : Launch) (G : kz_G) (a : Nat → Nat) (S : kz_S) (p0 : Nat) (q : Nat) (hp : p0 < 6) (hq : q < 6) : kz_rd l G yX1_hasFreePlace wsX1_hasFreePlace 1 21 [.ref (a 0), .int (nI p0), .int (nI q)] [shW G a S] (if X1_hasFreePlace_p S p0 q then 1 else 0) := by
  refine Met.ofW (cc := cX1_hasFreePlace) (maxL := 5) (ret := (some .boolean)) (by decide) rfl ?_
  intro p e s m args below meth c s₁ B hml hv
  obtain ⟨rfl, hP, hK⟩ := hv
  have hx := B.exec
  have hb := B.bytes
  have hr := B.returns
  have hts := atoms_spec (ws := wsX1_hasFreePlace) B.pre
  have hown : s.vm.findClass RX1 = some m.cls := findClass_of_methodNamed B.named
  have hlocks := B.notSynchronized
  have hl := lv_entry ([.ref (a 0), .int (nI p0), .int (nI q)]) (n := 5) (Nat.le_of_ble_eq_true rfl)
  rw [lg_entry_eq]
  generalize (lg_sl ([.ref (a 0), .int (nI p0), .int (nI q)]) ++ List.replicate (5 - (lg_sl ([.ref (a 0), .int (nI p0), .int (nI q)])).length) Slot.unset).toArray = ls at hl ⊢
  have hl : lv_has ls 5 [(0, .ref (a 0)), (1, .int (nI p0)), (2, .int (nI q))] := hl
  refine kz_start (fun QQ hQ => ?_)
  refine lv_iload_n hx hb dX1_hasFreePlace_0 rfl (lv_at hl 2 rfl) ?_
  refine lv_iconst (v := 1) hx hb dX1_hasFreePlace_1 (by decide +kernel) ?_
  refine lv_iadd hx hb dX1_hasFreePlace_2 ?_
  refine lv_bipush (v := 8) hx hb dX1_hasFreePlace_3 (by decide +kernel) ?_
  refine lv_imul hx hb dX1_hasFreePlace_5 ?_
  refine lv_topi (fun y_1 ey_2 => ?_)
  obtain rfl : y_1 = (nI (8 * (q + 1))) := by rw [ey_2]; exact kz_e1 q
  refine lv_istore_n (lv' := [(3, .int (nI (8 * (q + 1)))), (0, .ref (a 0)), (1, .int (nI p0)), (2, .int (nI q))]) hx hb dX1_hasFreePlace_6 rfl hl (by decide) rfl (fun ls hl => ?_)
  refine lv_iload_n hx hb dX1_hasFreePlace_7 rfl (lv_at hl 2 rfl) ?_
  refine lv_bipush (v := 8) hx hb dX1_hasFreePlace_8 (by decide +kernel) ?_
  refine lv_imul hx hb dX1_hasFreePlace_10 ?_
  refine lv_topi (fun y_3 ey_4 => ?_)
  obtain rfl : y_3 = (nI (8 * p0)) := by rw [ey_4]; exact kz_e2 p0
  refine lv_istore (lv' := [(4, .int (nI (8 * p0))), (3, .int (nI (8 * (q + 1)))), (0, .ref (a 0)), (1, .int (nI p0)), (2, .int (nI q))]) hx hb dX1_hasFreePlace_11 hl (by decide) rfl (fun ls hl => ?_)
  have L13_5 : ∀ (n13 : Nat) (i : Nat), (8 * (q + 1) - i < n13) → (8 * p0 ≤ i) → (i ≤ 8 * p0 + 8 * (q + 1)) → (kz_fb (X1_isFree_p S) (8 * p0) (8 * (q + 1) - 8 * p0) = kz_fb (X1_isFree_p S) i (8 * (q + 1) - i)) → ∀ ls : Array Slot, lv_has ls 5 [(4, .int (nI i)), (3, .int (nI (8 * (q + 1)))), (0, .ref (a 0)), (1, .int (nI p0)), (2, .int (nI q))] → W p l e (headSpec wsX1_hasFreePlace (kz_rm 1 21)).room s m ([.ref (a 0), .int (nI p0), .int (nI q)] : List Value).toArray below meth c s.heap [] 0 0 QQ (F0 m 13 ls []) := by
    intro n13
    induction n13 with
    | zero => intro i h0; exact absurd h0 (Nat.not_lt_zero _)
    | succ n13 ih13_6 =>
      intro i hmeas13 hi1 hi2 hres ls hl
      refine lv_iload hx hb dX1_hasFreePlace_13 (lv_at hl 0 rfl) ?_
      refine lv_iload_n hx hb dX1_hasFreePlace_15 rfl (lv_at hl 1 rfl) ?_
      refine lv_icmp_ge (tgt := 36) hx hb dX1_hasFreePlace_16 (by decide) (fun c_7 => ?_) (fun c_7 => ?_)
      · have hge := kz_le (a := 8 * (q + 1)) (b := i) c_7 (by omega) (by omega)
        refine lv_iconst (v := 0) hx hb dX1_hasFreePlace_36 (by decide +kernel) ?_
        subst hQ
        exact W.zret (v := 0) hx hb hr (by decide +kernel) (fun t ht _ => ⟨0, rfl, (by rw [if_neg (show ¬ (kz_fb (X1_isFree_p S) (8 * p0) (8 * (q + 1) - 8 * p0) = true) from by rw [hres, kz_fb_e hge]; decide)]), ht⟩) (fun _ h9 => absurd h9 List.not_mem_nil) dX1_hasFreePlace_37
      · have hlt := kz_gt (a := 8 * (q + 1)) (b := i) c_7 (by omega) (by omega)
        refine lv_aload_n hx hb dX1_hasFreePlace_19 rfl (lv_at hl 2 rfl) ?_
        refine lv_iload hx hb dX1_hasFreePlace_20 (lv_at hl 0 rfl) ?_
        refine kz_rdV (As := [.int (nI i)]) (rest := []) (b := a 0) ⟨hx, hb, hml, hown, hts⟩ (c_X1_isFree l G a S i (by omega)) (cwV 1 hts gX1_hasFreePlace_X1_isFree rfl rfl rfl (by decide +kernel) ⟨Nat.le_of_ble_eq_true rfl, Nat.le_of_ble_eq_true rfl⟩) hK hP (kz_recv hK hP (ci := 1) (q0 := 0) rfl rfl) rfl hl.1 rfl (Nat.le_of_ble_eq_true rfl) dX1_hasFreePlace_22 ⟨Nat.le_of_ble_eq_true rfl, Nat.le_of_ble_eq_true rfl⟩ ?_
        refine lv_topi (fun y_8 ey_9 => ?_)
        by_cases c_10 : X1_isFree_p S i
        · rw [if_pos c_10] at ey_9
          subst ey_9
          refine lv_if_eq (tgt := 30) hx hb dX1_hasFreePlace_25 (by decide) (fun c => absurd c (by decide)) (fun _ => ?_)
          refine lv_iconst (v := 1) hx hb dX1_hasFreePlace_28 (by decide +kernel) ?_
          subst hQ
          exact W.zret (v := 1) hx hb hr (by decide +kernel) (fun t ht _ => ⟨1, rfl, (by rw [if_pos (show kz_fb (X1_isFree_p S) (8 * p0) (8 * (q + 1) - 8 * p0) = true from by rw [hres, kz_fb_t hlt c_10])]), ht⟩) (fun _ h9 => absurd h9 List.not_mem_nil) dX1_hasFreePlace_29
        · rw [if_neg c_10] at ey_9
          subst ey_9
          refine lv_if_eq (tgt := 30) hx hb dX1_hasFreePlace_25 (by decide) (fun _ => ?_) (fun c => absurd c (by decide))
          refine lv_iinc (v := (nI (i + 1))) (lv' := [(4, .int (nI (i + 1))), (3, .int (nI (8 * (q + 1)))), (0, .ref (a 0)), (1, .int (nI p0)), (2, .int (nI q))]) hx hb dX1_hasFreePlace_30 hl (k := 0) rfl (nI_1 _) (by decide) rfl (fun ls hl => ?_)
          refine lv_goto (tgt := 13) hx hb dX1_hasFreePlace_33 (by decide) ?_
          exact ih13_6 (i + 1) (by omega) (by omega) (by omega) (hres.trans (kz_fb_f hlt c_10)) ls (lv_sub hl [0, 1, 2, 3, 4] rfl)
  exact L13_5 _ (8 * p0) (Nat.lt_succ_self _) (Nat.le_refl _) (by omega) rfl ls (lv_sub hl [0, 1, 2, 3, 4] rfl)
def X1_parcelsOnShelf_r (S : kz_S) (k : Nat) : Int32 := kz_cn (fun j => ¬ X1_isFree_p S (8 * k + j)) 8
set_option maxHeartbeats 4000000 in
set_option maxRecDepth 100000 in
theorem c_X1_parcelsOnShelf (l : Launch) (G : kz_G) (a : Nat → Nat) (S : kz_S) (k : Nat) (hk : k < 6) : kz_rd l G yX1_parcelsOnShelf wsX1_parcelsOnShelf 1 21 [.ref (a 0), .int (nI k)] [shW G a S] (X1_parcelsOnShelf_r S k) := by
  refine Met.ofW (cc := cX1_parcelsOnShelf) (maxL := 4) (ret := (some .int)) (by decide) rfl ?_
  intro p e s m args below meth c s₁ B hml hv
  obtain ⟨rfl, hP, hK⟩ := hv
  have hx := B.exec
  have hb := B.bytes
  have hr := B.returns
  have hts := atoms_spec (ws := wsX1_parcelsOnShelf) B.pre
  have hown : s.vm.findClass RX1 = some m.cls := findClass_of_methodNamed B.named
  have hlocks := B.notSynchronized
  have hl := lv_entry ([.ref (a 0), .int (nI k)]) (n := 4) (Nat.le_of_ble_eq_true rfl)
  rw [lg_entry_eq]
  generalize (lg_sl ([.ref (a 0), .int (nI k)]) ++ List.replicate (4 - (lg_sl ([.ref (a 0), .int (nI k)])).length) Slot.unset).toArray = ls at hl ⊢
  have hl : lv_has ls 4 [(0, .ref (a 0)), (1, .int (nI k))] := hl
  refine kz_start (fun QQ hQ => ?_)
  refine lv_iconst (v := 0) hx hb dX1_parcelsOnShelf_0 (by decide +kernel) ?_
  refine lv_istore_n (lv' := [(2, .int 0), (0, .ref (a 0)), (1, .int (nI k))]) hx hb dX1_parcelsOnShelf_1 rfl hl (by decide) rfl (fun ls hl => ?_)
  refine lv_iconst (v := 0) hx hb dX1_parcelsOnShelf_2 (by decide +kernel) ?_
  refine lv_istore_n (lv' := [(3, .int 0), (2, .int 0), (0, .ref (a 0)), (1, .int (nI k))]) hx hb dX1_parcelsOnShelf_3 rfl hl (by decide) rfl (fun ls hl => ?_)
  have L4_1 : ∀ (n4 : Nat) (i : Nat) (x : Int32), (8 - i < n4) → (i ≤ 8) → (x = kz_cn (fun j => ¬ X1_isFree_p S (8 * k + j)) i) → ∀ ls : Array Slot, lv_has ls 4 [(3, .int (nI i)), (2, .int x), (0, .ref (a 0)), (1, .int (nI k))] → W p l e (headSpec wsX1_parcelsOnShelf (kz_rm 1 21)).room s m ([.ref (a 0), .int (nI k)] : List Value).toArray below meth c s.heap [] 0 0 QQ (F0 m 4 ls []) := by
    intro n4
    induction n4 with
    | zero => intro i x h0; exact absurd h0 (Nat.not_lt_zero _)
    | succ n4 ih4_2 =>
      intro i x hmeas4 hi1 hx0 ls hl
      refine lv_iload_n hx hb dX1_parcelsOnShelf_4 rfl (lv_at hl 0 rfl) ?_
      refine lv_bipush (v := 8) hx hb dX1_parcelsOnShelf_5 (by decide +kernel) ?_
      refine lv_icmp_ge (tgt := 32) hx hb dX1_parcelsOnShelf_7 (by decide) (fun c_3 => ?_) (fun c_3 => ?_)
      · have hge := kz_le (a := 8) (b := i) c_3 (by omega) (by omega)
        refine lv_iload_n hx hb dX1_parcelsOnShelf_32 rfl (lv_at hl 1 rfl) ?_
        subst hQ
        exact W.iret (v := x) hx hb hr (fun t ht _ => ⟨x, rfl, (by obtain rfl : i = 8 := (by omega); exact hx0), ht⟩) (fun _ h9 => absurd h9 List.not_mem_nil) dX1_parcelsOnShelf_33
      · have hlt := kz_gt (a := 8) (b := i) c_3 (by omega) (by omega)
        refine lv_aload_n hx hb dX1_parcelsOnShelf_10 rfl (lv_at hl 2 rfl) ?_
        refine lv_iload_n hx hb dX1_parcelsOnShelf_11 rfl (lv_at hl 3 rfl) ?_
        refine lv_bipush (v := 8) hx hb dX1_parcelsOnShelf_12 (by decide +kernel) ?_
        refine lv_imul hx hb dX1_parcelsOnShelf_14 ?_
        refine lv_topi (fun y_4 ey_5 => ?_)
        obtain rfl : y_4 = (nI (8 * k)) := by rw [ey_5]; exact kz_e2 k
        refine lv_iload_n hx hb dX1_parcelsOnShelf_15 rfl (lv_at hl 0 rfl) ?_
        refine lv_iadd hx hb dX1_parcelsOnShelf_16 ?_
        refine lv_topi (fun y_6 ey_7 => ?_)
        obtain rfl : y_6 = (nI (8 * k + i)) := by rw [ey_7]; exact nI_add _ _
        refine kz_rdV (As := [.int (nI (8 * k + i))]) (rest := []) (b := a 0) ⟨hx, hb, hml, hown, hts⟩ (c_X1_isFree l G a S (8 * k + i) (by omega)) (cwV 1 hts gX1_parcelsOnShelf_X1_isFree rfl rfl rfl (by decide +kernel) ⟨Nat.le_of_ble_eq_true rfl, Nat.le_of_ble_eq_true rfl⟩) hK hP (kz_recv hK hP (ci := 1) (q0 := 0) rfl rfl) rfl hl.1 rfl (Nat.le_of_ble_eq_true rfl) dX1_parcelsOnShelf_17 ⟨Nat.le_of_ble_eq_true rfl, Nat.le_of_ble_eq_true rfl⟩ ?_
        refine lv_topi (fun y_8 ey_9 => ?_)
        by_cases c_10 : X1_isFree_p S (8 * k + i)
        · rw [if_pos c_10] at ey_9
          subst ey_9
          refine lv_if_ne (tgt := 26) hx hb dX1_parcelsOnShelf_20 (by decide) (fun _ => ?_) (fun c => absurd c (by decide))
          refine lv_iinc (v := (nI (i + 1))) (lv' := [(3, .int (nI (i + 1))), (2, .int x), (0, .ref (a 0)), (1, .int (nI k))]) hx hb dX1_parcelsOnShelf_26 hl (k := 0) rfl (nI_1 _) (by decide) rfl (fun ls hl => ?_)
          refine lv_goto (tgt := 4) hx hb dX1_parcelsOnShelf_29 (by decide) ?_
          exact ih4_2 (i + 1) x (by omega) (by omega) (by rw [hx0]; exact kz_cn_f (P := fun j => ¬ X1_isFree_p S (8 * k + j)) (fun h => h c_10)) ls (lv_sub hl [0, 1, 2, 3] rfl)
        · rw [if_neg c_10] at ey_9
          subst ey_9
          refine lv_if_ne (tgt := 26) hx hb dX1_parcelsOnShelf_20 (by decide) (fun c => absurd c (by decide)) (fun _ => ?_)
          refine lv_iinc (v := (x + 1)) (lv' := [(2, .int (x + 1)), (3, .int (nI i)), (0, .ref (a 0)), (1, .int (nI k))]) hx hb dX1_parcelsOnShelf_23 hl (k := 1) rfl rfl (by decide) rfl (fun ls hl => ?_)
          refine lv_iinc (v := (nI (i + 1))) (lv' := [(3, .int (nI (i + 1))), (2, .int (x + 1)), (0, .ref (a 0)), (1, .int (nI k))]) hx hb dX1_parcelsOnShelf_26 hl (k := 1) rfl (nI_1 _) (by decide) rfl (fun ls hl => ?_)
          refine lv_goto (tgt := 4) hx hb dX1_parcelsOnShelf_29 (by decide) ?_
          exact ih4_2 (i + 1) (x + 1) (by omega) (by omega) (by rw [hx0]; exact kz_cn_t (P := fun j => ¬ X1_isFree_p S (8 * k + j)) c_10) ls (lv_sub hl [0, 1, 2, 3] rfl)
  exact L4_1 _ 0 0 (Nat.lt_succ_self _) (by omega) rfl ls (lv_sub hl [0, 1, 2, 3] rfl)
def X1_parcelsOnShelves_r (S : kz_S) : Int32 := kz_sm (X1_parcelsOnShelf_r S) 6
set_option maxHeartbeats 4000000 in
set_option maxRecDepth 100000 in
theorem c_X1_parcelsOnShelves (l : Launch) (G : kz_G) (a : Nat → Nat) (S : kz_S) : kz_rd l G yX1_parcelsOnShelves wsX1_parcelsOnShelves 2 44 [.ref (a 0)] [shW G a S] (X1_parcelsOnShelves_r S) := by
  refine Met.ofW (cc := cX1_parcelsOnShelves) (maxL := 3) (ret := (some .int)) (by decide) rfl ?_
  intro p e s m args below meth c s₁ B hml hv
  obtain ⟨rfl, hP, hK⟩ := hv
  have hx := B.exec
  have hb := B.bytes
  have hr := B.returns
  have hts := atoms_spec (ws := wsX1_parcelsOnShelves) B.pre
  have hown : s.vm.findClass RX1 = some m.cls := findClass_of_methodNamed B.named
  have hlocks := B.notSynchronized
  have hl := lv_entry ([.ref (a 0)]) (n := 3) (Nat.le_of_ble_eq_true rfl)
  rw [lg_entry_eq]
  generalize (lg_sl ([.ref (a 0)]) ++ List.replicate (3 - (lg_sl ([.ref (a 0)])).length) Slot.unset).toArray = ls at hl ⊢
  have hl : lv_has ls 3 [(0, .ref (a 0))] := hl
  refine kz_start (fun QQ hQ => ?_)
  refine lv_iconst (v := 0) hx hb dX1_parcelsOnShelves_0 (by decide +kernel) ?_
  refine lv_istore_n (lv' := [(1, .int 0), (0, .ref (a 0))]) hx hb dX1_parcelsOnShelves_1 rfl hl (by decide) rfl (fun ls hl => ?_)
  refine lv_iconst (v := 0) hx hb dX1_parcelsOnShelves_2 (by decide +kernel) ?_
  refine lv_istore_n (lv' := [(2, .int 0), (1, .int 0), (0, .ref (a 0))]) hx hb dX1_parcelsOnShelves_3 rfl hl (by decide) rfl (fun ls hl => ?_)
  have L4_1 : ∀ (n4 : Nat) (i : Nat) (x : Int32), (6 - i < n4) → (i ≤ 6) → (x = kz_sm (X1_parcelsOnShelf_r S) i) → ∀ ls : Array Slot, lv_has ls 3 [(2, .int (nI i)), (1, .int x), (0, .ref (a 0))] → W p l e (headSpec wsX1_parcelsOnShelves (kz_rm 2 44)).room s m ([.ref (a 0)] : List Value).toArray below meth c s.heap [] 0 0 QQ (F0 m 4 ls []) := by
    intro n4
    induction n4 with
    | zero => intro i x h0; exact absurd h0 (Nat.not_lt_zero _)
    | succ n4 ih4_2 =>
      intro i x hmeas4 hi1 hx0 ls hl
      refine lv_iload_n hx hb dX1_parcelsOnShelves_4 rfl (lv_at hl 0 rfl) ?_
      refine lv_bipush (v := 6) hx hb dX1_parcelsOnShelves_5 (by decide +kernel) ?_
      refine lv_icmp_ge (tgt := 24) hx hb dX1_parcelsOnShelves_7 (by decide) (fun c_3 => ?_) (fun c_3 => ?_)
      · have hge := kz_le (a := 6) (b := i) c_3 (by omega) (by omega)
        refine lv_iload_n hx hb dX1_parcelsOnShelves_24 rfl (lv_at hl 1 rfl) ?_
        subst hQ
        exact W.iret (v := x) hx hb hr (fun t ht _ => ⟨x, rfl, (by obtain rfl : i = 6 := (by omega); exact hx0), ht⟩) (fun _ h9 => absurd h9 List.not_mem_nil) dX1_parcelsOnShelves_25
      · have hlt := kz_gt (a := 6) (b := i) c_3 (by omega) (by omega)
        refine lv_iload_n hx hb dX1_parcelsOnShelves_10 rfl (lv_at hl 1 rfl) ?_
        refine lv_aload_n hx hb dX1_parcelsOnShelves_11 rfl (lv_at hl 2 rfl) ?_
        refine lv_iload_n hx hb dX1_parcelsOnShelves_12 rfl (lv_at hl 0 rfl) ?_
        refine kz_rdV (As := [.int (nI i)]) (rest := [.int x]) (b := a 0) ⟨hx, hb, hml, hown, hts⟩ (c_X1_parcelsOnShelf l G a S i (by omega)) (cwV 1 hts gX1_parcelsOnShelves_X1_parcelsOnShelf rfl rfl rfl (by decide +kernel) ⟨Nat.le_of_ble_eq_true rfl, Nat.le_of_ble_eq_true rfl⟩) hK hP (kz_recv hK hP (ci := 1) (q0 := 0) rfl rfl) rfl hl.1 rfl (Nat.le_of_ble_eq_true rfl) dX1_parcelsOnShelves_13 ⟨Nat.le_of_ble_eq_true rfl, Nat.le_of_ble_eq_true rfl⟩ ?_
        refine lv_iadd hx hb dX1_parcelsOnShelves_16 ?_
        refine lv_istore_n (lv' := [(1, .int (x + (X1_parcelsOnShelf_r S i))), (2, .int (nI i)), (0, .ref (a 0))]) hx hb dX1_parcelsOnShelves_17 rfl hl (by decide) rfl (fun ls hl => ?_)
        refine lv_iinc (v := (nI (i + 1))) (lv' := [(2, .int (nI (i + 1))), (1, .int (x + (X1_parcelsOnShelf_r S i))), (0, .ref (a 0))]) hx hb dX1_parcelsOnShelves_18 hl (k := 1) rfl (nI_1 _) (by decide) rfl (fun ls hl => ?_)
        refine lv_goto (tgt := 4) hx hb dX1_parcelsOnShelves_21 (by decide) ?_
        exact ih4_2 (i + 1) (x + (X1_parcelsOnShelf_r S i)) (by omega) (by omega) (by rw [hx0]; exact rfl) ls (lv_sub hl [0, 1, 2] rfl)
  exact L4_1 _ 0 0 (Nat.lt_succ_self _) (by omega) rfl ls (lv_sub hl [0, 1, 2] rfl)
def X1_restingOnShelf_r (S : kz_S) (k : Nat) : Int32 := kz_cn (fun j => X1_isFree_p S (8 * k + j) ∧ X1_restsToday_p S (8 * k + j)) 8
set_option maxHeartbeats 4000000 in
set_option maxRecDepth 100000 in
theorem c_X1_restingOnShelf (l : Launch) (G : kz_G) (a : Nat → Nat) (S : kz_S) (k : Nat) (hk : k < 6) (ht : ∃ d, d < 2 ^ 30 ∧ S 1 0 = nI d) : kz_rd l G yX1_restingOnShelf wsX1_restingOnShelf 2 42 [.ref (a 0), .int (nI k)] [shW G a S] (X1_restingOnShelf_r S k) := by
  refine Met.ofW (cc := cX1_restingOnShelf) (maxL := 5) (ret := (some .int)) (by decide) rfl ?_
  intro p e s m args below meth c s₁ B hml hv
  obtain ⟨rfl, hP, hK⟩ := hv
  have hx := B.exec
  have hb := B.bytes
  have hr := B.returns
  have hts := atoms_spec (ws := wsX1_restingOnShelf) B.pre
  have hown : s.vm.findClass RX1 = some m.cls := findClass_of_methodNamed B.named
  have hlocks := B.notSynchronized
  have hl := lv_entry ([.ref (a 0), .int (nI k)]) (n := 5) (Nat.le_of_ble_eq_true rfl)
  rw [lg_entry_eq]
  generalize (lg_sl ([.ref (a 0), .int (nI k)]) ++ List.replicate (5 - (lg_sl ([.ref (a 0), .int (nI k)])).length) Slot.unset).toArray = ls at hl ⊢
  have hl : lv_has ls 5 [(0, .ref (a 0)), (1, .int (nI k))] := hl
  refine kz_start (fun QQ hQ => ?_)
  refine lv_iconst (v := 0) hx hb dX1_restingOnShelf_0 (by decide +kernel) ?_
  refine lv_istore_n (lv' := [(2, .int 0), (0, .ref (a 0)), (1, .int (nI k))]) hx hb dX1_restingOnShelf_1 rfl hl (by decide) rfl (fun ls hl => ?_)
  refine lv_iconst (v := 0) hx hb dX1_restingOnShelf_2 (by decide +kernel) ?_
  refine lv_istore_n (lv' := [(3, .int 0), (2, .int 0), (0, .ref (a 0)), (1, .int (nI k))]) hx hb dX1_restingOnShelf_3 rfl hl (by decide) rfl (fun ls hl => ?_)
  have L4_1 : ∀ (n4 : Nat) (i : Nat) (x : Int32), (8 - i < n4) → (i ≤ 8) → (x = kz_cn (fun j => X1_isFree_p S (8 * k + j) ∧ X1_restsToday_p S (8 * k + j)) i) → ∀ ls : Array Slot, lv_has ls 5 [(3, .int (nI i)), (2, .int x), (0, .ref (a 0)), (1, .int (nI k))] → W p l e (headSpec wsX1_restingOnShelf (kz_rm 2 42)).room s m ([.ref (a 0), .int (nI k)] : List Value).toArray below meth c s.heap [] 0 0 QQ (F0 m 4 ls []) := by
    intro n4
    induction n4 with
    | zero => intro i x h0; exact absurd h0 (Nat.not_lt_zero _)
    | succ n4 ih4_2 =>
      intro i x hmeas4 hi1 hx0 ls hl
      refine lv_iload_n hx hb dX1_restingOnShelf_4 rfl (lv_at hl 0 rfl) ?_
      refine lv_bipush (v := 8) hx hb dX1_restingOnShelf_5 (by decide +kernel) ?_
      refine lv_icmp_ge (tgt := 45) hx hb dX1_restingOnShelf_7 (by decide) (fun c_3 => ?_) (fun c_3 => ?_)
      · have hge := kz_le (a := 8) (b := i) c_3 (by omega) (by omega)
        refine lv_iload_n hx hb dX1_restingOnShelf_45 rfl (lv_at hl 1 rfl) ?_
        subst hQ
        exact W.iret (v := x) hx hb hr (fun t ht _ => ⟨x, rfl, (by obtain rfl : i = 8 := (by omega); exact hx0), ht⟩) (fun _ h9 => absurd h9 List.not_mem_nil) dX1_restingOnShelf_46
      · have hlt := kz_gt (a := 8) (b := i) c_3 (by omega) (by omega)
        refine lv_iload_n hx hb dX1_restingOnShelf_10 rfl (lv_at hl 3 rfl) ?_
        refine lv_bipush (v := 8) hx hb dX1_restingOnShelf_11 (by decide +kernel) ?_
        refine lv_imul hx hb dX1_restingOnShelf_13 ?_
        refine lv_topi (fun y_4 ey_5 => ?_)
        obtain rfl : y_4 = (nI (8 * k)) := by rw [ey_5]; exact kz_e2 k
        refine lv_iload_n hx hb dX1_restingOnShelf_14 rfl (lv_at hl 0 rfl) ?_
        refine lv_iadd hx hb dX1_restingOnShelf_15 ?_
        refine lv_topi (fun y_6 ey_7 => ?_)
        obtain rfl : y_6 = (nI (8 * k + i)) := by rw [ey_7]; exact nI_add _ _
        refine lv_istore (lv' := [(4, .int (nI (8 * k + i))), (3, .int (nI i)), (2, .int x), (0, .ref (a 0)), (1, .int (nI k))]) hx hb dX1_restingOnShelf_16 hl (by decide) rfl (fun ls hl => ?_)
        refine lv_aload_n hx hb dX1_restingOnShelf_18 rfl (lv_at hl 3 rfl) ?_
        refine lv_iload hx hb dX1_restingOnShelf_19 (lv_at hl 0 rfl) ?_
        refine kz_rdV (As := [.int (nI (8 * k + i))]) (rest := []) (b := a 0) ⟨hx, hb, hml, hown, hts⟩ (c_X1_isFree l G a S (8 * k + i) (by omega)) (cwV 1 hts gX1_restingOnShelf_X1_isFree rfl rfl rfl (by decide +kernel) ⟨Nat.le_of_ble_eq_true rfl, Nat.le_of_ble_eq_true rfl⟩) hK hP (kz_recv hK hP (ci := 1) (q0 := 0) rfl rfl) rfl hl.1 rfl (Nat.le_of_ble_eq_true rfl) dX1_restingOnShelf_21 ⟨Nat.le_of_ble_eq_true rfl, Nat.le_of_ble_eq_true rfl⟩ ?_
        refine lv_topi (fun y_8 ey_9 => ?_)
        by_cases c_10 : X1_isFree_p S (8 * k + i)
        · rw [if_pos c_10] at ey_9
          subst ey_9
          refine lv_if_eq (tgt := 39) hx hb dX1_restingOnShelf_24 (by decide) (fun c => absurd c (by decide)) (fun _ => ?_)
          refine lv_aload_n hx hb dX1_restingOnShelf_27 rfl (lv_at hl 3 rfl) ?_
          refine lv_iload hx hb dX1_restingOnShelf_28 (lv_at hl 0 rfl) ?_
          refine kz_rdV (As := [.int (nI (8 * k + i))]) (rest := []) (b := a 0) ⟨hx, hb, hml, hown, hts⟩ (c_X1_restsToday l G a S (8 * k + i) (by omega) (by assumption)) (cwV 1 hts gX1_restingOnShelf_X1_restsToday rfl rfl rfl (by decide +kernel) ⟨Nat.le_of_ble_eq_true rfl, Nat.le_of_ble_eq_true rfl⟩) hK hP (kz_recv hK hP (ci := 1) (q0 := 0) rfl rfl) rfl hl.1 rfl (Nat.le_of_ble_eq_true rfl) dX1_restingOnShelf_30 ⟨Nat.le_of_ble_eq_true rfl, Nat.le_of_ble_eq_true rfl⟩ ?_
          refine lv_topi (fun y_11 ey_12 => ?_)
          by_cases c_13 : X1_restsToday_p S (8 * k + i)
          · rw [if_pos c_13] at ey_12
            subst ey_12
            refine lv_if_eq (tgt := 39) hx hb dX1_restingOnShelf_33 (by decide) (fun c => absurd c (by decide)) (fun _ => ?_)
            refine lv_iinc (v := (x + 1)) (lv' := [(2, .int (x + 1)), (4, .int (nI (8 * k + i))), (3, .int (nI i)), (0, .ref (a 0)), (1, .int (nI k))]) hx hb dX1_restingOnShelf_36 hl (k := 2) rfl rfl (by decide) rfl (fun ls hl => ?_)
            refine lv_iinc (v := (nI (i + 1))) (lv' := [(3, .int (nI (i + 1))), (2, .int (x + 1)), (4, .int (nI (8 * k + i))), (0, .ref (a 0)), (1, .int (nI k))]) hx hb dX1_restingOnShelf_39 hl (k := 2) rfl (nI_1 _) (by decide) rfl (fun ls hl => ?_)
            refine lv_goto (tgt := 4) hx hb dX1_restingOnShelf_42 (by decide) ?_
            exact ih4_2 (i + 1) (x + 1) (by omega) (by omega) (by rw [hx0]; exact kz_cn_t (P := fun j => X1_isFree_p S (8 * k + j) ∧ X1_restsToday_p S (8 * k + j)) ⟨c_10, c_13⟩) ls (lv_sub hl [0, 1, 3, 4] rfl)
          · rw [if_neg c_13] at ey_12
            subst ey_12
            refine lv_if_eq (tgt := 39) hx hb dX1_restingOnShelf_33 (by decide) (fun _ => ?_) (fun c => absurd c (by decide))
            refine lv_iinc (v := (nI (i + 1))) (lv' := [(3, .int (nI (i + 1))), (4, .int (nI (8 * k + i))), (2, .int x), (0, .ref (a 0)), (1, .int (nI k))]) hx hb dX1_restingOnShelf_39 hl (k := 1) rfl (nI_1 _) (by decide) rfl (fun ls hl => ?_)
            refine lv_goto (tgt := 4) hx hb dX1_restingOnShelf_42 (by decide) ?_
            exact ih4_2 (i + 1) x (by omega) (by omega) (by rw [hx0]; exact kz_cn_f (P := fun j => X1_isFree_p S (8 * k + j) ∧ X1_restsToday_p S (8 * k + j)) (fun h => c_13 h.2)) ls (lv_sub hl [0, 2, 3, 4] rfl)
        · rw [if_neg c_10] at ey_9
          subst ey_9
          refine lv_if_eq (tgt := 39) hx hb dX1_restingOnShelf_24 (by decide) (fun _ => ?_) (fun c => absurd c (by decide))
          refine lv_iinc (v := (nI (i + 1))) (lv' := [(3, .int (nI (i + 1))), (4, .int (nI (8 * k + i))), (2, .int x), (0, .ref (a 0)), (1, .int (nI k))]) hx hb dX1_restingOnShelf_39 hl (k := 1) rfl (nI_1 _) (by decide) rfl (fun ls hl => ?_)
          refine lv_goto (tgt := 4) hx hb dX1_restingOnShelf_42 (by decide) ?_
          exact ih4_2 (i + 1) x (by omega) (by omega) (by rw [hx0]; exact kz_cn_f (P := fun j => X1_isFree_p S (8 * k + j) ∧ X1_restsToday_p S (8 * k + j)) (fun h => c_10 h.1)) ls (lv_sub hl [0, 2, 3, 4] rfl)
  exact L4_1 _ 0 0 (Nat.lt_succ_self _) (by omega) rfl ls (lv_sub hl [0, 1, 2, 3] rfl)
def X1_parcelsOfSender_r (S : kz_S) (q : Int32) : Int32 := kz_cn (fun j => ¬ X1_isFree_p S j ∧ S 6 j = q) 48
set_option maxHeartbeats 4000000 in
set_option maxRecDepth 100000 in
theorem c_X1_parcelsOfSender (l : Launch) (G : kz_G) (a : Nat → Nat) (S : kz_S) (q : Int32) : kz_rd l G yX1_parcelsOfSender wsX1_parcelsOfSender 1 21 [.ref (a 0), .int q] [shW G a S] (X1_parcelsOfSender_r S q) := by
  refine Met.ofW (cc := cX1_parcelsOfSender) (maxL := 4) (ret := (some .int)) (by decide) rfl ?_
  intro p e s m args below meth c s₁ B hml hv
  obtain ⟨rfl, hP, hK⟩ := hv
  have hx := B.exec
  have hb := B.bytes
  have hr := B.returns
  have hts := atoms_spec (ws := wsX1_parcelsOfSender) B.pre
  have hown : s.vm.findClass RX1 = some m.cls := findClass_of_methodNamed B.named
  have hlocks := B.notSynchronized
  have hinX1 : ∀ w ∈ u_ws RX1 TX1 14, w ∈ wsX1_parcelsOfSender := by decide +kernel
  have hl := lv_entry ([.ref (a 0), .int q]) (n := 4) (Nat.le_of_ble_eq_true rfl)
  rw [lg_entry_eq]
  generalize (lg_sl ([.ref (a 0), .int q]) ++ List.replicate (4 - (lg_sl ([.ref (a 0), .int q])).length) Slot.unset).toArray = ls at hl ⊢
  have hl : lv_has ls 4 [(0, .ref (a 0)), (1, .int q)] := hl
  refine kz_start (fun QQ hQ => ?_)
  refine lv_iconst (v := 0) hx hb dX1_parcelsOfSender_0 (by decide +kernel) ?_
  refine lv_istore_n (lv' := [(2, .int 0), (0, .ref (a 0)), (1, .int q)]) hx hb dX1_parcelsOfSender_1 rfl hl (by decide) rfl (fun ls hl => ?_)
  refine lv_iconst (v := 0) hx hb dX1_parcelsOfSender_2 (by decide +kernel) ?_
  refine lv_istore_n (lv' := [(3, .int 0), (2, .int 0), (0, .ref (a 0)), (1, .int q)]) hx hb dX1_parcelsOfSender_3 rfl hl (by decide) rfl (fun ls hl => ?_)
  have L4_1 : ∀ (n4 : Nat) (i : Nat) (x : Int32), (48 - i < n4) → (i ≤ 48) → (x = kz_cn (fun j => ¬ X1_isFree_p S j ∧ S 6 j = q) i) → ∀ ls : Array Slot, lv_has ls 4 [(3, .int (nI i)), (2, .int x), (0, .ref (a 0)), (1, .int q)] → W p l e (headSpec wsX1_parcelsOfSender (kz_rm 1 21)).room s m ([.ref (a 0), .int q] : List Value).toArray below meth c s.heap [] 0 0 QQ (F0 m 4 ls []) := by
    intro n4
    induction n4 with
    | zero => intro i x h0; exact absurd h0 (Nat.not_lt_zero _)
    | succ n4 ih4_2 =>
      intro i x hmeas4 hi1 hx0 ls hl
      refine lv_iload_n hx hb dX1_parcelsOfSender_4 rfl (lv_at hl 0 rfl) ?_
      refine lv_bipush (v := 48) hx hb dX1_parcelsOfSender_5 (by decide +kernel) ?_
      refine lv_icmp_ge (tgt := 37) hx hb dX1_parcelsOfSender_7 (by decide) (fun c_3 => ?_) (fun c_3 => ?_)
      · have hge := kz_le (a := 48) (b := i) c_3 (by omega) (by omega)
        refine lv_iload_n hx hb dX1_parcelsOfSender_37 rfl (lv_at hl 1 rfl) ?_
        subst hQ
        exact W.iret (v := x) hx hb hr (fun t ht _ => ⟨x, rfl, (by obtain rfl : i = 48 := (by omega); exact hx0), ht⟩) (fun _ h9 => absurd h9 List.not_mem_nil) dX1_parcelsOfSender_38
      · have hlt := kz_gt (a := 48) (b := i) c_3 (by omega) (by omega)
        refine lv_aload_n hx hb dX1_parcelsOfSender_10 rfl (lv_at hl 2 rfl) ?_
        refine lv_iload_n hx hb dX1_parcelsOfSender_11 rfl (lv_at hl 0 rfl) ?_
        refine kz_rdV (As := [.int (nI i)]) (rest := []) (b := a 0) ⟨hx, hb, hml, hown, hts⟩ (c_X1_isFree l G a S i (by omega)) (cwV 1 hts gX1_parcelsOfSender_X1_isFree rfl rfl rfl (by decide +kernel) ⟨Nat.le_of_ble_eq_true rfl, Nat.le_of_ble_eq_true rfl⟩) hK hP (kz_recv hK hP (ci := 1) (q0 := 0) rfl rfl) rfl hl.1 rfl (Nat.le_of_ble_eq_true rfl) dX1_parcelsOfSender_12 ⟨Nat.le_of_ble_eq_true rfl, Nat.le_of_ble_eq_true rfl⟩ ?_
        refine lv_topi (fun y_4 ey_5 => ?_)
        by_cases c_6 : X1_isFree_p S i
        · rw [if_pos c_6] at ey_5
          subst ey_5
          refine lv_if_ne (tgt := 31) hx hb dX1_parcelsOfSender_15 (by decide) (fun _ => ?_) (fun c => absurd c (by decide))
          refine lv_iinc (v := (nI (i + 1))) (lv' := [(3, .int (nI (i + 1))), (2, .int x), (0, .ref (a 0)), (1, .int q)]) hx hb dX1_parcelsOfSender_31 hl (k := 0) rfl (nI_1 _) (by decide) rfl (fun ls hl => ?_)
          refine lv_goto (tgt := 4) hx hb dX1_parcelsOfSender_34 (by decide) ?_
          exact ih4_2 (i + 1) x (by omega) (by omega) (by rw [hx0]; exact kz_cn_f (P := fun j => ¬ X1_isFree_p S j ∧ S 6 j = q) (fun h => h.1 c_6)) ls (lv_sub hl [0, 1, 2, 3] rfl)
        · rw [if_neg c_6] at ey_5
          subst ey_5
          refine lv_if_ne (tgt := 31) hx hb dX1_parcelsOfSender_15 (by decide) (fun c => absurd c (by decide)) (fun _ => ?_)
          refine lv_aload_n hx hb dX1_parcelsOfSender_18 rfl (lv_at hl 2 rfl) ?_
          refine va_get (D := G.1) (ci := 1) (v := .ref (a 3)) (C := RX1) (T := TX1) (N := 14) hx hb hts hinX1 hown hK.1 hP 0 rfl rfl 6 (by decide) (hts (.fieldLink RX1 18 "ParcelShelves$Shop" "senders" "[I") (by decide +kernel)) (fun _ h9 => h9) rfl dX1_parcelsOfSender_19 ?_
          refine lv_iload_n hx hb dX1_parcelsOfSender_22 rfl (lv_at hl 0 rfl) ?_
          refine va_iald (f := (S 6)) hx hb hK.1 hP 3 0 rfl rfl (vp_in_nI (n := i) (N := 48) (by omega) (by decide)) dX1_parcelsOfSender_23 ?_
          refine lv_topi (fun y_7 ey_8 => ?_)
          obtain rfl : y_7 = ((S 6) i) := by rw [ey_8, kz_nI_clamp (n := i) (by omega)]
          refine lv_iload_n hx hb dX1_parcelsOfSender_24 rfl (lv_at hl 3 rfl) ?_
          refine lv_icmp_ne (tgt := 31) hx hb dX1_parcelsOfSender_25 (by decide) (fun c_9 => ?_) (fun c_9 => ?_)
          · refine lv_iinc (v := (nI (i + 1))) (lv' := [(3, .int (nI (i + 1))), (2, .int x), (0, .ref (a 0)), (1, .int q)]) hx hb dX1_parcelsOfSender_31 hl (k := 0) rfl (nI_1 _) (by decide) rfl (fun ls hl => ?_)
            refine lv_goto (tgt := 4) hx hb dX1_parcelsOfSender_34 (by decide) ?_
            exact ih4_2 (i + 1) x (by omega) (by omega) (by rw [hx0]; exact kz_cn_f (P := fun j => ¬ X1_isFree_p S j ∧ S 6 j = q) (fun h => c_9 h.2)) ls (lv_sub hl [0, 1, 2, 3] rfl)
          · refine lv_iinc (v := (x + 1)) (lv' := [(2, .int (x + 1)), (3, .int (nI i)), (0, .ref (a 0)), (1, .int q)]) hx hb dX1_parcelsOfSender_28 hl (k := 1) rfl rfl (by decide) rfl (fun ls hl => ?_)
            refine lv_iinc (v := (nI (i + 1))) (lv' := [(3, .int (nI (i + 1))), (2, .int (x + 1)), (0, .ref (a 0)), (1, .int q)]) hx hb dX1_parcelsOfSender_31 hl (k := 1) rfl (nI_1 _) (by decide) rfl (fun ls hl => ?_)
            refine lv_goto (tgt := 4) hx hb dX1_parcelsOfSender_34 (by decide) ?_
            exact ih4_2 (i + 1) (x + 1) (by omega) (by omega) (by rw [hx0]; exact kz_cn_t (P := fun j => ¬ X1_isFree_p S j ∧ S 6 j = q) ⟨c_6, c_9⟩) ls (lv_sub hl [0, 1, 2, 3] rfl)
  exact L4_1 _ 0 0 (Nat.lt_succ_self _) (by omega) rfl ls (lv_sub hl [0, 1, 2, 3] rfl)
def X1_feeAfter_r (S : kz_S) (j : Nat) (ds : Int32) : Int32 := (((((S 7) j) + 1) * ((S 0) 2)) * (if 0 < ((((S 1 0) + ds) - ((S 8) j)) - ((S 0) 1)) then ((((S 1 0) + ds) - ((S 8) j)) - ((S 0) 1)) else 0))
set_option maxHeartbeats 4000000 in
set_option maxRecDepth 100000 in
theorem c_X1_feeAfter (l : Launch) (G : kz_G) (a : Nat → Nat) (S : kz_S) (j : Nat) (ds : Int32) (hj : j < 48) : kz_rd l G yX1_feeAfter wsX1_feeAfter 1 21 [.ref (a 0), .int (nI j), .int ds] [shW G a S] (X1_feeAfter_r S j ds) := by
  refine Met.ofW (cc := cX1_feeAfter) (maxL := 5) (ret := (some .int)) (by decide) rfl ?_
  intro p e s m args below meth c s₁ B hml hv
  obtain ⟨rfl, hP, hK⟩ := hv
  have hx := B.exec
  have hb := B.bytes
  have hr := B.returns
  have hts := atoms_spec (ws := wsX1_feeAfter) B.pre
  have hown : s.vm.findClass RX1 = some m.cls := findClass_of_methodNamed B.named
  have hlocks := B.notSynchronized
  have hinX1 : ∀ w ∈ u_ws RX1 TX1 14, w ∈ wsX1_feeAfter := by decide +kernel
  have hl := lv_entry ([.ref (a 0), .int (nI j), .int ds]) (n := 5) (Nat.le_of_ble_eq_true rfl)
  rw [lg_entry_eq]
  generalize (lg_sl ([.ref (a 0), .int (nI j), .int ds]) ++ List.replicate (5 - (lg_sl ([.ref (a 0), .int (nI j), .int ds])).length) Slot.unset).toArray = ls at hl ⊢
  have hl : lv_has ls 5 [(0, .ref (a 0)), (1, .int (nI j)), (2, .int ds)] := hl
  refine kz_start (fun QQ hQ => ?_)
  refine lv_aload_n hx hb dX1_feeAfter_0 rfl (lv_at hl 0 rfl) ?_
  refine va_get (D := G.1) (ci := 1) (v := .int (S 1 0)) (C := RX1) (T := TX1) (N := 14) hx hb hts hinX1 hown hK.1 hP 0 rfl rfl 1 (by decide) (hts (.fieldLink RX1 57 "ParcelShelves$Shop" "today" "I") (by decide +kernel)) (fun _ h9 => h9) rfl dX1_feeAfter_1 ?_
  refine lv_iload_n hx hb dX1_feeAfter_4 rfl (lv_at hl 2 rfl) ?_
  refine lv_iadd hx hb dX1_feeAfter_5 ?_
  refine lv_aload_n hx hb dX1_feeAfter_6 rfl (lv_at hl 0 rfl) ?_
  refine va_get (D := G.1) (ci := 1) (v := .ref (a 5)) (C := RX1) (T := TX1) (N := 14) hx hb hts hinX1 hown hK.1 hP 0 rfl rfl 8 (by decide) (hts (.fieldLink RX1 24 "ParcelShelves$Shop" "cameOn" "[I") (by decide +kernel)) (fun _ h9 => h9) rfl dX1_feeAfter_7 ?_
  refine lv_iload_n hx hb dX1_feeAfter_10 rfl (lv_at hl 1 rfl) ?_
  refine va_iald (f := (S 8)) hx hb hK.1 hP 5 0 rfl rfl (vp_in_nI (n := j) (N := 48) (by omega) (by decide)) dX1_feeAfter_11 ?_
  refine lv_topi (fun y_1 ey_2 => ?_)
  obtain rfl : y_1 = ((S 8) j) := by rw [ey_2, kz_nI_clamp (n := j) (by omega)]
  refine lv_isub hx hb dX1_feeAfter_12 ?_
  refine lv_istore_n (lv' := [(3, .int (((S 1 0) + ds) - ((S 8) j))), (0, .ref (a 0)), (1, .int (nI j)), (2, .int ds)]) hx hb dX1_feeAfter_13 rfl hl (by decide) rfl (fun ls hl => ?_)
  refine lv_iconst (v := 0) hx hb dX1_feeAfter_14 (by decide +kernel) ?_
  refine lv_iload_n hx hb dX1_feeAfter_15 rfl (lv_at hl 0 rfl) ?_
  refine lv_aload_n hx hb dX1_feeAfter_16 rfl (lv_at hl 1 rfl) ?_
  refine va_get (D := G.1) (ci := 1) (v := .ref (a 1)) (C := RX1) (T := TX1) (N := 14) hx hb hts hinX1 hown hK.1 hP 0 rfl rfl 0 (by decide) (hts (.fieldLink RX1 9 "ParcelShelves$Shop" "settings" "[I") (by decide +kernel)) (fun _ h9 => h9) rfl dX1_feeAfter_17 ?_
  refine lv_iconst (v := 1) hx hb dX1_feeAfter_20 (by decide +kernel) ?_
  refine va_iald (f := (S 0)) hx hb hK.1 hP 1 0 rfl rfl (vp_in_nI (n := 1) (N := 5) (by decide) (by decide)) dX1_feeAfter_21 ?_
  refine lv_topi (fun y_3 ey_4 => ?_)
  obtain rfl : y_3 = ((S 0) 1) := by rw [ey_4]; rfl
  refine lv_isub hx hb dX1_feeAfter_22 ?_
  refine va_mmax hx hb (by rw [hml]; exact hl.1.symm) hown (hts (.methodLink RX1 94 Lib.Math.max.name) (by decide +kernel)) (hts (.static Lib.Math.max.name) (by decide +kernel)) (hts (.initialized "java/lang/Math") (by decide +kernel)) (hts (.code Lib.Math.max.name Lib.Math.max.code 2 (some .int)) (by decide +kernel)) (Nat.le_of_ble_eq_true rfl) (Nat.le_of_ble_eq_true rfl) (Nat.le_of_ble_eq_true rfl) (Nat.le_of_ble_eq_true rfl) dX1_feeAfter_23 ?_
  refine lv_istore (lv' := [(4, .int (if 0 < ((((S 1 0) + ds) - ((S 8) j)) - ((S 0) 1)) then ((((S 1 0) + ds) - ((S 8) j)) - ((S 0) 1)) else 0)), (3, .int (((S 1 0) + ds) - ((S 8) j))), (0, .ref (a 0)), (1, .int (nI j)), (2, .int ds)]) hx hb dX1_feeAfter_26 hl (by decide) rfl (fun ls hl => ?_)
  refine lv_aload_n hx hb dX1_feeAfter_28 rfl (lv_at hl 2 rfl) ?_
  refine va_get (D := G.1) (ci := 1) (v := .ref (a 4)) (C := RX1) (T := TX1) (N := 14) hx hb hts hinX1 hown hK.1 hP 0 rfl rfl 7 (by decide) (hts (.fieldLink RX1 21 "ParcelShelves$Shop" "sizes" "[I") (by decide +kernel)) (fun _ h9 => h9) rfl dX1_feeAfter_29 ?_
  refine lv_iload_n hx hb dX1_feeAfter_32 rfl (lv_at hl 3 rfl) ?_
  refine va_iald (f := (S 7)) hx hb hK.1 hP 4 0 rfl rfl (vp_in_nI (n := j) (N := 48) (by omega) (by decide)) dX1_feeAfter_33 ?_
  refine lv_topi (fun y_5 ey_6 => ?_)
  obtain rfl : y_5 = ((S 7) j) := by rw [ey_6, kz_nI_clamp (n := j) (by omega)]
  refine lv_iconst (v := 1) hx hb dX1_feeAfter_34 (by decide +kernel) ?_
  refine lv_iadd hx hb dX1_feeAfter_35 ?_
  refine lv_aload_n hx hb dX1_feeAfter_36 rfl (lv_at hl 2 rfl) ?_
  refine va_get (D := G.1) (ci := 1) (v := .ref (a 1)) (C := RX1) (T := TX1) (N := 14) hx hb hts hinX1 hown hK.1 hP 0 rfl rfl 0 (by decide) (hts (.fieldLink RX1 9 "ParcelShelves$Shop" "settings" "[I") (by decide +kernel)) (fun _ h9 => h9) rfl dX1_feeAfter_37 ?_
  refine lv_iconst (v := 2) hx hb dX1_feeAfter_40 (by decide +kernel) ?_
  refine va_iald (f := (S 0)) hx hb hK.1 hP 1 0 rfl rfl (vp_in_nI (n := 2) (N := 5) (by decide) (by decide)) dX1_feeAfter_41 ?_
  refine lv_topi (fun y_7 ey_8 => ?_)
  obtain rfl : y_7 = ((S 0) 2) := by rw [ey_8]; rfl
  refine lv_imul hx hb dX1_feeAfter_42 ?_
  refine lv_iload hx hb dX1_feeAfter_43 (lv_at hl 0 rfl) ?_
  refine lv_imul hx hb dX1_feeAfter_45 ?_
  subst hQ
  exact W.iret (v := (((((S 7) j) + 1) * ((S 0) 2)) * (if 0 < ((((S 1 0) + ds) - ((S 8) j)) - ((S 0) 1)) then ((((S 1 0) + ds) - ((S 8) j)) - ((S 0) 1)) else 0))) hx hb hr (fun t ht _ => ⟨(((((S 7) j) + 1) * ((S 0) 2)) * (if 0 < ((((S 1 0) + ds) - ((S 8) j)) - ((S 0) 1)) then ((((S 1 0) + ds) - ((S 8) j)) - ((S 0) 1)) else 0)), rfl, rfl, ht⟩) (fun _ h9 => absurd h9 List.not_mem_nil) dX1_feeAfter_46
def X1_feesOnShelves_r (S : kz_S) : Int32 := kz_sp (fun j => ¬ X1_isFree_p S j) (fun j => X1_feeAfter_r S j 0) 48
set_option maxHeartbeats 4000000 in
set_option maxRecDepth 100000 in
theorem c_X1_feesOnShelves (l : Launch) (G : kz_G) (a : Nat → Nat) (S : kz_S) : kz_rd l G yX1_feesOnShelves wsX1_feesOnShelves 2 45 [.ref (a 0)] [shW G a S] (X1_feesOnShelves_r S) := by
  refine Met.ofW (cc := cX1_feesOnShelves) (maxL := 3) (ret := (some .int)) (by decide) rfl ?_
  intro p e s m args below meth c s₁ B hml hv
  obtain ⟨rfl, hP, hK⟩ := hv
  have hx := B.exec
  have hb := B.bytes
  have hr := B.returns
  have hts := atoms_spec (ws := wsX1_feesOnShelves) B.pre
  have hown : s.vm.findClass RX1 = some m.cls := findClass_of_methodNamed B.named
  have hlocks := B.notSynchronized
  have hl := lv_entry ([.ref (a 0)]) (n := 3) (Nat.le_of_ble_eq_true rfl)
  rw [lg_entry_eq]
  generalize (lg_sl ([.ref (a 0)]) ++ List.replicate (3 - (lg_sl ([.ref (a 0)])).length) Slot.unset).toArray = ls at hl ⊢
  have hl : lv_has ls 3 [(0, .ref (a 0))] := hl
  refine kz_start (fun QQ hQ => ?_)
  refine lv_iconst (v := 0) hx hb dX1_feesOnShelves_0 (by decide +kernel) ?_
  refine lv_istore_n (lv' := [(1, .int 0), (0, .ref (a 0))]) hx hb dX1_feesOnShelves_1 rfl hl (by decide) rfl (fun ls hl => ?_)
  refine lv_iconst (v := 0) hx hb dX1_feesOnShelves_2 (by decide +kernel) ?_
  refine lv_istore_n (lv' := [(2, .int 0), (1, .int 0), (0, .ref (a 0))]) hx hb dX1_feesOnShelves_3 rfl hl (by decide) rfl (fun ls hl => ?_)
  have L4_1 : ∀ (n4 : Nat) (i : Nat) (x : Int32), (48 - i < n4) → (i ≤ 48) → (x = kz_sp (fun j => ¬ X1_isFree_p S j) (fun j => X1_feeAfter_r S j 0) i) → ∀ ls : Array Slot, lv_has ls 3 [(2, .int (nI i)), (1, .int x), (0, .ref (a 0))] → W p l e (headSpec wsX1_feesOnShelves (kz_rm 2 45)).room s m ([.ref (a 0)] : List Value).toArray below meth c s.heap [] 0 0 QQ (F0 m 4 ls []) := by
    intro n4
    induction n4 with
    | zero => intro i x h0; exact absurd h0 (Nat.not_lt_zero _)
    | succ n4 ih4_2 =>
      intro i x hmeas4 hi1 hx0 ls hl
      refine lv_iload_n hx hb dX1_feesOnShelves_4 rfl (lv_at hl 0 rfl) ?_
      refine lv_bipush (v := 48) hx hb dX1_feesOnShelves_5 (by decide +kernel) ?_
      refine lv_icmp_ge (tgt := 33) hx hb dX1_feesOnShelves_7 (by decide) (fun c_3 => ?_) (fun c_3 => ?_)
      · have hge := kz_le (a := 48) (b := i) c_3 (by omega) (by omega)
        refine lv_iload_n hx hb dX1_feesOnShelves_33 rfl (lv_at hl 1 rfl) ?_
        subst hQ
        exact W.iret (v := x) hx hb hr (fun t ht _ => ⟨x, rfl, (by obtain rfl : i = 48 := (by omega); exact hx0), ht⟩) (fun _ h9 => absurd h9 List.not_mem_nil) dX1_feesOnShelves_34
      · have hlt := kz_gt (a := 48) (b := i) c_3 (by omega) (by omega)
        refine lv_aload_n hx hb dX1_feesOnShelves_10 rfl (lv_at hl 2 rfl) ?_
        refine lv_iload_n hx hb dX1_feesOnShelves_11 rfl (lv_at hl 0 rfl) ?_
        refine kz_rdV (As := [.int (nI i)]) (rest := []) (b := a 0) ⟨hx, hb, hml, hown, hts⟩ (c_X1_isFree l G a S i (by omega)) (cwV 1 hts gX1_feesOnShelves_X1_isFree rfl rfl rfl (by decide +kernel) ⟨Nat.le_of_ble_eq_true rfl, Nat.le_of_ble_eq_true rfl⟩) hK hP (kz_recv hK hP (ci := 1) (q0 := 0) rfl rfl) rfl hl.1 rfl (Nat.le_of_ble_eq_true rfl) dX1_feesOnShelves_12 ⟨Nat.le_of_ble_eq_true rfl, Nat.le_of_ble_eq_true rfl⟩ ?_
        refine lv_topi (fun y_4 ey_5 => ?_)
        by_cases c_6 : X1_isFree_p S i
        · rw [if_pos c_6] at ey_5
          subst ey_5
          refine lv_if_ne (tgt := 27) hx hb dX1_feesOnShelves_15 (by decide) (fun _ => ?_) (fun c => absurd c (by decide))
          refine lv_iinc (v := (nI (i + 1))) (lv' := [(2, .int (nI (i + 1))), (1, .int x), (0, .ref (a 0))]) hx hb dX1_feesOnShelves_27 hl (k := 0) rfl (nI_1 _) (by decide) rfl (fun ls hl => ?_)
          refine lv_goto (tgt := 4) hx hb dX1_feesOnShelves_30 (by decide) ?_
          exact ih4_2 (i + 1) x (by omega) (by omega) (by rw [hx0]; exact kz_sp_f (P := fun j => ¬ X1_isFree_p S j) (fun h => h c_6)) ls (lv_sub hl [0, 1, 2] rfl)
        · rw [if_neg c_6] at ey_5
          subst ey_5
          refine lv_if_ne (tgt := 27) hx hb dX1_feesOnShelves_15 (by decide) (fun c => absurd c (by decide)) (fun _ => ?_)
          refine lv_iload_n hx hb dX1_feesOnShelves_18 rfl (lv_at hl 1 rfl) ?_
          refine lv_aload_n hx hb dX1_feesOnShelves_19 rfl (lv_at hl 2 rfl) ?_
          refine lv_iload_n hx hb dX1_feesOnShelves_20 rfl (lv_at hl 0 rfl) ?_
          refine lv_iconst (v := 0) hx hb dX1_feesOnShelves_21 (by decide +kernel) ?_
          refine kz_rdV (As := [.int (nI i), .int 0]) (rest := [.int x]) (b := a 0) ⟨hx, hb, hml, hown, hts⟩ (c_X1_feeAfter l G a S i 0 (by omega)) (cwV 2 hts gX1_feesOnShelves_X1_feeAfter rfl rfl rfl (by decide +kernel) ⟨Nat.le_of_ble_eq_true rfl, Nat.le_of_ble_eq_true rfl⟩) hK hP (kz_recv hK hP (ci := 1) (q0 := 0) rfl rfl) rfl hl.1 rfl (Nat.le_of_ble_eq_true rfl) dX1_feesOnShelves_22 ⟨Nat.le_of_ble_eq_true rfl, Nat.le_of_ble_eq_true rfl⟩ ?_
          refine lv_iadd hx hb dX1_feesOnShelves_25 ?_
          refine lv_istore_n (lv' := [(1, .int (x + (X1_feeAfter_r S i 0))), (2, .int (nI i)), (0, .ref (a 0))]) hx hb dX1_feesOnShelves_26 rfl hl (by decide) rfl (fun ls hl => ?_)
          refine lv_iinc (v := (nI (i + 1))) (lv' := [(2, .int (nI (i + 1))), (1, .int (x + (X1_feeAfter_r S i 0))), (0, .ref (a 0))]) hx hb dX1_feesOnShelves_27 hl (k := 1) rfl (nI_1 _) (by decide) rfl (fun ls hl => ?_)
          refine lv_goto (tgt := 4) hx hb dX1_feesOnShelves_30 (by decide) ?_
          exact ih4_2 (i + 1) (x + (X1_feeAfter_r S i 0)) (by omega) (by omega) (by rw [hx0]; exact kz_sp_t (P := fun j => ¬ X1_isFree_p S j) (f := fun j => X1_feeAfter_r S j 0) c_6) ls (lv_sub hl [0, 1, 2] rfl)
  exact L4_1 _ 0 0 (Nat.lt_succ_self _) (by omega) rfl ls (lv_sub hl [0, 1, 2] rfl)
abbrev X1_isKeptTooLong_p (S : kz_S) (j : Nat) : Prop := (¬ (((S 5) j) = 0) ∧ (¬ (((S 1 0) - ((S 8) j)) ≤ ((S 0) 3))))
set_option maxHeartbeats 4000000 in
set_option maxRecDepth 100000 in
theorem c_X1_isKeptTooLong (l : Launch) (G : kz_G) (a : Nat → Nat) (S : kz_S) (j : Nat) (hj : j < 48) : kz_rd l G yX1_isKeptTooLong wsX1_isKeptTooLong 0 0 [.ref (a 0), .int (nI j)] [shW G a S] (if X1_isKeptTooLong_p S j then 1 else 0) := by
  refine Met.ofW (cc := cX1_isKeptTooLong) (maxL := 2) (ret := (some .boolean)) (by decide) rfl ?_
  intro p e s m args below meth c s₁ B hml hv
  obtain ⟨rfl, hP, hK⟩ := hv
  have hx := B.exec
  have hb := B.bytes
  have hr := B.returns
  have hts := atoms_spec (ws := wsX1_isKeptTooLong) B.pre
  have hown : s.vm.findClass RX1 = some m.cls := findClass_of_methodNamed B.named
  have hlocks := B.notSynchronized
  have hinX1 : ∀ w ∈ u_ws RX1 TX1 14, w ∈ wsX1_isKeptTooLong := by decide +kernel
  have hl := lv_entry ([.ref (a 0), .int (nI j)]) (n := 2) (Nat.le_of_ble_eq_true rfl)
  rw [lg_entry_eq]
  generalize (lg_sl ([.ref (a 0), .int (nI j)]) ++ List.replicate (2 - (lg_sl ([.ref (a 0), .int (nI j)])).length) Slot.unset).toArray = ls at hl ⊢
  have hl : lv_has ls 2 [(0, .ref (a 0)), (1, .int (nI j))] := hl
  refine kz_start (fun QQ hQ => ?_)
  refine lv_aload_n hx hb dX1_isKeptTooLong_0 rfl (lv_at hl 0 rfl) ?_
  refine va_get (D := G.1) (ci := 1) (v := .ref (a 2)) (C := RX1) (T := TX1) (N := 14) hx hb hts hinX1 hown hK.1 hP 0 rfl rfl 5 (by decide) (hts (.fieldLink RX1 15 "ParcelShelves$Shop" "weekdays" "[I") (by decide +kernel)) (fun _ h9 => h9) rfl dX1_isKeptTooLong_1 ?_
  refine lv_iload_n hx hb dX1_isKeptTooLong_4 rfl (lv_at hl 1 rfl) ?_
  refine va_iald (f := (S 5)) hx hb hK.1 hP 2 0 rfl rfl (vp_in_nI (n := j) (N := 48) (by omega) (by decide)) dX1_isKeptTooLong_5 ?_
  refine lv_topi (fun y_1 ey_2 => ?_)
  obtain rfl : y_1 = ((S 5) j) := by rw [ey_2, kz_nI_clamp (n := j) (by omega)]
  refine lv_if_eq (tgt := 33) hx hb dX1_isKeptTooLong_6 (by decide) (fun c_3 => ?_) (fun c_3 => ?_)
  · refine lv_iconst (v := 0) hx hb dX1_isKeptTooLong_33 (by decide +kernel) ?_
    subst hQ
    exact W.zret (v := 0) hx hb hr (by decide +kernel) (fun t ht _ => ⟨0, rfl, ((if_neg (fun h => h.1 c_3)).symm), ht⟩) (fun _ h9 => absurd h9 List.not_mem_nil) dX1_isKeptTooLong_34
  · refine lv_aload_n hx hb dX1_isKeptTooLong_9 rfl (lv_at hl 0 rfl) ?_
    refine va_get (D := G.1) (ci := 1) (v := .int (S 1 0)) (C := RX1) (T := TX1) (N := 14) hx hb hts hinX1 hown hK.1 hP 0 rfl rfl 1 (by decide) (hts (.fieldLink RX1 57 "ParcelShelves$Shop" "today" "I") (by decide +kernel)) (fun _ h9 => h9) rfl dX1_isKeptTooLong_10 ?_
    refine lv_aload_n hx hb dX1_isKeptTooLong_13 rfl (lv_at hl 0 rfl) ?_
    refine va_get (D := G.1) (ci := 1) (v := .ref (a 5)) (C := RX1) (T := TX1) (N := 14) hx hb hts hinX1 hown hK.1 hP 0 rfl rfl 8 (by decide) (hts (.fieldLink RX1 24 "ParcelShelves$Shop" "cameOn" "[I") (by decide +kernel)) (fun _ h9 => h9) rfl dX1_isKeptTooLong_14 ?_
    refine lv_iload_n hx hb dX1_isKeptTooLong_17 rfl (lv_at hl 1 rfl) ?_
    refine va_iald (f := (S 8)) hx hb hK.1 hP 5 0 rfl rfl (vp_in_nI (n := j) (N := 48) (by omega) (by decide)) dX1_isKeptTooLong_18 ?_
    refine lv_topi (fun y_4 ey_5 => ?_)
    obtain rfl : y_4 = ((S 8) j) := by rw [ey_5, kz_nI_clamp (n := j) (by omega)]
    refine lv_isub hx hb dX1_isKeptTooLong_19 ?_
    refine lv_aload_n hx hb dX1_isKeptTooLong_20 rfl (lv_at hl 0 rfl) ?_
    refine va_get (D := G.1) (ci := 1) (v := .ref (a 1)) (C := RX1) (T := TX1) (N := 14) hx hb hts hinX1 hown hK.1 hP 0 rfl rfl 0 (by decide) (hts (.fieldLink RX1 9 "ParcelShelves$Shop" "settings" "[I") (by decide +kernel)) (fun _ h9 => h9) rfl dX1_isKeptTooLong_21 ?_
    refine lv_iconst (v := 3) hx hb dX1_isKeptTooLong_24 (by decide +kernel) ?_
    refine va_iald (f := (S 0)) hx hb hK.1 hP 1 0 rfl rfl (vp_in_nI (n := 3) (N := 5) (by decide) (by decide)) dX1_isKeptTooLong_25 ?_
    refine lv_topi (fun y_6 ey_7 => ?_)
    obtain rfl : y_6 = ((S 0) 3) := by rw [ey_7]; rfl
    refine lv_icmp_le (tgt := 33) hx hb dX1_isKeptTooLong_26 (by decide) (fun c_8 => ?_) (fun c_8 => ?_)
    · refine lv_iconst (v := 0) hx hb dX1_isKeptTooLong_33 (by decide +kernel) ?_
      subst hQ
      exact W.zret (v := 0) hx hb hr (by decide +kernel) (fun t ht _ => ⟨0, rfl, ((if_neg (fun h => (fun h => h c_8) h.2)).symm), ht⟩) (fun _ h9 => absurd h9 List.not_mem_nil) dX1_isKeptTooLong_34
    · refine lv_iconst (v := 1) hx hb dX1_isKeptTooLong_29 (by decide +kernel) ?_
      refine lv_goto (tgt := 34) hx hb dX1_isKeptTooLong_30 (by decide) ?_
      subst hQ
      exact W.zret (v := 1) hx hb hr (by decide +kernel) (fun t ht _ => ⟨1, rfl, ((if_pos ⟨c_3, c_8⟩).symm), ht⟩) (fun _ h9 => absurd h9 List.not_mem_nil) dX1_isKeptTooLong_34
