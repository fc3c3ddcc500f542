def kz_J (S : kz_S) : Prop := (∀ j, j < 48 → ∃ w, w < 8 ∧ S 5 j = nI w) ∧ (∀ j, j < 48 → ∃ q, q < 10 ∧ S 6 j = nI q)
theorem kz_arrEq {cA : ClassId} {n : Nat} {f g : Nat → Value} (h : ∀ j, j < n → f j = g j) : arrV cA n f = arrV cA n g := by
  have e : (fun j : Fin n => f j.val) = (fun j : Fin n => g j.val) := funext fun j => h j.val j.isLt
  unfold arrV
  rw [e]

def X1_put_s (S : kz_S) (j : Nat) (sd : Int32) (sz : Int32) (dc : Int32) : kz_S := (va_up (va_up (va_up (va_up S 5 (upd (S 5) j (X3_weekdayOf_r (S 1 0)))) 6 (upd (S 6) j sd)) 7 (upd (S 7) j sz)) 8 (upd (S 8) j dc))
set_option maxHeartbeats 4000000 in
set_option maxRecDepth 100000 in
theorem c_X1_put (l : Launch) (G : kz_G) (a : Nat → Nat) (S : kz_S) (j : Nat) (sd : Int32) (sz : Int32) (dc : Int32) (hj : j < 48) : kz_mv l G yX1_put wsX1_put 1 20 [.ref (a 0), .int (nI j), .int sd, .int sz, .int dc] [shW G a S] [shW G a (X1_put_s S j sd sz dc)] := by
  intro sz
  refine Met.ofW (cc := cX1_put) (maxL := 5) (ret := none) (by decide) rfl ?_
  intro p e s m args below meth c s₁ B hml hv
  obtain ⟨rfl, hsz, hP, hK, hD0⟩ := hv
  have hx := B.exec
  have hb := B.bytes
  have hr := B.returns
  have hts := atoms_spec (ws := wsX1_put) B.pre
  have hown : s.vm.findClass RX1 = some m.cls := findClass_of_methodNamed B.named
  have hlocks := B.notSynchronized
  have hinX1 : ∀ w ∈ u_ws RX1 TX1 14, w ∈ wsX1_put := by decide +kernel
  subst hsz
  have hD := hD0.self (sz := s.heap.size)
  generalize hAe : kz_A [shW G a S] s.heap.size = A at hD ⊢
  have hA : ∀ q : Nat, s.heap.size ≤ q → A q := fun q h => by rw [← hAe]; exact Or.inr h
  have hS : va_S A s.heap s.heap [] := va_S.rf
  have hl := lv_entry ([.ref (a 0), .int (nI j), .int sd, .int sz, .int dc]) (n := 5) (Nat.le_of_ble_eq_true rfl)
  rw [lg_entry_eq]
  generalize (lg_sl ([.ref (a 0), .int (nI j), .int sd, .int sz, .int dc]) ++ List.replicate (5 - (lg_sl ([.ref (a 0), .int (nI j), .int sd, .int sz, .int dc])).length) Slot.unset).toArray = ls at hl ⊢
  have hl : lv_has ls 5 [(0, .ref (a 0)), (1, .int (nI j)), (2, .int sd), (3, .int sz), (4, .int dc)] := hl
  refine kz_start (fun QQ hQ => ?_)
  have hP : kz_P G [shW G a S] s.heap := hP
  refine lv_aload_n hx hb dX1_put_0 rfl (lv_at hl 0 rfl) ?_
  refine va_get (D := G.1) (ci := 1) (v := .ref (a 2)) (C := RX1) (T := TX1) (N := 14) hx hb hts hinX1 hown hK.1 hP 0 rfl rfl 5 (by decide) (hts (.fieldLink RX1 15 "ParcelShelves$Shop" "weekdays" "[I") (by decide +kernel)) (fun _ h9 => h9) rfl dX1_put_1 ?_
  refine lv_iload_n hx hb dX1_put_4 rfl (lv_at hl 1 rfl) ?_
  refine lv_aload_n hx hb dX1_put_5 rfl (lv_at hl 0 rfl) ?_
  refine va_get (D := G.1) (ci := 1) (v := .int (S 1 0)) (C := RX1) (T := TX1) (N := 14) hx hb hts hinX1 hown hK.1 hP 0 rfl rfl 1 (by decide) (hts (.fieldLink RX1 57 "ParcelShelves$Shop" "today" "I") (by decide +kernel)) (fun _ h9 => h9) rfl dX1_put_6 ?_
  refine kz_rdSN (As := [.int (S 1 0)]) (rest := [.int (nI j), .ref (a 2)]) ⟨hx, hb, hml, hown, hts⟩ (c_X3_weekdayOf l G (S 1 0)) ⟨va_cnB 1 hts gX1_put_X3_weekdayOf_n74 rfl rfl rfl hK.2.1 (hts (.initialized RX3) (by decide +kernel)) (by decide +kernel) ⟨Nat.le_of_ble_eq_true rfl, Nat.le_of_ble_eq_true rfl⟩, hts (.static yX3_weekdayOf) (by decide +kernel), trivial⟩ hK (hP.sub (cs := []) [] rfl) rfl hl.1 rfl (Nat.le_of_ble_eq_true rfl) dX1_put_9 ⟨Nat.le_of_ble_eq_true rfl, Nat.le_of_ble_eq_true rfl⟩ ?_
  refine va_iast hx hb hK.1 hP hD hS 2 0 rfl rfl (vp_in_nI (n := j) (N := 48) (by omega) (by decide)) dX1_put_12 (fun H locs hP hD hS => ?_)
  rw [kz_nI_clamp (n := j) (by omega)] at hP hD
  have hP : kz_P G [shW G a (va_up S 5 (upd (S 5) j (X3_weekdayOf_r (S 1 0))))] H := hP
  have hD : kz_D A [shW G a (va_up S 5 (upd (S 5) j (X3_weekdayOf_r (S 1 0))))] := hD
  refine lv_aload_n hx hb dX1_put_13 rfl (lv_at hl 0 rfl) ?_
  refine va_get (D := G.1) (ci := 1) (v := .ref (a 3)) (C := RX1) (T := TX1) (N := 14) hx hb hts hinX1 hown hK.1 hP 0 rfl rfl 6 (by decide) (hts (.fieldLink RX1 18 "ParcelShelves$Shop" "senders" "[I") (by decide +kernel)) (fun _ h9 => h9) rfl dX1_put_14 ?_
  refine lv_iload_n hx hb dX1_put_17 rfl (lv_at hl 1 rfl) ?_
  refine lv_iload_n hx hb dX1_put_18 rfl (lv_at hl 2 rfl) ?_
  refine va_iast hx hb hK.1 hP hD hS 3 0 rfl rfl (vp_in_nI (n := j) (N := 48) (by omega) (by decide)) dX1_put_19 (fun H locs hP hD hS => ?_)
  rw [kz_nI_clamp (n := j) (by omega)] at hP hD
  have hP : kz_P G [shW G a (va_up (va_up S 5 (upd (S 5) j (X3_weekdayOf_r (S 1 0)))) 6 (upd (S 6) j sd))] H := hP
  have hD : kz_D A [shW G a (va_up (va_up S 5 (upd (S 5) j (X3_weekdayOf_r (S 1 0)))) 6 (upd (S 6) j sd))] := hD
  refine lv_aload_n hx hb dX1_put_20 rfl (lv_at hl 0 rfl) ?_
  refine va_get (D := G.1) (ci := 1) (v := .ref (a 4)) (C := RX1) (T := TX1) (N := 14) hx hb hts hinX1 hown hK.1 hP 0 rfl rfl 7 (by decide) (hts (.fieldLink RX1 21 "ParcelShelves$Shop" "sizes" "[I") (by decide +kernel)) (fun _ h9 => h9) rfl dX1_put_21 ?_
  refine lv_iload_n hx hb dX1_put_24 rfl (lv_at hl 1 rfl) ?_
  refine lv_iload_n hx hb dX1_put_25 rfl (lv_at hl 3 rfl) ?_
  refine va_iast hx hb hK.1 hP hD hS 4 0 rfl rfl (vp_in_nI (n := j) (N := 48) (by omega) (by decide)) dX1_put_26 (fun H locs hP hD hS => ?_)
  rw [kz_nI_clamp (n := j) (by omega)] at hP hD
  have hP : kz_P G [shW G a (va_up (va_up (va_up S 5 (upd (S 5) j (X3_weekdayOf_r (S 1 0)))) 6 (upd (S 6) j sd)) 7 (upd (S 7) j sz))] H := hP
  have hD : kz_D A [shW G a (va_up (va_up (va_up S 5 (upd (S 5) j (X3_weekdayOf_r (S 1 0)))) 6 (upd (S 6) j sd)) 7 (upd (S 7) j sz))] := hD
  refine lv_aload_n hx hb dX1_put_27 rfl (lv_at hl 0 rfl) ?_
  refine va_get (D := G.1) (ci := 1) (v := .ref (a 5)) (C := RX1) (T := TX1) (N := 14) hx hb hts hinX1 hown hK.1 hP 0 rfl rfl 8 (by decide) (hts (.fieldLink RX1 24 "ParcelShelves$Shop" "cameOn" "[I") (by decide +kernel)) (fun _ h9 => h9) rfl dX1_put_28 ?_
  refine lv_iload_n hx hb dX1_put_31 rfl (lv_at hl 1 rfl) ?_
  refine lv_iload hx hb dX1_put_32 (lv_at hl 4 rfl) ?_
  refine va_iast hx hb hK.1 hP hD hS 5 0 rfl rfl (vp_in_nI (n := j) (N := 48) (by omega) (by decide)) dX1_put_34 (fun H locs hP hD hS => ?_)
  rw [kz_nI_clamp (n := j) (by omega)] at hP hD
  have hP : kz_P G [shW G a (va_up (va_up (va_up (va_up S 5 (upd (S 5) j (X3_weekdayOf_r (S 1 0)))) 6 (upd (S 6) j sd)) 7 (upd (S 7) j sz)) 8 (upd (S 8) j dc))] H := hP
  have hD : kz_D A [shW G a (va_up (va_up (va_up (va_up S 5 (upd (S 5) j (X3_weekdayOf_r (S 1 0)))) 6 (upd (S 6) j sd)) 7 (upd (S 7) j sz)) 8 (upd (S 8) j dc))] := hD
  subst hQ
  have hP9 : kz_P G [shW G a (X1_put_s S j sd sz dc)] H := hP
  have hD9 : kz_D A [shW G a (X1_put_s S j sd sz dc)] := hD
  exact W.vret hx hb hr (fun t ht hW => ⟨⟨(), rfl, trivial, by rw [ht]; exact hP9, hD9⟩, hS.F ht⟩) hS.2.2 dX1_put_35
def X1_leave_s (S : kz_S) (j : Nat) : kz_S := if ((S 5) j) = 0 then S else (va_up (va_up S 9 (upd (S 9) ((X3_indexFor_r ((S 5) j) (nI j)).toNatClampNeg) (S 1 0))) 5 (upd (S 5) j 0))
set_option maxHeartbeats 4000000 in
set_option maxRecDepth 100000 in
theorem c_X1_leave (l : Launch) (G : kz_G) (a : Nat → Nat) (S : kz_S) (j : Nat) (hj : j < 48) (hw : ∃ w, w < 8 ∧ S 5 j = nI w) : kz_mv l G yX1_leave wsX1_leave 1 21 [.ref (a 0), .int (nI j)] [shW G a S] [shW G a (X1_leave_s S j)] := by
  intro sz
  refine Met.ofW (cc := cX1_leave) (maxL := 2) (ret := none) (by decide) rfl ?_
  intro p e s m args below meth c s₁ B hml hv
  obtain ⟨rfl, hsz, hP, hK, hD0⟩ := hv
  have hx := B.exec
  have hb := B.bytes
  have hr := B.returns
  have hts := atoms_spec (ws := wsX1_leave) B.pre
  have hown : s.vm.findClass RX1 = some m.cls := findClass_of_methodNamed B.named
  have hlocks := B.notSynchronized
  have hinX1 : ∀ w ∈ u_ws RX1 TX1 14, w ∈ wsX1_leave := by decide +kernel
  subst hsz
  have hD := hD0.self (sz := s.heap.size)
  generalize hAe : kz_A [shW G a S] s.heap.size = A at hD ⊢
  have hA : ∀ q : Nat, s.heap.size ≤ q → A q := fun q h => by rw [← hAe]; exact Or.inr h
  have hS : va_S A s.heap s.heap [] := va_S.rf
  have hl := lv_entry ([.ref (a 0), .int (nI j)]) (n := 2) (Nat.le_of_ble_eq_true rfl)
  rw [lg_entry_eq]
  generalize (lg_sl ([.ref (a 0), .int (nI j)]) ++ List.replicate (2 - (lg_sl ([.ref (a 0), .int (nI j)])).length) Slot.unset).toArray = ls at hl ⊢
  have hl : lv_has ls 2 [(0, .ref (a 0)), (1, .int (nI j))] := hl
  refine kz_start (fun QQ hQ => ?_)
  have hP : kz_P G [shW G a S] s.heap := hP
  refine lv_aload_n hx hb dX1_leave_0 rfl (lv_at hl 0 rfl) ?_
  refine va_get (D := G.1) (ci := 1) (v := .ref (a 2)) (C := RX1) (T := TX1) (N := 14) hx hb hts hinX1 hown hK.1 hP 0 rfl rfl 5 (by decide) (hts (.fieldLink RX1 15 "ParcelShelves$Shop" "weekdays" "[I") (by decide +kernel)) (fun _ h9 => h9) rfl dX1_leave_1 ?_
  refine lv_iload_n hx hb dX1_leave_4 rfl (lv_at hl 1 rfl) ?_
  refine va_iald (f := (S 5)) hx hb hK.1 hP 2 0 rfl rfl (vp_in_nI (n := j) (N := 48) (by omega) (by decide)) dX1_leave_5 ?_
  refine lv_topi (fun y_1 ey_2 => ?_)
  obtain rfl : y_1 = ((S 5) j) := by rw [ey_2, kz_nI_clamp (n := j) (by omega)]
  refine lv_if_eq (tgt := 35) hx hb dX1_leave_6 (by decide) (fun c_3 => ?_) (fun c_3 => ?_)
  · subst hQ
    have hP9 : kz_P G [shW G a (X1_leave_s S j)] s.heap := by rw [X1_leave_s, if_pos c_3]; exact hP
    have hD9 : kz_D A [shW G a (X1_leave_s S j)] := by rw [X1_leave_s, if_pos c_3]; exact hD
    exact W.vret hx hb hr (fun t ht hW => ⟨⟨(), rfl, trivial, by rw [ht]; exact hP9, hD9⟩, hS.F ht⟩) hS.2.2 dX1_leave_35
  · refine lv_aload_n hx hb dX1_leave_9 rfl (lv_at hl 0 rfl) ?_
    refine va_get (D := G.1) (ci := 1) (v := .ref (a 6)) (C := RX1) (T := TX1) (N := 14) hx hb hts hinX1 hown hK.1 hP 0 rfl rfl 9 (by decide) (hts (.fieldLink RX1 27 "ParcelShelves$Shop" "leftOn" "[I") (by decide +kernel)) (fun _ h9 => h9) rfl dX1_leave_10 ?_
    refine lv_aload_n hx hb dX1_leave_13 rfl (lv_at hl 0 rfl) ?_
    refine va_get (D := G.1) (ci := 1) (v := .ref (a 2)) (C := RX1) (T := TX1) (N := 14) hx hb hts hinX1 hown hK.1 hP 0 rfl rfl 5 (by decide) (hts (.fieldLink RX1 15 "ParcelShelves$Shop" "weekdays" "[I") (by decide +kernel)) (fun _ h9 => h9) rfl dX1_leave_14 ?_
    refine lv_iload_n hx hb dX1_leave_17 rfl (lv_at hl 1 rfl) ?_
    refine va_iald (f := (S 5)) hx hb hK.1 hP 2 0 rfl rfl (vp_in_nI (n := j) (N := 48) (by omega) (by decide)) dX1_leave_18 ?_
    refine lv_topi (fun y_4 ey_5 => ?_)
    obtain rfl : y_4 = ((S 5) j) := by rw [ey_5, kz_nI_clamp (n := j) (by omega)]
    refine lv_iload_n hx hb dX1_leave_19 rfl (lv_at hl 1 rfl) ?_
    refine kz_rdSN (As := [.int ((S 5) j), .int (nI j)]) (rest := [.ref (a 6)]) ⟨hx, hb, hml, hown, hts⟩ (c_X3_indexFor l G ((S 5) j) (nI j)) ⟨va_cnB 2 hts gX1_leave_X3_indexFor_n78 rfl rfl rfl hK.2.2.1 (hts (.initialized RX3) (by decide +kernel)) (by decide +kernel) ⟨Nat.le_of_ble_eq_true rfl, Nat.le_of_ble_eq_true rfl⟩, hts (.static yX3_indexFor) (by decide +kernel), trivial⟩ hK (hP.sub (cs := []) [] rfl) rfl hl.1 rfl (Nat.le_of_ble_eq_true rfl) dX1_leave_20 ⟨Nat.le_of_ble_eq_true rfl, Nat.le_of_ble_eq_true rfl⟩ ?_
    refine lv_aload_n hx hb dX1_leave_23 rfl (lv_at hl 0 rfl) ?_
    refine va_get (D := G.1) (ci := 1) (v := .int (S 1 0)) (C := RX1) (T := TX1) (N := 14) hx hb hts hinX1 hown hK.1 hP 0 rfl rfl 1 (by decide) (hts (.fieldLink RX1 57 "ParcelShelves$Shop" "today" "I") (by decide +kernel)) (fun _ h9 => h9) rfl dX1_leave_24 ?_
    refine va_iast hx hb hK.1 hP hD hS 6 0 rfl rfl (kz_lvIn hw hj c_3) dX1_leave_27 (fun H locs hP hD hS => ?_)
    have hP : kz_P G [shW G a (va_up S 9 (upd (S 9) ((X3_indexFor_r ((S 5) j) (nI j)).toNatClampNeg) (S 1 0)))] H := hP
    have hD : kz_D A [shW G a (va_up S 9 (upd (S 9) ((X3_indexFor_r ((S 5) j) (nI j)).toNatClampNeg) (S 1 0)))] := hD
    refine lv_aload_n hx hb dX1_leave_28 rfl (lv_at hl 0 rfl) ?_
    refine va_get (D := G.1) (ci := 1) (v := .ref (a 2)) (C := RX1) (T := TX1) (N := 14) hx hb hts hinX1 hown hK.1 hP 0 rfl rfl 5 (by decide) (hts (.fieldLink RX1 15 "ParcelShelves$Shop" "weekdays" "[I") (by decide +kernel)) (fun _ h9 => h9) rfl dX1_leave_29 ?_
    refine lv_iload_n hx hb dX1_leave_32 rfl (lv_at hl 1 rfl) ?_
    refine lv_iconst (v := 0) hx hb dX1_leave_33 (by decide +kernel) ?_
    refine va_iast hx hb hK.1 hP hD hS 2 0 rfl rfl (vp_in_nI (n := j) (N := 48) (by omega) (by decide)) dX1_leave_34 (fun H locs hP hD hS => ?_)
    rw [kz_nI_clamp (n := j) (by omega)] at hP hD
    have hP : kz_P G [shW G a (va_up (va_up S 9 (upd (S 9) ((X3_indexFor_r ((S 5) j) (nI j)).toNatClampNeg) (S 1 0))) 5 (upd (S 5) j 0))] H := hP
    have hD : kz_D A [shW G a (va_up (va_up S 9 (upd (S 9) ((X3_indexFor_r ((S 5) j) (nI j)).toNatClampNeg) (S 1 0))) 5 (upd (S 5) j 0))] := hD
    subst hQ
    have hP9 : kz_P G [shW G a (X1_leave_s S j)] H := by rw [X1_leave_s, if_neg c_3]; exact hP
    have hD9 : kz_D A [shW G a (X1_leave_s S j)] := by rw [X1_leave_s, if_neg c_3]; exact hD
    exact W.vret hx hb hr (fun t ht hW => ⟨⟨(), rfl, trivial, by rw [ht]; exact hP9, hD9⟩, hS.F ht⟩) hS.2.2 dX1_leave_35
def X1_emptyBin_r (S : kz_S) (k : Nat) (rt : Int32) : Int32 := ((rt * ((S 0) 2)) * ((S 10) k))
def X1_emptyBin_s (S : kz_S) (k : Nat) (rt : Int32) : kz_S := (va_up (va_up (va_up S 11 (upd (S 11) k (((S 11) k) + ((rt * ((S 0) 2)) * ((S 10) k))))) 13 (upd (S 13) k (((S 13) k) + ((S 10) k)))) 10 (upd (S 10) k 0))
set_option maxHeartbeats 4000000 in
set_option maxRecDepth 100000 in
theorem c_X1_emptyBin (l : Launch) (G : kz_G) (a : Nat → Nat) (S : kz_S) (k : Nat) (rt : Int32) (hk : k < 10) : kz_mi l G yX1_emptyBin wsX1_emptyBin 0 0 [.ref (a 0), .int (nI k), .int rt] [shW G a S] [shW G a (X1_emptyBin_s S k rt)] (X1_emptyBin_r S k rt) := by
  intro sz
  refine Met.ofW (cc := cX1_emptyBin) (maxL := 4) (ret := (some .int)) (by decide) rfl ?_
  intro p e s m args below meth c s₁ B hml hv
  obtain ⟨rfl, hsz, hP, hK, hD0⟩ := hv
  have hx := B.exec
  have hb := B.bytes
  have hr := B.returns
  have hts := atoms_spec (ws := wsX1_emptyBin) B.pre
  have hown : s.vm.findClass RX1 = some m.cls := findClass_of_methodNamed B.named
  have hlocks := B.notSynchronized
  have hinX1 : ∀ w ∈ u_ws RX1 TX1 14, w ∈ wsX1_emptyBin := by decide +kernel
  subst hsz
  have hD := hD0.self (sz := s.heap.size)
  generalize hAe : kz_A [shW G a S] s.heap.size = A at hD ⊢
  have hA : ∀ q : Nat, s.heap.size ≤ q → A q := fun q h => by rw [← hAe]; exact Or.inr h
  have hS : va_S A s.heap s.heap [] := va_S.rf
  have hl := lv_entry ([.ref (a 0), .int (nI k), .int rt]) (n := 4) (Nat.le_of_ble_eq_true rfl)
  rw [lg_entry_eq]
  generalize (lg_sl ([.ref (a 0), .int (nI k), .int rt]) ++ List.replicate (4 - (lg_sl ([.ref (a 0), .int (nI k), .int rt])).length) Slot.unset).toArray = ls at hl ⊢
  have hl : lv_has ls 4 [(0, .ref (a 0)), (1, .int (nI k)), (2, .int rt)] := hl
  refine kz_start (fun QQ hQ => ?_)
  have hP : kz_P G [shW G a S] s.heap := hP
  refine lv_iload_n hx hb dX1_emptyBin_0 rfl (lv_at hl 2 rfl) ?_
  refine lv_aload_n hx hb dX1_emptyBin_1 rfl (lv_at hl 0 rfl) ?_
  refine va_get (D := G.1) (ci := 1) (v := .ref (a 1)) (C := RX1) (T := TX1) (N := 14) hx hb hts hinX1 hown hK.1 hP 0 rfl rfl 0 (by decide) (hts (.fieldLink RX1 9 "ParcelShelves$Shop" "settings" "[I") (by decide +kernel)) (fun _ h9 => h9) rfl dX1_emptyBin_2 ?_
  refine lv_iconst (v := 2) hx hb dX1_emptyBin_5 (by decide +kernel) ?_
  refine va_iald (f := (S 0)) hx hb hK.1 hP 1 0 rfl rfl (vp_in_nI (n := 2) (N := 5) (by decide) (by decide)) dX1_emptyBin_6 ?_
  refine lv_topi (fun y_1 ey_2 => ?_)
  obtain rfl : y_1 = ((S 0) 2) := by rw [ey_2]; rfl
  refine lv_imul hx hb dX1_emptyBin_7 ?_
  refine lv_aload_n hx hb dX1_emptyBin_8 rfl (lv_at hl 0 rfl) ?_
  refine va_get (D := G.1) (ci := 1) (v := .ref (a 7)) (C := RX1) (T := TX1) (N := 14) hx hb hts hinX1 hown hK.1 hP 0 rfl rfl 10 (by decide) (hts (.fieldLink RX1 30 "ParcelShelves$Shop" "bins" "[I") (by decide +kernel)) (fun _ h9 => h9) rfl dX1_emptyBin_9 ?_
  refine lv_iload_n hx hb dX1_emptyBin_12 rfl (lv_at hl 1 rfl) ?_
  refine va_iald (f := (S 10)) hx hb hK.1 hP 7 0 rfl rfl (vp_in_nI (n := k) (N := 10) (by omega) (by decide)) dX1_emptyBin_13 ?_
  refine lv_topi (fun y_3 ey_4 => ?_)
  obtain rfl : y_3 = ((S 10) k) := by rw [ey_4, kz_nI_clamp (n := k) (by omega)]
  refine lv_imul hx hb dX1_emptyBin_14 ?_
  refine lv_istore_n (lv' := [(3, .int ((rt * ((S 0) 2)) * ((S 10) k))), (0, .ref (a 0)), (1, .int (nI k)), (2, .int rt)]) hx hb dX1_emptyBin_15 rfl hl (by decide) rfl (fun ls hl => ?_)
  refine lv_aload_n hx hb dX1_emptyBin_16 rfl (lv_at hl 1 rfl) ?_
  refine va_get (D := G.1) (ci := 1) (v := .ref (a 8)) (C := RX1) (T := TX1) (N := 14) hx hb hts hinX1 hown hK.1 hP 0 rfl rfl 11 (by decide) (hts (.fieldLink RX1 33 "ParcelShelves$Shop" "charged" "[I") (by decide +kernel)) (fun _ h9 => h9) rfl dX1_emptyBin_17 ?_
  refine lv_iload_n hx hb dX1_emptyBin_20 rfl (lv_at hl 2 rfl) ?_
  refine lv_dup2_11 hx hb dX1_emptyBin_21 rfl rfl ?_
  refine va_iald (f := (S 11)) hx hb hK.1 hP 8 0 rfl rfl (vp_in_nI (n := k) (N := 10) (by omega) (by decide)) dX1_emptyBin_22 ?_
  refine lv_topi (fun y_5 ey_6 => ?_)
  obtain rfl : y_5 = ((S 11) k) := by rw [ey_6, kz_nI_clamp (n := k) (by omega)]
  refine lv_iload_n hx hb dX1_emptyBin_23 rfl (lv_at hl 0 rfl) ?_
  refine lv_iadd hx hb dX1_emptyBin_24 ?_
  refine va_iast hx hb hK.1 hP hD hS 8 0 rfl rfl (vp_in_nI (n := k) (N := 10) (by omega) (by decide)) dX1_emptyBin_25 (fun H locs hP hD hS => ?_)
  rw [kz_nI_clamp (n := k) (by omega)] at hP hD
  have hP : kz_P G [shW G a (va_up S 11 (upd (S 11) k (((S 11) k) + ((rt * ((S 0) 2)) * ((S 10) k)))))] H := hP
  have hD : kz_D A [shW G a (va_up S 11 (upd (S 11) k (((S 11) k) + ((rt * ((S 0) 2)) * ((S 10) k)))))] := hD
  refine lv_aload_n hx hb dX1_emptyBin_26 rfl (lv_at hl 1 rfl) ?_
  refine va_get (D := G.1) (ci := 1) (v := .ref (a 10)) (C := RX1) (T := TX1) (N := 14) hx hb hts hinX1 hown hK.1 hP 0 rfl rfl 13 (by decide) (hts (.fieldLink RX1 39 "ParcelShelves$Shop" "taken" "[I") (by decide +kernel)) (fun _ h9 => h9) rfl dX1_emptyBin_27 ?_
  refine lv_iload_n hx hb dX1_emptyBin_30 rfl (lv_at hl 2 rfl) ?_
  refine lv_dup2_11 hx hb dX1_emptyBin_31 rfl rfl ?_
  refine va_iald (f := (S 13)) hx hb hK.1 hP 10 0 rfl rfl (vp_in_nI (n := k) (N := 10) (by omega) (by decide)) dX1_emptyBin_32 ?_
  refine lv_topi (fun y_7 ey_8 => ?_)
  obtain rfl : y_7 = ((S 13) k) := by rw [ey_8, kz_nI_clamp (n := k) (by omega)]
  refine lv_aload_n hx hb dX1_emptyBin_33 rfl (lv_at hl 1 rfl) ?_
  refine va_get (D := G.1) (ci := 1) (v := .ref (a 7)) (C := RX1) (T := TX1) (N := 14) hx hb hts hinX1 hown hK.1 hP 0 rfl rfl 10 (by decide) (hts (.fieldLink RX1 30 "ParcelShelves$Shop" "bins" "[I") (by decide +kernel)) (fun _ h9 => h9) rfl dX1_emptyBin_34 ?_
  refine lv_iload_n hx hb dX1_emptyBin_37 rfl (lv_at hl 2 rfl) ?_
  refine va_iald (f := (S 10)) hx hb hK.1 hP 7 0 rfl rfl (vp_in_nI (n := k) (N := 10) (by omega) (by decide)) dX1_emptyBin_38 ?_
  refine lv_topi (fun y_9 ey_10 => ?_)
  obtain rfl : y_9 = ((S 10) k) := by rw [ey_10, kz_nI_clamp (n := k) (by omega)]
  refine lv_iadd hx hb dX1_emptyBin_39 ?_
  refine va_iast hx hb hK.1 hP hD hS 10 0 rfl rfl (vp_in_nI (n := k) (N := 10) (by omega) (by decide)) dX1_emptyBin_40 (fun H locs hP hD hS => ?_)
  rw [kz_nI_clamp (n := k) (by omega)] at hP hD
  have hP : kz_P G [shW G a (va_up (va_up S 11 (upd (S 11) k (((S 11) k) + ((rt * ((S 0) 2)) * ((S 10) k))))) 13 (upd (S 13) k (((S 13) k) + ((S 10) k))))] H := hP
  have hD : kz_D A [shW G a (va_up (va_up S 11 (upd (S 11) k (((S 11) k) + ((rt * ((S 0) 2)) * ((S 10) k))))) 13 (upd (S 13) k (((S 13) k) + ((S 10) k))))] := hD
  refine lv_aload_n hx hb dX1_emptyBin_41 rfl (lv_at hl 1 rfl) ?_
  refine va_get (D := G.1) (ci := 1) (v := .ref (a 7)) (C := RX1) (T := TX1) (N := 14) hx hb hts hinX1 hown hK.1 hP 0 rfl rfl 10 (by decide) (hts (.fieldLink RX1 30 "ParcelShelves$Shop" "bins" "[I") (by decide +kernel)) (fun _ h9 => h9) rfl dX1_emptyBin_42 ?_
  refine lv_iload_n hx hb dX1_emptyBin_45 rfl (lv_at hl 2 rfl) ?_
  refine lv_iconst (v := 0) hx hb dX1_emptyBin_46 (by decide +kernel) ?_
  refine va_iast hx hb hK.1 hP hD hS 7 0 rfl rfl (vp_in_nI (n := k) (N := 10) (by omega) (by decide)) dX1_emptyBin_47 (fun H locs hP hD hS => ?_)
  rw [kz_nI_clamp (n := k) (by omega)] at hP hD
  have hP : kz_P G [shW G a (va_up (va_up (va_up S 11 (upd (S 11) k (((S 11) k) + ((rt * ((S 0) 2)) * ((S 10) k))))) 13 (upd (S 13) k (((S 13) k) + ((S 10) k)))) 10 (upd (S 10) k 0))] H := hP
  have hD : kz_D A [shW G a (va_up (va_up (va_up S 11 (upd (S 11) k (((S 11) k) + ((rt * ((S 0) 2)) * ((S 10) k))))) 13 (upd (S 13) k (((S 13) k) + ((S 10) k)))) 10 (upd (S 10) k 0))] := hD
  refine lv_iload_n hx hb dX1_emptyBin_48 rfl (lv_at hl 0 rfl) ?_
  subst hQ
  have hP9 : kz_P G [shW G a (X1_emptyBin_s S k rt)] H := hP
  have hD9 : kz_D A [shW G a (X1_emptyBin_s S k rt)] := hD
  exact W.iret (v := ((rt * ((S 0) 2)) * ((S 10) k))) hx hb hr (fun t ht hW => ⟨⟨((rt * ((S 0) 2)) * ((S 10) k)), (), rfl, rfl, by rw [ht]; exact hP9, hD9⟩, hS.F ht⟩) hS.2.2 dX1_emptyBin_49
def X1_cstep (T : kz_S) (i : Nat) : kz_S := if T 10 i < T 0 4 then T else X1_emptyBin_s T i 4
def X1_cour (S : kz_S) : Nat → kz_S
  | 0 => S
  | n + 1 => X1_cstep (X1_cour S n) n
def X1_letCourierCome_s (S : kz_S) : kz_S := X1_cour S 10
theorem X1_cour_t {S T : kz_S} {i : Nat} (hT : T = X1_cour S i) (h : T 10 i < T 0 4) : T = X1_cour S (i + 1) := by
  rw [X1_cour, ← hT, X1_cstep, if_pos h]
theorem X1_cour_f {S T : kz_S} {i : Nat} (hT : T = X1_cour S i) (h : ¬ T 10 i < T 0 4) : X1_emptyBin_s T i 4 = X1_cour S (i + 1) := by
  rw [X1_cour, ← hT, X1_cstep, if_neg h]
set_option maxHeartbeats 4000000 in
set_option maxRecDepth 100000 in
theorem c_X1_letCourierCome (l : Launch) (G : kz_G) (a : Nat → Nat) (S : kz_S) : kz_mv l G yX1_letCourierCome wsX1_letCourierCome 1 23 [.ref (a 0)] [shW G a S] [shW G a (X1_letCourierCome_s S)] := by
  intro sz
  refine Met.ofW (cc := cX1_letCourierCome) (maxL := 2) (ret := none) (by decide) rfl ?_
  intro p e s m args below meth c s₁ B hml hv
  obtain ⟨rfl, hsz, hP, hK, hD0⟩ := hv
  have hx := B.exec
  have hb := B.bytes
  have hr := B.returns
  have hts := atoms_spec (ws := wsX1_letCourierCome) B.pre
  have hown : s.vm.findClass RX1 = some m.cls := findClass_of_methodNamed B.named
  have hlocks := B.notSynchronized
  have hinX1 : ∀ w ∈ u_ws RX1 TX1 14, w ∈ wsX1_letCourierCome := by decide +kernel
  subst hsz
  have hD := hD0.self (sz := s.heap.size)
  generalize hAe : kz_A [shW G a S] s.heap.size = A at hD ⊢
  have hA : ∀ q : Nat, s.heap.size ≤ q → A q := fun q h => by rw [← hAe]; exact Or.inr h
  have hS : va_S A s.heap s.heap [] := va_S.rf
  have hl := lv_entry ([.ref (a 0)]) (n := 2) (Nat.le_of_ble_eq_true rfl)
  rw [lg_entry_eq]
  generalize (lg_sl ([.ref (a 0)]) ++ List.replicate (2 - (lg_sl ([.ref (a 0)])).length) Slot.unset).toArray = ls at hl ⊢
  have hl : lv_has ls 2 [(0, .ref (a 0))] := hl
  refine kz_start (fun QQ hQ => ?_)
  have hP : kz_P G [shW G a S] s.heap := hP
  refine lv_iconst (v := 0) hx hb dX1_letCourierCome_0 (by decide +kernel) ?_
  refine lv_istore_n (lv' := [(1, .int 0), (0, .ref (a 0))]) hx hb dX1_letCourierCome_1 rfl hl (by decide) rfl (fun ls hl => ?_)
  have L2_1 : ∀ (n2 : Nat) (i : Nat) (T : kz_S), (10 - i < n2) → (i ≤ 10) → (T = X1_cour S i) → ∀ (H : Heap) (locs : List Loc), kz_P G [shW G a T] H → kz_D A [shW G a T] → va_S A s.heap H locs → ∀ ls : Array Slot, lv_has ls 2 [(1, .int (nI i)), (0, .ref (a 0))] → W p l e (headSpec wsX1_letCourierCome (kz_rm 1 23)).room s m ([.ref (a 0)] : List Value).toArray below meth c H locs 0 0 QQ (F0 m 2 ls []) := by
    intro n2
    induction n2 with
    | zero => intro i T h0; exact absurd h0 (Nat.not_lt_zero _)
    | succ n2 ih2_2 =>
      intro i T hmeas2 hi1 hT H locs hP hD hS ls hl
      refine lv_iload_n hx hb dX1_letCourierCome_2 rfl (lv_at hl 0 rfl) ?_
      refine lv_bipush (v := 10) hx hb dX1_letCourierCome_3 (by decide +kernel) ?_
      refine lv_icmp_ge (tgt := 36) hx hb dX1_letCourierCome_5 (by decide) (fun c_3 => ?_) (fun c_3 => ?_)
      · have hge := kz_le (a := 10) (b := i) c_3 (by omega) (by omega)
        subst hQ
        have hP9 : kz_P G [shW G a (X1_letCourierCome_s S)] H := by rw [X1_letCourierCome_s, show X1_cour S 10 = T from by rw [hT, show i = 10 by omega]]; exact hP
        have hD9 : kz_D A [shW G a (X1_letCourierCome_s S)] := by rw [X1_letCourierCome_s, show X1_cour S 10 = T from by rw [hT, show i = 10 by omega]]; exact hD
        exact W.vret hx hb hr (fun t ht hW => ⟨⟨(), rfl, trivial, by rw [ht]; exact hP9, hD9⟩, hS.F ht⟩) hS.2.2 dX1_letCourierCome_36
      · have hlt := kz_gt (a := 10) (b := i) c_3 (by omega) (by omega)
        refine lv_aload_n hx hb dX1_letCourierCome_8 rfl (lv_at hl 1 rfl) ?_
        refine va_get (D := G.1) (ci := 1) (v := .ref (a 7)) (C := RX1) (T := TX1) (N := 14) hx hb hts hinX1 hown hK.1 hP 0 rfl rfl 10 (by decide) (hts (.fieldLink RX1 30 "ParcelShelves$Shop" "bins" "[I") (by decide +kernel)) (fun _ h9 => h9) rfl dX1_letCourierCome_9 ?_
        refine lv_iload_n hx hb dX1_letCourierCome_12 rfl (lv_at hl 0 rfl) ?_
        refine va_iald (f := (T 10)) hx hb hK.1 hP 7 0 rfl rfl (vp_in_nI (n := i) (N := 10) (by omega) (by decide)) dX1_letCourierCome_13 ?_
        refine lv_topi (fun y_4 ey_5 => ?_)
        obtain rfl : y_4 = ((T 10) i) := by rw [ey_5, kz_nI_clamp (n := i) (by omega)]
        refine lv_aload_n hx hb dX1_letCourierCome_14 rfl (lv_at hl 1 rfl) ?_
        refine va_get (D := G.1) (ci := 1) (v := .ref (a 1)) (C := RX1) (T := TX1) (N := 14) hx hb hts hinX1 hown hK.1 hP 0 rfl rfl 0 (by decide) (hts (.fieldLink RX1 9 "ParcelShelves$Shop" "settings" "[I") (by decide +kernel)) (fun _ h9 => h9) rfl dX1_letCourierCome_15 ?_
        refine lv_iconst (v := 4) hx hb dX1_letCourierCome_18 (by decide +kernel) ?_
        refine va_iald (f := (T 0)) hx hb hK.1 hP 1 0 rfl rfl (vp_in_nI (n := 4) (N := 5) (by decide) (by decide)) dX1_letCourierCome_19 ?_
        refine lv_topi (fun y_6 ey_7 => ?_)
        obtain rfl : y_6 = ((T 0) 4) := by rw [ey_7]; rfl
        refine lv_icmp_lt (tgt := 30) hx hb dX1_letCourierCome_20 (by decide) (fun c_8 => ?_) (fun c_8 => ?_)
        · refine lv_iinc (v := (nI (i + 1))) (lv' := [(1, .int (nI (i + 1))), (0, .ref (a 0))]) hx hb dX1_letCourierCome_30 hl (k := 0) rfl (nI_1 _) (by decide) rfl (fun ls hl => ?_)
          refine lv_goto (tgt := 2) hx hb dX1_letCourierCome_33 (by decide) ?_
          exact ih2_2 (i + 1) T (by omega) (by omega) (X1_cour_t hT c_8) H locs hP hD hS ls (lv_sub hl [0, 1] rfl)
        · refine lv_aload_n hx hb dX1_letCourierCome_23 rfl (lv_at hl 1 rfl) ?_
          refine lv_iload_n hx hb dX1_letCourierCome_24 rfl (lv_at hl 0 rfl) ?_
          refine lv_iconst (v := 4) hx hb dX1_letCourierCome_25 (by decide +kernel) ?_
          refine kz_miV (As := [.int (nI i), .int 4]) (rest := []) (b := a 0) (wr := []) (bs' := [shW G a (X1_emptyBin_s T i 4)]) ⟨hx, hb, hml, hown, hts⟩ (c_X1_emptyBin l G a T i 4 (by omega)) (cwV 2 hts gX1_letCourierCome_X1_emptyBin rfl rfl rfl (by decide +kernel) ⟨Nat.le_of_ble_eq_true rfl, Nat.le_of_ble_eq_true rfl⟩) hK hP hD hS hA [0] [] [0] rfl (by decide) rfl (by decide) (by decide) rfl (by decide) (kz_recv hK hP (ci := 1) (q0 := 0) rfl rfl) rfl hl.1 rfl (Nat.le_of_ble_eq_true rfl) dX1_letCourierCome_26 ⟨Nat.le_of_ble_eq_true rfl, Nat.le_of_ble_eq_true rfl⟩ (fun H locs hP hD hS => ?_)
          refine lv_pop hx hb dX1_letCourierCome_29 rfl ?_
          refine lv_iinc (v := (nI (i + 1))) (lv' := [(1, .int (nI (i + 1))), (0, .ref (a 0))]) hx hb dX1_letCourierCome_30 hl (k := 0) rfl (nI_1 _) (by decide) rfl (fun ls hl => ?_)
          refine lv_goto (tgt := 2) hx hb dX1_letCourierCome_33 (by decide) ?_
          exact ih2_2 (i + 1) (X1_emptyBin_s T i 4) (by omega) (by omega) (X1_cour_f hT c_8) H locs hP hD hS ls (lv_sub hl [0, 1] rfl)
  exact L2_1 _ 0 S (Nat.lt_succ_self _) (by omega) rfl s.heap [] hP hD hS ls (lv_sub hl [0, 1] rfl)
theorem kz_J_leave {S : kz_S} {j : Nat} (h : kz_J S) (hj : j < 48) : kz_J (X1_leave_s S j) := by
  rw [X1_leave_s]
  split
  · exact h
  · refine ⟨fun k hk => ?_, fun k hk => h.2 k hk⟩
    show ∃ w, w < 8 ∧ upd (S 5) j 0 k = nI w
    by_cases e : k = j
    · subst e; exact ⟨0, by omega, by rw [pk_us]; rfl⟩
    · rw [pk_un e]; exact h.1 k hk
theorem kz_q10 {x : Int32} (h : ∃ q, q < 10 ∧ x = nI q) : vp_in x 10 := by
  obtain ⟨q, hq, rfl⟩ := h
  exact vp_in_nI hq (by decide)
abbrev X1_goes_p (T : kz_S) (i : Nat) : Prop := X1_isKeptTooLong_p T i ∧ ¬ 9 ≤ T 10 (T 6 i).toNatClampNeg
def X1_rstep (T : kz_S) (x : Int32) (i : Nat) : kz_S × Int32 := if X1_goes_p T i then (X1_leave_s (va_up T 10 (upd (T 10) (T 6 i).toNatClampNeg (T 10 (T 6 i).toNatClampNeg + 1))) i, x + 1) else (T, x)
def X1_ret (S : kz_S) : Nat → kz_S × Int32
  | 0 => (S, 0)
  | n + 1 => X1_rstep (X1_ret S n).1 (X1_ret S n).2 n
def X1_returnParcelsKeptTooLong_s (S : kz_S) : kz_S := (X1_ret S 48).1
def X1_returnParcelsKeptTooLong_r (S : kz_S) : Int32 := (X1_ret S 48).2
theorem X1_ret_t {S T : kz_S} {x : Int32} {i : Nat} (hT : (T, x) = X1_ret S i) (h : X1_goes_p T i) : (X1_leave_s (va_up T 10 (upd (T 10) (T 6 i).toNatClampNeg (T 10 (T 6 i).toNatClampNeg + 1))) i, x + 1) = X1_ret S (i + 1) := by
  rw [X1_ret, ← hT]
  show _ = X1_rstep T x i
  rw [X1_rstep, if_pos h]
theorem X1_ret_f {S T : kz_S} {x : Int32} {i : Nat} (hT : (T, x) = X1_ret S i) (h : ¬ X1_goes_p T i) : (T, x) = X1_ret S (i + 1) := by
  rw [X1_ret, ← hT]
  show _ = X1_rstep T x i
  rw [X1_rstep, if_neg h]
set_option maxHeartbeats 4000000 in
set_option maxRecDepth 100000 in
theorem c_X1_returnParcelsKeptTooLong (l : Launch) (G : kz_G) (a : Nat → Nat) (S : kz_S) (hJ : kz_J S) : kz_mi l G yX1_returnParcelsKeptTooLong wsX1_returnParcelsKeptTooLong 2 42 [.ref (a 0)] [shW G a S] [shW G a (X1_returnParcelsKeptTooLong_s S)] (X1_returnParcelsKeptTooLong_r S) := by
  intro sz
  refine Met.ofW (cc := cX1_returnParcelsKeptTooLong) (maxL := 3) (ret := (some .int)) (by decide) rfl ?_
  intro p e s m args below meth c s₁ B hml hv
  obtain ⟨rfl, hsz, hP, hK, hD0⟩ := hv
  have hx := B.exec
  have hb := B.bytes
  have hr := B.returns
  have hts := atoms_spec (ws := wsX1_returnParcelsKeptTooLong) B.pre
  have hown : s.vm.findClass RX1 = some m.cls := findClass_of_methodNamed B.named
  have hlocks := B.notSynchronized
  have hinX1 : ∀ w ∈ u_ws RX1 TX1 14, w ∈ wsX1_returnParcelsKeptTooLong := by decide +kernel
  subst hsz
  have hD := hD0.self (sz := s.heap.size)
  generalize hAe : kz_A [shW G a S] s.heap.size = A at hD ⊢
  have hA : ∀ q : Nat, s.heap.size ≤ q → A q := fun q h => by rw [← hAe]; exact Or.inr h
  have hS : va_S A s.heap s.heap [] := va_S.rf
  have hl := lv_entry ([.ref (a 0)]) (n := 3) (Nat.le_of_ble_eq_true rfl)
  rw [lg_entry_eq]
  generalize (lg_sl ([.ref (a 0)]) ++ List.replicate (3 - (lg_sl ([.ref (a 0)])).length) Slot.unset).toArray = ls at hl ⊢
  have hl : lv_has ls 3 [(0, .ref (a 0))] := hl
  refine kz_start (fun QQ hQ => ?_)
  have hP : kz_P G [shW G a S] s.heap := hP
  refine lv_iconst (v := 0) hx hb dX1_returnParcelsKeptTooLong_0 (by decide +kernel) ?_
  refine lv_istore_n (lv' := [(1, .int 0), (0, .ref (a 0))]) hx hb dX1_returnParcelsKeptTooLong_1 rfl hl (by decide) rfl (fun ls hl => ?_)
  refine lv_iconst (v := 0) hx hb dX1_returnParcelsKeptTooLong_2 (by decide +kernel) ?_
  refine lv_istore_n (lv' := [(2, .int 0), (1, .int 0), (0, .ref (a 0))]) hx hb dX1_returnParcelsKeptTooLong_3 rfl hl (by decide) rfl (fun ls hl => ?_)
  have L4_1 : ∀ (n4 : Nat) (i : Nat) (T : kz_S) (x : Int32), (48 - i < n4) → (i ≤ 48) → ((T, x) = X1_ret S i) → (kz_J T) → ∀ (H : Heap) (locs : List Loc), kz_P G [shW G a T] H → kz_D A [shW G a T] → va_S A s.heap H locs → ∀ ls : Array Slot, lv_has ls 3 [(2, .int (nI i)), (1, .int x), (0, .ref (a 0))] → W p l e (headSpec wsX1_returnParcelsKeptTooLong (kz_rm 2 42)).room s m ([.ref (a 0)] : List Value).toArray below meth c H locs 0 0 QQ (F0 m 4 ls []) := by
    intro n4
    induction n4 with
    | zero => intro i T x h0; exact absurd h0 (Nat.not_lt_zero _)
    | succ n4 ih4_2 =>
      intro i T x hmeas4 hi1 hT hJT H locs hP hD hS ls hl
      refine lv_iload_n hx hb dX1_returnParcelsKeptTooLong_4 rfl (lv_at hl 0 rfl) ?_
      refine lv_bipush (v := 48) hx hb dX1_returnParcelsKeptTooLong_5 (by decide +kernel) ?_
      refine lv_icmp_ge (tgt := 63) hx hb dX1_returnParcelsKeptTooLong_7 (by decide) (fun c_3 => ?_) (fun c_3 => ?_)
      · have hge := kz_le (a := 48) (b := i) c_3 (by omega) (by omega)
        refine lv_iload_n hx hb dX1_returnParcelsKeptTooLong_63 rfl (lv_at hl 1 rfl) ?_
        subst hQ
        have hP9 : kz_P G [shW G a (X1_returnParcelsKeptTooLong_s S)] H := by obtain rfl : i = 48 := (by omega); rw [X1_returnParcelsKeptTooLong_s, ← hT]; exact hP
        have hD9 : kz_D A [shW G a (X1_returnParcelsKeptTooLong_s S)] := by obtain rfl : i = 48 := (by omega); rw [X1_returnParcelsKeptTooLong_s, ← hT]; exact hD
        exact W.iret (v := x) hx hb hr (fun t ht hW => ⟨⟨x, (), rfl, (by obtain rfl : i = 48 := (by omega); rw [X1_returnParcelsKeptTooLong_r, ← hT]), by rw [ht]; exact hP9, hD9⟩, hS.F ht⟩) hS.2.2 dX1_returnParcelsKeptTooLong_64
      · have hlt := kz_gt (a := 48) (b := i) c_3 (by omega) (by omega)
        refine lv_aload_n hx hb dX1_returnParcelsKeptTooLong_10 rfl (lv_at hl 2 rfl) ?_
        refine lv_iload_n hx hb dX1_returnParcelsKeptTooLong_11 rfl (lv_at hl 0 rfl) ?_
        refine kz_rdV (As := [.int (nI i)]) (rest := []) (b := a 0) ⟨hx, hb, hml, hown, hts⟩ (c_X1_isKeptTooLong l G a T i (by omega)) (cwV 1 hts gX1_returnParcelsKeptTooLong_X1_isKeptTooLong rfl rfl rfl (by decide +kernel) ⟨Nat.le_of_ble_eq_true rfl, Nat.le_of_ble_eq_true rfl⟩) hK hP (kz_recv hK hP (ci := 1) (q0 := 0) rfl rfl) rfl hl.1 rfl (Nat.le_of_ble_eq_true rfl) dX1_returnParcelsKeptTooLong_12 ⟨Nat.le_of_ble_eq_true rfl, Nat.le_of_ble_eq_true rfl⟩ ?_
        refine lv_topi (fun y_4 ey_5 => ?_)
        by_cases c_6 : X1_isKeptTooLong_p T i
        · rw [if_pos c_6] at ey_5
          subst ey_5
          refine lv_if_eq (tgt := 57) hx hb dX1_returnParcelsKeptTooLong_15 (by decide) (fun c => absurd c (by decide)) (fun _ => ?_)
          refine lv_aload_n hx hb dX1_returnParcelsKeptTooLong_18 rfl (lv_at hl 2 rfl) ?_
          refine va_get (D := G.1) (ci := 1) (v := .ref (a 7)) (C := RX1) (T := TX1) (N := 14) hx hb hts hinX1 hown hK.1 hP 0 rfl rfl 10 (by decide) (hts (.fieldLink RX1 30 "ParcelShelves$Shop" "bins" "[I") (by decide +kernel)) (fun _ h9 => h9) rfl dX1_returnParcelsKeptTooLong_19 ?_
          refine lv_aload_n hx hb dX1_returnParcelsKeptTooLong_22 rfl (lv_at hl 2 rfl) ?_
          refine va_get (D := G.1) (ci := 1) (v := .ref (a 3)) (C := RX1) (T := TX1) (N := 14) hx hb hts hinX1 hown hK.1 hP 0 rfl rfl 6 (by decide) (hts (.fieldLink RX1 18 "ParcelShelves$Shop" "senders" "[I") (by decide +kernel)) (fun _ h9 => h9) rfl dX1_returnParcelsKeptTooLong_23 ?_
          refine lv_iload_n hx hb dX1_returnParcelsKeptTooLong_26 rfl (lv_at hl 0 rfl) ?_
          refine va_iald (f := (T 6)) hx hb hK.1 hP 3 0 rfl rfl (vp_in_nI (n := i) (N := 48) (by omega) (by decide)) dX1_returnParcelsKeptTooLong_27 ?_
          refine lv_topi (fun y_7 ey_8 => ?_)
          obtain rfl : y_7 = ((T 6) i) := by rw [ey_8, kz_nI_clamp (n := i) (by omega)]
          refine va_iald (f := (T 10)) hx hb hK.1 hP 7 0 rfl rfl (kz_q10 (hJT.2 i hlt)) dX1_returnParcelsKeptTooLong_28 ?_
          refine lv_bipush (v := 9) hx hb dX1_returnParcelsKeptTooLong_29 (by decide +kernel) ?_
          refine lv_icmp_ge (tgt := 57) hx hb dX1_returnParcelsKeptTooLong_31 (by decide) (fun c_9 => ?_) (fun c_9 => ?_)
          · refine lv_iinc (v := (nI (i + 1))) (lv' := [(2, .int (nI (i + 1))), (1, .int x), (0, .ref (a 0))]) hx hb dX1_returnParcelsKeptTooLong_57 hl (k := 0) rfl (nI_1 _) (by decide) rfl (fun ls hl => ?_)
            refine lv_goto (tgt := 4) hx hb dX1_returnParcelsKeptTooLong_60 (by decide) ?_
            exact ih4_2 (i + 1) T x (by omega) (by omega) (X1_ret_f hT (fun h => h.2 c_9)) hJT H locs hP hD hS ls (lv_sub hl [0, 1, 2] rfl)
          · refine lv_aload_n hx hb dX1_returnParcelsKeptTooLong_34 rfl (lv_at hl 2 rfl) ?_
            refine va_get (D := G.1) (ci := 1) (v := .ref (a 7)) (C := RX1) (T := TX1) (N := 14) hx hb hts hinX1 hown hK.1 hP 0 rfl rfl 10 (by decide) (hts (.fieldLink RX1 30 "ParcelShelves$Shop" "bins" "[I") (by decide +kernel)) (fun _ h9 => h9) rfl dX1_returnParcelsKeptTooLong_35 ?_
            refine lv_aload_n hx hb dX1_returnParcelsKeptTooLong_38 rfl (lv_at hl 2 rfl) ?_
            refine va_get (D := G.1) (ci := 1) (v := .ref (a 3)) (C := RX1) (T := TX1) (N := 14) hx hb hts hinX1 hown hK.1 hP 0 rfl rfl 6 (by decide) (hts (.fieldLink RX1 18 "ParcelShelves$Shop" "senders" "[I") (by decide +kernel)) (fun _ h9 => h9) rfl dX1_returnParcelsKeptTooLong_39 ?_
            refine lv_iload_n hx hb dX1_returnParcelsKeptTooLong_42 rfl (lv_at hl 0 rfl) ?_
            refine va_iald (f := (T 6)) hx hb hK.1 hP 3 0 rfl rfl (vp_in_nI (n := i) (N := 48) (by omega) (by decide)) dX1_returnParcelsKeptTooLong_43 ?_
            refine lv_topi (fun y_10 ey_11 => ?_)
            obtain rfl : y_10 = ((T 6) i) := by rw [ey_11, kz_nI_clamp (n := i) (by omega)]
            refine lv_dup2_11 hx hb dX1_returnParcelsKeptTooLong_44 rfl rfl ?_
            refine va_iald (f := (T 10)) hx hb hK.1 hP 7 0 rfl rfl (kz_q10 (hJT.2 i hlt)) dX1_returnParcelsKeptTooLong_45 ?_
            refine lv_iconst (v := 1) hx hb dX1_returnParcelsKeptTooLong_46 (by decide +kernel) ?_
            refine lv_iadd hx hb dX1_returnParcelsKeptTooLong_47 ?_
            refine va_iast hx hb hK.1 hP hD hS 7 0 rfl rfl (kz_q10 (hJT.2 i hlt)) dX1_returnParcelsKeptTooLong_48 (fun H locs hP hD hS => ?_)
            have hP : kz_P G [shW G a (va_up T 10 (upd (T 10) (((T 6) i).toNatClampNeg) (((T 10) ((T 6) i).toNatClampNeg) + 1)))] H := hP
            have hD : kz_D A [shW G a (va_up T 10 (upd (T 10) (((T 6) i).toNatClampNeg) (((T 10) ((T 6) i).toNatClampNeg) + 1)))] := hD
            refine lv_aload_n hx hb dX1_returnParcelsKeptTooLong_49 rfl (lv_at hl 2 rfl) ?_
            refine lv_iload_n hx hb dX1_returnParcelsKeptTooLong_50 rfl (lv_at hl 0 rfl) ?_
            refine kz_mvV (As := [.int (nI i)]) (rest := []) (b := a 0) (wr := []) (bs' := [shW G a (X1_leave_s (va_up T 10 (upd (T 10) (((T 6) i).toNatClampNeg) (((T 10) ((T 6) i).toNatClampNeg) + 1))) i)]) ⟨hx, hb, hml, hown, hts⟩ (c_X1_leave l G a (va_up T 10 (upd (T 10) (((T 6) i).toNatClampNeg) (((T 10) ((T 6) i).toNatClampNeg) + 1))) i (by omega) (hJT.1 i hlt)) (cwV 1 hts gX1_returnParcelsKeptTooLong_X1_leave rfl rfl rfl (by decide +kernel) ⟨Nat.le_of_ble_eq_true rfl, Nat.le_of_ble_eq_true rfl⟩) hK hP hD hS hA [0] [] [0] rfl (by decide) rfl (by decide) (by decide) rfl (by decide) (kz_recv hK hP (ci := 1) (q0 := 0) rfl rfl) rfl hl.1 rfl (Nat.le_of_ble_eq_true rfl) dX1_returnParcelsKeptTooLong_51 ⟨Nat.le_of_ble_eq_true rfl, Nat.le_of_ble_eq_true rfl⟩ (fun H locs hP hD hS => ?_)
            refine lv_iinc (v := (x + 1)) (lv' := [(1, .int (x + 1)), (2, .int (nI i)), (0, .ref (a 0))]) hx hb dX1_returnParcelsKeptTooLong_54 hl (k := 1) rfl rfl (by decide) rfl (fun ls hl => ?_)
            refine lv_iinc (v := (nI (i + 1))) (lv' := [(2, .int (nI (i + 1))), (1, .int (x + 1)), (0, .ref (a 0))]) hx hb dX1_returnParcelsKeptTooLong_57 hl (k := 1) rfl (nI_1 _) (by decide) rfl (fun ls hl => ?_)
            refine lv_goto (tgt := 4) hx hb dX1_returnParcelsKeptTooLong_60 (by decide) ?_
            exact ih4_2 (i + 1) (X1_leave_s (va_up T 10 (upd (T 10) (((T 6) i).toNatClampNeg) (((T 10) ((T 6) i).toNatClampNeg) + 1))) i) (x + 1) (by omega) (by omega) (X1_ret_t hT ⟨c_6, c_9⟩) (kz_J_leave (S := va_up T 10 (upd (T 10) (T 6 i).toNatClampNeg (T 10 (T 6 i).toNatClampNeg + 1))) hJT hlt) H locs hP hD hS ls (lv_sub hl [0, 1, 2] rfl)
        · rw [if_neg c_6] at ey_5
          subst ey_5
          refine lv_if_eq (tgt := 57) hx hb dX1_returnParcelsKeptTooLong_15 (by decide) (fun _ => ?_) (fun c => absurd c (by decide))
          refine lv_iinc (v := (nI (i + 1))) (lv' := [(2, .int (nI (i + 1))), (1, .int x), (0, .ref (a 0))]) hx hb dX1_returnParcelsKeptTooLong_57 hl (k := 0) rfl (nI_1 _) (by decide) rfl (fun ls hl => ?_)
          refine lv_goto (tgt := 4) hx hb dX1_returnParcelsKeptTooLong_60 (by decide) ?_
          exact ih4_2 (i + 1) T x (by omega) (by omega) (X1_ret_f hT (fun h => c_6 h.1)) hJT H locs hP hD hS ls (lv_sub hl [0, 1, 2] rfl)
  exact L4_1 _ 0 S 0 (Nat.lt_succ_self _) (by omega) rfl hJ s.heap [] hP hD hS ls (lv_sub hl [0, 1, 2] rfl)
theorem kz_J_cour {S : kz_S} (h : kz_J S) : ∀ n, kz_J (X1_cour S n)
  | 0 => h
  | n + 1 => by
    rw [X1_cour, X1_cstep]
    split
    · exact kz_J_cour h n
    · exact kz_J_cour h n
theorem kz_J_ret {S : kz_S} (h : kz_J S) : ∀ n, n ≤ 48 → kz_J (X1_ret S n).1
  | 0, _ => h
  | n + 1, hn => by
    rw [X1_ret, X1_rstep]
    split
    · exact kz_J_leave (S := va_up (X1_ret S n).1 10 _) (kz_J_ret h n (by omega)) (by omega)
    · exact kz_J_ret h n (by omega)
def X1_beginDay_r (S : kz_S) : Int32 := if (kz_rem ((S 1 0) + 1) 3) = 0 then (X1_returnParcelsKeptTooLong_r (X1_letCourierCome_s (va_up (va_up S 1 (fun _ => ((S 1 0) + 1))) 2 (fun _ => 0)))) else (X1_returnParcelsKeptTooLong_r (va_up (va_up S 1 (fun _ => ((S 1 0) + 1))) 2 (fun _ => 0)))
def X1_beginDay_s (S : kz_S) : kz_S := if (kz_rem ((S 1 0) + 1) 3) = 0 then (X1_returnParcelsKeptTooLong_s (X1_letCourierCome_s (va_up (va_up S 1 (fun _ => ((S 1 0) + 1))) 2 (fun _ => 0)))) else (X1_returnParcelsKeptTooLong_s (va_up (va_up S 1 (fun _ => ((S 1 0) + 1))) 2 (fun _ => 0)))
set_option maxHeartbeats 4000000 in
set_option maxRecDepth 100000 in
theorem c_X1_beginDay (l : Launch) (G : kz_G) (a : Nat → Nat) (S : kz_S) (hJ : kz_J S) : kz_mi l G yX1_beginDay wsX1_beginDay 3 64 [.ref (a 0)] [shW G a S] [shW G a (X1_beginDay_s S)] (X1_beginDay_r S) := by
  intro sz
  refine Met.ofW (cc := cX1_beginDay) (maxL := 1) (ret := (some .int)) (by decide) rfl ?_
  intro p e s m args below meth c s₁ B hml hv
  obtain ⟨rfl, hsz, hP, hK, hD0⟩ := hv
  have hx := B.exec
  have hb := B.bytes
  have hr := B.returns
  have hts := atoms_spec (ws := wsX1_beginDay) B.pre
  have hown : s.vm.findClass RX1 = some m.cls := findClass_of_methodNamed B.named
  have hlocks := B.notSynchronized
  have hinX1 : ∀ w ∈ u_ws RX1 TX1 14, w ∈ wsX1_beginDay := by decide +kernel
  subst hsz
  have hD := hD0.self (sz := s.heap.size)
  generalize hAe : kz_A [shW G a S] s.heap.size = A at hD ⊢
  have hA : ∀ q : Nat, s.heap.size ≤ q → A q := fun q h => by rw [← hAe]; exact Or.inr h
  have hS : va_S A s.heap s.heap [] := va_S.rf
  have hl := lv_entry ([.ref (a 0)]) (n := 1) (Nat.le_of_ble_eq_true rfl)
  rw [lg_entry_eq]
  generalize (lg_sl ([.ref (a 0)]) ++ List.replicate (1 - (lg_sl ([.ref (a 0)])).length) Slot.unset).toArray = ls at hl ⊢
  have hl : lv_has ls 1 [(0, .ref (a 0))] := hl
  refine kz_start (fun QQ hQ => ?_)
  have hP : kz_P G [shW G a S] s.heap := hP
  refine lv_aload_n hx hb dX1_beginDay_0 rfl (lv_at hl 0 rfl) ?_
  refine lv_dup hx hb dX1_beginDay_1 rfl ?_
  refine va_get (D := G.1) (ci := 1) (v := .int (S 1 0)) (C := RX1) (T := TX1) (N := 14) hx hb hts hinX1 hown hK.1 hP 0 rfl rfl 1 (by decide) (hts (.fieldLink RX1 57 "ParcelShelves$Shop" "today" "I") (by decide +kernel)) (fun _ h9 => h9) rfl dX1_beginDay_2 ?_
  refine lv_iconst (v := 1) hx hb dX1_beginDay_5 (by decide +kernel) ?_
  refine lv_iadd hx hb dX1_beginDay_6 ?_
  refine va_put (D := G.1) (ci := 1) (v := .int ((S 1 0) + 1)) (ty := .int) (C := RX1) (T := TX1) (N := 14) hx hb hts hinX1 tyX1 tyX1_ok nmX1 hown hK.1 hP hD hS 0 rfl rfl 1 (by decide) (hts (.fieldLink RX1 57 "ParcelShelves$Shop" "today" "I") (by decide +kernel)) (fun _ h9 => h9) rfl (by decide +kernel) rfl rfl (Nat.le_of_ble_eq_true rfl) dX1_beginDay_7 (fun H locs hP hD hS => ?_)
  have hP : kz_P G [shW G a (va_up S 1 (fun _ => ((S 1 0) + 1)))] H := hP
  have hD : kz_D A [shW G a (va_up S 1 (fun _ => ((S 1 0) + 1)))] := hD
  refine lv_aload_n hx hb dX1_beginDay_10 rfl (lv_at hl 0 rfl) ?_
  refine lv_iconst (v := 0) hx hb dX1_beginDay_11 (by decide +kernel) ?_
  refine va_put (D := G.1) (ci := 1) (v := .int 0) (ty := .int) (C := RX1) (T := TX1) (N := 14) hx hb hts hinX1 tyX1 tyX1_ok nmX1 hown hK.1 hP hD hS 0 rfl rfl 2 (by decide) (hts (.fieldLink RX1 61 "ParcelShelves$Shop" "wrongCodes" "I") (by decide +kernel)) (fun _ h9 => h9) rfl (by decide +kernel) rfl rfl (Nat.le_of_ble_eq_true rfl) dX1_beginDay_12 (fun H locs hP hD hS => ?_)
  have hP : kz_P G [shW G a (va_up (va_up S 1 (fun _ => ((S 1 0) + 1))) 2 (fun _ => 0))] H := hP
  have hD : kz_D A [shW G a (va_up (va_up S 1 (fun _ => ((S 1 0) + 1))) 2 (fun _ => 0))] := hD
  refine lv_aload_n hx hb dX1_beginDay_15 rfl (lv_at hl 0 rfl) ?_
  refine va_get (D := G.1) (ci := 1) (v := .int ((S 1 0) + 1)) (C := RX1) (T := TX1) (N := 14) hx hb hts hinX1 hown hK.1 hP 0 rfl rfl 1 (by decide) (hts (.fieldLink RX1 57 "ParcelShelves$Shop" "today" "I") (by decide +kernel)) (fun _ h9 => h9) rfl dX1_beginDay_16 ?_
  refine lv_iconst (v := 3) hx hb dX1_beginDay_19 (by decide +kernel) ?_
  refine lv_irem hx hb dX1_beginDay_20 (by decide +kernel) ?_
  refine kz_topR ?_
  refine lv_if_ne (tgt := 28) hx hb dX1_beginDay_21 (by decide) (fun c_1 => ?_) (fun c_1 => ?_)
  · refine lv_aload_n hx hb dX1_beginDay_28 rfl (lv_at hl 0 rfl) ?_
    refine kz_miV (As := []) (rest := []) (b := a 0) (wr := []) (bs' := [shW G a (X1_returnParcelsKeptTooLong_s (va_up (va_up S 1 (fun _ => ((S 1 0) + 1))) 2 (fun _ => 0)))]) ⟨hx, hb, hml, hown, hts⟩ (c_X1_returnParcelsKeptTooLong l G a (va_up (va_up S 1 (fun _ => ((S 1 0) + 1))) 2 (fun _ => 0)) hJ) (cwV 0 hts gX1_beginDay_X1_returnParcelsKeptTooLong rfl rfl rfl (by decide +kernel) ⟨Nat.le_of_ble_eq_true rfl, Nat.le_of_ble_eq_true rfl⟩) hK hP hD hS hA [0] [] [0] rfl (by decide) rfl (by decide) (by decide) rfl (by decide) (kz_recv hK hP (ci := 1) (q0 := 0) rfl rfl) rfl hl.1 rfl (Nat.le_of_ble_eq_true rfl) dX1_beginDay_29 ⟨Nat.le_of_ble_eq_true rfl, Nat.le_of_ble_eq_true rfl⟩ (fun H locs hP hD hS => ?_)
    subst hQ
    have hP9 : kz_P G [shW G a (X1_beginDay_s S)] H := by rw [X1_beginDay_s, if_neg c_1]; exact hP
    have hD9 : kz_D A [shW G a (X1_beginDay_s S)] := by rw [X1_beginDay_s, if_neg c_1]; exact hD
    exact W.iret (v := (X1_returnParcelsKeptTooLong_r (va_up (va_up S 1 (fun _ => ((S 1 0) + 1))) 2 (fun _ => 0)))) hx hb hr (fun t ht hW => ⟨⟨(X1_returnParcelsKeptTooLong_r (va_up (va_up S 1 (fun _ => ((S 1 0) + 1))) 2 (fun _ => 0))), (), rfl, (by rw [X1_beginDay_r, if_neg c_1]), by rw [ht]; exact hP9, hD9⟩, hS.F ht⟩) hS.2.2 dX1_beginDay_32
  · refine lv_aload_n hx hb dX1_beginDay_24 rfl (lv_at hl 0 rfl) ?_
    refine kz_mvV (As := []) (rest := []) (b := a 0) (wr := []) (bs' := [shW G a (X1_letCourierCome_s (va_up (va_up S 1 (fun _ => ((S 1 0) + 1))) 2 (fun _ => 0)))]) ⟨hx, hb, hml, hown, hts⟩ (c_X1_letCourierCome l G a (va_up (va_up S 1 (fun _ => ((S 1 0) + 1))) 2 (fun _ => 0))) (cwV 0 hts gX1_beginDay_X1_letCourierCome rfl rfl rfl (by decide +kernel) ⟨Nat.le_of_ble_eq_true rfl, Nat.le_of_ble_eq_true rfl⟩) hK hP hD hS hA [0] [] [0] rfl (by decide) rfl (by decide) (by decide) rfl (by decide) (kz_recv hK hP (ci := 1) (q0 := 0) rfl rfl) rfl hl.1 rfl (Nat.le_of_ble_eq_true rfl) dX1_beginDay_25 ⟨Nat.le_of_ble_eq_true rfl, Nat.le_of_ble_eq_true rfl⟩ (fun H locs hP hD hS => ?_)
    refine lv_aload_n hx hb dX1_beginDay_28 rfl (lv_at hl 0 rfl) ?_
    refine kz_miV (As := []) (rest := []) (b := a 0) (wr := []) (bs' := [shW G a (X1_returnParcelsKeptTooLong_s (X1_letCourierCome_s (va_up (va_up S 1 (fun _ => ((S 1 0) + 1))) 2 (fun _ => 0))))]) ⟨hx, hb, hml, hown, hts⟩ (c_X1_returnParcelsKeptTooLong l G a (X1_letCourierCome_s (va_up (va_up S 1 (fun _ => ((S 1 0) + 1))) 2 (fun _ => 0))) (kz_J_cour (S := va_up (va_up S 1 (fun _ => S 1 0 + 1)) 2 (fun _ => 0)) hJ 10)) (cwV 0 hts gX1_beginDay_X1_returnParcelsKeptTooLong rfl rfl rfl (by decide +kernel) ⟨Nat.le_of_ble_eq_true rfl, Nat.le_of_ble_eq_true rfl⟩) hK hP hD hS hA [0] [] [0] rfl (by decide) rfl (by decide) (by decide) rfl (by decide) (kz_recv hK hP (ci := 1) (q0 := 0) rfl rfl) rfl hl.1 rfl (Nat.le_of_ble_eq_true rfl) dX1_beginDay_29 ⟨Nat.le_of_ble_eq_true rfl, Nat.le_of_ble_eq_true rfl⟩ (fun H locs hP hD hS => ?_)
    subst hQ
    have hP9 : kz_P G [shW G a (X1_beginDay_s S)] H := by rw [X1_beginDay_s, if_pos c_1]; exact hP
    have hD9 : kz_D A [shW G a (X1_beginDay_s S)] := by rw [X1_beginDay_s, if_pos c_1]; exact hD
    exact W.iret (v := (X1_returnParcelsKeptTooLong_r (X1_letCourierCome_s (va_up (va_up S 1 (fun _ => ((S 1 0) + 1))) 2 (fun _ => 0))))) hx hb hr (fun t ht hW => ⟨⟨(X1_returnParcelsKeptTooLong_r (X1_letCourierCome_s (va_up (va_up S 1 (fun _ => ((S 1 0) + 1))) 2 (fun _ => 0)))), (), rfl, (by rw [X1_beginDay_r, if_pos c_1]), by rw [ht]; exact hP9, hD9⟩, hS.F ht⟩) hS.2.2 dX1_beginDay_32
theorem kz_cellEq {cA : ClassId} {n : Nat} {f g : Nat → Int32} (h : ∀ j, j < n → f j = g j) : vp_cell cA (n, .inl f) = vp_cell cA (n, .inl g) := by
  rw [vp_cell_i, vp_cell_i]
  exact kz_arrEq (fun j hj => by rw [h j hj])
/-- two states that tell the same within the rows -/
def kz_E (X O : kz_S) : Prop := X 1 0 = O 1 0 ∧ X 2 0 = O 2 0 ∧ X 3 0 = O 3 0 ∧ X 4 0 = O 4 0 ∧ (∀ j, j < 5 → X 0 j = O 0 j) ∧ (∀ j, j < 48 → X 5 j = O 5 j) ∧ (∀ j, j < 48 → X 6 j = O 6 j) ∧ (∀ j, j < 48 → X 7 j = O 7 j) ∧ (∀ j, j < 48 → X 8 j = O 8 j) ∧ (∀ j, j < 336 → X 9 j = O 9 j) ∧ (∀ j, j < 10 → X 10 j = O 10 j) ∧ (∀ j, j < 10 → X 11 j = O 11 j) ∧ (∀ j, j < 10 → X 12 j = O 12 j) ∧ (∀ j, j < 10 → X 13 j = O 13 j)
theorem kz_shEq {G : kz_G} {a : Nat → Nat} {X O : kz_S} {H : Heap} (h : kz_E X O) (hP : va_P G.1 vwCl (shW G a X) H) : va_P G.1 vwCl (shW G a O) H := by
  obtain ⟨e1, e2, e3, e4, e0, e5, e6, e7, e8, e9, e10, e11, e12, e13⟩ := h
  have hc : ∀ (k : Nat) (q : Nat) (n : Nat) (f g : Nat → Int32), (shW G a X)[k]? = some (q, .inl (G.2.1, n, .inl f)) → (∀ j, j < n → f j = g j) → va_at G.1 vwCl (q, .inl (G.2.1, n, .inl g)) H := by
    intro k q n f g hk hf
    have h1 : H[q]? = some (vp_cell G.2.1 (n, .inl f)) := hP k _ hk
    show H[q]? = some (vp_cell G.2.1 (n, .inl g))
    rw [h1, kz_cellEq hf]
  intro k q hq
  match k, hq with
  | 0, hq =>
    cases hq
    have h1 := hP 0 _ rfl
    rw [e1, e2, e3, e4] at h1
    exact h1
  | 1, hq => cases hq; exact hc 1 _ _ _ _ rfl e0
  | 2, hq => cases hq; exact hc 2 _ _ _ _ rfl e5
  | 3, hq => cases hq; exact hc 3 _ _ _ _ rfl e6
  | 4, hq => cases hq; exact hc 4 _ _ _ _ rfl e7
  | 5, hq => cases hq; exact hc 5 _ _ _ _ rfl e8
  | 6, hq => cases hq; exact hc 6 _ _ _ _ rfl e9
  | 7, hq => cases hq; exact hc 7 _ _ _ _ rfl e10
  | 8, hq => cases hq; exact hc 8 _ _ _ _ rfl e11
  | 9, hq => cases hq; exact hc 9 _ _ _ _ rfl e12
  | 10, hq => cases hq; exact hc 10 _ _ _ _ rfl e13
  | k + 11, hq => cases hq
theorem kz_shP {G : kz_G} {a : Nat → Nat} {X O : kz_S} {r : kz_B} {H : Heap} (h : kz_E X O) (hP : kz_P G (shW G a X :: r) H) : kz_P G (shW G a O :: r) H := by
  rw [kz_P_mem] at hP ⊢
  intro b hb
  rcases List.mem_cons.mp hb with e | hb
  · rw [e]; exact kz_shEq h (hP _ List.mem_cons_self)
  · exact hP b (List.mem_cons_of_mem _ hb)
theorem kz_D_adr {A : Nat → Prop} {bs cs : kz_B} (e : bs.flatten.map Prod.fst = cs.flatten.map Prod.fst) (h : kz_D A bs) : kz_D A cs := by
  have h1 := kz_D_iff.mp h
  have key : ∀ ws : va_W, va_D A ws ↔ (ws.map Prod.fst).Pairwise (fun p0 q => p0 ≠ q) ∧ ∀ q, q ∈ ws.map Prod.fst → A q := by
    intro ws
    rw [kz_D_iff, List.pairwise_map]
    constructor
    · exact fun h => ⟨h.1, fun q hq => by obtain ⟨x, hx, rfl⟩ := List.mem_map.mp hq; exact h.2 x hx⟩
    · exact fun h => ⟨h.1, fun q hq => h.2 q.1 (List.mem_map.mpr ⟨q, hq, rfl⟩)⟩
  have h2 := (key bs.flatten).mp h
  rw [e] at h2
  exact (key cs.flatten).mpr h2
theorem kz_cpy0 {f g : Nat → Int32} {n j : Nat} (h : j < n) : va_cpy f g 0 0 n j = f j := by
  rw [pk_cpy_in (Nat.zero_le j) (by omega)]
  show f (0 + (j - 0)) = f j
  rw [Nat.zero_add, Nat.sub_zero]
set_option maxHeartbeats 4000000 in
set_option maxRecDepth 100000 in
theorem c_X1_copyFrom (l : Launch) (G : kz_G) (a : Nat → Nat) (S : kz_S) (b : Nat → Nat) (O : kz_S) : kz_mv l G yX1_copyFrom wsX1_copyFrom 1 26 [.ref (a 0), .ref (b 0)] [shW G a S, shW G b O] [shW G a O, shW G b O] := by
  intro sz
  refine Met.ofW (cc := cX1_copyFrom) (maxL := 2) (ret := none) (by decide) rfl ?_
  intro p e s m args below meth c s₁ B hml hv
  obtain ⟨rfl, hsz, hP, hK, hD0⟩ := hv
  have hx := B.exec
  have hb := B.bytes
  have hr := B.returns
  have hts := atoms_spec (ws := wsX1_copyFrom) B.pre
  have hown : s.vm.findClass RX1 = some m.cls := findClass_of_methodNamed B.named
  have hlocks := B.notSynchronized
  have hinX1 : ∀ w ∈ u_ws RX1 TX1 14, w ∈ wsX1_copyFrom := by decide +kernel
  subst hsz
  have hD := hD0.self (sz := s.heap.size)
  generalize hAe : kz_A [shW G a S, shW G b O] s.heap.size = A at hD ⊢
  have hA : ∀ q : Nat, s.heap.size ≤ q → A q := fun q h => by rw [← hAe]; exact Or.inr h
  have hS : va_S A s.heap s.heap [] := va_S.rf
  have hl := lv_entry ([.ref (a 0), .ref (b 0)]) (n := 2) (Nat.le_of_ble_eq_true rfl)
  rw [lg_entry_eq]
  generalize (lg_sl ([.ref (a 0), .ref (b 0)]) ++ List.replicate (2 - (lg_sl ([.ref (a 0), .ref (b 0)])).length) Slot.unset).toArray = ls at hl ⊢
  have hl : lv_has ls 2 [(0, .ref (a 0)), (1, .ref (b 0))] := hl
  refine kz_start (fun QQ hQ => ?_)
  have hP : kz_P G [shW G a S, shW G b O] s.heap := hP
  refine lv_aload_n hx hb dX1_copyFrom_0 rfl (lv_at hl 0 rfl) ?_
  refine lv_aload_n hx hb dX1_copyFrom_1 rfl (lv_at hl 1 rfl) ?_
  refine va_get (D := G.1) (ci := 1) (v := .int (O 1 0)) (C := RX1) (T := TX1) (N := 14) hx hb hts hinX1 hown hK.1 hP 11 rfl rfl 1 (by decide) (hts (.fieldLink RX1 57 "ParcelShelves$Shop" "today" "I") (by decide +kernel)) (fun _ h9 => h9) rfl dX1_copyFrom_2 ?_
  refine va_put (D := G.1) (ci := 1) (v := .int (O 1 0)) (ty := .int) (C := RX1) (T := TX1) (N := 14) hx hb hts hinX1 tyX1 tyX1_ok nmX1 hown hK.1 hP hD hS 0 rfl rfl 1 (by decide) (hts (.fieldLink RX1 57 "ParcelShelves$Shop" "today" "I") (by decide +kernel)) (fun _ h9 => h9) rfl (by decide +kernel) rfl rfl (Nat.le_of_ble_eq_true rfl) dX1_copyFrom_5 (fun H locs hP hD hS => ?_)
  have hP : kz_P G [shW G a (va_up S 1 (fun _ => (O 1 0))), shW G b O] H := hP
  have hD : kz_D A [shW G a (va_up S 1 (fun _ => (O 1 0))), shW G b O] := hD
  refine lv_aload_n hx hb dX1_copyFrom_8 rfl (lv_at hl 0 rfl) ?_
  refine lv_aload_n hx hb dX1_copyFrom_9 rfl (lv_at hl 1 rfl) ?_
  refine va_get (D := G.1) (ci := 1) (v := .int (O 2 0)) (C := RX1) (T := TX1) (N := 14) hx hb hts hinX1 hown hK.1 hP 11 rfl rfl 2 (by decide) (hts (.fieldLink RX1 61 "ParcelShelves$Shop" "wrongCodes" "I") (by decide +kernel)) (fun _ h9 => h9) rfl dX1_copyFrom_10 ?_
  refine va_put (D := G.1) (ci := 1) (v := .int (O 2 0)) (ty := .int) (C := RX1) (T := TX1) (N := 14) hx hb hts hinX1 tyX1 tyX1_ok nmX1 hown hK.1 hP hD hS 0 rfl rfl 2 (by decide) (hts (.fieldLink RX1 61 "ParcelShelves$Shop" "wrongCodes" "I") (by decide +kernel)) (fun _ h9 => h9) rfl (by decide +kernel) rfl rfl (Nat.le_of_ble_eq_true rfl) dX1_copyFrom_13 (fun H locs hP hD hS => ?_)
  have hP : kz_P G [shW G a (va_up (va_up S 1 (fun _ => (O 1 0))) 2 (fun _ => (O 2 0))), shW G b O] H := hP
  have hD : kz_D A [shW G a (va_up (va_up S 1 (fun _ => (O 1 0))) 2 (fun _ => (O 2 0))), shW G b O] := hD
  refine lv_aload_n hx hb dX1_copyFrom_16 rfl (lv_at hl 0 rfl) ?_
  refine lv_aload_n hx hb dX1_copyFrom_17 rfl (lv_at hl 1 rfl) ?_
  refine va_get (D := G.1) (ci := 1) (v := .int (O 3 0)) (C := RX1) (T := TX1) (N := 14) hx hb hts hinX1 hown hK.1 hP 11 rfl rfl 3 (by decide) (hts (.fieldLink RX1 64 "ParcelShelves$Shop" "cameSoFar" "I") (by decide +kernel)) (fun _ h9 => h9) rfl dX1_copyFrom_18 ?_
  refine va_put (D := G.1) (ci := 1) (v := .int (O 3 0)) (ty := .int) (C := RX1) (T := TX1) (N := 14) hx hb hts hinX1 tyX1 tyX1_ok nmX1 hown hK.1 hP hD hS 0 rfl rfl 3 (by decide) (hts (.fieldLink RX1 64 "ParcelShelves$Shop" "cameSoFar" "I") (by decide +kernel)) (fun _ h9 => h9) rfl (by decide +kernel) rfl rfl (Nat.le_of_ble_eq_true rfl) dX1_copyFrom_21 (fun H locs hP hD hS => ?_)
  have hP : kz_P G [shW G a (va_up (va_up (va_up S 1 (fun _ => (O 1 0))) 2 (fun _ => (O 2 0))) 3 (fun _ => (O 3 0))), shW G b O] H := hP
  have hD : kz_D A [shW G a (va_up (va_up (va_up S 1 (fun _ => (O 1 0))) 2 (fun _ => (O 2 0))) 3 (fun _ => (O 3 0))), shW G b O] := hD
  refine lv_aload_n hx hb dX1_copyFrom_24 rfl (lv_at hl 0 rfl) ?_
  refine lv_aload_n hx hb dX1_copyFrom_25 rfl (lv_at hl 1 rfl) ?_
  refine va_get (D := G.1) (ci := 1) (v := .int (O 4 0)) (C := RX1) (T := TX1) (N := 14) hx hb hts hinX1 hown hK.1 hP 11 rfl rfl 4 (by decide) (hts (.fieldLink RX1 67 "ParcelShelves$Shop" "feesPaid" "I") (by decide +kernel)) (fun _ h9 => h9) rfl dX1_copyFrom_26 ?_
  refine va_put (D := G.1) (ci := 1) (v := .int (O 4 0)) (ty := .int) (C := RX1) (T := TX1) (N := 14) hx hb hts hinX1 tyX1 tyX1_ok nmX1 hown hK.1 hP hD hS 0 rfl rfl 4 (by decide) (hts (.fieldLink RX1 67 "ParcelShelves$Shop" "feesPaid" "I") (by decide +kernel)) (fun _ h9 => h9) rfl (by decide +kernel) rfl rfl (Nat.le_of_ble_eq_true rfl) dX1_copyFrom_29 (fun H locs hP hD hS => ?_)
  have hP : kz_P G [shW G a (va_up (va_up (va_up (va_up S 1 (fun _ => (O 1 0))) 2 (fun _ => (O 2 0))) 3 (fun _ => (O 3 0))) 4 (fun _ => (O 4 0))), shW G b O] H := hP
  have hD : kz_D A [shW G a (va_up (va_up (va_up (va_up S 1 (fun _ => (O 1 0))) 2 (fun _ => (O 2 0))) 3 (fun _ => (O 3 0))) 4 (fun _ => (O 4 0))), shW G b O] := hD
  refine lv_aload_n hx hb dX1_copyFrom_32 rfl (lv_at hl 1 rfl) ?_
  refine va_get (D := G.1) (ci := 1) (v := .ref (b 1)) (C := RX1) (T := TX1) (N := 14) hx hb hts hinX1 hown hK.1 hP 11 rfl rfl 0 (by decide) (hts (.fieldLink RX1 9 "ParcelShelves$Shop" "settings" "[I") (by decide +kernel)) (fun _ h9 => h9) rfl dX1_copyFrom_33 ?_
  refine lv_iconst (v := 0) hx hb dX1_copyFrom_36 (by decide +kernel) ?_
  refine lv_aload_n hx hb dX1_copyFrom_37 rfl (lv_at hl 0 rfl) ?_
  refine va_get (D := G.1) (ci := 1) (v := .ref (a 1)) (C := RX1) (T := TX1) (N := 14) hx hb hts hinX1 hown hK.1 hP 0 rfl rfl 0 (by decide) (hts (.fieldLink RX1 9 "ParcelShelves$Shop" "settings" "[I") (by decide +kernel)) (fun _ h9 => h9) rfl dX1_copyFrom_38 ?_
  refine lv_iconst (v := 0) hx hb dX1_copyFrom_41 (by decide +kernel) ?_
  refine lv_iconst (v := 5) hx hb dX1_copyFrom_42 (by decide +kernel) ?_
  refine va_copyi hx hb (by rw [hml]; exact hl.1.symm) hown (hts (.methodLink RX1 45 arraycopyName) (by decide +kernel)) (hts (.native arraycopyName) (by decide +kernel)) (hts (.static arraycopyName) (by decide +kernel)) (hts (.initialized "java/lang/System") (by decide +kernel)) hK.1 hP hD hS 12 1 0 0 rfl rfl rfl rfl rfl (by decide +kernel) (by decide +kernel) (by decide +kernel) (Nat.le_of_ble_eq_true rfl) (Nat.le_of_ble_eq_true rfl) (fun _ _ => rfl) (Nat.le_of_ble_eq_true rfl) (Nat.le_of_ble_eq_true rfl) dX1_copyFrom_43 (fun H locs hP hD hS => ?_)
  have hP : kz_P G [shW G a (va_up (va_up (va_up (va_up (va_up S 1 (fun _ => (O 1 0))) 2 (fun _ => (O 2 0))) 3 (fun _ => (O 3 0))) 4 (fun _ => (O 4 0))) 0 (va_cpy (O 0) (S 0) 0 0 5)), shW G b O] H := hP
  have hD : kz_D A [shW G a (va_up (va_up (va_up (va_up (va_up S 1 (fun _ => (O 1 0))) 2 (fun _ => (O 2 0))) 3 (fun _ => (O 3 0))) 4 (fun _ => (O 4 0))) 0 (va_cpy (O 0) (S 0) 0 0 5)), shW G b O] := hD
  refine lv_aload_n hx hb dX1_copyFrom_46 rfl (lv_at hl 1 rfl) ?_
  refine va_get (D := G.1) (ci := 1) (v := .ref (b 2)) (C := RX1) (T := TX1) (N := 14) hx hb hts hinX1 hown hK.1 hP 11 rfl rfl 5 (by decide) (hts (.fieldLink RX1 15 "ParcelShelves$Shop" "weekdays" "[I") (by decide +kernel)) (fun _ h9 => h9) rfl dX1_copyFrom_47 ?_
  refine lv_iconst (v := 0) hx hb dX1_copyFrom_50 (by decide +kernel) ?_
  refine lv_aload_n hx hb dX1_copyFrom_51 rfl (lv_at hl 0 rfl) ?_
  refine va_get (D := G.1) (ci := 1) (v := .ref (a 2)) (C := RX1) (T := TX1) (N := 14) hx hb hts hinX1 hown hK.1 hP 0 rfl rfl 5 (by decide) (hts (.fieldLink RX1 15 "ParcelShelves$Shop" "weekdays" "[I") (by decide +kernel)) (fun _ h9 => h9) rfl dX1_copyFrom_52 ?_
  refine lv_iconst (v := 0) hx hb dX1_copyFrom_55 (by decide +kernel) ?_
  refine lv_bipush (v := 48) hx hb dX1_copyFrom_56 (by decide +kernel) ?_
  refine va_copyi hx hb (by rw [hml]; exact hl.1.symm) hown (hts (.methodLink RX1 45 arraycopyName) (by decide +kernel)) (hts (.native arraycopyName) (by decide +kernel)) (hts (.static arraycopyName) (by decide +kernel)) (hts (.initialized "java/lang/System") (by decide +kernel)) hK.1 hP hD hS 13 2 0 0 rfl rfl rfl rfl rfl (by decide +kernel) (by decide +kernel) (by decide +kernel) (Nat.le_of_ble_eq_true rfl) (Nat.le_of_ble_eq_true rfl) (fun _ _ => rfl) (Nat.le_of_ble_eq_true rfl) (Nat.le_of_ble_eq_true rfl) dX1_copyFrom_58 (fun H locs hP hD hS => ?_)
  have hP : kz_P G [shW G a (va_up (va_up (va_up (va_up (va_up (va_up S 1 (fun _ => (O 1 0))) 2 (fun _ => (O 2 0))) 3 (fun _ => (O 3 0))) 4 (fun _ => (O 4 0))) 0 (va_cpy (O 0) (S 0) 0 0 5)) 5 (va_cpy (O 5) (S 5) 0 0 48)), shW G b O] H := hP
  have hD : kz_D A [shW G a (va_up (va_up (va_up (va_up (va_up (va_up S 1 (fun _ => (O 1 0))) 2 (fun _ => (O 2 0))) 3 (fun _ => (O 3 0))) 4 (fun _ => (O 4 0))) 0 (va_cpy (O 0) (S 0) 0 0 5)) 5 (va_cpy (O 5) (S 5) 0 0 48)), shW G b O] := hD
  refine lv_aload_n hx hb dX1_copyFrom_61 rfl (lv_at hl 1 rfl) ?_
  refine va_get (D := G.1) (ci := 1) (v := .ref (b 3)) (C := RX1) (T := TX1) (N := 14) hx hb hts hinX1 hown hK.1 hP 11 rfl rfl 6 (by decide) (hts (.fieldLink RX1 18 "ParcelShelves$Shop" "senders" "[I") (by decide +kernel)) (fun _ h9 => h9) rfl dX1_copyFrom_62 ?_
  refine lv_iconst (v := 0) hx hb dX1_copyFrom_65 (by decide +kernel) ?_
  refine lv_aload_n hx hb dX1_copyFrom_66 rfl (lv_at hl 0 rfl) ?_
  refine va_get (D := G.1) (ci := 1) (v := .ref (a 3)) (C := RX1) (T := TX1) (N := 14) hx hb hts hinX1 hown hK.1 hP 0 rfl rfl 6 (by decide) (hts (.fieldLink RX1 18 "ParcelShelves$Shop" "senders" "[I") (by decide +kernel)) (fun _ h9 => h9) rfl dX1_copyFrom_67 ?_
  refine lv_iconst (v := 0) hx hb dX1_copyFrom_70 (by decide +kernel) ?_
  refine lv_bipush (v := 48) hx hb dX1_copyFrom_71 (by decide +kernel) ?_
  refine va_copyi hx hb (by rw [hml]; exact hl.1.symm) hown (hts (.methodLink RX1 45 arraycopyName) (by decide +kernel)) (hts (.native arraycopyName) (by decide +kernel)) (hts (.static arraycopyName) (by decide +kernel)) (hts (.initialized "java/lang/System") (by decide +kernel)) hK.1 hP hD hS 14 3 0 0 rfl rfl rfl rfl rfl (by decide +kernel) (by decide +kernel) (by decide +kernel) (Nat.le_of_ble_eq_true rfl) (Nat.le_of_ble_eq_true rfl) (fun _ _ => rfl) (Nat.le_of_ble_eq_true rfl) (Nat.le_of_ble_eq_true rfl) dX1_copyFrom_73 (fun H locs hP hD hS => ?_)
  have hP : kz_P G [shW G a (va_up (va_up (va_up (va_up (va_up (va_up (va_up S 1 (fun _ => (O 1 0))) 2 (fun _ => (O 2 0))) 3 (fun _ => (O 3 0))) 4 (fun _ => (O 4 0))) 0 (va_cpy (O 0) (S 0) 0 0 5)) 5 (va_cpy (O 5) (S 5) 0 0 48)) 6 (va_cpy (O 6) (S 6) 0 0 48)), shW G b O] H := hP
  have hD : kz_D A [shW G a (va_up (va_up (va_up (va_up (va_up (va_up (va_up S 1 (fun _ => (O 1 0))) 2 (fun _ => (O 2 0))) 3 (fun _ => (O 3 0))) 4 (fun _ => (O 4 0))) 0 (va_cpy (O 0) (S 0) 0 0 5)) 5 (va_cpy (O 5) (S 5) 0 0 48)) 6 (va_cpy (O 6) (S 6) 0 0 48)), shW G b O] := hD
  refine lv_aload_n hx hb dX1_copyFrom_76 rfl (lv_at hl 1 rfl) ?_
  refine va_get (D := G.1) (ci := 1) (v := .ref (b 4)) (C := RX1) (T := TX1) (N := 14) hx hb hts hinX1 hown hK.1 hP 11 rfl rfl 7 (by decide) (hts (.fieldLink RX1 21 "ParcelShelves$Shop" "sizes" "[I") (by decide +kernel)) (fun _ h9 => h9) rfl dX1_copyFrom_77 ?_
  refine lv_iconst (v := 0) hx hb dX1_copyFrom_80 (by decide +kernel) ?_
  refine lv_aload_n hx hb dX1_copyFrom_81 rfl (lv_at hl 0 rfl) ?_
  refine va_get (D := G.1) (ci := 1) (v := .ref (a 4)) (C := RX1) (T := TX1) (N := 14) hx hb hts hinX1 hown hK.1 hP 0 rfl rfl 7 (by decide) (hts (.fieldLink RX1 21 "ParcelShelves$Shop" "sizes" "[I") (by decide +kernel)) (fun _ h9 => h9) rfl dX1_copyFrom_82 ?_
  refine lv_iconst (v := 0) hx hb dX1_copyFrom_85 (by decide +kernel) ?_
  refine lv_bipush (v := 48) hx hb dX1_copyFrom_86 (by decide +kernel) ?_
  refine va_copyi hx hb (by rw [hml]; exact hl.1.symm) hown (hts (.methodLink RX1 45 arraycopyName) (by decide +kernel)) (hts (.native arraycopyName) (by decide +kernel)) (hts (.static arraycopyName) (by decide +kernel)) (hts (.initialized "java/lang/System") (by decide +kernel)) hK.1 hP hD hS 15 4 0 0 rfl rfl rfl rfl rfl (by decide +kernel) (by decide +kernel) (by decide +kernel) (Nat.le_of_ble_eq_true rfl) (Nat.le_of_ble_eq_true rfl) (fun _ _ => rfl) (Nat.le_of_ble_eq_true rfl) (Nat.le_of_ble_eq_true rfl) dX1_copyFrom_88 (fun H locs hP hD hS => ?_)
  have hP : kz_P G [shW G a (va_up (va_up (va_up (va_up (va_up (va_up (va_up (va_up S 1 (fun _ => (O 1 0))) 2 (fun _ => (O 2 0))) 3 (fun _ => (O 3 0))) 4 (fun _ => (O 4 0))) 0 (va_cpy (O 0) (S 0) 0 0 5)) 5 (va_cpy (O 5) (S 5) 0 0 48)) 6 (va_cpy (O 6) (S 6) 0 0 48)) 7 (va_cpy (O 7) (S 7) 0 0 48)), shW G b O] H := hP
  have hD : kz_D A [shW G a (va_up (va_up (va_up (va_up (va_up (va_up (va_up (va_up S 1 (fun _ => (O 1 0))) 2 (fun _ => (O 2 0))) 3 (fun _ => (O 3 0))) 4 (fun _ => (O 4 0))) 0 (va_cpy (O 0) (S 0) 0 0 5)) 5 (va_cpy (O 5) (S 5) 0 0 48)) 6 (va_cpy (O 6) (S 6) 0 0 48)) 7 (va_cpy (O 7) (S 7) 0 0 48)), shW G b O] := hD
  refine lv_aload_n hx hb dX1_copyFrom_91 rfl (lv_at hl 1 rfl) ?_
  refine va_get (D := G.1) (ci := 1) (v := .ref (b 5)) (C := RX1) (T := TX1) (N := 14) hx hb hts hinX1 hown hK.1 hP 11 rfl rfl 8 (by decide) (hts (.fieldLink RX1 24 "ParcelShelves$Shop" "cameOn" "[I") (by decide +kernel)) (fun _ h9 => h9) rfl dX1_copyFrom_92 ?_
  refine lv_iconst (v := 0) hx hb dX1_copyFrom_95 (by decide +kernel) ?_
  refine lv_aload_n hx hb dX1_copyFrom_96 rfl (lv_at hl 0 rfl) ?_
  refine va_get (D := G.1) (ci := 1) (v := .ref (a 5)) (C := RX1) (T := TX1) (N := 14) hx hb hts hinX1 hown hK.1 hP 0 rfl rfl 8 (by decide) (hts (.fieldLink RX1 24 "ParcelShelves$Shop" "cameOn" "[I") (by decide +kernel)) (fun _ h9 => h9) rfl dX1_copyFrom_97 ?_
  refine lv_iconst (v := 0) hx hb dX1_copyFrom_100 (by decide +kernel) ?_
  refine lv_bipush (v := 48) hx hb dX1_copyFrom_101 (by decide +kernel) ?_
  refine va_copyi hx hb (by rw [hml]; exact hl.1.symm) hown (hts (.methodLink RX1 45 arraycopyName) (by decide +kernel)) (hts (.native arraycopyName) (by decide +kernel)) (hts (.static arraycopyName) (by decide +kernel)) (hts (.initialized "java/lang/System") (by decide +kernel)) hK.1 hP hD hS 16 5 0 0 rfl rfl rfl rfl rfl (by decide +kernel) (by decide +kernel) (by decide +kernel) (Nat.le_of_ble_eq_true rfl) (Nat.le_of_ble_eq_true rfl) (fun _ _ => rfl) (Nat.le_of_ble_eq_true rfl) (Nat.le_of_ble_eq_true rfl) dX1_copyFrom_103 (fun H locs hP hD hS => ?_)
  have hP : kz_P G [shW G a (va_up (va_up (va_up (va_up (va_up (va_up (va_up (va_up (va_up S 1 (fun _ => (O 1 0))) 2 (fun _ => (O 2 0))) 3 (fun _ => (O 3 0))) 4 (fun _ => (O 4 0))) 0 (va_cpy (O 0) (S 0) 0 0 5)) 5 (va_cpy (O 5) (S 5) 0 0 48)) 6 (va_cpy (O 6) (S 6) 0 0 48)) 7 (va_cpy (O 7) (S 7) 0 0 48)) 8 (va_cpy (O 8) (S 8) 0 0 48)), shW G b O] H := hP
  have hD : kz_D A [shW G a (va_up (va_up (va_up (va_up (va_up (va_up (va_up (va_up (va_up S 1 (fun _ => (O 1 0))) 2 (fun _ => (O 2 0))) 3 (fun _ => (O 3 0))) 4 (fun _ => (O 4 0))) 0 (va_cpy (O 0) (S 0) 0 0 5)) 5 (va_cpy (O 5) (S 5) 0 0 48)) 6 (va_cpy (O 6) (S 6) 0 0 48)) 7 (va_cpy (O 7) (S 7) 0 0 48)) 8 (va_cpy (O 8) (S 8) 0 0 48)), shW G b O] := hD
  refine lv_aload_n hx hb dX1_copyFrom_106 rfl (lv_at hl 1 rfl) ?_
  refine va_get (D := G.1) (ci := 1) (v := .ref (b 6)) (C := RX1) (T := TX1) (N := 14) hx hb hts hinX1 hown hK.1 hP 11 rfl rfl 9 (by decide) (hts (.fieldLink RX1 27 "ParcelShelves$Shop" "leftOn" "[I") (by decide +kernel)) (fun _ h9 => h9) rfl dX1_copyFrom_107 ?_
  refine lv_iconst (v := 0) hx hb dX1_copyFrom_110 (by decide +kernel) ?_
  refine lv_aload_n hx hb dX1_copyFrom_111 rfl (lv_at hl 0 rfl) ?_
  refine va_get (D := G.1) (ci := 1) (v := .ref (a 6)) (C := RX1) (T := TX1) (N := 14) hx hb hts hinX1 hown hK.1 hP 0 rfl rfl 9 (by decide) (hts (.fieldLink RX1 27 "ParcelShelves$Shop" "leftOn" "[I") (by decide +kernel)) (fun _ h9 => h9) rfl dX1_copyFrom_112 ?_
  refine lv_iconst (v := 0) hx hb dX1_copyFrom_115 (by decide +kernel) ?_
  refine lv_sipush (v := 336) hx hb dX1_copyFrom_116 (by decide +kernel) ?_
  refine va_copyi hx hb (by rw [hml]; exact hl.1.symm) hown (hts (.methodLink RX1 45 arraycopyName) (by decide +kernel)) (hts (.native arraycopyName) (by decide +kernel)) (hts (.static arraycopyName) (by decide +kernel)) (hts (.initialized "java/lang/System") (by decide +kernel)) hK.1 hP hD hS 17 6 0 0 rfl rfl rfl rfl rfl (by decide +kernel) (by decide +kernel) (by decide +kernel) (Nat.le_of_ble_eq_true rfl) (Nat.le_of_ble_eq_true rfl) (fun _ _ => rfl) (Nat.le_of_ble_eq_true rfl) (Nat.le_of_ble_eq_true rfl) dX1_copyFrom_119 (fun H locs hP hD hS => ?_)
  have hP : kz_P G [shW G a (va_up (va_up (va_up (va_up (va_up (va_up (va_up (va_up (va_up (va_up S 1 (fun _ => (O 1 0))) 2 (fun _ => (O 2 0))) 3 (fun _ => (O 3 0))) 4 (fun _ => (O 4 0))) 0 (va_cpy (O 0) (S 0) 0 0 5)) 5 (va_cpy (O 5) (S 5) 0 0 48)) 6 (va_cpy (O 6) (S 6) 0 0 48)) 7 (va_cpy (O 7) (S 7) 0 0 48)) 8 (va_cpy (O 8) (S 8) 0 0 48)) 9 (va_cpy (O 9) (S 9) 0 0 336)), shW G b O] H := hP
  have hD : kz_D A [shW G a (va_up (va_up (va_up (va_up (va_up (va_up (va_up (va_up (va_up (va_up S 1 (fun _ => (O 1 0))) 2 (fun _ => (O 2 0))) 3 (fun _ => (O 3 0))) 4 (fun _ => (O 4 0))) 0 (va_cpy (O 0) (S 0) 0 0 5)) 5 (va_cpy (O 5) (S 5) 0 0 48)) 6 (va_cpy (O 6) (S 6) 0 0 48)) 7 (va_cpy (O 7) (S 7) 0 0 48)) 8 (va_cpy (O 8) (S 8) 0 0 48)) 9 (va_cpy (O 9) (S 9) 0 0 336)), shW G b O] := hD
  refine lv_aload_n hx hb dX1_copyFrom_122 rfl (lv_at hl 1 rfl) ?_
  refine va_get (D := G.1) (ci := 1) (v := .ref (b 7)) (C := RX1) (T := TX1) (N := 14) hx hb hts hinX1 hown hK.1 hP 11 rfl rfl 10 (by decide) (hts (.fieldLink RX1 30 "ParcelShelves$Shop" "bins" "[I") (by decide +kernel)) (fun _ h9 => h9) rfl dX1_copyFrom_123 ?_
  refine lv_iconst (v := 0) hx hb dX1_copyFrom_126 (by decide +kernel) ?_
  refine lv_aload_n hx hb dX1_copyFrom_127 rfl (lv_at hl 0 rfl) ?_
  refine va_get (D := G.1) (ci := 1) (v := .ref (a 7)) (C := RX1) (T := TX1) (N := 14) hx hb hts hinX1 hown hK.1 hP 0 rfl rfl 10 (by decide) (hts (.fieldLink RX1 30 "ParcelShelves$Shop" "bins" "[I") (by decide +kernel)) (fun _ h9 => h9) rfl dX1_copyFrom_128 ?_
  refine lv_iconst (v := 0) hx hb dX1_copyFrom_131 (by decide +kernel) ?_
  refine lv_bipush (v := 10) hx hb dX1_copyFrom_132 (by decide +kernel) ?_
  refine va_copyi hx hb (by rw [hml]; exact hl.1.symm) hown (hts (.methodLink RX1 45 arraycopyName) (by decide +kernel)) (hts (.native arraycopyName) (by decide +kernel)) (hts (.static arraycopyName) (by decide +kernel)) (hts (.initialized "java/lang/System") (by decide +kernel)) hK.1 hP hD hS 18 7 0 0 rfl rfl rfl rfl rfl (by decide +kernel) (by decide +kernel) (by decide +kernel) (Nat.le_of_ble_eq_true rfl) (Nat.le_of_ble_eq_true rfl) (fun _ _ => rfl) (Nat.le_of_ble_eq_true rfl) (Nat.le_of_ble_eq_true rfl) dX1_copyFrom_134 (fun H locs hP hD hS => ?_)
  have hP : kz_P G [shW G a (va_up (va_up (va_up (va_up (va_up (va_up (va_up (va_up (va_up (va_up (va_up S 1 (fun _ => (O 1 0))) 2 (fun _ => (O 2 0))) 3 (fun _ => (O 3 0))) 4 (fun _ => (O 4 0))) 0 (va_cpy (O 0) (S 0) 0 0 5)) 5 (va_cpy (O 5) (S 5) 0 0 48)) 6 (va_cpy (O 6) (S 6) 0 0 48)) 7 (va_cpy (O 7) (S 7) 0 0 48)) 8 (va_cpy (O 8) (S 8) 0 0 48)) 9 (va_cpy (O 9) (S 9) 0 0 336)) 10 (va_cpy (O 10) (S 10) 0 0 10)), shW G b O] H := hP
  have hD : kz_D A [shW G a (va_up (va_up (va_up (va_up (va_up (va_up (va_up (va_up (va_up (va_up (va_up S 1 (fun _ => (O 1 0))) 2 (fun _ => (O 2 0))) 3 (fun _ => (O 3 0))) 4 (fun _ => (O 4 0))) 0 (va_cpy (O 0) (S 0) 0 0 5)) 5 (va_cpy (O 5) (S 5) 0 0 48)) 6 (va_cpy (O 6) (S 6) 0 0 48)) 7 (va_cpy (O 7) (S 7) 0 0 48)) 8 (va_cpy (O 8) (S 8) 0 0 48)) 9 (va_cpy (O 9) (S 9) 0 0 336)) 10 (va_cpy (O 10) (S 10) 0 0 10)), shW G b O] := hD
  refine lv_aload_n hx hb dX1_copyFrom_137 rfl (lv_at hl 1 rfl) ?_
  refine va_get (D := G.1) (ci := 1) (v := .ref (b 8)) (C := RX1) (T := TX1) (N := 14) hx hb hts hinX1 hown hK.1 hP 11 rfl rfl 11 (by decide) (hts (.fieldLink RX1 33 "ParcelShelves$Shop" "charged" "[I") (by decide +kernel)) (fun _ h9 => h9) rfl dX1_copyFrom_138 ?_
  refine lv_iconst (v := 0) hx hb dX1_copyFrom_141 (by decide +kernel) ?_
  refine lv_aload_n hx hb dX1_copyFrom_142 rfl (lv_at hl 0 rfl) ?_
  refine va_get (D := G.1) (ci := 1) (v := .ref (a 8)) (C := RX1) (T := TX1) (N := 14) hx hb hts hinX1 hown hK.1 hP 0 rfl rfl 11 (by decide) (hts (.fieldLink RX1 33 "ParcelShelves$Shop" "charged" "[I") (by decide +kernel)) (fun _ h9 => h9) rfl dX1_copyFrom_143 ?_
  refine lv_iconst (v := 0) hx hb dX1_copyFrom_146 (by decide +kernel) ?_
  refine lv_bipush (v := 10) hx hb dX1_copyFrom_147 (by decide +kernel) ?_
  refine va_copyi hx hb (by rw [hml]; exact hl.1.symm) hown (hts (.methodLink RX1 45 arraycopyName) (by decide +kernel)) (hts (.native arraycopyName) (by decide +kernel)) (hts (.static arraycopyName) (by decide +kernel)) (hts (.initialized "java/lang/System") (by decide +kernel)) hK.1 hP hD hS 19 8 0 0 rfl rfl rfl rfl rfl (by decide +kernel) (by decide +kernel) (by decide +kernel) (Nat.le_of_ble_eq_true rfl) (Nat.le_of_ble_eq_true rfl) (fun _ _ => rfl) (Nat.le_of_ble_eq_true rfl) (Nat.le_of_ble_eq_true rfl) dX1_copyFrom_149 (fun H locs hP hD hS => ?_)
  have hP : kz_P G [shW G a (va_up (va_up (va_up (va_up (va_up (va_up (va_up (va_up (va_up (va_up (va_up (va_up S 1 (fun _ => (O 1 0))) 2 (fun _ => (O 2 0))) 3 (fun _ => (O 3 0))) 4 (fun _ => (O 4 0))) 0 (va_cpy (O 0) (S 0) 0 0 5)) 5 (va_cpy (O 5) (S 5) 0 0 48)) 6 (va_cpy (O 6) (S 6) 0 0 48)) 7 (va_cpy (O 7) (S 7) 0 0 48)) 8 (va_cpy (O 8) (S 8) 0 0 48)) 9 (va_cpy (O 9) (S 9) 0 0 336)) 10 (va_cpy (O 10) (S 10) 0 0 10)) 11 (va_cpy (O 11) (S 11) 0 0 10)), shW G b O] H := hP
  have hD : kz_D A [shW G a (va_up (va_up (va_up (va_up (va_up (va_up (va_up (va_up (va_up (va_up (va_up (va_up S 1 (fun _ => (O 1 0))) 2 (fun _ => (O 2 0))) 3 (fun _ => (O 3 0))) 4 (fun _ => (O 4 0))) 0 (va_cpy (O 0) (S 0) 0 0 5)) 5 (va_cpy (O 5) (S 5) 0 0 48)) 6 (va_cpy (O 6) (S 6) 0 0 48)) 7 (va_cpy (O 7) (S 7) 0 0 48)) 8 (va_cpy (O 8) (S 8) 0 0 48)) 9 (va_cpy (O 9) (S 9) 0 0 336)) 10 (va_cpy (O 10) (S 10) 0 0 10)) 11 (va_cpy (O 11) (S 11) 0 0 10)), shW G b O] := hD
  refine lv_aload_n hx hb dX1_copyFrom_152 rfl (lv_at hl 1 rfl) ?_
  refine va_get (D := G.1) (ci := 1) (v := .ref (b 9)) (C := RX1) (T := TX1) (N := 14) hx hb hts hinX1 hown hK.1 hP 11 rfl rfl 12 (by decide) (hts (.fieldLink RX1 36 "ParcelShelves$Shop" "fetched" "[I") (by decide +kernel)) (fun _ h9 => h9) rfl dX1_copyFrom_153 ?_
  refine lv_iconst (v := 0) hx hb dX1_copyFrom_156 (by decide +kernel) ?_
  refine lv_aload_n hx hb dX1_copyFrom_157 rfl (lv_at hl 0 rfl) ?_
  refine va_get (D := G.1) (ci := 1) (v := .ref (a 9)) (C := RX1) (T := TX1) (N := 14) hx hb hts hinX1 hown hK.1 hP 0 rfl rfl 12 (by decide) (hts (.fieldLink RX1 36 "ParcelShelves$Shop" "fetched" "[I") (by decide +kernel)) (fun _ h9 => h9) rfl dX1_copyFrom_158 ?_
  refine lv_iconst (v := 0) hx hb dX1_copyFrom_161 (by decide +kernel) ?_
  refine lv_bipush (v := 10) hx hb dX1_copyFrom_162 (by decide +kernel) ?_
  refine va_copyi hx hb (by rw [hml]; exact hl.1.symm) hown (hts (.methodLink RX1 45 arraycopyName) (by decide +kernel)) (hts (.native arraycopyName) (by decide +kernel)) (hts (.static arraycopyName) (by decide +kernel)) (hts (.initialized "java/lang/System") (by decide +kernel)) hK.1 hP hD hS 20 9 0 0 rfl rfl rfl rfl rfl (by decide +kernel) (by decide +kernel) (by decide +kernel) (Nat.le_of_ble_eq_true rfl) (Nat.le_of_ble_eq_true rfl) (fun _ _ => rfl) (Nat.le_of_ble_eq_true rfl) (Nat.le_of_ble_eq_true rfl) dX1_copyFrom_164 (fun H locs hP hD hS => ?_)
  have hP : kz_P G [shW G a (va_up (va_up (va_up (va_up (va_up (va_up (va_up (va_up (va_up (va_up (va_up (va_up (va_up S 1 (fun _ => (O 1 0))) 2 (fun _ => (O 2 0))) 3 (fun _ => (O 3 0))) 4 (fun _ => (O 4 0))) 0 (va_cpy (O 0) (S 0) 0 0 5)) 5 (va_cpy (O 5) (S 5) 0 0 48)) 6 (va_cpy (O 6) (S 6) 0 0 48)) 7 (va_cpy (O 7) (S 7) 0 0 48)) 8 (va_cpy (O 8) (S 8) 0 0 48)) 9 (va_cpy (O 9) (S 9) 0 0 336)) 10 (va_cpy (O 10) (S 10) 0 0 10)) 11 (va_cpy (O 11) (S 11) 0 0 10)) 12 (va_cpy (O 12) (S 12) 0 0 10)), shW G b O] H := hP
  have hD : kz_D A [shW G a (va_up (va_up (va_up (va_up (va_up (va_up (va_up (va_up (va_up (va_up (va_up (va_up (va_up S 1 (fun _ => (O 1 0))) 2 (fun _ => (O 2 0))) 3 (fun _ => (O 3 0))) 4 (fun _ => (O 4 0))) 0 (va_cpy (O 0) (S 0) 0 0 5)) 5 (va_cpy (O 5) (S 5) 0 0 48)) 6 (va_cpy (O 6) (S 6) 0 0 48)) 7 (va_cpy (O 7) (S 7) 0 0 48)) 8 (va_cpy (O 8) (S 8) 0 0 48)) 9 (va_cpy (O 9) (S 9) 0 0 336)) 10 (va_cpy (O 10) (S 10) 0 0 10)) 11 (va_cpy (O 11) (S 11) 0 0 10)) 12 (va_cpy (O 12) (S 12) 0 0 10)), shW G b O] := hD
  refine lv_aload_n hx hb dX1_copyFrom_167 rfl (lv_at hl 1 rfl) ?_
  refine va_get (D := G.1) (ci := 1) (v := .ref (b 10)) (C := RX1) (T := TX1) (N := 14) hx hb hts hinX1 hown hK.1 hP 11 rfl rfl 13 (by decide) (hts (.fieldLink RX1 39 "ParcelShelves$Shop" "taken" "[I") (by decide +kernel)) (fun _ h9 => h9) rfl dX1_copyFrom_168 ?_
  refine lv_iconst (v := 0) hx hb dX1_copyFrom_171 (by decide +kernel) ?_
  refine lv_aload_n hx hb dX1_copyFrom_172 rfl (lv_at hl 0 rfl) ?_
  refine va_get (D := G.1) (ci := 1) (v := .ref (a 10)) (C := RX1) (T := TX1) (N := 14) hx hb hts hinX1 hown hK.1 hP 0 rfl rfl 13 (by decide) (hts (.fieldLink RX1 39 "ParcelShelves$Shop" "taken" "[I") (by decide +kernel)) (fun _ h9 => h9) rfl dX1_copyFrom_173 ?_
  refine lv_iconst (v := 0) hx hb dX1_copyFrom_176 (by decide +kernel) ?_
  refine lv_bipush (v := 10) hx hb dX1_copyFrom_177 (by decide +kernel) ?_
  refine va_copyi hx hb (by rw [hml]; exact hl.1.symm) hown (hts (.methodLink RX1 45 arraycopyName) (by decide +kernel)) (hts (.native arraycopyName) (by decide +kernel)) (hts (.static arraycopyName) (by decide +kernel)) (hts (.initialized "java/lang/System") (by decide +kernel)) hK.1 hP hD hS 21 10 0 0 rfl rfl rfl rfl rfl (by decide +kernel) (by decide +kernel) (by decide +kernel) (Nat.le_of_ble_eq_true rfl) (Nat.le_of_ble_eq_true rfl) (fun _ _ => rfl) (Nat.le_of_ble_eq_true rfl) (Nat.le_of_ble_eq_true rfl) dX1_copyFrom_179 (fun H locs hP hD hS => ?_)
  have hP : kz_P G [shW G a (va_up (va_up (va_up (va_up (va_up (va_up (va_up (va_up (va_up (va_up (va_up (va_up (va_up (va_up S 1 (fun _ => (O 1 0))) 2 (fun _ => (O 2 0))) 3 (fun _ => (O 3 0))) 4 (fun _ => (O 4 0))) 0 (va_cpy (O 0) (S 0) 0 0 5)) 5 (va_cpy (O 5) (S 5) 0 0 48)) 6 (va_cpy (O 6) (S 6) 0 0 48)) 7 (va_cpy (O 7) (S 7) 0 0 48)) 8 (va_cpy (O 8) (S 8) 0 0 48)) 9 (va_cpy (O 9) (S 9) 0 0 336)) 10 (va_cpy (O 10) (S 10) 0 0 10)) 11 (va_cpy (O 11) (S 11) 0 0 10)) 12 (va_cpy (O 12) (S 12) 0 0 10)) 13 (va_cpy (O 13) (S 13) 0 0 10)), shW G b O] H := hP
  have hD : kz_D A [shW G a (va_up (va_up (va_up (va_up (va_up (va_up (va_up (va_up (va_up (va_up (va_up (va_up (va_up (va_up S 1 (fun _ => (O 1 0))) 2 (fun _ => (O 2 0))) 3 (fun _ => (O 3 0))) 4 (fun _ => (O 4 0))) 0 (va_cpy (O 0) (S 0) 0 0 5)) 5 (va_cpy (O 5) (S 5) 0 0 48)) 6 (va_cpy (O 6) (S 6) 0 0 48)) 7 (va_cpy (O 7) (S 7) 0 0 48)) 8 (va_cpy (O 8) (S 8) 0 0 48)) 9 (va_cpy (O 9) (S 9) 0 0 336)) 10 (va_cpy (O 10) (S 10) 0 0 10)) 11 (va_cpy (O 11) (S 11) 0 0 10)) 12 (va_cpy (O 12) (S 12) 0 0 10)) 13 (va_cpy (O 13) (S 13) 0 0 10)), shW G b O] := hD
  subst hQ
  have hP9 : kz_P G [shW G a O, shW G b O] H := kz_shP (X := (va_up (va_up (va_up (va_up (va_up (va_up (va_up (va_up (va_up (va_up (va_up (va_up (va_up (va_up S 1 (fun _ => (O 1 0))) 2 (fun _ => (O 2 0))) 3 (fun _ => (O 3 0))) 4 (fun _ => (O 4 0))) 0 (va_cpy (O 0) (S 0) 0 0 5)) 5 (va_cpy (O 5) (S 5) 0 0 48)) 6 (va_cpy (O 6) (S 6) 0 0 48)) 7 (va_cpy (O 7) (S 7) 0 0 48)) 8 (va_cpy (O 8) (S 8) 0 0 48)) 9 (va_cpy (O 9) (S 9) 0 0 336)) 10 (va_cpy (O 10) (S 10) 0 0 10)) 11 (va_cpy (O 11) (S 11) 0 0 10)) 12 (va_cpy (O 12) (S 12) 0 0 10)) 13 (va_cpy (O 13) (S 13) 0 0 10))) ⟨rfl, rfl, rfl, rfl, fun j h => show va_cpy (O 0) (S 0) 0 0 5 j = O 0 j from kz_cpy0 h, fun j h => show va_cpy (O 5) (S 5) 0 0 48 j = O 5 j from kz_cpy0 h, fun j h => show va_cpy (O 6) (S 6) 0 0 48 j = O 6 j from kz_cpy0 h, fun j h => show va_cpy (O 7) (S 7) 0 0 48 j = O 7 j from kz_cpy0 h, fun j h => show va_cpy (O 8) (S 8) 0 0 48 j = O 8 j from kz_cpy0 h, fun j h => show va_cpy (O 9) (S 9) 0 0 336 j = O 9 j from kz_cpy0 h, fun j h => show va_cpy (O 10) (S 10) 0 0 10 j = O 10 j from kz_cpy0 h, fun j h => show va_cpy (O 11) (S 11) 0 0 10 j = O 11 j from kz_cpy0 h, fun j h => show va_cpy (O 12) (S 12) 0 0 10 j = O 12 j from kz_cpy0 h, fun j h => show va_cpy (O 13) (S 13) 0 0 10 j = O 13 j from kz_cpy0 h⟩ hP
  have hD9 : kz_D A [shW G a O, shW G b O] := kz_D_adr (by rfl) hD
  exact W.vret hx hb hr (fun t ht hW => ⟨⟨(), rfl, trivial, by rw [ht]; exact hP9, hD9⟩, hS.F ht⟩) hS.2.2 dX1_copyFrom_182
