def X4_goesBack_r (z0 : Nat → Int32) (p0 : Nat) : Int32 := ((X4_leave_c0 (X4_count_c0 z0 (((z0 (12 + 4 * p0 + 0)) - 1).toNatClampNeg) 0 1) p0) (540 + 4 * (((z0 (12 + 4 * p0 + 0)) - 1).toNatClampNeg) + 0))
def X4_goesBack_c0 (z0 : Nat → Int32) (p0 : Nat) : Nat → Int32 := (X4_leave_c0 (X4_count_c0 z0 (((z0 (12 + 4 * p0 + 0)) - 1).toNatClampNeg) 0 1) p0)
set_option maxHeartbeats 1000000 in
set_option maxRecDepth 100000 in
theorem c_X4_goesBack (l : Launch) (G : kz_G) (a : Nat → Nat) (M : kz_S) (p0 : Nat) (hp : p0 < 48) (hs : ∃ q, q < 10 ∧ M 0 (12 + 4 * p0 + 0) = nI (q + 1)) (hw : ∃ w, w < 7 ∧ M 0 (12 + 4 * p0 + 3) = nI (w + 1)) : kz_mi l G yX4_goesBack wsX4_goesBack 2 43 [.ref (a 0), .int (nI p0)] [mdW G a M] [mdW G a (va_up M 0 (X4_goesBack_c0 (M 0) p0))] (X4_goesBack_r (M 0) p0) := by
  intro sz
  refine Met.ofW (cc := cX4_goesBack) (maxL := 3) (ret := (some .int)) (by decide) rfl ?_
  intro p e s m args below meth c s₁ B hml hv
  obtain ⟨rfl, hsz, hP, hK, hD0⟩ := hv
  have hx := B.exec
  have hb := B.bytes
  have hr := B.returns
  have hts := atoms_spec (ws := wsX4_goesBack) B.pre
  have hown : s.vm.findClass RX4 = some m.cls := findClass_of_methodNamed B.named
  have hlocks := B.notSynchronized
  subst hsz
  have hD := hD0.self (sz := s.heap.size)
  generalize hAe : kz_A [mdW G a M] s.heap.size = A at hD ⊢
  have hA : ∀ q : Nat, s.heap.size ≤ q → A q := fun q h => by rw [← hAe]; exact Or.inr h
  have hS : va_S A s.heap s.heap [] := va_S.rf
  have hl := lv_entry ([.ref (a 0), .int (nI p0)]) (n := 3) (Nat.le_of_ble_eq_true rfl)
  rw [lg_entry_eq]
  generalize (lg_sl ([.ref (a 0), .int (nI p0)]) ++ List.replicate (3 - (lg_sl ([.ref (a 0), .int (nI p0)])).length) Slot.unset).toArray = ls at hl ⊢
  have hl : lv_has ls 3 [(0, .ref (a 0)), (1, .int (nI p0))] := hl
  refine kz_start (fun QQ hQ => ?_)
  have hP : kz_P G [mdW G a M] s.heap := hP
  refine lv_aload_n hx hb dX4_goesBack_0 rfl (lv_at hl 0 rfl) ?_
  refine lv_iload_n hx hb dX4_goesBack_1 rfl (lv_at hl 1 rfl) ?_
  refine lv_iconst (v := 0) hx hb dX4_goesBack_2 (by decide +kernel) ?_
  refine kz_rdV (As := [.int (nI p0), .int 0]) (rest := []) (b := a 0) ⟨hx, hb, hml, hown, hts⟩ (c_X4_at l G a M p0 0 (by omega)) (cwV 2 hts gX4_goesBack_X4_at rfl rfl rfl (by decide +kernel) ⟨Nat.le_of_ble_eq_true rfl, Nat.le_of_ble_eq_true rfl⟩) hK hP (kz_recv hK hP (ci := 4) (q0 := 0) rfl rfl) rfl hl.1 rfl (Nat.le_of_ble_eq_true rfl) dX4_goesBack_3 ⟨Nat.le_of_ble_eq_true rfl, Nat.le_of_ble_eq_true rfl⟩ ?_
  refine lv_iconst (v := 1) hx hb dX4_goesBack_6 (by decide +kernel) ?_
  refine lv_isub hx hb dX4_goesBack_7 ?_
  refine lv_istore_n (lv' := [(2, .int (((M 0) (12 + 4 * p0 + 0)) - 1)), (0, .ref (a 0)), (1, .int (nI p0))]) hx hb dX4_goesBack_8 rfl hl (by decide) rfl (fun ls hl => ?_)
  obtain ⟨hcv1, hcl1⟩ := kz_back (kz_sd4 hs) (by decide)
  have hl : lv_has ls 3 [(2, .int (nI (((M 0) (12 + 4 * p0 + 0)) - 1).toNatClampNeg)), (0, .ref (a 0)), (1, .int (nI p0))] := by rw [← hcv1]; exact hl
  refine lv_aload_n hx hb dX4_goesBack_9 rfl (lv_at hl 1 rfl) ?_
  refine lv_iload_n hx hb dX4_goesBack_10 rfl (lv_at hl 0 rfl) ?_
  refine lv_iconst (v := 0) hx hb dX4_goesBack_11 (by decide +kernel) ?_
  refine lv_iconst (v := 1) hx hb dX4_goesBack_12 (by decide +kernel) ?_
  refine kz_mvV (As := [.int (nI (((M 0) (12 + 4 * p0 + 0)) - 1).toNatClampNeg), .int 0, .int 1]) (rest := []) (b := a 0) (wr := []) (bs' := [mdW G a (va_up M 0 (X4_count_c0 (M 0) ((((M 0) (12 + 4 * p0 + 0)) - 1).toNatClampNeg) 0 1))]) ⟨hx, hb, hml, hown, hts⟩ (c_X4_count l G a M ((((M 0) (12 + 4 * p0 + 0)) - 1).toNatClampNeg) 0 1 (by omega)) (cwV 3 hts gX4_goesBack_X4_count rfl rfl rfl (by decide +kernel) ⟨Nat.le_of_ble_eq_true rfl, Nat.le_of_ble_eq_true rfl⟩) hK hP hD hS hA [0] [] [0] rfl (by decide) rfl (by decide) (by decide) rfl (by decide) (kz_recv hK hP (ci := 4) (q0 := 0) rfl rfl) rfl hl.1 rfl (Nat.le_of_ble_eq_true rfl) dX4_goesBack_13 ⟨Nat.le_of_ble_eq_true rfl, Nat.le_of_ble_eq_true rfl⟩ (fun H locs hP hD hS => ?_)
  refine lv_aload_n hx hb dX4_goesBack_16 rfl (lv_at hl 1 rfl) ?_
  refine lv_iload_n hx hb dX4_goesBack_17 rfl (lv_at hl 2 rfl) ?_
  refine kz_mvV (As := [.int (nI p0)]) (rest := []) (b := a 0) (wr := []) (bs' := [mdW G a (va_up M 0 (X4_leave_c0 (X4_count_c0 (M 0) ((((M 0) (12 + 4 * p0 + 0)) - 1).toNatClampNeg) 0 1) p0))]) ⟨hx, hb, hml, hown, hts⟩ (c_X4_leave l G a (va_up M 0 (X4_count_c0 (M 0) ((((M 0) (12 + 4 * p0 + 0)) - 1).toNatClampNeg) 0 1)) p0 (by omega) (by rw [va_up_self]; exact kz_ctw hw (by omega))) (cwV 1 hts gX4_goesBack_X4_leave rfl rfl rfl (by decide +kernel) ⟨Nat.le_of_ble_eq_true rfl, Nat.le_of_ble_eq_true rfl⟩) hK hP hD hS hA [0] [] [0] rfl (by decide) rfl (by decide) (by decide) rfl (by decide) (kz_recv hK hP (ci := 4) (q0 := 0) rfl rfl) rfl hl.1 rfl (Nat.le_of_ble_eq_true rfl) dX4_goesBack_18 ⟨Nat.le_of_ble_eq_true rfl, Nat.le_of_ble_eq_true rfl⟩ (fun H locs hP hD hS => ?_)
  refine lv_aload_n hx hb dX4_goesBack_21 rfl (lv_at hl 1 rfl) ?_
  refine lv_iload_n hx hb dX4_goesBack_22 rfl (lv_at hl 0 rfl) ?_
  refine lv_iconst (v := 0) hx hb dX4_goesBack_23 (by decide +kernel) ?_
  refine kz_rdV (As := [.int (nI (((M 0) (12 + 4 * p0 + 0)) - 1).toNatClampNeg), .int 0]) (rest := []) (b := a 0) ⟨hx, hb, hml, hown, hts⟩ (c_X4_ofSender l G a (va_up M 0 (X4_leave_c0 (X4_count_c0 (M 0) ((((M 0) (12 + 4 * p0 + 0)) - 1).toNatClampNeg) 0 1) p0)) ((((M 0) (12 + 4 * p0 + 0)) - 1).toNatClampNeg) 0 (by omega)) (cwV 2 hts gX4_goesBack_X4_ofSender rfl rfl rfl (by decide +kernel) ⟨Nat.le_of_ble_eq_true rfl, Nat.le_of_ble_eq_true rfl⟩) hK hP (kz_recv hK hP (ci := 4) (q0 := 0) rfl rfl) rfl hl.1 rfl (Nat.le_of_ble_eq_true rfl) dX4_goesBack_24 ⟨Nat.le_of_ble_eq_true rfl, Nat.le_of_ble_eq_true rfl⟩ ?_
  refine lv_topi (fun y_2 ey_3 => ?_)
  obtain rfl : y_2 = ((X4_leave_c0 (X4_count_c0 (M 0) ((((M 0) (12 + 4 * p0 + 0)) - 1).toNatClampNeg) 0 1) p0) (540 + 4 * ((((M 0) (12 + 4 * p0 + 0)) - 1).toNatClampNeg) + 0)) := by rw [ey_3, va_up_self]
  subst hQ
  have hP9 : kz_P G [mdW G a (va_up M 0 (X4_goesBack_c0 (M 0) p0))] H := hP
  have hD9 : kz_D A [mdW G a (va_up M 0 (X4_goesBack_c0 (M 0) p0))] := hD
  exact W.iret (v := ((X4_leave_c0 (X4_count_c0 (M 0) ((((M 0) (12 + 4 * p0 + 0)) - 1).toNatClampNeg) 0 1) p0) (540 + 4 * ((((M 0) (12 + 4 * p0 + 0)) - 1).toNatClampNeg) + 0))) hx hb hr (fun t ht hW => ⟨⟨((X4_leave_c0 (X4_count_c0 (M 0) ((((M 0) (12 + 4 * p0 + 0)) - 1).toNatClampNeg) 0 1) p0) (540 + 4 * ((((M 0) (12 + 4 * p0 + 0)) - 1).toNatClampNeg) + 0)), (), rfl, rfl, by rw [ht]; exact hP9, hD9⟩, hS.F ht⟩) hS.2.2 dX4_goesBack_27
theorem kz_wnr {z0 : Nat → Int32} {z6 z7 code : Int32} (h : 0 ≤ X4_whyNotRefuse_r z0 z6 z7 code) : ¬ X4_placeBy_r z0 code = (-6) := by
  intro c1
  rw [X4_whyNotRefuse_r, if_pos c1, X4_refuseCode_r] at h
  split at h <;> exact absurd h (by decide)

def X4_refuse_r (z0 : Nat → Int32) (z1 : Nat → Int32) (z2 : Int32) (z6 : Int32) (z7 : Int32) (code : Int32) : Int32 := if 0 ≤ (X4_whyNotRefuse_r z0 z6 z7 code) then (X4_goesBack_r z0 ((X4_placeBy_r z0 code).toNatClampNeg)) else (X4_whyNotRefuse_r z0 z6 z7 code)
def X4_refuse_c0 (z0 : Nat → Int32) (z1 : Nat → Int32) (z2 : Int32) (z6 : Int32) (z7 : Int32) (code : Int32) : Nat → Int32 := if 0 ≤ (X4_whyNotRefuse_r z0 z6 z7 code) then (X4_goesBack_c0 z0 ((X4_placeBy_r z0 code).toNatClampNeg)) else z0
def X4_refuse_c1 (z0 : Nat → Int32) (z1 : Nat → Int32) (z2 : Int32) (z6 : Int32) (z7 : Int32) (code : Int32) : Nat → Int32 := if 0 ≤ (X4_whyNotRefuse_r z0 z6 z7 code) then (X4_record_c1 z0 z1 z2) else z1
def X4_refuse_c2 (z0 : Nat → Int32) (z1 : Nat → Int32) (z2 : Int32) (z6 : Int32) (z7 : Int32) (code : Int32) : Int32 := if 0 ≤ (X4_whyNotRefuse_r z0 z6 z7 code) then (X4_record_c2 z0 z1 z2) else z2
def X4_refuse_c6 (z0 : Nat → Int32) (z1 : Nat → Int32) (z2 : Int32) (z6 : Int32) (z7 : Int32) (code : Int32) : Int32 := if 0 ≤ (X4_whyNotRefuse_r z0 z6 z7 code) then (X4_whyNotRefuse_c6 z0 z6 z7 code) else (X4_whyNotRefuse_c6 z0 z6 z7 code)
def X4_refuse_c7 (z0 : Nat → Int32) (z1 : Nat → Int32) (z2 : Int32) (z6 : Int32) (z7 : Int32) (code : Int32) : Int32 := if 0 ≤ (X4_whyNotRefuse_r z0 z6 z7 code) then (X4_whyNotRefuse_c7 z0 z6 z7 code) else (X4_whyNotRefuse_c7 z0 z6 z7 code)
set_option maxHeartbeats 1000000 in
set_option maxRecDepth 100000 in
theorem c_X4_refuse (l : Launch) (G : kz_G) (a : Nat → Nat) (M : kz_S) (code : Int32) (hM : kz_M (M 0)) (hpm : ∃ n, n ≤ 5 ∧ M 2 0 = nI n) : kz_mi l G yX4_refuse wsX4_refuse 4 91 [.ref (a 0), .int code] [mdW G a M] [mdW G a (va_up (va_up (va_up (va_up (va_up M 0 (X4_refuse_c0 (M 0) (M 1) (M 2 0) (M 6 0) (M 7 0) code)) 1 (X4_refuse_c1 (M 0) (M 1) (M 2 0) (M 6 0) (M 7 0) code)) 2 (fun _ => (X4_refuse_c2 (M 0) (M 1) (M 2 0) (M 6 0) (M 7 0) code))) 6 (fun _ => (X4_refuse_c6 (M 0) (M 1) (M 2 0) (M 6 0) (M 7 0) code))) 7 (fun _ => (X4_refuse_c7 (M 0) (M 1) (M 2 0) (M 6 0) (M 7 0) code)))] (X4_refuse_r (M 0) (M 1) (M 2 0) (M 6 0) (M 7 0) code) := by
  intro sz
  refine Met.ofW (cc := cX4_refuse) (maxL := 3) (ret := (some .int)) (by decide) rfl ?_
  intro p e s m args below meth c s₁ B hml hv
  obtain ⟨rfl, hsz, hP, hK, hD0⟩ := hv
  have hx := B.exec
  have hb := B.bytes
  have hr := B.returns
  have hts := atoms_spec (ws := wsX4_refuse) B.pre
  have hown : s.vm.findClass RX4 = some m.cls := findClass_of_methodNamed B.named
  have hlocks := B.notSynchronized
  subst hsz
  have hD := hD0.self (sz := s.heap.size)
  generalize hAe : kz_A [mdW G a M] s.heap.size = A at hD ⊢
  have hA : ∀ q : Nat, s.heap.size ≤ q → A q := fun q h => by rw [← hAe]; exact Or.inr h
  have hS : va_S A s.heap s.heap [] := va_S.rf
  have hl := lv_entry ([.ref (a 0), .int code]) (n := 3) (Nat.le_of_ble_eq_true rfl)
  rw [lg_entry_eq]
  generalize (lg_sl ([.ref (a 0), .int code]) ++ List.replicate (3 - (lg_sl ([.ref (a 0), .int code])).length) Slot.unset).toArray = ls at hl ⊢
  have hl : lv_has ls 3 [(0, .ref (a 0)), (1, .int code)] := hl
  refine kz_start (fun QQ hQ => ?_)
  have hP : kz_P G [mdW G a M] s.heap := hP
  refine lv_aload_n hx hb dX4_refuse_0 rfl (lv_at hl 0 rfl) ?_
  refine lv_iload_n hx hb dX4_refuse_1 rfl (lv_at hl 1 rfl) ?_
  refine kz_miV (As := [.int code]) (rest := []) (b := a 0) (wr := []) (bs' := [mdW G a (va_up (va_up M 6 (fun _ => (X4_whyNotRefuse_c6 (M 0) (M 6 0) (M 7 0) code))) 7 (fun _ => (X4_whyNotRefuse_c7 (M 0) (M 6 0) (M 7 0) code)))]) ⟨hx, hb, hml, hown, hts⟩ (c_X4_whyNotRefuse l G a M code hM) (cwV 1 hts gX4_refuse_X4_whyNotRefuse rfl rfl rfl (by decide +kernel) ⟨Nat.le_of_ble_eq_true rfl, Nat.le_of_ble_eq_true rfl⟩) hK hP hD hS hA [0] [] [0] rfl (by decide) rfl (by decide) (by decide) rfl (by decide) (kz_recv hK hP (ci := 4) (q0 := 0) rfl rfl) rfl hl.1 rfl (Nat.le_of_ble_eq_true rfl) dX4_refuse_2 ⟨Nat.le_of_ble_eq_true rfl, Nat.le_of_ble_eq_true rfl⟩ (fun H locs hP hD hS => ?_)
  refine lv_istore_n (lv' := [(2, .int (X4_whyNotRefuse_r (M 0) (M 6 0) (M 7 0) code)), (0, .ref (a 0)), (1, .int code)]) hx hb dX4_refuse_5 rfl hl (by decide) rfl (fun ls hl => ?_)
  refine lv_iload_n hx hb dX4_refuse_6 rfl (lv_at hl 0 rfl) ?_
  refine lv_if_ge (tgt := 12) hx hb dX4_refuse_7 (by decide) (fun c_1 => ?_) (fun c_1 => ?_)
  · have hne := kz_wnr c_1
    obtain ⟨hpe, hpl⟩ := kz_back (kz_pbIn hne) (by decide)
    have htk := kz_pbT hne
    have hMp := hM.2 (X4_placeBy_r (M 0) code).toNatClampNeg (by omega)
    refine lv_aload_n hx hb dX4_refuse_12 rfl (lv_at hl 1 rfl) ?_
    refine kz_mvV (As := []) (rest := []) (b := a 0) (wr := []) (bs' := [mdW G a (va_up (va_up (va_up (va_up M 6 (fun _ => (X4_whyNotRefuse_c6 (M 0) (M 6 0) (M 7 0) code))) 7 (fun _ => (X4_whyNotRefuse_c7 (M 0) (M 6 0) (M 7 0) code))) 1 (X4_record_c1 (M 0) (M 1) (M 2 0))) 2 (fun _ => (X4_record_c2 (M 0) (M 1) (M 2 0))))]) ⟨hx, hb, hml, hown, hts⟩ (c_X4_record l G a (va_up (va_up M 6 (fun _ => (X4_whyNotRefuse_c6 (M 0) (M 6 0) (M 7 0) code))) 7 (fun _ => (X4_whyNotRefuse_c7 (M 0) (M 6 0) (M 7 0) code))) hpm) (cwV 0 hts gX4_refuse_X4_record rfl rfl rfl (by decide +kernel) ⟨Nat.le_of_ble_eq_true rfl, Nat.le_of_ble_eq_true rfl⟩) hK hP hD hS hA [0] [] [0] rfl (by decide) rfl (by decide) (by decide) rfl (by decide) (kz_recv hK hP (ci := 4) (q0 := 0) rfl rfl) rfl hl.1 rfl (Nat.le_of_ble_eq_true rfl) dX4_refuse_13 ⟨Nat.le_of_ble_eq_true rfl, Nat.le_of_ble_eq_true rfl⟩ (fun H locs hP hD hS => ?_)
    refine lv_aload_n hx hb dX4_refuse_16 rfl (lv_at hl 1 rfl) ?_
    refine lv_aload_n hx hb dX4_refuse_17 rfl (lv_at hl 1 rfl) ?_
    refine lv_iload_n hx hb dX4_refuse_18 rfl (lv_at hl 2 rfl) ?_
    refine kz_rdV (As := [.int code]) (rest := [.ref (a 0)]) (b := a 0) ⟨hx, hb, hml, hown, hts⟩ (c_X4_placeBy l G a (va_up (va_up (va_up (va_up M 6 (fun _ => (X4_whyNotRefuse_c6 (M 0) (M 6 0) (M 7 0) code))) 7 (fun _ => (X4_whyNotRefuse_c7 (M 0) (M 6 0) (M 7 0) code))) 1 (X4_record_c1 (M 0) (M 1) (M 2 0))) 2 (fun _ => (X4_record_c2 (M 0) (M 1) (M 2 0)))) code) (cwV 1 hts gX4_refuse_X4_placeBy rfl rfl rfl (by decide +kernel) ⟨Nat.le_of_ble_eq_true rfl, Nat.le_of_ble_eq_true rfl⟩) hK hP (kz_recv hK hP (ci := 4) (q0 := 0) rfl rfl) rfl hl.1 rfl (Nat.le_of_ble_eq_true rfl) dX4_refuse_19 ⟨Nat.le_of_ble_eq_true rfl, Nat.le_of_ble_eq_true rfl⟩ ?_
    refine lv_topi (fun y_2 ey_3 => ?_)
    obtain rfl : y_2 = (nI (X4_placeBy_r (M 0) code).toNatClampNeg) := by rw [ey_3]; exact hpe
    refine kz_miV (As := [.int (nI (X4_placeBy_r (M 0) code).toNatClampNeg)]) (rest := []) (b := a 0) (wr := []) (bs' := [mdW G a (va_up (va_up (va_up (va_up (va_up M 6 (fun _ => (X4_whyNotRefuse_c6 (M 0) (M 6 0) (M 7 0) code))) 7 (fun _ => (X4_whyNotRefuse_c7 (M 0) (M 6 0) (M 7 0) code))) 1 (X4_record_c1 (M 0) (M 1) (M 2 0))) 2 (fun _ => (X4_record_c2 (M 0) (M 1) (M 2 0)))) 0 (X4_goesBack_c0 (M 0) ((X4_placeBy_r (M 0) code).toNatClampNeg)))]) ⟨hx, hb, hml, hown, hts⟩ (c_X4_goesBack l G a (va_up (va_up (va_up (va_up M 6 (fun _ => (X4_whyNotRefuse_c6 (M 0) (M 6 0) (M 7 0) code))) 7 (fun _ => (X4_whyNotRefuse_c7 (M 0) (M 6 0) (M 7 0) code))) 1 (X4_record_c1 (M 0) (M 1) (M 2 0))) 2 (fun _ => (X4_record_c2 (M 0) (M 1) (M 2 0)))) ((X4_placeBy_r (M 0) code).toNatClampNeg) (by omega) (kz_sdS hMp.1 htk) (hMp.2 htk)) (cwV 1 hts gX4_refuse_X4_goesBack rfl rfl rfl (by decide +kernel) ⟨Nat.le_of_ble_eq_true rfl, Nat.le_of_ble_eq_true rfl⟩) hK hP hD hS hA [0] [] [0] rfl (by decide) rfl (by decide) (by decide) rfl (by decide) (kz_recv hK hP (ci := 4) (q0 := 0) rfl rfl) rfl hl.1 rfl (Nat.le_of_ble_eq_true rfl) dX4_refuse_22 ⟨Nat.le_of_ble_eq_true rfl, Nat.le_of_ble_eq_true rfl⟩ (fun H locs hP hD hS => ?_)
    subst hQ
    have hP9 : kz_P G [mdW G a (va_up (va_up (va_up (va_up (va_up M 0 (X4_refuse_c0 (M 0) (M 1) (M 2 0) (M 6 0) (M 7 0) code)) 1 (X4_refuse_c1 (M 0) (M 1) (M 2 0) (M 6 0) (M 7 0) code)) 2 (fun _ => (X4_refuse_c2 (M 0) (M 1) (M 2 0) (M 6 0) (M 7 0) code))) 6 (fun _ => (X4_refuse_c6 (M 0) (M 1) (M 2 0) (M 6 0) (M 7 0) code))) 7 (fun _ => (X4_refuse_c7 (M 0) (M 1) (M 2 0) (M 6 0) (M 7 0) code)))] H := by rw [X4_refuse_c0, if_pos c_1]; rw [X4_refuse_c1, if_pos c_1]; rw [X4_refuse_c2, if_pos c_1]; rw [X4_refuse_c6, if_pos c_1]; rw [X4_refuse_c7, if_pos c_1]; exact hP
    have hD9 : kz_D A [mdW G a (va_up (va_up (va_up (va_up (va_up M 0 (X4_refuse_c0 (M 0) (M 1) (M 2 0) (M 6 0) (M 7 0) code)) 1 (X4_refuse_c1 (M 0) (M 1) (M 2 0) (M 6 0) (M 7 0) code)) 2 (fun _ => (X4_refuse_c2 (M 0) (M 1) (M 2 0) (M 6 0) (M 7 0) code))) 6 (fun _ => (X4_refuse_c6 (M 0) (M 1) (M 2 0) (M 6 0) (M 7 0) code))) 7 (fun _ => (X4_refuse_c7 (M 0) (M 1) (M 2 0) (M 6 0) (M 7 0) code)))] := by rw [X4_refuse_c0, if_pos c_1]; rw [X4_refuse_c1, if_pos c_1]; rw [X4_refuse_c2, if_pos c_1]; rw [X4_refuse_c6, if_pos c_1]; rw [X4_refuse_c7, if_pos c_1]; exact hD
    exact W.iret (v := (X4_goesBack_r (M 0) ((X4_placeBy_r (M 0) code).toNatClampNeg))) hx hb hr (fun t ht hW => ⟨⟨(X4_goesBack_r (M 0) ((X4_placeBy_r (M 0) code).toNatClampNeg)), (), rfl, (by rw [X4_refuse_r, if_pos c_1]), by rw [ht]; exact hP9, hD9⟩, hS.F ht⟩) hS.2.2 dX4_refuse_25
  · refine lv_iload_n hx hb dX4_refuse_10 rfl (lv_at hl 0 rfl) ?_
    subst hQ
    have hP9 : kz_P G [mdW G a (va_up (va_up (va_up (va_up (va_up M 0 (X4_refuse_c0 (M 0) (M 1) (M 2 0) (M 6 0) (M 7 0) code)) 1 (X4_refuse_c1 (M 0) (M 1) (M 2 0) (M 6 0) (M 7 0) code)) 2 (fun _ => (X4_refuse_c2 (M 0) (M 1) (M 2 0) (M 6 0) (M 7 0) code))) 6 (fun _ => (X4_refuse_c6 (M 0) (M 1) (M 2 0) (M 6 0) (M 7 0) code))) 7 (fun _ => (X4_refuse_c7 (M 0) (M 1) (M 2 0) (M 6 0) (M 7 0) code)))] H := by rw [X4_refuse_c0, if_neg c_1]; rw [X4_refuse_c1, if_neg c_1]; rw [X4_refuse_c2, if_neg c_1]; rw [X4_refuse_c6, if_neg c_1]; rw [X4_refuse_c7, if_neg c_1]; exact hP
    have hD9 : kz_D A [mdW G a (va_up (va_up (va_up (va_up (va_up M 0 (X4_refuse_c0 (M 0) (M 1) (M 2 0) (M 6 0) (M 7 0) code)) 1 (X4_refuse_c1 (M 0) (M 1) (M 2 0) (M 6 0) (M 7 0) code)) 2 (fun _ => (X4_refuse_c2 (M 0) (M 1) (M 2 0) (M 6 0) (M 7 0) code))) 6 (fun _ => (X4_refuse_c6 (M 0) (M 1) (M 2 0) (M 6 0) (M 7 0) code))) 7 (fun _ => (X4_refuse_c7 (M 0) (M 1) (M 2 0) (M 6 0) (M 7 0) code)))] := by rw [X4_refuse_c0, if_neg c_1]; rw [X4_refuse_c1, if_neg c_1]; rw [X4_refuse_c2, if_neg c_1]; rw [X4_refuse_c6, if_neg c_1]; rw [X4_refuse_c7, if_neg c_1]; exact hD
    exact W.iret (v := (X4_whyNotRefuse_r (M 0) (M 6 0) (M 7 0) code)) hx hb hr (fun t ht hW => ⟨⟨(X4_whyNotRefuse_r (M 0) (M 6 0) (M 7 0) code), (), rfl, (by rw [X4_refuse_r, if_neg c_1]), by rw [ht]; exact hP9, hD9⟩, hS.F ht⟩) hS.2.2 dX4_refuse_11
theorem kz_wnm {z0 : Nat → Int32} {z6 z7 code k : Int32} (h : 0 ≤ X4_whyNotMove_r z0 z6 z7 code k) : ¬ X4_placeBy_r z0 code = (-6) ∧ X4_in_p k 0 5 ∧ ¬ X4_firstPlace_r z0 k.toNatClampNeg k.toNatClampNeg = (-6) := by
  rw [X4_whyNotMove_r] at h
  by_cases c1 : X4_placeBy_r z0 code = (-6)
  · rw [if_pos c1, X4_refuseCode_r] at h
    split at h <;> exact absurd h (by decide)
  · rw [if_neg c1] at h
    by_cases c2 : X4_in_p k 0 5
    · rw [if_pos c2] at h
      by_cases c3 : ((nI (X4_placeBy_r z0 code).toNatClampNeg) / 8) = (nI k.toNatClampNeg)
      · rw [if_pos c3] at h
        exact absurd h (by decide)
      · rw [if_neg c3] at h
        by_cases c4 : (z0 (12 + 4 * ((X4_placeBy_r z0 code).toNatClampNeg) + 1)) ≤ ((nI k.toNatClampNeg) / 2)
        · rw [if_pos c4] at h
          by_cases c5 : X4_firstPlace_r z0 k.toNatClampNeg k.toNatClampNeg = (-6)
          · rw [if_pos c5] at h
            exact absurd h (by decide)
          · exact ⟨c1, c2, c5⟩
        · rw [if_neg c4] at h
          exact absurd h (by decide)
    · rw [if_neg c2] at h
      exact absurd h (by decide)

def X4_moves_r (z0 : Nat → Int32) (code : Int32) (k : Int32) : Int32 := (X4_codeOn_r (X4_leave_c0 (X4_lay_c0 z0 ((X4_firstPlace_r z0 k.toNatClampNeg k.toNatClampNeg).toNatClampNeg) ((z0 (12 + 4 * ((X4_placeBy_r z0 code).toNatClampNeg) + 0)) - 1) (z0 (12 + 4 * ((X4_placeBy_r z0 code).toNatClampNeg) + 1)) (z0 (12 + 4 * ((X4_placeBy_r z0 code).toNatClampNeg) + 2))) ((X4_placeBy_r z0 code).toNatClampNeg)) ((X4_firstPlace_r z0 k.toNatClampNeg k.toNatClampNeg).toNatClampNeg))
def X4_moves_c0 (z0 : Nat → Int32) (code : Int32) (k : Int32) : Nat → Int32 := (X4_leave_c0 (X4_lay_c0 z0 ((X4_firstPlace_r z0 k.toNatClampNeg k.toNatClampNeg).toNatClampNeg) ((z0 (12 + 4 * ((X4_placeBy_r z0 code).toNatClampNeg) + 0)) - 1) (z0 (12 + 4 * ((X4_placeBy_r z0 code).toNatClampNeg) + 1)) (z0 (12 + 4 * ((X4_placeBy_r z0 code).toNatClampNeg) + 2))) ((X4_placeBy_r z0 code).toNatClampNeg))
set_option maxHeartbeats 1000000 in
set_option maxRecDepth 100000 in
theorem c_X4_moves (l : Launch) (G : kz_G) (a : Nat → Nat) (M : kz_S) (code : Int32) (k : Int32) (hM : kz_M (M 0)) (ht : ∃ d, d < 2 ^ 30 ∧ M 0 5 = nI d) (hne : ¬ X4_placeBy_r (M 0) code = (-6)) (hkk : X4_in_p k 0 5) (hf : ¬ X4_firstPlace_r (M 0) k.toNatClampNeg k.toNatClampNeg = (-6)) : kz_mi l G yX4_moves wsX4_moves 3 69 [.ref (a 0), .int code, .int k] [mdW G a M] [mdW G a (va_up M 0 (X4_moves_c0 (M 0) code k))] (X4_moves_r (M 0) code k) := by
  intro sz
  refine Met.ofW (cc := cX4_moves) (maxL := 5) (ret := (some .int)) (by decide) rfl ?_
  intro p e s m args below meth c s₁ B hml hv
  obtain ⟨rfl, hsz, hP, hK, hD0⟩ := hv
  have hx := B.exec
  have hb := B.bytes
  have hr := B.returns
  have hts := atoms_spec (ws := wsX4_moves) B.pre
  have hown : s.vm.findClass RX4 = some m.cls := findClass_of_methodNamed B.named
  have hlocks := B.notSynchronized
  subst hsz
  have hD := hD0.self (sz := s.heap.size)
  generalize hAe : kz_A [mdW G a M] s.heap.size = A at hD ⊢
  have hA : ∀ q : Nat, s.heap.size ≤ q → A q := fun q h => by rw [← hAe]; exact Or.inr h
  have hS : va_S A s.heap s.heap [] := va_S.rf
  have hl := lv_entry ([.ref (a 0), .int code, .int k]) (n := 5) (Nat.le_of_ble_eq_true rfl)
  rw [lg_entry_eq]
  generalize (lg_sl ([.ref (a 0), .int code, .int k]) ++ List.replicate (5 - (lg_sl ([.ref (a 0), .int code, .int k])).length) Slot.unset).toArray = ls at hl ⊢
  have hl : lv_has ls 5 [(0, .ref (a 0)), (1, .int code), (2, .int k)] := hl
  refine kz_start (fun QQ hQ => ?_)
  have hP : kz_P G [mdW G a M] s.heap := hP
  refine lv_aload_n hx hb dX4_moves_0 rfl (lv_at hl 0 rfl) ?_
  refine lv_iload_n hx hb dX4_moves_1 rfl (lv_at hl 1 rfl) ?_
  refine kz_rdV (As := [.int code]) (rest := []) (b := a 0) ⟨hx, hb, hml, hown, hts⟩ (c_X4_placeBy l G a M code) (cwV 1 hts gX4_moves_X4_placeBy rfl rfl rfl (by decide +kernel) ⟨Nat.le_of_ble_eq_true rfl, Nat.le_of_ble_eq_true rfl⟩) hK hP (kz_recv hK hP (ci := 4) (q0 := 0) rfl rfl) rfl hl.1 rfl (Nat.le_of_ble_eq_true rfl) dX4_moves_2 ⟨Nat.le_of_ble_eq_true rfl, Nat.le_of_ble_eq_true rfl⟩ ?_
  refine lv_istore_n (lv' := [(3, .int (X4_placeBy_r (M 0) code)), (0, .ref (a 0)), (1, .int code), (2, .int k)]) hx hb dX4_moves_5 rfl hl (by decide) rfl (fun ls hl => ?_)
  obtain ⟨hcv1, hcl1⟩ := kz_back (kz_pbIn hne) (by decide)
  have hl : lv_has ls 5 [(3, .int (nI (X4_placeBy_r (M 0) code).toNatClampNeg)), (0, .ref (a 0)), (1, .int code), (2, .int k)] := by rw [← hcv1]; exact hl
  have htk := kz_pbT hne
  have hMp := hM.2 (X4_placeBy_r (M 0) code).toNatClampNeg (by omega)
  obtain ⟨hcv2, hcl2⟩ := kz_back (kz_wiIn 5 hkk rfl (by decide)) (by decide)
  have hl : lv_has ls 5 [(3, .int (nI (X4_placeBy_r (M 0) code).toNatClampNeg)), (0, .ref (a 0)), (1, .int code), (2, .int (nI k.toNatClampNeg))] := by rw [← hcv2]; exact hl
  refine lv_aload_n hx hb dX4_moves_6 rfl (lv_at hl 1 rfl) ?_
  refine lv_iload_n hx hb dX4_moves_7 rfl (lv_at hl 3 rfl) ?_
  refine lv_iload_n hx hb dX4_moves_8 rfl (lv_at hl 3 rfl) ?_
  refine kz_rdV (As := [.int (nI k.toNatClampNeg), .int (nI k.toNatClampNeg)]) (rest := []) (b := a 0) ⟨hx, hb, hml, hown, hts⟩ (c_X4_firstPlace l G a M k.toNatClampNeg k.toNatClampNeg (by omega) (by omega) ht) (cwV 2 hts gX4_moves_X4_firstPlace rfl rfl rfl (by decide +kernel) ⟨Nat.le_of_ble_eq_true rfl, Nat.le_of_ble_eq_true rfl⟩) hK hP (kz_recv hK hP (ci := 4) (q0 := 0) rfl rfl) rfl hl.1 rfl (Nat.le_of_ble_eq_true rfl) dX4_moves_9 ⟨Nat.le_of_ble_eq_true rfl, Nat.le_of_ble_eq_true rfl⟩ ?_
  refine lv_istore (lv' := [(4, .int (X4_firstPlace_r (M 0) k.toNatClampNeg k.toNatClampNeg)), (3, .int (nI (X4_placeBy_r (M 0) code).toNatClampNeg)), (0, .ref (a 0)), (1, .int code), (2, .int (nI k.toNatClampNeg))]) hx hb dX4_moves_12 hl (by decide) rfl (fun ls hl => ?_)
  obtain ⟨hcv3, hcl3⟩ := kz_back (kz_fpIn (by omega) hf) (by decide)
  have hl : lv_has ls 5 [(4, .int (nI (X4_firstPlace_r (M 0) k.toNatClampNeg k.toNatClampNeg).toNatClampNeg)), (3, .int (nI (X4_placeBy_r (M 0) code).toNatClampNeg)), (0, .ref (a 0)), (1, .int code), (2, .int (nI k.toNatClampNeg))] := by rw [← hcv3]; exact hl
  refine lv_aload_n hx hb dX4_moves_14 rfl (lv_at hl 2 rfl) ?_
  refine lv_iload hx hb dX4_moves_15 (lv_at hl 0 rfl) ?_
  refine lv_aload_n hx hb dX4_moves_17 rfl (lv_at hl 2 rfl) ?_
  refine lv_iload_n hx hb dX4_moves_18 rfl (lv_at hl 1 rfl) ?_
  refine lv_iconst (v := 0) hx hb dX4_moves_19 (by decide +kernel) ?_
  refine kz_rdV (As := [.int (nI (X4_placeBy_r (M 0) code).toNatClampNeg), .int 0]) (rest := [.int (nI (X4_firstPlace_r (M 0) k.toNatClampNeg k.toNatClampNeg).toNatClampNeg), .ref (a 0)]) (b := a 0) ⟨hx, hb, hml, hown, hts⟩ (c_X4_at l G a M ((X4_placeBy_r (M 0) code).toNatClampNeg) 0 (by omega)) (cwV 2 hts gX4_moves_X4_at rfl rfl rfl (by decide +kernel) ⟨Nat.le_of_ble_eq_true rfl, Nat.le_of_ble_eq_true rfl⟩) hK hP (kz_recv hK hP (ci := 4) (q0 := 0) rfl rfl) rfl hl.1 rfl (Nat.le_of_ble_eq_true rfl) dX4_moves_20 ⟨Nat.le_of_ble_eq_true rfl, Nat.le_of_ble_eq_true rfl⟩ ?_
  refine lv_iconst (v := 1) hx hb dX4_moves_23 (by decide +kernel) ?_
  refine lv_isub hx hb dX4_moves_24 ?_
  refine lv_aload_n hx hb dX4_moves_25 rfl (lv_at hl 2 rfl) ?_
  refine lv_iload_n hx hb dX4_moves_26 rfl (lv_at hl 1 rfl) ?_
  refine lv_iconst (v := 1) hx hb dX4_moves_27 (by decide +kernel) ?_
  refine kz_rdV (As := [.int (nI (X4_placeBy_r (M 0) code).toNatClampNeg), .int 1]) (rest := [.int (((M 0) (12 + 4 * ((X4_placeBy_r (M 0) code).toNatClampNeg) + 0)) - 1), .int (nI (X4_firstPlace_r (M 0) k.toNatClampNeg k.toNatClampNeg).toNatClampNeg), .ref (a 0)]) (b := a 0) ⟨hx, hb, hml, hown, hts⟩ (c_X4_at l G a M ((X4_placeBy_r (M 0) code).toNatClampNeg) 1 (by omega)) (cwV 2 hts gX4_moves_X4_at rfl rfl rfl (by decide +kernel) ⟨Nat.le_of_ble_eq_true rfl, Nat.le_of_ble_eq_true rfl⟩) hK hP (kz_recv hK hP (ci := 4) (q0 := 0) rfl rfl) rfl hl.1 rfl (Nat.le_of_ble_eq_true rfl) dX4_moves_28 ⟨Nat.le_of_ble_eq_true rfl, Nat.le_of_ble_eq_true rfl⟩ ?_
  refine lv_aload_n hx hb dX4_moves_31 rfl (lv_at hl 2 rfl) ?_
  refine lv_iload_n hx hb dX4_moves_32 rfl (lv_at hl 1 rfl) ?_
  refine lv_iconst (v := 2) hx hb dX4_moves_33 (by decide +kernel) ?_
  refine kz_rdV (As := [.int (nI (X4_placeBy_r (M 0) code).toNatClampNeg), .int 2]) (rest := [.int ((M 0) (12 + 4 * ((X4_placeBy_r (M 0) code).toNatClampNeg) + 1)), .int (((M 0) (12 + 4 * ((X4_placeBy_r (M 0) code).toNatClampNeg) + 0)) - 1), .int (nI (X4_firstPlace_r (M 0) k.toNatClampNeg k.toNatClampNeg).toNatClampNeg), .ref (a 0)]) (b := a 0) ⟨hx, hb, hml, hown, hts⟩ (c_X4_at l G a M ((X4_placeBy_r (M 0) code).toNatClampNeg) 2 (by omega)) (cwV 2 hts gX4_moves_X4_at rfl rfl rfl (by decide +kernel) ⟨Nat.le_of_ble_eq_true rfl, Nat.le_of_ble_eq_true rfl⟩) hK hP (kz_recv hK hP (ci := 4) (q0 := 0) rfl rfl) rfl hl.1 rfl (Nat.le_of_ble_eq_true rfl) dX4_moves_34 ⟨Nat.le_of_ble_eq_true rfl, Nat.le_of_ble_eq_true rfl⟩ ?_
  refine kz_mvV (As := [.int (nI (X4_firstPlace_r (M 0) k.toNatClampNeg k.toNatClampNeg).toNatClampNeg), .int (((M 0) (12 + 4 * ((X4_placeBy_r (M 0) code).toNatClampNeg) + 0)) - 1), .int ((M 0) (12 + 4 * ((X4_placeBy_r (M 0) code).toNatClampNeg) + 1)), .int ((M 0) (12 + 4 * ((X4_placeBy_r (M 0) code).toNatClampNeg) + 2))]) (rest := []) (b := a 0) (wr := []) (bs' := [mdW G a (va_up M 0 (X4_lay_c0 (M 0) ((X4_firstPlace_r (M 0) k.toNatClampNeg k.toNatClampNeg).toNatClampNeg) (((M 0) (12 + 4 * ((X4_placeBy_r (M 0) code).toNatClampNeg) + 0)) - 1) ((M 0) (12 + 4 * ((X4_placeBy_r (M 0) code).toNatClampNeg) + 1)) ((M 0) (12 + 4 * ((X4_placeBy_r (M 0) code).toNatClampNeg) + 2))))]) ⟨hx, hb, hml, hown, hts⟩ (c_X4_lay l G a M ((X4_firstPlace_r (M 0) k.toNatClampNeg k.toNatClampNeg).toNatClampNeg) (((M 0) (12 + 4 * ((X4_placeBy_r (M 0) code).toNatClampNeg) + 0)) - 1) ((M 0) (12 + 4 * ((X4_placeBy_r (M 0) code).toNatClampNeg) + 1)) ((M 0) (12 + 4 * ((X4_placeBy_r (M 0) code).toNatClampNeg) + 2)) (by omega)) (cwV 4 hts gX4_moves_X4_lay rfl rfl rfl (by decide +kernel) ⟨Nat.le_of_ble_eq_true rfl, Nat.le_of_ble_eq_true rfl⟩) hK hP hD hS hA [0] [] [0] rfl (by decide) rfl (by decide) (by decide) rfl (by decide) (kz_recv hK hP (ci := 4) (q0 := 0) rfl rfl) rfl hl.1 rfl (Nat.le_of_ble_eq_true rfl) dX4_moves_37 ⟨Nat.le_of_ble_eq_true rfl, Nat.le_of_ble_eq_true rfl⟩ (fun H locs hP hD hS => ?_)
  refine lv_aload_n hx hb dX4_moves_40 rfl (lv_at hl 2 rfl) ?_
  refine lv_iload_n hx hb dX4_moves_41 rfl (lv_at hl 1 rfl) ?_
  refine kz_mvV (As := [.int (nI (X4_placeBy_r (M 0) code).toNatClampNeg)]) (rest := []) (b := a 0) (wr := []) (bs' := [mdW G a (va_up M 0 (X4_leave_c0 (X4_lay_c0 (M 0) ((X4_firstPlace_r (M 0) k.toNatClampNeg k.toNatClampNeg).toNatClampNeg) (((M 0) (12 + 4 * ((X4_placeBy_r (M 0) code).toNatClampNeg) + 0)) - 1) ((M 0) (12 + 4 * ((X4_placeBy_r (M 0) code).toNatClampNeg) + 1)) ((M 0) (12 + 4 * ((X4_placeBy_r (M 0) code).toNatClampNeg) + 2))) ((X4_placeBy_r (M 0) code).toNatClampNeg)))]) ⟨hx, hb, hml, hown, hts⟩ (c_X4_leave l G a (va_up M 0 (X4_lay_c0 (M 0) ((X4_firstPlace_r (M 0) k.toNatClampNeg k.toNatClampNeg).toNatClampNeg) (((M 0) (12 + 4 * ((X4_placeBy_r (M 0) code).toNatClampNeg) + 0)) - 1) ((M 0) (12 + 4 * ((X4_placeBy_r (M 0) code).toNatClampNeg) + 1)) ((M 0) (12 + 4 * ((X4_placeBy_r (M 0) code).toNatClampNeg) + 2)))) ((X4_placeBy_r (M 0) code).toNatClampNeg) (by omega) (by rw [va_up_self]; exact kz_layw (hMp.2 htk) ht)) (cwV 1 hts gX4_moves_X4_leave rfl rfl rfl (by decide +kernel) ⟨Nat.le_of_ble_eq_true rfl, Nat.le_of_ble_eq_true rfl⟩) hK hP hD hS hA [0] [] [0] rfl (by decide) rfl (by decide) (by decide) rfl (by decide) (kz_recv hK hP (ci := 4) (q0 := 0) rfl rfl) rfl hl.1 rfl (Nat.le_of_ble_eq_true rfl) dX4_moves_42 ⟨Nat.le_of_ble_eq_true rfl, Nat.le_of_ble_eq_true rfl⟩ (fun H locs hP hD hS => ?_)
  refine lv_aload_n hx hb dX4_moves_45 rfl (lv_at hl 2 rfl) ?_
  refine lv_iload hx hb dX4_moves_46 (lv_at hl 0 rfl) ?_
  refine kz_rdV (As := [.int (nI (X4_firstPlace_r (M 0) k.toNatClampNeg k.toNatClampNeg).toNatClampNeg)]) (rest := []) (b := a 0) ⟨hx, hb, hml, hown, hts⟩ (c_X4_codeOn l G a (va_up M 0 (X4_leave_c0 (X4_lay_c0 (M 0) ((X4_firstPlace_r (M 0) k.toNatClampNeg k.toNatClampNeg).toNatClampNeg) (((M 0) (12 + 4 * ((X4_placeBy_r (M 0) code).toNatClampNeg) + 0)) - 1) ((M 0) (12 + 4 * ((X4_placeBy_r (M 0) code).toNatClampNeg) + 1)) ((M 0) (12 + 4 * ((X4_placeBy_r (M 0) code).toNatClampNeg) + 2))) ((X4_placeBy_r (M 0) code).toNatClampNeg))) ((X4_firstPlace_r (M 0) k.toNatClampNeg k.toNatClampNeg).toNatClampNeg) (by omega)) (cwV 1 hts gX4_moves_X4_codeOn rfl rfl rfl (by decide +kernel) ⟨Nat.le_of_ble_eq_true rfl, Nat.le_of_ble_eq_true rfl⟩) hK hP (kz_recv hK hP (ci := 4) (q0 := 0) rfl rfl) rfl hl.1 rfl (Nat.le_of_ble_eq_true rfl) dX4_moves_48 ⟨Nat.le_of_ble_eq_true rfl, Nat.le_of_ble_eq_true rfl⟩ ?_
  subst hQ
  have hP9 : kz_P G [mdW G a (va_up M 0 (X4_moves_c0 (M 0) code k))] H := hP
  have hD9 : kz_D A [mdW G a (va_up M 0 (X4_moves_c0 (M 0) code k))] := hD
  exact W.iret (v := (X4_codeOn_r (X4_leave_c0 (X4_lay_c0 (M 0) ((X4_firstPlace_r (M 0) k.toNatClampNeg k.toNatClampNeg).toNatClampNeg) (((M 0) (12 + 4 * ((X4_placeBy_r (M 0) code).toNatClampNeg) + 0)) - 1) ((M 0) (12 + 4 * ((X4_placeBy_r (M 0) code).toNatClampNeg) + 1)) ((M 0) (12 + 4 * ((X4_placeBy_r (M 0) code).toNatClampNeg) + 2))) ((X4_placeBy_r (M 0) code).toNatClampNeg)) ((X4_firstPlace_r (M 0) k.toNatClampNeg k.toNatClampNeg).toNatClampNeg))) hx hb hr (fun t ht hW => ⟨⟨(X4_codeOn_r (X4_leave_c0 (X4_lay_c0 (M 0) ((X4_firstPlace_r (M 0) k.toNatClampNeg k.toNatClampNeg).toNatClampNeg) (((M 0) (12 + 4 * ((X4_placeBy_r (M 0) code).toNatClampNeg) + 0)) - 1) ((M 0) (12 + 4 * ((X4_placeBy_r (M 0) code).toNatClampNeg) + 1)) ((M 0) (12 + 4 * ((X4_placeBy_r (M 0) code).toNatClampNeg) + 2))) ((X4_placeBy_r (M 0) code).toNatClampNeg)) ((X4_firstPlace_r (M 0) k.toNatClampNeg k.toNatClampNeg).toNatClampNeg)), (), rfl, rfl, by rw [ht]; exact hP9, hD9⟩, hS.F ht⟩) hS.2.2 dX4_moves_51
def X4_move_r (z0 : Nat → Int32) (z1 : Nat → Int32) (z2 : Int32) (z6 : Int32) (z7 : Int32) (code : Int32) (k : Int32) : Int32 := if 0 ≤ (X4_whyNotMove_r z0 z6 z7 code k) then (X4_moves_r z0 code k) else (X4_whyNotMove_r z0 z6 z7 code k)
def X4_move_c0 (z0 : Nat → Int32) (z1 : Nat → Int32) (z2 : Int32) (z6 : Int32) (z7 : Int32) (code : Int32) (k : Int32) : Nat → Int32 := if 0 ≤ (X4_whyNotMove_r z0 z6 z7 code k) then (X4_moves_c0 z0 code k) else z0
def X4_move_c1 (z0 : Nat → Int32) (z1 : Nat → Int32) (z2 : Int32) (z6 : Int32) (z7 : Int32) (code : Int32) (k : Int32) : Nat → Int32 := if 0 ≤ (X4_whyNotMove_r z0 z6 z7 code k) then (X4_record_c1 z0 z1 z2) else z1
def X4_move_c2 (z0 : Nat → Int32) (z1 : Nat → Int32) (z2 : Int32) (z6 : Int32) (z7 : Int32) (code : Int32) (k : Int32) : Int32 := if 0 ≤ (X4_whyNotMove_r z0 z6 z7 code k) then (X4_record_c2 z0 z1 z2) else z2
def X4_move_c6 (z0 : Nat → Int32) (z1 : Nat → Int32) (z2 : Int32) (z6 : Int32) (z7 : Int32) (code : Int32) (k : Int32) : Int32 := if 0 ≤ (X4_whyNotMove_r z0 z6 z7 code k) then (X4_whyNotMove_c6 z0 z6 z7 code k) else (X4_whyNotMove_c6 z0 z6 z7 code k)
def X4_move_c7 (z0 : Nat → Int32) (z1 : Nat → Int32) (z2 : Int32) (z6 : Int32) (z7 : Int32) (code : Int32) (k : Int32) : Int32 := if 0 ≤ (X4_whyNotMove_r z0 z6 z7 code k) then (X4_whyNotMove_c7 z0 z6 z7 code k) else (X4_whyNotMove_c7 z0 z6 z7 code k)
set_option maxHeartbeats 1000000 in
set_option maxRecDepth 100000 in
theorem c_X4_move (l : Launch) (G : kz_G) (a : Nat → Nat) (M : kz_S) (code : Int32) (k : Int32) (hM : kz_M (M 0)) (ht : ∃ d, d < 2 ^ 30 ∧ M 0 5 = nI d) (hpm : ∃ n, n ≤ 5 ∧ M 2 0 = nI n) : kz_mi l G yX4_move wsX4_move 4 93 [.ref (a 0), .int code, .int k] [mdW G a M] [mdW G a (va_up (va_up (va_up (va_up (va_up M 0 (X4_move_c0 (M 0) (M 1) (M 2 0) (M 6 0) (M 7 0) code k)) 1 (X4_move_c1 (M 0) (M 1) (M 2 0) (M 6 0) (M 7 0) code k)) 2 (fun _ => (X4_move_c2 (M 0) (M 1) (M 2 0) (M 6 0) (M 7 0) code k))) 6 (fun _ => (X4_move_c6 (M 0) (M 1) (M 2 0) (M 6 0) (M 7 0) code k))) 7 (fun _ => (X4_move_c7 (M 0) (M 1) (M 2 0) (M 6 0) (M 7 0) code k)))] (X4_move_r (M 0) (M 1) (M 2 0) (M 6 0) (M 7 0) code k) := by
  intro sz
  refine Met.ofW (cc := cX4_move) (maxL := 4) (ret := (some .int)) (by decide) rfl ?_
  intro p e s m args below meth c s₁ B hml hv
  obtain ⟨rfl, hsz, hP, hK, hD0⟩ := hv
  have hx := B.exec
  have hb := B.bytes
  have hr := B.returns
  have hts := atoms_spec (ws := wsX4_move) B.pre
  have hown : s.vm.findClass RX4 = some m.cls := findClass_of_methodNamed B.named
  have hlocks := B.notSynchronized
  subst hsz
  have hD := hD0.self (sz := s.heap.size)
  generalize hAe : kz_A [mdW G a M] s.heap.size = A at hD ⊢
  have hA : ∀ q : Nat, s.heap.size ≤ q → A q := fun q h => by rw [← hAe]; exact Or.inr h
  have hS : va_S A s.heap s.heap [] := va_S.rf
  have hl := lv_entry ([.ref (a 0), .int code, .int k]) (n := 4) (Nat.le_of_ble_eq_true rfl)
  rw [lg_entry_eq]
  generalize (lg_sl ([.ref (a 0), .int code, .int k]) ++ List.replicate (4 - (lg_sl ([.ref (a 0), .int code, .int k])).length) Slot.unset).toArray = ls at hl ⊢
  have hl : lv_has ls 4 [(0, .ref (a 0)), (1, .int code), (2, .int k)] := hl
  refine kz_start (fun QQ hQ => ?_)
  have hP : kz_P G [mdW G a M] s.heap := hP
  refine lv_aload_n hx hb dX4_move_0 rfl (lv_at hl 0 rfl) ?_
  refine lv_iload_n hx hb dX4_move_1 rfl (lv_at hl 1 rfl) ?_
  refine lv_iload_n hx hb dX4_move_2 rfl (lv_at hl 2 rfl) ?_
  refine kz_miV (As := [.int code, .int k]) (rest := []) (b := a 0) (wr := []) (bs' := [mdW G a (va_up (va_up M 6 (fun _ => (X4_whyNotMove_c6 (M 0) (M 6 0) (M 7 0) code k))) 7 (fun _ => (X4_whyNotMove_c7 (M 0) (M 6 0) (M 7 0) code k)))]) ⟨hx, hb, hml, hown, hts⟩ (c_X4_whyNotMove l G a M code k hM ht) (cwV 2 hts gX4_move_X4_whyNotMove rfl rfl rfl (by decide +kernel) ⟨Nat.le_of_ble_eq_true rfl, Nat.le_of_ble_eq_true rfl⟩) hK hP hD hS hA [0] [] [0] rfl (by decide) rfl (by decide) (by decide) rfl (by decide) (kz_recv hK hP (ci := 4) (q0 := 0) rfl rfl) rfl hl.1 rfl (Nat.le_of_ble_eq_true rfl) dX4_move_3 ⟨Nat.le_of_ble_eq_true rfl, Nat.le_of_ble_eq_true rfl⟩ (fun H locs hP hD hS => ?_)
  refine lv_istore_n (lv' := [(3, .int (X4_whyNotMove_r (M 0) (M 6 0) (M 7 0) code k)), (0, .ref (a 0)), (1, .int code), (2, .int k)]) hx hb dX4_move_6 rfl hl (by decide) rfl (fun ls hl => ?_)
  refine lv_iload_n hx hb dX4_move_7 rfl (lv_at hl 0 rfl) ?_
  refine lv_if_ge (tgt := 13) hx hb dX4_move_8 (by decide) (fun c_1 => ?_) (fun c_1 => ?_)
  · have hwn := kz_wnm c_1
    refine lv_aload_n hx hb dX4_move_13 rfl (lv_at hl 1 rfl) ?_
    refine kz_mvV (As := []) (rest := []) (b := a 0) (wr := []) (bs' := [mdW G a (va_up (va_up (va_up (va_up M 6 (fun _ => (X4_whyNotMove_c6 (M 0) (M 6 0) (M 7 0) code k))) 7 (fun _ => (X4_whyNotMove_c7 (M 0) (M 6 0) (M 7 0) code k))) 1 (X4_record_c1 (M 0) (M 1) (M 2 0))) 2 (fun _ => (X4_record_c2 (M 0) (M 1) (M 2 0))))]) ⟨hx, hb, hml, hown, hts⟩ (c_X4_record l G a (va_up (va_up M 6 (fun _ => (X4_whyNotMove_c6 (M 0) (M 6 0) (M 7 0) code k))) 7 (fun _ => (X4_whyNotMove_c7 (M 0) (M 6 0) (M 7 0) code k))) hpm) (cwV 0 hts gX4_move_X4_record rfl rfl rfl (by decide +kernel) ⟨Nat.le_of_ble_eq_true rfl, Nat.le_of_ble_eq_true rfl⟩) hK hP hD hS hA [0] [] [0] rfl (by decide) rfl (by decide) (by decide) rfl (by decide) (kz_recv hK hP (ci := 4) (q0 := 0) rfl rfl) rfl hl.1 rfl (Nat.le_of_ble_eq_true rfl) dX4_move_14 ⟨Nat.le_of_ble_eq_true rfl, Nat.le_of_ble_eq_true rfl⟩ (fun H locs hP hD hS => ?_)
    refine lv_aload_n hx hb dX4_move_17 rfl (lv_at hl 1 rfl) ?_
    refine lv_iload_n hx hb dX4_move_18 rfl (lv_at hl 2 rfl) ?_
    refine lv_iload_n hx hb dX4_move_19 rfl (lv_at hl 3 rfl) ?_
    refine kz_miV (As := [.int code, .int k]) (rest := []) (b := a 0) (wr := []) (bs' := [mdW G a (va_up (va_up (va_up (va_up (va_up M 6 (fun _ => (X4_whyNotMove_c6 (M 0) (M 6 0) (M 7 0) code k))) 7 (fun _ => (X4_whyNotMove_c7 (M 0) (M 6 0) (M 7 0) code k))) 1 (X4_record_c1 (M 0) (M 1) (M 2 0))) 2 (fun _ => (X4_record_c2 (M 0) (M 1) (M 2 0)))) 0 (X4_moves_c0 (M 0) code k))]) ⟨hx, hb, hml, hown, hts⟩ (c_X4_moves l G a (va_up (va_up (va_up (va_up M 6 (fun _ => (X4_whyNotMove_c6 (M 0) (M 6 0) (M 7 0) code k))) 7 (fun _ => (X4_whyNotMove_c7 (M 0) (M 6 0) (M 7 0) code k))) 1 (X4_record_c1 (M 0) (M 1) (M 2 0))) 2 (fun _ => (X4_record_c2 (M 0) (M 1) (M 2 0)))) code k hM ht hwn.1 hwn.2.1 hwn.2.2) (cwV 2 hts gX4_move_X4_moves rfl rfl rfl (by decide +kernel) ⟨Nat.le_of_ble_eq_true rfl, Nat.le_of_ble_eq_true rfl⟩) hK hP hD hS hA [0] [] [0] rfl (by decide) rfl (by decide) (by decide) rfl (by decide) (kz_recv hK hP (ci := 4) (q0 := 0) rfl rfl) rfl hl.1 rfl (Nat.le_of_ble_eq_true rfl) dX4_move_20 ⟨Nat.le_of_ble_eq_true rfl, Nat.le_of_ble_eq_true rfl⟩ (fun H locs hP hD hS => ?_)
    subst hQ
    have hP9 : kz_P G [mdW G a (va_up (va_up (va_up (va_up (va_up M 0 (X4_move_c0 (M 0) (M 1) (M 2 0) (M 6 0) (M 7 0) code k)) 1 (X4_move_c1 (M 0) (M 1) (M 2 0) (M 6 0) (M 7 0) code k)) 2 (fun _ => (X4_move_c2 (M 0) (M 1) (M 2 0) (M 6 0) (M 7 0) code k))) 6 (fun _ => (X4_move_c6 (M 0) (M 1) (M 2 0) (M 6 0) (M 7 0) code k))) 7 (fun _ => (X4_move_c7 (M 0) (M 1) (M 2 0) (M 6 0) (M 7 0) code k)))] H := by rw [X4_move_c0, if_pos c_1]; rw [X4_move_c1, if_pos c_1]; rw [X4_move_c2, if_pos c_1]; rw [X4_move_c6, if_pos c_1]; rw [X4_move_c7, if_pos c_1]; exact hP
    have hD9 : kz_D A [mdW G a (va_up (va_up (va_up (va_up (va_up M 0 (X4_move_c0 (M 0) (M 1) (M 2 0) (M 6 0) (M 7 0) code k)) 1 (X4_move_c1 (M 0) (M 1) (M 2 0) (M 6 0) (M 7 0) code k)) 2 (fun _ => (X4_move_c2 (M 0) (M 1) (M 2 0) (M 6 0) (M 7 0) code k))) 6 (fun _ => (X4_move_c6 (M 0) (M 1) (M 2 0) (M 6 0) (M 7 0) code k))) 7 (fun _ => (X4_move_c7 (M 0) (M 1) (M 2 0) (M 6 0) (M 7 0) code k)))] := by rw [X4_move_c0, if_pos c_1]; rw [X4_move_c1, if_pos c_1]; rw [X4_move_c2, if_pos c_1]; rw [X4_move_c6, if_pos c_1]; rw [X4_move_c7, if_pos c_1]; exact hD
    exact W.iret (v := (X4_moves_r (M 0) code k)) hx hb hr (fun t ht hW => ⟨⟨(X4_moves_r (M 0) code k), (), rfl, (by rw [X4_move_r, if_pos c_1]), by rw [ht]; exact hP9, hD9⟩, hS.F ht⟩) hS.2.2 dX4_move_23
  · refine lv_iload_n hx hb dX4_move_11 rfl (lv_at hl 0 rfl) ?_
    subst hQ
    have hP9 : kz_P G [mdW G a (va_up (va_up (va_up (va_up (va_up M 0 (X4_move_c0 (M 0) (M 1) (M 2 0) (M 6 0) (M 7 0) code k)) 1 (X4_move_c1 (M 0) (M 1) (M 2 0) (M 6 0) (M 7 0) code k)) 2 (fun _ => (X4_move_c2 (M 0) (M 1) (M 2 0) (M 6 0) (M 7 0) code k))) 6 (fun _ => (X4_move_c6 (M 0) (M 1) (M 2 0) (M 6 0) (M 7 0) code k))) 7 (fun _ => (X4_move_c7 (M 0) (M 1) (M 2 0) (M 6 0) (M 7 0) code k)))] H := by rw [X4_move_c0, if_neg c_1]; rw [X4_move_c1, if_neg c_1]; rw [X4_move_c2, if_neg c_1]; rw [X4_move_c6, if_neg c_1]; rw [X4_move_c7, if_neg c_1]; exact hP
    have hD9 : kz_D A [mdW G a (va_up (va_up (va_up (va_up (va_up M 0 (X4_move_c0 (M 0) (M 1) (M 2 0) (M 6 0) (M 7 0) code k)) 1 (X4_move_c1 (M 0) (M 1) (M 2 0) (M 6 0) (M 7 0) code k)) 2 (fun _ => (X4_move_c2 (M 0) (M 1) (M 2 0) (M 6 0) (M 7 0) code k))) 6 (fun _ => (X4_move_c6 (M 0) (M 1) (M 2 0) (M 6 0) (M 7 0) code k))) 7 (fun _ => (X4_move_c7 (M 0) (M 1) (M 2 0) (M 6 0) (M 7 0) code k)))] := by rw [X4_move_c0, if_neg c_1]; rw [X4_move_c1, if_neg c_1]; rw [X4_move_c2, if_neg c_1]; rw [X4_move_c6, if_neg c_1]; rw [X4_move_c7, if_neg c_1]; exact hD
    exact W.iret (v := (X4_whyNotMove_r (M 0) (M 6 0) (M 7 0) code k)) hx hb hr (fun t ht hW => ⟨⟨(X4_whyNotMove_r (M 0) (M 6 0) (M 7 0) code k), (), rfl, (by rw [X4_move_r, if_neg c_1]), by rw [ht]; exact hP9, hD9⟩, hS.F ht⟩) hS.2.2 dX4_move_12
