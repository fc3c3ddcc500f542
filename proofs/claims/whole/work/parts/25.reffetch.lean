def X4_fetches_r (z0 : Nat → Int32) (code : Int32) : Int32 := if (X4_placeBy_r z0 code) = (-6) then (-7) else (X4_feeOn_r z0 ((X4_placeBy_r z0 code).toNatClampNeg) (z0 5))
def X4_fetches_c0 (z0 : Nat → Int32) (code : Int32) : Nat → Int32 := if (X4_placeBy_r z0 code) = (-6) then (upd z0 6 ((z0 6) + 1)) else (X4_leave_c0 (X4_count_c0 (upd (upd z0 10 ((z0 10) + (X4_feeOn_r z0 ((X4_placeBy_r z0 code).toNatClampNeg) (z0 5)))) 8 (((upd z0 10 ((z0 10) + (X4_feeOn_r z0 ((X4_placeBy_r z0 code).toNatClampNeg) (z0 5)))) 8) + 1)) ((((upd (upd z0 10 ((z0 10) + (X4_feeOn_r z0 ((X4_placeBy_r z0 code).toNatClampNeg) (z0 5)))) 8 (((upd z0 10 ((z0 10) + (X4_feeOn_r z0 ((X4_placeBy_r z0 code).toNatClampNeg) (z0 5)))) 8) + 1)) (12 + 4 * ((X4_placeBy_r z0 code).toNatClampNeg) + 0)) - 1).toNatClampNeg) 2 1) ((X4_placeBy_r z0 code).toNatClampNeg))
set_option maxHeartbeats 1000000 in
set_option maxRecDepth 100000 in
theorem c_X4_fetches (l : Launch) (G : kz_G) (a : Nat → Nat) (M : kz_S) (code : Int32) (hM : kz_M (M 0)) : kz_mi l G yX4_fetches wsX4_fetches 3 69 [.ref (a 0), .int code] [mdW G a M] [mdW G a (va_up M 0 (X4_fetches_c0 (M 0) code))] (X4_fetches_r (M 0) code) := by
  intro sz
  refine Met.ofW (cc := cX4_fetches) (maxL := 4) (ret := (some .int)) (by decide) rfl ?_
  intro p e s m args below meth c s₁ B hml hv
  obtain ⟨rfl, hsz, hP, hK, hD0⟩ := hv
  have hx := B.exec
  have hb := B.bytes
  have hr := B.returns
  have hts := atoms_spec (ws := wsX4_fetches) B.pre
  have hown : s.vm.findClass RX4 = some m.cls := findClass_of_methodNamed B.named
  have hlocks := B.notSynchronized
  have hinX4 : ∀ w ∈ u_ws RX4 TX4 14, w ∈ wsX4_fetches := by decide +kernel
  subst hsz
  have hD := hD0.self (sz := s.heap.size)
  generalize hAe : kz_A [mdW G a M] s.heap.size = A at hD ⊢
  have hA : ∀ q : Nat, s.heap.size ≤ q → A q := fun q h => by rw [← hAe]; exact Or.inr h
  have hS : va_S A s.heap s.heap [] := va_S.rf
  have hl := lv_entry ([.ref (a 0), .int code]) (n := 4) (Nat.le_of_ble_eq_true rfl)
  rw [lg_entry_eq]
  generalize (lg_sl ([.ref (a 0), .int code]) ++ List.replicate (4 - (lg_sl ([.ref (a 0), .int code])).length) Slot.unset).toArray = ls at hl ⊢
  have hl : lv_has ls 4 [(0, .ref (a 0)), (1, .int code)] := hl
  refine kz_start (fun QQ hQ => ?_)
  have hP : kz_P G [mdW G a M] s.heap := hP
  refine lv_aload_n hx hb dX4_fetches_0 rfl (lv_at hl 0 rfl) ?_
  refine lv_iload_n hx hb dX4_fetches_1 rfl (lv_at hl 1 rfl) ?_
  refine kz_rdV (As := [.int code]) (rest := []) (b := a 0) ⟨hx, hb, hml, hown, hts⟩ (c_X4_placeBy l G a M code) (cwV 1 hts gX4_fetches_X4_placeBy rfl rfl rfl (by decide +kernel) ⟨Nat.le_of_ble_eq_true rfl, Nat.le_of_ble_eq_true rfl⟩) hK hP (kz_recv hK hP (ci := 4) (q0 := 0) rfl rfl) rfl hl.1 rfl (Nat.le_of_ble_eq_true rfl) dX4_fetches_2 ⟨Nat.le_of_ble_eq_true rfl, Nat.le_of_ble_eq_true rfl⟩ ?_
  refine lv_istore_n (lv' := [(2, .int (X4_placeBy_r (M 0) code)), (0, .ref (a 0)), (1, .int code)]) hx hb dX4_fetches_5 rfl hl (by decide) rfl (fun ls hl => ?_)
  refine lv_iload_n hx hb dX4_fetches_6 rfl (lv_at hl 0 rfl) ?_
  refine lv_bipush (v := (-6)) hx hb dX4_fetches_7 (by decide +kernel) ?_
  refine lv_icmp_ne (tgt := 26) hx hb dX4_fetches_9 (by decide) (fun c_1 => ?_) (fun c_1 => ?_)
  · obtain ⟨hcv2, hcl2⟩ := kz_back (kz_pbIn c_1) (by decide)
    have hl : lv_has ls 4 [(2, .int (nI (X4_placeBy_r (M 0) code).toNatClampNeg)), (0, .ref (a 0)), (1, .int code)] := by rw [← hcv2]; exact hl
    have htk := kz_pbT c_1
    have hMp := hM.2 (X4_placeBy_r (M 0) code).toNatClampNeg (by omega)
    refine lv_aload_n hx hb dX4_fetches_26 rfl (lv_at hl 1 rfl) ?_
    refine lv_iload_n hx hb dX4_fetches_27 rfl (lv_at hl 0 rfl) ?_
    refine lv_aload_n hx hb dX4_fetches_28 rfl (lv_at hl 1 rfl) ?_
    refine va_get (D := G.1) (ci := 4) (v := .ref (a 1)) (C := RX4) (T := TX4) (N := 14) hx hb hts hinX4 hown hK.1 hP 0 rfl rfl 0 (by decide) (hts (.fieldLink RX4 7 "ParcelShelvesModel" "z" "[I") (by decide +kernel)) (fun _ h9 => h9) rfl dX4_fetches_29 ?_
    refine lv_iconst (v := 5) hx hb dX4_fetches_32 (by decide +kernel) ?_
    refine va_iald (f := (M 0)) hx hb hK.1 hP 1 0 rfl rfl (vp_in_nI (n := 5) (N := 580) (by decide) (by decide)) dX4_fetches_33 ?_
    refine lv_topi (fun y_3 ey_4 => ?_)
    obtain rfl : y_3 = ((M 0) 5) := by rw [ey_4]; rfl
    refine kz_rdV (As := [.int (nI (X4_placeBy_r (M 0) code).toNatClampNeg), .int ((M 0) 5)]) (rest := []) (b := a 0) ⟨hx, hb, hml, hown, hts⟩ (c_X4_feeOn l G a M ((X4_placeBy_r (M 0) code).toNatClampNeg) ((M 0) 5) (by omega)) (cwV 2 hts gX4_fetches_X4_feeOn rfl rfl rfl (by decide +kernel) ⟨Nat.le_of_ble_eq_true rfl, Nat.le_of_ble_eq_true rfl⟩) hK hP (kz_recv hK hP (ci := 4) (q0 := 0) rfl rfl) rfl hl.1 rfl (Nat.le_of_ble_eq_true rfl) dX4_fetches_34 ⟨Nat.le_of_ble_eq_true rfl, Nat.le_of_ble_eq_true rfl⟩ ?_
    refine lv_istore_n (lv' := [(3, .int (X4_feeOn_r (M 0) ((X4_placeBy_r (M 0) code).toNatClampNeg) ((M 0) 5))), (2, .int (nI (X4_placeBy_r (M 0) code).toNatClampNeg)), (0, .ref (a 0)), (1, .int code)]) hx hb dX4_fetches_37 rfl hl (by decide) rfl (fun ls hl => ?_)
    refine lv_aload_n hx hb dX4_fetches_38 rfl (lv_at hl 2 rfl) ?_
    refine va_get (D := G.1) (ci := 4) (v := .ref (a 1)) (C := RX4) (T := TX4) (N := 14) hx hb hts hinX4 hown hK.1 hP 0 rfl rfl 0 (by decide) (hts (.fieldLink RX4 7 "ParcelShelvesModel" "z" "[I") (by decide +kernel)) (fun _ h9 => h9) rfl dX4_fetches_39 ?_
    refine lv_bipush (v := 10) hx hb dX4_fetches_42 (by decide +kernel) ?_
    refine lv_dup2_11 hx hb dX4_fetches_44 rfl rfl ?_
    refine va_iald (f := (M 0)) hx hb hK.1 hP 1 0 rfl rfl (vp_in_nI (n := 10) (N := 580) (by decide) (by decide)) dX4_fetches_45 ?_
    refine lv_topi (fun y_5 ey_6 => ?_)
    obtain rfl : y_5 = ((M 0) 10) := by rw [ey_6]; rfl
    refine lv_iload_n hx hb dX4_fetches_46 rfl (lv_at hl 0 rfl) ?_
    refine lv_iadd hx hb dX4_fetches_47 ?_
    refine va_iast hx hb hK.1 hP hD hS 1 0 rfl rfl (vp_in_nI (n := 10) (N := 580) (by decide) (by decide)) dX4_fetches_48 (fun H locs hP hD hS => ?_)
    have hP : kz_P G [mdW G a (va_up M 0 (upd (M 0) 10 (((M 0) 10) + (X4_feeOn_r (M 0) ((X4_placeBy_r (M 0) code).toNatClampNeg) ((M 0) 5)))))] H := hP
    have hD : kz_D A [mdW G a (va_up M 0 (upd (M 0) 10 (((M 0) 10) + (X4_feeOn_r (M 0) ((X4_placeBy_r (M 0) code).toNatClampNeg) ((M 0) 5)))))] := hD
    obtain ⟨z1, ez1⟩ : ∃ z, z = (upd (M 0) 10 (((M 0) 10) + (X4_feeOn_r (M 0) ((X4_placeBy_r (M 0) code).toNatClampNeg) ((M 0) 5)))) := ⟨_, rfl⟩
    have hP : kz_P G [mdW G a (va_up M 0 z1)] H := by rw [ez1]; exact hP
    have hD : kz_D A [mdW G a (va_up M 0 z1)] := by rw [ez1]; exact hD
    refine lv_aload_n hx hb dX4_fetches_49 rfl (lv_at hl 2 rfl) ?_
    refine va_get (D := G.1) (ci := 4) (v := .ref (a 1)) (C := RX4) (T := TX4) (N := 14) hx hb hts hinX4 hown hK.1 hP 0 rfl rfl 0 (by decide) (hts (.fieldLink RX4 7 "ParcelShelvesModel" "z" "[I") (by decide +kernel)) (fun _ h9 => h9) rfl dX4_fetches_50 ?_
    refine lv_bipush (v := 8) hx hb dX4_fetches_53 (by decide +kernel) ?_
    refine lv_dup2_11 hx hb dX4_fetches_55 rfl rfl ?_
    refine va_iald (f := z1) hx hb hK.1 hP 1 0 rfl rfl (vp_in_nI (n := 8) (N := 580) (by decide) (by decide)) dX4_fetches_56 ?_
    refine lv_topi (fun y_7 ey_8 => ?_)
    obtain rfl : y_7 = (z1 8) := by rw [ey_8]; rfl
    refine lv_iconst (v := 1) hx hb dX4_fetches_57 (by decide +kernel) ?_
    refine lv_iadd hx hb dX4_fetches_58 ?_
    refine va_iast hx hb hK.1 hP hD hS 1 0 rfl rfl (vp_in_nI (n := 8) (N := 580) (by decide) (by decide)) dX4_fetches_59 (fun H locs hP hD hS => ?_)
    have hP : kz_P G [mdW G a (va_up M 0 (upd z1 8 ((z1 8) + 1)))] H := hP
    have hD : kz_D A [mdW G a (va_up M 0 (upd z1 8 ((z1 8) + 1)))] := hD
    obtain ⟨z2, ez2⟩ : ∃ z, z = (upd z1 8 ((z1 8) + 1)) := ⟨_, rfl⟩
    have hP : kz_P G [mdW G a (va_up M 0 z2)] H := by rw [ez2]; exact hP
    have hD : kz_D A [mdW G a (va_up M 0 z2)] := by rw [ez2]; exact hD
    refine lv_aload_n hx hb dX4_fetches_60 rfl (lv_at hl 2 rfl) ?_
    refine lv_aload_n hx hb dX4_fetches_61 rfl (lv_at hl 2 rfl) ?_
    refine lv_iload_n hx hb dX4_fetches_62 rfl (lv_at hl 1 rfl) ?_
    refine lv_iconst (v := 0) hx hb dX4_fetches_63 (by decide +kernel) ?_
    refine kz_rdV (As := [.int (nI (X4_placeBy_r (M 0) code).toNatClampNeg), .int 0]) (rest := [.ref (a 0)]) (b := a 0) ⟨hx, hb, hml, hown, hts⟩ (c_X4_at l G a (va_up M 0 z2) ((X4_placeBy_r (M 0) code).toNatClampNeg) 0 (by omega)) (cwV 2 hts gX4_fetches_X4_at rfl rfl rfl (by decide +kernel) ⟨Nat.le_of_ble_eq_true rfl, Nat.le_of_ble_eq_true rfl⟩) hK hP (kz_recv hK hP (ci := 4) (q0 := 0) rfl rfl) rfl hl.1 rfl (Nat.le_of_ble_eq_true rfl) dX4_fetches_64 ⟨Nat.le_of_ble_eq_true rfl, Nat.le_of_ble_eq_true rfl⟩ ?_
    refine lv_topi (fun y_9 ey_10 => ?_)
    obtain rfl : y_9 = (z2 (12 + 4 * ((X4_placeBy_r (M 0) code).toNatClampNeg) + 0)) := by rw [ey_10, va_up_self]
    refine lv_iconst (v := 1) hx hb dX4_fetches_67 (by decide +kernel) ?_
    refine lv_isub hx hb dX4_fetches_68 ?_
    refine lv_topi (fun y_11 ey_12 => ?_)
    obtain rfl : y_11 = (nI ((z2 (12 + 4 * ((X4_placeBy_r (M 0) code).toNatClampNeg) + 0)) - 1).toNatClampNeg) := by rw [ey_12]; exact (kz_back (kz_sdE (by rw [ez2, pk_un (by omega), ez1, pk_un (by omega)]) hMp.1 htk) (by decide)).1
    have hk10 : ((z2 (12 + 4 * ((X4_placeBy_r (M 0) code).toNatClampNeg) + 0)) - 1).toNatClampNeg < 10 := (kz_back (kz_sdE (by rw [ez2, pk_un (by omega), ez1, pk_un (by omega)]) hMp.1 htk) (by decide)).2
    refine lv_iconst (v := 2) hx hb dX4_fetches_69 (by decide +kernel) ?_
    refine lv_iconst (v := 1) hx hb dX4_fetches_70 (by decide +kernel) ?_
    refine kz_mvV (As := [.int (nI ((z2 (12 + 4 * ((X4_placeBy_r (M 0) code).toNatClampNeg) + 0)) - 1).toNatClampNeg), .int 2, .int 1]) (rest := []) (b := a 0) (wr := []) (bs' := [mdW G a (va_up M 0 (X4_count_c0 z2 (((z2 (12 + 4 * ((X4_placeBy_r (M 0) code).toNatClampNeg) + 0)) - 1).toNatClampNeg) 2 1))]) ⟨hx, hb, hml, hown, hts⟩ (c_X4_count l G a (va_up M 0 z2) (((z2 (12 + 4 * ((X4_placeBy_r (M 0) code).toNatClampNeg) + 0)) - 1).toNatClampNeg) 2 1 (by omega)) (cwV 3 hts gX4_fetches_X4_count rfl rfl rfl (by decide +kernel) ⟨Nat.le_of_ble_eq_true rfl, Nat.le_of_ble_eq_true rfl⟩) hK hP hD hS hA [0] [] [0] rfl (by decide) rfl (by decide) (by decide) rfl (by decide) (kz_recv hK hP (ci := 4) (q0 := 0) rfl rfl) rfl hl.1 rfl (Nat.le_of_ble_eq_true rfl) dX4_fetches_71 ⟨Nat.le_of_ble_eq_true rfl, Nat.le_of_ble_eq_true rfl⟩ (fun H locs hP hD hS => ?_)
    obtain ⟨z3, ez3⟩ : ∃ z, z = (X4_count_c0 z2 (((z2 (12 + 4 * ((X4_placeBy_r (M 0) code).toNatClampNeg) + 0)) - 1).toNatClampNeg) 2 1) := ⟨_, rfl⟩
    have hP : kz_P G [mdW G a (va_up M 0 z3)] H := by rw [ez3]; exact hP
    have hD : kz_D A [mdW G a (va_up M 0 z3)] := by rw [ez3]; exact hD
    have hw3 : z3 (12 + 4 * (X4_placeBy_r (M 0) code).toNatClampNeg + 3) = (M 0) (12 + 4 * (X4_placeBy_r (M 0) code).toNatClampNeg + 3) := by rw [ez3, X4_count_c0, pk_un (by omega), ez2, pk_un (by omega), ez1, pk_un (by omega)]
    refine lv_aload_n hx hb dX4_fetches_74 rfl (lv_at hl 2 rfl) ?_
    refine lv_iload_n hx hb dX4_fetches_75 rfl (lv_at hl 1 rfl) ?_
    refine kz_mvV (As := [.int (nI (X4_placeBy_r (M 0) code).toNatClampNeg)]) (rest := []) (b := a 0) (wr := []) (bs' := [mdW G a (va_up M 0 (X4_leave_c0 z3 ((X4_placeBy_r (M 0) code).toNatClampNeg)))]) ⟨hx, hb, hml, hown, hts⟩ (c_X4_leave l G a (va_up M 0 z3) ((X4_placeBy_r (M 0) code).toNatClampNeg) (by omega) (kz_wE hw3 (hMp.2 htk))) (cwV 1 hts gX4_fetches_X4_leave rfl rfl rfl (by decide +kernel) ⟨Nat.le_of_ble_eq_true rfl, Nat.le_of_ble_eq_true rfl⟩) hK hP hD hS hA [0] [] [0] rfl (by decide) rfl (by decide) (by decide) rfl (by decide) (kz_recv hK hP (ci := 4) (q0 := 0) rfl rfl) rfl hl.1 rfl (Nat.le_of_ble_eq_true rfl) dX4_fetches_76 ⟨Nat.le_of_ble_eq_true rfl, Nat.le_of_ble_eq_true rfl⟩ (fun H locs hP hD hS => ?_)
    refine lv_iload_n hx hb dX4_fetches_79 rfl (lv_at hl 0 rfl) ?_
    subst hQ
    subst ez3
    subst ez2
    subst ez1
    have hP9 : kz_P G [mdW G a (va_up M 0 (X4_fetches_c0 (M 0) code))] H := by rw [X4_fetches_c0, if_neg c_1]; exact hP
    have hD9 : kz_D A [mdW G a (va_up M 0 (X4_fetches_c0 (M 0) code))] := by rw [X4_fetches_c0, if_neg c_1]; exact hD
    exact W.iret (v := (X4_feeOn_r (M 0) ((X4_placeBy_r (M 0) code).toNatClampNeg) ((M 0) 5))) hx hb hr (fun t ht hW => ⟨⟨(X4_feeOn_r (M 0) ((X4_placeBy_r (M 0) code).toNatClampNeg) ((M 0) 5)), (), rfl, (by rw [X4_fetches_r, if_neg c_1]), by rw [ht]; exact hP9, hD9⟩, hS.F ht⟩) hS.2.2 dX4_fetches_80
  · refine lv_aload_n hx hb dX4_fetches_12 rfl (lv_at hl 1 rfl) ?_
    refine va_get (D := G.1) (ci := 4) (v := .ref (a 1)) (C := RX4) (T := TX4) (N := 14) hx hb hts hinX4 hown hK.1 hP 0 rfl rfl 0 (by decide) (hts (.fieldLink RX4 7 "ParcelShelvesModel" "z" "[I") (by decide +kernel)) (fun _ h9 => h9) rfl dX4_fetches_13 ?_
    refine lv_bipush (v := 6) hx hb dX4_fetches_16 (by decide +kernel) ?_
    refine lv_dup2_11 hx hb dX4_fetches_18 rfl rfl ?_
    refine va_iald (f := (M 0)) hx hb hK.1 hP 1 0 rfl rfl (vp_in_nI (n := 6) (N := 580) (by decide) (by decide)) dX4_fetches_19 ?_
    refine lv_topi (fun y_13 ey_14 => ?_)
    obtain rfl : y_13 = ((M 0) 6) := by rw [ey_14]; rfl
    refine lv_iconst (v := 1) hx hb dX4_fetches_20 (by decide +kernel) ?_
    refine lv_iadd hx hb dX4_fetches_21 ?_
    refine va_iast hx hb hK.1 hP hD hS 1 0 rfl rfl (vp_in_nI (n := 6) (N := 580) (by decide) (by decide)) dX4_fetches_22 (fun H locs hP hD hS => ?_)
    have hP : kz_P G [mdW G a (va_up M 0 (upd (M 0) 6 (((M 0) 6) + 1)))] H := hP
    have hD : kz_D A [mdW G a (va_up M 0 (upd (M 0) 6 (((M 0) 6) + 1)))] := hD
    refine lv_bipush (v := (-7)) hx hb dX4_fetches_23 (by decide +kernel) ?_
    subst hQ
    have hP9 : kz_P G [mdW G a (va_up M 0 (X4_fetches_c0 (M 0) code))] H := by rw [X4_fetches_c0, if_pos c_1]; exact hP
    have hD9 : kz_D A [mdW G a (va_up M 0 (X4_fetches_c0 (M 0) code))] := by rw [X4_fetches_c0, if_pos c_1]; exact hD
    exact W.iret (v := (-7)) hx hb hr (fun t ht hW => ⟨⟨(-7), (), rfl, (by rw [X4_fetches_r, if_pos c_1]), by rw [ht]; exact hP9, hD9⟩, hS.F ht⟩) hS.2.2 dX4_fetches_25
def X4_fetch_r (z0 : Nat → Int32) (z1 : Nat → Int32) (z2 : Int32) (z6 : Int32) (z7 : Int32) (code : Int32) : Int32 := if 0 ≤ (X4_whyNotFetch_r z0 z6 z7 code) then (X4_fetches_r z0 code) else (X4_whyNotFetch_r z0 z6 z7 code)
def X4_fetch_c0 (z0 : Nat → Int32) (z1 : Nat → Int32) (z2 : Int32) (z6 : Int32) (z7 : Int32) (code : Int32) : Nat → Int32 := if 0 ≤ (X4_whyNotFetch_r z0 z6 z7 code) then (X4_fetches_c0 z0 code) else z0
def X4_fetch_c1 (z0 : Nat → Int32) (z1 : Nat → Int32) (z2 : Int32) (z6 : Int32) (z7 : Int32) (code : Int32) : Nat → Int32 := if 0 ≤ (X4_whyNotFetch_r z0 z6 z7 code) then (X4_record_c1 z0 z1 z2) else z1
def X4_fetch_c2 (z0 : Nat → Int32) (z1 : Nat → Int32) (z2 : Int32) (z6 : Int32) (z7 : Int32) (code : Int32) : Int32 := if 0 ≤ (X4_whyNotFetch_r z0 z6 z7 code) then (X4_record_c2 z0 z1 z2) else z2
def X4_fetch_c6 (z0 : Nat → Int32) (z1 : Nat → Int32) (z2 : Int32) (z6 : Int32) (z7 : Int32) (code : Int32) : Int32 := if 0 ≤ (X4_whyNotFetch_r z0 z6 z7 code) then (X4_whyNotFetch_c6 z0 z6 z7 code) else (X4_whyNotFetch_c6 z0 z6 z7 code)
def X4_fetch_c7 (z0 : Nat → Int32) (z1 : Nat → Int32) (z2 : Int32) (z6 : Int32) (z7 : Int32) (code : Int32) : Int32 := if 0 ≤ (X4_whyNotFetch_r z0 z6 z7 code) then (X4_whyNotFetch_c7 z0 z6 z7 code) else (X4_whyNotFetch_c7 z0 z6 z7 code)
set_option maxHeartbeats 1000000 in
set_option maxRecDepth 100000 in
theorem c_X4_fetch (l : Launch) (G : kz_G) (a : Nat → Nat) (M : kz_S) (code : Int32) (hM : kz_M (M 0)) (hpm : ∃ n, n ≤ 5 ∧ M 2 0 = nI n) : kz_mi l G yX4_fetch wsX4_fetch 4 92 [.ref (a 0), .int code] [mdW G a M] [mdW G a (va_up (va_up (va_up (va_up (va_up M 0 (X4_fetch_c0 (M 0) (M 1) (M 2 0) (M 6 0) (M 7 0) code)) 1 (X4_fetch_c1 (M 0) (M 1) (M 2 0) (M 6 0) (M 7 0) code)) 2 (fun _ => (X4_fetch_c2 (M 0) (M 1) (M 2 0) (M 6 0) (M 7 0) code))) 6 (fun _ => (X4_fetch_c6 (M 0) (M 1) (M 2 0) (M 6 0) (M 7 0) code))) 7 (fun _ => (X4_fetch_c7 (M 0) (M 1) (M 2 0) (M 6 0) (M 7 0) code)))] (X4_fetch_r (M 0) (M 1) (M 2 0) (M 6 0) (M 7 0) code) := by
  intro sz
  refine Met.ofW (cc := cX4_fetch) (maxL := 3) (ret := (some .int)) (by decide) rfl ?_
  intro p e s m args below meth c s₁ B hml hv
  obtain ⟨rfl, hsz, hP, hK, hD0⟩ := hv
  have hx := B.exec
  have hb := B.bytes
  have hr := B.returns
  have hts := atoms_spec (ws := wsX4_fetch) B.pre
  have hown : s.vm.findClass RX4 = some m.cls := findClass_of_methodNamed B.named
  have hlocks := B.notSynchronized
  subst hsz
  have hD := hD0.self (sz := s.heap.size)
  generalize hAe : kz_A [mdW G a M] s.heap.size = A at hD ⊢
  have hA : ∀ q : Nat, s.heap.size ≤ q → A q := fun q h => by rw [← hAe]; exact Or.inr h
  have hS : va_S A s.heap s.heap [] := va_S.rf
  have hl := lv_entry ([.ref (a 0), .int code]) (n := 3) (Nat.le_of_ble_eq_true rfl)
  rw [lg_entry_eq]
  generalize (lg_sl ([.ref (a 0), .int code]) ++ List.replicate (3 - (lg_sl ([.ref (a 0), .int code])).length) Slot.unset).toArray = ls at hl ⊢
  have hl : lv_has ls 3 [(0, .ref (a 0)), (1, .int code)] := hl
  refine kz_start (fun QQ hQ => ?_)
  have hP : kz_P G [mdW G a M] s.heap := hP
  refine lv_aload_n hx hb dX4_fetch_0 rfl (lv_at hl 0 rfl) ?_
  refine lv_iload_n hx hb dX4_fetch_1 rfl (lv_at hl 1 rfl) ?_
  refine kz_miV (As := [.int code]) (rest := []) (b := a 0) (wr := []) (bs' := [mdW G a (va_up (va_up M 6 (fun _ => (X4_whyNotFetch_c6 (M 0) (M 6 0) (M 7 0) code))) 7 (fun _ => (X4_whyNotFetch_c7 (M 0) (M 6 0) (M 7 0) code)))]) ⟨hx, hb, hml, hown, hts⟩ (c_X4_whyNotFetch l G a M code) (cwV 1 hts gX4_fetch_X4_whyNotFetch rfl rfl rfl (by decide +kernel) ⟨Nat.le_of_ble_eq_true rfl, Nat.le_of_ble_eq_true rfl⟩) hK hP hD hS hA [0] [] [0] rfl (by decide) rfl (by decide) (by decide) rfl (by decide) (kz_recv hK hP (ci := 4) (q0 := 0) rfl rfl) rfl hl.1 rfl (Nat.le_of_ble_eq_true rfl) dX4_fetch_2 ⟨Nat.le_of_ble_eq_true rfl, Nat.le_of_ble_eq_true rfl⟩ (fun H locs hP hD hS => ?_)
  refine lv_istore_n (lv' := [(2, .int (X4_whyNotFetch_r (M 0) (M 6 0) (M 7 0) code)), (0, .ref (a 0)), (1, .int code)]) hx hb dX4_fetch_5 rfl hl (by decide) rfl (fun ls hl => ?_)
  refine lv_iload_n hx hb dX4_fetch_6 rfl (lv_at hl 0 rfl) ?_
  refine lv_if_ge (tgt := 12) hx hb dX4_fetch_7 (by decide) (fun c_1 => ?_) (fun c_1 => ?_)
  · refine lv_aload_n hx hb dX4_fetch_12 rfl (lv_at hl 1 rfl) ?_
    refine kz_mvV (As := []) (rest := []) (b := a 0) (wr := []) (bs' := [mdW G a (va_up (va_up (va_up (va_up M 6 (fun _ => (X4_whyNotFetch_c6 (M 0) (M 6 0) (M 7 0) code))) 7 (fun _ => (X4_whyNotFetch_c7 (M 0) (M 6 0) (M 7 0) code))) 1 (X4_record_c1 (M 0) (M 1) (M 2 0))) 2 (fun _ => (X4_record_c2 (M 0) (M 1) (M 2 0))))]) ⟨hx, hb, hml, hown, hts⟩ (c_X4_record l G a (va_up (va_up M 6 (fun _ => (X4_whyNotFetch_c6 (M 0) (M 6 0) (M 7 0) code))) 7 (fun _ => (X4_whyNotFetch_c7 (M 0) (M 6 0) (M 7 0) code))) hpm) (cwV 0 hts gX4_fetch_X4_record rfl rfl rfl (by decide +kernel) ⟨Nat.le_of_ble_eq_true rfl, Nat.le_of_ble_eq_true rfl⟩) hK hP hD hS hA [0] [] [0] rfl (by decide) rfl (by decide) (by decide) rfl (by decide) (kz_recv hK hP (ci := 4) (q0 := 0) rfl rfl) rfl hl.1 rfl (Nat.le_of_ble_eq_true rfl) dX4_fetch_13 ⟨Nat.le_of_ble_eq_true rfl, Nat.le_of_ble_eq_true rfl⟩ (fun H locs hP hD hS => ?_)
    refine lv_aload_n hx hb dX4_fetch_16 rfl (lv_at hl 1 rfl) ?_
    refine lv_iload_n hx hb dX4_fetch_17 rfl (lv_at hl 2 rfl) ?_
    refine kz_miV (As := [.int code]) (rest := []) (b := a 0) (wr := []) (bs' := [mdW G a (va_up (va_up (va_up (va_up (va_up M 6 (fun _ => (X4_whyNotFetch_c6 (M 0) (M 6 0) (M 7 0) code))) 7 (fun _ => (X4_whyNotFetch_c7 (M 0) (M 6 0) (M 7 0) code))) 1 (X4_record_c1 (M 0) (M 1) (M 2 0))) 2 (fun _ => (X4_record_c2 (M 0) (M 1) (M 2 0)))) 0 (X4_fetches_c0 (M 0) code))]) ⟨hx, hb, hml, hown, hts⟩ (c_X4_fetches l G a (va_up (va_up (va_up (va_up M 6 (fun _ => (X4_whyNotFetch_c6 (M 0) (M 6 0) (M 7 0) code))) 7 (fun _ => (X4_whyNotFetch_c7 (M 0) (M 6 0) (M 7 0) code))) 1 (X4_record_c1 (M 0) (M 1) (M 2 0))) 2 (fun _ => (X4_record_c2 (M 0) (M 1) (M 2 0)))) code hM) (cwV 1 hts gX4_fetch_X4_fetches rfl rfl rfl (by decide +kernel) ⟨Nat.le_of_ble_eq_true rfl, Nat.le_of_ble_eq_true rfl⟩) hK hP hD hS hA [0] [] [0] rfl (by decide) rfl (by decide) (by decide) rfl (by decide) (kz_recv hK hP (ci := 4) (q0 := 0) rfl rfl) rfl hl.1 rfl (Nat.le_of_ble_eq_true rfl) dX4_fetch_18 ⟨Nat.le_of_ble_eq_true rfl, Nat.le_of_ble_eq_true rfl⟩ (fun H locs hP hD hS => ?_)
    subst hQ
    have hP9 : kz_P G [mdW G a (va_up (va_up (va_up (va_up (va_up M 0 (X4_fetch_c0 (M 0) (M 1) (M 2 0) (M 6 0) (M 7 0) code)) 1 (X4_fetch_c1 (M 0) (M 1) (M 2 0) (M 6 0) (M 7 0) code)) 2 (fun _ => (X4_fetch_c2 (M 0) (M 1) (M 2 0) (M 6 0) (M 7 0) code))) 6 (fun _ => (X4_fetch_c6 (M 0) (M 1) (M 2 0) (M 6 0) (M 7 0) code))) 7 (fun _ => (X4_fetch_c7 (M 0) (M 1) (M 2 0) (M 6 0) (M 7 0) code)))] H := by rw [X4_fetch_c0, if_pos c_1]; rw [X4_fetch_c1, if_pos c_1]; rw [X4_fetch_c2, if_pos c_1]; rw [X4_fetch_c6, if_pos c_1]; rw [X4_fetch_c7, if_pos c_1]; exact hP
    have hD9 : kz_D A [mdW G a (va_up (va_up (va_up (va_up (va_up M 0 (X4_fetch_c0 (M 0) (M 1) (M 2 0) (M 6 0) (M 7 0) code)) 1 (X4_fetch_c1 (M 0) (M 1) (M 2 0) (M 6 0) (M 7 0) code)) 2 (fun _ => (X4_fetch_c2 (M 0) (M 1) (M 2 0) (M 6 0) (M 7 0) code))) 6 (fun _ => (X4_fetch_c6 (M 0) (M 1) (M 2 0) (M 6 0) (M 7 0) code))) 7 (fun _ => (X4_fetch_c7 (M 0) (M 1) (M 2 0) (M 6 0) (M 7 0) code)))] := by rw [X4_fetch_c0, if_pos c_1]; rw [X4_fetch_c1, if_pos c_1]; rw [X4_fetch_c2, if_pos c_1]; rw [X4_fetch_c6, if_pos c_1]; rw [X4_fetch_c7, if_pos c_1]; exact hD
    exact W.iret (v := (X4_fetches_r (M 0) code)) hx hb hr (fun t ht hW => ⟨⟨(X4_fetches_r (M 0) code), (), rfl, (by rw [X4_fetch_r, if_pos c_1]), by rw [ht]; exact hP9, hD9⟩, hS.F ht⟩) hS.2.2 dX4_fetch_21
  · refine lv_iload_n hx hb dX4_fetch_10 rfl (lv_at hl 0 rfl) ?_
    subst hQ
    have hP9 : kz_P G [mdW G a (va_up (va_up (va_up (va_up (va_up M 0 (X4_fetch_c0 (M 0) (M 1) (M 2 0) (M 6 0) (M 7 0) code)) 1 (X4_fetch_c1 (M 0) (M 1) (M 2 0) (M 6 0) (M 7 0) code)) 2 (fun _ => (X4_fetch_c2 (M 0) (M 1) (M 2 0) (M 6 0) (M 7 0) code))) 6 (fun _ => (X4_fetch_c6 (M 0) (M 1) (M 2 0) (M 6 0) (M 7 0) code))) 7 (fun _ => (X4_fetch_c7 (M 0) (M 1) (M 2 0) (M 6 0) (M 7 0) code)))] H := by rw [X4_fetch_c0, if_neg c_1]; rw [X4_fetch_c1, if_neg c_1]; rw [X4_fetch_c2, if_neg c_1]; rw [X4_fetch_c6, if_neg c_1]; rw [X4_fetch_c7, if_neg c_1]; exact hP
    have hD9 : kz_D A [mdW G a (va_up (va_up (va_up (va_up (va_up M 0 (X4_fetch_c0 (M 0) (M 1) (M 2 0) (M 6 0) (M 7 0) code)) 1 (X4_fetch_c1 (M 0) (M 1) (M 2 0) (M 6 0) (M 7 0) code)) 2 (fun _ => (X4_fetch_c2 (M 0) (M 1) (M 2 0) (M 6 0) (M 7 0) code))) 6 (fun _ => (X4_fetch_c6 (M 0) (M 1) (M 2 0) (M 6 0) (M 7 0) code))) 7 (fun _ => (X4_fetch_c7 (M 0) (M 1) (M 2 0) (M 6 0) (M 7 0) code)))] := by rw [X4_fetch_c0, if_neg c_1]; rw [X4_fetch_c1, if_neg c_1]; rw [X4_fetch_c2, if_neg c_1]; rw [X4_fetch_c6, if_neg c_1]; rw [X4_fetch_c7, if_neg c_1]; exact hD
    exact W.iret (v := (X4_whyNotFetch_r (M 0) (M 6 0) (M 7 0) code)) hx hb hr (fun t ht hW => ⟨⟨(X4_whyNotFetch_r (M 0) (M 6 0) (M 7 0) code), (), rfl, (by rw [X4_fetch_r, if_neg c_1]), by rw [ht]; exact hP9, hD9⟩, hS.F ht⟩) hS.2.2 dX4_fetch_11
