def X4_executeOne_r (z0 : Nat → Int32) (z6 : Int32) (z7 : Int32) (z10 : Nat → Int32) (p0 : Nat) : Int32 := if (z10 p0) = 97 then (if (X4_whyNotCome_r z0 z6 z7 (z10 (p0 + 1)) (z10 (p0 + 2))) = 0 then (X4_whyNotCome_r z0 z6 z7 (z10 (p0 + 1)) (z10 (p0 + 2))) else (X4_whyNotCome_r z0 z6 z7 (z10 (p0 + 1)) (z10 (p0 + 2)))) else if (z10 p0) = 109 then (if (X4_whyNotMove_r z0 z6 z7 (z10 (p0 + 1)) (z10 (p0 + 2))) = 0 then (X4_whyNotMove_r z0 z6 z7 (z10 (p0 + 1)) (z10 (p0 + 2))) else (X4_whyNotMove_r z0 z6 z7 (z10 (p0 + 1)) (z10 (p0 + 2)))) else if (z10 p0) = 112 then (if (X4_whyNotFetch_r z0 z6 z7 (z10 (p0 + 1))) = 0 then (X4_whyNotFetch_r z0 z6 z7 (z10 (p0 + 1))) else (X4_whyNotFetch_r z0 z6 z7 (z10 (p0 + 1)))) else if (z10 p0) = 120 then (if (X4_whyNotRefuse_r z0 z6 z7 (z10 (p0 + 1))) = 0 then (X4_whyNotRefuse_r z0 z6 z7 (z10 (p0 + 1))) else (X4_whyNotRefuse_r z0 z6 z7 (z10 (p0 + 1)))) else if (X4_whyNotPass_r z0 (z10 (p0 + 1))) = 0 then (X4_whyNotPass_r z0 (z10 (p0 + 1))) else (X4_whyNotPass_r z0 (z10 (p0 + 1)))
def X4_executeOne_c0 (z0 : Nat → Int32) (z6 : Int32) (z7 : Int32) (z10 : Nat → Int32) (p0 : Nat) : Nat → Int32 := if (z10 p0) = 97 then (if (X4_whyNotCome_r z0 z6 z7 (z10 (p0 + 1)) (z10 (p0 + 2))) = 0 then (X4_comes_c0 z0 (z10 (p0 + 1)) (z10 (p0 + 2))) else z0) else if (z10 p0) = 109 then (if (X4_whyNotMove_r z0 z6 z7 (z10 (p0 + 1)) (z10 (p0 + 2))) = 0 then (X4_moves_c0 z0 (z10 (p0 + 1)) (z10 (p0 + 2))) else z0) else if (z10 p0) = 112 then (if (X4_whyNotFetch_r z0 z6 z7 (z10 (p0 + 1))) = 0 then (X4_fetches_c0 z0 (z10 (p0 + 1))) else z0) else if (z10 p0) = 120 then (if (X4_whyNotRefuse_r z0 z6 z7 (z10 (p0 + 1))) = 0 then (X4_goesBack_c0 z0 ((X4_placeBy_r z0 (z10 (p0 + 1))).toNatClampNeg)) else z0) else if (X4_whyNotPass_r z0 (z10 (p0 + 1))) = 0 then (X4_passes_c0 z0 ((z10 (p0 + 1)).toNatClampNeg)) else z0
def X4_executeOne_c6 (z0 : Nat → Int32) (z6 : Int32) (z7 : Int32) (z10 : Nat → Int32) (p0 : Nat) : Int32 := if (z10 p0) = 97 then (if (X4_whyNotCome_r z0 z6 z7 (z10 (p0 + 1)) (z10 (p0 + 2))) = 0 then (X4_whyNotCome_c6 z0 z6 z7 (z10 (p0 + 1)) (z10 (p0 + 2))) else (X4_whyNotCome_c6 z0 z6 z7 (z10 (p0 + 1)) (z10 (p0 + 2)))) else if (z10 p0) = 109 then (if (X4_whyNotMove_r z0 z6 z7 (z10 (p0 + 1)) (z10 (p0 + 2))) = 0 then (X4_whyNotMove_c6 z0 z6 z7 (z10 (p0 + 1)) (z10 (p0 + 2))) else (X4_whyNotMove_c6 z0 z6 z7 (z10 (p0 + 1)) (z10 (p0 + 2)))) else if (z10 p0) = 112 then (if (X4_whyNotFetch_r z0 z6 z7 (z10 (p0 + 1))) = 0 then (X4_whyNotFetch_c6 z0 z6 z7 (z10 (p0 + 1))) else (X4_whyNotFetch_c6 z0 z6 z7 (z10 (p0 + 1)))) else if (z10 p0) = 120 then (if (X4_whyNotRefuse_r z0 z6 z7 (z10 (p0 + 1))) = 0 then (X4_whyNotRefuse_c6 z0 z6 z7 (z10 (p0 + 1))) else (X4_whyNotRefuse_c6 z0 z6 z7 (z10 (p0 + 1)))) else if (X4_whyNotPass_r z0 (z10 (p0 + 1))) = 0 then z6 else z6
def X4_executeOne_c7 (z0 : Nat → Int32) (z6 : Int32) (z7 : Int32) (z10 : Nat → Int32) (p0 : Nat) : Int32 := if (z10 p0) = 97 then (if (X4_whyNotCome_r z0 z6 z7 (z10 (p0 + 1)) (z10 (p0 + 2))) = 0 then (X4_whyNotCome_c7 z0 z6 z7 (z10 (p0 + 1)) (z10 (p0 + 2))) else (X4_whyNotCome_c7 z0 z6 z7 (z10 (p0 + 1)) (z10 (p0 + 2)))) else if (z10 p0) = 109 then (if (X4_whyNotMove_r z0 z6 z7 (z10 (p0 + 1)) (z10 (p0 + 2))) = 0 then (X4_whyNotMove_c7 z0 z6 z7 (z10 (p0 + 1)) (z10 (p0 + 2))) else (X4_whyNotMove_c7 z0 z6 z7 (z10 (p0 + 1)) (z10 (p0 + 2)))) else if (z10 p0) = 112 then (if (X4_whyNotFetch_r z0 z6 z7 (z10 (p0 + 1))) = 0 then (X4_whyNotFetch_c7 z0 z6 z7 (z10 (p0 + 1))) else (X4_whyNotFetch_c7 z0 z6 z7 (z10 (p0 + 1)))) else if (z10 p0) = 120 then (if (X4_whyNotRefuse_r z0 z6 z7 (z10 (p0 + 1))) = 0 then (X4_whyNotRefuse_c7 z0 z6 z7 (z10 (p0 + 1))) else (X4_whyNotRefuse_c7 z0 z6 z7 (z10 (p0 + 1)))) else if (X4_whyNotPass_r z0 (z10 (p0 + 1))) = 0 then z7 else z7
set_option maxHeartbeats 1000000 in
set_option maxRecDepth 100000 in
theorem c_X4_executeOne (l : Launch) (G : kz_G) (a : Nat → Nat) (M : kz_S) (p0 : Nat) (hM : kz_M (M 0)) (hp2 : p0 + 2 < 84) : kz_mi l G yX4_executeOne wsX4_executeOne 5 110 [.ref (a 0), .int (nI p0)] [mdW G a M] [mdW G a (va_up (va_up (va_up M 0 (X4_executeOne_c0 (M 0) (M 6 0) (M 7 0) (M 10) p0)) 6 (fun _ => (X4_executeOne_c6 (M 0) (M 6 0) (M 7 0) (M 10) p0))) 7 (fun _ => (X4_executeOne_c7 (M 0) (M 6 0) (M 7 0) (M 10) p0)))] (X4_executeOne_r (M 0) (M 6 0) (M 7 0) (M 10) p0) := by
  intro sz
  refine Met.ofW (cc := cX4_executeOne) (maxL := 5) (ret := (some .int)) (by decide) rfl ?_
  intro p e s m args below meth c s₁ B hml hv
  obtain ⟨rfl, hsz, hP, hK, hD0⟩ := hv
  have hx := B.exec
  have hb := B.bytes
  have hr := B.returns
  have hts := atoms_spec (ws := wsX4_executeOne) B.pre
  have hown : s.vm.findClass RX4 = some m.cls := findClass_of_methodNamed B.named
  have hlocks := B.notSynchronized
  have hinX4 : ∀ w ∈ u_ws RX4 TX4 14, w ∈ wsX4_executeOne := by decide +kernel
  subst hsz
  have hD := hD0.self (sz := s.heap.size)
  generalize hAe : kz_A [mdW G a M] s.heap.size = A at hD ⊢
  have hA : ∀ q : Nat, s.heap.size ≤ q → A q := fun q h => by rw [← hAe]; exact Or.inr h
  have hS : va_S A s.heap s.heap [] := va_S.rf
  have hl := lv_entry ([.ref (a 0), .int (nI p0)]) (n := 5) (Nat.le_of_ble_eq_true rfl)
  rw [lg_entry_eq]
  generalize (lg_sl ([.ref (a 0), .int (nI p0)]) ++ List.replicate (5 - (lg_sl ([.ref (a 0), .int (nI p0)])).length) Slot.unset).toArray = ls at hl ⊢
  have hl : lv_has ls 5 [(0, .ref (a 0)), (1, .int (nI p0))] := hl
  refine kz_start (fun QQ hQ => ?_)
  have hP : kz_P G [mdW G a M] s.heap := hP
  refine lv_aload_n hx hb dX4_executeOne_0 rfl (lv_at hl 0 rfl) ?_
  refine va_get (D := G.1) (ci := 4) (v := .ref (a 6)) (C := RX4) (T := TX4) (N := 14) hx hb hts hinX4 hown hK.1 hP 0 rfl rfl 10 (by decide) (hts (.fieldLink RX4 33 "ParcelShelvesModel" "told" "[I") (by decide +kernel)) (fun _ h9 => h9) rfl dX4_executeOne_1 ?_
  refine lv_iload_n hx hb dX4_executeOne_4 rfl (lv_at hl 1 rfl) ?_
  refine lv_iconst (v := 1) hx hb dX4_executeOne_5 (by decide +kernel) ?_
  refine lv_iadd hx hb dX4_executeOne_6 ?_
  refine lv_topi (fun y_1 ey_2 => ?_)
  obtain rfl : y_1 = (nI (p0 + 1)) := by rw [ey_2]; exact nI_1 _
  refine va_iald (f := (M 10)) hx hb hK.1 hP 6 0 rfl rfl (vp_in_nI (n := (p0 + 1)) (N := 84) (by omega) (by decide)) dX4_executeOne_7 ?_
  refine lv_topi (fun y_3 ey_4 => ?_)
  obtain rfl : y_3 = ((M 10) (p0 + 1)) := by rw [ey_4, kz_nI_clamp (n := (p0 + 1)) (by omega)]
  refine lv_istore_n (lv' := [(2, .int ((M 10) (p0 + 1))), (0, .ref (a 0)), (1, .int (nI p0))]) hx hb dX4_executeOne_8 rfl hl (by decide) rfl (fun ls hl => ?_)
  refine lv_aload_n hx hb dX4_executeOne_9 rfl (lv_at hl 1 rfl) ?_
  refine va_get (D := G.1) (ci := 4) (v := .ref (a 6)) (C := RX4) (T := TX4) (N := 14) hx hb hts hinX4 hown hK.1 hP 0 rfl rfl 10 (by decide) (hts (.fieldLink RX4 33 "ParcelShelvesModel" "told" "[I") (by decide +kernel)) (fun _ h9 => h9) rfl dX4_executeOne_10 ?_
  refine lv_iload_n hx hb dX4_executeOne_13 rfl (lv_at hl 2 rfl) ?_
  refine lv_iconst (v := 2) hx hb dX4_executeOne_14 (by decide +kernel) ?_
  refine lv_iadd hx hb dX4_executeOne_15 ?_
  refine lv_topi (fun y_5 ey_6 => ?_)
  obtain rfl : y_5 = (nI (p0 + 2)) := by rw [ey_6]; exact nI_add _ 2
  refine va_iald (f := (M 10)) hx hb hK.1 hP 6 0 rfl rfl (vp_in_nI (n := (p0 + 2)) (N := 84) (by omega) (by decide)) dX4_executeOne_16 ?_
  refine lv_topi (fun y_7 ey_8 => ?_)
  obtain rfl : y_7 = ((M 10) (p0 + 2)) := by rw [ey_8, kz_nI_clamp (n := (p0 + 2)) (by omega)]
  refine lv_istore_n (lv' := [(3, .int ((M 10) (p0 + 2))), (2, .int ((M 10) (p0 + 1))), (0, .ref (a 0)), (1, .int (nI p0))]) hx hb dX4_executeOne_17 rfl hl (by decide) rfl (fun ls hl => ?_)
  refine lv_iconst (v := 0) hx hb dX4_executeOne_18 (by decide +kernel) ?_
  refine lv_istore (lv' := [(4, .int 0), (3, .int ((M 10) (p0 + 2))), (2, .int ((M 10) (p0 + 1))), (0, .ref (a 0)), (1, .int (nI p0))]) hx hb dX4_executeOne_19 hl (by decide) rfl (fun ls hl => ?_)
  refine lv_aload_n hx hb dX4_executeOne_21 rfl (lv_at hl 3 rfl) ?_
  refine va_get (D := G.1) (ci := 4) (v := .ref (a 6)) (C := RX4) (T := TX4) (N := 14) hx hb hts hinX4 hown hK.1 hP 0 rfl rfl 10 (by decide) (hts (.fieldLink RX4 33 "ParcelShelvesModel" "told" "[I") (by decide +kernel)) (fun _ h9 => h9) rfl dX4_executeOne_22 ?_
  refine lv_iload_n hx hb dX4_executeOne_25 rfl (lv_at hl 4 rfl) ?_
  refine va_iald (f := (M 10)) hx hb hK.1 hP 6 0 rfl rfl (vp_in_nI (n := p0) (N := 84) (by omega) (by decide)) dX4_executeOne_26 ?_
  refine lv_topi (fun y_9 ey_10 => ?_)
  obtain rfl : y_9 = ((M 10) p0) := by rw [ey_10, kz_nI_clamp (n := p0) (by omega)]
  refine lv_topi (fun y_11 ey_12 => ?_)
  by_cases c_13 : y_11 = 97
  · have c_14 : ((M 10) p0) = 97 := by rw [← ey_12]; exact c_13
    subst c_13
    refine lv_lookup (off := 41) (tgt := 68) hx hb dX4_executeOne_27 (by decide +kernel) (by decide +kernel) (by decide) ?_
    refine lv_aload_n hx hb dX4_executeOne_68 rfl (lv_at hl 3 rfl) ?_
    refine lv_iload_n hx hb dX4_executeOne_69 rfl (lv_at hl 2 rfl) ?_
    refine lv_iload_n hx hb dX4_executeOne_70 rfl (lv_at hl 1 rfl) ?_
    refine kz_miV (As := [.int ((M 10) (p0 + 1)), .int ((M 10) (p0 + 2))]) (rest := []) (b := a 0) (wr := []) (bs' := [mdW G a (va_up (va_up M 6 (fun _ => (X4_whyNotCome_c6 (M 0) (M 6 0) (M 7 0) ((M 10) (p0 + 1)) ((M 10) (p0 + 2))))) 7 (fun _ => (X4_whyNotCome_c7 (M 0) (M 6 0) (M 7 0) ((M 10) (p0 + 1)) ((M 10) (p0 + 2)))))]) ⟨hx, hb, hml, hown, hts⟩ (c_X4_whyNotCome l G a M ((M 10) (p0 + 1)) ((M 10) (p0 + 2)) hM.1) (cwV 2 hts gX4_executeOne_X4_whyNotCome rfl rfl rfl (by decide +kernel) ⟨Nat.le_of_ble_eq_true rfl, Nat.le_of_ble_eq_true rfl⟩) hK hP hD hS hA [0] [] [0] rfl (by decide) rfl (by decide) (by decide) rfl (by decide) (kz_recv hK hP (ci := 4) (q0 := 0) rfl rfl) rfl hl.1 rfl (Nat.le_of_ble_eq_true rfl) dX4_executeOne_71 ⟨Nat.le_of_ble_eq_true rfl, Nat.le_of_ble_eq_true rfl⟩ (fun H locs hP hD hS => ?_)
    refine lv_istore (lv' := [(4, .int (X4_whyNotCome_r (M 0) (M 6 0) (M 7 0) ((M 10) (p0 + 1)) ((M 10) (p0 + 2)))), (3, .int ((M 10) (p0 + 2))), (2, .int ((M 10) (p0 + 1))), (0, .ref (a 0)), (1, .int (nI p0))]) hx hb dX4_executeOne_74 hl (by decide) rfl (fun ls hl => ?_)
    refine lv_iload hx hb dX4_executeOne_76 (lv_at hl 0 rfl) ?_
    refine lv_if_ne (tgt := 178) hx hb dX4_executeOne_78 (by decide) (fun c_15 => ?_) (fun c_15 => ?_)
    · refine lv_iload hx hb dX4_executeOne_178 (lv_at hl 0 rfl) ?_
      subst hQ
      have hP9 : kz_P G [mdW G a (va_up (va_up (va_up M 0 (X4_executeOne_c0 (M 0) (M 6 0) (M 7 0) (M 10) p0)) 6 (fun _ => (X4_executeOne_c6 (M 0) (M 6 0) (M 7 0) (M 10) p0))) 7 (fun _ => (X4_executeOne_c7 (M 0) (M 6 0) (M 7 0) (M 10) p0)))] H := by rw [X4_executeOne_c0, if_pos c_14, if_neg c_15]; rw [X4_executeOne_c6, if_pos c_14, if_neg c_15]; rw [X4_executeOne_c7, if_pos c_14, if_neg c_15]; exact hP
      have hD9 : kz_D A [mdW G a (va_up (va_up (va_up M 0 (X4_executeOne_c0 (M 0) (M 6 0) (M 7 0) (M 10) p0)) 6 (fun _ => (X4_executeOne_c6 (M 0) (M 6 0) (M 7 0) (M 10) p0))) 7 (fun _ => (X4_executeOne_c7 (M 0) (M 6 0) (M 7 0) (M 10) p0)))] := by rw [X4_executeOne_c0, if_pos c_14, if_neg c_15]; rw [X4_executeOne_c6, if_pos c_14, if_neg c_15]; rw [X4_executeOne_c7, if_pos c_14, if_neg c_15]; exact hD
      exact W.iret (v := (X4_whyNotCome_r (M 0) (M 6 0) (M 7 0) ((M 10) (p0 + 1)) ((M 10) (p0 + 2)))) hx hb hr (fun t ht hW => ⟨⟨(X4_whyNotCome_r (M 0) (M 6 0) (M 7 0) ((M 10) (p0 + 1)) ((M 10) (p0 + 2))), (), rfl, (by rw [X4_executeOne_r, if_pos c_14, if_neg c_15]), by rw [ht]; exact hP9, hD9⟩, hS.F ht⟩) hS.2.2 dX4_executeOne_180
    · have hwn := kz_wnc (by rw [c_15]; decide)
      refine lv_aload_n hx hb dX4_executeOne_81 rfl (lv_at hl 3 rfl) ?_
      refine lv_iload_n hx hb dX4_executeOne_82 rfl (lv_at hl 2 rfl) ?_
      refine lv_iload_n hx hb dX4_executeOne_83 rfl (lv_at hl 1 rfl) ?_
      refine kz_miV (As := [.int ((M 10) (p0 + 1)), .int ((M 10) (p0 + 2))]) (rest := []) (b := a 0) (wr := []) (bs' := [mdW G a (va_up (va_up (va_up M 6 (fun _ => (X4_whyNotCome_c6 (M 0) (M 6 0) (M 7 0) ((M 10) (p0 + 1)) ((M 10) (p0 + 2))))) 7 (fun _ => (X4_whyNotCome_c7 (M 0) (M 6 0) (M 7 0) ((M 10) (p0 + 1)) ((M 10) (p0 + 2))))) 0 (X4_comes_c0 (M 0) ((M 10) (p0 + 1)) ((M 10) (p0 + 2))))]) ⟨hx, hb, hml, hown, hts⟩ (c_X4_comes l G a (va_up (va_up M 6 (fun _ => (X4_whyNotCome_c6 (M 0) (M 6 0) (M 7 0) ((M 10) (p0 + 1)) ((M 10) (p0 + 2))))) 7 (fun _ => (X4_whyNotCome_c7 (M 0) (M 6 0) (M 7 0) ((M 10) (p0 + 1)) ((M 10) (p0 + 2))))) ((M 10) (p0 + 1)) ((M 10) (p0 + 2)) hM.1 hwn.1 hwn.2) (cwV 2 hts gX4_executeOne_X4_comes rfl rfl rfl (by decide +kernel) ⟨Nat.le_of_ble_eq_true rfl, Nat.le_of_ble_eq_true rfl⟩) hK hP hD hS hA [0] [] [0] rfl (by decide) rfl (by decide) (by decide) rfl (by decide) (kz_recv hK hP (ci := 4) (q0 := 0) rfl rfl) rfl hl.1 rfl (Nat.le_of_ble_eq_true rfl) dX4_executeOne_84 ⟨Nat.le_of_ble_eq_true rfl, Nat.le_of_ble_eq_true rfl⟩ (fun H locs hP hD hS => ?_)
      refine lv_pop hx hb dX4_executeOne_87 rfl ?_
      refine lv_goto (tgt := 178) hx hb dX4_executeOne_88 (by decide) ?_
      refine lv_iload hx hb dX4_executeOne_178 (lv_at hl 0 rfl) ?_
      subst hQ
      have hP9 : kz_P G [mdW G a (va_up (va_up (va_up M 0 (X4_executeOne_c0 (M 0) (M 6 0) (M 7 0) (M 10) p0)) 6 (fun _ => (X4_executeOne_c6 (M 0) (M 6 0) (M 7 0) (M 10) p0))) 7 (fun _ => (X4_executeOne_c7 (M 0) (M 6 0) (M 7 0) (M 10) p0)))] H := by rw [X4_executeOne_c0, if_pos c_14, if_pos c_15]; rw [X4_executeOne_c6, if_pos c_14, if_pos c_15]; rw [X4_executeOne_c7, if_pos c_14, if_pos c_15]; exact hP
      have hD9 : kz_D A [mdW G a (va_up (va_up (va_up M 0 (X4_executeOne_c0 (M 0) (M 6 0) (M 7 0) (M 10) p0)) 6 (fun _ => (X4_executeOne_c6 (M 0) (M 6 0) (M 7 0) (M 10) p0))) 7 (fun _ => (X4_executeOne_c7 (M 0) (M 6 0) (M 7 0) (M 10) p0)))] := by rw [X4_executeOne_c0, if_pos c_14, if_pos c_15]; rw [X4_executeOne_c6, if_pos c_14, if_pos c_15]; rw [X4_executeOne_c7, if_pos c_14, if_pos c_15]; exact hD
      exact W.iret (v := (X4_whyNotCome_r (M 0) (M 6 0) (M 7 0) ((M 10) (p0 + 1)) ((M 10) (p0 + 2)))) hx hb hr (fun t ht hW => ⟨⟨(X4_whyNotCome_r (M 0) (M 6 0) (M 7 0) ((M 10) (p0 + 1)) ((M 10) (p0 + 2))), (), rfl, (by rw [X4_executeOne_r, if_pos c_14, if_pos c_15]), by rw [ht]; exact hP9, hD9⟩, hS.F ht⟩) hS.2.2 dX4_executeOne_180
  · have c_16 : ¬ ((M 10) p0) = 97 := by rw [← ey_12]; exact c_13
    by_cases c_17 : y_11 = 109
    · have c_18 : ((M 10) p0) = 109 := by rw [← ey_12]; exact c_17
      subst c_17
      refine lv_lookup (off := 110) (tgt := 137) hx hb dX4_executeOne_27 (by decide +kernel) (by decide +kernel) (by decide) ?_
      refine lv_aload_n hx hb dX4_executeOne_137 rfl (lv_at hl 3 rfl) ?_
      refine lv_iload_n hx hb dX4_executeOne_138 rfl (lv_at hl 2 rfl) ?_
      refine lv_iload_n hx hb dX4_executeOne_139 rfl (lv_at hl 1 rfl) ?_
      refine kz_miV (As := [.int ((M 10) (p0 + 1)), .int ((M 10) (p0 + 2))]) (rest := []) (b := a 0) (wr := []) (bs' := [mdW G a (va_up (va_up M 6 (fun _ => (X4_whyNotMove_c6 (M 0) (M 6 0) (M 7 0) ((M 10) (p0 + 1)) ((M 10) (p0 + 2))))) 7 (fun _ => (X4_whyNotMove_c7 (M 0) (M 6 0) (M 7 0) ((M 10) (p0 + 1)) ((M 10) (p0 + 2)))))]) ⟨hx, hb, hml, hown, hts⟩ (c_X4_whyNotMove l G a M ((M 10) (p0 + 1)) ((M 10) (p0 + 2)) hM hM.1) (cwV 2 hts gX4_executeOne_X4_whyNotMove rfl rfl rfl (by decide +kernel) ⟨Nat.le_of_ble_eq_true rfl, Nat.le_of_ble_eq_true rfl⟩) hK hP hD hS hA [0] [] [0] rfl (by decide) rfl (by decide) (by decide) rfl (by decide) (kz_recv hK hP (ci := 4) (q0 := 0) rfl rfl) rfl hl.1 rfl (Nat.le_of_ble_eq_true rfl) dX4_executeOne_140 ⟨Nat.le_of_ble_eq_true rfl, Nat.le_of_ble_eq_true rfl⟩ (fun H locs hP hD hS => ?_)
      refine lv_istore (lv' := [(4, .int (X4_whyNotMove_r (M 0) (M 6 0) (M 7 0) ((M 10) (p0 + 1)) ((M 10) (p0 + 2)))), (3, .int ((M 10) (p0 + 2))), (2, .int ((M 10) (p0 + 1))), (0, .ref (a 0)), (1, .int (nI p0))]) hx hb dX4_executeOne_143 hl (by decide) rfl (fun ls hl => ?_)
      refine lv_iload hx hb dX4_executeOne_145 (lv_at hl 0 rfl) ?_
      refine lv_if_ne (tgt := 178) hx hb dX4_executeOne_147 (by decide) (fun c_19 => ?_) (fun c_19 => ?_)
      · refine lv_iload hx hb dX4_executeOne_178 (lv_at hl 0 rfl) ?_
        subst hQ
        have hP9 : kz_P G [mdW G a (va_up (va_up (va_up M 0 (X4_executeOne_c0 (M 0) (M 6 0) (M 7 0) (M 10) p0)) 6 (fun _ => (X4_executeOne_c6 (M 0) (M 6 0) (M 7 0) (M 10) p0))) 7 (fun _ => (X4_executeOne_c7 (M 0) (M 6 0) (M 7 0) (M 10) p0)))] H := by rw [X4_executeOne_c0, if_neg c_16, if_pos c_18, if_neg c_19]; rw [X4_executeOne_c6, if_neg c_16, if_pos c_18, if_neg c_19]; rw [X4_executeOne_c7, if_neg c_16, if_pos c_18, if_neg c_19]; exact hP
        have hD9 : kz_D A [mdW G a (va_up (va_up (va_up M 0 (X4_executeOne_c0 (M 0) (M 6 0) (M 7 0) (M 10) p0)) 6 (fun _ => (X4_executeOne_c6 (M 0) (M 6 0) (M 7 0) (M 10) p0))) 7 (fun _ => (X4_executeOne_c7 (M 0) (M 6 0) (M 7 0) (M 10) p0)))] := by rw [X4_executeOne_c0, if_neg c_16, if_pos c_18, if_neg c_19]; rw [X4_executeOne_c6, if_neg c_16, if_pos c_18, if_neg c_19]; rw [X4_executeOne_c7, if_neg c_16, if_pos c_18, if_neg c_19]; exact hD
        exact W.iret (v := (X4_whyNotMove_r (M 0) (M 6 0) (M 7 0) ((M 10) (p0 + 1)) ((M 10) (p0 + 2)))) hx hb hr (fun t ht hW => ⟨⟨(X4_whyNotMove_r (M 0) (M 6 0) (M 7 0) ((M 10) (p0 + 1)) ((M 10) (p0 + 2))), (), rfl, (by rw [X4_executeOne_r, if_neg c_16, if_pos c_18, if_neg c_19]), by rw [ht]; exact hP9, hD9⟩, hS.F ht⟩) hS.2.2 dX4_executeOne_180
      · have hwn := kz_wnm (by rw [c_19]; decide)
        refine lv_aload_n hx hb dX4_executeOne_150 rfl (lv_at hl 3 rfl) ?_
        refine lv_iload_n hx hb dX4_executeOne_151 rfl (lv_at hl 2 rfl) ?_
        refine lv_iload_n hx hb dX4_executeOne_152 rfl (lv_at hl 1 rfl) ?_
        refine kz_miV (As := [.int ((M 10) (p0 + 1)), .int ((M 10) (p0 + 2))]) (rest := []) (b := a 0) (wr := []) (bs' := [mdW G a (va_up (va_up (va_up M 6 (fun _ => (X4_whyNotMove_c6 (M 0) (M 6 0) (M 7 0) ((M 10) (p0 + 1)) ((M 10) (p0 + 2))))) 7 (fun _ => (X4_whyNotMove_c7 (M 0) (M 6 0) (M 7 0) ((M 10) (p0 + 1)) ((M 10) (p0 + 2))))) 0 (X4_moves_c0 (M 0) ((M 10) (p0 + 1)) ((M 10) (p0 + 2))))]) ⟨hx, hb, hml, hown, hts⟩ (c_X4_moves l G a (va_up (va_up M 6 (fun _ => (X4_whyNotMove_c6 (M 0) (M 6 0) (M 7 0) ((M 10) (p0 + 1)) ((M 10) (p0 + 2))))) 7 (fun _ => (X4_whyNotMove_c7 (M 0) (M 6 0) (M 7 0) ((M 10) (p0 + 1)) ((M 10) (p0 + 2))))) ((M 10) (p0 + 1)) ((M 10) (p0 + 2)) hM hM.1 hwn.1 hwn.2.1 hwn.2.2) (cwV 2 hts gX4_executeOne_X4_moves rfl rfl rfl (by decide +kernel) ⟨Nat.le_of_ble_eq_true rfl, Nat.le_of_ble_eq_true rfl⟩) hK hP hD hS hA [0] [] [0] rfl (by decide) rfl (by decide) (by decide) rfl (by decide) (kz_recv hK hP (ci := 4) (q0 := 0) rfl rfl) rfl hl.1 rfl (Nat.le_of_ble_eq_true rfl) dX4_executeOne_153 ⟨Nat.le_of_ble_eq_true rfl, Nat.le_of_ble_eq_true rfl⟩ (fun H locs hP hD hS => ?_)
        refine lv_pop hx hb dX4_executeOne_156 rfl ?_
        refine lv_goto (tgt := 178) hx hb dX4_executeOne_157 (by decide) ?_
        refine lv_iload hx hb dX4_executeOne_178 (lv_at hl 0 rfl) ?_
        subst hQ
        have hP9 : kz_P G [mdW G a (va_up (va_up (va_up M 0 (X4_executeOne_c0 (M 0) (M 6 0) (M 7 0) (M 10) p0)) 6 (fun _ => (X4_executeOne_c6 (M 0) (M 6 0) (M 7 0) (M 10) p0))) 7 (fun _ => (X4_executeOne_c7 (M 0) (M 6 0) (M 7 0) (M 10) p0)))] H := by rw [X4_executeOne_c0, if_neg c_16, if_pos c_18, if_pos c_19]; rw [X4_executeOne_c6, if_neg c_16, if_pos c_18, if_pos c_19]; rw [X4_executeOne_c7, if_neg c_16, if_pos c_18, if_pos c_19]; exact hP
        have hD9 : kz_D A [mdW G a (va_up (va_up (va_up M 0 (X4_executeOne_c0 (M 0) (M 6 0) (M 7 0) (M 10) p0)) 6 (fun _ => (X4_executeOne_c6 (M 0) (M 6 0) (M 7 0) (M 10) p0))) 7 (fun _ => (X4_executeOne_c7 (M 0) (M 6 0) (M 7 0) (M 10) p0)))] := by rw [X4_executeOne_c0, if_neg c_16, if_pos c_18, if_pos c_19]; rw [X4_executeOne_c6, if_neg c_16, if_pos c_18, if_pos c_19]; rw [X4_executeOne_c7, if_neg c_16, if_pos c_18, if_pos c_19]; exact hD
        exact W.iret (v := (X4_whyNotMove_r (M 0) (M 6 0) (M 7 0) ((M 10) (p0 + 1)) ((M 10) (p0 + 2)))) hx hb hr (fun t ht hW => ⟨⟨(X4_whyNotMove_r (M 0) (M 6 0) (M 7 0) ((M 10) (p0 + 1)) ((M 10) (p0 + 2))), (), rfl, (by rw [X4_executeOne_r, if_neg c_16, if_pos c_18, if_pos c_19]), by rw [ht]; exact hP9, hD9⟩, hS.F ht⟩) hS.2.2 dX4_executeOne_180
    · have c_20 : ¬ ((M 10) p0) = 109 := by rw [← ey_12]; exact c_17
      by_cases c_21 : y_11 = 112
      · have c_22 : ((M 10) p0) = 112 := by rw [← ey_12]; exact c_21
        subst c_21
        refine lv_lookup (off := 64) (tgt := 91) hx hb dX4_executeOne_27 (by decide +kernel) (by decide +kernel) (by decide) ?_
        refine lv_aload_n hx hb dX4_executeOne_91 rfl (lv_at hl 3 rfl) ?_
        refine lv_iload_n hx hb dX4_executeOne_92 rfl (lv_at hl 2 rfl) ?_
        refine kz_miV (As := [.int ((M 10) (p0 + 1))]) (rest := []) (b := a 0) (wr := []) (bs' := [mdW G a (va_up (va_up M 6 (fun _ => (X4_whyNotFetch_c6 (M 0) (M 6 0) (M 7 0) ((M 10) (p0 + 1))))) 7 (fun _ => (X4_whyNotFetch_c7 (M 0) (M 6 0) (M 7 0) ((M 10) (p0 + 1)))))]) ⟨hx, hb, hml, hown, hts⟩ (c_X4_whyNotFetch l G a M ((M 10) (p0 + 1))) (cwV 1 hts gX4_executeOne_X4_whyNotFetch rfl rfl rfl (by decide +kernel) ⟨Nat.le_of_ble_eq_true rfl, Nat.le_of_ble_eq_true rfl⟩) hK hP hD hS hA [0] [] [0] rfl (by decide) rfl (by decide) (by decide) rfl (by decide) (kz_recv hK hP (ci := 4) (q0 := 0) rfl rfl) rfl hl.1 rfl (Nat.le_of_ble_eq_true rfl) dX4_executeOne_93 ⟨Nat.le_of_ble_eq_true rfl, Nat.le_of_ble_eq_true rfl⟩ (fun H locs hP hD hS => ?_)
        refine lv_istore (lv' := [(4, .int (X4_whyNotFetch_r (M 0) (M 6 0) (M 7 0) ((M 10) (p0 + 1)))), (3, .int ((M 10) (p0 + 2))), (2, .int ((M 10) (p0 + 1))), (0, .ref (a 0)), (1, .int (nI p0))]) hx hb dX4_executeOne_96 hl (by decide) rfl (fun ls hl => ?_)
        refine lv_iload hx hb dX4_executeOne_98 (lv_at hl 0 rfl) ?_
        refine lv_if_ne (tgt := 178) hx hb dX4_executeOne_100 (by decide) (fun c_23 => ?_) (fun c_23 => ?_)
        · refine lv_iload hx hb dX4_executeOne_178 (lv_at hl 0 rfl) ?_
          subst hQ
          have hP9 : kz_P G [mdW G a (va_up (va_up (va_up M 0 (X4_executeOne_c0 (M 0) (M 6 0) (M 7 0) (M 10) p0)) 6 (fun _ => (X4_executeOne_c6 (M 0) (M 6 0) (M 7 0) (M 10) p0))) 7 (fun _ => (X4_executeOne_c7 (M 0) (M 6 0) (M 7 0) (M 10) p0)))] H := by rw [X4_executeOne_c0, if_neg c_16, if_neg c_20, if_pos c_22, if_neg c_23]; rw [X4_executeOne_c6, if_neg c_16, if_neg c_20, if_pos c_22, if_neg c_23]; rw [X4_executeOne_c7, if_neg c_16, if_neg c_20, if_pos c_22, if_neg c_23]; exact hP
          have hD9 : kz_D A [mdW G a (va_up (va_up (va_up M 0 (X4_executeOne_c0 (M 0) (M 6 0) (M 7 0) (M 10) p0)) 6 (fun _ => (X4_executeOne_c6 (M 0) (M 6 0) (M 7 0) (M 10) p0))) 7 (fun _ => (X4_executeOne_c7 (M 0) (M 6 0) (M 7 0) (M 10) p0)))] := by rw [X4_executeOne_c0, if_neg c_16, if_neg c_20, if_pos c_22, if_neg c_23]; rw [X4_executeOne_c6, if_neg c_16, if_neg c_20, if_pos c_22, if_neg c_23]; rw [X4_executeOne_c7, if_neg c_16, if_neg c_20, if_pos c_22, if_neg c_23]; exact hD
          exact W.iret (v := (X4_whyNotFetch_r (M 0) (M 6 0) (M 7 0) ((M 10) (p0 + 1)))) hx hb hr (fun t ht hW => ⟨⟨(X4_whyNotFetch_r (M 0) (M 6 0) (M 7 0) ((M 10) (p0 + 1))), (), rfl, (by rw [X4_executeOne_r, if_neg c_16, if_neg c_20, if_pos c_22, if_neg c_23]), by rw [ht]; exact hP9, hD9⟩, hS.F ht⟩) hS.2.2 dX4_executeOne_180
        · refine lv_aload_n hx hb dX4_executeOne_103 rfl (lv_at hl 3 rfl) ?_
          refine lv_iload_n hx hb dX4_executeOne_104 rfl (lv_at hl 2 rfl) ?_
          refine kz_miV (As := [.int ((M 10) (p0 + 1))]) (rest := []) (b := a 0) (wr := []) (bs' := [mdW G a (va_up (va_up (va_up M 6 (fun _ => (X4_whyNotFetch_c6 (M 0) (M 6 0) (M 7 0) ((M 10) (p0 + 1))))) 7 (fun _ => (X4_whyNotFetch_c7 (M 0) (M 6 0) (M 7 0) ((M 10) (p0 + 1))))) 0 (X4_fetches_c0 (M 0) ((M 10) (p0 + 1))))]) ⟨hx, hb, hml, hown, hts⟩ (c_X4_fetches l G a (va_up (va_up M 6 (fun _ => (X4_whyNotFetch_c6 (M 0) (M 6 0) (M 7 0) ((M 10) (p0 + 1))))) 7 (fun _ => (X4_whyNotFetch_c7 (M 0) (M 6 0) (M 7 0) ((M 10) (p0 + 1))))) ((M 10) (p0 + 1)) hM) (cwV 1 hts gX4_executeOne_X4_fetches rfl rfl rfl (by decide +kernel) ⟨Nat.le_of_ble_eq_true rfl, Nat.le_of_ble_eq_true rfl⟩) hK hP hD hS hA [0] [] [0] rfl (by decide) rfl (by decide) (by decide) rfl (by decide) (kz_recv hK hP (ci := 4) (q0 := 0) rfl rfl) rfl hl.1 rfl (Nat.le_of_ble_eq_true rfl) dX4_executeOne_105 ⟨Nat.le_of_ble_eq_true rfl, Nat.le_of_ble_eq_true rfl⟩ (fun H locs hP hD hS => ?_)
          refine lv_pop hx hb dX4_executeOne_108 rfl ?_
          refine lv_goto (tgt := 178) hx hb dX4_executeOne_109 (by decide) ?_
          refine lv_iload hx hb dX4_executeOne_178 (lv_at hl 0 rfl) ?_
          subst hQ
          have hP9 : kz_P G [mdW G a (va_up (va_up (va_up M 0 (X4_executeOne_c0 (M 0) (M 6 0) (M 7 0) (M 10) p0)) 6 (fun _ => (X4_executeOne_c6 (M 0) (M 6 0) (M 7 0) (M 10) p0))) 7 (fun _ => (X4_executeOne_c7 (M 0) (M 6 0) (M 7 0) (M 10) p0)))] H := by rw [X4_executeOne_c0, if_neg c_16, if_neg c_20, if_pos c_22, if_pos c_23]; rw [X4_executeOne_c6, if_neg c_16, if_neg c_20, if_pos c_22, if_pos c_23]; rw [X4_executeOne_c7, if_neg c_16, if_neg c_20, if_pos c_22, if_pos c_23]; exact hP
          have hD9 : kz_D A [mdW G a (va_up (va_up (va_up M 0 (X4_executeOne_c0 (M 0) (M 6 0) (M 7 0) (M 10) p0)) 6 (fun _ => (X4_executeOne_c6 (M 0) (M 6 0) (M 7 0) (M 10) p0))) 7 (fun _ => (X4_executeOne_c7 (M 0) (M 6 0) (M 7 0) (M 10) p0)))] := by rw [X4_executeOne_c0, if_neg c_16, if_neg c_20, if_pos c_22, if_pos c_23]; rw [X4_executeOne_c6, if_neg c_16, if_neg c_20, if_pos c_22, if_pos c_23]; rw [X4_executeOne_c7, if_neg c_16, if_neg c_20, if_pos c_22, if_pos c_23]; exact hD
          exact W.iret (v := (X4_whyNotFetch_r (M 0) (M 6 0) (M 7 0) ((M 10) (p0 + 1)))) hx hb hr (fun t ht hW => ⟨⟨(X4_whyNotFetch_r (M 0) (M 6 0) (M 7 0) ((M 10) (p0 + 1))), (), rfl, (by rw [X4_executeOne_r, if_neg c_16, if_neg c_20, if_pos c_22, if_pos c_23]), by rw [ht]; exact hP9, hD9⟩, hS.F ht⟩) hS.2.2 dX4_executeOne_180
      · have c_24 : ¬ ((M 10) p0) = 112 := by rw [← ey_12]; exact c_21
        by_cases c_25 : y_11 = 120
        · have c_26 : ((M 10) p0) = 120 := by rw [← ey_12]; exact c_25
          subst c_25
          refine lv_lookup (off := 85) (tgt := 112) hx hb dX4_executeOne_27 (by decide +kernel) (by decide +kernel) (by decide) ?_
          refine lv_aload_n hx hb dX4_executeOne_112 rfl (lv_at hl 3 rfl) ?_
          refine lv_iload_n hx hb dX4_executeOne_113 rfl (lv_at hl 2 rfl) ?_
          refine kz_miV (As := [.int ((M 10) (p0 + 1))]) (rest := []) (b := a 0) (wr := []) (bs' := [mdW G a (va_up (va_up M 6 (fun _ => (X4_whyNotRefuse_c6 (M 0) (M 6 0) (M 7 0) ((M 10) (p0 + 1))))) 7 (fun _ => (X4_whyNotRefuse_c7 (M 0) (M 6 0) (M 7 0) ((M 10) (p0 + 1)))))]) ⟨hx, hb, hml, hown, hts⟩ (c_X4_whyNotRefuse l G a M ((M 10) (p0 + 1)) hM) (cwV 1 hts gX4_executeOne_X4_whyNotRefuse rfl rfl rfl (by decide +kernel) ⟨Nat.le_of_ble_eq_true rfl, Nat.le_of_ble_eq_true rfl⟩) hK hP hD hS hA [0] [] [0] rfl (by decide) rfl (by decide) (by decide) rfl (by decide) (kz_recv hK hP (ci := 4) (q0 := 0) rfl rfl) rfl hl.1 rfl (Nat.le_of_ble_eq_true rfl) dX4_executeOne_114 ⟨Nat.le_of_ble_eq_true rfl, Nat.le_of_ble_eq_true rfl⟩ (fun H locs hP hD hS => ?_)
          refine lv_istore (lv' := [(4, .int (X4_whyNotRefuse_r (M 0) (M 6 0) (M 7 0) ((M 10) (p0 + 1)))), (3, .int ((M 10) (p0 + 2))), (2, .int ((M 10) (p0 + 1))), (0, .ref (a 0)), (1, .int (nI p0))]) hx hb dX4_executeOne_117 hl (by decide) rfl (fun ls hl => ?_)
          refine lv_iload hx hb dX4_executeOne_119 (lv_at hl 0 rfl) ?_
          refine lv_if_ne (tgt := 178) hx hb dX4_executeOne_121 (by decide) (fun c_27 => ?_) (fun c_27 => ?_)
          · refine lv_iload hx hb dX4_executeOne_178 (lv_at hl 0 rfl) ?_
            subst hQ
            have hP9 : kz_P G [mdW G a (va_up (va_up (va_up M 0 (X4_executeOne_c0 (M 0) (M 6 0) (M 7 0) (M 10) p0)) 6 (fun _ => (X4_executeOne_c6 (M 0) (M 6 0) (M 7 0) (M 10) p0))) 7 (fun _ => (X4_executeOne_c7 (M 0) (M 6 0) (M 7 0) (M 10) p0)))] H := by rw [X4_executeOne_c0, if_neg c_16, if_neg c_20, if_neg c_24, if_pos c_26, if_neg c_27]; rw [X4_executeOne_c6, if_neg c_16, if_neg c_20, if_neg c_24, if_pos c_26, if_neg c_27]; rw [X4_executeOne_c7, if_neg c_16, if_neg c_20, if_neg c_24, if_pos c_26, if_neg c_27]; exact hP
            have hD9 : kz_D A [mdW G a (va_up (va_up (va_up M 0 (X4_executeOne_c0 (M 0) (M 6 0) (M 7 0) (M 10) p0)) 6 (fun _ => (X4_executeOne_c6 (M 0) (M 6 0) (M 7 0) (M 10) p0))) 7 (fun _ => (X4_executeOne_c7 (M 0) (M 6 0) (M 7 0) (M 10) p0)))] := by rw [X4_executeOne_c0, if_neg c_16, if_neg c_20, if_neg c_24, if_pos c_26, if_neg c_27]; rw [X4_executeOne_c6, if_neg c_16, if_neg c_20, if_neg c_24, if_pos c_26, if_neg c_27]; rw [X4_executeOne_c7, if_neg c_16, if_neg c_20, if_neg c_24, if_pos c_26, if_neg c_27]; exact hD
            exact W.iret (v := (X4_whyNotRefuse_r (M 0) (M 6 0) (M 7 0) ((M 10) (p0 + 1)))) hx hb hr (fun t ht hW => ⟨⟨(X4_whyNotRefuse_r (M 0) (M 6 0) (M 7 0) ((M 10) (p0 + 1))), (), rfl, (by rw [X4_executeOne_r, if_neg c_16, if_neg c_20, if_neg c_24, if_pos c_26, if_neg c_27]), by rw [ht]; exact hP9, hD9⟩, hS.F ht⟩) hS.2.2 dX4_executeOne_180
          · have hne := kz_wnr (by rw [c_27]; decide)
            obtain ⟨hpe, hpl⟩ := kz_back (kz_pbIn hne) (by decide)
            have htk := kz_pbT hne
            have hMp := hM.2 (X4_placeBy_r (M 0) ((M 10) (p0 + 1))).toNatClampNeg (by omega)
            refine lv_aload_n hx hb dX4_executeOne_124 rfl (lv_at hl 3 rfl) ?_
            refine lv_aload_n hx hb dX4_executeOne_125 rfl (lv_at hl 3 rfl) ?_
            refine lv_iload_n hx hb dX4_executeOne_126 rfl (lv_at hl 2 rfl) ?_
            refine kz_rdV (As := [.int ((M 10) (p0 + 1))]) (rest := [.ref (a 0)]) (b := a 0) ⟨hx, hb, hml, hown, hts⟩ (c_X4_placeBy l G a (va_up (va_up M 6 (fun _ => (X4_whyNotRefuse_c6 (M 0) (M 6 0) (M 7 0) ((M 10) (p0 + 1))))) 7 (fun _ => (X4_whyNotRefuse_c7 (M 0) (M 6 0) (M 7 0) ((M 10) (p0 + 1))))) ((M 10) (p0 + 1))) (cwV 1 hts gX4_executeOne_X4_placeBy rfl rfl rfl (by decide +kernel) ⟨Nat.le_of_ble_eq_true rfl, Nat.le_of_ble_eq_true rfl⟩) hK hP (kz_recv hK hP (ci := 4) (q0 := 0) rfl rfl) rfl hl.1 rfl (Nat.le_of_ble_eq_true rfl) dX4_executeOne_127 ⟨Nat.le_of_ble_eq_true rfl, Nat.le_of_ble_eq_true rfl⟩ ?_
            refine lv_topi (fun y_28 ey_29 => ?_)
            obtain rfl : y_28 = (nI (X4_placeBy_r (M 0) ((M 10) (p0 + 1))).toNatClampNeg) := by rw [ey_29]; exact hpe
            refine kz_miV (As := [.int (nI (X4_placeBy_r (M 0) ((M 10) (p0 + 1))).toNatClampNeg)]) (rest := []) (b := a 0) (wr := []) (bs' := [mdW G a (va_up (va_up (va_up M 6 (fun _ => (X4_whyNotRefuse_c6 (M 0) (M 6 0) (M 7 0) ((M 10) (p0 + 1))))) 7 (fun _ => (X4_whyNotRefuse_c7 (M 0) (M 6 0) (M 7 0) ((M 10) (p0 + 1))))) 0 (X4_goesBack_c0 (M 0) ((X4_placeBy_r (M 0) ((M 10) (p0 + 1))).toNatClampNeg)))]) ⟨hx, hb, hml, hown, hts⟩ (c_X4_goesBack l G a (va_up (va_up M 6 (fun _ => (X4_whyNotRefuse_c6 (M 0) (M 6 0) (M 7 0) ((M 10) (p0 + 1))))) 7 (fun _ => (X4_whyNotRefuse_c7 (M 0) (M 6 0) (M 7 0) ((M 10) (p0 + 1))))) ((X4_placeBy_r (M 0) ((M 10) (p0 + 1))).toNatClampNeg) (by omega) (kz_sdS hMp.1 htk) (hMp.2 htk)) (cwV 1 hts gX4_executeOne_X4_goesBack rfl rfl rfl (by decide +kernel) ⟨Nat.le_of_ble_eq_true rfl, Nat.le_of_ble_eq_true rfl⟩) hK hP hD hS hA [0] [] [0] rfl (by decide) rfl (by decide) (by decide) rfl (by decide) (kz_recv hK hP (ci := 4) (q0 := 0) rfl rfl) rfl hl.1 rfl (Nat.le_of_ble_eq_true rfl) dX4_executeOne_130 ⟨Nat.le_of_ble_eq_true rfl, Nat.le_of_ble_eq_true rfl⟩ (fun H locs hP hD hS => ?_)
            refine lv_pop hx hb dX4_executeOne_133 rfl ?_
            refine lv_goto (tgt := 178) hx hb dX4_executeOne_134 (by decide) ?_
            refine lv_iload hx hb dX4_executeOne_178 (lv_at hl 0 rfl) ?_
            subst hQ
            have hP9 : kz_P G [mdW G a (va_up (va_up (va_up M 0 (X4_executeOne_c0 (M 0) (M 6 0) (M 7 0) (M 10) p0)) 6 (fun _ => (X4_executeOne_c6 (M 0) (M 6 0) (M 7 0) (M 10) p0))) 7 (fun _ => (X4_executeOne_c7 (M 0) (M 6 0) (M 7 0) (M 10) p0)))] H := by rw [X4_executeOne_c0, if_neg c_16, if_neg c_20, if_neg c_24, if_pos c_26, if_pos c_27]; rw [X4_executeOne_c6, if_neg c_16, if_neg c_20, if_neg c_24, if_pos c_26, if_pos c_27]; rw [X4_executeOne_c7, if_neg c_16, if_neg c_20, if_neg c_24, if_pos c_26, if_pos c_27]; exact hP
            have hD9 : kz_D A [mdW G a (va_up (va_up (va_up M 0 (X4_executeOne_c0 (M 0) (M 6 0) (M 7 0) (M 10) p0)) 6 (fun _ => (X4_executeOne_c6 (M 0) (M 6 0) (M 7 0) (M 10) p0))) 7 (fun _ => (X4_executeOne_c7 (M 0) (M 6 0) (M 7 0) (M 10) p0)))] := by rw [X4_executeOne_c0, if_neg c_16, if_neg c_20, if_neg c_24, if_pos c_26, if_pos c_27]; rw [X4_executeOne_c6, if_neg c_16, if_neg c_20, if_neg c_24, if_pos c_26, if_pos c_27]; rw [X4_executeOne_c7, if_neg c_16, if_neg c_20, if_neg c_24, if_pos c_26, if_pos c_27]; exact hD
            exact W.iret (v := (X4_whyNotRefuse_r (M 0) (M 6 0) (M 7 0) ((M 10) (p0 + 1)))) hx hb hr (fun t ht hW => ⟨⟨(X4_whyNotRefuse_r (M 0) (M 6 0) (M 7 0) ((M 10) (p0 + 1))), (), rfl, (by rw [X4_executeOne_r, if_neg c_16, if_neg c_20, if_neg c_24, if_pos c_26, if_pos c_27]), by rw [ht]; exact hP9, hD9⟩, hS.F ht⟩) hS.2.2 dX4_executeOne_180
        · have c_30 : ¬ ((M 10) p0) = 120 := by rw [← ey_12]; exact c_25
          refine lv_lookup (off := 133) (tgt := 160) hx hb dX4_executeOne_27 (by decide +kernel) (by rw [lv_osw c_13 (by decide +kernel)]; rw [lv_osw c_17 (by decide +kernel)]; rw [lv_osw c_21 (by decide +kernel)]; rw [lv_osw c_25 (by decide +kernel)]; rfl) (by decide) ?_
          refine lv_aload_n hx hb dX4_executeOne_160 rfl (lv_at hl 3 rfl) ?_
          refine lv_iload_n hx hb dX4_executeOne_161 rfl (lv_at hl 2 rfl) ?_
          refine kz_rdV (As := [.int ((M 10) (p0 + 1))]) (rest := []) (b := a 0) ⟨hx, hb, hml, hown, hts⟩ (c_X4_whyNotPass l G a M ((M 10) (p0 + 1))) (cwV 1 hts gX4_executeOne_X4_whyNotPass rfl rfl rfl (by decide +kernel) ⟨Nat.le_of_ble_eq_true rfl, Nat.le_of_ble_eq_true rfl⟩) hK hP (kz_recv hK hP (ci := 4) (q0 := 0) rfl rfl) rfl hl.1 rfl (Nat.le_of_ble_eq_true rfl) dX4_executeOne_162 ⟨Nat.le_of_ble_eq_true rfl, Nat.le_of_ble_eq_true rfl⟩ ?_
          refine lv_istore (lv' := [(4, .int (X4_whyNotPass_r (M 0) ((M 10) (p0 + 1)))), (3, .int ((M 10) (p0 + 2))), (2, .int ((M 10) (p0 + 1))), (0, .ref (a 0)), (1, .int (nI p0))]) hx hb dX4_executeOne_165 hl (by decide) rfl (fun ls hl => ?_)
          refine lv_iload hx hb dX4_executeOne_167 (lv_at hl 0 rfl) ?_
          refine lv_if_ne (tgt := 178) hx hb dX4_executeOne_169 (by decide) (fun c_31 => ?_) (fun c_31 => ?_)
          · refine lv_iload hx hb dX4_executeOne_178 (lv_at hl 0 rfl) ?_
            subst hQ
            have hP9 : kz_P G [mdW G a (va_up (va_up (va_up M 0 (X4_executeOne_c0 (M 0) (M 6 0) (M 7 0) (M 10) p0)) 6 (fun _ => (X4_executeOne_c6 (M 0) (M 6 0) (M 7 0) (M 10) p0))) 7 (fun _ => (X4_executeOne_c7 (M 0) (M 6 0) (M 7 0) (M 10) p0)))] s.heap := by rw [X4_executeOne_c0, if_neg c_16, if_neg c_20, if_neg c_24, if_neg c_30, if_neg c_31]; rw [X4_executeOne_c6, if_neg c_16, if_neg c_20, if_neg c_24, if_neg c_30, if_neg c_31]; rw [X4_executeOne_c7, if_neg c_16, if_neg c_20, if_neg c_24, if_neg c_30, if_neg c_31]; exact hP
            have hD9 : kz_D A [mdW G a (va_up (va_up (va_up M 0 (X4_executeOne_c0 (M 0) (M 6 0) (M 7 0) (M 10) p0)) 6 (fun _ => (X4_executeOne_c6 (M 0) (M 6 0) (M 7 0) (M 10) p0))) 7 (fun _ => (X4_executeOne_c7 (M 0) (M 6 0) (M 7 0) (M 10) p0)))] := by rw [X4_executeOne_c0, if_neg c_16, if_neg c_20, if_neg c_24, if_neg c_30, if_neg c_31]; rw [X4_executeOne_c6, if_neg c_16, if_neg c_20, if_neg c_24, if_neg c_30, if_neg c_31]; rw [X4_executeOne_c7, if_neg c_16, if_neg c_20, if_neg c_24, if_neg c_30, if_neg c_31]; exact hD
            exact W.iret (v := (X4_whyNotPass_r (M 0) ((M 10) (p0 + 1)))) hx hb hr (fun t ht hW => ⟨⟨(X4_whyNotPass_r (M 0) ((M 10) (p0 + 1))), (), rfl, (by rw [X4_executeOne_r, if_neg c_16, if_neg c_20, if_neg c_24, if_neg c_30, if_neg c_31]), by rw [ht]; exact hP9, hD9⟩, hS.F ht⟩) hS.2.2 dX4_executeOne_180
          · have hwn := kz_wnp (by rw [c_31]; decide)
            obtain ⟨hcv32, hcl32⟩ := kz_back (kz_wi1In 30 hwn rfl (by decide)) (by decide)
            have hl : lv_has ls 5 [(4, .int (X4_whyNotPass_r (M 0) ((M 10) (p0 + 1)))), (3, .int ((M 10) (p0 + 2))), (2, .int (nI ((M 10) (p0 + 1)).toNatClampNeg)), (0, .ref (a 0)), (1, .int (nI p0))] := by rw [← hcv32]; exact hl
            refine lv_aload_n hx hb dX4_executeOne_172 rfl (lv_at hl 3 rfl) ?_
            refine lv_iload_n hx hb dX4_executeOne_173 rfl (lv_at hl 2 rfl) ?_
            refine kz_miV (As := [.int (nI ((M 10) (p0 + 1)).toNatClampNeg)]) (rest := []) (b := a 0) (wr := []) (bs' := [mdW G a (va_up M 0 (X4_passes_c0 (M 0) (((M 10) (p0 + 1)).toNatClampNeg)))]) ⟨hx, hb, hml, hown, hts⟩ (c_X4_passes l G a M (((M 10) (p0 + 1)).toNatClampNeg) hM.2 (by omega)) (cwV 1 hts gX4_executeOne_X4_passes rfl rfl rfl (by decide +kernel) ⟨Nat.le_of_ble_eq_true rfl, Nat.le_of_ble_eq_true rfl⟩) hK hP hD hS hA [0] [] [0] rfl (by decide) rfl (by decide) (by decide) rfl (by decide) (kz_recv hK hP (ci := 4) (q0 := 0) rfl rfl) rfl hl.1 rfl (Nat.le_of_ble_eq_true rfl) dX4_executeOne_174 ⟨Nat.le_of_ble_eq_true rfl, Nat.le_of_ble_eq_true rfl⟩ (fun H locs hP hD hS => ?_)
            refine lv_pop hx hb dX4_executeOne_177 rfl ?_
            refine lv_iload hx hb dX4_executeOne_178 (lv_at hl 0 rfl) ?_
            subst hQ
            have hP9 : kz_P G [mdW G a (va_up (va_up (va_up M 0 (X4_executeOne_c0 (M 0) (M 6 0) (M 7 0) (M 10) p0)) 6 (fun _ => (X4_executeOne_c6 (M 0) (M 6 0) (M 7 0) (M 10) p0))) 7 (fun _ => (X4_executeOne_c7 (M 0) (M 6 0) (M 7 0) (M 10) p0)))] H := by rw [X4_executeOne_c0, if_neg c_16, if_neg c_20, if_neg c_24, if_neg c_30, if_pos c_31]; rw [X4_executeOne_c6, if_neg c_16, if_neg c_20, if_neg c_24, if_neg c_30, if_pos c_31]; rw [X4_executeOne_c7, if_neg c_16, if_neg c_20, if_neg c_24, if_neg c_30, if_pos c_31]; exact hP
            have hD9 : kz_D A [mdW G a (va_up (va_up (va_up M 0 (X4_executeOne_c0 (M 0) (M 6 0) (M 7 0) (M 10) p0)) 6 (fun _ => (X4_executeOne_c6 (M 0) (M 6 0) (M 7 0) (M 10) p0))) 7 (fun _ => (X4_executeOne_c7 (M 0) (M 6 0) (M 7 0) (M 10) p0)))] := by rw [X4_executeOne_c0, if_neg c_16, if_neg c_20, if_neg c_24, if_neg c_30, if_pos c_31]; rw [X4_executeOne_c6, if_neg c_16, if_neg c_20, if_neg c_24, if_neg c_30, if_pos c_31]; rw [X4_executeOne_c7, if_neg c_16, if_neg c_20, if_neg c_24, if_neg c_30, if_pos c_31]; exact hD
            exact W.iret (v := (X4_whyNotPass_r (M 0) ((M 10) (p0 + 1)))) hx hb hr (fun t ht hW => ⟨⟨(X4_whyNotPass_r (M 0) ((M 10) (p0 + 1))), (), rfl, (by rw [X4_executeOne_r, if_neg c_16, if_neg c_20, if_neg c_24, if_neg c_30, if_pos c_31]), by rw [ht]; exact hP9, hD9⟩, hS.F ht⟩) hS.2.2 dX4_executeOne_180
