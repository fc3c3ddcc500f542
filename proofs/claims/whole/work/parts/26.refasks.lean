def X4_setting_r (z0 : Nat → Int32) (k : Int32) : Int32 := if X4_in_p k 0 4 then (z0 k.toNatClampNeg) else (-2)
set_option maxHeartbeats 1000000 in
set_option maxRecDepth 100000 in
theorem c_X4_setting (l : Launch) (G : kz_G) (a : Nat → Nat) (M : kz_S) (k : Int32) : kz_rd l G yX4_setting wsX4_setting 1 22 [.ref (a 0), .int k] [mdW G a M] (X4_setting_r (M 0) k) := by
  refine Met.ofW (cc := cX4_setting) (maxL := 2) (ret := (some .int)) (by decide) rfl ?_
  intro p e s m args below meth c s₁ B hml hv
  obtain ⟨rfl, hP, hK⟩ := hv
  have hx := B.exec
  have hb := B.bytes
  have hr := B.returns
  have hts := atoms_spec (ws := wsX4_setting) B.pre
  have hown : s.vm.findClass RX4 = some m.cls := findClass_of_methodNamed B.named
  have hlocks := B.notSynchronized
  have hinX4 : ∀ w ∈ u_ws RX4 TX4 14, w ∈ wsX4_setting := by decide +kernel
  have hl := lv_entry ([.ref (a 0), .int k]) (n := 2) (Nat.le_of_ble_eq_true rfl)
  rw [lg_entry_eq]
  generalize (lg_sl ([.ref (a 0), .int k]) ++ List.replicate (2 - (lg_sl ([.ref (a 0), .int k])).length) Slot.unset).toArray = ls at hl ⊢
  have hl : lv_has ls 2 [(0, .ref (a 0)), (1, .int k)] := hl
  refine kz_start (fun QQ hQ => ?_)
  refine lv_iload_n hx hb dX4_setting_0 rfl (lv_at hl 1 rfl) ?_
  refine lv_iconst (v := 0) hx hb dX4_setting_1 (by decide +kernel) ?_
  refine lv_iconst (v := 4) hx hb dX4_setting_2 (by decide +kernel) ?_
  refine kz_rdS (As := [.int k, .int 0, .int 4]) (rest := []) ⟨hx, hb, hml, hown, hts⟩ (c_X4_in l G k 0 4) (va_cwS 3 hts gX4_setting_X4_in rfl rfl rfl (by decide +kernel) ⟨Nat.le_of_ble_eq_true rfl, Nat.le_of_ble_eq_true rfl⟩) hK (hP.sub (cs := []) [] rfl) rfl hl.1 rfl (Nat.le_of_ble_eq_true rfl) dX4_setting_3 ⟨Nat.le_of_ble_eq_true rfl, Nat.le_of_ble_eq_true rfl⟩ ?_
  refine lv_topi (fun y_1 ey_2 => ?_)
  by_cases c_3 : X4_in_p k 0 4
  · rw [if_pos c_3] at ey_2
    subst ey_2
    refine lv_if_eq (tgt := 18) hx hb dX4_setting_6 (by decide) (fun c => absurd c (by decide)) (fun _ => ?_)
    refine lv_aload_n hx hb dX4_setting_9 rfl (lv_at hl 0 rfl) ?_
    refine va_get (D := G.1) (ci := 4) (v := .ref (a 1)) (C := RX4) (T := TX4) (N := 14) hx hb hts hinX4 hown hK.1 hP 0 rfl rfl 0 (by decide) (hts (.fieldLink RX4 7 "ParcelShelvesModel" "z" "[I") (by decide +kernel)) (fun _ h9 => h9) rfl dX4_setting_10 ?_
    refine lv_iload_n hx hb dX4_setting_13 rfl (lv_at hl 1 rfl) ?_
    refine va_iald (f := (M 0)) hx hb hK.1 hP 1 0 rfl rfl (kz_in5 c_3) dX4_setting_14 ?_
    refine lv_goto (tgt := 20) hx hb dX4_setting_15 (by decide) ?_
    subst hQ
    exact W.iret (v := ((M 0) k.toNatClampNeg)) hx hb hr (fun t ht _ => ⟨((M 0) k.toNatClampNeg), rfl, (by rw [X4_setting_r, if_pos c_3]), ht⟩) (fun _ h9 => absurd h9 List.not_mem_nil) dX4_setting_20
  · rw [if_neg c_3] at ey_2
    subst ey_2
    refine lv_if_eq (tgt := 18) hx hb dX4_setting_6 (by decide) (fun _ => ?_) (fun c => absurd c (by decide))
    refine lv_bipush (v := (-2)) hx hb dX4_setting_18 (by decide +kernel) ?_
    subst hQ
    exact W.iret (v := (-2)) hx hb hr (fun t ht _ => ⟨(-2), rfl, (by rw [X4_setting_r, if_neg c_3]), ht⟩) (fun _ h9 => absurd h9 List.not_mem_nil) dX4_setting_20
def X4_day_r (z0 : Nat → Int32) : Int32 := (z0 5)
set_option maxHeartbeats 1000000 in
set_option maxRecDepth 100000 in
theorem c_X4_day (l : Launch) (G : kz_G) (a : Nat → Nat) (M : kz_S) : kz_rd l G yX4_day wsX4_day 0 0 [.ref (a 0)] [mdW G a M] (X4_day_r (M 0)) := by
  refine Met.ofW (cc := cX4_day) (maxL := 1) (ret := (some .int)) (by decide) rfl ?_
  intro p e s m args below meth c s₁ B hml hv
  obtain ⟨rfl, hP, hK⟩ := hv
  have hx := B.exec
  have hb := B.bytes
  have hr := B.returns
  have hts := atoms_spec (ws := wsX4_day) B.pre
  have hown : s.vm.findClass RX4 = some m.cls := findClass_of_methodNamed B.named
  have hlocks := B.notSynchronized
  have hinX4 : ∀ w ∈ u_ws RX4 TX4 14, w ∈ wsX4_day := by decide +kernel
  have hl := lv_entry ([.ref (a 0)]) (n := 1) (Nat.le_of_ble_eq_true rfl)
  rw [lg_entry_eq]
  generalize (lg_sl ([.ref (a 0)]) ++ List.replicate (1 - (lg_sl ([.ref (a 0)])).length) Slot.unset).toArray = ls at hl ⊢
  have hl : lv_has ls 1 [(0, .ref (a 0))] := hl
  refine kz_start (fun QQ hQ => ?_)
  refine lv_aload_n hx hb dX4_day_0 rfl (lv_at hl 0 rfl) ?_
  refine va_get (D := G.1) (ci := 4) (v := .ref (a 1)) (C := RX4) (T := TX4) (N := 14) hx hb hts hinX4 hown hK.1 hP 0 rfl rfl 0 (by decide) (hts (.fieldLink RX4 7 "ParcelShelvesModel" "z" "[I") (by decide +kernel)) (fun _ h9 => h9) rfl dX4_day_1 ?_
  refine lv_iconst (v := 5) hx hb dX4_day_4 (by decide +kernel) ?_
  refine va_iald (f := (M 0)) hx hb hK.1 hP 1 0 rfl rfl (vp_in_nI (n := 5) (N := 580) (by decide) (by decide)) dX4_day_5 ?_
  refine lv_topi (fun y_1 ey_2 => ?_)
  obtain rfl : y_1 = ((M 0) 5) := by rw [ey_2]; rfl
  subst hQ
  exact W.iret (v := ((M 0) 5)) hx hb hr (fun t ht _ => ⟨((M 0) 5), rfl, rfl, ht⟩) (fun _ h9 => absurd h9 List.not_mem_nil) dX4_day_6
def X4_parcel_r (z0 : Nat → Int32) (code : Int32) (p0 : Int32) : Int32 := if (X4_placeBy_r z0 code) = (-6) then (-1) else if p0 = 0 then ((z0 (12 + 4 * ((X4_placeBy_r z0 code).toNatClampNeg) + 0)) - 1) else if p0 = 1 then (z0 (12 + 4 * ((X4_placeBy_r z0 code).toNatClampNeg) + 1)) else if p0 = 2 then (z0 (12 + 4 * ((X4_placeBy_r z0 code).toNatClampNeg) + 2)) else if p0 = 3 then ((nI (X4_placeBy_r z0 code).toNatClampNeg) / 8) else if p0 = 4 then (kz_rem (nI (X4_placeBy_r z0 code).toNatClampNeg) 8) else if p0 = 5 then (X4_feeOn_r z0 ((X4_placeBy_r z0 code).toNatClampNeg) (z0 5)) else (-2)
set_option maxHeartbeats 1000000 in
set_option maxRecDepth 100000 in
theorem c_X4_parcel (l : Launch) (G : kz_G) (a : Nat → Nat) (M : kz_S) (code : Int32) (p0 : Int32) (hM : kz_M (M 0)) : kz_rd l G yX4_parcel wsX4_parcel 3 69 [.ref (a 0), .int code, .int p0] [mdW G a M] (X4_parcel_r (M 0) code p0) := by
  refine Met.ofW (cc := cX4_parcel) (maxL := 4) (ret := (some .int)) (by decide) rfl ?_
  intro p e s m args below meth c s₁ B hml hv
  obtain ⟨rfl, hP, hK⟩ := hv
  have hx := B.exec
  have hb := B.bytes
  have hr := B.returns
  have hts := atoms_spec (ws := wsX4_parcel) B.pre
  have hown : s.vm.findClass RX4 = some m.cls := findClass_of_methodNamed B.named
  have hlocks := B.notSynchronized
  have hinX4 : ∀ w ∈ u_ws RX4 TX4 14, w ∈ wsX4_parcel := by decide +kernel
  have hl := lv_entry ([.ref (a 0), .int code, .int p0]) (n := 4) (Nat.le_of_ble_eq_true rfl)
  rw [lg_entry_eq]
  generalize (lg_sl ([.ref (a 0), .int code, .int p0]) ++ List.replicate (4 - (lg_sl ([.ref (a 0), .int code, .int p0])).length) Slot.unset).toArray = ls at hl ⊢
  have hl : lv_has ls 4 [(0, .ref (a 0)), (1, .int code), (2, .int p0)] := hl
  refine kz_start (fun QQ hQ => ?_)
  refine lv_aload_n hx hb dX4_parcel_0 rfl (lv_at hl 0 rfl) ?_
  refine lv_iload_n hx hb dX4_parcel_1 rfl (lv_at hl 1 rfl) ?_
  refine kz_rdV (As := [.int code]) (rest := []) (b := a 0) ⟨hx, hb, hml, hown, hts⟩ (c_X4_placeBy l G a M code) (cwV 1 hts gX4_parcel_X4_placeBy rfl rfl rfl (by decide +kernel) ⟨Nat.le_of_ble_eq_true rfl, Nat.le_of_ble_eq_true rfl⟩) hK hP (kz_recv hK hP (ci := 4) (q0 := 0) rfl rfl) rfl hl.1 rfl (Nat.le_of_ble_eq_true rfl) dX4_parcel_2 ⟨Nat.le_of_ble_eq_true rfl, Nat.le_of_ble_eq_true rfl⟩ ?_
  refine lv_istore_n (lv' := [(3, .int (X4_placeBy_r (M 0) code)), (0, .ref (a 0)), (1, .int code), (2, .int p0)]) hx hb dX4_parcel_5 rfl hl (by decide) rfl (fun ls hl => ?_)
  refine lv_iload_n hx hb dX4_parcel_6 rfl (lv_at hl 0 rfl) ?_
  refine lv_bipush (v := (-6)) hx hb dX4_parcel_7 (by decide +kernel) ?_
  refine lv_icmp_ne (tgt := 14) hx hb dX4_parcel_9 (by decide) (fun c_1 => ?_) (fun c_1 => ?_)
  · obtain ⟨hcv2, hcl2⟩ := kz_back (kz_pbIn c_1) (by decide)
    have hl : lv_has ls 4 [(3, .int (nI (X4_placeBy_r (M 0) code).toNatClampNeg)), (0, .ref (a 0)), (1, .int code), (2, .int p0)] := by rw [← hcv2]; exact hl
    have htk := kz_pbT c_1
    have hMp := hM.2 (X4_placeBy_r (M 0) code).toNatClampNeg (by omega)
    refine lv_iload_n hx hb dX4_parcel_14 rfl (lv_at hl 3 rfl) ?_
    refine lv_topi (fun y_3 ey_4 => ?_)
    by_cases c_5 : y_3 = 0
    · have c_6 : p0 = 0 := by rw [← ey_4]; exact c_5
      subst c_5
      refine lv_tableIn (off := 37) (tgt := 52) hx hb dX4_parcel_15 (by decide +kernel) (by decide +kernel) (by decide +kernel) (by decide) ?_
      refine lv_aload_n hx hb dX4_parcel_52 rfl (lv_at hl 1 rfl) ?_
      refine lv_iload_n hx hb dX4_parcel_53 rfl (lv_at hl 0 rfl) ?_
      refine lv_iconst (v := 0) hx hb dX4_parcel_54 (by decide +kernel) ?_
      refine kz_rdV (As := [.int (nI (X4_placeBy_r (M 0) code).toNatClampNeg), .int 0]) (rest := []) (b := a 0) ⟨hx, hb, hml, hown, hts⟩ (c_X4_at l G a M ((X4_placeBy_r (M 0) code).toNatClampNeg) 0 (by omega)) (cwV 2 hts gX4_parcel_X4_at rfl rfl rfl (by decide +kernel) ⟨Nat.le_of_ble_eq_true rfl, Nat.le_of_ble_eq_true rfl⟩) hK hP (kz_recv hK hP (ci := 4) (q0 := 0) rfl rfl) rfl hl.1 rfl (Nat.le_of_ble_eq_true rfl) dX4_parcel_55 ⟨Nat.le_of_ble_eq_true rfl, Nat.le_of_ble_eq_true rfl⟩ ?_
      refine lv_iconst (v := 1) hx hb dX4_parcel_58 (by decide +kernel) ?_
      refine lv_isub hx hb dX4_parcel_59 ?_
      subst hQ
      exact W.iret (v := (((M 0) (12 + 4 * ((X4_placeBy_r (M 0) code).toNatClampNeg) + 0)) - 1)) hx hb hr (fun t ht _ => ⟨(((M 0) (12 + 4 * ((X4_placeBy_r (M 0) code).toNatClampNeg) + 0)) - 1), rfl, (by rw [X4_parcel_r, if_neg c_1, if_pos c_6]), ht⟩) (fun _ h9 => absurd h9 List.not_mem_nil) dX4_parcel_60
    · have c_7 : ¬ p0 = 0 := by rw [← ey_4]; exact c_5
      by_cases c_8 : y_3 = 1
      · have c_9 : p0 = 1 := by rw [← ey_4]; exact c_8
        subst c_8
        refine lv_tableIn (off := 46) (tgt := 61) hx hb dX4_parcel_15 (by decide +kernel) (by decide +kernel) (by decide +kernel) (by decide) ?_
        have hl : lv_has ls 4 [(3, .int (nI (X4_placeBy_r (M 0) code).toNatClampNeg)), (0, .ref (a 0)), (1, .int code), (2, .int 1)] := by have h9 : lv_has ls 4 [(3, .int (nI (X4_placeBy_r (M 0) code).toNatClampNeg)), (0, .ref (a 0)), (1, .int code), (2, .int p0)] := hl; rw [c_9] at h9; exact h9
        refine lv_aload_n hx hb dX4_parcel_61 rfl (lv_at hl 1 rfl) ?_
        refine lv_iload_n hx hb dX4_parcel_62 rfl (lv_at hl 0 rfl) ?_
        refine lv_iload_n hx hb dX4_parcel_63 rfl (lv_at hl 3 rfl) ?_
        refine kz_rdV (As := [.int (nI (X4_placeBy_r (M 0) code).toNatClampNeg), .int 1]) (rest := []) (b := a 0) ⟨hx, hb, hml, hown, hts⟩ (c_X4_at l G a M ((X4_placeBy_r (M 0) code).toNatClampNeg) 1 (by omega)) (cwV 2 hts gX4_parcel_X4_at rfl rfl rfl (by decide +kernel) ⟨Nat.le_of_ble_eq_true rfl, Nat.le_of_ble_eq_true rfl⟩) hK hP (kz_recv hK hP (ci := 4) (q0 := 0) rfl rfl) rfl hl.1 rfl (Nat.le_of_ble_eq_true rfl) dX4_parcel_64 ⟨Nat.le_of_ble_eq_true rfl, Nat.le_of_ble_eq_true rfl⟩ ?_
        subst hQ
        exact W.iret (v := ((M 0) (12 + 4 * ((X4_placeBy_r (M 0) code).toNatClampNeg) + 1))) hx hb hr (fun t ht _ => ⟨((M 0) (12 + 4 * ((X4_placeBy_r (M 0) code).toNatClampNeg) + 1)), rfl, (by rw [X4_parcel_r, if_neg c_1, if_neg c_7, if_pos c_9]), ht⟩) (fun _ h9 => absurd h9 List.not_mem_nil) dX4_parcel_67
      · have c_10 : ¬ p0 = 1 := by rw [← ey_4]; exact c_8
        by_cases c_11 : y_3 = 2
        · have c_12 : p0 = 2 := by rw [← ey_4]; exact c_11
          subst c_11
          refine lv_tableIn (off := 46) (tgt := 61) hx hb dX4_parcel_15 (by decide +kernel) (by decide +kernel) (by decide +kernel) (by decide) ?_
          have hl : lv_has ls 4 [(3, .int (nI (X4_placeBy_r (M 0) code).toNatClampNeg)), (0, .ref (a 0)), (1, .int code), (2, .int 2)] := by have h9 : lv_has ls 4 [(3, .int (nI (X4_placeBy_r (M 0) code).toNatClampNeg)), (0, .ref (a 0)), (1, .int code), (2, .int p0)] := hl; rw [c_12] at h9; exact h9
          refine lv_aload_n hx hb dX4_parcel_61 rfl (lv_at hl 1 rfl) ?_
          refine lv_iload_n hx hb dX4_parcel_62 rfl (lv_at hl 0 rfl) ?_
          refine lv_iload_n hx hb dX4_parcel_63 rfl (lv_at hl 3 rfl) ?_
          refine kz_rdV (As := [.int (nI (X4_placeBy_r (M 0) code).toNatClampNeg), .int 2]) (rest := []) (b := a 0) ⟨hx, hb, hml, hown, hts⟩ (c_X4_at l G a M ((X4_placeBy_r (M 0) code).toNatClampNeg) 2 (by omega)) (cwV 2 hts gX4_parcel_X4_at rfl rfl rfl (by decide +kernel) ⟨Nat.le_of_ble_eq_true rfl, Nat.le_of_ble_eq_true rfl⟩) hK hP (kz_recv hK hP (ci := 4) (q0 := 0) rfl rfl) rfl hl.1 rfl (Nat.le_of_ble_eq_true rfl) dX4_parcel_64 ⟨Nat.le_of_ble_eq_true rfl, Nat.le_of_ble_eq_true rfl⟩ ?_
          subst hQ
          exact W.iret (v := ((M 0) (12 + 4 * ((X4_placeBy_r (M 0) code).toNatClampNeg) + 2))) hx hb hr (fun t ht _ => ⟨((M 0) (12 + 4 * ((X4_placeBy_r (M 0) code).toNatClampNeg) + 2)), rfl, (by rw [X4_parcel_r, if_neg c_1, if_neg c_7, if_neg c_10, if_pos c_12]), ht⟩) (fun _ h9 => absurd h9 List.not_mem_nil) dX4_parcel_67
        · have c_13 : ¬ p0 = 2 := by rw [← ey_4]; exact c_11
          by_cases c_14 : y_3 = 3
          · have c_15 : p0 = 3 := by rw [← ey_4]; exact c_14
            subst c_14
            refine lv_tableIn (off := 53) (tgt := 68) hx hb dX4_parcel_15 (by decide +kernel) (by decide +kernel) (by decide +kernel) (by decide) ?_
            refine lv_iload_n hx hb dX4_parcel_68 rfl (lv_at hl 0 rfl) ?_
            refine lv_bipush (v := 8) hx hb dX4_parcel_69 (by decide +kernel) ?_
            refine lv_idiv hx hb dX4_parcel_71 (by decide +kernel) ?_
            subst hQ
            exact W.iret (v := ((nI (X4_placeBy_r (M 0) code).toNatClampNeg) / 8)) hx hb hr (fun t ht _ => ⟨((nI (X4_placeBy_r (M 0) code).toNatClampNeg) / 8), rfl, (by rw [X4_parcel_r, if_neg c_1, if_neg c_7, if_neg c_10, if_neg c_13, if_pos c_15]), ht⟩) (fun _ h9 => absurd h9 List.not_mem_nil) dX4_parcel_72
          · have c_16 : ¬ p0 = 3 := by rw [← ey_4]; exact c_14
            by_cases c_17 : y_3 = 4
            · have c_18 : p0 = 4 := by rw [← ey_4]; exact c_17
              subst c_17
              refine lv_tableIn (off := 58) (tgt := 73) hx hb dX4_parcel_15 (by decide +kernel) (by decide +kernel) (by decide +kernel) (by decide) ?_
              refine lv_iload_n hx hb dX4_parcel_73 rfl (lv_at hl 0 rfl) ?_
              refine lv_bipush (v := 8) hx hb dX4_parcel_74 (by decide +kernel) ?_
              refine lv_irem hx hb dX4_parcel_76 (by decide +kernel) ?_
              refine kz_topR ?_
              subst hQ
              exact W.iret (v := (kz_rem (nI (X4_placeBy_r (M 0) code).toNatClampNeg) 8)) hx hb hr (fun t ht _ => ⟨(kz_rem (nI (X4_placeBy_r (M 0) code).toNatClampNeg) 8), rfl, (by rw [X4_parcel_r, if_neg c_1, if_neg c_7, if_neg c_10, if_neg c_13, if_neg c_16, if_pos c_18]), ht⟩) (fun _ h9 => absurd h9 List.not_mem_nil) dX4_parcel_77
            · have c_19 : ¬ p0 = 4 := by rw [← ey_4]; exact c_17
              by_cases c_20 : y_3 = 5
              · have c_21 : p0 = 5 := by rw [← ey_4]; exact c_20
                subst c_20
                refine lv_tableIn (off := 63) (tgt := 78) hx hb dX4_parcel_15 (by decide +kernel) (by decide +kernel) (by decide +kernel) (by decide) ?_
                refine lv_aload_n hx hb dX4_parcel_78 rfl (lv_at hl 1 rfl) ?_
                refine lv_iload_n hx hb dX4_parcel_79 rfl (lv_at hl 0 rfl) ?_
                refine lv_aload_n hx hb dX4_parcel_80 rfl (lv_at hl 1 rfl) ?_
                refine va_get (D := G.1) (ci := 4) (v := .ref (a 1)) (C := RX4) (T := TX4) (N := 14) hx hb hts hinX4 hown hK.1 hP 0 rfl rfl 0 (by decide) (hts (.fieldLink RX4 7 "ParcelShelvesModel" "z" "[I") (by decide +kernel)) (fun _ h9 => h9) rfl dX4_parcel_81 ?_
                refine lv_iconst (v := 5) hx hb dX4_parcel_84 (by decide +kernel) ?_
                refine va_iald (f := (M 0)) hx hb hK.1 hP 1 0 rfl rfl (vp_in_nI (n := 5) (N := 580) (by decide) (by decide)) dX4_parcel_85 ?_
                refine lv_topi (fun y_22 ey_23 => ?_)
                obtain rfl : y_22 = ((M 0) 5) := by rw [ey_23]; rfl
                refine kz_rdV (As := [.int (nI (X4_placeBy_r (M 0) code).toNatClampNeg), .int ((M 0) 5)]) (rest := []) (b := a 0) ⟨hx, hb, hml, hown, hts⟩ (c_X4_feeOn l G a M ((X4_placeBy_r (M 0) code).toNatClampNeg) ((M 0) 5) (by omega)) (cwV 2 hts gX4_parcel_X4_feeOn rfl rfl rfl (by decide +kernel) ⟨Nat.le_of_ble_eq_true rfl, Nat.le_of_ble_eq_true rfl⟩) hK hP (kz_recv hK hP (ci := 4) (q0 := 0) rfl rfl) rfl hl.1 rfl (Nat.le_of_ble_eq_true rfl) dX4_parcel_86 ⟨Nat.le_of_ble_eq_true rfl, Nat.le_of_ble_eq_true rfl⟩ ?_
                subst hQ
                exact W.iret (v := (X4_feeOn_r (M 0) ((X4_placeBy_r (M 0) code).toNatClampNeg) ((M 0) 5))) hx hb hr (fun t ht _ => ⟨(X4_feeOn_r (M 0) ((X4_placeBy_r (M 0) code).toNatClampNeg) ((M 0) 5)), rfl, (by rw [X4_parcel_r, if_neg c_1, if_neg c_7, if_neg c_10, if_neg c_13, if_neg c_16, if_neg c_19, if_pos c_21]), ht⟩) (fun _ h9 => absurd h9 List.not_mem_nil) dX4_parcel_89
              · have c_24 : ¬ p0 = 5 := by rw [← ey_4]; exact c_20
                refine lv_tableOut (tgt := 90) hx hb dX4_parcel_15 (by have h0 := lv_neT c_5 (by decide +kernel : (0 : Int32).toInt = 0); have h1 := lv_neT c_8 (by decide +kernel : (1 : Int32).toInt = 1); have h2 := lv_neT c_11 (by decide +kernel : (2 : Int32).toInt = 2); have h3 := lv_neT c_14 (by decide +kernel : (3 : Int32).toInt = 3); have h4 := lv_neT c_17 (by decide +kernel : (4 : Int32).toInt = 4); have h5 := lv_neT c_20 (by decide +kernel : (5 : Int32).toInt = 5); omega) (by decide) ?_
                refine lv_bipush (v := (-2)) hx hb dX4_parcel_90 (by decide +kernel) ?_
                subst hQ
                exact W.iret (v := (-2)) hx hb hr (fun t ht _ => ⟨(-2), rfl, (by rw [X4_parcel_r, if_neg c_1, if_neg c_7, if_neg c_10, if_neg c_13, if_neg c_16, if_neg c_19, if_neg c_24]), ht⟩) (fun _ h9 => absurd h9 List.not_mem_nil) dX4_parcel_92
  · refine lv_iconst (v := (-1)) hx hb dX4_parcel_12 (by decide +kernel) ?_
    subst hQ
    exact W.iret (v := (-1)) hx hb hr (fun t ht _ => ⟨(-1), rfl, (by rw [X4_parcel_r, if_pos c_1]), ht⟩) (fun _ h9 => absurd h9 List.not_mem_nil) dX4_parcel_13
def X4_codeAt_r (z0 : Nat → Int32) (k : Int32) (pl : Int32) : Int32 := if X4_isPlace_p k pl then (if X4_isTaken_p z0 (8 * k.toNatClampNeg + pl.toNatClampNeg) then (X4_codeOn_r z0 (8 * k.toNatClampNeg + pl.toNatClampNeg)) else (-6)) else (-1)
set_option maxHeartbeats 1000000 in
set_option maxRecDepth 100000 in
theorem c_X4_codeAt (l : Launch) (G : kz_G) (a : Nat → Nat) (M : kz_S) (k : Int32) (pl : Int32) : kz_rd l G yX4_codeAt wsX4_codeAt 2 43 [.ref (a 0), .int k, .int pl] [mdW G a M] (X4_codeAt_r (M 0) k pl) := by
  refine Met.ofW (cc := cX4_codeAt) (maxL := 3) (ret := (some .int)) (by decide) rfl ?_
  intro p e s m args below meth c s₁ B hml hv
  obtain ⟨rfl, hP, hK⟩ := hv
  have hx := B.exec
  have hb := B.bytes
  have hr := B.returns
  have hts := atoms_spec (ws := wsX4_codeAt) B.pre
  have hown : s.vm.findClass RX4 = some m.cls := findClass_of_methodNamed B.named
  have hlocks := B.notSynchronized
  have hl := lv_entry ([.ref (a 0), .int k, .int pl]) (n := 3) (Nat.le_of_ble_eq_true rfl)
  rw [lg_entry_eq]
  generalize (lg_sl ([.ref (a 0), .int k, .int pl]) ++ List.replicate (3 - (lg_sl ([.ref (a 0), .int k, .int pl])).length) Slot.unset).toArray = ls at hl ⊢
  have hl : lv_has ls 3 [(0, .ref (a 0)), (1, .int k), (2, .int pl)] := hl
  refine kz_start (fun QQ hQ => ?_)
  refine lv_iload_n hx hb dX4_codeAt_0 rfl (lv_at hl 1 rfl) ?_
  refine lv_iload_n hx hb dX4_codeAt_1 rfl (lv_at hl 2 rfl) ?_
  refine kz_rdS (As := [.int k, .int pl]) (rest := []) ⟨hx, hb, hml, hown, hts⟩ (c_X4_isPlace l G k pl) (va_cwS 2 hts gX4_codeAt_X4_isPlace rfl rfl rfl (by decide +kernel) ⟨Nat.le_of_ble_eq_true rfl, Nat.le_of_ble_eq_true rfl⟩) hK (hP.sub (cs := []) [] rfl) rfl hl.1 rfl (Nat.le_of_ble_eq_true rfl) dX4_codeAt_2 ⟨Nat.le_of_ble_eq_true rfl, Nat.le_of_ble_eq_true rfl⟩ ?_
  refine lv_topi (fun y_1 ey_2 => ?_)
  by_cases c_3 : X4_isPlace_p k pl
  · rw [if_pos c_3] at ey_2
    subst ey_2
    obtain ⟨hcv4, hcl4⟩ := kz_back (kz_wiIn 5 c_3.1 rfl (by decide)) (by decide)
    have hl : lv_has ls 3 [(0, .ref (a 0)), (1, .int (nI k.toNatClampNeg)), (2, .int pl)] := by rw [← hcv4]; exact hl
    obtain ⟨hcv5, hcl5⟩ := kz_back (kz_wiIn 7 c_3.2 rfl (by decide)) (by decide)
    have hl : lv_has ls 3 [(0, .ref (a 0)), (1, .int (nI k.toNatClampNeg)), (2, .int (nI pl.toNatClampNeg))] := by rw [← hcv5]; exact hl
    refine lv_if_ne (tgt := 10) hx hb dX4_codeAt_5 (by decide) (fun _ => ?_) (fun c => absurd c (by decide))
    refine lv_aload_n hx hb dX4_codeAt_10 rfl (lv_at hl 0 rfl) ?_
    refine lv_bipush (v := 8) hx hb dX4_codeAt_11 (by decide +kernel) ?_
    refine lv_iload_n hx hb dX4_codeAt_13 rfl (lv_at hl 1 rfl) ?_
    refine lv_imul hx hb dX4_codeAt_14 ?_
    refine lv_topi (fun y_6 ey_7 => ?_)
    obtain rfl : y_6 = (nI (8 * k.toNatClampNeg)) := by rw [ey_7]; exact kz_e3 _
    refine lv_iload_n hx hb dX4_codeAt_15 rfl (lv_at hl 2 rfl) ?_
    refine lv_iadd hx hb dX4_codeAt_16 ?_
    refine lv_topi (fun y_8 ey_9 => ?_)
    obtain rfl : y_8 = (nI (8 * k.toNatClampNeg + pl.toNatClampNeg)) := by rw [ey_9]; exact nI_add _ _
    refine kz_rdV (As := [.int (nI (8 * k.toNatClampNeg + pl.toNatClampNeg))]) (rest := []) (b := a 0) ⟨hx, hb, hml, hown, hts⟩ (c_X4_isTaken l G a M (8 * k.toNatClampNeg + pl.toNatClampNeg) (by omega)) (cwV 1 hts gX4_codeAt_X4_isTaken rfl rfl rfl (by decide +kernel) ⟨Nat.le_of_ble_eq_true rfl, Nat.le_of_ble_eq_true rfl⟩) hK hP (kz_recv hK hP (ci := 4) (q0 := 0) rfl rfl) rfl hl.1 rfl (Nat.le_of_ble_eq_true rfl) dX4_codeAt_17 ⟨Nat.le_of_ble_eq_true rfl, Nat.le_of_ble_eq_true rfl⟩ ?_
    refine lv_topi (fun y_10 ey_11 => ?_)
    by_cases c_12 : X4_isTaken_p (M 0) (8 * k.toNatClampNeg + pl.toNatClampNeg)
    · rw [if_pos c_12] at ey_11
      subst ey_11
      refine lv_if_eq (tgt := 36) hx hb dX4_codeAt_20 (by decide) (fun c => absurd c (by decide)) (fun _ => ?_)
      refine lv_aload_n hx hb dX4_codeAt_23 rfl (lv_at hl 0 rfl) ?_
      refine lv_bipush (v := 8) hx hb dX4_codeAt_24 (by decide +kernel) ?_
      refine lv_iload_n hx hb dX4_codeAt_26 rfl (lv_at hl 1 rfl) ?_
      refine lv_imul hx hb dX4_codeAt_27 ?_
      refine lv_topi (fun y_13 ey_14 => ?_)
      obtain rfl : y_13 = (nI (8 * k.toNatClampNeg)) := by rw [ey_14]; exact kz_e3 _
      refine lv_iload_n hx hb dX4_codeAt_28 rfl (lv_at hl 2 rfl) ?_
      refine lv_iadd hx hb dX4_codeAt_29 ?_
      refine lv_topi (fun y_15 ey_16 => ?_)
      obtain rfl : y_15 = (nI (8 * k.toNatClampNeg + pl.toNatClampNeg)) := by rw [ey_16]; exact nI_add _ _
      refine kz_rdV (As := [.int (nI (8 * k.toNatClampNeg + pl.toNatClampNeg))]) (rest := []) (b := a 0) ⟨hx, hb, hml, hown, hts⟩ (c_X4_codeOn l G a M (8 * k.toNatClampNeg + pl.toNatClampNeg) (by omega)) (cwV 1 hts gX4_codeAt_X4_codeOn rfl rfl rfl (by decide +kernel) ⟨Nat.le_of_ble_eq_true rfl, Nat.le_of_ble_eq_true rfl⟩) hK hP (kz_recv hK hP (ci := 4) (q0 := 0) rfl rfl) rfl hl.1 rfl (Nat.le_of_ble_eq_true rfl) dX4_codeAt_30 ⟨Nat.le_of_ble_eq_true rfl, Nat.le_of_ble_eq_true rfl⟩ ?_
      refine lv_goto (tgt := 38) hx hb dX4_codeAt_33 (by decide) ?_
      subst hQ
      exact W.iret (v := (X4_codeOn_r (M 0) (8 * k.toNatClampNeg + pl.toNatClampNeg))) hx hb hr (fun t ht _ => ⟨(X4_codeOn_r (M 0) (8 * k.toNatClampNeg + pl.toNatClampNeg)), rfl, (by rw [X4_codeAt_r, if_pos c_3, if_pos c_12]), ht⟩) (fun _ h9 => absurd h9 List.not_mem_nil) dX4_codeAt_38
    · rw [if_neg c_12] at ey_11
      subst ey_11
      refine lv_if_eq (tgt := 36) hx hb dX4_codeAt_20 (by decide) (fun _ => ?_) (fun c => absurd c (by decide))
      refine lv_bipush (v := (-6)) hx hb dX4_codeAt_36 (by decide +kernel) ?_
      subst hQ
      exact W.iret (v := (-6)) hx hb hr (fun t ht _ => ⟨(-6), rfl, (by rw [X4_codeAt_r, if_pos c_3, if_neg c_12]), ht⟩) (fun _ h9 => absurd h9 List.not_mem_nil) dX4_codeAt_38
  · rw [if_neg c_3] at ey_2
    subst ey_2
    refine lv_if_ne (tgt := 10) hx hb dX4_codeAt_5 (by decide) (fun c => absurd c (by decide)) (fun _ => ?_)
    refine lv_iconst (v := (-1)) hx hb dX4_codeAt_8 (by decide +kernel) ?_
    subst hQ
    exact W.iret (v := (-1)) hx hb hr (fun t ht _ => ⟨(-1), rfl, (by rw [X4_codeAt_r, if_neg c_3]), ht⟩) (fun _ h9 => absurd h9 List.not_mem_nil) dX4_codeAt_9
def X4_refusal_r (z6 : Int32) (z7 : Int32) (p0 : Int32) : Int32 := if p0 = 0 then z6 else if p0 = 1 then z7 else (-2)
set_option maxHeartbeats 1000000 in
set_option maxRecDepth 100000 in
theorem c_X4_refusal (l : Launch) (G : kz_G) (a : Nat → Nat) (M : kz_S) (p0 : Int32) : kz_rd l G yX4_refusal wsX4_refusal 0 0 [.ref (a 0), .int p0] [mdW G a M] (X4_refusal_r (M 6 0) (M 7 0) p0) := by
  refine Met.ofW (cc := cX4_refusal) (maxL := 2) (ret := (some .int)) (by decide) rfl ?_
  intro p e s m args below meth c s₁ B hml hv
  obtain ⟨rfl, hP, hK⟩ := hv
  have hx := B.exec
  have hb := B.bytes
  have hr := B.returns
  have hts := atoms_spec (ws := wsX4_refusal) B.pre
  have hown : s.vm.findClass RX4 = some m.cls := findClass_of_methodNamed B.named
  have hlocks := B.notSynchronized
  have hinX4 : ∀ w ∈ u_ws RX4 TX4 14, w ∈ wsX4_refusal := by decide +kernel
  have hl := lv_entry ([.ref (a 0), .int p0]) (n := 2) (Nat.le_of_ble_eq_true rfl)
  rw [lg_entry_eq]
  generalize (lg_sl ([.ref (a 0), .int p0]) ++ List.replicate (2 - (lg_sl ([.ref (a 0), .int p0])).length) Slot.unset).toArray = ls at hl ⊢
  have hl : lv_has ls 2 [(0, .ref (a 0)), (1, .int p0)] := hl
  refine kz_start (fun QQ hQ => ?_)
  refine lv_iload_n hx hb dX4_refusal_0 rfl (lv_at hl 1 rfl) ?_
  refine lv_if_ne (tgt := 11) hx hb dX4_refusal_1 (by decide) (fun c_1 => ?_) (fun c_1 => ?_)
  · refine lv_iload_n hx hb dX4_refusal_11 rfl (lv_at hl 1 rfl) ?_
    refine lv_iconst (v := 1) hx hb dX4_refusal_12 (by decide +kernel) ?_
    refine lv_icmp_ne (tgt := 23) hx hb dX4_refusal_13 (by decide) (fun c_2 => ?_) (fun c_2 => ?_)
    · refine lv_bipush (v := (-2)) hx hb dX4_refusal_23 (by decide +kernel) ?_
      subst hQ
      exact W.iret (v := (-2)) hx hb hr (fun t ht _ => ⟨(-2), rfl, (by rw [X4_refusal_r, if_neg c_1, if_neg c_2]), ht⟩) (fun _ h9 => absurd h9 List.not_mem_nil) dX4_refusal_25
    · refine lv_aload_n hx hb dX4_refusal_16 rfl (lv_at hl 0 rfl) ?_
      refine va_get (D := G.1) (ci := 4) (v := .int (M 7 0)) (C := RX4) (T := TX4) (N := 14) hx hb hts hinX4 hown hK.1 hP 0 rfl rfl 7 (by decide) (hts (.fieldLink RX4 26 "ParcelShelvesModel" "behind" "I") (by decide +kernel)) (fun _ h9 => h9) rfl dX4_refusal_17 ?_
      refine lv_goto (tgt := 25) hx hb dX4_refusal_20 (by decide) ?_
      subst hQ
      exact W.iret (v := (M 7 0)) hx hb hr (fun t ht _ => ⟨(M 7 0), rfl, (by rw [X4_refusal_r, if_neg c_1, if_pos c_2]), ht⟩) (fun _ h9 => absurd h9 List.not_mem_nil) dX4_refusal_25
  · refine lv_aload_n hx hb dX4_refusal_4 rfl (lv_at hl 0 rfl) ?_
    refine va_get (D := G.1) (ci := 4) (v := .int (M 6 0)) (C := RX4) (T := TX4) (N := 14) hx hb hts hinX4 hown hK.1 hP 0 rfl rfl 6 (by decide) (hts (.fieldLink RX4 22 "ParcelShelvesModel" "reason" "I") (by decide +kernel)) (fun _ h9 => h9) rfl dX4_refusal_5 ?_
    refine lv_goto (tgt := 25) hx hb dX4_refusal_8 (by decide) ?_
    subst hQ
    exact W.iret (v := (M 6 0)) hx hb hr (fun t ht _ => ⟨(M 6 0), rfl, (by rw [X4_refusal_r, if_pos c_1]), ht⟩) (fun _ h9 => absurd h9 List.not_mem_nil) dX4_refusal_25
def X4_isCode_r (code : Int32) : Int32 := if X4_in_p code 0 9999 then (if (X4_indexOf_r code) = (-6) then 0 else 1) else (-2)
set_option maxHeartbeats 1000000 in
set_option maxRecDepth 100000 in
theorem c_X4_isCode (l : Launch) (G : kz_G) (a : Nat → Nat) (M : kz_S) (code : Int32) : kz_rd l G yX4_isCode wsX4_isCode 2 46 [.ref (a 0), .int code] [mdW G a M] (X4_isCode_r code) := by
  refine Met.ofW (cc := cX4_isCode) (maxL := 2) (ret := (some .int)) (by decide) rfl ?_
  intro p e s m args below meth c s₁ B hml hv
  obtain ⟨rfl, hP, hK⟩ := hv
  have hx := B.exec
  have hb := B.bytes
  have hr := B.returns
  have hts := atoms_spec (ws := wsX4_isCode) B.pre
  have hown : s.vm.findClass RX4 = some m.cls := findClass_of_methodNamed B.named
  have hlocks := B.notSynchronized
  have hl := lv_entry ([.ref (a 0), .int code]) (n := 2) (Nat.le_of_ble_eq_true rfl)
  rw [lg_entry_eq]
  generalize (lg_sl ([.ref (a 0), .int code]) ++ List.replicate (2 - (lg_sl ([.ref (a 0), .int code])).length) Slot.unset).toArray = ls at hl ⊢
  have hl : lv_has ls 2 [(0, .ref (a 0)), (1, .int code)] := hl
  refine kz_start (fun QQ hQ => ?_)
  refine lv_iload_n hx hb dX4_isCode_0 rfl (lv_at hl 1 rfl) ?_
  refine lv_iconst (v := 0) hx hb dX4_isCode_1 (by decide +kernel) ?_
  refine lv_sipush (v := 9999) hx hb dX4_isCode_2 (by decide +kernel) ?_
  refine kz_rdS (As := [.int code, .int 0, .int 9999]) (rest := []) ⟨hx, hb, hml, hown, hts⟩ (c_X4_in l G code 0 9999) (va_cwS 3 hts gX4_isCode_X4_in rfl rfl rfl (by decide +kernel) ⟨Nat.le_of_ble_eq_true rfl, Nat.le_of_ble_eq_true rfl⟩) hK (hP.sub (cs := []) [] rfl) rfl hl.1 rfl (Nat.le_of_ble_eq_true rfl) dX4_isCode_5 ⟨Nat.le_of_ble_eq_true rfl, Nat.le_of_ble_eq_true rfl⟩ ?_
  refine lv_topi (fun y_1 ey_2 => ?_)
  by_cases c_3 : X4_in_p code 0 9999
  · rw [if_pos c_3] at ey_2
    subst ey_2
    refine lv_if_ne (tgt := 16) hx hb dX4_isCode_8 (by decide) (fun _ => ?_) (fun c => absurd c (by decide))
    refine lv_iload_n hx hb dX4_isCode_16 rfl (lv_at hl 1 rfl) ?_
    refine kz_rdS (As := [.int code]) (rest := []) ⟨hx, hb, hml, hown, hts⟩ (c_X4_indexOf l G code) (va_cwS 1 hts gX4_isCode_X4_indexOf rfl rfl rfl (by decide +kernel) ⟨Nat.le_of_ble_eq_true rfl, Nat.le_of_ble_eq_true rfl⟩) hK (hP.sub (cs := []) [] rfl) rfl hl.1 rfl (Nat.le_of_ble_eq_true rfl) dX4_isCode_17 ⟨Nat.le_of_ble_eq_true rfl, Nat.le_of_ble_eq_true rfl⟩ ?_
    refine lv_bipush (v := (-6)) hx hb dX4_isCode_20 (by decide +kernel) ?_
    refine lv_icmp_ne (tgt := 29) hx hb dX4_isCode_22 (by decide) (fun c_4 => ?_) (fun c_4 => ?_)
    · refine lv_iconst (v := 1) hx hb dX4_isCode_29 (by decide +kernel) ?_
      subst hQ
      exact W.iret (v := 1) hx hb hr (fun t ht _ => ⟨1, rfl, (by rw [X4_isCode_r, if_pos c_3, if_neg c_4]), ht⟩) (fun _ h9 => absurd h9 List.not_mem_nil) dX4_isCode_30
    · refine lv_iconst (v := 0) hx hb dX4_isCode_25 (by decide +kernel) ?_
      refine lv_goto (tgt := 30) hx hb dX4_isCode_26 (by decide) ?_
      subst hQ
      exact W.iret (v := 0) hx hb hr (fun t ht _ => ⟨0, rfl, (by rw [X4_isCode_r, if_pos c_3, if_pos c_4]), ht⟩) (fun _ h9 => absurd h9 List.not_mem_nil) dX4_isCode_30
  · rw [if_neg c_3] at ey_2
    subst ey_2
    refine lv_if_ne (tgt := 16) hx hb dX4_isCode_8 (by decide) (fun c => absurd c (by decide)) (fun _ => ?_)
    refine lv_bipush (v := (-2)) hx hb dX4_isCode_11 (by decide +kernel) ?_
    refine lv_goto (tgt := 30) hx hb dX4_isCode_13 (by decide) ?_
    subst hQ
    exact W.iret (v := (-2)) hx hb hr (fun t ht _ => ⟨(-2), rfl, (by rw [X4_isCode_r, if_neg c_3]), ht⟩) (fun _ h9 => absurd h9 List.not_mem_nil) dX4_isCode_30
def X4_codeOf_r (d : Int32) (k : Int32) (pl : Int32) : Int32 := if X4_isPlace_p k pl then (if X4_in_p d 0 9999 then (X4_codeBy_r (X4_weekday_r d) ((8 * k) + pl)) else (-2)) else (-1)
set_option maxHeartbeats 1000000 in
set_option maxRecDepth 100000 in
theorem c_X4_codeOf (l : Launch) (G : kz_G) (a : Nat → Nat) (M : kz_S) (d : Int32) (k : Int32) (pl : Int32) : kz_rd l G yX4_codeOf wsX4_codeOf 2 43 [.ref (a 0), .int d, .int k, .int pl] [mdW G a M] (X4_codeOf_r d k pl) := by
  refine Met.ofW (cc := cX4_codeOf) (maxL := 4) (ret := (some .int)) (by decide) rfl ?_
  intro p e s m args below meth c s₁ B hml hv
  obtain ⟨rfl, hP, hK⟩ := hv
  have hx := B.exec
  have hb := B.bytes
  have hr := B.returns
  have hts := atoms_spec (ws := wsX4_codeOf) B.pre
  have hown : s.vm.findClass RX4 = some m.cls := findClass_of_methodNamed B.named
  have hlocks := B.notSynchronized
  have hl := lv_entry ([.ref (a 0), .int d, .int k, .int pl]) (n := 4) (Nat.le_of_ble_eq_true rfl)
  rw [lg_entry_eq]
  generalize (lg_sl ([.ref (a 0), .int d, .int k, .int pl]) ++ List.replicate (4 - (lg_sl ([.ref (a 0), .int d, .int k, .int pl])).length) Slot.unset).toArray = ls at hl ⊢
  have hl : lv_has ls 4 [(0, .ref (a 0)), (1, .int d), (2, .int k), (3, .int pl)] := hl
  refine kz_start (fun QQ hQ => ?_)
  refine lv_iload_n hx hb dX4_codeOf_0 rfl (lv_at hl 2 rfl) ?_
  refine lv_iload_n hx hb dX4_codeOf_1 rfl (lv_at hl 3 rfl) ?_
  refine kz_rdS (As := [.int k, .int pl]) (rest := []) ⟨hx, hb, hml, hown, hts⟩ (c_X4_isPlace l G k pl) (va_cwS 2 hts gX4_codeOf_X4_isPlace rfl rfl rfl (by decide +kernel) ⟨Nat.le_of_ble_eq_true rfl, Nat.le_of_ble_eq_true rfl⟩) hK (hP.sub (cs := []) [] rfl) rfl hl.1 rfl (Nat.le_of_ble_eq_true rfl) dX4_codeOf_2 ⟨Nat.le_of_ble_eq_true rfl, Nat.le_of_ble_eq_true rfl⟩ ?_
  refine lv_topi (fun y_1 ey_2 => ?_)
  by_cases c_3 : X4_isPlace_p k pl
  · rw [if_pos c_3] at ey_2
    subst ey_2
    refine lv_if_ne (tgt := 10) hx hb dX4_codeOf_5 (by decide) (fun _ => ?_) (fun c => absurd c (by decide))
    refine lv_iload_n hx hb dX4_codeOf_10 rfl (lv_at hl 1 rfl) ?_
    refine lv_iconst (v := 0) hx hb dX4_codeOf_11 (by decide +kernel) ?_
    refine lv_sipush (v := 9999) hx hb dX4_codeOf_12 (by decide +kernel) ?_
    refine kz_rdS (As := [.int d, .int 0, .int 9999]) (rest := []) ⟨hx, hb, hml, hown, hts⟩ (c_X4_in l G d 0 9999) (va_cwS 3 hts gX4_codeOf_X4_in rfl rfl rfl (by decide +kernel) ⟨Nat.le_of_ble_eq_true rfl, Nat.le_of_ble_eq_true rfl⟩) hK (hP.sub (cs := []) [] rfl) rfl hl.1 rfl (Nat.le_of_ble_eq_true rfl) dX4_codeOf_15 ⟨Nat.le_of_ble_eq_true rfl, Nat.le_of_ble_eq_true rfl⟩ ?_
    refine lv_topi (fun y_4 ey_5 => ?_)
    by_cases c_6 : X4_in_p d 0 9999
    · rw [if_pos c_6] at ey_5
      subst ey_5
      refine lv_if_eq (tgt := 37) hx hb dX4_codeOf_18 (by decide) (fun c => absurd c (by decide)) (fun _ => ?_)
      refine lv_iload_n hx hb dX4_codeOf_21 rfl (lv_at hl 1 rfl) ?_
      refine kz_rdS (As := [.int d]) (rest := []) ⟨hx, hb, hml, hown, hts⟩ (c_X4_weekday l G d) (va_cwS 1 hts gX4_codeOf_X4_weekday rfl rfl rfl (by decide +kernel) ⟨Nat.le_of_ble_eq_true rfl, Nat.le_of_ble_eq_true rfl⟩) hK (hP.sub (cs := []) [] rfl) rfl hl.1 rfl (Nat.le_of_ble_eq_true rfl) dX4_codeOf_22 ⟨Nat.le_of_ble_eq_true rfl, Nat.le_of_ble_eq_true rfl⟩ ?_
      refine lv_bipush (v := 8) hx hb dX4_codeOf_25 (by decide +kernel) ?_
      refine lv_iload_n hx hb dX4_codeOf_27 rfl (lv_at hl 2 rfl) ?_
      refine lv_imul hx hb dX4_codeOf_28 ?_
      refine lv_iload_n hx hb dX4_codeOf_29 rfl (lv_at hl 3 rfl) ?_
      refine lv_iadd hx hb dX4_codeOf_30 ?_
      refine kz_rdS (As := [.int (X4_weekday_r d), .int ((8 * k) + pl)]) (rest := []) ⟨hx, hb, hml, hown, hts⟩ (c_X4_codeBy l G (X4_weekday_r d) ((8 * k) + pl)) (va_cwS 2 hts gX4_codeOf_X4_codeBy rfl rfl rfl (by decide +kernel) ⟨Nat.le_of_ble_eq_true rfl, Nat.le_of_ble_eq_true rfl⟩) hK (hP.sub (cs := []) [] rfl) rfl hl.1 rfl (Nat.le_of_ble_eq_true rfl) dX4_codeOf_31 ⟨Nat.le_of_ble_eq_true rfl, Nat.le_of_ble_eq_true rfl⟩ ?_
      refine lv_goto (tgt := 39) hx hb dX4_codeOf_34 (by decide) ?_
      subst hQ
      exact W.iret (v := (X4_codeBy_r (X4_weekday_r d) ((8 * k) + pl))) hx hb hr (fun t ht _ => ⟨(X4_codeBy_r (X4_weekday_r d) ((8 * k) + pl)), rfl, (by rw [X4_codeOf_r, if_pos c_3, if_pos c_6]), ht⟩) (fun _ h9 => absurd h9 List.not_mem_nil) dX4_codeOf_39
    · rw [if_neg c_6] at ey_5
      subst ey_5
      refine lv_if_eq (tgt := 37) hx hb dX4_codeOf_18 (by decide) (fun _ => ?_) (fun c => absurd c (by decide))
      refine lv_bipush (v := (-2)) hx hb dX4_codeOf_37 (by decide +kernel) ?_
      subst hQ
      exact W.iret (v := (-2)) hx hb hr (fun t ht _ => ⟨(-2), rfl, (by rw [X4_codeOf_r, if_pos c_3, if_neg c_6]), ht⟩) (fun _ h9 => absurd h9 List.not_mem_nil) dX4_codeOf_39
  · rw [if_neg c_3] at ey_2
    subst ey_2
    refine lv_if_ne (tgt := 10) hx hb dX4_codeOf_5 (by decide) (fun c => absurd c (by decide)) (fun _ => ?_)
    refine lv_iconst (v := (-1)) hx hb dX4_codeOf_8 (by decide +kernel) ?_
    subst hQ
    exact W.iret (v := (-1)) hx hb hr (fun t ht _ => ⟨(-1), rfl, (by rw [X4_codeOf_r, if_neg c_3]), ht⟩) (fun _ h9 => absurd h9 List.not_mem_nil) dX4_codeOf_9
def X4_restsUntil_r (z0 : Nat → Int32) (code : Int32) : Int32 := if X4_in_p code 0 9999 then (X4_restsOf_r z0 (X4_indexOf_r code)) else (-2)
set_option maxHeartbeats 1000000 in
set_option maxRecDepth 100000 in
theorem c_X4_restsUntil (l : Launch) (G : kz_G) (a : Nat → Nat) (M : kz_S) (code : Int32) : kz_rd l G yX4_restsUntil wsX4_restsUntil 2 46 [.ref (a 0), .int code] [mdW G a M] (X4_restsUntil_r (M 0) code) := by
  refine Met.ofW (cc := cX4_restsUntil) (maxL := 2) (ret := (some .int)) (by decide) rfl ?_
  intro p e s m args below meth c s₁ B hml hv
  obtain ⟨rfl, hP, hK⟩ := hv
  have hx := B.exec
  have hb := B.bytes
  have hr := B.returns
  have hts := atoms_spec (ws := wsX4_restsUntil) B.pre
  have hown : s.vm.findClass RX4 = some m.cls := findClass_of_methodNamed B.named
  have hlocks := B.notSynchronized
  have hl := lv_entry ([.ref (a 0), .int code]) (n := 2) (Nat.le_of_ble_eq_true rfl)
  rw [lg_entry_eq]
  generalize (lg_sl ([.ref (a 0), .int code]) ++ List.replicate (2 - (lg_sl ([.ref (a 0), .int code])).length) Slot.unset).toArray = ls at hl ⊢
  have hl : lv_has ls 2 [(0, .ref (a 0)), (1, .int code)] := hl
  refine kz_start (fun QQ hQ => ?_)
  refine lv_iload_n hx hb dX4_restsUntil_0 rfl (lv_at hl 1 rfl) ?_
  refine lv_iconst (v := 0) hx hb dX4_restsUntil_1 (by decide +kernel) ?_
  refine lv_sipush (v := 9999) hx hb dX4_restsUntil_2 (by decide +kernel) ?_
  refine kz_rdS (As := [.int code, .int 0, .int 9999]) (rest := []) ⟨hx, hb, hml, hown, hts⟩ (c_X4_in l G code 0 9999) (va_cwS 3 hts gX4_restsUntil_X4_in rfl rfl rfl (by decide +kernel) ⟨Nat.le_of_ble_eq_true rfl, Nat.le_of_ble_eq_true rfl⟩) hK (hP.sub (cs := []) [] rfl) rfl hl.1 rfl (Nat.le_of_ble_eq_true rfl) dX4_restsUntil_5 ⟨Nat.le_of_ble_eq_true rfl, Nat.le_of_ble_eq_true rfl⟩ ?_
  refine lv_topi (fun y_1 ey_2 => ?_)
  by_cases c_3 : X4_in_p code 0 9999
  · rw [if_pos c_3] at ey_2
    subst ey_2
    refine lv_if_eq (tgt := 22) hx hb dX4_restsUntil_8 (by decide) (fun c => absurd c (by decide)) (fun _ => ?_)
    refine lv_aload_n hx hb dX4_restsUntil_11 rfl (lv_at hl 0 rfl) ?_
    refine lv_iload_n hx hb dX4_restsUntil_12 rfl (lv_at hl 1 rfl) ?_
    refine kz_rdS (As := [.int code]) (rest := [.ref (a 0)]) ⟨hx, hb, hml, hown, hts⟩ (c_X4_indexOf l G code) (va_cwS 1 hts gX4_restsUntil_X4_indexOf rfl rfl rfl (by decide +kernel) ⟨Nat.le_of_ble_eq_true rfl, Nat.le_of_ble_eq_true rfl⟩) hK (hP.sub (cs := []) [] rfl) rfl hl.1 rfl (Nat.le_of_ble_eq_true rfl) dX4_restsUntil_13 ⟨Nat.le_of_ble_eq_true rfl, Nat.le_of_ble_eq_true rfl⟩ ?_
    refine kz_rdV (As := [.int (X4_indexOf_r code)]) (rest := []) (b := a 0) ⟨hx, hb, hml, hown, hts⟩ (c_X4_restsOf l G a M (X4_indexOf_r code) (fun h => kz_ic4 h)) (cwV 1 hts gX4_restsUntil_X4_restsOf rfl rfl rfl (by decide +kernel) ⟨Nat.le_of_ble_eq_true rfl, Nat.le_of_ble_eq_true rfl⟩) hK hP (kz_recv hK hP (ci := 4) (q0 := 0) rfl rfl) rfl hl.1 rfl (Nat.le_of_ble_eq_true rfl) dX4_restsUntil_16 ⟨Nat.le_of_ble_eq_true rfl, Nat.le_of_ble_eq_true rfl⟩ ?_
    refine lv_goto (tgt := 24) hx hb dX4_restsUntil_19 (by decide) ?_
    subst hQ
    exact W.iret (v := (X4_restsOf_r (M 0) (X4_indexOf_r code))) hx hb hr (fun t ht _ => ⟨(X4_restsOf_r (M 0) (X4_indexOf_r code)), rfl, (by rw [X4_restsUntil_r, if_pos c_3]), ht⟩) (fun _ h9 => absurd h9 List.not_mem_nil) dX4_restsUntil_24
  · rw [if_neg c_3] at ey_2
    subst ey_2
    refine lv_if_eq (tgt := 22) hx hb dX4_restsUntil_8 (by decide) (fun _ => ?_) (fun c => absurd c (by decide))
    refine lv_bipush (v := (-2)) hx hb dX4_restsUntil_22 (by decide +kernel) ?_
    subst hQ
    exact W.iret (v := (-2)) hx hb hr (fun t ht _ => ⟨(-2), rfl, (by rw [X4_restsUntil_r, if_neg c_3]), ht⟩) (fun _ h9 => absurd h9 List.not_mem_nil) dX4_restsUntil_24
def X4_nextCode_r (z0 : Nat → Int32) (z : Int32) : Int32 := if X4_in_p z 0 2 then (if (X4_firstPlace_r z0 (2 * z.toNatClampNeg) 5) = (-6) then (-6) else (X4_codeBy_r (X4_weekday_r (z0 5)) (X4_firstPlace_r z0 (2 * z.toNatClampNeg) 5))) else (-2)
set_option maxHeartbeats 1000000 in
set_option maxRecDepth 100000 in
theorem c_X4_nextCode (l : Launch) (G : kz_G) (a : Nat → Nat) (M : kz_S) (z : Int32) (ht : ∃ d, d < 2 ^ 30 ∧ M 0 5 = nI d) : kz_rd l G yX4_nextCode wsX4_nextCode 3 66 [.ref (a 0), .int z] [mdW G a M] (X4_nextCode_r (M 0) z) := by
  refine Met.ofW (cc := cX4_nextCode) (maxL := 3) (ret := (some .int)) (by decide) rfl ?_
  intro p e s m args below meth c s₁ B hml hv
  obtain ⟨rfl, hP, hK⟩ := hv
  have hx := B.exec
  have hb := B.bytes
  have hr := B.returns
  have hts := atoms_spec (ws := wsX4_nextCode) B.pre
  have hown : s.vm.findClass RX4 = some m.cls := findClass_of_methodNamed B.named
  have hlocks := B.notSynchronized
  have hinX4 : ∀ w ∈ u_ws RX4 TX4 14, w ∈ wsX4_nextCode := by decide +kernel
  have hl := lv_entry ([.ref (a 0), .int z]) (n := 3) (Nat.le_of_ble_eq_true rfl)
  rw [lg_entry_eq]
  generalize (lg_sl ([.ref (a 0), .int z]) ++ List.replicate (3 - (lg_sl ([.ref (a 0), .int z])).length) Slot.unset).toArray = ls at hl ⊢
  have hl : lv_has ls 3 [(0, .ref (a 0)), (1, .int z)] := hl
  refine kz_start (fun QQ hQ => ?_)
  refine lv_iload_n hx hb dX4_nextCode_0 rfl (lv_at hl 1 rfl) ?_
  refine lv_iconst (v := 0) hx hb dX4_nextCode_1 (by decide +kernel) ?_
  refine lv_iconst (v := 2) hx hb dX4_nextCode_2 (by decide +kernel) ?_
  refine kz_rdS (As := [.int z, .int 0, .int 2]) (rest := []) ⟨hx, hb, hml, hown, hts⟩ (c_X4_in l G z 0 2) (va_cwS 3 hts gX4_nextCode_X4_in rfl rfl rfl (by decide +kernel) ⟨Nat.le_of_ble_eq_true rfl, Nat.le_of_ble_eq_true rfl⟩) hK (hP.sub (cs := []) [] rfl) rfl hl.1 rfl (Nat.le_of_ble_eq_true rfl) dX4_nextCode_3 ⟨Nat.le_of_ble_eq_true rfl, Nat.le_of_ble_eq_true rfl⟩ ?_
  refine lv_topi (fun y_1 ey_2 => ?_)
  by_cases c_3 : X4_in_p z 0 2
  · rw [if_pos c_3] at ey_2
    subst ey_2
    have hzz := c_3
    have hz := (kz_back (kz_wiIn 2 c_3 rfl (by decide)) (by decide)).2
    refine lv_if_ne (tgt := 12) hx hb dX4_nextCode_6 (by decide) (fun _ => ?_) (fun c => absurd c (by decide))
    refine lv_aload_n hx hb dX4_nextCode_12 rfl (lv_at hl 0 rfl) ?_
    refine lv_iconst (v := 2) hx hb dX4_nextCode_13 (by decide +kernel) ?_
    refine lv_iload_n hx hb dX4_nextCode_14 rfl (lv_at hl 1 rfl) ?_
    refine lv_imul hx hb dX4_nextCode_15 ?_
    refine lv_topi (fun y_4 ey_5 => ?_)
    obtain rfl : y_4 = (nI (2 * z.toNatClampNeg)) := by rw [ey_5]; exact kz_2z hzz
    refine lv_iconst (v := 5) hx hb dX4_nextCode_16 (by decide +kernel) ?_
    refine kz_rdV (As := [.int (nI (2 * z.toNatClampNeg)), .int 5]) (rest := []) (b := a 0) ⟨hx, hb, hml, hown, hts⟩ (c_X4_firstPlace l G a M (2 * z.toNatClampNeg) 5 (by omega) (by omega) ht) (cwV 2 hts gX4_nextCode_X4_firstPlace rfl rfl rfl (by decide +kernel) ⟨Nat.le_of_ble_eq_true rfl, Nat.le_of_ble_eq_true rfl⟩) hK hP (kz_recv hK hP (ci := 4) (q0 := 0) rfl rfl) rfl hl.1 rfl (Nat.le_of_ble_eq_true rfl) dX4_nextCode_17 ⟨Nat.le_of_ble_eq_true rfl, Nat.le_of_ble_eq_true rfl⟩ ?_
    refine lv_istore_n (lv' := [(2, .int (X4_firstPlace_r (M 0) (2 * z.toNatClampNeg) 5)), (0, .ref (a 0)), (1, .int z)]) hx hb dX4_nextCode_20 rfl hl (by decide) rfl (fun ls hl => ?_)
    refine lv_iload_n hx hb dX4_nextCode_21 rfl (lv_at hl 0 rfl) ?_
    refine lv_bipush (v := (-6)) hx hb dX4_nextCode_22 (by decide +kernel) ?_
    refine lv_icmp_ne (tgt := 32) hx hb dX4_nextCode_24 (by decide) (fun c_6 => ?_) (fun c_6 => ?_)
    · refine lv_aload_n hx hb dX4_nextCode_32 rfl (lv_at hl 1 rfl) ?_
      refine va_get (D := G.1) (ci := 4) (v := .ref (a 1)) (C := RX4) (T := TX4) (N := 14) hx hb hts hinX4 hown hK.1 hP 0 rfl rfl 0 (by decide) (hts (.fieldLink RX4 7 "ParcelShelvesModel" "z" "[I") (by decide +kernel)) (fun _ h9 => h9) rfl dX4_nextCode_33 ?_
      refine lv_iconst (v := 5) hx hb dX4_nextCode_36 (by decide +kernel) ?_
      refine va_iald (f := (M 0)) hx hb hK.1 hP 1 0 rfl rfl (vp_in_nI (n := 5) (N := 580) (by decide) (by decide)) dX4_nextCode_37 ?_
      refine lv_topi (fun y_7 ey_8 => ?_)
      obtain rfl : y_7 = ((M 0) 5) := by rw [ey_8]; rfl
      refine kz_rdS (As := [.int ((M 0) 5)]) (rest := []) ⟨hx, hb, hml, hown, hts⟩ (c_X4_weekday l G ((M 0) 5)) (va_cwS 1 hts gX4_nextCode_X4_weekday rfl rfl rfl (by decide +kernel) ⟨Nat.le_of_ble_eq_true rfl, Nat.le_of_ble_eq_true rfl⟩) hK (hP.sub (cs := []) [] rfl) rfl hl.1 rfl (Nat.le_of_ble_eq_true rfl) dX4_nextCode_38 ⟨Nat.le_of_ble_eq_true rfl, Nat.le_of_ble_eq_true rfl⟩ ?_
      refine lv_iload_n hx hb dX4_nextCode_41 rfl (lv_at hl 0 rfl) ?_
      refine kz_rdS (As := [.int (X4_weekday_r ((M 0) 5)), .int (X4_firstPlace_r (M 0) (2 * z.toNatClampNeg) 5)]) (rest := []) ⟨hx, hb, hml, hown, hts⟩ (c_X4_codeBy l G (X4_weekday_r ((M 0) 5)) (X4_firstPlace_r (M 0) (2 * z.toNatClampNeg) 5)) (va_cwS 2 hts gX4_nextCode_X4_codeBy rfl rfl rfl (by decide +kernel) ⟨Nat.le_of_ble_eq_true rfl, Nat.le_of_ble_eq_true rfl⟩) hK (hP.sub (cs := []) [] rfl) rfl hl.1 rfl (Nat.le_of_ble_eq_true rfl) dX4_nextCode_42 ⟨Nat.le_of_ble_eq_true rfl, Nat.le_of_ble_eq_true rfl⟩ ?_
      subst hQ
      exact W.iret (v := (X4_codeBy_r (X4_weekday_r ((M 0) 5)) (X4_firstPlace_r (M 0) (2 * z.toNatClampNeg) 5))) hx hb hr (fun t ht _ => ⟨(X4_codeBy_r (X4_weekday_r ((M 0) 5)) (X4_firstPlace_r (M 0) (2 * z.toNatClampNeg) 5)), rfl, (by rw [X4_nextCode_r, if_pos c_3, if_neg c_6]), ht⟩) (fun _ h9 => absurd h9 List.not_mem_nil) dX4_nextCode_45
    · refine lv_bipush (v := (-6)) hx hb dX4_nextCode_27 (by decide +kernel) ?_
      refine lv_goto (tgt := 45) hx hb dX4_nextCode_29 (by decide) ?_
      subst hQ
      exact W.iret (v := (-6)) hx hb hr (fun t ht _ => ⟨(-6), rfl, (by rw [X4_nextCode_r, if_pos c_3, if_pos c_6]), ht⟩) (fun _ h9 => absurd h9 List.not_mem_nil) dX4_nextCode_45
  · rw [if_neg c_3] at ey_2
    subst ey_2
    refine lv_if_ne (tgt := 12) hx hb dX4_nextCode_6 (by decide) (fun c => absurd c (by decide)) (fun _ => ?_)
    refine lv_bipush (v := (-2)) hx hb dX4_nextCode_9 (by decide +kernel) ?_
    subst hQ
    exact W.iret (v := (-2)) hx hb hr (fun t ht _ => ⟨(-2), rfl, (by rw [X4_nextCode_r, if_neg c_3]), ht⟩) (fun _ h9 => absurd h9 List.not_mem_nil) dX4_nextCode_11
def X4_feeIn_r (z0 : Nat → Int32) (code : Int32) (d : Int32) : Int32 := if (X4_placeBy_r z0 code) = (-6) then (-1) else if X4_in_p d 0 99 then (X4_feeOn_r z0 ((X4_placeBy_r z0 code).toNatClampNeg) ((z0 5) + d)) else (-2)
set_option maxHeartbeats 1000000 in
set_option maxRecDepth 100000 in
theorem c_X4_feeIn (l : Launch) (G : kz_G) (a : Nat → Nat) (M : kz_S) (code : Int32) (d : Int32) (hM : kz_M (M 0)) : kz_rd l G yX4_feeIn wsX4_feeIn 3 69 [.ref (a 0), .int code, .int d] [mdW G a M] (X4_feeIn_r (M 0) code d) := by
  refine Met.ofW (cc := cX4_feeIn) (maxL := 4) (ret := (some .int)) (by decide) rfl ?_
  intro p e s m args below meth c s₁ B hml hv
  obtain ⟨rfl, hP, hK⟩ := hv
  have hx := B.exec
  have hb := B.bytes
  have hr := B.returns
  have hts := atoms_spec (ws := wsX4_feeIn) B.pre
  have hown : s.vm.findClass RX4 = some m.cls := findClass_of_methodNamed B.named
  have hlocks := B.notSynchronized
  have hinX4 : ∀ w ∈ u_ws RX4 TX4 14, w ∈ wsX4_feeIn := by decide +kernel
  have hl := lv_entry ([.ref (a 0), .int code, .int d]) (n := 4) (Nat.le_of_ble_eq_true rfl)
  rw [lg_entry_eq]
  generalize (lg_sl ([.ref (a 0), .int code, .int d]) ++ List.replicate (4 - (lg_sl ([.ref (a 0), .int code, .int d])).length) Slot.unset).toArray = ls at hl ⊢
  have hl : lv_has ls 4 [(0, .ref (a 0)), (1, .int code), (2, .int d)] := hl
  refine kz_start (fun QQ hQ => ?_)
  refine lv_aload_n hx hb dX4_feeIn_0 rfl (lv_at hl 0 rfl) ?_
  refine lv_iload_n hx hb dX4_feeIn_1 rfl (lv_at hl 1 rfl) ?_
  refine kz_rdV (As := [.int code]) (rest := []) (b := a 0) ⟨hx, hb, hml, hown, hts⟩ (c_X4_placeBy l G a M code) (cwV 1 hts gX4_feeIn_X4_placeBy rfl rfl rfl (by decide +kernel) ⟨Nat.le_of_ble_eq_true rfl, Nat.le_of_ble_eq_true rfl⟩) hK hP (kz_recv hK hP (ci := 4) (q0 := 0) rfl rfl) rfl hl.1 rfl (Nat.le_of_ble_eq_true rfl) dX4_feeIn_2 ⟨Nat.le_of_ble_eq_true rfl, Nat.le_of_ble_eq_true rfl⟩ ?_
  refine lv_istore_n (lv' := [(3, .int (X4_placeBy_r (M 0) code)), (0, .ref (a 0)), (1, .int code), (2, .int d)]) hx hb dX4_feeIn_5 rfl hl (by decide) rfl (fun ls hl => ?_)
  refine lv_iload_n hx hb dX4_feeIn_6 rfl (lv_at hl 0 rfl) ?_
  refine lv_bipush (v := (-6)) hx hb dX4_feeIn_7 (by decide +kernel) ?_
  refine lv_icmp_ne (tgt := 14) hx hb dX4_feeIn_9 (by decide) (fun c_1 => ?_) (fun c_1 => ?_)
  · obtain ⟨hcv2, hcl2⟩ := kz_back (kz_pbIn c_1) (by decide)
    have hl : lv_has ls 4 [(3, .int (nI (X4_placeBy_r (M 0) code).toNatClampNeg)), (0, .ref (a 0)), (1, .int code), (2, .int d)] := by rw [← hcv2]; exact hl
    have htk := kz_pbT c_1
    have hMp := hM.2 (X4_placeBy_r (M 0) code).toNatClampNeg (by omega)
    refine lv_iload_n hx hb dX4_feeIn_14 rfl (lv_at hl 3 rfl) ?_
    refine lv_iconst (v := 0) hx hb dX4_feeIn_15 (by decide +kernel) ?_
    refine lv_bipush (v := 99) hx hb dX4_feeIn_16 (by decide +kernel) ?_
    refine kz_rdS (As := [.int d, .int 0, .int 99]) (rest := []) ⟨hx, hb, hml, hown, hts⟩ (c_X4_in l G d 0 99) (va_cwS 3 hts gX4_feeIn_X4_in rfl rfl rfl (by decide +kernel) ⟨Nat.le_of_ble_eq_true rfl, Nat.le_of_ble_eq_true rfl⟩) hK (hP.sub (cs := []) [] rfl) rfl hl.1 rfl (Nat.le_of_ble_eq_true rfl) dX4_feeIn_18 ⟨Nat.le_of_ble_eq_true rfl, Nat.le_of_ble_eq_true rfl⟩ ?_
    refine lv_topi (fun y_3 ey_4 => ?_)
    by_cases c_5 : X4_in_p d 0 99
    · rw [if_pos c_5] at ey_4
      subst ey_4
      refine lv_if_eq (tgt := 40) hx hb dX4_feeIn_21 (by decide) (fun c => absurd c (by decide)) (fun _ => ?_)
      refine lv_aload_n hx hb dX4_feeIn_24 rfl (lv_at hl 1 rfl) ?_
      refine lv_iload_n hx hb dX4_feeIn_25 rfl (lv_at hl 0 rfl) ?_
      refine lv_aload_n hx hb dX4_feeIn_26 rfl (lv_at hl 1 rfl) ?_
      refine va_get (D := G.1) (ci := 4) (v := .ref (a 1)) (C := RX4) (T := TX4) (N := 14) hx hb hts hinX4 hown hK.1 hP 0 rfl rfl 0 (by decide) (hts (.fieldLink RX4 7 "ParcelShelvesModel" "z" "[I") (by decide +kernel)) (fun _ h9 => h9) rfl dX4_feeIn_27 ?_
      refine lv_iconst (v := 5) hx hb dX4_feeIn_30 (by decide +kernel) ?_
      refine va_iald (f := (M 0)) hx hb hK.1 hP 1 0 rfl rfl (vp_in_nI (n := 5) (N := 580) (by decide) (by decide)) dX4_feeIn_31 ?_
      refine lv_topi (fun y_6 ey_7 => ?_)
      obtain rfl : y_6 = ((M 0) 5) := by rw [ey_7]; rfl
      refine lv_iload_n hx hb dX4_feeIn_32 rfl (lv_at hl 3 rfl) ?_
      refine lv_iadd hx hb dX4_feeIn_33 ?_
      refine kz_rdV (As := [.int (nI (X4_placeBy_r (M 0) code).toNatClampNeg), .int (((M 0) 5) + d)]) (rest := []) (b := a 0) ⟨hx, hb, hml, hown, hts⟩ (c_X4_feeOn l G a M ((X4_placeBy_r (M 0) code).toNatClampNeg) (((M 0) 5) + d) (by omega)) (cwV 2 hts gX4_feeIn_X4_feeOn rfl rfl rfl (by decide +kernel) ⟨Nat.le_of_ble_eq_true rfl, Nat.le_of_ble_eq_true rfl⟩) hK hP (kz_recv hK hP (ci := 4) (q0 := 0) rfl rfl) rfl hl.1 rfl (Nat.le_of_ble_eq_true rfl) dX4_feeIn_34 ⟨Nat.le_of_ble_eq_true rfl, Nat.le_of_ble_eq_true rfl⟩ ?_
      refine lv_goto (tgt := 42) hx hb dX4_feeIn_37 (by decide) ?_
      subst hQ
      exact W.iret (v := (X4_feeOn_r (M 0) ((X4_placeBy_r (M 0) code).toNatClampNeg) (((M 0) 5) + d))) hx hb hr (fun t ht _ => ⟨(X4_feeOn_r (M 0) ((X4_placeBy_r (M 0) code).toNatClampNeg) (((M 0) 5) + d)), rfl, (by rw [X4_feeIn_r, if_neg c_1, if_pos c_5]), ht⟩) (fun _ h9 => absurd h9 List.not_mem_nil) dX4_feeIn_42
    · rw [if_neg c_5] at ey_4
      subst ey_4
      refine lv_if_eq (tgt := 40) hx hb dX4_feeIn_21 (by decide) (fun _ => ?_) (fun c => absurd c (by decide))
      refine lv_bipush (v := (-2)) hx hb dX4_feeIn_40 (by decide +kernel) ?_
      subst hQ
      exact W.iret (v := (-2)) hx hb hr (fun t ht _ => ⟨(-2), rfl, (by rw [X4_feeIn_r, if_neg c_1, if_neg c_5]), ht⟩) (fun _ h9 => absurd h9 List.not_mem_nil) dX4_feeIn_42
  · refine lv_iconst (v := (-1)) hx hb dX4_feeIn_12 (by decide +kernel) ?_
    subst hQ
    exact W.iret (v := (-1)) hx hb hr (fun t ht _ => ⟨(-1), rfl, (by rw [X4_feeIn_r, if_pos c_1]), ht⟩) (fun _ h9 => absurd h9 List.not_mem_nil) dX4_feeIn_13
def X4_total_r (z0 : Nat → Int32) (p0 : Int32) : Int32 := if p0 = 0 then (X4_parcels_r z0) else if p0 = 1 then (X4_inBins_r z0) else if p0 = 2 then (z0 ((7 + p0) - 2).toNatClampNeg) else if p0 = 3 then (z0 ((7 + p0) - 2).toNatClampNeg) else if p0 = 4 then (z0 ((7 + p0) - 2).toNatClampNeg) else if p0 = 5 then (z0 ((7 + p0) - 2).toNatClampNeg) else if p0 = 6 then (z0 ((7 + p0) - 2).toNatClampNeg) else if p0 = 7 then (z0 6) else if p0 = 8 then (if X4_isLocked_p z0 then 1 else 0) else if p0 = 9 then (X4_fees_r z0) else (-2)
set_option maxHeartbeats 1000000 in
set_option maxRecDepth 100000 in
theorem c_X4_total (l : Launch) (G : kz_G) (a : Nat → Nat) (M : kz_S) (p0 : Int32) : kz_rd l G yX4_total wsX4_total 3 67 [.ref (a 0), .int p0] [mdW G a M] (X4_total_r (M 0) p0) := by
  refine Met.ofW (cc := cX4_total) (maxL := 2) (ret := (some .int)) (by decide) rfl ?_
  intro p e s m args below meth c s₁ B hml hv
  obtain ⟨rfl, hP, hK⟩ := hv
  have hx := B.exec
  have hb := B.bytes
  have hr := B.returns
  have hts := atoms_spec (ws := wsX4_total) B.pre
  have hown : s.vm.findClass RX4 = some m.cls := findClass_of_methodNamed B.named
  have hlocks := B.notSynchronized
  have hinX4 : ∀ w ∈ u_ws RX4 TX4 14, w ∈ wsX4_total := by decide +kernel
  have hl := lv_entry ([.ref (a 0), .int p0]) (n := 2) (Nat.le_of_ble_eq_true rfl)
  rw [lg_entry_eq]
  generalize (lg_sl ([.ref (a 0), .int p0]) ++ List.replicate (2 - (lg_sl ([.ref (a 0), .int p0])).length) Slot.unset).toArray = ls at hl ⊢
  have hl : lv_has ls 2 [(0, .ref (a 0)), (1, .int p0)] := hl
  refine kz_start (fun QQ hQ => ?_)
  refine lv_iload_n hx hb dX4_total_0 rfl (lv_at hl 1 rfl) ?_
  refine lv_topi (fun y_1 ey_2 => ?_)
  by_cases c_3 : y_1 = 0
  · have c_4 : p0 = 0 := by rw [← ey_2]; exact c_3
    subst c_3
    refine lv_tableIn (off := 55) (tgt := 56) hx hb dX4_total_1 (by decide +kernel) (by decide +kernel) (by decide +kernel) (by decide) ?_
    refine lv_aload_n hx hb dX4_total_56 rfl (lv_at hl 0 rfl) ?_
    refine kz_rdV (As := []) (rest := []) (b := a 0) ⟨hx, hb, hml, hown, hts⟩ (c_X4_parcels l G a M) (cwV 0 hts gX4_total_X4_parcels rfl rfl rfl (by decide +kernel) ⟨Nat.le_of_ble_eq_true rfl, Nat.le_of_ble_eq_true rfl⟩) hK hP (kz_recv hK hP (ci := 4) (q0 := 0) rfl rfl) rfl hl.1 rfl (Nat.le_of_ble_eq_true rfl) dX4_total_57 ⟨Nat.le_of_ble_eq_true rfl, Nat.le_of_ble_eq_true rfl⟩ ?_
    subst hQ
    exact W.iret (v := (X4_parcels_r (M 0))) hx hb hr (fun t ht _ => ⟨(X4_parcels_r (M 0)), rfl, (by rw [X4_total_r, if_pos c_4]), ht⟩) (fun _ h9 => absurd h9 List.not_mem_nil) dX4_total_60
  · have c_5 : ¬ p0 = 0 := by rw [← ey_2]; exact c_3
    by_cases c_6 : y_1 = 1
    · have c_7 : p0 = 1 := by rw [← ey_2]; exact c_6
      subst c_6
      refine lv_tableIn (off := 60) (tgt := 61) hx hb dX4_total_1 (by decide +kernel) (by decide +kernel) (by decide +kernel) (by decide) ?_
      refine lv_aload_n hx hb dX4_total_61 rfl (lv_at hl 0 rfl) ?_
      refine kz_rdV (As := []) (rest := []) (b := a 0) ⟨hx, hb, hml, hown, hts⟩ (c_X4_inBins l G a M) (cwV 0 hts gX4_total_X4_inBins rfl rfl rfl (by decide +kernel) ⟨Nat.le_of_ble_eq_true rfl, Nat.le_of_ble_eq_true rfl⟩) hK hP (kz_recv hK hP (ci := 4) (q0 := 0) rfl rfl) rfl hl.1 rfl (Nat.le_of_ble_eq_true rfl) dX4_total_62 ⟨Nat.le_of_ble_eq_true rfl, Nat.le_of_ble_eq_true rfl⟩ ?_
      subst hQ
      exact W.iret (v := (X4_inBins_r (M 0))) hx hb hr (fun t ht _ => ⟨(X4_inBins_r (M 0)), rfl, (by rw [X4_total_r, if_neg c_5, if_pos c_7]), ht⟩) (fun _ h9 => absurd h9 List.not_mem_nil) dX4_total_65
    · have c_8 : ¬ p0 = 1 := by rw [← ey_2]; exact c_6
      by_cases c_9 : y_1 = 2
      · have c_10 : p0 = 2 := by rw [← ey_2]; exact c_9
        subst c_9
        refine lv_tableIn (off := 65) (tgt := 66) hx hb dX4_total_1 (by decide +kernel) (by decide +kernel) (by decide +kernel) (by decide) ?_
        refine lv_aload_n hx hb dX4_total_66 rfl (lv_at hl 0 rfl) ?_
        refine va_get (D := G.1) (ci := 4) (v := .ref (a 1)) (C := RX4) (T := TX4) (N := 14) hx hb hts hinX4 hown hK.1 hP 0 rfl rfl 0 (by decide) (hts (.fieldLink RX4 7 "ParcelShelvesModel" "z" "[I") (by decide +kernel)) (fun _ h9 => h9) rfl dX4_total_67 ?_
        refine lv_bipush (v := 7) hx hb dX4_total_70 (by decide +kernel) ?_
        refine lv_iload_n hx hb dX4_total_72 rfl (lv_at hl 1 rfl) ?_
        refine lv_iadd hx hb dX4_total_73 ?_
        refine lv_iconst (v := 2) hx hb dX4_total_74 (by decide +kernel) ?_
        refine lv_isub hx hb dX4_total_75 ?_
        refine va_iald (f := (M 0)) hx hb hK.1 hP 1 0 rfl rfl (by rw [c_10]; exact vp_in_nI (n := 7) (N := 580) (by decide) (by decide)) dX4_total_76 ?_
        subst hQ
        exact W.iret (v := ((M 0) ((7 + p0) - 2).toNatClampNeg)) hx hb hr (fun t ht _ => ⟨((M 0) ((7 + p0) - 2).toNatClampNeg), rfl, (by rw [X4_total_r, if_neg c_5, if_neg c_8, if_pos c_10]), ht⟩) (fun _ h9 => absurd h9 List.not_mem_nil) dX4_total_77
      · have c_11 : ¬ p0 = 2 := by rw [← ey_2]; exact c_9
        by_cases c_12 : y_1 = 3
        · have c_13 : p0 = 3 := by rw [← ey_2]; exact c_12
          subst c_12
          refine lv_tableIn (off := 65) (tgt := 66) hx hb dX4_total_1 (by decide +kernel) (by decide +kernel) (by decide +kernel) (by decide) ?_
          refine lv_aload_n hx hb dX4_total_66 rfl (lv_at hl 0 rfl) ?_
          refine va_get (D := G.1) (ci := 4) (v := .ref (a 1)) (C := RX4) (T := TX4) (N := 14) hx hb hts hinX4 hown hK.1 hP 0 rfl rfl 0 (by decide) (hts (.fieldLink RX4 7 "ParcelShelvesModel" "z" "[I") (by decide +kernel)) (fun _ h9 => h9) rfl dX4_total_67 ?_
          refine lv_bipush (v := 7) hx hb dX4_total_70 (by decide +kernel) ?_
          refine lv_iload_n hx hb dX4_total_72 rfl (lv_at hl 1 rfl) ?_
          refine lv_iadd hx hb dX4_total_73 ?_
          refine lv_iconst (v := 2) hx hb dX4_total_74 (by decide +kernel) ?_
          refine lv_isub hx hb dX4_total_75 ?_
          refine va_iald (f := (M 0)) hx hb hK.1 hP 1 0 rfl rfl (by rw [c_13]; exact vp_in_nI (n := 8) (N := 580) (by decide) (by decide)) dX4_total_76 ?_
          subst hQ
          exact W.iret (v := ((M 0) ((7 + p0) - 2).toNatClampNeg)) hx hb hr (fun t ht _ => ⟨((M 0) ((7 + p0) - 2).toNatClampNeg), rfl, (by rw [X4_total_r, if_neg c_5, if_neg c_8, if_neg c_11, if_pos c_13]), ht⟩) (fun _ h9 => absurd h9 List.not_mem_nil) dX4_total_77
        · have c_14 : ¬ p0 = 3 := by rw [← ey_2]; exact c_12
          by_cases c_15 : y_1 = 4
          · have c_16 : p0 = 4 := by rw [← ey_2]; exact c_15
            subst c_15
            refine lv_tableIn (off := 65) (tgt := 66) hx hb dX4_total_1 (by decide +kernel) (by decide +kernel) (by decide +kernel) (by decide) ?_
            refine lv_aload_n hx hb dX4_total_66 rfl (lv_at hl 0 rfl) ?_
            refine va_get (D := G.1) (ci := 4) (v := .ref (a 1)) (C := RX4) (T := TX4) (N := 14) hx hb hts hinX4 hown hK.1 hP 0 rfl rfl 0 (by decide) (hts (.fieldLink RX4 7 "ParcelShelvesModel" "z" "[I") (by decide +kernel)) (fun _ h9 => h9) rfl dX4_total_67 ?_
            refine lv_bipush (v := 7) hx hb dX4_total_70 (by decide +kernel) ?_
            refine lv_iload_n hx hb dX4_total_72 rfl (lv_at hl 1 rfl) ?_
            refine lv_iadd hx hb dX4_total_73 ?_
            refine lv_iconst (v := 2) hx hb dX4_total_74 (by decide +kernel) ?_
            refine lv_isub hx hb dX4_total_75 ?_
            refine va_iald (f := (M 0)) hx hb hK.1 hP 1 0 rfl rfl (by rw [c_16]; exact vp_in_nI (n := 9) (N := 580) (by decide) (by decide)) dX4_total_76 ?_
            subst hQ
            exact W.iret (v := ((M 0) ((7 + p0) - 2).toNatClampNeg)) hx hb hr (fun t ht _ => ⟨((M 0) ((7 + p0) - 2).toNatClampNeg), rfl, (by rw [X4_total_r, if_neg c_5, if_neg c_8, if_neg c_11, if_neg c_14, if_pos c_16]), ht⟩) (fun _ h9 => absurd h9 List.not_mem_nil) dX4_total_77
          · have c_17 : ¬ p0 = 4 := by rw [← ey_2]; exact c_15
            by_cases c_18 : y_1 = 5
            · have c_19 : p0 = 5 := by rw [← ey_2]; exact c_18
              subst c_18
              refine lv_tableIn (off := 65) (tgt := 66) hx hb dX4_total_1 (by decide +kernel) (by decide +kernel) (by decide +kernel) (by decide) ?_
              refine lv_aload_n hx hb dX4_total_66 rfl (lv_at hl 0 rfl) ?_
              refine va_get (D := G.1) (ci := 4) (v := .ref (a 1)) (C := RX4) (T := TX4) (N := 14) hx hb hts hinX4 hown hK.1 hP 0 rfl rfl 0 (by decide) (hts (.fieldLink RX4 7 "ParcelShelvesModel" "z" "[I") (by decide +kernel)) (fun _ h9 => h9) rfl dX4_total_67 ?_
              refine lv_bipush (v := 7) hx hb dX4_total_70 (by decide +kernel) ?_
              refine lv_iload_n hx hb dX4_total_72 rfl (lv_at hl 1 rfl) ?_
              refine lv_iadd hx hb dX4_total_73 ?_
              refine lv_iconst (v := 2) hx hb dX4_total_74 (by decide +kernel) ?_
              refine lv_isub hx hb dX4_total_75 ?_
              refine va_iald (f := (M 0)) hx hb hK.1 hP 1 0 rfl rfl (by rw [c_19]; exact vp_in_nI (n := 10) (N := 580) (by decide) (by decide)) dX4_total_76 ?_
              subst hQ
              exact W.iret (v := ((M 0) ((7 + p0) - 2).toNatClampNeg)) hx hb hr (fun t ht _ => ⟨((M 0) ((7 + p0) - 2).toNatClampNeg), rfl, (by rw [X4_total_r, if_neg c_5, if_neg c_8, if_neg c_11, if_neg c_14, if_neg c_17, if_pos c_19]), ht⟩) (fun _ h9 => absurd h9 List.not_mem_nil) dX4_total_77
            · have c_20 : ¬ p0 = 5 := by rw [← ey_2]; exact c_18
              by_cases c_21 : y_1 = 6
              · have c_22 : p0 = 6 := by rw [← ey_2]; exact c_21
                subst c_21
                refine lv_tableIn (off := 65) (tgt := 66) hx hb dX4_total_1 (by decide +kernel) (by decide +kernel) (by decide +kernel) (by decide) ?_
                refine lv_aload_n hx hb dX4_total_66 rfl (lv_at hl 0 rfl) ?_
                refine va_get (D := G.1) (ci := 4) (v := .ref (a 1)) (C := RX4) (T := TX4) (N := 14) hx hb hts hinX4 hown hK.1 hP 0 rfl rfl 0 (by decide) (hts (.fieldLink RX4 7 "ParcelShelvesModel" "z" "[I") (by decide +kernel)) (fun _ h9 => h9) rfl dX4_total_67 ?_
                refine lv_bipush (v := 7) hx hb dX4_total_70 (by decide +kernel) ?_
                refine lv_iload_n hx hb dX4_total_72 rfl (lv_at hl 1 rfl) ?_
                refine lv_iadd hx hb dX4_total_73 ?_
                refine lv_iconst (v := 2) hx hb dX4_total_74 (by decide +kernel) ?_
                refine lv_isub hx hb dX4_total_75 ?_
                refine va_iald (f := (M 0)) hx hb hK.1 hP 1 0 rfl rfl (by rw [c_22]; exact vp_in_nI (n := 11) (N := 580) (by decide) (by decide)) dX4_total_76 ?_
                subst hQ
                exact W.iret (v := ((M 0) ((7 + p0) - 2).toNatClampNeg)) hx hb hr (fun t ht _ => ⟨((M 0) ((7 + p0) - 2).toNatClampNeg), rfl, (by rw [X4_total_r, if_neg c_5, if_neg c_8, if_neg c_11, if_neg c_14, if_neg c_17, if_neg c_20, if_pos c_22]), ht⟩) (fun _ h9 => absurd h9 List.not_mem_nil) dX4_total_77
              · have c_23 : ¬ p0 = 6 := by rw [← ey_2]; exact c_21
                by_cases c_24 : y_1 = 7
                · have c_25 : p0 = 7 := by rw [← ey_2]; exact c_24
                  subst c_24
                  refine lv_tableIn (off := 77) (tgt := 78) hx hb dX4_total_1 (by decide +kernel) (by decide +kernel) (by decide +kernel) (by decide) ?_
                  refine lv_aload_n hx hb dX4_total_78 rfl (lv_at hl 0 rfl) ?_
                  refine va_get (D := G.1) (ci := 4) (v := .ref (a 1)) (C := RX4) (T := TX4) (N := 14) hx hb hts hinX4 hown hK.1 hP 0 rfl rfl 0 (by decide) (hts (.fieldLink RX4 7 "ParcelShelvesModel" "z" "[I") (by decide +kernel)) (fun _ h9 => h9) rfl dX4_total_79 ?_
                  refine lv_bipush (v := 6) hx hb dX4_total_82 (by decide +kernel) ?_
                  refine va_iald (f := (M 0)) hx hb hK.1 hP 1 0 rfl rfl (vp_in_nI (n := 6) (N := 580) (by decide) (by decide)) dX4_total_84 ?_
                  refine lv_topi (fun y_26 ey_27 => ?_)
                  obtain rfl : y_26 = ((M 0) 6) := by rw [ey_27]; rfl
                  subst hQ
                  exact W.iret (v := ((M 0) 6)) hx hb hr (fun t ht _ => ⟨((M 0) 6), rfl, (by rw [X4_total_r, if_neg c_5, if_neg c_8, if_neg c_11, if_neg c_14, if_neg c_17, if_neg c_20, if_neg c_23, if_pos c_25]), ht⟩) (fun _ h9 => absurd h9 List.not_mem_nil) dX4_total_85
                · have c_28 : ¬ p0 = 7 := by rw [← ey_2]; exact c_24
                  by_cases c_29 : y_1 = 8
                  · have c_30 : p0 = 8 := by rw [← ey_2]; exact c_29
                    subst c_29
                    refine lv_tableIn (off := 85) (tgt := 86) hx hb dX4_total_1 (by decide +kernel) (by decide +kernel) (by decide +kernel) (by decide) ?_
                    refine lv_aload_n hx hb dX4_total_86 rfl (lv_at hl 0 rfl) ?_
                    refine kz_rdV (As := []) (rest := []) (b := a 0) ⟨hx, hb, hml, hown, hts⟩ (c_X4_isLocked l G a M) (cwV 0 hts gX4_total_X4_isLocked rfl rfl rfl (by decide +kernel) ⟨Nat.le_of_ble_eq_true rfl, Nat.le_of_ble_eq_true rfl⟩) hK hP (kz_recv hK hP (ci := 4) (q0 := 0) rfl rfl) rfl hl.1 rfl (Nat.le_of_ble_eq_true rfl) dX4_total_87 ⟨Nat.le_of_ble_eq_true rfl, Nat.le_of_ble_eq_true rfl⟩ ?_
                    refine lv_topi (fun y_31 ey_32 => ?_)
                    by_cases c_33 : X4_isLocked_p (M 0)
                    · rw [if_pos c_33] at ey_32
                      subst ey_32
                      refine lv_if_eq (tgt := 97) hx hb dX4_total_90 (by decide) (fun c => absurd c (by decide)) (fun _ => ?_)
                      refine lv_iconst (v := 1) hx hb dX4_total_93 (by decide +kernel) ?_
                      refine lv_goto (tgt := 98) hx hb dX4_total_94 (by decide) ?_
                      subst hQ
                      exact W.iret (v := 1) hx hb hr (fun t ht _ => ⟨1, rfl, (by rw [X4_total_r, if_neg c_5, if_neg c_8, if_neg c_11, if_neg c_14, if_neg c_17, if_neg c_20, if_neg c_23, if_neg c_28, if_pos c_30, if_pos c_33]), ht⟩) (fun _ h9 => absurd h9 List.not_mem_nil) dX4_total_98
                    · rw [if_neg c_33] at ey_32
                      subst ey_32
                      refine lv_if_eq (tgt := 97) hx hb dX4_total_90 (by decide) (fun _ => ?_) (fun c => absurd c (by decide))
                      refine lv_iconst (v := 0) hx hb dX4_total_97 (by decide +kernel) ?_
                      subst hQ
                      exact W.iret (v := 0) hx hb hr (fun t ht _ => ⟨0, rfl, (by rw [X4_total_r, if_neg c_5, if_neg c_8, if_neg c_11, if_neg c_14, if_neg c_17, if_neg c_20, if_neg c_23, if_neg c_28, if_pos c_30, if_neg c_33]), ht⟩) (fun _ h9 => absurd h9 List.not_mem_nil) dX4_total_98
                  · have c_34 : ¬ p0 = 8 := by rw [← ey_2]; exact c_29
                    by_cases c_35 : y_1 = 9
                    · have c_36 : p0 = 9 := by rw [← ey_2]; exact c_35
                      subst c_35
                      refine lv_tableIn (off := 98) (tgt := 99) hx hb dX4_total_1 (by decide +kernel) (by decide +kernel) (by decide +kernel) (by decide) ?_
                      refine lv_aload_n hx hb dX4_total_99 rfl (lv_at hl 0 rfl) ?_
                      refine kz_rdV (As := []) (rest := []) (b := a 0) ⟨hx, hb, hml, hown, hts⟩ (c_X4_fees l G a M) (cwV 0 hts gX4_total_X4_fees rfl rfl rfl (by decide +kernel) ⟨Nat.le_of_ble_eq_true rfl, Nat.le_of_ble_eq_true rfl⟩) hK hP (kz_recv hK hP (ci := 4) (q0 := 0) rfl rfl) rfl hl.1 rfl (Nat.le_of_ble_eq_true rfl) dX4_total_100 ⟨Nat.le_of_ble_eq_true rfl, Nat.le_of_ble_eq_true rfl⟩ ?_
                      subst hQ
                      exact W.iret (v := (X4_fees_r (M 0))) hx hb hr (fun t ht _ => ⟨(X4_fees_r (M 0)), rfl, (by rw [X4_total_r, if_neg c_5, if_neg c_8, if_neg c_11, if_neg c_14, if_neg c_17, if_neg c_20, if_neg c_23, if_neg c_28, if_neg c_34, if_pos c_36]), ht⟩) (fun _ h9 => absurd h9 List.not_mem_nil) dX4_total_103
                    · have c_37 : ¬ p0 = 9 := by rw [← ey_2]; exact c_35
                      refine lv_tableOut (tgt := 104) hx hb dX4_total_1 (by have h0 := lv_neT c_3 (by decide +kernel : (0 : Int32).toInt = 0); have h1 := lv_neT c_6 (by decide +kernel : (1 : Int32).toInt = 1); have h2 := lv_neT c_9 (by decide +kernel : (2 : Int32).toInt = 2); have h3 := lv_neT c_12 (by decide +kernel : (3 : Int32).toInt = 3); have h4 := lv_neT c_15 (by decide +kernel : (4 : Int32).toInt = 4); have h5 := lv_neT c_18 (by decide +kernel : (5 : Int32).toInt = 5); have h6 := lv_neT c_21 (by decide +kernel : (6 : Int32).toInt = 6); have h7 := lv_neT c_24 (by decide +kernel : (7 : Int32).toInt = 7); have h8 := lv_neT c_29 (by decide +kernel : (8 : Int32).toInt = 8); have h9 := lv_neT c_35 (by decide +kernel : (9 : Int32).toInt = 9); omega) (by decide) ?_
                      refine lv_bipush (v := (-2)) hx hb dX4_total_104 (by decide +kernel) ?_
                      subst hQ
                      exact W.iret (v := (-2)) hx hb hr (fun t ht _ => ⟨(-2), rfl, (by rw [X4_total_r, if_neg c_5, if_neg c_8, if_neg c_11, if_neg c_14, if_neg c_17, if_neg c_20, if_neg c_23, if_neg c_28, if_neg c_34, if_neg c_37]), ht⟩) (fun _ h9 => absurd h9 List.not_mem_nil) dX4_total_106
def X4_shelf_r (z0 : Nat → Int32) (k p0 : Int32) : Int32 := if X4_in_p k 0 5 then (if X4_in_p p0 0 2 then (if p0 = 0 then nI k.toNatClampNeg / 2 else if p0 = 1 then kz_cn (fun j => X4_isTaken_p z0 (8 * k.toNatClampNeg + j)) 8 else kz_cn (fun j => ¬ X4_isTaken_p z0 (8 * k.toNatClampNeg + j) ∧ X4_rests_p z0 (8 * k.toNatClampNeg + j)) 8) else (-2)) else (-1)
set_option maxHeartbeats 1000000 in
set_option maxRecDepth 100000 in
theorem c_X4_shelf (l : Launch) (G : kz_G) (a : Nat → Nat) (M : kz_S) (k : Int32) (p0 : Int32) (ht : ∃ d, d < 2 ^ 30 ∧ M 0 5 = nI d) : kz_rd l G yX4_shelf wsX4_shelf 2 43 [.ref (a 0), .int k, .int p0] [mdW G a M] (X4_shelf_r (M 0) k p0) := by
  refine Met.ofW (cc := cX4_shelf) (maxL := 6) (ret := (some .int)) (by decide) rfl ?_
  intro p e s m args below meth c s₁ B hml hv
  obtain ⟨rfl, hP, hK⟩ := hv
  have hx := B.exec
  have hb := B.bytes
  have hr := B.returns
  have hts := atoms_spec (ws := wsX4_shelf) B.pre
  have hown : s.vm.findClass RX4 = some m.cls := findClass_of_methodNamed B.named
  have hlocks := B.notSynchronized
  have hl := lv_entry ([.ref (a 0), .int k, .int p0]) (n := 6) (Nat.le_of_ble_eq_true rfl)
  rw [lg_entry_eq]
  generalize (lg_sl ([.ref (a 0), .int k, .int p0]) ++ List.replicate (6 - (lg_sl ([.ref (a 0), .int k, .int p0])).length) Slot.unset).toArray = ls at hl ⊢
  have hl : lv_has ls 6 [(0, .ref (a 0)), (1, .int k), (2, .int p0)] := hl
  refine kz_start (fun QQ hQ => ?_)
  refine lv_iload_n hx hb dX4_shelf_0 rfl (lv_at hl 1 rfl) ?_
  refine lv_iconst (v := 0) hx hb dX4_shelf_1 (by decide +kernel) ?_
  refine lv_iconst (v := 5) hx hb dX4_shelf_2 (by decide +kernel) ?_
  refine kz_rdS (As := [.int k, .int 0, .int 5]) (rest := []) ⟨hx, hb, hml, hown, hts⟩ (c_X4_in l G k 0 5) (va_cwS 3 hts gX4_shelf_X4_in rfl rfl rfl (by decide +kernel) ⟨Nat.le_of_ble_eq_true rfl, Nat.le_of_ble_eq_true rfl⟩) hK (hP.sub (cs := []) [] rfl) rfl hl.1 rfl (Nat.le_of_ble_eq_true rfl) dX4_shelf_3 ⟨Nat.le_of_ble_eq_true rfl, Nat.le_of_ble_eq_true rfl⟩ ?_
  refine lv_topi (fun y_1 ey_2 => ?_)
  by_cases c_3 : X4_in_p k 0 5
  · rw [if_pos c_3] at ey_2
    subst ey_2
    obtain ⟨hcv4, hcl4⟩ := kz_back (kz_wiIn 5 c_3 rfl (by decide)) (by decide)
    have hl : lv_has ls 6 [(0, .ref (a 0)), (1, .int (nI k.toNatClampNeg)), (2, .int p0)] := by rw [← hcv4]; exact hl
    refine lv_if_ne (tgt := 11) hx hb dX4_shelf_6 (by decide) (fun _ => ?_) (fun c => absurd c (by decide))
    refine lv_iload_n hx hb dX4_shelf_11 rfl (lv_at hl 2 rfl) ?_
    refine lv_iconst (v := 0) hx hb dX4_shelf_12 (by decide +kernel) ?_
    refine lv_iconst (v := 2) hx hb dX4_shelf_13 (by decide +kernel) ?_
    refine kz_rdS (As := [.int p0, .int 0, .int 2]) (rest := []) ⟨hx, hb, hml, hown, hts⟩ (c_X4_in l G p0 0 2) (va_cwS 3 hts gX4_shelf_X4_in rfl rfl rfl (by decide +kernel) ⟨Nat.le_of_ble_eq_true rfl, Nat.le_of_ble_eq_true rfl⟩) hK (hP.sub (cs := []) [] rfl) rfl hl.1 rfl (Nat.le_of_ble_eq_true rfl) dX4_shelf_14 ⟨Nat.le_of_ble_eq_true rfl, Nat.le_of_ble_eq_true rfl⟩ ?_
    refine lv_topi (fun y_5 ey_6 => ?_)
    by_cases c_7 : X4_in_p p0 0 2
    · rw [if_pos c_7] at ey_6
      subst ey_6
      refine lv_if_ne (tgt := 23) hx hb dX4_shelf_17 (by decide) (fun _ => ?_) (fun c => absurd c (by decide))
      refine lv_iconst (v := 0) hx hb dX4_shelf_23 (by decide +kernel) ?_
      refine lv_istore_n (lv' := [(3, .int 0), (0, .ref (a 0)), (1, .int (nI k.toNatClampNeg)), (2, .int p0)]) hx hb dX4_shelf_24 rfl hl (by decide) rfl (fun ls hl => ?_)
      refine lv_iconst (v := 0) hx hb dX4_shelf_25 (by decide +kernel) ?_
      refine lv_istore (lv' := [(4, .int 0), (3, .int 0), (0, .ref (a 0)), (1, .int (nI k.toNatClampNeg)), (2, .int p0)]) hx hb dX4_shelf_26 hl (by decide) rfl (fun ls hl => ?_)
      refine lv_bipush (v := 8) hx hb dX4_shelf_28 (by decide +kernel) ?_
      refine lv_iload_n hx hb dX4_shelf_30 rfl (lv_at hl 3 rfl) ?_
      refine lv_imul hx hb dX4_shelf_31 ?_
      refine lv_topi (fun y_8 ey_9 => ?_)
      obtain rfl : y_8 = (nI (8 * k.toNatClampNeg)) := by rw [ey_9]; exact kz_e3 _
      refine lv_istore (lv' := [(5, .int (nI (8 * k.toNatClampNeg))), (4, .int 0), (3, .int 0), (0, .ref (a 0)), (1, .int (nI k.toNatClampNeg)), (2, .int p0)]) hx hb dX4_shelf_32 hl (by decide) rfl (fun ls hl => ?_)
      have L34_10 : ∀ (n34 : Nat) (i : Nat) (x0 y0 : Int32), (8 - i < n34) → (i ≤ 8) → (x0 = kz_cn (fun j => X4_isTaken_p (M 0) (8 * k.toNatClampNeg + j)) i) → (y0 = kz_cn (fun j => ¬ X4_isTaken_p (M 0) (8 * k.toNatClampNeg + j) ∧ X4_rests_p (M 0) (8 * k.toNatClampNeg + j)) i) → ∀ ls : Array Slot, lv_has ls 6 [(5, .int (nI (8 * k.toNatClampNeg + i))), (4, .int y0), (3, .int x0), (0, .ref (a 0)), (1, .int (nI k.toNatClampNeg)), (2, .int p0)] → W p l e (headSpec wsX4_shelf (kz_rm 2 43)).room s m ([.ref (a 0), .int k, .int p0] : List Value).toArray below meth c s.heap [] 0 0 QQ (F0 m 34 ls []) := by
        intro n34
        induction n34 with
        | zero => intro i x0 y0 h0; exact absurd h0 (Nat.not_lt_zero _)
        | succ n34 ih34_11 =>
          intro i x0 y0 hmeas34 hi1 hx0 hy0 ls hl
          refine lv_iload hx hb dX4_shelf_34 (lv_at hl 0 rfl) ?_
          refine lv_bipush (v := 8) hx hb dX4_shelf_36 (by decide +kernel) ?_
          refine lv_iload_n hx hb dX4_shelf_38 rfl (lv_at hl 4 rfl) ?_
          refine lv_iconst (v := 1) hx hb dX4_shelf_39 (by decide +kernel) ?_
          refine lv_iadd hx hb dX4_shelf_40 ?_
          refine lv_imul hx hb dX4_shelf_41 ?_
          refine lv_topi (fun y_12 ey_13 => ?_)
          obtain rfl : y_12 = (nI (8 * (k.toNatClampNeg + 1))) := by rw [ey_13]; exact kz_e5 _
          refine lv_icmp_ge (tgt := 96) hx hb dX4_shelf_42 (by decide) (fun c_14 => ?_) (fun c_14 => ?_)
          · have hge := kz_le (a := 8 * (k.toNatClampNeg + 1)) (b := 8 * k.toNatClampNeg + i) c_14 (by omega) (by omega)
            obtain rfl : i = 8 := by omega
            refine lv_iload_n hx hb dX4_shelf_96 rfl (lv_at hl 5 rfl) ?_
            refine lv_if_ne (tgt := 106) hx hb dX4_shelf_97 (by decide) (fun c_15 => ?_) (fun c_15 => ?_)
            · refine lv_iload_n hx hb dX4_shelf_106 rfl (lv_at hl 5 rfl) ?_
              refine lv_iconst (v := 1) hx hb dX4_shelf_107 (by decide +kernel) ?_
              refine lv_icmp_ne (tgt := 115) hx hb dX4_shelf_108 (by decide) (fun c_16 => ?_) (fun c_16 => ?_)
              · refine lv_iload hx hb dX4_shelf_115 (lv_at hl 1 rfl) ?_
                subst hQ
                exact W.iret (v := y0) hx hb hr (fun t ht _ => ⟨y0, rfl, (by rw [X4_shelf_r, if_pos c_3, if_pos c_7, if_neg c_15, if_neg c_16]; exact hy0), ht⟩) (fun _ h9 => absurd h9 List.not_mem_nil) dX4_shelf_117
              · refine lv_iload_n hx hb dX4_shelf_111 rfl (lv_at hl 2 rfl) ?_
                refine lv_goto (tgt := 117) hx hb dX4_shelf_112 (by decide) ?_
                subst hQ
                exact W.iret (v := x0) hx hb hr (fun t ht _ => ⟨x0, rfl, (by rw [X4_shelf_r, if_pos c_3, if_pos c_7, if_neg c_15, if_pos c_16]; exact hx0), ht⟩) (fun _ h9 => absurd h9 List.not_mem_nil) dX4_shelf_117
            · refine lv_iload_n hx hb dX4_shelf_100 rfl (lv_at hl 4 rfl) ?_
              refine lv_iconst (v := 2) hx hb dX4_shelf_101 (by decide +kernel) ?_
              refine lv_idiv hx hb dX4_shelf_102 (by decide +kernel) ?_
              refine lv_goto (tgt := 117) hx hb dX4_shelf_103 (by decide) ?_
              subst hQ
              exact W.iret (v := ((nI k.toNatClampNeg) / 2)) hx hb hr (fun t ht _ => ⟨((nI k.toNatClampNeg) / 2), rfl, (by rw [X4_shelf_r, if_pos c_3, if_pos c_7, if_pos c_15]), ht⟩) (fun _ h9 => absurd h9 List.not_mem_nil) dX4_shelf_117
          · have hlt := kz_gt (a := 8 * (k.toNatClampNeg + 1)) (b := 8 * k.toNatClampNeg + i) c_14 (by omega) (by omega)
            refine lv_iload_n hx hb dX4_shelf_45 rfl (lv_at hl 2 rfl) ?_
            refine lv_aload_n hx hb dX4_shelf_46 rfl (lv_at hl 3 rfl) ?_
            refine lv_iload hx hb dX4_shelf_47 (lv_at hl 0 rfl) ?_
            refine kz_rdV (As := [.int (nI (8 * k.toNatClampNeg + i))]) (rest := [.int x0]) (b := a 0) ⟨hx, hb, hml, hown, hts⟩ (c_X4_isTaken l G a M (8 * k.toNatClampNeg + i) (by omega)) (cwV 1 hts gX4_shelf_X4_isTaken rfl rfl rfl (by decide +kernel) ⟨Nat.le_of_ble_eq_true rfl, Nat.le_of_ble_eq_true rfl⟩) hK hP (kz_recv hK hP (ci := 4) (q0 := 0) rfl rfl) rfl hl.1 rfl (Nat.le_of_ble_eq_true rfl) dX4_shelf_49 ⟨Nat.le_of_ble_eq_true rfl, Nat.le_of_ble_eq_true rfl⟩ ?_
            refine lv_topi (fun y_17 ey_18 => ?_)
            by_cases c_19 : X4_isTaken_p (M 0) (8 * k.toNatClampNeg + i)
            · rw [if_pos c_19] at ey_18
              subst ey_18
              refine lv_if_eq (tgt := 59) hx hb dX4_shelf_52 (by decide) (fun c => absurd c (by decide)) (fun _ => ?_)
              refine lv_iconst (v := 1) hx hb dX4_shelf_55 (by decide +kernel) ?_
              refine lv_goto (tgt := 60) hx hb dX4_shelf_56 (by decide) ?_
              refine lv_iadd hx hb dX4_shelf_60 ?_
              refine lv_istore_n (lv' := [(3, .int (x0 + 1)), (5, .int (nI (8 * k.toNatClampNeg + i))), (4, .int y0), (0, .ref (a 0)), (1, .int (nI k.toNatClampNeg)), (2, .int p0)]) hx hb dX4_shelf_61 rfl hl (by decide) rfl (fun ls hl => ?_)
              refine lv_iload hx hb dX4_shelf_62 (lv_at hl 2 rfl) ?_
              refine lv_aload_n hx hb dX4_shelf_64 rfl (lv_at hl 3 rfl) ?_
              refine lv_iload hx hb dX4_shelf_65 (lv_at hl 1 rfl) ?_
              refine kz_rdV (As := [.int (nI (8 * k.toNatClampNeg + i))]) (rest := [.int y0]) (b := a 0) ⟨hx, hb, hml, hown, hts⟩ (c_X4_isTaken l G a M (8 * k.toNatClampNeg + i) (by omega)) (cwV 1 hts gX4_shelf_X4_isTaken rfl rfl rfl (by decide +kernel) ⟨Nat.le_of_ble_eq_true rfl, Nat.le_of_ble_eq_true rfl⟩) hK hP (kz_recv hK hP (ci := 4) (q0 := 0) rfl rfl) rfl hl.1 rfl (Nat.le_of_ble_eq_true rfl) dX4_shelf_67 ⟨Nat.le_of_ble_eq_true rfl, Nat.le_of_ble_eq_true rfl⟩ ?_
              refine lv_topi (fun y_20 ey_21 => ?_)
              have c_22 : (X4_isTaken_p (M 0) (8 * k.toNatClampNeg + i)) := by exact c_19
              rw [if_pos c_22] at ey_21
              subst ey_21
              refine lv_if_ne (tgt := 86) hx hb dX4_shelf_70 (by decide) (fun _ => ?_) (fun c => absurd c (by decide))
              refine lv_iconst (v := 0) hx hb dX4_shelf_86 (by decide +kernel) ?_
              refine lv_iadd hx hb dX4_shelf_87 ?_
              refine lv_istore (lv' := [(4, .int (y0 + 0)), (3, .int (x0 + 1)), (5, .int (nI (8 * k.toNatClampNeg + i))), (0, .ref (a 0)), (1, .int (nI k.toNatClampNeg)), (2, .int p0)]) hx hb dX4_shelf_88 hl (by decide) rfl (fun ls hl => ?_)
              refine lv_iinc (v := (nI ((8 * k.toNatClampNeg + i) + 1))) (lv' := [(5, .int (nI ((8 * k.toNatClampNeg + i) + 1))), (4, .int (y0 + 0)), (3, .int (x0 + 1)), (0, .ref (a 0)), (1, .int (nI k.toNatClampNeg)), (2, .int p0)]) hx hb dX4_shelf_90 hl (k := 2) rfl (nI_1 _) (by decide) rfl (fun ls hl => ?_)
              refine lv_goto (tgt := 34) hx hb dX4_shelf_93 (by decide) ?_
              exact ih34_11 (i + 1) (x0 + 1) (y0 + 0) (by omega) (by omega) (by rw [hx0]; exact kz_cn_t (P := fun j => X4_isTaken_p (M 0) (8 * k.toNatClampNeg + j)) c_19) (by rw [hy0]; exact (Int32.add_zero _).trans (kz_cn_f (P := fun j => ¬ X4_isTaken_p (M 0) (8 * k.toNatClampNeg + j) ∧ X4_rests_p (M 0) (8 * k.toNatClampNeg + j)) (fun h => h.1 c_19))) ls (lv_sub hl [0, 1, 2, 3, 4, 5] rfl)
            · rw [if_neg c_19] at ey_18
              subst ey_18
              refine lv_if_eq (tgt := 59) hx hb dX4_shelf_52 (by decide) (fun _ => ?_) (fun c => absurd c (by decide))
              refine lv_iconst (v := 0) hx hb dX4_shelf_59 (by decide +kernel) ?_
              refine lv_iadd hx hb dX4_shelf_60 ?_
              refine lv_istore_n (lv' := [(3, .int (x0 + 0)), (5, .int (nI (8 * k.toNatClampNeg + i))), (4, .int y0), (0, .ref (a 0)), (1, .int (nI k.toNatClampNeg)), (2, .int p0)]) hx hb dX4_shelf_61 rfl hl (by decide) rfl (fun ls hl => ?_)
              refine lv_iload hx hb dX4_shelf_62 (lv_at hl 2 rfl) ?_
              refine lv_aload_n hx hb dX4_shelf_64 rfl (lv_at hl 3 rfl) ?_
              refine lv_iload hx hb dX4_shelf_65 (lv_at hl 1 rfl) ?_
              refine kz_rdV (As := [.int (nI (8 * k.toNatClampNeg + i))]) (rest := [.int y0]) (b := a 0) ⟨hx, hb, hml, hown, hts⟩ (c_X4_isTaken l G a M (8 * k.toNatClampNeg + i) (by omega)) (cwV 1 hts gX4_shelf_X4_isTaken rfl rfl rfl (by decide +kernel) ⟨Nat.le_of_ble_eq_true rfl, Nat.le_of_ble_eq_true rfl⟩) hK hP (kz_recv hK hP (ci := 4) (q0 := 0) rfl rfl) rfl hl.1 rfl (Nat.le_of_ble_eq_true rfl) dX4_shelf_67 ⟨Nat.le_of_ble_eq_true rfl, Nat.le_of_ble_eq_true rfl⟩ ?_
              refine lv_topi (fun y_23 ey_24 => ?_)
              have c_25 : ¬ (X4_isTaken_p (M 0) (8 * k.toNatClampNeg + i)) := by exact c_19
              rw [if_neg c_25] at ey_24
              subst ey_24
              refine lv_if_ne (tgt := 86) hx hb dX4_shelf_70 (by decide) (fun c => absurd c (by decide)) (fun _ => ?_)
              refine lv_aload_n hx hb dX4_shelf_73 rfl (lv_at hl 3 rfl) ?_
              refine lv_iload hx hb dX4_shelf_74 (lv_at hl 1 rfl) ?_
              refine kz_rdV (As := [.int (nI (8 * k.toNatClampNeg + i))]) (rest := [.int y0]) (b := a 0) ⟨hx, hb, hml, hown, hts⟩ (c_X4_rests l G a M (8 * k.toNatClampNeg + i) (by omega) ht) (cwV 1 hts gX4_shelf_X4_rests rfl rfl rfl (by decide +kernel) ⟨Nat.le_of_ble_eq_true rfl, Nat.le_of_ble_eq_true rfl⟩) hK hP (kz_recv hK hP (ci := 4) (q0 := 0) rfl rfl) rfl hl.1 rfl (Nat.le_of_ble_eq_true rfl) dX4_shelf_76 ⟨Nat.le_of_ble_eq_true rfl, Nat.le_of_ble_eq_true rfl⟩ ?_
              refine lv_topi (fun y_26 ey_27 => ?_)
              by_cases c_28 : X4_rests_p (M 0) (8 * k.toNatClampNeg + i)
              · rw [if_pos c_28] at ey_27
                subst ey_27
                refine lv_if_eq (tgt := 86) hx hb dX4_shelf_79 (by decide) (fun c => absurd c (by decide)) (fun _ => ?_)
                refine lv_iconst (v := 1) hx hb dX4_shelf_82 (by decide +kernel) ?_
                refine lv_goto (tgt := 87) hx hb dX4_shelf_83 (by decide) ?_
                refine lv_iadd hx hb dX4_shelf_87 ?_
                refine lv_istore (lv' := [(4, .int (y0 + 1)), (3, .int (x0 + 0)), (5, .int (nI (8 * k.toNatClampNeg + i))), (0, .ref (a 0)), (1, .int (nI k.toNatClampNeg)), (2, .int p0)]) hx hb dX4_shelf_88 hl (by decide) rfl (fun ls hl => ?_)
                refine lv_iinc (v := (nI ((8 * k.toNatClampNeg + i) + 1))) (lv' := [(5, .int (nI ((8 * k.toNatClampNeg + i) + 1))), (4, .int (y0 + 1)), (3, .int (x0 + 0)), (0, .ref (a 0)), (1, .int (nI k.toNatClampNeg)), (2, .int p0)]) hx hb dX4_shelf_90 hl (k := 2) rfl (nI_1 _) (by decide) rfl (fun ls hl => ?_)
                refine lv_goto (tgt := 34) hx hb dX4_shelf_93 (by decide) ?_
                exact ih34_11 (i + 1) (x0 + 0) (y0 + 1) (by omega) (by omega) (by rw [hx0]; exact (Int32.add_zero _).trans (kz_cn_f (P := fun j => X4_isTaken_p (M 0) (8 * k.toNatClampNeg + j)) c_19)) (by rw [hy0]; exact kz_cn_t (P := fun j => ¬ X4_isTaken_p (M 0) (8 * k.toNatClampNeg + j) ∧ X4_rests_p (M 0) (8 * k.toNatClampNeg + j)) ⟨c_19, c_28⟩) ls (lv_sub hl [0, 1, 2, 3, 4, 5] rfl)
              · rw [if_neg c_28] at ey_27
                subst ey_27
                refine lv_if_eq (tgt := 86) hx hb dX4_shelf_79 (by decide) (fun _ => ?_) (fun c => absurd c (by decide))
                refine lv_iconst (v := 0) hx hb dX4_shelf_86 (by decide +kernel) ?_
                refine lv_iadd hx hb dX4_shelf_87 ?_
                refine lv_istore (lv' := [(4, .int (y0 + 0)), (3, .int (x0 + 0)), (5, .int (nI (8 * k.toNatClampNeg + i))), (0, .ref (a 0)), (1, .int (nI k.toNatClampNeg)), (2, .int p0)]) hx hb dX4_shelf_88 hl (by decide) rfl (fun ls hl => ?_)
                refine lv_iinc (v := (nI ((8 * k.toNatClampNeg + i) + 1))) (lv' := [(5, .int (nI ((8 * k.toNatClampNeg + i) + 1))), (4, .int (y0 + 0)), (3, .int (x0 + 0)), (0, .ref (a 0)), (1, .int (nI k.toNatClampNeg)), (2, .int p0)]) hx hb dX4_shelf_90 hl (k := 2) rfl (nI_1 _) (by decide) rfl (fun ls hl => ?_)
                refine lv_goto (tgt := 34) hx hb dX4_shelf_93 (by decide) ?_
                exact ih34_11 (i + 1) (x0 + 0) (y0 + 0) (by omega) (by omega) (by rw [hx0]; exact (Int32.add_zero _).trans (kz_cn_f (P := fun j => X4_isTaken_p (M 0) (8 * k.toNatClampNeg + j)) c_19)) (by rw [hy0]; exact (Int32.add_zero _).trans (kz_cn_f (P := fun j => ¬ X4_isTaken_p (M 0) (8 * k.toNatClampNeg + j) ∧ X4_rests_p (M 0) (8 * k.toNatClampNeg + j)) (fun h => c_28 h.2))) ls (lv_sub hl [0, 1, 2, 3, 4, 5] rfl)
      exact L34_10 _ 0 0 0 (Nat.lt_succ_self _) (by omega) rfl rfl ls (lv_sub hl [0, 1, 2, 3, 4, 5] rfl)
    · rw [if_neg c_7] at ey_6
      subst ey_6
      refine lv_if_ne (tgt := 23) hx hb dX4_shelf_17 (by decide) (fun c => absurd c (by decide)) (fun _ => ?_)
      refine lv_bipush (v := (-2)) hx hb dX4_shelf_20 (by decide +kernel) ?_
      subst hQ
      exact W.iret (v := (-2)) hx hb hr (fun t ht _ => ⟨(-2), rfl, (by rw [X4_shelf_r, if_pos c_3, if_neg c_7]), ht⟩) (fun _ h9 => absurd h9 List.not_mem_nil) dX4_shelf_22
  · rw [if_neg c_3] at ey_2
    subst ey_2
    refine lv_if_ne (tgt := 11) hx hb dX4_shelf_6 (by decide) (fun c => absurd c (by decide)) (fun _ => ?_)
    refine lv_iconst (v := (-1)) hx hb dX4_shelf_9 (by decide +kernel) ?_
    subst hQ
    exact W.iret (v := (-1)) hx hb hr (fun t ht _ => ⟨(-1), rfl, (by rw [X4_shelf_r, if_neg c_3]), ht⟩) (fun _ h9 => absurd h9 List.not_mem_nil) dX4_shelf_10
def X4_sender_r (z0 : Nat → Int32) (q p0 : Int32) : Int32 := if X4_isSender_p q then (if X4_in_p p0 0 4 then (if p0 = 0 then kz_cn (fun j => z0 (12 + 4 * j + 0) = q + 1) 48 else z0 (540 + 4 * q.toNatClampNeg + (p0 - 1).toNatClampNeg)) else (-2)) else (-1)
set_option maxHeartbeats 1000000 in
set_option maxRecDepth 100000 in
theorem c_X4_sender (l : Launch) (G : kz_G) (a : Nat → Nat) (M : kz_S) (q : Int32) (p0 : Int32) : kz_rd l G yX4_sender wsX4_sender 2 42 [.ref (a 0), .int q, .int p0] [mdW G a M] (X4_sender_r (M 0) q p0) := by
  refine Met.ofW (cc := cX4_sender) (maxL := 5) (ret := (some .int)) (by decide) rfl ?_
  intro p e s m args below meth c s₁ B hml hv
  obtain ⟨rfl, hP, hK⟩ := hv
  have hx := B.exec
  have hb := B.bytes
  have hr := B.returns
  have hts := atoms_spec (ws := wsX4_sender) B.pre
  have hown : s.vm.findClass RX4 = some m.cls := findClass_of_methodNamed B.named
  have hlocks := B.notSynchronized
  have hl := lv_entry ([.ref (a 0), .int q, .int p0]) (n := 5) (Nat.le_of_ble_eq_true rfl)
  rw [lg_entry_eq]
  generalize (lg_sl ([.ref (a 0), .int q, .int p0]) ++ List.replicate (5 - (lg_sl ([.ref (a 0), .int q, .int p0])).length) Slot.unset).toArray = ls at hl ⊢
  have hl : lv_has ls 5 [(0, .ref (a 0)), (1, .int q), (2, .int p0)] := hl
  refine kz_start (fun QQ hQ => ?_)
  refine lv_iload_n hx hb dX4_sender_0 rfl (lv_at hl 1 rfl) ?_
  refine kz_rdS (As := [.int q]) (rest := []) ⟨hx, hb, hml, hown, hts⟩ (c_X4_isSender l G q) (va_cwS 1 hts gX4_sender_X4_isSender rfl rfl rfl (by decide +kernel) ⟨Nat.le_of_ble_eq_true rfl, Nat.le_of_ble_eq_true rfl⟩) hK (hP.sub (cs := []) [] rfl) rfl hl.1 rfl (Nat.le_of_ble_eq_true rfl) dX4_sender_1 ⟨Nat.le_of_ble_eq_true rfl, Nat.le_of_ble_eq_true rfl⟩ ?_
  refine lv_topi (fun y_1 ey_2 => ?_)
  by_cases c_3 : X4_isSender_p q
  · rw [if_pos c_3] at ey_2
    subst ey_2
    refine lv_if_ne (tgt := 9) hx hb dX4_sender_4 (by decide) (fun _ => ?_) (fun c => absurd c (by decide))
    refine lv_iload_n hx hb dX4_sender_9 rfl (lv_at hl 2 rfl) ?_
    refine lv_iconst (v := 0) hx hb dX4_sender_10 (by decide +kernel) ?_
    refine lv_iconst (v := 4) hx hb dX4_sender_11 (by decide +kernel) ?_
    refine kz_rdS (As := [.int p0, .int 0, .int 4]) (rest := []) ⟨hx, hb, hml, hown, hts⟩ (c_X4_in l G p0 0 4) (va_cwS 3 hts gX4_sender_X4_in rfl rfl rfl (by decide +kernel) ⟨Nat.le_of_ble_eq_true rfl, Nat.le_of_ble_eq_true rfl⟩) hK (hP.sub (cs := []) [] rfl) rfl hl.1 rfl (Nat.le_of_ble_eq_true rfl) dX4_sender_12 ⟨Nat.le_of_ble_eq_true rfl, Nat.le_of_ble_eq_true rfl⟩ ?_
    refine lv_topi (fun y_4 ey_5 => ?_)
    by_cases c_6 : X4_in_p p0 0 4
    · rw [if_pos c_6] at ey_5
      subst ey_5
      refine lv_if_ne (tgt := 21) hx hb dX4_sender_15 (by decide) (fun _ => ?_) (fun c => absurd c (by decide))
      refine lv_iconst (v := 0) hx hb dX4_sender_21 (by decide +kernel) ?_
      refine lv_istore_n (lv' := [(3, .int 0), (0, .ref (a 0)), (1, .int q), (2, .int p0)]) hx hb dX4_sender_22 rfl hl (by decide) rfl (fun ls hl => ?_)
      refine lv_iconst (v := 0) hx hb dX4_sender_23 (by decide +kernel) ?_
      refine lv_istore (lv' := [(4, .int 0), (3, .int 0), (0, .ref (a 0)), (1, .int q), (2, .int p0)]) hx hb dX4_sender_24 hl (by decide) rfl (fun ls hl => ?_)
      have L26_7 : ∀ (n26 : Nat) (i : Nat) (x0 : Int32), (48 - i < n26) → (i ≤ 48) → (x0 = kz_cn (fun j => M 0 (12 + 4 * j + 0) = q + 1) i) → ∀ ls : Array Slot, lv_has ls 5 [(4, .int (nI i)), (3, .int x0), (0, .ref (a 0)), (1, .int q), (2, .int p0)] → W p l e (headSpec wsX4_sender (kz_rm 2 42)).room s m ([.ref (a 0), .int q, .int p0] : List Value).toArray below meth c s.heap [] 0 0 QQ (F0 m 26 ls []) := by
        intro n26
        induction n26 with
        | zero => intro i x0 h0; exact absurd h0 (Nat.not_lt_zero _)
        | succ n26 ih26_8 =>
          intro i x0 hmeas26 hi1 hx0 ls hl
          refine lv_iload hx hb dX4_sender_26 (lv_at hl 0 rfl) ?_
          refine lv_bipush (v := 48) hx hb dX4_sender_28 (by decide +kernel) ?_
          refine lv_icmp_ge (tgt := 60) hx hb dX4_sender_30 (by decide) (fun c_9 => ?_) (fun c_9 => ?_)
          · have hge := kz_le (a := 48) (b := i) c_9 (by omega) (by omega)
            have hi48 : i = 48 := by omega
            refine lv_iload_n hx hb dX4_sender_60 rfl (lv_at hl 4 rfl) ?_
            refine lv_if_ne (tgt := 68) hx hb dX4_sender_61 (by decide) (fun c_10 => ?_) (fun c_10 => ?_)
            · obtain ⟨hcv11, hcl11⟩ := kz_back (kz_wiIn 9 c_3 rfl (by decide)) (by decide)
              have hl : lv_has ls 5 [(4, .int (nI i)), (3, .int x0), (0, .ref (a 0)), (1, .int (nI q.toNatClampNeg)), (2, .int p0)] := by rw [← hcv11]; exact hl
              refine lv_aload_n hx hb dX4_sender_68 rfl (lv_at hl 2 rfl) ?_
              refine lv_iload_n hx hb dX4_sender_69 rfl (lv_at hl 3 rfl) ?_
              refine lv_iload_n hx hb dX4_sender_70 rfl (lv_at hl 4 rfl) ?_
              refine lv_iconst (v := 1) hx hb dX4_sender_71 (by decide +kernel) ?_
              refine lv_isub hx hb dX4_sender_72 ?_
              refine lv_topi (fun y_12 ey_13 => ?_)
              obtain rfl : y_12 = (nI (p0 - 1).toNatClampNeg) := by rw [ey_13]; exact (kz_back (kz_pm1 c_6 c_10) (by decide)).1
              refine kz_rdV (As := [.int (nI q.toNatClampNeg), .int (nI (p0 - 1).toNatClampNeg)]) (rest := []) (b := a 0) ⟨hx, hb, hml, hown, hts⟩ (c_X4_ofSender l G a M q.toNatClampNeg ((p0 - 1).toNatClampNeg) (by have := (kz_back (kz_pm1 c_6 c_10) (by decide)).2; omega)) (cwV 2 hts gX4_sender_X4_ofSender rfl rfl rfl (by decide +kernel) ⟨Nat.le_of_ble_eq_true rfl, Nat.le_of_ble_eq_true rfl⟩) hK hP (kz_recv hK hP (ci := 4) (q0 := 0) rfl rfl) rfl hl.1 rfl (Nat.le_of_ble_eq_true rfl) dX4_sender_73 ⟨Nat.le_of_ble_eq_true rfl, Nat.le_of_ble_eq_true rfl⟩ ?_
              subst hQ
              exact W.iret (v := ((M 0) (540 + 4 * q.toNatClampNeg + ((p0 - 1).toNatClampNeg)))) hx hb hr (fun t ht _ => ⟨((M 0) (540 + 4 * q.toNatClampNeg + ((p0 - 1).toNatClampNeg))), rfl, (by rw [X4_sender_r, if_pos c_3, if_pos c_6, if_neg c_10]), ht⟩) (fun _ h9 => absurd h9 List.not_mem_nil) dX4_sender_76
            · refine lv_iload_n hx hb dX4_sender_64 rfl (lv_at hl 1 rfl) ?_
              refine lv_goto (tgt := 76) hx hb dX4_sender_65 (by decide) ?_
              subst hQ
              exact W.iret (v := x0) hx hb hr (fun t ht _ => ⟨x0, rfl, (by rw [X4_sender_r, if_pos c_3, if_pos c_6, if_pos c_10]; rw [hi48] at hx0; exact hx0), ht⟩) (fun _ h9 => absurd h9 List.not_mem_nil) dX4_sender_76
          · have hlt := kz_gt (a := 48) (b := i) c_9 (by omega) (by omega)
            refine lv_iload_n hx hb dX4_sender_33 rfl (lv_at hl 1 rfl) ?_
            refine lv_aload_n hx hb dX4_sender_34 rfl (lv_at hl 2 rfl) ?_
            refine lv_iload hx hb dX4_sender_35 (lv_at hl 0 rfl) ?_
            refine lv_iconst (v := 0) hx hb dX4_sender_37 (by decide +kernel) ?_
            refine kz_rdV (As := [.int (nI i), .int 0]) (rest := [.int x0]) (b := a 0) ⟨hx, hb, hml, hown, hts⟩ (c_X4_at l G a M i 0 (by omega)) (cwV 2 hts gX4_sender_X4_at rfl rfl rfl (by decide +kernel) ⟨Nat.le_of_ble_eq_true rfl, Nat.le_of_ble_eq_true rfl⟩) hK hP (kz_recv hK hP (ci := 4) (q0 := 0) rfl rfl) rfl hl.1 rfl (Nat.le_of_ble_eq_true rfl) dX4_sender_38 ⟨Nat.le_of_ble_eq_true rfl, Nat.le_of_ble_eq_true rfl⟩ ?_
            refine lv_iload_n hx hb dX4_sender_41 rfl (lv_at hl 3 rfl) ?_
            refine lv_iconst (v := 1) hx hb dX4_sender_42 (by decide +kernel) ?_
            refine lv_iadd hx hb dX4_sender_43 ?_
            refine lv_icmp_ne (tgt := 51) hx hb dX4_sender_44 (by decide) (fun c_14 => ?_) (fun c_14 => ?_)
            · refine lv_iconst (v := 0) hx hb dX4_sender_51 (by decide +kernel) ?_
              refine lv_iadd hx hb dX4_sender_52 ?_
              refine lv_istore_n (lv' := [(3, .int (x0 + 0)), (4, .int (nI i)), (0, .ref (a 0)), (1, .int q), (2, .int p0)]) hx hb dX4_sender_53 rfl hl (by decide) rfl (fun ls hl => ?_)
              refine lv_iinc (v := (nI (i + 1))) (lv' := [(4, .int (nI (i + 1))), (3, .int (x0 + 0)), (0, .ref (a 0)), (1, .int q), (2, .int p0)]) hx hb dX4_sender_54 hl (k := 1) rfl (nI_1 _) (by decide) rfl (fun ls hl => ?_)
              refine lv_goto (tgt := 26) hx hb dX4_sender_57 (by decide) ?_
              exact ih26_8 (i + 1) (x0 + 0) (by omega) (by omega) (by rw [hx0]; exact (Int32.add_zero _).trans (kz_cn_f (P := fun j => M 0 (12 + 4 * j + 0) = q + 1) c_14)) ls (lv_sub hl [0, 1, 2, 3, 4] rfl)
            · refine lv_iconst (v := 1) hx hb dX4_sender_47 (by decide +kernel) ?_
              refine lv_goto (tgt := 52) hx hb dX4_sender_48 (by decide) ?_
              refine lv_iadd hx hb dX4_sender_52 ?_
              refine lv_istore_n (lv' := [(3, .int (x0 + 1)), (4, .int (nI i)), (0, .ref (a 0)), (1, .int q), (2, .int p0)]) hx hb dX4_sender_53 rfl hl (by decide) rfl (fun ls hl => ?_)
              refine lv_iinc (v := (nI (i + 1))) (lv' := [(4, .int (nI (i + 1))), (3, .int (x0 + 1)), (0, .ref (a 0)), (1, .int q), (2, .int p0)]) hx hb dX4_sender_54 hl (k := 1) rfl (nI_1 _) (by decide) rfl (fun ls hl => ?_)
              refine lv_goto (tgt := 26) hx hb dX4_sender_57 (by decide) ?_
              exact ih26_8 (i + 1) (x0 + 1) (by omega) (by omega) (by rw [hx0]; exact kz_cn_t (P := fun j => M 0 (12 + 4 * j + 0) = q + 1) c_14) ls (lv_sub hl [0, 1, 2, 3, 4] rfl)
      exact L26_7 _ 0 0 (Nat.lt_succ_self _) (by omega) rfl ls (lv_sub hl [0, 1, 2, 3, 4] rfl)
    · rw [if_neg c_6] at ey_5
      subst ey_5
      refine lv_if_ne (tgt := 21) hx hb dX4_sender_15 (by decide) (fun c => absurd c (by decide)) (fun _ => ?_)
      refine lv_bipush (v := (-2)) hx hb dX4_sender_18 (by decide +kernel) ?_
      subst hQ
      exact W.iret (v := (-2)) hx hb hr (fun t ht _ => ⟨(-2), rfl, (by rw [X4_sender_r, if_pos c_3, if_neg c_6]), ht⟩) (fun _ h9 => absurd h9 List.not_mem_nil) dX4_sender_20
  · rw [if_neg c_3] at ey_2
    subst ey_2
    refine lv_if_ne (tgt := 9) hx hb dX4_sender_4 (by decide) (fun c => absurd c (by decide)) (fun _ => ?_)
    refine lv_iconst (v := (-1)) hx hb dX4_sender_7 (by decide +kernel) ?_
    subst hQ
    exact W.iret (v := (-1)) hx hb hr (fun t ht _ => ⟨(-1), rfl, (by rw [X4_sender_r, if_neg c_3]), ht⟩) (fun _ h9 => absurd h9 List.not_mem_nil) dX4_sender_8
