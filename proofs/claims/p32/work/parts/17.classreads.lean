def X3_setting_r (V : kz_S) (S : kz_S) (p0 : Int32) : Int32 := if X3_isWithin_p p0 0 4 then ((S 0) p0.toNatClampNeg) else (-2)
set_option maxHeartbeats 4000000 in
set_option maxRecDepth 100000 in
theorem c_X3_setting (l : Launch) (G : kz_G) (x : Nat) (u1 : Nat) (u2 : Nat) (u3 : Nat) (u4 : Nat) (V : kz_S) (a : Nat → Nat) (S : kz_S) (p0 : Int32) : kz_rd l G yX3_setting wsX3_setting 1 22 [.ref x, .int p0] [xoW x (a 0) u1 u2 u3 u4 V, shW G a S] (X3_setting_r V S p0) := by
  refine Met.ofW (cc := cX3_setting) (maxL := 2) (ret := (some .int)) (by decide) rfl ?_
  intro p e s m args below meth c s₁ B hml hv
  obtain ⟨rfl, hP, hK⟩ := hv
  have hx := B.exec
  have hb := B.bytes
  have hr := B.returns
  have hts := atoms_spec (ws := wsX3_setting) B.pre
  have hown : s.vm.findClass RX3 = some m.cls := findClass_of_methodNamed B.named
  have hlocks := B.notSynchronized
  have hinX3 : ∀ w ∈ u_ws RX3 TX3 8, w ∈ wsX3_setting := by decide +kernel
  have hinX1 : ∀ w ∈ u_ws RX1 TX1 14, w ∈ wsX3_setting := by decide +kernel
  have hl := lv_entry ([.ref x, .int p0]) (n := 2) (Nat.le_of_ble_eq_true rfl)
  rw [lg_entry_eq]
  generalize (lg_sl ([.ref x, .int p0]) ++ List.replicate (2 - (lg_sl ([.ref x, .int p0])).length) Slot.unset).toArray = ls at hl ⊢
  have hl : lv_has ls 2 [(0, .ref x), (1, .int p0)] := hl
  refine kz_start (fun QQ hQ => ?_)
  refine lv_iload_n hx hb dX3_setting_0 rfl (lv_at hl 1 rfl) ?_
  refine lv_iconst (v := 0) hx hb dX3_setting_1 (by decide +kernel) ?_
  refine lv_iconst (v := 4) hx hb dX3_setting_2 (by decide +kernel) ?_
  refine kz_rdS (As := [.int p0, .int 0, .int 4]) (rest := []) ⟨hx, hb, hml, hown, hts⟩ (c_X3_isWithin l G p0 0 4) (va_cwS 3 hts gX3_setting_X3_isWithin rfl rfl rfl (by decide +kernel) ⟨Nat.le_of_ble_eq_true rfl, Nat.le_of_ble_eq_true rfl⟩) hK (hP.sub (cs := []) [] rfl) rfl hl.1 rfl (Nat.le_of_ble_eq_true rfl) dX3_setting_3 ⟨Nat.le_of_ble_eq_true rfl, Nat.le_of_ble_eq_true rfl⟩ ?_
  refine lv_topi (fun y_1 ey_2 => ?_)
  by_cases c_3 : X3_isWithin_p p0 0 4
  · rw [if_pos c_3] at ey_2
    subst ey_2
    refine lv_if_ne (tgt := 12) hx hb dX3_setting_6 (by decide) (fun _ => ?_) (fun c => absurd c (by decide))
    refine lv_aload_n hx hb dX3_setting_12 rfl (lv_at hl 0 rfl) ?_
    refine va_get (D := G.1) (ci := 3) (v := .ref (a 0)) (C := RX3) (T := TX3) (N := 8) hx hb hts hinX3 hown hK.1 hP 0 rfl rfl 0 (by decide) (hts (.fieldLink RX3 12 "ParcelShelves" "now" "LParcelShelves$Shop;") (by decide +kernel)) (fun _ h9 => h9) rfl dX3_setting_13 ?_
    refine va_get (D := G.1) (ci := 1) (v := .ref (a 1)) (C := RX1) (T := TX1) (N := 14) hx hb hts hinX1 hown hK.1 hP 1 rfl rfl 0 (by decide) (hts (.fieldLink RX3 63 "ParcelShelves$Shop" "settings" "[I") (by decide +kernel)) (fun _ h9 => h9) rfl dX3_setting_16 ?_
    refine lv_iload_n hx hb dX3_setting_19 rfl (lv_at hl 1 rfl) ?_
    refine va_iald (f := (S 0)) hx hb hK.1 hP 2 0 rfl rfl (kz_wiIn 4 c_3 rfl (by decide)) dX3_setting_20 ?_
    subst hQ
    exact W.iret (v := ((S 0) p0.toNatClampNeg)) hx hb hr (fun t ht _ => ⟨((S 0) p0.toNatClampNeg), rfl, (by rw [X3_setting_r, if_pos c_3]), ht⟩) (fun _ h9 => absurd h9 List.not_mem_nil) dX3_setting_21
  · rw [if_neg c_3] at ey_2
    subst ey_2
    refine lv_if_ne (tgt := 12) hx hb dX3_setting_6 (by decide) (fun c => absurd c (by decide)) (fun _ => ?_)
    refine lv_bipush (v := (-2)) hx hb dX3_setting_9 (by decide +kernel) ?_
    subst hQ
    exact W.iret (v := (-2)) hx hb hr (fun t ht _ => ⟨(-2), rfl, (by rw [X3_setting_r, if_neg c_3]), ht⟩) (fun _ h9 => absurd h9 List.not_mem_nil) dX3_setting_11
def X3_day_r (V : kz_S) (S : kz_S) : Int32 := (S 1 0)
set_option maxHeartbeats 4000000 in
set_option maxRecDepth 100000 in
theorem c_X3_day (l : Launch) (G : kz_G) (x : Nat) (u1 : Nat) (u2 : Nat) (u3 : Nat) (u4 : Nat) (V : kz_S) (a : Nat → Nat) (S : kz_S) : kz_rd l G yX3_day wsX3_day 0 0 [.ref x] [xoW x (a 0) u1 u2 u3 u4 V, shW G a S] (X3_day_r V S) := by
  refine Met.ofW (cc := cX3_day) (maxL := 1) (ret := (some .int)) (by decide) rfl ?_
  intro p e s m args below meth c s₁ B hml hv
  obtain ⟨rfl, hP, hK⟩ := hv
  have hx := B.exec
  have hb := B.bytes
  have hr := B.returns
  have hts := atoms_spec (ws := wsX3_day) B.pre
  have hown : s.vm.findClass RX3 = some m.cls := findClass_of_methodNamed B.named
  have hlocks := B.notSynchronized
  have hinX3 : ∀ w ∈ u_ws RX3 TX3 8, w ∈ wsX3_day := by decide +kernel
  have hinX1 : ∀ w ∈ u_ws RX1 TX1 14, w ∈ wsX3_day := by decide +kernel
  have hl := lv_entry ([.ref x]) (n := 1) (Nat.le_of_ble_eq_true rfl)
  rw [lg_entry_eq]
  generalize (lg_sl ([.ref x]) ++ List.replicate (1 - (lg_sl ([.ref x])).length) Slot.unset).toArray = ls at hl ⊢
  have hl : lv_has ls 1 [(0, .ref x)] := hl
  refine kz_start (fun QQ hQ => ?_)
  refine lv_aload_n hx hb dX3_day_0 rfl (lv_at hl 0 rfl) ?_
  refine va_get (D := G.1) (ci := 3) (v := .ref (a 0)) (C := RX3) (T := TX3) (N := 8) hx hb hts hinX3 hown hK.1 hP 0 rfl rfl 0 (by decide) (hts (.fieldLink RX3 12 "ParcelShelves" "now" "LParcelShelves$Shop;") (by decide +kernel)) (fun _ h9 => h9) rfl dX3_day_1 ?_
  refine va_get (D := G.1) (ci := 1) (v := .int (S 1 0)) (C := RX1) (T := TX1) (N := 14) hx hb hts hinX1 hown hK.1 hP 1 rfl rfl 1 (by decide) (hts (.fieldLink RX3 85 "ParcelShelves$Shop" "today" "I") (by decide +kernel)) (fun _ h9 => h9) rfl dX3_day_4 ?_
  subst hQ
  exact W.iret (v := (S 1 0)) hx hb hr (fun t ht _ => ⟨(S 1 0), rfl, rfl, ht⟩) (fun _ h9 => absurd h9 List.not_mem_nil) dX3_day_7
def X3_parcel_r (V : kz_S) (S : kz_S) (code : Int32) (p0 : Int32) : Int32 := if (X1_placeWith_r S code) = (-1) then (-1) else if p0 = 0 then ((S 6) ((X1_placeWith_r S code).toNatClampNeg)) else if p0 = 1 then ((S 7) ((X1_placeWith_r S code).toNatClampNeg)) else if p0 = 2 then ((S 8) ((X1_placeWith_r S code).toNatClampNeg)) else if p0 = 3 then ((nI (X1_placeWith_r S code).toNatClampNeg) / 8) else if p0 = 4 then (kz_rem (nI (X1_placeWith_r S code).toNatClampNeg) 8) else if p0 = 5 then (X1_feeAfter_r S ((X1_placeWith_r S code).toNatClampNeg) 0) else (-2)
set_option maxHeartbeats 4000000 in
set_option maxRecDepth 100000 in
theorem c_X3_parcel (l : Launch) (G : kz_G) (x : Nat) (u1 : Nat) (u2 : Nat) (u3 : Nat) (u4 : Nat) (V : kz_S) (a : Nat → Nat) (S : kz_S) (code : Int32) (p0 : Int32) : kz_rd l G yX3_parcel wsX3_parcel 4 89 [.ref x, .int code, .int p0] [xoW x (a 0) u1 u2 u3 u4 V, shW G a S] (X3_parcel_r V S code p0) := by
  refine Met.ofW (cc := cX3_parcel) (maxL := 4) (ret := (some .int)) (by decide) rfl ?_
  intro p e s m args below meth c s₁ B hml hv
  obtain ⟨rfl, hP, hK⟩ := hv
  have hx := B.exec
  have hb := B.bytes
  have hr := B.returns
  have hts := atoms_spec (ws := wsX3_parcel) B.pre
  have hown : s.vm.findClass RX3 = some m.cls := findClass_of_methodNamed B.named
  have hlocks := B.notSynchronized
  have hinX3 : ∀ w ∈ u_ws RX3 TX3 8, w ∈ wsX3_parcel := by decide +kernel
  have hinX1 : ∀ w ∈ u_ws RX1 TX1 14, w ∈ wsX3_parcel := by decide +kernel
  have hl := lv_entry ([.ref x, .int code, .int p0]) (n := 4) (Nat.le_of_ble_eq_true rfl)
  rw [lg_entry_eq]
  generalize (lg_sl ([.ref x, .int code, .int p0]) ++ List.replicate (4 - (lg_sl ([.ref x, .int code, .int p0])).length) Slot.unset).toArray = ls at hl ⊢
  have hl : lv_has ls 4 [(0, .ref x), (1, .int code), (2, .int p0)] := hl
  refine kz_start (fun QQ hQ => ?_)
  refine lv_aload_n hx hb dX3_parcel_0 rfl (lv_at hl 0 rfl) ?_
  refine va_get (D := G.1) (ci := 3) (v := .ref (a 0)) (C := RX3) (T := TX3) (N := 8) hx hb hts hinX3 hown hK.1 hP 0 rfl rfl 0 (by decide) (hts (.fieldLink RX3 12 "ParcelShelves" "now" "LParcelShelves$Shop;") (by decide +kernel)) (fun _ h9 => h9) rfl dX3_parcel_1 ?_
  refine lv_iload_n hx hb dX3_parcel_4 rfl (lv_at hl 1 rfl) ?_
  refine kz_rdV (As := [.int code]) (rest := []) (b := a 0) ⟨hx, hb, hml, hown, hts⟩ (c_X1_placeWith l G a S code) (cwV 1 hts gX3_parcel_X1_placeWith rfl rfl rfl (by decide +kernel) ⟨Nat.le_of_ble_eq_true rfl, Nat.le_of_ble_eq_true rfl⟩) hK (hP.sub (cs := [shW G a S]) [1] rfl) (kz_recv hK hP (ci := 1) (q0 := 1) rfl rfl) rfl hl.1 rfl (Nat.le_of_ble_eq_true rfl) dX3_parcel_5 ⟨Nat.le_of_ble_eq_true rfl, Nat.le_of_ble_eq_true rfl⟩ ?_
  refine lv_istore_n (lv' := [(3, .int (X1_placeWith_r S code)), (0, .ref x), (1, .int code), (2, .int p0)]) hx hb dX3_parcel_8 rfl hl (by decide) rfl (fun ls hl => ?_)
  refine lv_iload_n hx hb dX3_parcel_9 rfl (lv_at hl 0 rfl) ?_
  refine lv_iconst (v := (-1)) hx hb dX3_parcel_10 (by decide +kernel) ?_
  refine lv_icmp_ne (tgt := 16) hx hb dX3_parcel_11 (by decide) (fun c_1 => ?_) (fun c_1 => ?_)
  · obtain ⟨hcv2, hcl2⟩ := kz_back (kz_pwIn c_1) (by decide)
    have hl : lv_has ls 4 [(3, .int (nI (X1_placeWith_r S code).toNatClampNeg)), (0, .ref x), (1, .int code), (2, .int p0)] := by rw [← hcv2]; exact hl
    refine lv_iload_n hx hb dX3_parcel_16 rfl (lv_at hl 3 rfl) ?_
    refine lv_topi (fun y_3 ey_4 => ?_)
    by_cases c_5 : y_3 = 0
    · have c_6 : p0 = 0 := by rw [← ey_4]; exact c_5
      subst c_5
      refine lv_tableIn (off := 39) (tgt := 56) hx hb dX3_parcel_17 (by decide +kernel) (by decide +kernel) (by decide +kernel) (by decide) ?_
      refine lv_aload_n hx hb dX3_parcel_56 rfl (lv_at hl 1 rfl) ?_
      refine va_get (D := G.1) (ci := 3) (v := .ref (a 0)) (C := RX3) (T := TX3) (N := 8) hx hb hts hinX3 hown hK.1 hP 0 rfl rfl 0 (by decide) (hts (.fieldLink RX3 12 "ParcelShelves" "now" "LParcelShelves$Shop;") (by decide +kernel)) (fun _ h9 => h9) rfl dX3_parcel_57 ?_
      refine va_get (D := G.1) (ci := 1) (v := .ref (a 3)) (C := RX1) (T := TX1) (N := 14) hx hb hts hinX1 hown hK.1 hP 1 rfl rfl 6 (by decide) (hts (.fieldLink RX3 91 "ParcelShelves$Shop" "senders" "[I") (by decide +kernel)) (fun _ h9 => h9) rfl dX3_parcel_60 ?_
      refine lv_iload_n hx hb dX3_parcel_63 rfl (lv_at hl 0 rfl) ?_
      refine va_iald (f := (S 6)) hx hb hK.1 hP 4 0 rfl rfl (vp_in_nI (n := (X1_placeWith_r S code).toNatClampNeg) (N := 48) (by omega) (by decide)) dX3_parcel_64 ?_
      refine lv_topi (fun y_7 ey_8 => ?_)
      obtain rfl : y_7 = ((S 6) ((X1_placeWith_r S code).toNatClampNeg)) := by rw [ey_8, kz_nI_clamp (n := (X1_placeWith_r S code).toNatClampNeg) (by omega)]
      subst hQ
      exact W.iret (v := ((S 6) ((X1_placeWith_r S code).toNatClampNeg))) hx hb hr (fun t ht _ => ⟨((S 6) ((X1_placeWith_r S code).toNatClampNeg)), rfl, (by rw [X3_parcel_r, if_neg c_1, if_pos c_6]), ht⟩) (fun _ h9 => absurd h9 List.not_mem_nil) dX3_parcel_65
    · have c_9 : ¬ p0 = 0 := by rw [← ey_4]; exact c_5
      by_cases c_10 : y_3 = 1
      · have c_11 : p0 = 1 := by rw [← ey_4]; exact c_10
        subst c_10
        refine lv_tableIn (off := 49) (tgt := 66) hx hb dX3_parcel_17 (by decide +kernel) (by decide +kernel) (by decide +kernel) (by decide) ?_
        refine lv_aload_n hx hb dX3_parcel_66 rfl (lv_at hl 1 rfl) ?_
        refine va_get (D := G.1) (ci := 3) (v := .ref (a 0)) (C := RX3) (T := TX3) (N := 8) hx hb hts hinX3 hown hK.1 hP 0 rfl rfl 0 (by decide) (hts (.fieldLink RX3 12 "ParcelShelves" "now" "LParcelShelves$Shop;") (by decide +kernel)) (fun _ h9 => h9) rfl dX3_parcel_67 ?_
        refine va_get (D := G.1) (ci := 1) (v := .ref (a 4)) (C := RX1) (T := TX1) (N := 14) hx hb hts hinX1 hown hK.1 hP 1 rfl rfl 7 (by decide) (hts (.fieldLink RX3 94 "ParcelShelves$Shop" "sizes" "[I") (by decide +kernel)) (fun _ h9 => h9) rfl dX3_parcel_70 ?_
        refine lv_iload_n hx hb dX3_parcel_73 rfl (lv_at hl 0 rfl) ?_
        refine va_iald (f := (S 7)) hx hb hK.1 hP 5 0 rfl rfl (vp_in_nI (n := (X1_placeWith_r S code).toNatClampNeg) (N := 48) (by omega) (by decide)) dX3_parcel_74 ?_
        refine lv_topi (fun y_12 ey_13 => ?_)
        obtain rfl : y_12 = ((S 7) ((X1_placeWith_r S code).toNatClampNeg)) := by rw [ey_13, kz_nI_clamp (n := (X1_placeWith_r S code).toNatClampNeg) (by omega)]
        subst hQ
        exact W.iret (v := ((S 7) ((X1_placeWith_r S code).toNatClampNeg))) hx hb hr (fun t ht _ => ⟨((S 7) ((X1_placeWith_r S code).toNatClampNeg)), rfl, (by rw [X3_parcel_r, if_neg c_1, if_neg c_9, if_pos c_11]), ht⟩) (fun _ h9 => absurd h9 List.not_mem_nil) dX3_parcel_75
      · have c_14 : ¬ p0 = 1 := by rw [← ey_4]; exact c_10
        by_cases c_15 : y_3 = 2
        · have c_16 : p0 = 2 := by rw [← ey_4]; exact c_15
          subst c_15
          refine lv_tableIn (off := 59) (tgt := 76) hx hb dX3_parcel_17 (by decide +kernel) (by decide +kernel) (by decide +kernel) (by decide) ?_
          refine lv_aload_n hx hb dX3_parcel_76 rfl (lv_at hl 1 rfl) ?_
          refine va_get (D := G.1) (ci := 3) (v := .ref (a 0)) (C := RX3) (T := TX3) (N := 8) hx hb hts hinX3 hown hK.1 hP 0 rfl rfl 0 (by decide) (hts (.fieldLink RX3 12 "ParcelShelves" "now" "LParcelShelves$Shop;") (by decide +kernel)) (fun _ h9 => h9) rfl dX3_parcel_77 ?_
          refine va_get (D := G.1) (ci := 1) (v := .ref (a 5)) (C := RX1) (T := TX1) (N := 14) hx hb hts hinX1 hown hK.1 hP 1 rfl rfl 8 (by decide) (hts (.fieldLink RX3 97 "ParcelShelves$Shop" "cameOn" "[I") (by decide +kernel)) (fun _ h9 => h9) rfl dX3_parcel_80 ?_
          refine lv_iload_n hx hb dX3_parcel_83 rfl (lv_at hl 0 rfl) ?_
          refine va_iald (f := (S 8)) hx hb hK.1 hP 6 0 rfl rfl (vp_in_nI (n := (X1_placeWith_r S code).toNatClampNeg) (N := 48) (by omega) (by decide)) dX3_parcel_84 ?_
          refine lv_topi (fun y_17 ey_18 => ?_)
          obtain rfl : y_17 = ((S 8) ((X1_placeWith_r S code).toNatClampNeg)) := by rw [ey_18, kz_nI_clamp (n := (X1_placeWith_r S code).toNatClampNeg) (by omega)]
          subst hQ
          exact W.iret (v := ((S 8) ((X1_placeWith_r S code).toNatClampNeg))) hx hb hr (fun t ht _ => ⟨((S 8) ((X1_placeWith_r S code).toNatClampNeg)), rfl, (by rw [X3_parcel_r, if_neg c_1, if_neg c_9, if_neg c_14, if_pos c_16]), ht⟩) (fun _ h9 => absurd h9 List.not_mem_nil) dX3_parcel_85
        · have c_19 : ¬ p0 = 2 := by rw [← ey_4]; exact c_15
          by_cases c_20 : y_3 = 3
          · have c_21 : p0 = 3 := by rw [← ey_4]; exact c_20
            subst c_20
            refine lv_tableIn (off := 69) (tgt := 86) hx hb dX3_parcel_17 (by decide +kernel) (by decide +kernel) (by decide +kernel) (by decide) ?_
            refine lv_iload_n hx hb dX3_parcel_86 rfl (lv_at hl 0 rfl) ?_
            refine lv_bipush (v := 8) hx hb dX3_parcel_87 (by decide +kernel) ?_
            refine lv_idiv hx hb dX3_parcel_89 (by decide +kernel) ?_
            subst hQ
            exact W.iret (v := ((nI (X1_placeWith_r S code).toNatClampNeg) / 8)) hx hb hr (fun t ht _ => ⟨((nI (X1_placeWith_r S code).toNatClampNeg) / 8), rfl, (by rw [X3_parcel_r, if_neg c_1, if_neg c_9, if_neg c_14, if_neg c_19, if_pos c_21]), ht⟩) (fun _ h9 => absurd h9 List.not_mem_nil) dX3_parcel_90
          · have c_22 : ¬ p0 = 3 := by rw [← ey_4]; exact c_20
            by_cases c_23 : y_3 = 4
            · have c_24 : p0 = 4 := by rw [← ey_4]; exact c_23
              subst c_23
              refine lv_tableIn (off := 74) (tgt := 91) hx hb dX3_parcel_17 (by decide +kernel) (by decide +kernel) (by decide +kernel) (by decide) ?_
              refine lv_iload_n hx hb dX3_parcel_91 rfl (lv_at hl 0 rfl) ?_
              refine lv_bipush (v := 8) hx hb dX3_parcel_92 (by decide +kernel) ?_
              refine lv_irem hx hb dX3_parcel_94 (by decide +kernel) ?_
              refine kz_topR ?_
              subst hQ
              exact W.iret (v := (kz_rem (nI (X1_placeWith_r S code).toNatClampNeg) 8)) hx hb hr (fun t ht _ => ⟨(kz_rem (nI (X1_placeWith_r S code).toNatClampNeg) 8), rfl, (by rw [X3_parcel_r, if_neg c_1, if_neg c_9, if_neg c_14, if_neg c_19, if_neg c_22, if_pos c_24]), ht⟩) (fun _ h9 => absurd h9 List.not_mem_nil) dX3_parcel_95
            · have c_25 : ¬ p0 = 4 := by rw [← ey_4]; exact c_23
              by_cases c_26 : y_3 = 5
              · have c_27 : p0 = 5 := by rw [← ey_4]; exact c_26
                subst c_26
                refine lv_tableIn (off := 79) (tgt := 96) hx hb dX3_parcel_17 (by decide +kernel) (by decide +kernel) (by decide +kernel) (by decide) ?_
                refine lv_aload_n hx hb dX3_parcel_96 rfl (lv_at hl 1 rfl) ?_
                refine va_get (D := G.1) (ci := 3) (v := .ref (a 0)) (C := RX3) (T := TX3) (N := 8) hx hb hts hinX3 hown hK.1 hP 0 rfl rfl 0 (by decide) (hts (.fieldLink RX3 12 "ParcelShelves" "now" "LParcelShelves$Shop;") (by decide +kernel)) (fun _ h9 => h9) rfl dX3_parcel_97 ?_
                refine lv_iload_n hx hb dX3_parcel_100 rfl (lv_at hl 0 rfl) ?_
                refine lv_iconst (v := 0) hx hb dX3_parcel_101 (by decide +kernel) ?_
                refine kz_rdV (As := [.int (nI (X1_placeWith_r S code).toNatClampNeg), .int 0]) (rest := []) (b := a 0) ⟨hx, hb, hml, hown, hts⟩ (c_X1_feeAfter l G a S ((X1_placeWith_r S code).toNatClampNeg) 0 (by omega)) (cwV 2 hts gX3_parcel_X1_feeAfter rfl rfl rfl (by decide +kernel) ⟨Nat.le_of_ble_eq_true rfl, Nat.le_of_ble_eq_true rfl⟩) hK (hP.sub (cs := [shW G a S]) [1] rfl) (kz_recv hK hP (ci := 1) (q0 := 1) rfl rfl) rfl hl.1 rfl (Nat.le_of_ble_eq_true rfl) dX3_parcel_102 ⟨Nat.le_of_ble_eq_true rfl, Nat.le_of_ble_eq_true rfl⟩ ?_
                subst hQ
                exact W.iret (v := (X1_feeAfter_r S ((X1_placeWith_r S code).toNatClampNeg) 0)) hx hb hr (fun t ht _ => ⟨(X1_feeAfter_r S ((X1_placeWith_r S code).toNatClampNeg) 0), rfl, (by rw [X3_parcel_r, if_neg c_1, if_neg c_9, if_neg c_14, if_neg c_19, if_neg c_22, if_neg c_25, if_pos c_27]), ht⟩) (fun _ h9 => absurd h9 List.not_mem_nil) dX3_parcel_105
              · have c_28 : ¬ p0 = 5 := by rw [← ey_4]; exact c_26
                refine lv_tableOut (tgt := 106) hx hb dX3_parcel_17 (by have h0 := lv_neT c_5 (by decide +kernel : (0 : Int32).toInt = 0); have h1 := lv_neT c_10 (by decide +kernel : (1 : Int32).toInt = 1); have h2 := lv_neT c_15 (by decide +kernel : (2 : Int32).toInt = 2); have h3 := lv_neT c_20 (by decide +kernel : (3 : Int32).toInt = 3); have h4 := lv_neT c_23 (by decide +kernel : (4 : Int32).toInt = 4); have h5 := lv_neT c_26 (by decide +kernel : (5 : Int32).toInt = 5); omega) (by decide) ?_
                refine lv_bipush (v := (-2)) hx hb dX3_parcel_106 (by decide +kernel) ?_
                subst hQ
                exact W.iret (v := (-2)) hx hb hr (fun t ht _ => ⟨(-2), rfl, (by rw [X3_parcel_r, if_neg c_1, if_neg c_9, if_neg c_14, if_neg c_19, if_neg c_22, if_neg c_25, if_neg c_28]), ht⟩) (fun _ h9 => absurd h9 List.not_mem_nil) dX3_parcel_108
  · refine lv_iconst (v := (-1)) hx hb dX3_parcel_14 (by decide +kernel) ?_
    subst hQ
    exact W.iret (v := (-1)) hx hb hr (fun t ht _ => ⟨(-1), rfl, (by rw [X3_parcel_r, if_pos c_1]), ht⟩) (fun _ h9 => absurd h9 List.not_mem_nil) dX3_parcel_15
def X3_codeAt_r (V : kz_S) (S : kz_S) (k : Int32) (p0 : Int32) : Int32 := if X3_isPlace_p k p0 then (if X1_isFree_p S (8 * k.toNatClampNeg + p0.toNatClampNeg) then (-6) else (X1_codeOn_r S (8 * k.toNatClampNeg + p0.toNatClampNeg))) else (-1)
set_option maxHeartbeats 4000000 in
set_option maxRecDepth 100000 in
theorem c_X3_codeAt (l : Launch) (G : kz_G) (x : Nat) (u1 : Nat) (u2 : Nat) (u3 : Nat) (u4 : Nat) (V : kz_S) (a : Nat → Nat) (S : kz_S) (k : Int32) (p0 : Int32) : kz_rd l G yX3_codeAt wsX3_codeAt 3 66 [.ref x, .int k, .int p0] [xoW x (a 0) u1 u2 u3 u4 V, shW G a S] (X3_codeAt_r V S k p0) := by
  refine Met.ofW (cc := cX3_codeAt) (maxL := 4) (ret := (some .int)) (by decide) rfl ?_
  intro p e s m args below meth c s₁ B hml hv
  obtain ⟨rfl, hP, hK⟩ := hv
  have hx := B.exec
  have hb := B.bytes
  have hr := B.returns
  have hts := atoms_spec (ws := wsX3_codeAt) B.pre
  have hown : s.vm.findClass RX3 = some m.cls := findClass_of_methodNamed B.named
  have hlocks := B.notSynchronized
  have hinX3 : ∀ w ∈ u_ws RX3 TX3 8, w ∈ wsX3_codeAt := by decide +kernel
  have hl := lv_entry ([.ref x, .int k, .int p0]) (n := 4) (Nat.le_of_ble_eq_true rfl)
  rw [lg_entry_eq]
  generalize (lg_sl ([.ref x, .int k, .int p0]) ++ List.replicate (4 - (lg_sl ([.ref x, .int k, .int p0])).length) Slot.unset).toArray = ls at hl ⊢
  have hl : lv_has ls 4 [(0, .ref x), (1, .int k), (2, .int p0)] := hl
  refine kz_start (fun QQ hQ => ?_)
  refine lv_iload_n hx hb dX3_codeAt_0 rfl (lv_at hl 1 rfl) ?_
  refine lv_iload_n hx hb dX3_codeAt_1 rfl (lv_at hl 2 rfl) ?_
  refine kz_rdS (As := [.int k, .int p0]) (rest := []) ⟨hx, hb, hml, hown, hts⟩ (c_X3_isPlace l G k p0) (va_cwS 2 hts gX3_codeAt_X3_isPlace rfl rfl rfl (by decide +kernel) ⟨Nat.le_of_ble_eq_true rfl, Nat.le_of_ble_eq_true rfl⟩) hK (hP.sub (cs := []) [] rfl) rfl hl.1 rfl (Nat.le_of_ble_eq_true rfl) dX3_codeAt_2 ⟨Nat.le_of_ble_eq_true rfl, Nat.le_of_ble_eq_true rfl⟩ ?_
  refine lv_topi (fun y_1 ey_2 => ?_)
  by_cases c_3 : X3_isPlace_p k p0
  · rw [if_pos c_3] at ey_2
    subst ey_2
    obtain ⟨hcv4, hcl4⟩ := kz_back (kz_wiIn 5 c_3.1 rfl (by decide)) (by decide)
    have hl : lv_has ls 4 [(0, .ref x), (1, .int (nI k.toNatClampNeg)), (2, .int p0)] := by rw [← hcv4]; exact hl
    obtain ⟨hcv5, hcl5⟩ := kz_back (kz_wiIn 7 c_3.2 rfl (by decide)) (by decide)
    have hl : lv_has ls 4 [(0, .ref x), (1, .int (nI k.toNatClampNeg)), (2, .int (nI p0.toNatClampNeg))] := by rw [← hcv5]; exact hl
    refine lv_if_ne (tgt := 10) hx hb dX3_codeAt_5 (by decide) (fun _ => ?_) (fun c => absurd c (by decide))
    refine lv_iload_n hx hb dX3_codeAt_10 rfl (lv_at hl 1 rfl) ?_
    refine lv_bipush (v := 8) hx hb dX3_codeAt_11 (by decide +kernel) ?_
    refine lv_imul hx hb dX3_codeAt_13 ?_
    refine lv_topi (fun y_6 ey_7 => ?_)
    obtain rfl : y_6 = (nI (8 * k.toNatClampNeg)) := by rw [ey_7]; exact kz_e2 _
    refine lv_iload_n hx hb dX3_codeAt_14 rfl (lv_at hl 2 rfl) ?_
    refine lv_iadd hx hb dX3_codeAt_15 ?_
    refine lv_topi (fun y_8 ey_9 => ?_)
    obtain rfl : y_8 = (nI (8 * k.toNatClampNeg + p0.toNatClampNeg)) := by rw [ey_9]; exact nI_add _ _
    refine lv_istore_n (lv' := [(3, .int (nI (8 * k.toNatClampNeg + p0.toNatClampNeg))), (0, .ref x), (1, .int (nI k.toNatClampNeg)), (2, .int (nI p0.toNatClampNeg))]) hx hb dX3_codeAt_16 rfl hl (by decide) rfl (fun ls hl => ?_)
    refine lv_aload_n hx hb dX3_codeAt_17 rfl (lv_at hl 1 rfl) ?_
    refine va_get (D := G.1) (ci := 3) (v := .ref (a 0)) (C := RX3) (T := TX3) (N := 8) hx hb hts hinX3 hown hK.1 hP 0 rfl rfl 0 (by decide) (hts (.fieldLink RX3 12 "ParcelShelves" "now" "LParcelShelves$Shop;") (by decide +kernel)) (fun _ h9 => h9) rfl dX3_codeAt_18 ?_
    refine lv_iload_n hx hb dX3_codeAt_21 rfl (lv_at hl 0 rfl) ?_
    refine kz_rdV (As := [.int (nI (8 * k.toNatClampNeg + p0.toNatClampNeg))]) (rest := []) (b := a 0) ⟨hx, hb, hml, hown, hts⟩ (c_X1_isFree l G a S (8 * k.toNatClampNeg + p0.toNatClampNeg) (by omega)) (cwV 1 hts gX3_codeAt_X1_isFree rfl rfl rfl (by decide +kernel) ⟨Nat.le_of_ble_eq_true rfl, Nat.le_of_ble_eq_true rfl⟩) hK (hP.sub (cs := [shW G a S]) [1] rfl) (kz_recv hK hP (ci := 1) (q0 := 1) rfl rfl) rfl hl.1 rfl (Nat.le_of_ble_eq_true rfl) dX3_codeAt_22 ⟨Nat.le_of_ble_eq_true rfl, Nat.le_of_ble_eq_true rfl⟩ ?_
    refine lv_topi (fun y_10 ey_11 => ?_)
    by_cases c_12 : X1_isFree_p S (8 * k.toNatClampNeg + p0.toNatClampNeg)
    · rw [if_pos c_12] at ey_11
      subst ey_11
      refine lv_if_eq (tgt := 33) hx hb dX3_codeAt_25 (by decide) (fun c => absurd c (by decide)) (fun _ => ?_)
      refine lv_bipush (v := (-6)) hx hb dX3_codeAt_28 (by decide +kernel) ?_
      refine lv_goto (tgt := 41) hx hb dX3_codeAt_30 (by decide) ?_
      subst hQ
      exact W.iret (v := (-6)) hx hb hr (fun t ht _ => ⟨(-6), rfl, (by rw [X3_codeAt_r, if_pos c_3, if_pos c_12]), ht⟩) (fun _ h9 => absurd h9 List.not_mem_nil) dX3_codeAt_41
    · rw [if_neg c_12] at ey_11
      subst ey_11
      refine lv_if_eq (tgt := 33) hx hb dX3_codeAt_25 (by decide) (fun _ => ?_) (fun c => absurd c (by decide))
      refine lv_aload_n hx hb dX3_codeAt_33 rfl (lv_at hl 1 rfl) ?_
      refine va_get (D := G.1) (ci := 3) (v := .ref (a 0)) (C := RX3) (T := TX3) (N := 8) hx hb hts hinX3 hown hK.1 hP 0 rfl rfl 0 (by decide) (hts (.fieldLink RX3 12 "ParcelShelves" "now" "LParcelShelves$Shop;") (by decide +kernel)) (fun _ h9 => h9) rfl dX3_codeAt_34 ?_
      refine lv_iload_n hx hb dX3_codeAt_37 rfl (lv_at hl 0 rfl) ?_
      refine kz_rdV (As := [.int (nI (8 * k.toNatClampNeg + p0.toNatClampNeg))]) (rest := []) (b := a 0) ⟨hx, hb, hml, hown, hts⟩ (c_X1_codeOn l G a S (8 * k.toNatClampNeg + p0.toNatClampNeg) (by omega)) (cwV 1 hts gX3_codeAt_X1_codeOn rfl rfl rfl (by decide +kernel) ⟨Nat.le_of_ble_eq_true rfl, Nat.le_of_ble_eq_true rfl⟩) hK (hP.sub (cs := [shW G a S]) [1] rfl) (kz_recv hK hP (ci := 1) (q0 := 1) rfl rfl) rfl hl.1 rfl (Nat.le_of_ble_eq_true rfl) dX3_codeAt_38 ⟨Nat.le_of_ble_eq_true rfl, Nat.le_of_ble_eq_true rfl⟩ ?_
      subst hQ
      exact W.iret (v := (X1_codeOn_r S (8 * k.toNatClampNeg + p0.toNatClampNeg))) hx hb hr (fun t ht _ => ⟨(X1_codeOn_r S (8 * k.toNatClampNeg + p0.toNatClampNeg)), rfl, (by rw [X3_codeAt_r, if_pos c_3, if_neg c_12]), ht⟩) (fun _ h9 => absurd h9 List.not_mem_nil) dX3_codeAt_41
  · rw [if_neg c_3] at ey_2
    subst ey_2
    refine lv_if_ne (tgt := 10) hx hb dX3_codeAt_5 (by decide) (fun c => absurd c (by decide)) (fun _ => ?_)
    refine lv_iconst (v := (-1)) hx hb dX3_codeAt_8 (by decide +kernel) ?_
    subst hQ
    exact W.iret (v := (-1)) hx hb hr (fun t ht _ => ⟨(-1), rfl, (by rw [X3_codeAt_r, if_neg c_3]), ht⟩) (fun _ h9 => absurd h9 List.not_mem_nil) dX3_codeAt_9
def X3_shelf_r (V : kz_S) (S : kz_S) (k : Int32) (p0 : Int32) : Int32 := if X3_isWithin_p k 0 5 then (if p0 = 0 then (X3_sizeOfShelf_r (nI k.toNatClampNeg)) else if p0 = 1 then (X1_parcelsOnShelf_r S k.toNatClampNeg) else if p0 = 2 then (X1_restingOnShelf_r S k.toNatClampNeg) else (-2)) else (-1)
set_option maxHeartbeats 4000000 in
set_option maxRecDepth 100000 in
theorem c_X3_shelf (l : Launch) (G : kz_G) (x : Nat) (u1 : Nat) (u2 : Nat) (u3 : Nat) (u4 : Nat) (V : kz_S) (a : Nat → Nat) (S : kz_S) (k : Int32) (p0 : Int32) (ht : ∃ d, d < 2 ^ 30 ∧ S 1 0 = nI d) : kz_rd l G yX3_shelf wsX3_shelf 3 66 [.ref x, .int k, .int p0] [xoW x (a 0) u1 u2 u3 u4 V, shW G a S] (X3_shelf_r V S k p0) := by
  refine Met.ofW (cc := cX3_shelf) (maxL := 3) (ret := (some .int)) (by decide) rfl ?_
  intro p e s m args below meth c s₁ B hml hv
  obtain ⟨rfl, hP, hK⟩ := hv
  have hx := B.exec
  have hb := B.bytes
  have hr := B.returns
  have hts := atoms_spec (ws := wsX3_shelf) B.pre
  have hown : s.vm.findClass RX3 = some m.cls := findClass_of_methodNamed B.named
  have hlocks := B.notSynchronized
  have hinX3 : ∀ w ∈ u_ws RX3 TX3 8, w ∈ wsX3_shelf := by decide +kernel
  have hl := lv_entry ([.ref x, .int k, .int p0]) (n := 3) (Nat.le_of_ble_eq_true rfl)
  rw [lg_entry_eq]
  generalize (lg_sl ([.ref x, .int k, .int p0]) ++ List.replicate (3 - (lg_sl ([.ref x, .int k, .int p0])).length) Slot.unset).toArray = ls at hl ⊢
  have hl : lv_has ls 3 [(0, .ref x), (1, .int k), (2, .int p0)] := hl
  refine kz_start (fun QQ hQ => ?_)
  refine lv_iload_n hx hb dX3_shelf_0 rfl (lv_at hl 1 rfl) ?_
  refine lv_iconst (v := 0) hx hb dX3_shelf_1 (by decide +kernel) ?_
  refine lv_iconst (v := 5) hx hb dX3_shelf_2 (by decide +kernel) ?_
  refine kz_rdS (As := [.int k, .int 0, .int 5]) (rest := []) ⟨hx, hb, hml, hown, hts⟩ (c_X3_isWithin l G k 0 5) (va_cwS 3 hts gX3_shelf_X3_isWithin rfl rfl rfl (by decide +kernel) ⟨Nat.le_of_ble_eq_true rfl, Nat.le_of_ble_eq_true rfl⟩) hK (hP.sub (cs := []) [] rfl) rfl hl.1 rfl (Nat.le_of_ble_eq_true rfl) dX3_shelf_3 ⟨Nat.le_of_ble_eq_true rfl, Nat.le_of_ble_eq_true rfl⟩ ?_
  refine lv_topi (fun y_1 ey_2 => ?_)
  by_cases c_3 : X3_isWithin_p k 0 5
  · rw [if_pos c_3] at ey_2
    subst ey_2
    obtain ⟨hcv4, hcl4⟩ := kz_back (kz_wiIn 5 c_3 rfl (by decide)) (by decide)
    have hl : lv_has ls 3 [(0, .ref x), (1, .int (nI k.toNatClampNeg)), (2, .int p0)] := by rw [← hcv4]; exact hl
    refine lv_if_ne (tgt := 11) hx hb dX3_shelf_6 (by decide) (fun _ => ?_) (fun c => absurd c (by decide))
    refine lv_iload_n hx hb dX3_shelf_11 rfl (lv_at hl 2 rfl) ?_
    refine lv_topi (fun y_5 ey_6 => ?_)
    by_cases c_7 : y_5 = 0
    · have c_8 : p0 = 0 := by rw [← ey_6]; exact c_7
      subst c_7
      refine lv_tableIn (off := 28) (tgt := 40) hx hb dX3_shelf_12 (by decide +kernel) (by decide +kernel) (by decide +kernel) (by decide) ?_
      refine lv_iload_n hx hb dX3_shelf_40 rfl (lv_at hl 1 rfl) ?_
      refine kz_rdS (As := [.int (nI k.toNatClampNeg)]) (rest := []) ⟨hx, hb, hml, hown, hts⟩ (c_X3_sizeOfShelf l G (nI k.toNatClampNeg)) (va_cwS 1 hts gX3_shelf_X3_sizeOfShelf rfl rfl rfl (by decide +kernel) ⟨Nat.le_of_ble_eq_true rfl, Nat.le_of_ble_eq_true rfl⟩) hK (hP.sub (cs := []) [] rfl) rfl hl.1 rfl (Nat.le_of_ble_eq_true rfl) dX3_shelf_41 ⟨Nat.le_of_ble_eq_true rfl, Nat.le_of_ble_eq_true rfl⟩ ?_
      subst hQ
      exact W.iret (v := (X3_sizeOfShelf_r (nI k.toNatClampNeg))) hx hb hr (fun t ht _ => ⟨(X3_sizeOfShelf_r (nI k.toNatClampNeg)), rfl, (by rw [X3_shelf_r, if_pos c_3, if_pos c_8]), ht⟩) (fun _ h9 => absurd h9 List.not_mem_nil) dX3_shelf_44
    · have c_9 : ¬ p0 = 0 := by rw [← ey_6]; exact c_7
      by_cases c_10 : y_5 = 1
      · have c_11 : p0 = 1 := by rw [← ey_6]; exact c_10
        subst c_10
        refine lv_tableIn (off := 33) (tgt := 45) hx hb dX3_shelf_12 (by decide +kernel) (by decide +kernel) (by decide +kernel) (by decide) ?_
        refine lv_aload_n hx hb dX3_shelf_45 rfl (lv_at hl 0 rfl) ?_
        refine va_get (D := G.1) (ci := 3) (v := .ref (a 0)) (C := RX3) (T := TX3) (N := 8) hx hb hts hinX3 hown hK.1 hP 0 rfl rfl 0 (by decide) (hts (.fieldLink RX3 12 "ParcelShelves" "now" "LParcelShelves$Shop;") (by decide +kernel)) (fun _ h9 => h9) rfl dX3_shelf_46 ?_
        refine lv_iload_n hx hb dX3_shelf_49 rfl (lv_at hl 1 rfl) ?_
        refine kz_rdV (As := [.int (nI k.toNatClampNeg)]) (rest := []) (b := a 0) ⟨hx, hb, hml, hown, hts⟩ (c_X1_parcelsOnShelf l G a S k.toNatClampNeg (by omega)) (cwV 1 hts gX3_shelf_X1_parcelsOnShelf rfl rfl rfl (by decide +kernel) ⟨Nat.le_of_ble_eq_true rfl, Nat.le_of_ble_eq_true rfl⟩) hK (hP.sub (cs := [shW G a S]) [1] rfl) (kz_recv hK hP (ci := 1) (q0 := 1) rfl rfl) rfl hl.1 rfl (Nat.le_of_ble_eq_true rfl) dX3_shelf_50 ⟨Nat.le_of_ble_eq_true rfl, Nat.le_of_ble_eq_true rfl⟩ ?_
        subst hQ
        exact W.iret (v := (X1_parcelsOnShelf_r S k.toNatClampNeg)) hx hb hr (fun t ht _ => ⟨(X1_parcelsOnShelf_r S k.toNatClampNeg), rfl, (by rw [X3_shelf_r, if_pos c_3, if_neg c_9, if_pos c_11]), ht⟩) (fun _ h9 => absurd h9 List.not_mem_nil) dX3_shelf_53
      · have c_12 : ¬ p0 = 1 := by rw [← ey_6]; exact c_10
        by_cases c_13 : y_5 = 2
        · have c_14 : p0 = 2 := by rw [← ey_6]; exact c_13
          subst c_13
          refine lv_tableIn (off := 42) (tgt := 54) hx hb dX3_shelf_12 (by decide +kernel) (by decide +kernel) (by decide +kernel) (by decide) ?_
          refine lv_aload_n hx hb dX3_shelf_54 rfl (lv_at hl 0 rfl) ?_
          refine va_get (D := G.1) (ci := 3) (v := .ref (a 0)) (C := RX3) (T := TX3) (N := 8) hx hb hts hinX3 hown hK.1 hP 0 rfl rfl 0 (by decide) (hts (.fieldLink RX3 12 "ParcelShelves" "now" "LParcelShelves$Shop;") (by decide +kernel)) (fun _ h9 => h9) rfl dX3_shelf_55 ?_
          refine lv_iload_n hx hb dX3_shelf_58 rfl (lv_at hl 1 rfl) ?_
          refine kz_rdV (As := [.int (nI k.toNatClampNeg)]) (rest := []) (b := a 0) ⟨hx, hb, hml, hown, hts⟩ (c_X1_restingOnShelf l G a S k.toNatClampNeg (by omega) (by assumption)) (cwV 1 hts gX3_shelf_X1_restingOnShelf rfl rfl rfl (by decide +kernel) ⟨Nat.le_of_ble_eq_true rfl, Nat.le_of_ble_eq_true rfl⟩) hK (hP.sub (cs := [shW G a S]) [1] rfl) (kz_recv hK hP (ci := 1) (q0 := 1) rfl rfl) rfl hl.1 rfl (Nat.le_of_ble_eq_true rfl) dX3_shelf_59 ⟨Nat.le_of_ble_eq_true rfl, Nat.le_of_ble_eq_true rfl⟩ ?_
          subst hQ
          exact W.iret (v := (X1_restingOnShelf_r S k.toNatClampNeg)) hx hb hr (fun t ht _ => ⟨(X1_restingOnShelf_r S k.toNatClampNeg), rfl, (by rw [X3_shelf_r, if_pos c_3, if_neg c_9, if_neg c_12, if_pos c_14]), ht⟩) (fun _ h9 => absurd h9 List.not_mem_nil) dX3_shelf_62
        · have c_15 : ¬ p0 = 2 := by rw [← ey_6]; exact c_13
          refine lv_tableOut (tgt := 63) hx hb dX3_shelf_12 (by have h0 := lv_neT c_7 (by decide +kernel : (0 : Int32).toInt = 0); have h1 := lv_neT c_10 (by decide +kernel : (1 : Int32).toInt = 1); have h2 := lv_neT c_13 (by decide +kernel : (2 : Int32).toInt = 2); omega) (by decide) ?_
          refine lv_bipush (v := (-2)) hx hb dX3_shelf_63 (by decide +kernel) ?_
          subst hQ
          exact W.iret (v := (-2)) hx hb hr (fun t ht _ => ⟨(-2), rfl, (by rw [X3_shelf_r, if_pos c_3, if_neg c_9, if_neg c_12, if_neg c_15]), ht⟩) (fun _ h9 => absurd h9 List.not_mem_nil) dX3_shelf_65
  · rw [if_neg c_3] at ey_2
    subst ey_2
    refine lv_if_ne (tgt := 11) hx hb dX3_shelf_6 (by decide) (fun c => absurd c (by decide)) (fun _ => ?_)
    refine lv_iconst (v := (-1)) hx hb dX3_shelf_9 (by decide +kernel) ?_
    subst hQ
    exact W.iret (v := (-1)) hx hb hr (fun t ht _ => ⟨(-1), rfl, (by rw [X3_shelf_r, if_neg c_3]), ht⟩) (fun _ h9 => absurd h9 List.not_mem_nil) dX3_shelf_10
def X3_sender_r (V : kz_S) (S : kz_S) (q : Int32) (p0 : Int32) : Int32 := if X3_isWithin_p q 0 9 then (if p0 = 0 then (X1_parcelsOfSender_r S q) else if p0 = 1 then ((S 10) q.toNatClampNeg) else if p0 = 2 then ((S 11) q.toNatClampNeg) else if p0 = 3 then ((S 12) q.toNatClampNeg) else if p0 = 4 then ((S 13) q.toNatClampNeg) else (-2)) else (-1)
set_option maxHeartbeats 4000000 in
set_option maxRecDepth 100000 in
theorem c_X3_sender (l : Launch) (G : kz_G) (x : Nat) (u1 : Nat) (u2 : Nat) (u3 : Nat) (u4 : Nat) (V : kz_S) (a : Nat → Nat) (S : kz_S) (q : Int32) (p0 : Int32) : kz_rd l G yX3_sender wsX3_sender 2 44 [.ref x, .int q, .int p0] [xoW x (a 0) u1 u2 u3 u4 V, shW G a S] (X3_sender_r V S q p0) := by
  refine Met.ofW (cc := cX3_sender) (maxL := 3) (ret := (some .int)) (by decide) rfl ?_
  intro p e s m args below meth c s₁ B hml hv
  obtain ⟨rfl, hP, hK⟩ := hv
  have hx := B.exec
  have hb := B.bytes
  have hr := B.returns
  have hts := atoms_spec (ws := wsX3_sender) B.pre
  have hown : s.vm.findClass RX3 = some m.cls := findClass_of_methodNamed B.named
  have hlocks := B.notSynchronized
  have hinX3 : ∀ w ∈ u_ws RX3 TX3 8, w ∈ wsX3_sender := by decide +kernel
  have hinX1 : ∀ w ∈ u_ws RX1 TX1 14, w ∈ wsX3_sender := by decide +kernel
  have hl := lv_entry ([.ref x, .int q, .int p0]) (n := 3) (Nat.le_of_ble_eq_true rfl)
  rw [lg_entry_eq]
  generalize (lg_sl ([.ref x, .int q, .int p0]) ++ List.replicate (3 - (lg_sl ([.ref x, .int q, .int p0])).length) Slot.unset).toArray = ls at hl ⊢
  have hl : lv_has ls 3 [(0, .ref x), (1, .int q), (2, .int p0)] := hl
  refine kz_start (fun QQ hQ => ?_)
  refine lv_iload_n hx hb dX3_sender_0 rfl (lv_at hl 1 rfl) ?_
  refine lv_iconst (v := 0) hx hb dX3_sender_1 (by decide +kernel) ?_
  refine lv_bipush (v := 9) hx hb dX3_sender_2 (by decide +kernel) ?_
  refine kz_rdS (As := [.int q, .int 0, .int 9]) (rest := []) ⟨hx, hb, hml, hown, hts⟩ (c_X3_isWithin l G q 0 9) (va_cwS 3 hts gX3_sender_X3_isWithin rfl rfl rfl (by decide +kernel) ⟨Nat.le_of_ble_eq_true rfl, Nat.le_of_ble_eq_true rfl⟩) hK (hP.sub (cs := []) [] rfl) rfl hl.1 rfl (Nat.le_of_ble_eq_true rfl) dX3_sender_4 ⟨Nat.le_of_ble_eq_true rfl, Nat.le_of_ble_eq_true rfl⟩ ?_
  refine lv_topi (fun y_1 ey_2 => ?_)
  by_cases c_3 : X3_isWithin_p q 0 9
  · rw [if_pos c_3] at ey_2
    subst ey_2
    refine lv_if_ne (tgt := 12) hx hb dX3_sender_7 (by decide) (fun _ => ?_) (fun c => absurd c (by decide))
    refine lv_iload_n hx hb dX3_sender_12 rfl (lv_at hl 2 rfl) ?_
    refine lv_topi (fun y_4 ey_5 => ?_)
    by_cases c_6 : y_4 = 0
    · have c_7 : p0 = 0 := by rw [← ey_5]; exact c_6
      subst c_6
      refine lv_tableIn (off := 35) (tgt := 48) hx hb dX3_sender_13 (by decide +kernel) (by decide +kernel) (by decide +kernel) (by decide) ?_
      refine lv_aload_n hx hb dX3_sender_48 rfl (lv_at hl 0 rfl) ?_
      refine va_get (D := G.1) (ci := 3) (v := .ref (a 0)) (C := RX3) (T := TX3) (N := 8) hx hb hts hinX3 hown hK.1 hP 0 rfl rfl 0 (by decide) (hts (.fieldLink RX3 12 "ParcelShelves" "now" "LParcelShelves$Shop;") (by decide +kernel)) (fun _ h9 => h9) rfl dX3_sender_49 ?_
      refine lv_iload_n hx hb dX3_sender_52 rfl (lv_at hl 1 rfl) ?_
      refine kz_rdV (As := [.int q]) (rest := []) (b := a 0) ⟨hx, hb, hml, hown, hts⟩ (c_X1_parcelsOfSender l G a S q) (cwV 1 hts gX3_sender_X1_parcelsOfSender rfl rfl rfl (by decide +kernel) ⟨Nat.le_of_ble_eq_true rfl, Nat.le_of_ble_eq_true rfl⟩) hK (hP.sub (cs := [shW G a S]) [1] rfl) (kz_recv hK hP (ci := 1) (q0 := 1) rfl rfl) rfl hl.1 rfl (Nat.le_of_ble_eq_true rfl) dX3_sender_53 ⟨Nat.le_of_ble_eq_true rfl, Nat.le_of_ble_eq_true rfl⟩ ?_
      subst hQ
      exact W.iret (v := (X1_parcelsOfSender_r S q)) hx hb hr (fun t ht _ => ⟨(X1_parcelsOfSender_r S q), rfl, (by rw [X3_sender_r, if_pos c_3, if_pos c_7]), ht⟩) (fun _ h9 => absurd h9 List.not_mem_nil) dX3_sender_56
    · have c_8 : ¬ p0 = 0 := by rw [← ey_5]; exact c_6
      by_cases c_9 : y_4 = 1
      · have c_10 : p0 = 1 := by rw [← ey_5]; exact c_9
        subst c_9
        refine lv_tableIn (off := 44) (tgt := 57) hx hb dX3_sender_13 (by decide +kernel) (by decide +kernel) (by decide +kernel) (by decide) ?_
        refine lv_aload_n hx hb dX3_sender_57 rfl (lv_at hl 0 rfl) ?_
        refine va_get (D := G.1) (ci := 3) (v := .ref (a 0)) (C := RX3) (T := TX3) (N := 8) hx hb hts hinX3 hown hK.1 hP 0 rfl rfl 0 (by decide) (hts (.fieldLink RX3 12 "ParcelShelves" "now" "LParcelShelves$Shop;") (by decide +kernel)) (fun _ h9 => h9) rfl dX3_sender_58 ?_
        refine va_get (D := G.1) (ci := 1) (v := .ref (a 7)) (C := RX1) (T := TX1) (N := 14) hx hb hts hinX1 hown hK.1 hP 1 rfl rfl 10 (by decide) (hts (.fieldLink RX3 126 "ParcelShelves$Shop" "bins" "[I") (by decide +kernel)) (fun _ h9 => h9) rfl dX3_sender_61 ?_
        refine lv_iload_n hx hb dX3_sender_64 rfl (lv_at hl 1 rfl) ?_
        refine va_iald (f := (S 10)) hx hb hK.1 hP 8 0 rfl rfl (kz_wiIn 9 c_3 rfl (by decide)) dX3_sender_65 ?_
        subst hQ
        exact W.iret (v := ((S 10) q.toNatClampNeg)) hx hb hr (fun t ht _ => ⟨((S 10) q.toNatClampNeg), rfl, (by rw [X3_sender_r, if_pos c_3, if_neg c_8, if_pos c_10]), ht⟩) (fun _ h9 => absurd h9 List.not_mem_nil) dX3_sender_66
      · have c_11 : ¬ p0 = 1 := by rw [← ey_5]; exact c_9
        by_cases c_12 : y_4 = 2
        · have c_13 : p0 = 2 := by rw [← ey_5]; exact c_12
          subst c_12
          refine lv_tableIn (off := 54) (tgt := 67) hx hb dX3_sender_13 (by decide +kernel) (by decide +kernel) (by decide +kernel) (by decide) ?_
          refine lv_aload_n hx hb dX3_sender_67 rfl (lv_at hl 0 rfl) ?_
          refine va_get (D := G.1) (ci := 3) (v := .ref (a 0)) (C := RX3) (T := TX3) (N := 8) hx hb hts hinX3 hown hK.1 hP 0 rfl rfl 0 (by decide) (hts (.fieldLink RX3 12 "ParcelShelves" "now" "LParcelShelves$Shop;") (by decide +kernel)) (fun _ h9 => h9) rfl dX3_sender_68 ?_
          refine va_get (D := G.1) (ci := 1) (v := .ref (a 8)) (C := RX1) (T := TX1) (N := 14) hx hb hts hinX1 hown hK.1 hP 1 rfl rfl 11 (by decide) (hts (.fieldLink RX3 129 "ParcelShelves$Shop" "charged" "[I") (by decide +kernel)) (fun _ h9 => h9) rfl dX3_sender_71 ?_
          refine lv_iload_n hx hb dX3_sender_74 rfl (lv_at hl 1 rfl) ?_
          refine va_iald (f := (S 11)) hx hb hK.1 hP 9 0 rfl rfl (kz_wiIn 9 c_3 rfl (by decide)) dX3_sender_75 ?_
          subst hQ
          exact W.iret (v := ((S 11) q.toNatClampNeg)) hx hb hr (fun t ht _ => ⟨((S 11) q.toNatClampNeg), rfl, (by rw [X3_sender_r, if_pos c_3, if_neg c_8, if_neg c_11, if_pos c_13]), ht⟩) (fun _ h9 => absurd h9 List.not_mem_nil) dX3_sender_76
        · have c_14 : ¬ p0 = 2 := by rw [← ey_5]; exact c_12
          by_cases c_15 : y_4 = 3
          · have c_16 : p0 = 3 := by rw [← ey_5]; exact c_15
            subst c_15
            refine lv_tableIn (off := 64) (tgt := 77) hx hb dX3_sender_13 (by decide +kernel) (by decide +kernel) (by decide +kernel) (by decide) ?_
            refine lv_aload_n hx hb dX3_sender_77 rfl (lv_at hl 0 rfl) ?_
            refine va_get (D := G.1) (ci := 3) (v := .ref (a 0)) (C := RX3) (T := TX3) (N := 8) hx hb hts hinX3 hown hK.1 hP 0 rfl rfl 0 (by decide) (hts (.fieldLink RX3 12 "ParcelShelves" "now" "LParcelShelves$Shop;") (by decide +kernel)) (fun _ h9 => h9) rfl dX3_sender_78 ?_
            refine va_get (D := G.1) (ci := 1) (v := .ref (a 9)) (C := RX1) (T := TX1) (N := 14) hx hb hts hinX1 hown hK.1 hP 1 rfl rfl 12 (by decide) (hts (.fieldLink RX3 132 "ParcelShelves$Shop" "fetched" "[I") (by decide +kernel)) (fun _ h9 => h9) rfl dX3_sender_81 ?_
            refine lv_iload_n hx hb dX3_sender_84 rfl (lv_at hl 1 rfl) ?_
            refine va_iald (f := (S 12)) hx hb hK.1 hP 10 0 rfl rfl (kz_wiIn 9 c_3 rfl (by decide)) dX3_sender_85 ?_
            subst hQ
            exact W.iret (v := ((S 12) q.toNatClampNeg)) hx hb hr (fun t ht _ => ⟨((S 12) q.toNatClampNeg), rfl, (by rw [X3_sender_r, if_pos c_3, if_neg c_8, if_neg c_11, if_neg c_14, if_pos c_16]), ht⟩) (fun _ h9 => absurd h9 List.not_mem_nil) dX3_sender_86
          · have c_17 : ¬ p0 = 3 := by rw [← ey_5]; exact c_15
            by_cases c_18 : y_4 = 4
            · have c_19 : p0 = 4 := by rw [← ey_5]; exact c_18
              subst c_18
              refine lv_tableIn (off := 74) (tgt := 87) hx hb dX3_sender_13 (by decide +kernel) (by decide +kernel) (by decide +kernel) (by decide) ?_
              refine lv_aload_n hx hb dX3_sender_87 rfl (lv_at hl 0 rfl) ?_
              refine va_get (D := G.1) (ci := 3) (v := .ref (a 0)) (C := RX3) (T := TX3) (N := 8) hx hb hts hinX3 hown hK.1 hP 0 rfl rfl 0 (by decide) (hts (.fieldLink RX3 12 "ParcelShelves" "now" "LParcelShelves$Shop;") (by decide +kernel)) (fun _ h9 => h9) rfl dX3_sender_88 ?_
              refine va_get (D := G.1) (ci := 1) (v := .ref (a 10)) (C := RX1) (T := TX1) (N := 14) hx hb hts hinX1 hown hK.1 hP 1 rfl rfl 13 (by decide) (hts (.fieldLink RX3 135 "ParcelShelves$Shop" "taken" "[I") (by decide +kernel)) (fun _ h9 => h9) rfl dX3_sender_91 ?_
              refine lv_iload_n hx hb dX3_sender_94 rfl (lv_at hl 1 rfl) ?_
              refine va_iald (f := (S 13)) hx hb hK.1 hP 11 0 rfl rfl (kz_wiIn 9 c_3 rfl (by decide)) dX3_sender_95 ?_
              subst hQ
              exact W.iret (v := ((S 13) q.toNatClampNeg)) hx hb hr (fun t ht _ => ⟨((S 13) q.toNatClampNeg), rfl, (by rw [X3_sender_r, if_pos c_3, if_neg c_8, if_neg c_11, if_neg c_14, if_neg c_17, if_pos c_19]), ht⟩) (fun _ h9 => absurd h9 List.not_mem_nil) dX3_sender_96
            · have c_20 : ¬ p0 = 4 := by rw [← ey_5]; exact c_18
              refine lv_tableOut (tgt := 97) hx hb dX3_sender_13 (by have h0 := lv_neT c_6 (by decide +kernel : (0 : Int32).toInt = 0); have h1 := lv_neT c_9 (by decide +kernel : (1 : Int32).toInt = 1); have h2 := lv_neT c_12 (by decide +kernel : (2 : Int32).toInt = 2); have h3 := lv_neT c_15 (by decide +kernel : (3 : Int32).toInt = 3); have h4 := lv_neT c_18 (by decide +kernel : (4 : Int32).toInt = 4); omega) (by decide) ?_
              refine lv_bipush (v := (-2)) hx hb dX3_sender_97 (by decide +kernel) ?_
              subst hQ
              exact W.iret (v := (-2)) hx hb hr (fun t ht _ => ⟨(-2), rfl, (by rw [X3_sender_r, if_pos c_3, if_neg c_8, if_neg c_11, if_neg c_14, if_neg c_17, if_neg c_20]), ht⟩) (fun _ h9 => absurd h9 List.not_mem_nil) dX3_sender_99
  · rw [if_neg c_3] at ey_2
    subst ey_2
    refine lv_if_ne (tgt := 12) hx hb dX3_sender_7 (by decide) (fun c => absurd c (by decide)) (fun _ => ?_)
    refine lv_iconst (v := (-1)) hx hb dX3_sender_10 (by decide +kernel) ?_
    subst hQ
    exact W.iret (v := (-1)) hx hb hr (fun t ht _ => ⟨(-1), rfl, (by rw [X3_sender_r, if_neg c_3]), ht⟩) (fun _ h9 => absurd h9 List.not_mem_nil) dX3_sender_11
def X3_total_r (V : kz_S) (S : kz_S) (p0 : Int32) : Int32 := if p0 = 0 then (X1_parcelsOnShelves_r S) else if p0 = 1 then (X3_sum_r (S 10)) else if p0 = 2 then (S 3 0) else if p0 = 3 then (X3_sum_r (S 12)) else if p0 = 4 then (X3_sum_r (S 13)) else if p0 = 5 then (S 4 0) else if p0 = 6 then (X3_sum_r (S 11)) else if p0 = 7 then (S 2 0) else if p0 = 8 then (if X1_isLocked_p S then 1 else 0) else if p0 = 9 then (X1_feesOnShelves_r S) else (-2)
set_option maxHeartbeats 4000000 in
set_option maxRecDepth 100000 in
theorem c_X3_total (l : Launch) (G : kz_G) (x : Nat) (u1 : Nat) (u2 : Nat) (u3 : Nat) (u4 : Nat) (V : kz_S) (a : Nat → Nat) (S : kz_S) (p0 : Int32) : kz_rd l G yX3_total wsX3_total 3 67 [.ref x, .int p0] [xoW x (a 0) u1 u2 u3 u4 V, shW G a S] (X3_total_r V S p0) := by
  refine Met.ofW (cc := cX3_total) (maxL := 2) (ret := (some .int)) (by decide) rfl ?_
  intro p e s m args below meth c s₁ B hml hv
  obtain ⟨rfl, hP, hK⟩ := hv
  have hx := B.exec
  have hb := B.bytes
  have hr := B.returns
  have hts := atoms_spec (ws := wsX3_total) B.pre
  have hown : s.vm.findClass RX3 = some m.cls := findClass_of_methodNamed B.named
  have hlocks := B.notSynchronized
  have hinX3 : ∀ w ∈ u_ws RX3 TX3 8, w ∈ wsX3_total := by decide +kernel
  have hinX1 : ∀ w ∈ u_ws RX1 TX1 14, w ∈ wsX3_total := by decide +kernel
  have hl := lv_entry ([.ref x, .int p0]) (n := 2) (Nat.le_of_ble_eq_true rfl)
  rw [lg_entry_eq]
  generalize (lg_sl ([.ref x, .int p0]) ++ List.replicate (2 - (lg_sl ([.ref x, .int p0])).length) Slot.unset).toArray = ls at hl ⊢
  have hl : lv_has ls 2 [(0, .ref x), (1, .int p0)] := hl
  refine kz_start (fun QQ hQ => ?_)
  refine lv_iload_n hx hb dX3_total_0 rfl (lv_at hl 1 rfl) ?_
  refine lv_topi (fun y_1 ey_2 => ?_)
  by_cases c_3 : y_1 = 0
  · have c_4 : p0 = 0 := by rw [← ey_2]; exact c_3
    subst c_3
    refine lv_tableIn (off := 55) (tgt := 56) hx hb dX3_total_1 (by decide +kernel) (by decide +kernel) (by decide +kernel) (by decide) ?_
    refine lv_aload_n hx hb dX3_total_56 rfl (lv_at hl 0 rfl) ?_
    refine va_get (D := G.1) (ci := 3) (v := .ref (a 0)) (C := RX3) (T := TX3) (N := 8) hx hb hts hinX3 hown hK.1 hP 0 rfl rfl 0 (by decide) (hts (.fieldLink RX3 12 "ParcelShelves" "now" "LParcelShelves$Shop;") (by decide +kernel)) (fun _ h9 => h9) rfl dX3_total_57 ?_
    refine kz_rdV (As := []) (rest := []) (b := a 0) ⟨hx, hb, hml, hown, hts⟩ (c_X1_parcelsOnShelves l G a S) (cwV 0 hts gX3_total_X1_parcelsOnShelves rfl rfl rfl (by decide +kernel) ⟨Nat.le_of_ble_eq_true rfl, Nat.le_of_ble_eq_true rfl⟩) hK (hP.sub (cs := [shW G a S]) [1] rfl) (kz_recv hK hP (ci := 1) (q0 := 1) rfl rfl) rfl hl.1 rfl (Nat.le_of_ble_eq_true rfl) dX3_total_60 ⟨Nat.le_of_ble_eq_true rfl, Nat.le_of_ble_eq_true rfl⟩ ?_
    subst hQ
    exact W.iret (v := (X1_parcelsOnShelves_r S)) hx hb hr (fun t ht _ => ⟨(X1_parcelsOnShelves_r S), rfl, (by rw [X3_total_r, if_pos c_4]), ht⟩) (fun _ h9 => absurd h9 List.not_mem_nil) dX3_total_63
  · have c_5 : ¬ p0 = 0 := by rw [← ey_2]; exact c_3
    by_cases c_6 : y_1 = 1
    · have c_7 : p0 = 1 := by rw [← ey_2]; exact c_6
      subst c_6
      refine lv_tableIn (off := 63) (tgt := 64) hx hb dX3_total_1 (by decide +kernel) (by decide +kernel) (by decide +kernel) (by decide) ?_
      refine lv_aload_n hx hb dX3_total_64 rfl (lv_at hl 0 rfl) ?_
      refine va_get (D := G.1) (ci := 3) (v := .ref (a 0)) (C := RX3) (T := TX3) (N := 8) hx hb hts hinX3 hown hK.1 hP 0 rfl rfl 0 (by decide) (hts (.fieldLink RX3 12 "ParcelShelves" "now" "LParcelShelves$Shop;") (by decide +kernel)) (fun _ h9 => h9) rfl dX3_total_65 ?_
      refine va_get (D := G.1) (ci := 1) (v := .ref (a 7)) (C := RX1) (T := TX1) (N := 14) hx hb hts hinX1 hown hK.1 hP 1 rfl rfl 10 (by decide) (hts (.fieldLink RX3 126 "ParcelShelves$Shop" "bins" "[I") (by decide +kernel)) (fun _ h9 => h9) rfl dX3_total_68 ?_
      refine kz_rdS (As := [.ref (a 7)]) (rest := []) ⟨hx, hb, hml, hown, hts⟩ (c_X3_sum l G (a 7) (S 10)) (va_cwS 1 hts gX3_total_X3_sum rfl rfl rfl (by decide +kernel) ⟨Nat.le_of_ble_eq_true rfl, Nat.le_of_ble_eq_true rfl⟩) hK (kz_cell hP 8 rfl) rfl hl.1 rfl (Nat.le_of_ble_eq_true rfl) dX3_total_71 ⟨Nat.le_of_ble_eq_true rfl, Nat.le_of_ble_eq_true rfl⟩ ?_
      subst hQ
      exact W.iret (v := (X3_sum_r (S 10))) hx hb hr (fun t ht _ => ⟨(X3_sum_r (S 10)), rfl, (by rw [X3_total_r, if_neg c_5, if_pos c_7]), ht⟩) (fun _ h9 => absurd h9 List.not_mem_nil) dX3_total_74
    · have c_8 : ¬ p0 = 1 := by rw [← ey_2]; exact c_6
      by_cases c_9 : y_1 = 2
      · have c_10 : p0 = 2 := by rw [← ey_2]; exact c_9
        subst c_9
        refine lv_tableIn (off := 74) (tgt := 75) hx hb dX3_total_1 (by decide +kernel) (by decide +kernel) (by decide +kernel) (by decide) ?_
        refine lv_aload_n hx hb dX3_total_75 rfl (lv_at hl 0 rfl) ?_
        refine va_get (D := G.1) (ci := 3) (v := .ref (a 0)) (C := RX3) (T := TX3) (N := 8) hx hb hts hinX3 hown hK.1 hP 0 rfl rfl 0 (by decide) (hts (.fieldLink RX3 12 "ParcelShelves" "now" "LParcelShelves$Shop;") (by decide +kernel)) (fun _ h9 => h9) rfl dX3_total_76 ?_
        refine va_get (D := G.1) (ci := 1) (v := .int (S 3 0)) (C := RX1) (T := TX1) (N := 14) hx hb hts hinX1 hown hK.1 hP 1 rfl rfl 3 (by decide) (hts (.fieldLink RX3 146 "ParcelShelves$Shop" "cameSoFar" "I") (by decide +kernel)) (fun _ h9 => h9) rfl dX3_total_79 ?_
        subst hQ
        exact W.iret (v := (S 3 0)) hx hb hr (fun t ht _ => ⟨(S 3 0), rfl, (by rw [X3_total_r, if_neg c_5, if_neg c_8, if_pos c_10]), ht⟩) (fun _ h9 => absurd h9 List.not_mem_nil) dX3_total_82
      · have c_11 : ¬ p0 = 2 := by rw [← ey_2]; exact c_9
        by_cases c_12 : y_1 = 3
        · have c_13 : p0 = 3 := by rw [← ey_2]; exact c_12
          subst c_12
          refine lv_tableIn (off := 82) (tgt := 83) hx hb dX3_total_1 (by decide +kernel) (by decide +kernel) (by decide +kernel) (by decide) ?_
          refine lv_aload_n hx hb dX3_total_83 rfl (lv_at hl 0 rfl) ?_
          refine va_get (D := G.1) (ci := 3) (v := .ref (a 0)) (C := RX3) (T := TX3) (N := 8) hx hb hts hinX3 hown hK.1 hP 0 rfl rfl 0 (by decide) (hts (.fieldLink RX3 12 "ParcelShelves" "now" "LParcelShelves$Shop;") (by decide +kernel)) (fun _ h9 => h9) rfl dX3_total_84 ?_
          refine va_get (D := G.1) (ci := 1) (v := .ref (a 9)) (C := RX1) (T := TX1) (N := 14) hx hb hts hinX1 hown hK.1 hP 1 rfl rfl 12 (by decide) (hts (.fieldLink RX3 132 "ParcelShelves$Shop" "fetched" "[I") (by decide +kernel)) (fun _ h9 => h9) rfl dX3_total_87 ?_
          refine kz_rdS (As := [.ref (a 9)]) (rest := []) ⟨hx, hb, hml, hown, hts⟩ (c_X3_sum l G (a 9) (S 12)) (va_cwS 1 hts gX3_total_X3_sum rfl rfl rfl (by decide +kernel) ⟨Nat.le_of_ble_eq_true rfl, Nat.le_of_ble_eq_true rfl⟩) hK (kz_cell hP 10 rfl) rfl hl.1 rfl (Nat.le_of_ble_eq_true rfl) dX3_total_90 ⟨Nat.le_of_ble_eq_true rfl, Nat.le_of_ble_eq_true rfl⟩ ?_
          subst hQ
          exact W.iret (v := (X3_sum_r (S 12))) hx hb hr (fun t ht _ => ⟨(X3_sum_r (S 12)), rfl, (by rw [X3_total_r, if_neg c_5, if_neg c_8, if_neg c_11, if_pos c_13]), ht⟩) (fun _ h9 => absurd h9 List.not_mem_nil) dX3_total_93
        · have c_14 : ¬ p0 = 3 := by rw [← ey_2]; exact c_12
          by_cases c_15 : y_1 = 4
          · have c_16 : p0 = 4 := by rw [← ey_2]; exact c_15
            subst c_15
            refine lv_tableIn (off := 93) (tgt := 94) hx hb dX3_total_1 (by decide +kernel) (by decide +kernel) (by decide +kernel) (by decide) ?_
            refine lv_aload_n hx hb dX3_total_94 rfl (lv_at hl 0 rfl) ?_
            refine va_get (D := G.1) (ci := 3) (v := .ref (a 0)) (C := RX3) (T := TX3) (N := 8) hx hb hts hinX3 hown hK.1 hP 0 rfl rfl 0 (by decide) (hts (.fieldLink RX3 12 "ParcelShelves" "now" "LParcelShelves$Shop;") (by decide +kernel)) (fun _ h9 => h9) rfl dX3_total_95 ?_
            refine va_get (D := G.1) (ci := 1) (v := .ref (a 10)) (C := RX1) (T := TX1) (N := 14) hx hb hts hinX1 hown hK.1 hP 1 rfl rfl 13 (by decide) (hts (.fieldLink RX3 135 "ParcelShelves$Shop" "taken" "[I") (by decide +kernel)) (fun _ h9 => h9) rfl dX3_total_98 ?_
            refine kz_rdS (As := [.ref (a 10)]) (rest := []) ⟨hx, hb, hml, hown, hts⟩ (c_X3_sum l G (a 10) (S 13)) (va_cwS 1 hts gX3_total_X3_sum rfl rfl rfl (by decide +kernel) ⟨Nat.le_of_ble_eq_true rfl, Nat.le_of_ble_eq_true rfl⟩) hK (kz_cell hP 11 rfl) rfl hl.1 rfl (Nat.le_of_ble_eq_true rfl) dX3_total_101 ⟨Nat.le_of_ble_eq_true rfl, Nat.le_of_ble_eq_true rfl⟩ ?_
            subst hQ
            exact W.iret (v := (X3_sum_r (S 13))) hx hb hr (fun t ht _ => ⟨(X3_sum_r (S 13)), rfl, (by rw [X3_total_r, if_neg c_5, if_neg c_8, if_neg c_11, if_neg c_14, if_pos c_16]), ht⟩) (fun _ h9 => absurd h9 List.not_mem_nil) dX3_total_104
          · have c_17 : ¬ p0 = 4 := by rw [← ey_2]; exact c_15
            by_cases c_18 : y_1 = 5
            · have c_19 : p0 = 5 := by rw [← ey_2]; exact c_18
              subst c_18
              refine lv_tableIn (off := 104) (tgt := 105) hx hb dX3_total_1 (by decide +kernel) (by decide +kernel) (by decide +kernel) (by decide) ?_
              refine lv_aload_n hx hb dX3_total_105 rfl (lv_at hl 0 rfl) ?_
              refine va_get (D := G.1) (ci := 3) (v := .ref (a 0)) (C := RX3) (T := TX3) (N := 8) hx hb hts hinX3 hown hK.1 hP 0 rfl rfl 0 (by decide) (hts (.fieldLink RX3 12 "ParcelShelves" "now" "LParcelShelves$Shop;") (by decide +kernel)) (fun _ h9 => h9) rfl dX3_total_106 ?_
              refine va_get (D := G.1) (ci := 1) (v := .int (S 4 0)) (C := RX1) (T := TX1) (N := 14) hx hb hts hinX1 hown hK.1 hP 1 rfl rfl 4 (by decide) (hts (.fieldLink RX3 149 "ParcelShelves$Shop" "feesPaid" "I") (by decide +kernel)) (fun _ h9 => h9) rfl dX3_total_109 ?_
              subst hQ
              exact W.iret (v := (S 4 0)) hx hb hr (fun t ht _ => ⟨(S 4 0), rfl, (by rw [X3_total_r, if_neg c_5, if_neg c_8, if_neg c_11, if_neg c_14, if_neg c_17, if_pos c_19]), ht⟩) (fun _ h9 => absurd h9 List.not_mem_nil) dX3_total_112
            · have c_20 : ¬ p0 = 5 := by rw [← ey_2]; exact c_18
              by_cases c_21 : y_1 = 6
              · have c_22 : p0 = 6 := by rw [← ey_2]; exact c_21
                subst c_21
                refine lv_tableIn (off := 112) (tgt := 113) hx hb dX3_total_1 (by decide +kernel) (by decide +kernel) (by decide +kernel) (by decide) ?_
                refine lv_aload_n hx hb dX3_total_113 rfl (lv_at hl 0 rfl) ?_
                refine va_get (D := G.1) (ci := 3) (v := .ref (a 0)) (C := RX3) (T := TX3) (N := 8) hx hb hts hinX3 hown hK.1 hP 0 rfl rfl 0 (by decide) (hts (.fieldLink RX3 12 "ParcelShelves" "now" "LParcelShelves$Shop;") (by decide +kernel)) (fun _ h9 => h9) rfl dX3_total_114 ?_
                refine va_get (D := G.1) (ci := 1) (v := .ref (a 8)) (C := RX1) (T := TX1) (N := 14) hx hb hts hinX1 hown hK.1 hP 1 rfl rfl 11 (by decide) (hts (.fieldLink RX3 129 "ParcelShelves$Shop" "charged" "[I") (by decide +kernel)) (fun _ h9 => h9) rfl dX3_total_117 ?_
                refine kz_rdS (As := [.ref (a 8)]) (rest := []) ⟨hx, hb, hml, hown, hts⟩ (c_X3_sum l G (a 8) (S 11)) (va_cwS 1 hts gX3_total_X3_sum rfl rfl rfl (by decide +kernel) ⟨Nat.le_of_ble_eq_true rfl, Nat.le_of_ble_eq_true rfl⟩) hK (kz_cell hP 9 rfl) rfl hl.1 rfl (Nat.le_of_ble_eq_true rfl) dX3_total_120 ⟨Nat.le_of_ble_eq_true rfl, Nat.le_of_ble_eq_true rfl⟩ ?_
                subst hQ
                exact W.iret (v := (X3_sum_r (S 11))) hx hb hr (fun t ht _ => ⟨(X3_sum_r (S 11)), rfl, (by rw [X3_total_r, if_neg c_5, if_neg c_8, if_neg c_11, if_neg c_14, if_neg c_17, if_neg c_20, if_pos c_22]), ht⟩) (fun _ h9 => absurd h9 List.not_mem_nil) dX3_total_123
              · have c_23 : ¬ p0 = 6 := by rw [← ey_2]; exact c_21
                by_cases c_24 : y_1 = 7
                · have c_25 : p0 = 7 := by rw [← ey_2]; exact c_24
                  subst c_24
                  refine lv_tableIn (off := 123) (tgt := 124) hx hb dX3_total_1 (by decide +kernel) (by decide +kernel) (by decide +kernel) (by decide) ?_
                  refine lv_aload_n hx hb dX3_total_124 rfl (lv_at hl 0 rfl) ?_
                  refine va_get (D := G.1) (ci := 3) (v := .ref (a 0)) (C := RX3) (T := TX3) (N := 8) hx hb hts hinX3 hown hK.1 hP 0 rfl rfl 0 (by decide) (hts (.fieldLink RX3 12 "ParcelShelves" "now" "LParcelShelves$Shop;") (by decide +kernel)) (fun _ h9 => h9) rfl dX3_total_125 ?_
                  refine va_get (D := G.1) (ci := 1) (v := .int (S 2 0)) (C := RX1) (T := TX1) (N := 14) hx hb hts hinX1 hown hK.1 hP 1 rfl rfl 2 (by decide) (hts (.fieldLink RX3 152 "ParcelShelves$Shop" "wrongCodes" "I") (by decide +kernel)) (fun _ h9 => h9) rfl dX3_total_128 ?_
                  subst hQ
                  exact W.iret (v := (S 2 0)) hx hb hr (fun t ht _ => ⟨(S 2 0), rfl, (by rw [X3_total_r, if_neg c_5, if_neg c_8, if_neg c_11, if_neg c_14, if_neg c_17, if_neg c_20, if_neg c_23, if_pos c_25]), ht⟩) (fun _ h9 => absurd h9 List.not_mem_nil) dX3_total_131
                · have c_26 : ¬ p0 = 7 := by rw [← ey_2]; exact c_24
                  by_cases c_27 : y_1 = 8
                  · have c_28 : p0 = 8 := by rw [← ey_2]; exact c_27
                    subst c_27
                    refine lv_tableIn (off := 131) (tgt := 132) hx hb dX3_total_1 (by decide +kernel) (by decide +kernel) (by decide +kernel) (by decide) ?_
                    refine lv_aload_n hx hb dX3_total_132 rfl (lv_at hl 0 rfl) ?_
                    refine va_get (D := G.1) (ci := 3) (v := .ref (a 0)) (C := RX3) (T := TX3) (N := 8) hx hb hts hinX3 hown hK.1 hP 0 rfl rfl 0 (by decide) (hts (.fieldLink RX3 12 "ParcelShelves" "now" "LParcelShelves$Shop;") (by decide +kernel)) (fun _ h9 => h9) rfl dX3_total_133 ?_
                    refine kz_rdV (As := []) (rest := []) (b := a 0) ⟨hx, hb, hml, hown, hts⟩ (c_X1_isLocked l G a S) (cwV 0 hts gX3_total_X1_isLocked rfl rfl rfl (by decide +kernel) ⟨Nat.le_of_ble_eq_true rfl, Nat.le_of_ble_eq_true rfl⟩) hK (hP.sub (cs := [shW G a S]) [1] rfl) (kz_recv hK hP (ci := 1) (q0 := 1) rfl rfl) rfl hl.1 rfl (Nat.le_of_ble_eq_true rfl) dX3_total_136 ⟨Nat.le_of_ble_eq_true rfl, Nat.le_of_ble_eq_true rfl⟩ ?_
                    refine lv_topi (fun y_29 ey_30 => ?_)
                    by_cases c_31 : X1_isLocked_p S
                    · rw [if_pos c_31] at ey_30
                      subst ey_30
                      refine lv_if_eq (tgt := 146) hx hb dX3_total_139 (by decide) (fun c => absurd c (by decide)) (fun _ => ?_)
                      refine lv_iconst (v := 1) hx hb dX3_total_142 (by decide +kernel) ?_
                      refine lv_goto (tgt := 147) hx hb dX3_total_143 (by decide) ?_
                      subst hQ
                      exact W.iret (v := 1) hx hb hr (fun t ht _ => ⟨1, rfl, (by rw [X3_total_r, if_neg c_5, if_neg c_8, if_neg c_11, if_neg c_14, if_neg c_17, if_neg c_20, if_neg c_23, if_neg c_26, if_pos c_28, if_pos c_31]), ht⟩) (fun _ h9 => absurd h9 List.not_mem_nil) dX3_total_147
                    · rw [if_neg c_31] at ey_30
                      subst ey_30
                      refine lv_if_eq (tgt := 146) hx hb dX3_total_139 (by decide) (fun _ => ?_) (fun c => absurd c (by decide))
                      refine lv_iconst (v := 0) hx hb dX3_total_146 (by decide +kernel) ?_
                      subst hQ
                      exact W.iret (v := 0) hx hb hr (fun t ht _ => ⟨0, rfl, (by rw [X3_total_r, if_neg c_5, if_neg c_8, if_neg c_11, if_neg c_14, if_neg c_17, if_neg c_20, if_neg c_23, if_neg c_26, if_pos c_28, if_neg c_31]), ht⟩) (fun _ h9 => absurd h9 List.not_mem_nil) dX3_total_147
                  · have c_32 : ¬ p0 = 8 := by rw [← ey_2]; exact c_27
                    by_cases c_33 : y_1 = 9
                    · have c_34 : p0 = 9 := by rw [← ey_2]; exact c_33
                      subst c_33
                      refine lv_tableIn (off := 147) (tgt := 148) hx hb dX3_total_1 (by decide +kernel) (by decide +kernel) (by decide +kernel) (by decide) ?_
                      refine lv_aload_n hx hb dX3_total_148 rfl (lv_at hl 0 rfl) ?_
                      refine va_get (D := G.1) (ci := 3) (v := .ref (a 0)) (C := RX3) (T := TX3) (N := 8) hx hb hts hinX3 hown hK.1 hP 0 rfl rfl 0 (by decide) (hts (.fieldLink RX3 12 "ParcelShelves" "now" "LParcelShelves$Shop;") (by decide +kernel)) (fun _ h9 => h9) rfl dX3_total_149 ?_
                      refine kz_rdV (As := []) (rest := []) (b := a 0) ⟨hx, hb, hml, hown, hts⟩ (c_X1_feesOnShelves l G a S) (cwV 0 hts gX3_total_X1_feesOnShelves rfl rfl rfl (by decide +kernel) ⟨Nat.le_of_ble_eq_true rfl, Nat.le_of_ble_eq_true rfl⟩) hK (hP.sub (cs := [shW G a S]) [1] rfl) (kz_recv hK hP (ci := 1) (q0 := 1) rfl rfl) rfl hl.1 rfl (Nat.le_of_ble_eq_true rfl) dX3_total_152 ⟨Nat.le_of_ble_eq_true rfl, Nat.le_of_ble_eq_true rfl⟩ ?_
                      subst hQ
                      exact W.iret (v := (X1_feesOnShelves_r S)) hx hb hr (fun t ht _ => ⟨(X1_feesOnShelves_r S), rfl, (by rw [X3_total_r, if_neg c_5, if_neg c_8, if_neg c_11, if_neg c_14, if_neg c_17, if_neg c_20, if_neg c_23, if_neg c_26, if_neg c_32, if_pos c_34]), ht⟩) (fun _ h9 => absurd h9 List.not_mem_nil) dX3_total_155
                    · have c_35 : ¬ p0 = 9 := by rw [← ey_2]; exact c_33
                      refine lv_tableOut (tgt := 156) hx hb dX3_total_1 (by have h0 := lv_neT c_3 (by decide +kernel : (0 : Int32).toInt = 0); have h1 := lv_neT c_6 (by decide +kernel : (1 : Int32).toInt = 1); have h2 := lv_neT c_9 (by decide +kernel : (2 : Int32).toInt = 2); have h3 := lv_neT c_12 (by decide +kernel : (3 : Int32).toInt = 3); have h4 := lv_neT c_15 (by decide +kernel : (4 : Int32).toInt = 4); have h5 := lv_neT c_18 (by decide +kernel : (5 : Int32).toInt = 5); have h6 := lv_neT c_21 (by decide +kernel : (6 : Int32).toInt = 6); have h7 := lv_neT c_24 (by decide +kernel : (7 : Int32).toInt = 7); have h8 := lv_neT c_27 (by decide +kernel : (8 : Int32).toInt = 8); have h9 := lv_neT c_33 (by decide +kernel : (9 : Int32).toInt = 9); omega) (by decide) ?_
                      refine lv_bipush (v := (-2)) hx hb dX3_total_156 (by decide +kernel) ?_
                      subst hQ
                      exact W.iret (v := (-2)) hx hb hr (fun t ht _ => ⟨(-2), rfl, (by rw [X3_total_r, if_neg c_5, if_neg c_8, if_neg c_11, if_neg c_14, if_neg c_17, if_neg c_20, if_neg c_23, if_neg c_26, if_neg c_32, if_neg c_35]), ht⟩) (fun _ h9 => absurd h9 List.not_mem_nil) dX3_total_158
def X3_refusal_r (V : kz_S) (p0 : Int32) : Int32 := if p0 = 0 then (V 6 0) else if p0 = 1 then (V 7 0) else (-2)
set_option maxHeartbeats 4000000 in
set_option maxRecDepth 100000 in
theorem c_X3_refusal (l : Launch) (G : kz_G) (x : Nat) (u0 : Nat) (u1 : Nat) (u2 : Nat) (u3 : Nat) (u4 : Nat) (V : kz_S) (p0 : Int32) : kz_rd l G yX3_refusal wsX3_refusal 0 0 [.ref x, .int p0] [xoW x u0 u1 u2 u3 u4 V] (X3_refusal_r V p0) := by
  refine Met.ofW (cc := cX3_refusal) (maxL := 2) (ret := (some .int)) (by decide) rfl ?_
  intro p e s m args below meth c s₁ B hml hv
  obtain ⟨rfl, hP, hK⟩ := hv
  have hx := B.exec
  have hb := B.bytes
  have hr := B.returns
  have hts := atoms_spec (ws := wsX3_refusal) B.pre
  have hown : s.vm.findClass RX3 = some m.cls := findClass_of_methodNamed B.named
  have hlocks := B.notSynchronized
  have hinX3 : ∀ w ∈ u_ws RX3 TX3 8, w ∈ wsX3_refusal := by decide +kernel
  have hl := lv_entry ([.ref x, .int p0]) (n := 2) (Nat.le_of_ble_eq_true rfl)
  rw [lg_entry_eq]
  generalize (lg_sl ([.ref x, .int p0]) ++ List.replicate (2 - (lg_sl ([.ref x, .int p0])).length) Slot.unset).toArray = ls at hl ⊢
  have hl : lv_has ls 2 [(0, .ref x), (1, .int p0)] := hl
  refine kz_start (fun QQ hQ => ?_)
  refine lv_iload_n hx hb dX3_refusal_0 rfl (lv_at hl 1 rfl) ?_
  refine lv_topi (fun y_1 ey_2 => ?_)
  by_cases c_3 : y_1 = 0
  · have c_4 : p0 = 0 := by rw [← ey_2]; exact c_3
    subst c_3
    refine lv_lookup (off := 27) (tgt := 28) hx hb dX3_refusal_1 (by decide +kernel) (by decide +kernel) (by decide) ?_
    refine lv_aload_n hx hb dX3_refusal_28 rfl (lv_at hl 0 rfl) ?_
    refine va_get (D := G.1) (ci := 3) (v := .int (V 6 0)) (C := RX3) (T := TX3) (N := 8) hx hb hts hinX3 hown hK.1 hP 0 rfl rfl 6 (by decide) (hts (.fieldLink RX3 40 "ParcelShelves" "reason" "I") (by decide +kernel)) (fun _ h9 => h9) rfl dX3_refusal_29 ?_
    subst hQ
    exact W.iret (v := (V 6 0)) hx hb hr (fun t ht _ => ⟨(V 6 0), rfl, (by rw [X3_refusal_r, if_pos c_4]), ht⟩) (fun _ h9 => absurd h9 List.not_mem_nil) dX3_refusal_32
  · have c_5 : ¬ p0 = 0 := by rw [← ey_2]; exact c_3
    by_cases c_6 : y_1 = 1
    · have c_7 : p0 = 1 := by rw [← ey_2]; exact c_6
      subst c_6
      refine lv_lookup (off := 32) (tgt := 33) hx hb dX3_refusal_1 (by decide +kernel) (by decide +kernel) (by decide) ?_
      refine lv_aload_n hx hb dX3_refusal_33 rfl (lv_at hl 0 rfl) ?_
      refine va_get (D := G.1) (ci := 3) (v := .int (V 7 0)) (C := RX3) (T := TX3) (N := 8) hx hb hts hinX3 hown hK.1 hP 0 rfl rfl 7 (by decide) (hts (.fieldLink RX3 44 "ParcelShelves" "behind" "I") (by decide +kernel)) (fun _ h9 => h9) rfl dX3_refusal_34 ?_
      subst hQ
      exact W.iret (v := (V 7 0)) hx hb hr (fun t ht _ => ⟨(V 7 0), rfl, (by rw [X3_refusal_r, if_neg c_5, if_pos c_7]), ht⟩) (fun _ h9 => absurd h9 List.not_mem_nil) dX3_refusal_37
    · have c_8 : ¬ p0 = 1 := by rw [← ey_2]; exact c_6
      refine lv_lookup (off := 37) (tgt := 38) hx hb dX3_refusal_1 (by decide +kernel) (by rw [lv_osw c_3 (by decide +kernel)]; rw [lv_osw c_6 (by decide +kernel)]; rfl) (by decide) ?_
      refine lv_bipush (v := (-2)) hx hb dX3_refusal_38 (by decide +kernel) ?_
      subst hQ
      exact W.iret (v := (-2)) hx hb hr (fun t ht _ => ⟨(-2), rfl, (by rw [X3_refusal_r, if_neg c_5, if_neg c_8]), ht⟩) (fun _ h9 => absurd h9 List.not_mem_nil) dX3_refusal_40
def X3_isCode_r (V : kz_S) (code : Int32) : Int32 := if X3_isWithin_p code 0 9999 then (if (X3_indexOfCode_r code) < 0 then 0 else 1) else (-2)
set_option maxHeartbeats 4000000 in
set_option maxRecDepth 100000 in
theorem c_X3_isCode (l : Launch) (G : kz_G) (x : Nat) (u0 : Nat) (u1 : Nat) (u2 : Nat) (u3 : Nat) (u4 : Nat) (V : kz_S) (code : Int32) : kz_rd l G yX3_isCode wsX3_isCode 3 66 [.ref x, .int code] [xoW x u0 u1 u2 u3 u4 V] (X3_isCode_r V code) := by
  refine Met.ofW (cc := cX3_isCode) (maxL := 2) (ret := (some .int)) (by decide) rfl ?_
  intro p e s m args below meth c s₁ B hml hv
  obtain ⟨rfl, hP, hK⟩ := hv
  have hx := B.exec
  have hb := B.bytes
  have hr := B.returns
  have hts := atoms_spec (ws := wsX3_isCode) B.pre
  have hown : s.vm.findClass RX3 = some m.cls := findClass_of_methodNamed B.named
  have hlocks := B.notSynchronized
  have hl := lv_entry ([.ref x, .int code]) (n := 2) (Nat.le_of_ble_eq_true rfl)
  rw [lg_entry_eq]
  generalize (lg_sl ([.ref x, .int code]) ++ List.replicate (2 - (lg_sl ([.ref x, .int code])).length) Slot.unset).toArray = ls at hl ⊢
  have hl : lv_has ls 2 [(0, .ref x), (1, .int code)] := hl
  refine kz_start (fun QQ hQ => ?_)
  refine lv_iload_n hx hb dX3_isCode_0 rfl (lv_at hl 1 rfl) ?_
  refine lv_iconst (v := 0) hx hb dX3_isCode_1 (by decide +kernel) ?_
  refine lv_sipush (v := 9999) hx hb dX3_isCode_2 (by decide +kernel) ?_
  refine kz_rdS (As := [.int code, .int 0, .int 9999]) (rest := []) ⟨hx, hb, hml, hown, hts⟩ (c_X3_isWithin l G code 0 9999) (va_cwS 3 hts gX3_isCode_X3_isWithin rfl rfl rfl (by decide +kernel) ⟨Nat.le_of_ble_eq_true rfl, Nat.le_of_ble_eq_true rfl⟩) hK (hP.sub (cs := []) [] rfl) rfl hl.1 rfl (Nat.le_of_ble_eq_true rfl) dX3_isCode_5 ⟨Nat.le_of_ble_eq_true rfl, Nat.le_of_ble_eq_true rfl⟩ ?_
  refine lv_topi (fun y_1 ey_2 => ?_)
  by_cases c_3 : X3_isWithin_p code 0 9999
  · rw [if_pos c_3] at ey_2
    subst ey_2
    refine lv_if_ne (tgt := 14) hx hb dX3_isCode_8 (by decide) (fun _ => ?_) (fun c => absurd c (by decide))
    refine lv_iload_n hx hb dX3_isCode_14 rfl (lv_at hl 1 rfl) ?_
    refine kz_rdS (As := [.int code]) (rest := []) ⟨hx, hb, hml, hown, hts⟩ (c_X3_indexOfCode l G code) (va_cwS 1 hts gX3_isCode_X3_indexOfCode rfl rfl rfl (by decide +kernel) ⟨Nat.le_of_ble_eq_true rfl, Nat.le_of_ble_eq_true rfl⟩) hK (hP.sub (cs := []) [] rfl) rfl hl.1 rfl (Nat.le_of_ble_eq_true rfl) dX3_isCode_15 ⟨Nat.le_of_ble_eq_true rfl, Nat.le_of_ble_eq_true rfl⟩ ?_
    refine lv_if_lt (tgt := 25) hx hb dX3_isCode_18 (by decide) (fun c_4 => ?_) (fun c_4 => ?_)
    · refine lv_iconst (v := 0) hx hb dX3_isCode_25 (by decide +kernel) ?_
      subst hQ
      exact W.iret (v := 0) hx hb hr (fun t ht _ => ⟨0, rfl, (by rw [X3_isCode_r, if_pos c_3, if_pos c_4]), ht⟩) (fun _ h9 => absurd h9 List.not_mem_nil) dX3_isCode_26
    · refine lv_iconst (v := 1) hx hb dX3_isCode_21 (by decide +kernel) ?_
      refine lv_goto (tgt := 26) hx hb dX3_isCode_22 (by decide) ?_
      subst hQ
      exact W.iret (v := 1) hx hb hr (fun t ht _ => ⟨1, rfl, (by rw [X3_isCode_r, if_pos c_3, if_neg c_4]), ht⟩) (fun _ h9 => absurd h9 List.not_mem_nil) dX3_isCode_26
  · rw [if_neg c_3] at ey_2
    subst ey_2
    refine lv_if_ne (tgt := 14) hx hb dX3_isCode_8 (by decide) (fun c => absurd c (by decide)) (fun _ => ?_)
    refine lv_bipush (v := (-2)) hx hb dX3_isCode_11 (by decide +kernel) ?_
    subst hQ
    exact W.iret (v := (-2)) hx hb hr (fun t ht _ => ⟨(-2), rfl, (by rw [X3_isCode_r, if_neg c_3]), ht⟩) (fun _ h9 => absurd h9 List.not_mem_nil) dX3_isCode_13
def X3_codeOf_r (V : kz_S) (d : Int32) (k : Int32) (p0 : Int32) : Int32 := if X3_isPlace_p k p0 then (if X3_isWithin_p d 0 9999 then (X3_codeFor_r (X3_weekdayOf_r d) ((k * 8) + p0)) else (-2)) else (-1)
set_option maxHeartbeats 4000000 in
set_option maxRecDepth 100000 in
theorem c_X3_codeOf (l : Launch) (G : kz_G) (x : Nat) (u0 : Nat) (u1 : Nat) (u2 : Nat) (u3 : Nat) (u4 : Nat) (V : kz_S) (d : Int32) (k : Int32) (p0 : Int32) : kz_rd l G yX3_codeOf wsX3_codeOf 2 45 [.ref x, .int d, .int k, .int p0] [xoW x u0 u1 u2 u3 u4 V] (X3_codeOf_r V d k p0) := by
  refine Met.ofW (cc := cX3_codeOf) (maxL := 4) (ret := (some .int)) (by decide) rfl ?_
  intro p e s m args below meth c s₁ B hml hv
  obtain ⟨rfl, hP, hK⟩ := hv
  have hx := B.exec
  have hb := B.bytes
  have hr := B.returns
  have hts := atoms_spec (ws := wsX3_codeOf) B.pre
  have hown : s.vm.findClass RX3 = some m.cls := findClass_of_methodNamed B.named
  have hlocks := B.notSynchronized
  have hl := lv_entry ([.ref x, .int d, .int k, .int p0]) (n := 4) (Nat.le_of_ble_eq_true rfl)
  rw [lg_entry_eq]
  generalize (lg_sl ([.ref x, .int d, .int k, .int p0]) ++ List.replicate (4 - (lg_sl ([.ref x, .int d, .int k, .int p0])).length) Slot.unset).toArray = ls at hl ⊢
  have hl : lv_has ls 4 [(0, .ref x), (1, .int d), (2, .int k), (3, .int p0)] := hl
  refine kz_start (fun QQ hQ => ?_)
  refine lv_iload_n hx hb dX3_codeOf_0 rfl (lv_at hl 2 rfl) ?_
  refine lv_iload_n hx hb dX3_codeOf_1 rfl (lv_at hl 3 rfl) ?_
  refine kz_rdS (As := [.int k, .int p0]) (rest := []) ⟨hx, hb, hml, hown, hts⟩ (c_X3_isPlace l G k p0) (va_cwS 2 hts gX3_codeOf_X3_isPlace rfl rfl rfl (by decide +kernel) ⟨Nat.le_of_ble_eq_true rfl, Nat.le_of_ble_eq_true rfl⟩) hK (hP.sub (cs := []) [] rfl) rfl hl.1 rfl (Nat.le_of_ble_eq_true rfl) dX3_codeOf_2 ⟨Nat.le_of_ble_eq_true rfl, Nat.le_of_ble_eq_true rfl⟩ ?_
  refine lv_topi (fun y_1 ey_2 => ?_)
  by_cases c_3 : X3_isPlace_p k p0
  · rw [if_pos c_3] at ey_2
    subst ey_2
    refine lv_if_ne (tgt := 10) hx hb dX3_codeOf_5 (by decide) (fun _ => ?_) (fun c => absurd c (by decide))
    refine lv_iload_n hx hb dX3_codeOf_10 rfl (lv_at hl 1 rfl) ?_
    refine lv_iconst (v := 0) hx hb dX3_codeOf_11 (by decide +kernel) ?_
    refine lv_sipush (v := 9999) hx hb dX3_codeOf_12 (by decide +kernel) ?_
    refine kz_rdS (As := [.int d, .int 0, .int 9999]) (rest := []) ⟨hx, hb, hml, hown, hts⟩ (c_X3_isWithin l G d 0 9999) (va_cwS 3 hts gX3_codeOf_X3_isWithin rfl rfl rfl (by decide +kernel) ⟨Nat.le_of_ble_eq_true rfl, Nat.le_of_ble_eq_true rfl⟩) hK (hP.sub (cs := []) [] rfl) rfl hl.1 rfl (Nat.le_of_ble_eq_true rfl) dX3_codeOf_15 ⟨Nat.le_of_ble_eq_true rfl, Nat.le_of_ble_eq_true rfl⟩ ?_
    refine lv_topi (fun y_4 ey_5 => ?_)
    by_cases c_6 : X3_isWithin_p d 0 9999
    · rw [if_pos c_6] at ey_5
      subst ey_5
      refine lv_if_ne (tgt := 24) hx hb dX3_codeOf_18 (by decide) (fun _ => ?_) (fun c => absurd c (by decide))
      refine lv_iload_n hx hb dX3_codeOf_24 rfl (lv_at hl 1 rfl) ?_
      refine kz_rdS (As := [.int d]) (rest := []) ⟨hx, hb, hml, hown, hts⟩ (c_X3_weekdayOf l G d) (va_cwS 1 hts gX3_codeOf_X3_weekdayOf rfl rfl rfl (by decide +kernel) ⟨Nat.le_of_ble_eq_true rfl, Nat.le_of_ble_eq_true rfl⟩) hK (hP.sub (cs := []) [] rfl) rfl hl.1 rfl (Nat.le_of_ble_eq_true rfl) dX3_codeOf_25 ⟨Nat.le_of_ble_eq_true rfl, Nat.le_of_ble_eq_true rfl⟩ ?_
      refine lv_iload_n hx hb dX3_codeOf_28 rfl (lv_at hl 2 rfl) ?_
      refine lv_bipush (v := 8) hx hb dX3_codeOf_29 (by decide +kernel) ?_
      refine lv_imul hx hb dX3_codeOf_31 ?_
      refine lv_iload_n hx hb dX3_codeOf_32 rfl (lv_at hl 3 rfl) ?_
      refine lv_iadd hx hb dX3_codeOf_33 ?_
      refine kz_rdS (As := [.int (X3_weekdayOf_r d), .int ((k * 8) + p0)]) (rest := []) ⟨hx, hb, hml, hown, hts⟩ (c_X3_codeFor l G (X3_weekdayOf_r d) ((k * 8) + p0)) (va_cwS 2 hts gX3_codeOf_X3_codeFor rfl rfl rfl (by decide +kernel) ⟨Nat.le_of_ble_eq_true rfl, Nat.le_of_ble_eq_true rfl⟩) hK (hP.sub (cs := []) [] rfl) rfl hl.1 rfl (Nat.le_of_ble_eq_true rfl) dX3_codeOf_34 ⟨Nat.le_of_ble_eq_true rfl, Nat.le_of_ble_eq_true rfl⟩ ?_
      subst hQ
      exact W.iret (v := (X3_codeFor_r (X3_weekdayOf_r d) ((k * 8) + p0))) hx hb hr (fun t ht _ => ⟨(X3_codeFor_r (X3_weekdayOf_r d) ((k * 8) + p0)), rfl, (by rw [X3_codeOf_r, if_pos c_3, if_pos c_6]), ht⟩) (fun _ h9 => absurd h9 List.not_mem_nil) dX3_codeOf_37
    · rw [if_neg c_6] at ey_5
      subst ey_5
      refine lv_if_ne (tgt := 24) hx hb dX3_codeOf_18 (by decide) (fun c => absurd c (by decide)) (fun _ => ?_)
      refine lv_bipush (v := (-2)) hx hb dX3_codeOf_21 (by decide +kernel) ?_
      subst hQ
      exact W.iret (v := (-2)) hx hb hr (fun t ht _ => ⟨(-2), rfl, (by rw [X3_codeOf_r, if_pos c_3, if_neg c_6]), ht⟩) (fun _ h9 => absurd h9 List.not_mem_nil) dX3_codeOf_23
  · rw [if_neg c_3] at ey_2
    subst ey_2
    refine lv_if_ne (tgt := 10) hx hb dX3_codeOf_5 (by decide) (fun c => absurd c (by decide)) (fun _ => ?_)
    refine lv_iconst (v := (-1)) hx hb dX3_codeOf_8 (by decide +kernel) ?_
    subst hQ
    exact W.iret (v := (-1)) hx hb hr (fun t ht _ => ⟨(-1), rfl, (by rw [X3_codeOf_r, if_neg c_3]), ht⟩) (fun _ h9 => absurd h9 List.not_mem_nil) dX3_codeOf_9
def X3_restsUntil_r (V : kz_S) (S : kz_S) (code : Int32) : Int32 := if X3_isWithin_p code 0 9999 then (if (X3_indexOfCode_r code) < 0 then (-6) else if X1_rests_p S (X3_indexOfCode_r code) then (((S 9) (X3_indexOfCode_r code).toNatClampNeg) + ((S 0) 0)) else (-6)) else (-2)
set_option maxHeartbeats 4000000 in
set_option maxRecDepth 100000 in
theorem c_X3_restsUntil (l : Launch) (G : kz_G) (x : Nat) (u1 : Nat) (u2 : Nat) (u3 : Nat) (u4 : Nat) (V : kz_S) (a : Nat → Nat) (S : kz_S) (code : Int32) : kz_rd l G yX3_restsUntil wsX3_restsUntil 3 66 [.ref x, .int code] [xoW x (a 0) u1 u2 u3 u4 V, shW G a S] (X3_restsUntil_r V S code) := by
  refine Met.ofW (cc := cX3_restsUntil) (maxL := 3) (ret := (some .int)) (by decide) rfl ?_
  intro p e s m args below meth c s₁ B hml hv
  obtain ⟨rfl, hP, hK⟩ := hv
  have hx := B.exec
  have hb := B.bytes
  have hr := B.returns
  have hts := atoms_spec (ws := wsX3_restsUntil) B.pre
  have hown : s.vm.findClass RX3 = some m.cls := findClass_of_methodNamed B.named
  have hlocks := B.notSynchronized
  have hinX3 : ∀ w ∈ u_ws RX3 TX3 8, w ∈ wsX3_restsUntil := by decide +kernel
  have hinX1 : ∀ w ∈ u_ws RX1 TX1 14, w ∈ wsX3_restsUntil := by decide +kernel
  have hl := lv_entry ([.ref x, .int code]) (n := 3) (Nat.le_of_ble_eq_true rfl)
  rw [lg_entry_eq]
  generalize (lg_sl ([.ref x, .int code]) ++ List.replicate (3 - (lg_sl ([.ref x, .int code])).length) Slot.unset).toArray = ls at hl ⊢
  have hl : lv_has ls 3 [(0, .ref x), (1, .int code)] := hl
  refine kz_start (fun QQ hQ => ?_)
  refine lv_iload_n hx hb dX3_restsUntil_0 rfl (lv_at hl 1 rfl) ?_
  refine lv_iconst (v := 0) hx hb dX3_restsUntil_1 (by decide +kernel) ?_
  refine lv_sipush (v := 9999) hx hb dX3_restsUntil_2 (by decide +kernel) ?_
  refine kz_rdS (As := [.int code, .int 0, .int 9999]) (rest := []) ⟨hx, hb, hml, hown, hts⟩ (c_X3_isWithin l G code 0 9999) (va_cwS 3 hts gX3_restsUntil_X3_isWithin rfl rfl rfl (by decide +kernel) ⟨Nat.le_of_ble_eq_true rfl, Nat.le_of_ble_eq_true rfl⟩) hK (hP.sub (cs := []) [] rfl) rfl hl.1 rfl (Nat.le_of_ble_eq_true rfl) dX3_restsUntil_5 ⟨Nat.le_of_ble_eq_true rfl, Nat.le_of_ble_eq_true rfl⟩ ?_
  refine lv_topi (fun y_1 ey_2 => ?_)
  by_cases c_3 : X3_isWithin_p code 0 9999
  · rw [if_pos c_3] at ey_2
    subst ey_2
    refine lv_if_ne (tgt := 14) hx hb dX3_restsUntil_8 (by decide) (fun _ => ?_) (fun c => absurd c (by decide))
    refine lv_iload_n hx hb dX3_restsUntil_14 rfl (lv_at hl 1 rfl) ?_
    refine kz_rdS (As := [.int code]) (rest := []) ⟨hx, hb, hml, hown, hts⟩ (c_X3_indexOfCode l G code) (va_cwS 1 hts gX3_restsUntil_X3_indexOfCode rfl rfl rfl (by decide +kernel) ⟨Nat.le_of_ble_eq_true rfl, Nat.le_of_ble_eq_true rfl⟩) hK (hP.sub (cs := []) [] rfl) rfl hl.1 rfl (Nat.le_of_ble_eq_true rfl) dX3_restsUntil_15 ⟨Nat.le_of_ble_eq_true rfl, Nat.le_of_ble_eq_true rfl⟩ ?_
    refine lv_istore_n (lv' := [(2, .int (X3_indexOfCode_r code)), (0, .ref x), (1, .int code)]) hx hb dX3_restsUntil_18 rfl hl (by decide) rfl (fun ls hl => ?_)
    refine lv_iload_n hx hb dX3_restsUntil_19 rfl (lv_at hl 0 rfl) ?_
    refine lv_if_lt (tgt := 34) hx hb dX3_restsUntil_20 (by decide) (fun c_4 => ?_) (fun c_4 => ?_)
    · refine lv_bipush (v := (-6)) hx hb dX3_restsUntil_34 (by decide +kernel) ?_
      subst hQ
      exact W.iret (v := (-6)) hx hb hr (fun t ht _ => ⟨(-6), rfl, (by rw [X3_restsUntil_r, if_pos c_3, if_pos c_4]), ht⟩) (fun _ h9 => absurd h9 List.not_mem_nil) dX3_restsUntil_36
    · refine lv_aload_n hx hb dX3_restsUntil_23 rfl (lv_at hl 1 rfl) ?_
      refine va_get (D := G.1) (ci := 3) (v := .ref (a 0)) (C := RX3) (T := TX3) (N := 8) hx hb hts hinX3 hown hK.1 hP 0 rfl rfl 0 (by decide) (hts (.fieldLink RX3 12 "ParcelShelves" "now" "LParcelShelves$Shop;") (by decide +kernel)) (fun _ h9 => h9) rfl dX3_restsUntil_24 ?_
      refine lv_iload_n hx hb dX3_restsUntil_27 rfl (lv_at hl 0 rfl) ?_
      refine kz_rdV (As := [.int (X3_indexOfCode_r code)]) (rest := []) (b := a 0) ⟨hx, hb, hml, hown, hts⟩ (c_X1_rests l G a S (X3_indexOfCode_r code) (kz_icIn c_4)) (cwV 1 hts gX3_restsUntil_X1_rests rfl rfl rfl (by decide +kernel) ⟨Nat.le_of_ble_eq_true rfl, Nat.le_of_ble_eq_true rfl⟩) hK (hP.sub (cs := [shW G a S]) [1] rfl) (kz_recv hK hP (ci := 1) (q0 := 1) rfl rfl) rfl hl.1 rfl (Nat.le_of_ble_eq_true rfl) dX3_restsUntil_28 ⟨Nat.le_of_ble_eq_true rfl, Nat.le_of_ble_eq_true rfl⟩ ?_
      refine lv_topi (fun y_5 ey_6 => ?_)
      by_cases c_7 : X1_rests_p S (X3_indexOfCode_r code)
      · rw [if_pos c_7] at ey_6
        subst ey_6
        refine lv_if_ne (tgt := 37) hx hb dX3_restsUntil_31 (by decide) (fun _ => ?_) (fun c => absurd c (by decide))
        refine lv_aload_n hx hb dX3_restsUntil_37 rfl (lv_at hl 1 rfl) ?_
        refine va_get (D := G.1) (ci := 3) (v := .ref (a 0)) (C := RX3) (T := TX3) (N := 8) hx hb hts hinX3 hown hK.1 hP 0 rfl rfl 0 (by decide) (hts (.fieldLink RX3 12 "ParcelShelves" "now" "LParcelShelves$Shop;") (by decide +kernel)) (fun _ h9 => h9) rfl dX3_restsUntil_38 ?_
        refine va_get (D := G.1) (ci := 1) (v := .ref (a 6)) (C := RX1) (T := TX1) (N := 14) hx hb hts hinX1 hown hK.1 hP 1 rfl rfl 9 (by decide) (hts (.fieldLink RX3 174 "ParcelShelves$Shop" "leftOn" "[I") (by decide +kernel)) (fun _ h9 => h9) rfl dX3_restsUntil_41 ?_
        refine lv_iload_n hx hb dX3_restsUntil_44 rfl (lv_at hl 0 rfl) ?_
        refine va_iald (f := (S 9)) hx hb hK.1 hP 7 0 rfl rfl (kz_icIn c_4) dX3_restsUntil_45 ?_
        refine lv_aload_n hx hb dX3_restsUntil_46 rfl (lv_at hl 1 rfl) ?_
        refine va_get (D := G.1) (ci := 3) (v := .ref (a 0)) (C := RX3) (T := TX3) (N := 8) hx hb hts hinX3 hown hK.1 hP 0 rfl rfl 0 (by decide) (hts (.fieldLink RX3 12 "ParcelShelves" "now" "LParcelShelves$Shop;") (by decide +kernel)) (fun _ h9 => h9) rfl dX3_restsUntil_47 ?_
        refine va_get (D := G.1) (ci := 1) (v := .ref (a 1)) (C := RX1) (T := TX1) (N := 14) hx hb hts hinX1 hown hK.1 hP 1 rfl rfl 0 (by decide) (hts (.fieldLink RX3 63 "ParcelShelves$Shop" "settings" "[I") (by decide +kernel)) (fun _ h9 => h9) rfl dX3_restsUntil_50 ?_
        refine lv_iconst (v := 0) hx hb dX3_restsUntil_53 (by decide +kernel) ?_
        refine va_iald (f := (S 0)) hx hb hK.1 hP 2 0 rfl rfl (vp_in_nI (n := 0) (N := 5) (by decide) (by decide)) dX3_restsUntil_54 ?_
        refine lv_topi (fun y_8 ey_9 => ?_)
        obtain rfl : y_8 = ((S 0) 0) := by rw [ey_9]; rfl
        refine lv_iadd hx hb dX3_restsUntil_55 ?_
        subst hQ
        exact W.iret (v := (((S 9) (X3_indexOfCode_r code).toNatClampNeg) + ((S 0) 0))) hx hb hr (fun t ht _ => ⟨(((S 9) (X3_indexOfCode_r code).toNatClampNeg) + ((S 0) 0)), rfl, (by rw [X3_restsUntil_r, if_pos c_3, if_neg c_4, if_pos c_7]), ht⟩) (fun _ h9 => absurd h9 List.not_mem_nil) dX3_restsUntil_56
      · rw [if_neg c_7] at ey_6
        subst ey_6
        refine lv_if_ne (tgt := 37) hx hb dX3_restsUntil_31 (by decide) (fun c => absurd c (by decide)) (fun _ => ?_)
        refine lv_bipush (v := (-6)) hx hb dX3_restsUntil_34 (by decide +kernel) ?_
        subst hQ
        exact W.iret (v := (-6)) hx hb hr (fun t ht _ => ⟨(-6), rfl, (by rw [X3_restsUntil_r, if_pos c_3, if_neg c_4, if_neg c_7]), ht⟩) (fun _ h9 => absurd h9 List.not_mem_nil) dX3_restsUntil_36
  · rw [if_neg c_3] at ey_2
    subst ey_2
    refine lv_if_ne (tgt := 14) hx hb dX3_restsUntil_8 (by decide) (fun c => absurd c (by decide)) (fun _ => ?_)
    refine lv_bipush (v := (-2)) hx hb dX3_restsUntil_11 (by decide +kernel) ?_
    subst hQ
    exact W.iret (v := (-2)) hx hb hr (fun t ht _ => ⟨(-2), rfl, (by rw [X3_restsUntil_r, if_neg c_3]), ht⟩) (fun _ h9 => absurd h9 List.not_mem_nil) dX3_restsUntil_13
def X3_nextCode_r (V : kz_S) (S : kz_S) (z : Int32) : Int32 := if X3_isWithin_p z 0 2 then (if (X1_placeToGive_r S (2 * z.toNatClampNeg) 5) = (-1) then (-6) else (X3_codeFor_r (X3_weekdayOf_r (S 1 0)) (X1_placeToGive_r S (2 * z.toNatClampNeg) 5))) else (-2)
set_option maxHeartbeats 4000000 in
set_option maxRecDepth 100000 in
theorem c_X3_nextCode (l : Launch) (G : kz_G) (x : Nat) (u1 : Nat) (u2 : Nat) (u3 : Nat) (u4 : Nat) (V : kz_S) (a : Nat → Nat) (S : kz_S) (z : Int32) (ht : ∃ d, d < 2 ^ 30 ∧ S 1 0 = nI d) : kz_rd l G yX3_nextCode wsX3_nextCode 3 66 [.ref x, .int z] [xoW x (a 0) u1 u2 u3 u4 V, shW G a S] (X3_nextCode_r V S z) := by
  refine Met.ofW (cc := cX3_nextCode) (maxL := 3) (ret := (some .int)) (by decide) rfl ?_
  intro p e s m args below meth c s₁ B hml hv
  obtain ⟨rfl, hP, hK⟩ := hv
  have hx := B.exec
  have hb := B.bytes
  have hr := B.returns
  have hts := atoms_spec (ws := wsX3_nextCode) B.pre
  have hown : s.vm.findClass RX3 = some m.cls := findClass_of_methodNamed B.named
  have hlocks := B.notSynchronized
  have hinX3 : ∀ w ∈ u_ws RX3 TX3 8, w ∈ wsX3_nextCode := by decide +kernel
  have hinX1 : ∀ w ∈ u_ws RX1 TX1 14, w ∈ wsX3_nextCode := by decide +kernel
  have hl := lv_entry ([.ref x, .int z]) (n := 3) (Nat.le_of_ble_eq_true rfl)
  rw [lg_entry_eq]
  generalize (lg_sl ([.ref x, .int z]) ++ List.replicate (3 - (lg_sl ([.ref x, .int z])).length) Slot.unset).toArray = ls at hl ⊢
  have hl : lv_has ls 3 [(0, .ref x), (1, .int z)] := hl
  refine kz_start (fun QQ hQ => ?_)
  refine lv_iload_n hx hb dX3_nextCode_0 rfl (lv_at hl 1 rfl) ?_
  refine lv_iconst (v := 0) hx hb dX3_nextCode_1 (by decide +kernel) ?_
  refine lv_iconst (v := 2) hx hb dX3_nextCode_2 (by decide +kernel) ?_
  refine kz_rdS (As := [.int z, .int 0, .int 2]) (rest := []) ⟨hx, hb, hml, hown, hts⟩ (c_X3_isWithin l G z 0 2) (va_cwS 3 hts gX3_nextCode_X3_isWithin rfl rfl rfl (by decide +kernel) ⟨Nat.le_of_ble_eq_true rfl, Nat.le_of_ble_eq_true rfl⟩) hK (hP.sub (cs := []) [] rfl) rfl hl.1 rfl (Nat.le_of_ble_eq_true rfl) dX3_nextCode_3 ⟨Nat.le_of_ble_eq_true rfl, Nat.le_of_ble_eq_true rfl⟩ ?_
  refine lv_topi (fun y_1 ey_2 => ?_)
  by_cases c_3 : X3_isWithin_p z 0 2
  · rw [if_pos c_3] at ey_2
    subst ey_2
    have hz := (kz_back (kz_wiIn 2 c_3 rfl (by decide)) (by decide)).2
    refine lv_if_ne (tgt := 12) hx hb dX3_nextCode_6 (by decide) (fun _ => ?_) (fun c => absurd c (by decide))
    refine lv_aload_n hx hb dX3_nextCode_12 rfl (lv_at hl 0 rfl) ?_
    refine va_get (D := G.1) (ci := 3) (v := .ref (a 0)) (C := RX3) (T := TX3) (N := 8) hx hb hts hinX3 hown hK.1 hP 0 rfl rfl 0 (by decide) (hts (.fieldLink RX3 12 "ParcelShelves" "now" "LParcelShelves$Shop;") (by decide +kernel)) (fun _ h9 => h9) rfl dX3_nextCode_13 ?_
    refine lv_iload_n hx hb dX3_nextCode_16 rfl (lv_at hl 1 rfl) ?_
    refine kz_rdS (As := [.int z]) (rest := [.ref (a 0)]) ⟨hx, hb, hml, hown, hts⟩ (c_X3_firstShelfFor l G z) (va_cwS 1 hts gX3_nextCode_X3_firstShelfFor rfl rfl rfl (by decide +kernel) ⟨Nat.le_of_ble_eq_true rfl, Nat.le_of_ble_eq_true rfl⟩) hK (hP.sub (cs := []) [] rfl) rfl hl.1 rfl (Nat.le_of_ble_eq_true rfl) dX3_nextCode_17 ⟨Nat.le_of_ble_eq_true rfl, Nat.le_of_ble_eq_true rfl⟩ ?_
    refine lv_topi (fun y_4 ey_5 => ?_)
    obtain rfl : y_4 = (nI (2 * z.toNatClampNeg)) := by rw [ey_5]; exact kz_fs2 c_3
    refine lv_iconst (v := 5) hx hb dX3_nextCode_20 (by decide +kernel) ?_
    refine kz_rdV (As := [.int (nI (2 * z.toNatClampNeg)), .int 5]) (rest := []) (b := a 0) ⟨hx, hb, hml, hown, hts⟩ (c_X1_placeToGive l G a S (2 * z.toNatClampNeg) 5 (by omega) (by omega) (by assumption)) (cwV 2 hts gX3_nextCode_X1_placeToGive rfl rfl rfl (by decide +kernel) ⟨Nat.le_of_ble_eq_true rfl, Nat.le_of_ble_eq_true rfl⟩) hK (hP.sub (cs := [shW G a S]) [1] rfl) (kz_recv hK hP (ci := 1) (q0 := 1) rfl rfl) rfl hl.1 rfl (Nat.le_of_ble_eq_true rfl) dX3_nextCode_21 ⟨Nat.le_of_ble_eq_true rfl, Nat.le_of_ble_eq_true rfl⟩ ?_
    refine lv_istore_n (lv' := [(2, .int (X1_placeToGive_r S (2 * z.toNatClampNeg) 5)), (0, .ref x), (1, .int z)]) hx hb dX3_nextCode_24 rfl hl (by decide) rfl (fun ls hl => ?_)
    refine lv_iload_n hx hb dX3_nextCode_25 rfl (lv_at hl 0 rfl) ?_
    refine lv_iconst (v := (-1)) hx hb dX3_nextCode_26 (by decide +kernel) ?_
    refine lv_icmp_ne (tgt := 35) hx hb dX3_nextCode_27 (by decide) (fun c_6 => ?_) (fun c_6 => ?_)
    · refine lv_aload_n hx hb dX3_nextCode_35 rfl (lv_at hl 1 rfl) ?_
      refine va_get (D := G.1) (ci := 3) (v := .ref (a 0)) (C := RX3) (T := TX3) (N := 8) hx hb hts hinX3 hown hK.1 hP 0 rfl rfl 0 (by decide) (hts (.fieldLink RX3 12 "ParcelShelves" "now" "LParcelShelves$Shop;") (by decide +kernel)) (fun _ h9 => h9) rfl dX3_nextCode_36 ?_
      refine va_get (D := G.1) (ci := 1) (v := .int (S 1 0)) (C := RX1) (T := TX1) (N := 14) hx hb hts hinX1 hown hK.1 hP 1 rfl rfl 1 (by decide) (hts (.fieldLink RX3 85 "ParcelShelves$Shop" "today" "I") (by decide +kernel)) (fun _ h9 => h9) rfl dX3_nextCode_39 ?_
      refine kz_rdS (As := [.int (S 1 0)]) (rest := []) ⟨hx, hb, hml, hown, hts⟩ (c_X3_weekdayOf l G (S 1 0)) (va_cwS 1 hts gX3_nextCode_X3_weekdayOf rfl rfl rfl (by decide +kernel) ⟨Nat.le_of_ble_eq_true rfl, Nat.le_of_ble_eq_true rfl⟩) hK (hP.sub (cs := []) [] rfl) rfl hl.1 rfl (Nat.le_of_ble_eq_true rfl) dX3_nextCode_42 ⟨Nat.le_of_ble_eq_true rfl, Nat.le_of_ble_eq_true rfl⟩ ?_
      refine lv_iload_n hx hb dX3_nextCode_45 rfl (lv_at hl 0 rfl) ?_
      refine kz_rdS (As := [.int (X3_weekdayOf_r (S 1 0)), .int (X1_placeToGive_r S (2 * z.toNatClampNeg) 5)]) (rest := []) ⟨hx, hb, hml, hown, hts⟩ (c_X3_codeFor l G (X3_weekdayOf_r (S 1 0)) (X1_placeToGive_r S (2 * z.toNatClampNeg) 5)) (va_cwS 2 hts gX3_nextCode_X3_codeFor rfl rfl rfl (by decide +kernel) ⟨Nat.le_of_ble_eq_true rfl, Nat.le_of_ble_eq_true rfl⟩) hK (hP.sub (cs := []) [] rfl) rfl hl.1 rfl (Nat.le_of_ble_eq_true rfl) dX3_nextCode_46 ⟨Nat.le_of_ble_eq_true rfl, Nat.le_of_ble_eq_true rfl⟩ ?_
      subst hQ
      exact W.iret (v := (X3_codeFor_r (X3_weekdayOf_r (S 1 0)) (X1_placeToGive_r S (2 * z.toNatClampNeg) 5))) hx hb hr (fun t ht _ => ⟨(X3_codeFor_r (X3_weekdayOf_r (S 1 0)) (X1_placeToGive_r S (2 * z.toNatClampNeg) 5)), rfl, (by rw [X3_nextCode_r, if_pos c_3, if_neg c_6]), ht⟩) (fun _ h9 => absurd h9 List.not_mem_nil) dX3_nextCode_49
    · refine lv_bipush (v := (-6)) hx hb dX3_nextCode_30 (by decide +kernel) ?_
      refine lv_goto (tgt := 49) hx hb dX3_nextCode_32 (by decide) ?_
      subst hQ
      exact W.iret (v := (-6)) hx hb hr (fun t ht _ => ⟨(-6), rfl, (by rw [X3_nextCode_r, if_pos c_3, if_pos c_6]), ht⟩) (fun _ h9 => absurd h9 List.not_mem_nil) dX3_nextCode_49
  · rw [if_neg c_3] at ey_2
    subst ey_2
    refine lv_if_ne (tgt := 12) hx hb dX3_nextCode_6 (by decide) (fun c => absurd c (by decide)) (fun _ => ?_)
    refine lv_bipush (v := (-2)) hx hb dX3_nextCode_9 (by decide +kernel) ?_
    subst hQ
    exact W.iret (v := (-2)) hx hb hr (fun t ht _ => ⟨(-2), rfl, (by rw [X3_nextCode_r, if_neg c_3]), ht⟩) (fun _ h9 => absurd h9 List.not_mem_nil) dX3_nextCode_11
def X3_feeIn_r (V : kz_S) (S : kz_S) (code : Int32) (d : Int32) : Int32 := if (X1_placeWith_r S code) = (-1) then (-1) else if X3_isWithin_p d 0 99 then (X1_feeAfter_r S ((X1_placeWith_r S code).toNatClampNeg) d) else (-2)
set_option maxHeartbeats 4000000 in
set_option maxRecDepth 100000 in
theorem c_X3_feeIn (l : Launch) (G : kz_G) (x : Nat) (u1 : Nat) (u2 : Nat) (u3 : Nat) (u4 : Nat) (V : kz_S) (a : Nat → Nat) (S : kz_S) (code : Int32) (d : Int32) : kz_rd l G yX3_feeIn wsX3_feeIn 4 89 [.ref x, .int code, .int d] [xoW x (a 0) u1 u2 u3 u4 V, shW G a S] (X3_feeIn_r V S code d) := by
  refine Met.ofW (cc := cX3_feeIn) (maxL := 4) (ret := (some .int)) (by decide) rfl ?_
  intro p e s m args below meth c s₁ B hml hv
  obtain ⟨rfl, hP, hK⟩ := hv
  have hx := B.exec
  have hb := B.bytes
  have hr := B.returns
  have hts := atoms_spec (ws := wsX3_feeIn) B.pre
  have hown : s.vm.findClass RX3 = some m.cls := findClass_of_methodNamed B.named
  have hlocks := B.notSynchronized
  have hinX3 : ∀ w ∈ u_ws RX3 TX3 8, w ∈ wsX3_feeIn := by decide +kernel
  have hl := lv_entry ([.ref x, .int code, .int d]) (n := 4) (Nat.le_of_ble_eq_true rfl)
  rw [lg_entry_eq]
  generalize (lg_sl ([.ref x, .int code, .int d]) ++ List.replicate (4 - (lg_sl ([.ref x, .int code, .int d])).length) Slot.unset).toArray = ls at hl ⊢
  have hl : lv_has ls 4 [(0, .ref x), (1, .int code), (2, .int d)] := hl
  refine kz_start (fun QQ hQ => ?_)
  refine lv_aload_n hx hb dX3_feeIn_0 rfl (lv_at hl 0 rfl) ?_
  refine va_get (D := G.1) (ci := 3) (v := .ref (a 0)) (C := RX3) (T := TX3) (N := 8) hx hb hts hinX3 hown hK.1 hP 0 rfl rfl 0 (by decide) (hts (.fieldLink RX3 12 "ParcelShelves" "now" "LParcelShelves$Shop;") (by decide +kernel)) (fun _ h9 => h9) rfl dX3_feeIn_1 ?_
  refine lv_iload_n hx hb dX3_feeIn_4 rfl (lv_at hl 1 rfl) ?_
  refine kz_rdV (As := [.int code]) (rest := []) (b := a 0) ⟨hx, hb, hml, hown, hts⟩ (c_X1_placeWith l G a S code) (cwV 1 hts gX3_feeIn_X1_placeWith rfl rfl rfl (by decide +kernel) ⟨Nat.le_of_ble_eq_true rfl, Nat.le_of_ble_eq_true rfl⟩) hK (hP.sub (cs := [shW G a S]) [1] rfl) (kz_recv hK hP (ci := 1) (q0 := 1) rfl rfl) rfl hl.1 rfl (Nat.le_of_ble_eq_true rfl) dX3_feeIn_5 ⟨Nat.le_of_ble_eq_true rfl, Nat.le_of_ble_eq_true rfl⟩ ?_
  refine lv_istore_n (lv' := [(3, .int (X1_placeWith_r S code)), (0, .ref x), (1, .int code), (2, .int d)]) hx hb dX3_feeIn_8 rfl hl (by decide) rfl (fun ls hl => ?_)
  refine lv_iload_n hx hb dX3_feeIn_9 rfl (lv_at hl 0 rfl) ?_
  refine lv_iconst (v := (-1)) hx hb dX3_feeIn_10 (by decide +kernel) ?_
  refine lv_icmp_ne (tgt := 16) hx hb dX3_feeIn_11 (by decide) (fun c_1 => ?_) (fun c_1 => ?_)
  · obtain ⟨hcv2, hcl2⟩ := kz_back (kz_pwIn c_1) (by decide)
    have hl : lv_has ls 4 [(3, .int (nI (X1_placeWith_r S code).toNatClampNeg)), (0, .ref x), (1, .int code), (2, .int d)] := by rw [← hcv2]; exact hl
    refine lv_iload_n hx hb dX3_feeIn_16 rfl (lv_at hl 3 rfl) ?_
    refine lv_iconst (v := 0) hx hb dX3_feeIn_17 (by decide +kernel) ?_
    refine lv_bipush (v := 99) hx hb dX3_feeIn_18 (by decide +kernel) ?_
    refine kz_rdS (As := [.int d, .int 0, .int 99]) (rest := []) ⟨hx, hb, hml, hown, hts⟩ (c_X3_isWithin l G d 0 99) (va_cwS 3 hts gX3_feeIn_X3_isWithin rfl rfl rfl (by decide +kernel) ⟨Nat.le_of_ble_eq_true rfl, Nat.le_of_ble_eq_true rfl⟩) hK (hP.sub (cs := []) [] rfl) rfl hl.1 rfl (Nat.le_of_ble_eq_true rfl) dX3_feeIn_20 ⟨Nat.le_of_ble_eq_true rfl, Nat.le_of_ble_eq_true rfl⟩ ?_
    refine lv_topi (fun y_3 ey_4 => ?_)
    by_cases c_5 : X3_isWithin_p d 0 99
    · rw [if_pos c_5] at ey_4
      subst ey_4
      refine lv_if_ne (tgt := 29) hx hb dX3_feeIn_23 (by decide) (fun _ => ?_) (fun c => absurd c (by decide))
      refine lv_aload_n hx hb dX3_feeIn_29 rfl (lv_at hl 1 rfl) ?_
      refine va_get (D := G.1) (ci := 3) (v := .ref (a 0)) (C := RX3) (T := TX3) (N := 8) hx hb hts hinX3 hown hK.1 hP 0 rfl rfl 0 (by decide) (hts (.fieldLink RX3 12 "ParcelShelves" "now" "LParcelShelves$Shop;") (by decide +kernel)) (fun _ h9 => h9) rfl dX3_feeIn_30 ?_
      refine lv_iload_n hx hb dX3_feeIn_33 rfl (lv_at hl 0 rfl) ?_
      refine lv_iload_n hx hb dX3_feeIn_34 rfl (lv_at hl 3 rfl) ?_
      refine kz_rdV (As := [.int (nI (X1_placeWith_r S code).toNatClampNeg), .int d]) (rest := []) (b := a 0) ⟨hx, hb, hml, hown, hts⟩ (c_X1_feeAfter l G a S ((X1_placeWith_r S code).toNatClampNeg) d (by omega)) (cwV 2 hts gX3_feeIn_X1_feeAfter rfl rfl rfl (by decide +kernel) ⟨Nat.le_of_ble_eq_true rfl, Nat.le_of_ble_eq_true rfl⟩) hK (hP.sub (cs := [shW G a S]) [1] rfl) (kz_recv hK hP (ci := 1) (q0 := 1) rfl rfl) rfl hl.1 rfl (Nat.le_of_ble_eq_true rfl) dX3_feeIn_35 ⟨Nat.le_of_ble_eq_true rfl, Nat.le_of_ble_eq_true rfl⟩ ?_
      subst hQ
      exact W.iret (v := (X1_feeAfter_r S ((X1_placeWith_r S code).toNatClampNeg) d)) hx hb hr (fun t ht _ => ⟨(X1_feeAfter_r S ((X1_placeWith_r S code).toNatClampNeg) d), rfl, (by rw [X3_feeIn_r, if_neg c_1, if_pos c_5]), ht⟩) (fun _ h9 => absurd h9 List.not_mem_nil) dX3_feeIn_38
    · rw [if_neg c_5] at ey_4
      subst ey_4
      refine lv_if_ne (tgt := 29) hx hb dX3_feeIn_23 (by decide) (fun c => absurd c (by decide)) (fun _ => ?_)
      refine lv_bipush (v := (-2)) hx hb dX3_feeIn_26 (by decide +kernel) ?_
      subst hQ
      exact W.iret (v := (-2)) hx hb hr (fun t ht _ => ⟨(-2), rfl, (by rw [X3_feeIn_r, if_neg c_1, if_neg c_5]), ht⟩) (fun _ h9 => absurd h9 List.not_mem_nil) dX3_feeIn_28
  · refine lv_iconst (v := (-1)) hx hb dX3_feeIn_14 (by decide +kernel) ?_
    subst hQ
    exact W.iret (v := (-1)) hx hb hr (fun t ht _ => ⟨(-1), rfl, (by rw [X3_feeIn_r, if_pos c_1]), ht⟩) (fun _ h9 => absurd h9 List.not_mem_nil) dX3_feeIn_15
