theorem kz_le12 {x : Int32} {n k : Nat} (h : ∃ s, s ≤ n ∧ x = nI s) (hn : n ≤ k) : ∃ s, s ≤ k ∧ x = nI s := by
  obtain ⟨s, hs, e⟩ := h
  exact ⟨s, by omega, e⟩
theorem kz_tyIn {x : Int32} (h : ∃ t, t ≤ 80 ∧ x = nI t) (c : ¬ x = 80) : vp_in x 80 := by
  obtain ⟨t, ht, rfl⟩ := h
  refine vp_in_nI (n := t) (N := 80) ?_ (by decide)
  rcases Nat.lt_or_ge t 80 with h | h
  · exact h
  · exact absurd (by rw [show t = 80 by omega]; rfl) c
theorem kz_spIn {x y : Int32} (h : ∃ s, s ≤ 1000 ∧ x = nI s) (h2 : ∃ t, t ≤ 80 ∧ y = nI t) (c : ¬ y ≤ x) : vp_in x 80 := by
  obtain ⟨s, hs, rfl⟩ := h
  obtain ⟨t, ht, rfl⟩ := h2
  have := kz_gt c (by omega) (by omega)
  exact vp_in_nI (by omega) (by decide)

def X4_append_r (z8 : Nat → Int32) (z9 : Int32) (code : Int32) : Int32 := if X4_in_p code 33 126 then (if z9 = 80 then (-4) else (z9 + 1)) else (-2)
def X4_append_c8 (z8 : Nat → Int32) (z9 : Int32) (code : Int32) : Nat → Int32 := if X4_in_p code 33 126 then (if z9 = 80 then z8 else (upd z8 (z9.toNatClampNeg) (nI code.toNatClampNeg))) else z8
def X4_append_c9 (z8 : Nat → Int32) (z9 : Int32) (code : Int32) : Int32 := if X4_in_p code 33 126 then (if z9 = 80 then z9 else (z9 + 1)) else z9
set_option maxHeartbeats 1000000 in
set_option maxRecDepth 100000 in
theorem c_X4_append (l : Launch) (G : kz_G) (a : Nat → Nat) (M : kz_S) (code : Int32) (hty : ∃ t, t ≤ 80 ∧ M 9 0 = nI t) : kz_mi l G yX4_append wsX4_append 1 22 [.ref (a 0), .int code] [mdW G a M] [mdW G a (va_up (va_up M 8 (X4_append_c8 (M 8) (M 9 0) code)) 9 (fun _ => (X4_append_c9 (M 8) (M 9 0) code)))] (X4_append_r (M 8) (M 9 0) code) := by
  intro sz
  refine Met.ofW (cc := cX4_append) (maxL := 2) (ret := (some .int)) (by decide) rfl ?_
  intro p e s m args below meth c s₁ B hml hv
  obtain ⟨rfl, hsz, hP, hK, hD0⟩ := hv
  have hx := B.exec
  have hb := B.bytes
  have hr := B.returns
  have hts := atoms_spec (ws := wsX4_append) B.pre
  have hown : s.vm.findClass RX4 = some m.cls := findClass_of_methodNamed B.named
  have hlocks := B.notSynchronized
  have hinX4 : ∀ w ∈ u_ws RX4 TX4 14, w ∈ wsX4_append := by decide +kernel
  subst hsz
  have hD := hD0.self (sz := s.heap.size)
  generalize hAe : kz_A [mdW G a M] s.heap.size = A at hD ⊢
  have hA : ∀ q : Nat, s.heap.size ≤ q → A q := fun q h => by rw [← hAe]; exact Or.inr h
  have hS : va_S A s.heap s.heap [] := va_S.rf
  have hl := lv_entry ([.ref (a 0), .int code]) (n := 2) (Nat.le_of_ble_eq_true rfl)
  rw [lg_entry_eq]
  generalize (lg_sl ([.ref (a 0), .int code]) ++ List.replicate (2 - (lg_sl ([.ref (a 0), .int code])).length) Slot.unset).toArray = ls at hl ⊢
  have hl : lv_has ls 2 [(0, .ref (a 0)), (1, .int code)] := hl
  refine kz_start (fun QQ hQ => ?_)
  have hP : kz_P G [mdW G a M] s.heap := hP
  refine lv_iload_n hx hb dX4_append_0 rfl (lv_at hl 1 rfl) ?_
  refine lv_bipush (v := 33) hx hb dX4_append_1 (by decide +kernel) ?_
  refine lv_bipush (v := 126) hx hb dX4_append_3 (by decide +kernel) ?_
  refine kz_rdS (As := [.int code, .int 33, .int 126]) (rest := []) ⟨hx, hb, hml, hown, hts⟩ (c_X4_in l G code 33 126) (va_cwS 3 hts gX4_append_X4_in rfl rfl rfl (by decide +kernel) ⟨Nat.le_of_ble_eq_true rfl, Nat.le_of_ble_eq_true rfl⟩) hK (hP.sub (cs := []) [] rfl) rfl hl.1 rfl (Nat.le_of_ble_eq_true rfl) dX4_append_5 ⟨Nat.le_of_ble_eq_true rfl, Nat.le_of_ble_eq_true rfl⟩ ?_
  refine lv_topi (fun y_1 ey_2 => ?_)
  by_cases c_3 : X4_in_p code 33 126
  · rw [if_pos c_3] at ey_2
    subst ey_2
    refine lv_if_ne (tgt := 14) hx hb dX4_append_8 (by decide) (fun _ => ?_) (fun c => absurd c (by decide))
    refine lv_aload_n hx hb dX4_append_14 rfl (lv_at hl 0 rfl) ?_
    refine va_get (D := G.1) (ci := 4) (v := .int (M 9 0)) (C := RX4) (T := TX4) (N := 14) hx hb hts hinX4 hown hK.1 hP 0 rfl rfl 9 (by decide) (hts (.fieldLink RX4 177 "ParcelShelvesModel" "typed" "I") (by decide +kernel)) (fun _ h9 => h9) rfl dX4_append_15 ?_
    refine lv_bipush (v := 80) hx hb dX4_append_18 (by decide +kernel) ?_
    refine lv_icmp_ne (tgt := 26) hx hb dX4_append_20 (by decide) (fun c_4 => ?_) (fun c_4 => ?_)
    · obtain ⟨hce, hcb⟩ := kz_chrN c_3
      refine lv_aload_n hx hb dX4_append_26 rfl (lv_at hl 0 rfl) ?_
      refine va_get (D := G.1) (ci := 4) (v := .ref (a 5)) (C := RX4) (T := TX4) (N := 14) hx hb hts hinX4 hown hK.1 hP 0 rfl rfl 8 (by decide) (hts (.fieldLink RX4 29 "ParcelShelvesModel" "buffer" "[C") (by decide +kernel)) (fun _ h9 => h9) rfl dX4_append_27 ?_
      refine lv_aload_n hx hb dX4_append_30 rfl (lv_at hl 0 rfl) ?_
      refine va_get (D := G.1) (ci := 4) (v := .int (M 9 0)) (C := RX4) (T := TX4) (N := 14) hx hb hts hinX4 hown hK.1 hP 0 rfl rfl 9 (by decide) (hts (.fieldLink RX4 177 "ParcelShelvesModel" "typed" "I") (by decide +kernel)) (fun _ h9 => h9) rfl dX4_append_31 ?_
      refine lv_iload_n hx hb dX4_append_34 rfl (lv_at hl 1 rfl) ?_
      refine lv_i2c (v := (kz_chr code)) hx hb dX4_append_35 rfl ?_
      refine lv_topi (fun y_5 ey_6 => ?_)
      obtain rfl : y_5 = (nI code.toNatClampNeg) := by rw [ey_6]; exact hce
      refine va_cast hx hb hK.1 hP hD hS 5 1 rfl rfl (kz_tyIn hty c_4) dX4_append_36 (fun H locs hP hD hS => ?_)
      rw [kz_narC (n := code.toNatClampNeg) (by omega)] at hP hD
      have hP : kz_P G [mdW G a (va_up M 8 (upd (M 8) ((M 9 0).toNatClampNeg) (nI code.toNatClampNeg)))] H := hP
      have hD : kz_D A [mdW G a (va_up M 8 (upd (M 8) ((M 9 0).toNatClampNeg) (nI code.toNatClampNeg)))] := hD
      refine lv_aload_n hx hb dX4_append_37 rfl (lv_at hl 0 rfl) ?_
      refine lv_dup hx hb dX4_append_38 rfl ?_
      refine va_get (D := G.1) (ci := 4) (v := .int (M 9 0)) (C := RX4) (T := TX4) (N := 14) hx hb hts hinX4 hown hK.1 hP 0 rfl rfl 9 (by decide) (hts (.fieldLink RX4 177 "ParcelShelvesModel" "typed" "I") (by decide +kernel)) (fun _ h9 => h9) rfl dX4_append_39 ?_
      refine lv_iconst (v := 1) hx hb dX4_append_42 (by decide +kernel) ?_
      refine lv_iadd hx hb dX4_append_43 ?_
      refine va_put (D := G.1) (ci := 4) (v := .int ((M 9 0) + 1)) (ty := .int) (C := RX4) (T := TX4) (N := 14) hx hb hts hinX4 tyX4 tyX4_ok nmX4 hown hK.1 hP hD hS 0 rfl rfl 9 (by decide) (hts (.fieldLink RX4 177 "ParcelShelvesModel" "typed" "I") (by decide +kernel)) (fun _ h9 => h9) rfl (by decide +kernel) rfl rfl (Nat.le_of_ble_eq_true rfl) dX4_append_44 (fun H locs hP hD hS => ?_)
      have hP : kz_P G [mdW G a (va_up (va_up M 8 (upd (M 8) ((M 9 0).toNatClampNeg) (nI code.toNatClampNeg))) 9 (fun _ => ((M 9 0) + 1)))] H := hP
      have hD : kz_D A [mdW G a (va_up (va_up M 8 (upd (M 8) ((M 9 0).toNatClampNeg) (nI code.toNatClampNeg))) 9 (fun _ => ((M 9 0) + 1)))] := hD
      refine lv_aload_n hx hb dX4_append_47 rfl (lv_at hl 0 rfl) ?_
      refine va_get (D := G.1) (ci := 4) (v := .int ((M 9 0) + 1)) (C := RX4) (T := TX4) (N := 14) hx hb hts hinX4 hown hK.1 hP 0 rfl rfl 9 (by decide) (hts (.fieldLink RX4 177 "ParcelShelvesModel" "typed" "I") (by decide +kernel)) (fun _ h9 => h9) rfl dX4_append_48 ?_
      subst hQ
      have hP9 : kz_P G [mdW G a (va_up (va_up M 8 (X4_append_c8 (M 8) (M 9 0) code)) 9 (fun _ => (X4_append_c9 (M 8) (M 9 0) code)))] H := by rw [X4_append_c8, if_pos c_3, if_neg c_4]; rw [X4_append_c9, if_pos c_3, if_neg c_4]; exact hP
      have hD9 : kz_D A [mdW G a (va_up (va_up M 8 (X4_append_c8 (M 8) (M 9 0) code)) 9 (fun _ => (X4_append_c9 (M 8) (M 9 0) code)))] := by rw [X4_append_c8, if_pos c_3, if_neg c_4]; rw [X4_append_c9, if_pos c_3, if_neg c_4]; exact hD
      exact W.iret (v := ((M 9 0) + 1)) hx hb hr (fun t ht hW => ⟨⟨((M 9 0) + 1), (), rfl, (by rw [X4_append_r, if_pos c_3, if_neg c_4]), by rw [ht]; exact hP9, hD9⟩, hS.F ht⟩) hS.2.2 dX4_append_51
    · refine lv_bipush (v := (-4)) hx hb dX4_append_23 (by decide +kernel) ?_
      subst hQ
      have hP9 : kz_P G [mdW G a (va_up (va_up M 8 (X4_append_c8 (M 8) (M 9 0) code)) 9 (fun _ => (X4_append_c9 (M 8) (M 9 0) code)))] s.heap := by rw [X4_append_c8, if_pos c_3, if_pos c_4]; rw [X4_append_c9, if_pos c_3, if_pos c_4]; exact hP
      have hD9 : kz_D A [mdW G a (va_up (va_up M 8 (X4_append_c8 (M 8) (M 9 0) code)) 9 (fun _ => (X4_append_c9 (M 8) (M 9 0) code)))] := by rw [X4_append_c8, if_pos c_3, if_pos c_4]; rw [X4_append_c9, if_pos c_3, if_pos c_4]; exact hD
      exact W.iret (v := (-4)) hx hb hr (fun t ht hW => ⟨⟨(-4), (), rfl, (by rw [X4_append_r, if_pos c_3, if_pos c_4]), by rw [ht]; exact hP9, hD9⟩, hS.F ht⟩) hS.2.2 dX4_append_25
  · rw [if_neg c_3] at ey_2
    subst ey_2
    refine lv_if_ne (tgt := 14) hx hb dX4_append_8 (by decide) (fun c => absurd c (by decide)) (fun _ => ?_)
    refine lv_bipush (v := (-2)) hx hb dX4_append_11 (by decide +kernel) ?_
    subst hQ
    have hP9 : kz_P G [mdW G a (va_up (va_up M 8 (X4_append_c8 (M 8) (M 9 0) code)) 9 (fun _ => (X4_append_c9 (M 8) (M 9 0) code)))] s.heap := by rw [X4_append_c8, if_neg c_3]; rw [X4_append_c9, if_neg c_3]; exact hP
    have hD9 : kz_D A [mdW G a (va_up (va_up M 8 (X4_append_c8 (M 8) (M 9 0) code)) 9 (fun _ => (X4_append_c9 (M 8) (M 9 0) code)))] := by rw [X4_append_c8, if_neg c_3]; rw [X4_append_c9, if_neg c_3]; exact hD
    exact W.iret (v := (-2)) hx hb hr (fun t ht hW => ⟨⟨(-2), (), rfl, (by rw [X4_append_r, if_neg c_3]), by rw [ht]; exact hP9, hD9⟩, hS.F ht⟩) hS.2.2 dX4_append_13
def X4_clearText_r (z9 : Int32) : Int32 := z9
def X4_clearText_c9 (z9 : Int32) : Int32 := 0
set_option maxHeartbeats 1000000 in
set_option maxRecDepth 100000 in
theorem c_X4_clearText (l : Launch) (G : kz_G) (a : Nat → Nat) (M : kz_S) : kz_mi l G yX4_clearText wsX4_clearText 0 0 [.ref (a 0)] [mdW G a M] [mdW G a (va_up M 9 (fun _ => (X4_clearText_c9 (M 9 0))))] (X4_clearText_r (M 9 0)) := by
  intro sz
  refine Met.ofW (cc := cX4_clearText) (maxL := 2) (ret := (some .int)) (by decide) rfl ?_
  intro p e s m args below meth c s₁ B hml hv
  obtain ⟨rfl, hsz, hP, hK, hD0⟩ := hv
  have hx := B.exec
  have hb := B.bytes
  have hr := B.returns
  have hts := atoms_spec (ws := wsX4_clearText) B.pre
  have hown : s.vm.findClass RX4 = some m.cls := findClass_of_methodNamed B.named
  have hlocks := B.notSynchronized
  have hinX4 : ∀ w ∈ u_ws RX4 TX4 14, w ∈ wsX4_clearText := by decide +kernel
  subst hsz
  have hD := hD0.self (sz := s.heap.size)
  generalize hAe : kz_A [mdW G a M] s.heap.size = A at hD ⊢
  have hA : ∀ q : Nat, s.heap.size ≤ q → A q := fun q h => by rw [← hAe]; exact Or.inr h
  have hS : va_S A s.heap s.heap [] := va_S.rf
  have hl := lv_entry ([.ref (a 0)]) (n := 2) (Nat.le_of_ble_eq_true rfl)
  rw [lg_entry_eq]
  generalize (lg_sl ([.ref (a 0)]) ++ List.replicate (2 - (lg_sl ([.ref (a 0)])).length) Slot.unset).toArray = ls at hl ⊢
  have hl : lv_has ls 2 [(0, .ref (a 0))] := hl
  refine kz_start (fun QQ hQ => ?_)
  have hP : kz_P G [mdW G a M] s.heap := hP
  refine lv_aload_n hx hb dX4_clearText_0 rfl (lv_at hl 0 rfl) ?_
  refine va_get (D := G.1) (ci := 4) (v := .int (M 9 0)) (C := RX4) (T := TX4) (N := 14) hx hb hts hinX4 hown hK.1 hP 0 rfl rfl 9 (by decide) (hts (.fieldLink RX4 177 "ParcelShelvesModel" "typed" "I") (by decide +kernel)) (fun _ h9 => h9) rfl dX4_clearText_1 ?_
  refine lv_istore_n (lv' := [(1, .int (M 9 0)), (0, .ref (a 0))]) hx hb dX4_clearText_4 rfl hl (by decide) rfl (fun ls hl => ?_)
  refine lv_aload_n hx hb dX4_clearText_5 rfl (lv_at hl 1 rfl) ?_
  refine lv_iconst (v := 0) hx hb dX4_clearText_6 (by decide +kernel) ?_
  refine va_put (D := G.1) (ci := 4) (v := .int 0) (ty := .int) (C := RX4) (T := TX4) (N := 14) hx hb hts hinX4 tyX4 tyX4_ok nmX4 hown hK.1 hP hD hS 0 rfl rfl 9 (by decide) (hts (.fieldLink RX4 177 "ParcelShelvesModel" "typed" "I") (by decide +kernel)) (fun _ h9 => h9) rfl (by decide +kernel) rfl rfl (Nat.le_of_ble_eq_true rfl) dX4_clearText_7 (fun H locs hP hD hS => ?_)
  have hP : kz_P G [mdW G a (va_up M 9 (fun _ => 0))] H := hP
  have hD : kz_D A [mdW G a (va_up M 9 (fun _ => 0))] := hD
  refine lv_iload_n hx hb dX4_clearText_10 rfl (lv_at hl 0 rfl) ?_
  subst hQ
  have hP9 : kz_P G [mdW G a (va_up M 9 (fun _ => (X4_clearText_c9 (M 9 0))))] H := hP
  have hD9 : kz_D A [mdW G a (va_up M 9 (fun _ => (X4_clearText_c9 (M 9 0))))] := hD
  exact W.iret (v := (M 9 0)) hx hb hr (fun t ht hW => ⟨⟨(M 9 0), (), rfl, rfl, by rw [ht]; exact hP9, hD9⟩, hS.F ht⟩) hS.2.2 dX4_clearText_11
def X4_letter_r (z8 : Nat → Int32) (z9 : Int32) (z12 : Int32) : Int32 := if z9 ≤ z12 then (-6) else (z8 z12.toNatClampNeg)
set_option maxHeartbeats 1000000 in
set_option maxRecDepth 100000 in
theorem c_X4_letter (l : Launch) (G : kz_G) (a : Nat → Nat) (M : kz_S) (hsp : ∃ s, s ≤ 1000 ∧ M 12 0 = nI s) (hty : ∃ t, t ≤ 80 ∧ M 9 0 = nI t) : kz_rd l G yX4_letter wsX4_letter 0 0 [.ref (a 0)] [mdW G a M] (X4_letter_r (M 8) (M 9 0) (M 12 0)) := by
  refine Met.ofW (cc := cX4_letter) (maxL := 1) (ret := (some .int)) (by decide) rfl ?_
  intro p e s m args below meth c s₁ B hml hv
  obtain ⟨rfl, hP, hK⟩ := hv
  have hx := B.exec
  have hb := B.bytes
  have hr := B.returns
  have hts := atoms_spec (ws := wsX4_letter) B.pre
  have hown : s.vm.findClass RX4 = some m.cls := findClass_of_methodNamed B.named
  have hlocks := B.notSynchronized
  have hinX4 : ∀ w ∈ u_ws RX4 TX4 14, w ∈ wsX4_letter := by decide +kernel
  have hl := lv_entry ([.ref (a 0)]) (n := 1) (Nat.le_of_ble_eq_true rfl)
  rw [lg_entry_eq]
  generalize (lg_sl ([.ref (a 0)]) ++ List.replicate (1 - (lg_sl ([.ref (a 0)])).length) Slot.unset).toArray = ls at hl ⊢
  have hl : lv_has ls 1 [(0, .ref (a 0))] := hl
  refine kz_start (fun QQ hQ => ?_)
  refine lv_aload_n hx hb dX4_letter_0 rfl (lv_at hl 0 rfl) ?_
  refine va_get (D := G.1) (ci := 4) (v := .int (M 12 0)) (C := RX4) (T := TX4) (N := 14) hx hb hts hinX4 hown hK.1 hP 0 rfl rfl 12 (by decide) (hts (.fieldLink RX4 180 "ParcelShelvesModel" "spot" "I") (by decide +kernel)) (fun _ h9 => h9) rfl dX4_letter_1 ?_
  refine lv_aload_n hx hb dX4_letter_4 rfl (lv_at hl 0 rfl) ?_
  refine va_get (D := G.1) (ci := 4) (v := .int (M 9 0)) (C := RX4) (T := TX4) (N := 14) hx hb hts hinX4 hown hK.1 hP 0 rfl rfl 9 (by decide) (hts (.fieldLink RX4 177 "ParcelShelvesModel" "typed" "I") (by decide +kernel)) (fun _ h9 => h9) rfl dX4_letter_5 ?_
  refine lv_icmp_ge (tgt := 23) hx hb dX4_letter_8 (by decide) (fun c_1 => ?_) (fun c_1 => ?_)
  · refine lv_bipush (v := (-6)) hx hb dX4_letter_23 (by decide +kernel) ?_
    subst hQ
    exact W.iret (v := (-6)) hx hb hr (fun t ht _ => ⟨(-6), rfl, (by rw [X4_letter_r, if_pos c_1]), ht⟩) (fun _ h9 => absurd h9 List.not_mem_nil) dX4_letter_25
  · refine lv_aload_n hx hb dX4_letter_11 rfl (lv_at hl 0 rfl) ?_
    refine va_get (D := G.1) (ci := 4) (v := .ref (a 5)) (C := RX4) (T := TX4) (N := 14) hx hb hts hinX4 hown hK.1 hP 0 rfl rfl 8 (by decide) (hts (.fieldLink RX4 29 "ParcelShelvesModel" "buffer" "[C") (by decide +kernel)) (fun _ h9 => h9) rfl dX4_letter_12 ?_
    refine lv_aload_n hx hb dX4_letter_15 rfl (lv_at hl 0 rfl) ?_
    refine va_get (D := G.1) (ci := 4) (v := .int (M 12 0)) (C := RX4) (T := TX4) (N := 14) hx hb hts hinX4 hown hK.1 hP 0 rfl rfl 12 (by decide) (hts (.fieldLink RX4 180 "ParcelShelvesModel" "spot" "I") (by decide +kernel)) (fun _ h9 => h9) rfl dX4_letter_16 ?_
    refine va_cald (f := (M 8)) hx hb hK.1 hP 5 1 rfl rfl (kz_spIn hsp hty c_1) dX4_letter_19 ?_
    refine lv_goto (tgt := 25) hx hb dX4_letter_20 (by decide) ?_
    subst hQ
    exact W.iret (v := ((M 8) (M 12 0).toNatClampNeg)) hx hb hr (fun t ht _ => ⟨((M 8) (M 12 0).toNatClampNeg), rfl, (by rw [X4_letter_r, if_neg c_1]), ht⟩) (fun _ h9 => absurd h9 List.not_mem_nil) dX4_letter_25
def X4_wants_c12 (z12 : Int32) (z13 : Int32) (bb : Int32) : Int32 := if z13 = (-6) then (if bb = 0 then (z12 + 1) else (z12 + 1)) else z12
def X4_wants_c13 (z12 : Int32) (z13 : Int32) (bb : Int32) : Int32 := if z13 = (-6) then (if bb = 0 then z12 else (-6)) else z13
set_option maxHeartbeats 1000000 in
set_option maxRecDepth 100000 in
theorem c_X4_wants (l : Launch) (G : kz_G) (a : Nat → Nat) (M : kz_S) (bb : Int32) : kz_mv l G yX4_wants wsX4_wants 0 0 [.ref (a 0), .int bb] [mdW G a M] [mdW G a (va_up (va_up M 12 (fun _ => (X4_wants_c12 (M 12 0) (M 13 0) bb))) 13 (fun _ => (X4_wants_c13 (M 12 0) (M 13 0) bb)))] := by
  intro sz
  refine Met.ofW (cc := cX4_wants) (maxL := 2) (ret := none) (by decide) rfl ?_
  intro p e s m args below meth c s₁ B hml hv
  obtain ⟨rfl, hsz, hP, hK, hD0⟩ := hv
  have hx := B.exec
  have hb := B.bytes
  have hr := B.returns
  have hts := atoms_spec (ws := wsX4_wants) B.pre
  have hown : s.vm.findClass RX4 = some m.cls := findClass_of_methodNamed B.named
  have hlocks := B.notSynchronized
  have hinX4 : ∀ w ∈ u_ws RX4 TX4 14, w ∈ wsX4_wants := by decide +kernel
  subst hsz
  have hD := hD0.self (sz := s.heap.size)
  generalize hAe : kz_A [mdW G a M] s.heap.size = A at hD ⊢
  have hA : ∀ q : Nat, s.heap.size ≤ q → A q := fun q h => by rw [← hAe]; exact Or.inr h
  have hS : va_S A s.heap s.heap [] := va_S.rf
  have hl := lv_entry ([.ref (a 0), .int bb]) (n := 2) (Nat.le_of_ble_eq_true rfl)
  rw [lg_entry_eq]
  generalize (lg_sl ([.ref (a 0), .int bb]) ++ List.replicate (2 - (lg_sl ([.ref (a 0), .int bb])).length) Slot.unset).toArray = ls at hl ⊢
  have hl : lv_has ls 2 [(0, .ref (a 0)), (1, .int bb)] := hl
  refine kz_start (fun QQ hQ => ?_)
  have hP : kz_P G [mdW G a M] s.heap := hP
  refine lv_aload_n hx hb dX4_wants_0 rfl (lv_at hl 0 rfl) ?_
  refine va_get (D := G.1) (ci := 4) (v := .int (M 13 0)) (C := RX4) (T := TX4) (N := 14) hx hb hts hinX4 hown hK.1 hP 0 rfl rfl 13 (by decide) (hts (.fieldLink RX4 183 "ParcelShelvesModel" "wrong" "I") (by decide +kernel)) (fun _ h9 => h9) rfl dX4_wants_1 ?_
  refine lv_bipush (v := (-6)) hx hb dX4_wants_4 (by decide +kernel) ?_
  refine lv_icmp_ne (tgt := 36) hx hb dX4_wants_6 (by decide) (fun c_1 => ?_) (fun c_1 => ?_)
  · subst hQ
    have hP9 : kz_P G [mdW G a (va_up (va_up M 12 (fun _ => (X4_wants_c12 (M 12 0) (M 13 0) bb))) 13 (fun _ => (X4_wants_c13 (M 12 0) (M 13 0) bb)))] s.heap := by rw [X4_wants_c12, if_neg c_1]; rw [X4_wants_c13, if_neg c_1]; exact hP
    have hD9 : kz_D A [mdW G a (va_up (va_up M 12 (fun _ => (X4_wants_c12 (M 12 0) (M 13 0) bb))) 13 (fun _ => (X4_wants_c13 (M 12 0) (M 13 0) bb)))] := by rw [X4_wants_c12, if_neg c_1]; rw [X4_wants_c13, if_neg c_1]; exact hD
    exact W.vret hx hb hr (fun t ht hW => ⟨⟨(), rfl, trivial, by rw [ht]; exact hP9, hD9⟩, hS.F ht⟩) hS.2.2 dX4_wants_36
  · refine lv_aload_n hx hb dX4_wants_9 rfl (lv_at hl 0 rfl) ?_
    refine lv_iload_n hx hb dX4_wants_10 rfl (lv_at hl 1 rfl) ?_
    refine lv_if_eq (tgt := 19) hx hb dX4_wants_11 (by decide) (fun c_2 => ?_) (fun c_2 => ?_)
    · refine lv_aload_n hx hb dX4_wants_19 rfl (lv_at hl 0 rfl) ?_
      refine va_get (D := G.1) (ci := 4) (v := .int (M 12 0)) (C := RX4) (T := TX4) (N := 14) hx hb hts hinX4 hown hK.1 hP 0 rfl rfl 12 (by decide) (hts (.fieldLink RX4 180 "ParcelShelvesModel" "spot" "I") (by decide +kernel)) (fun _ h9 => h9) rfl dX4_wants_20 ?_
      refine va_put (D := G.1) (ci := 4) (v := .int (M 12 0)) (ty := .int) (C := RX4) (T := TX4) (N := 14) hx hb hts hinX4 tyX4 tyX4_ok nmX4 hown hK.1 hP hD hS 0 rfl rfl 13 (by decide) (hts (.fieldLink RX4 183 "ParcelShelvesModel" "wrong" "I") (by decide +kernel)) (fun _ h9 => h9) rfl (by decide +kernel) rfl rfl (Nat.le_of_ble_eq_true rfl) dX4_wants_23 (fun H locs hP hD hS => ?_)
      have hP : kz_P G [mdW G a (va_up M 13 (fun _ => (M 12 0)))] H := hP
      have hD : kz_D A [mdW G a (va_up M 13 (fun _ => (M 12 0)))] := hD
      refine lv_aload_n hx hb dX4_wants_26 rfl (lv_at hl 0 rfl) ?_
      refine lv_dup hx hb dX4_wants_27 rfl ?_
      refine va_get (D := G.1) (ci := 4) (v := .int (M 12 0)) (C := RX4) (T := TX4) (N := 14) hx hb hts hinX4 hown hK.1 hP 0 rfl rfl 12 (by decide) (hts (.fieldLink RX4 180 "ParcelShelvesModel" "spot" "I") (by decide +kernel)) (fun _ h9 => h9) rfl dX4_wants_28 ?_
      refine lv_iconst (v := 1) hx hb dX4_wants_31 (by decide +kernel) ?_
      refine lv_iadd hx hb dX4_wants_32 ?_
      refine va_put (D := G.1) (ci := 4) (v := .int ((M 12 0) + 1)) (ty := .int) (C := RX4) (T := TX4) (N := 14) hx hb hts hinX4 tyX4 tyX4_ok nmX4 hown hK.1 hP hD hS 0 rfl rfl 12 (by decide) (hts (.fieldLink RX4 180 "ParcelShelvesModel" "spot" "I") (by decide +kernel)) (fun _ h9 => h9) rfl (by decide +kernel) rfl rfl (Nat.le_of_ble_eq_true rfl) dX4_wants_33 (fun H locs hP hD hS => ?_)
      have hP : kz_P G [mdW G a (va_up (va_up M 13 (fun _ => (M 12 0))) 12 (fun _ => ((M 12 0) + 1)))] H := hP
      have hD : kz_D A [mdW G a (va_up (va_up M 13 (fun _ => (M 12 0))) 12 (fun _ => ((M 12 0) + 1)))] := hD
      subst hQ
      have hP9 : kz_P G [mdW G a (va_up (va_up M 12 (fun _ => (X4_wants_c12 (M 12 0) (M 13 0) bb))) 13 (fun _ => (X4_wants_c13 (M 12 0) (M 13 0) bb)))] H := by rw [X4_wants_c12, if_pos c_1, if_pos c_2]; rw [X4_wants_c13, if_pos c_1, if_pos c_2]; exact hP
      have hD9 : kz_D A [mdW G a (va_up (va_up M 12 (fun _ => (X4_wants_c12 (M 12 0) (M 13 0) bb))) 13 (fun _ => (X4_wants_c13 (M 12 0) (M 13 0) bb)))] := by rw [X4_wants_c12, if_pos c_1, if_pos c_2]; rw [X4_wants_c13, if_pos c_1, if_pos c_2]; exact hD
      exact W.vret hx hb hr (fun t ht hW => ⟨⟨(), rfl, trivial, by rw [ht]; exact hP9, hD9⟩, hS.F ht⟩) hS.2.2 dX4_wants_36
    · refine lv_bipush (v := (-6)) hx hb dX4_wants_14 (by decide +kernel) ?_
      refine lv_goto (tgt := 23) hx hb dX4_wants_16 (by decide) ?_
      refine va_put (D := G.1) (ci := 4) (v := .int (-6)) (ty := .int) (C := RX4) (T := TX4) (N := 14) hx hb hts hinX4 tyX4 tyX4_ok nmX4 hown hK.1 hP hD hS 0 rfl rfl 13 (by decide) (hts (.fieldLink RX4 183 "ParcelShelvesModel" "wrong" "I") (by decide +kernel)) (fun _ h9 => h9) rfl (by decide +kernel) rfl rfl (Nat.le_of_ble_eq_true rfl) dX4_wants_23 (fun H locs hP hD hS => ?_)
      have hP : kz_P G [mdW G a (va_up M 13 (fun _ => (-6)))] H := hP
      have hD : kz_D A [mdW G a (va_up M 13 (fun _ => (-6)))] := hD
      refine lv_aload_n hx hb dX4_wants_26 rfl (lv_at hl 0 rfl) ?_
      refine lv_dup hx hb dX4_wants_27 rfl ?_
      refine va_get (D := G.1) (ci := 4) (v := .int (M 12 0)) (C := RX4) (T := TX4) (N := 14) hx hb hts hinX4 hown hK.1 hP 0 rfl rfl 12 (by decide) (hts (.fieldLink RX4 180 "ParcelShelvesModel" "spot" "I") (by decide +kernel)) (fun _ h9 => h9) rfl dX4_wants_28 ?_
      refine lv_iconst (v := 1) hx hb dX4_wants_31 (by decide +kernel) ?_
      refine lv_iadd hx hb dX4_wants_32 ?_
      refine va_put (D := G.1) (ci := 4) (v := .int ((M 12 0) + 1)) (ty := .int) (C := RX4) (T := TX4) (N := 14) hx hb hts hinX4 tyX4 tyX4_ok nmX4 hown hK.1 hP hD hS 0 rfl rfl 12 (by decide) (hts (.fieldLink RX4 180 "ParcelShelvesModel" "spot" "I") (by decide +kernel)) (fun _ h9 => h9) rfl (by decide +kernel) rfl rfl (Nat.le_of_ble_eq_true rfl) dX4_wants_33 (fun H locs hP hD hS => ?_)
      have hP : kz_P G [mdW G a (va_up (va_up M 13 (fun _ => (-6))) 12 (fun _ => ((M 12 0) + 1)))] H := hP
      have hD : kz_D A [mdW G a (va_up (va_up M 13 (fun _ => (-6))) 12 (fun _ => ((M 12 0) + 1)))] := hD
      subst hQ
      have hP9 : kz_P G [mdW G a (va_up (va_up M 12 (fun _ => (X4_wants_c12 (M 12 0) (M 13 0) bb))) 13 (fun _ => (X4_wants_c13 (M 12 0) (M 13 0) bb)))] H := by rw [X4_wants_c12, if_pos c_1, if_neg c_2]; rw [X4_wants_c13, if_pos c_1, if_neg c_2]; exact hP
      have hD9 : kz_D A [mdW G a (va_up (va_up M 12 (fun _ => (X4_wants_c12 (M 12 0) (M 13 0) bb))) 13 (fun _ => (X4_wants_c13 (M 12 0) (M 13 0) bb)))] := by rw [X4_wants_c12, if_pos c_1, if_neg c_2]; rw [X4_wants_c13, if_pos c_1, if_neg c_2]; exact hD
      exact W.vret hx hb hr (fun t ht hW => ⟨⟨(), rfl, trivial, by rw [ht]; exact hP9, hD9⟩, hS.F ht⟩) hS.2.2 dX4_wants_36
theorem kz_wtS {a b d : Int32} {n : Nat} (h : ∃ s, s ≤ n ∧ a = nI s) : ∃ s, s ≤ n + 1 ∧ X4_wants_c12 a b d = nI s := by
  obtain ⟨s, hs, rfl⟩ := h
  rw [X4_wants_c12]
  split
  · split <;> exact ⟨s + 1, by omega, nI_1 s⟩
  · exact ⟨s, by omega, rfl⟩

def X4_figure_r (z8 : Nat → Int32) (z9 : Int32) (z12 : Int32) (z13 : Int32) (lo : Int32) (hi : Int32) : Int32 := ((X4_letter_r z8 z9 z12) - 48)
def X4_figure_c12 (z8 : Nat → Int32) (z9 : Int32) (z12 : Int32) (z13 : Int32) (lo : Int32) (hi : Int32) : Int32 := (X4_wants_c12 z12 z13 (if X4_in_p ((X4_letter_r z8 z9 z12) - 48) lo hi then 1 else 0))
def X4_figure_c13 (z8 : Nat → Int32) (z9 : Int32) (z12 : Int32) (z13 : Int32) (lo : Int32) (hi : Int32) : Int32 := (X4_wants_c13 z12 z13 (if X4_in_p ((X4_letter_r z8 z9 z12) - 48) lo hi then 1 else 0))
set_option maxHeartbeats 1000000 in
set_option maxRecDepth 100000 in
theorem c_X4_figure (l : Launch) (G : kz_G) (a : Nat → Nat) (M : kz_S) (lo : Int32) (hi : Int32) (hsp : ∃ s, s ≤ 1000 ∧ M 12 0 = nI s) (hty : ∃ t, t ≤ 80 ∧ M 9 0 = nI t) : kz_mi l G yX4_figure wsX4_figure 1 22 [.ref (a 0), .int lo, .int hi] [mdW G a M] [mdW G a (va_up (va_up M 12 (fun _ => (X4_figure_c12 (M 8) (M 9 0) (M 12 0) (M 13 0) lo hi))) 13 (fun _ => (X4_figure_c13 (M 8) (M 9 0) (M 12 0) (M 13 0) lo hi)))] (X4_figure_r (M 8) (M 9 0) (M 12 0) (M 13 0) lo hi) := by
  intro sz
  refine Met.ofW (cc := cX4_figure) (maxL := 4) (ret := (some .int)) (by decide) rfl ?_
  intro p e s m args below meth c s₁ B hml hv
  obtain ⟨rfl, hsz, hP, hK, hD0⟩ := hv
  have hx := B.exec
  have hb := B.bytes
  have hr := B.returns
  have hts := atoms_spec (ws := wsX4_figure) B.pre
  have hown : s.vm.findClass RX4 = some m.cls := findClass_of_methodNamed B.named
  have hlocks := B.notSynchronized
  subst hsz
  have hD := hD0.self (sz := s.heap.size)
  generalize hAe : kz_A [mdW G a M] s.heap.size = A at hD ⊢
  have hA : ∀ q : Nat, s.heap.size ≤ q → A q := fun q h => by rw [← hAe]; exact Or.inr h
  have hS : va_S A s.heap s.heap [] := va_S.rf
  have hl := lv_entry ([.ref (a 0), .int lo, .int hi]) (n := 4) (Nat.le_of_ble_eq_true rfl)
  rw [lg_entry_eq]
  generalize (lg_sl ([.ref (a 0), .int lo, .int hi]) ++ List.replicate (4 - (lg_sl ([.ref (a 0), .int lo, .int hi])).length) Slot.unset).toArray = ls at hl ⊢
  have hl : lv_has ls 4 [(0, .ref (a 0)), (1, .int lo), (2, .int hi)] := hl
  refine kz_start (fun QQ hQ => ?_)
  have hP : kz_P G [mdW G a M] s.heap := hP
  refine lv_aload_n hx hb dX4_figure_0 rfl (lv_at hl 0 rfl) ?_
  refine kz_rdV (As := []) (rest := []) (b := a 0) ⟨hx, hb, hml, hown, hts⟩ (c_X4_letter l G a M (by repeat (first | exact kz_le12 hsp (by omega) | refine kz_fgS ?_ | refine kz_wtS ?_)) (by exact hty)) (cwV 0 hts gX4_figure_X4_letter rfl rfl rfl (by decide +kernel) ⟨Nat.le_of_ble_eq_true rfl, Nat.le_of_ble_eq_true rfl⟩) hK hP (kz_recv hK hP (ci := 4) (q0 := 0) rfl rfl) rfl hl.1 rfl (Nat.le_of_ble_eq_true rfl) dX4_figure_1 ⟨Nat.le_of_ble_eq_true rfl, Nat.le_of_ble_eq_true rfl⟩ ?_
  refine lv_bipush (v := 48) hx hb dX4_figure_4 (by decide +kernel) ?_
  refine lv_isub hx hb dX4_figure_6 ?_
  refine lv_istore_n (lv' := [(3, .int ((X4_letter_r (M 8) (M 9 0) (M 12 0)) - 48)), (0, .ref (a 0)), (1, .int lo), (2, .int hi)]) hx hb dX4_figure_7 rfl hl (by decide) rfl (fun ls hl => ?_)
  refine lv_aload_n hx hb dX4_figure_8 rfl (lv_at hl 1 rfl) ?_
  refine lv_iload_n hx hb dX4_figure_9 rfl (lv_at hl 0 rfl) ?_
  refine lv_iload_n hx hb dX4_figure_10 rfl (lv_at hl 2 rfl) ?_
  refine lv_iload_n hx hb dX4_figure_11 rfl (lv_at hl 3 rfl) ?_
  refine kz_rdS (As := [.int ((X4_letter_r (M 8) (M 9 0) (M 12 0)) - 48), .int lo, .int hi]) (rest := [.ref (a 0)]) ⟨hx, hb, hml, hown, hts⟩ (c_X4_in l G ((X4_letter_r (M 8) (M 9 0) (M 12 0)) - 48) lo hi) (va_cwS 3 hts gX4_figure_X4_in rfl rfl rfl (by decide +kernel) ⟨Nat.le_of_ble_eq_true rfl, Nat.le_of_ble_eq_true rfl⟩) hK (hP.sub (cs := []) [] rfl) rfl hl.1 rfl (Nat.le_of_ble_eq_true rfl) dX4_figure_12 ⟨Nat.le_of_ble_eq_true rfl, Nat.le_of_ble_eq_true rfl⟩ ?_
  refine kz_mvV (As := [.int (if X4_in_p ((X4_letter_r (M 8) (M 9 0) (M 12 0)) - 48) lo hi then 1 else 0)]) (rest := []) (b := a 0) (wr := []) (bs' := [mdW G a (va_up (va_up M 12 (fun _ => (X4_wants_c12 (M 12 0) (M 13 0) (if X4_in_p ((X4_letter_r (M 8) (M 9 0) (M 12 0)) - 48) lo hi then 1 else 0)))) 13 (fun _ => (X4_wants_c13 (M 12 0) (M 13 0) (if X4_in_p ((X4_letter_r (M 8) (M 9 0) (M 12 0)) - 48) lo hi then 1 else 0))))]) ⟨hx, hb, hml, hown, hts⟩ (c_X4_wants l G a M (if X4_in_p ((X4_letter_r (M 8) (M 9 0) (M 12 0)) - 48) lo hi then 1 else 0)) (cwV 1 hts gX4_figure_X4_wants rfl rfl rfl (by decide +kernel) ⟨Nat.le_of_ble_eq_true rfl, Nat.le_of_ble_eq_true rfl⟩) hK hP hD hS hA [0] [] [0] rfl (by decide) rfl (by decide) (by decide) rfl (by decide) (kz_recv hK hP (ci := 4) (q0 := 0) rfl rfl) rfl hl.1 rfl (Nat.le_of_ble_eq_true rfl) dX4_figure_15 ⟨Nat.le_of_ble_eq_true rfl, Nat.le_of_ble_eq_true rfl⟩ (fun H locs hP hD hS => ?_)
  refine lv_iload_n hx hb dX4_figure_18 rfl (lv_at hl 0 rfl) ?_
  subst hQ
  have hP9 : kz_P G [mdW G a (va_up (va_up M 12 (fun _ => (X4_figure_c12 (M 8) (M 9 0) (M 12 0) (M 13 0) lo hi))) 13 (fun _ => (X4_figure_c13 (M 8) (M 9 0) (M 12 0) (M 13 0) lo hi)))] H := hP
  have hD9 : kz_D A [mdW G a (va_up (va_up M 12 (fun _ => (X4_figure_c12 (M 8) (M 9 0) (M 12 0) (M 13 0) lo hi))) 13 (fun _ => (X4_figure_c13 (M 8) (M 9 0) (M 12 0) (M 13 0) lo hi)))] := hD
  exact W.iret (v := ((X4_letter_r (M 8) (M 9 0) (M 12 0)) - 48)) hx hb hr (fun t ht hW => ⟨⟨((X4_letter_r (M 8) (M 9 0) (M 12 0)) - 48), (), rfl, rfl, by rw [ht]; exact hP9, hD9⟩, hS.F ht⟩) hS.2.2 dX4_figure_19
theorem kz_fgS {z8 : Nat → Int32} {z9 a b lo hi : Int32} {n : Nat} (h : ∃ s, s ≤ n ∧ a = nI s) : ∃ s, s ≤ n + 1 ∧ X4_figure_c12 z8 z9 a b lo hi = nI s := by
  rw [X4_figure_c12]
  exact kz_wtS h
theorem kz_szS : True := trivial
theorem kz_dyS : True := trivial

def X4_days_r (z8 : Nat → Int32) (z9 : Int32) (z12 : Int32) (z13 : Int32) : Int32 := if (X4_figure_c13 z8 z9 z12 z13 1 9) = (-6) then (if X4_in_p ((X4_letter_r z8 z9 (X4_figure_c12 z8 z9 z12 z13 1 9)) - 48) 0 9 then (if 30 < ((10 * (X4_figure_r z8 z9 z12 z13 1 9)) + ((X4_letter_r z8 z9 (X4_figure_c12 z8 z9 z12 z13 1 9)) - 48)) then (X4_figure_r z8 z9 z12 z13 1 9) else ((10 * (X4_figure_r z8 z9 z12 z13 1 9)) + ((X4_letter_r z8 z9 (X4_figure_c12 z8 z9 z12 z13 1 9)) - 48))) else (X4_figure_r z8 z9 z12 z13 1 9)) else (X4_figure_r z8 z9 z12 z13 1 9)
def X4_days_c12 (z8 : Nat → Int32) (z9 : Int32) (z12 : Int32) (z13 : Int32) : Int32 := if (X4_figure_c13 z8 z9 z12 z13 1 9) = (-6) then (if X4_in_p ((X4_letter_r z8 z9 (X4_figure_c12 z8 z9 z12 z13 1 9)) - 48) 0 9 then (if 30 < ((10 * (X4_figure_r z8 z9 z12 z13 1 9)) + ((X4_letter_r z8 z9 (X4_figure_c12 z8 z9 z12 z13 1 9)) - 48)) then (X4_figure_c12 z8 z9 z12 z13 1 9) else ((X4_figure_c12 z8 z9 z12 z13 1 9) + 1)) else (X4_figure_c12 z8 z9 z12 z13 1 9)) else (X4_figure_c12 z8 z9 z12 z13 1 9)
def X4_days_c13 (z8 : Nat → Int32) (z9 : Int32) (z12 : Int32) (z13 : Int32) : Int32 := if (X4_figure_c13 z8 z9 z12 z13 1 9) = (-6) then (if X4_in_p ((X4_letter_r z8 z9 (X4_figure_c12 z8 z9 z12 z13 1 9)) - 48) 0 9 then (if 30 < ((10 * (X4_figure_r z8 z9 z12 z13 1 9)) + ((X4_letter_r z8 z9 (X4_figure_c12 z8 z9 z12 z13 1 9)) - 48)) then (X4_figure_c13 z8 z9 z12 z13 1 9) else (X4_figure_c13 z8 z9 z12 z13 1 9)) else (X4_figure_c13 z8 z9 z12 z13 1 9)) else (X4_figure_c13 z8 z9 z12 z13 1 9)
set_option maxHeartbeats 1000000 in
set_option maxRecDepth 100000 in
theorem c_X4_days (l : Launch) (G : kz_G) (a : Nat → Nat) (M : kz_S) (hsp : ∃ s, s ≤ 990 ∧ M 12 0 = nI s) (hty : ∃ t, t ≤ 80 ∧ M 9 0 = nI t) : kz_mi l G yX4_days wsX4_days 2 45 [.ref (a 0)] [mdW G a M] [mdW G a (va_up (va_up M 12 (fun _ => (X4_days_c12 (M 8) (M 9 0) (M 12 0) (M 13 0)))) 13 (fun _ => (X4_days_c13 (M 8) (M 9 0) (M 12 0) (M 13 0))))] (X4_days_r (M 8) (M 9 0) (M 12 0) (M 13 0)) := by
  intro sz
  refine Met.ofW (cc := cX4_days) (maxL := 3) (ret := (some .int)) (by decide) rfl ?_
  intro p e s m args below meth c s₁ B hml hv
  obtain ⟨rfl, hsz, hP, hK, hD0⟩ := hv
  have hx := B.exec
  have hb := B.bytes
  have hr := B.returns
  have hts := atoms_spec (ws := wsX4_days) B.pre
  have hown : s.vm.findClass RX4 = some m.cls := findClass_of_methodNamed B.named
  have hlocks := B.notSynchronized
  have hinX4 : ∀ w ∈ u_ws RX4 TX4 14, w ∈ wsX4_days := by decide +kernel
  subst hsz
  have hD := hD0.self (sz := s.heap.size)
  generalize hAe : kz_A [mdW G a M] s.heap.size = A at hD ⊢
  have hA : ∀ q : Nat, s.heap.size ≤ q → A q := fun q h => by rw [← hAe]; exact Or.inr h
  have hS : va_S A s.heap s.heap [] := va_S.rf
  have hl := lv_entry ([.ref (a 0)]) (n := 3) (Nat.le_of_ble_eq_true rfl)
  rw [lg_entry_eq]
  generalize (lg_sl ([.ref (a 0)]) ++ List.replicate (3 - (lg_sl ([.ref (a 0)])).length) Slot.unset).toArray = ls at hl ⊢
  have hl : lv_has ls 3 [(0, .ref (a 0))] := hl
  refine kz_start (fun QQ hQ => ?_)
  have hP : kz_P G [mdW G a M] s.heap := hP
  refine lv_aload_n hx hb dX4_days_0 rfl (lv_at hl 0 rfl) ?_
  refine lv_iconst (v := 1) hx hb dX4_days_1 (by decide +kernel) ?_
  refine lv_bipush (v := 9) hx hb dX4_days_2 (by decide +kernel) ?_
  refine kz_miV (As := [.int 1, .int 9]) (rest := []) (b := a 0) (wr := []) (bs' := [mdW G a (va_up (va_up M 12 (fun _ => (X4_figure_c12 (M 8) (M 9 0) (M 12 0) (M 13 0) 1 9))) 13 (fun _ => (X4_figure_c13 (M 8) (M 9 0) (M 12 0) (M 13 0) 1 9)))]) ⟨hx, hb, hml, hown, hts⟩ (c_X4_figure l G a M 1 9 (by repeat (first | exact kz_le12 hsp (by omega) | refine kz_fgS ?_ | refine kz_wtS ?_)) (by exact hty)) (cwV 2 hts gX4_days_X4_figure rfl rfl rfl (by decide +kernel) ⟨Nat.le_of_ble_eq_true rfl, Nat.le_of_ble_eq_true rfl⟩) hK hP hD hS hA [0] [] [0] rfl (by decide) rfl (by decide) (by decide) rfl (by decide) (kz_recv hK hP (ci := 4) (q0 := 0) rfl rfl) rfl hl.1 rfl (Nat.le_of_ble_eq_true rfl) dX4_days_4 ⟨Nat.le_of_ble_eq_true rfl, Nat.le_of_ble_eq_true rfl⟩ (fun H locs hP hD hS => ?_)
  refine lv_istore_n (lv' := [(1, .int (X4_figure_r (M 8) (M 9 0) (M 12 0) (M 13 0) 1 9)), (0, .ref (a 0))]) hx hb dX4_days_7 rfl hl (by decide) rfl (fun ls hl => ?_)
  refine lv_aload_n hx hb dX4_days_8 rfl (lv_at hl 1 rfl) ?_
  refine kz_rdV (As := []) (rest := []) (b := a 0) ⟨hx, hb, hml, hown, hts⟩ (c_X4_letter l G a (va_up (va_up M 12 (fun _ => (X4_figure_c12 (M 8) (M 9 0) (M 12 0) (M 13 0) 1 9))) 13 (fun _ => (X4_figure_c13 (M 8) (M 9 0) (M 12 0) (M 13 0) 1 9))) (by rw [va_up_ne _ _ (by decide : 12 ≠ 13), va_up_self]; repeat (first | exact kz_le12 hsp (by omega) | refine kz_fgS ?_ | refine kz_wtS ?_)) (by rw [va_up_ne _ _ (by decide : 9 ≠ 13), va_up_ne _ _ (by decide : 9 ≠ 12)]; exact hty)) (cwV 0 hts gX4_days_X4_letter rfl rfl rfl (by decide +kernel) ⟨Nat.le_of_ble_eq_true rfl, Nat.le_of_ble_eq_true rfl⟩) hK hP (kz_recv hK hP (ci := 4) (q0 := 0) rfl rfl) rfl hl.1 rfl (Nat.le_of_ble_eq_true rfl) dX4_days_9 ⟨Nat.le_of_ble_eq_true rfl, Nat.le_of_ble_eq_true rfl⟩ ?_
  refine lv_bipush (v := 48) hx hb dX4_days_12 (by decide +kernel) ?_
  refine lv_isub hx hb dX4_days_14 ?_
  refine lv_istore_n (lv' := [(2, .int ((X4_letter_r (M 8) (M 9 0) (X4_figure_c12 (M 8) (M 9 0) (M 12 0) (M 13 0) 1 9)) - 48)), (1, .int (X4_figure_r (M 8) (M 9 0) (M 12 0) (M 13 0) 1 9)), (0, .ref (a 0))]) hx hb dX4_days_15 rfl hl (by decide) rfl (fun ls hl => ?_)
  refine lv_aload_n hx hb dX4_days_16 rfl (lv_at hl 2 rfl) ?_
  refine va_get (D := G.1) (ci := 4) (v := .int (X4_figure_c13 (M 8) (M 9 0) (M 12 0) (M 13 0) 1 9)) (C := RX4) (T := TX4) (N := 14) hx hb hts hinX4 hown hK.1 hP 0 rfl rfl 13 (by decide) (hts (.fieldLink RX4 183 "ParcelShelvesModel" "wrong" "I") (by decide +kernel)) (fun _ h9 => h9) rfl dX4_days_17 ?_
  refine lv_bipush (v := (-6)) hx hb dX4_days_20 (by decide +kernel) ?_
  refine lv_icmp_ne (tgt := 63) hx hb dX4_days_22 (by decide) (fun c_1 => ?_) (fun c_1 => ?_)
  · refine lv_iload_n hx hb dX4_days_63 rfl (lv_at hl 1 rfl) ?_
    subst hQ
    have hP9 : kz_P G [mdW G a (va_up (va_up M 12 (fun _ => (X4_days_c12 (M 8) (M 9 0) (M 12 0) (M 13 0)))) 13 (fun _ => (X4_days_c13 (M 8) (M 9 0) (M 12 0) (M 13 0))))] H := by rw [X4_days_c12, if_neg c_1]; rw [X4_days_c13, if_neg c_1]; exact hP
    have hD9 : kz_D A [mdW G a (va_up (va_up M 12 (fun _ => (X4_days_c12 (M 8) (M 9 0) (M 12 0) (M 13 0)))) 13 (fun _ => (X4_days_c13 (M 8) (M 9 0) (M 12 0) (M 13 0))))] := by rw [X4_days_c12, if_neg c_1]; rw [X4_days_c13, if_neg c_1]; exact hD
    exact W.iret (v := (X4_figure_r (M 8) (M 9 0) (M 12 0) (M 13 0) 1 9)) hx hb hr (fun t ht hW => ⟨⟨(X4_figure_r (M 8) (M 9 0) (M 12 0) (M 13 0) 1 9), (), rfl, (by rw [X4_days_r, if_neg c_1]), by rw [ht]; exact hP9, hD9⟩, hS.F ht⟩) hS.2.2 dX4_days_64
  · refine lv_iload_n hx hb dX4_days_25 rfl (lv_at hl 0 rfl) ?_
    refine lv_iconst (v := 0) hx hb dX4_days_26 (by decide +kernel) ?_
    refine lv_bipush (v := 9) hx hb dX4_days_27 (by decide +kernel) ?_
    refine kz_rdS (As := [.int ((X4_letter_r (M 8) (M 9 0) (X4_figure_c12 (M 8) (M 9 0) (M 12 0) (M 13 0) 1 9)) - 48), .int 0, .int 9]) (rest := []) ⟨hx, hb, hml, hown, hts⟩ (c_X4_in l G ((X4_letter_r (M 8) (M 9 0) (X4_figure_c12 (M 8) (M 9 0) (M 12 0) (M 13 0) 1 9)) - 48) 0 9) (va_cwS 3 hts gX4_days_X4_in rfl rfl rfl (by decide +kernel) ⟨Nat.le_of_ble_eq_true rfl, Nat.le_of_ble_eq_true rfl⟩) hK (hP.sub (cs := []) [] rfl) rfl hl.1 rfl (Nat.le_of_ble_eq_true rfl) dX4_days_29 ⟨Nat.le_of_ble_eq_true rfl, Nat.le_of_ble_eq_true rfl⟩ ?_
    refine lv_topi (fun y_2 ey_3 => ?_)
    by_cases c_4 : X4_in_p ((X4_letter_r (M 8) (M 9 0) (X4_figure_c12 (M 8) (M 9 0) (M 12 0) (M 13 0) 1 9)) - 48) 0 9
    · rw [if_pos c_4] at ey_3
      subst ey_3
      refine lv_if_eq (tgt := 63) hx hb dX4_days_32 (by decide) (fun c => absurd c (by decide)) (fun _ => ?_)
      refine lv_bipush (v := 10) hx hb dX4_days_35 (by decide +kernel) ?_
      refine lv_iload_n hx hb dX4_days_37 rfl (lv_at hl 1 rfl) ?_
      refine lv_imul hx hb dX4_days_38 ?_
      refine lv_iload_n hx hb dX4_days_39 rfl (lv_at hl 0 rfl) ?_
      refine lv_iadd hx hb dX4_days_40 ?_
      refine lv_bipush (v := 30) hx hb dX4_days_41 (by decide +kernel) ?_
      refine lv_icmp_gt (tgt := 63) hx hb dX4_days_43 (by decide) (fun c_5 => ?_) (fun c_5 => ?_)
      · refine lv_iload_n hx hb dX4_days_63 rfl (lv_at hl 1 rfl) ?_
        subst hQ
        have hP9 : kz_P G [mdW G a (va_up (va_up M 12 (fun _ => (X4_days_c12 (M 8) (M 9 0) (M 12 0) (M 13 0)))) 13 (fun _ => (X4_days_c13 (M 8) (M 9 0) (M 12 0) (M 13 0))))] H := by rw [X4_days_c12, if_pos c_1, if_pos c_4, if_pos c_5]; rw [X4_days_c13, if_pos c_1, if_pos c_4, if_pos c_5]; exact hP
        have hD9 : kz_D A [mdW G a (va_up (va_up M 12 (fun _ => (X4_days_c12 (M 8) (M 9 0) (M 12 0) (M 13 0)))) 13 (fun _ => (X4_days_c13 (M 8) (M 9 0) (M 12 0) (M 13 0))))] := by rw [X4_days_c12, if_pos c_1, if_pos c_4, if_pos c_5]; rw [X4_days_c13, if_pos c_1, if_pos c_4, if_pos c_5]; exact hD
        exact W.iret (v := (X4_figure_r (M 8) (M 9 0) (M 12 0) (M 13 0) 1 9)) hx hb hr (fun t ht hW => ⟨⟨(X4_figure_r (M 8) (M 9 0) (M 12 0) (M 13 0) 1 9), (), rfl, (by rw [X4_days_r, if_pos c_1, if_pos c_4, if_pos c_5]), by rw [ht]; exact hP9, hD9⟩, hS.F ht⟩) hS.2.2 dX4_days_64
      · refine lv_aload_n hx hb dX4_days_46 rfl (lv_at hl 2 rfl) ?_
        refine lv_dup hx hb dX4_days_47 rfl ?_
        refine va_get (D := G.1) (ci := 4) (v := .int (X4_figure_c12 (M 8) (M 9 0) (M 12 0) (M 13 0) 1 9)) (C := RX4) (T := TX4) (N := 14) hx hb hts hinX4 hown hK.1 hP 0 rfl rfl 12 (by decide) (hts (.fieldLink RX4 180 "ParcelShelvesModel" "spot" "I") (by decide +kernel)) (fun _ h9 => h9) rfl dX4_days_48 ?_
        refine lv_iconst (v := 1) hx hb dX4_days_51 (by decide +kernel) ?_
        refine lv_iadd hx hb dX4_days_52 ?_
        refine va_put (D := G.1) (ci := 4) (v := .int ((X4_figure_c12 (M 8) (M 9 0) (M 12 0) (M 13 0) 1 9) + 1)) (ty := .int) (C := RX4) (T := TX4) (N := 14) hx hb hts hinX4 tyX4 tyX4_ok nmX4 hown hK.1 hP hD hS 0 rfl rfl 12 (by decide) (hts (.fieldLink RX4 180 "ParcelShelvesModel" "spot" "I") (by decide +kernel)) (fun _ h9 => h9) rfl (by decide +kernel) rfl rfl (Nat.le_of_ble_eq_true rfl) dX4_days_53 (fun H locs hP hD hS => ?_)
        have hP : kz_P G [mdW G a (va_up (va_up M 13 (fun _ => (X4_figure_c13 (M 8) (M 9 0) (M 12 0) (M 13 0) 1 9))) 12 (fun _ => ((X4_figure_c12 (M 8) (M 9 0) (M 12 0) (M 13 0) 1 9) + 1)))] H := hP
        have hD : kz_D A [mdW G a (va_up (va_up M 13 (fun _ => (X4_figure_c13 (M 8) (M 9 0) (M 12 0) (M 13 0) 1 9))) 12 (fun _ => ((X4_figure_c12 (M 8) (M 9 0) (M 12 0) (M 13 0) 1 9) + 1)))] := hD
        refine lv_bipush (v := 10) hx hb dX4_days_56 (by decide +kernel) ?_
        refine lv_iload_n hx hb dX4_days_58 rfl (lv_at hl 1 rfl) ?_
        refine lv_imul hx hb dX4_days_59 ?_
        refine lv_iload_n hx hb dX4_days_60 rfl (lv_at hl 0 rfl) ?_
        refine lv_iadd hx hb dX4_days_61 ?_
        subst hQ
        have hP9 : kz_P G [mdW G a (va_up (va_up M 12 (fun _ => (X4_days_c12 (M 8) (M 9 0) (M 12 0) (M 13 0)))) 13 (fun _ => (X4_days_c13 (M 8) (M 9 0) (M 12 0) (M 13 0))))] H := by rw [X4_days_c12, if_pos c_1, if_pos c_4, if_neg c_5]; rw [X4_days_c13, if_pos c_1, if_pos c_4, if_neg c_5]; exact hP
        have hD9 : kz_D A [mdW G a (va_up (va_up M 12 (fun _ => (X4_days_c12 (M 8) (M 9 0) (M 12 0) (M 13 0)))) 13 (fun _ => (X4_days_c13 (M 8) (M 9 0) (M 12 0) (M 13 0))))] := by rw [X4_days_c12, if_pos c_1, if_pos c_4, if_neg c_5]; rw [X4_days_c13, if_pos c_1, if_pos c_4, if_neg c_5]; exact hD
        exact W.iret (v := ((10 * (X4_figure_r (M 8) (M 9 0) (M 12 0) (M 13 0) 1 9)) + ((X4_letter_r (M 8) (M 9 0) (X4_figure_c12 (M 8) (M 9 0) (M 12 0) (M 13 0) 1 9)) - 48))) hx hb hr (fun t ht hW => ⟨⟨((10 * (X4_figure_r (M 8) (M 9 0) (M 12 0) (M 13 0) 1 9)) + ((X4_letter_r (M 8) (M 9 0) (X4_figure_c12 (M 8) (M 9 0) (M 12 0) (M 13 0) 1 9)) - 48)), (), rfl, (by rw [X4_days_r, if_pos c_1, if_pos c_4, if_neg c_5]), by rw [ht]; exact hP9, hD9⟩, hS.F ht⟩) hS.2.2 dX4_days_62
    · rw [if_neg c_4] at ey_3
      subst ey_3
      refine lv_if_eq (tgt := 63) hx hb dX4_days_32 (by decide) (fun _ => ?_) (fun c => absurd c (by decide))
      refine lv_iload_n hx hb dX4_days_63 rfl (lv_at hl 1 rfl) ?_
      subst hQ
      have hP9 : kz_P G [mdW G a (va_up (va_up M 12 (fun _ => (X4_days_c12 (M 8) (M 9 0) (M 12 0) (M 13 0)))) 13 (fun _ => (X4_days_c13 (M 8) (M 9 0) (M 12 0) (M 13 0))))] H := by rw [X4_days_c12, if_pos c_1, if_neg c_4]; rw [X4_days_c13, if_pos c_1, if_neg c_4]; exact hP
      have hD9 : kz_D A [mdW G a (va_up (va_up M 12 (fun _ => (X4_days_c12 (M 8) (M 9 0) (M 12 0) (M 13 0)))) 13 (fun _ => (X4_days_c13 (M 8) (M 9 0) (M 12 0) (M 13 0))))] := by rw [X4_days_c12, if_pos c_1, if_neg c_4]; rw [X4_days_c13, if_pos c_1, if_neg c_4]; exact hD
      exact W.iret (v := (X4_figure_r (M 8) (M 9 0) (M 12 0) (M 13 0) 1 9)) hx hb hr (fun t ht hW => ⟨⟨(X4_figure_r (M 8) (M 9 0) (M 12 0) (M 13 0) 1 9), (), rfl, (by rw [X4_days_r, if_pos c_1, if_neg c_4]), by rw [ht]; exact hP9, hD9⟩, hS.F ht⟩) hS.2.2 dX4_days_64
def X4_size_r (z8 : Nat → Int32) (z9 : Int32) (z12 : Int32) (z13 : Int32) : Int32 := if (X4_letter_r z8 z9 z12) = 115 then 0 else if (X4_letter_r z8 z9 z12) = 109 then 1 else if (X4_letter_r z8 z9 z12) = 108 then 2 else 2
def X4_size_c12 (z8 : Nat → Int32) (z9 : Int32) (z12 : Int32) (z13 : Int32) : Int32 := if (X4_letter_r z8 z9 z12) = 115 then (X4_wants_c12 z12 z13 1) else if (X4_letter_r z8 z9 z12) = 109 then (X4_wants_c12 z12 z13 1) else if (X4_letter_r z8 z9 z12) = 108 then (X4_wants_c12 z12 z13 1) else (X4_wants_c12 z12 z13 0)
def X4_size_c13 (z8 : Nat → Int32) (z9 : Int32) (z12 : Int32) (z13 : Int32) : Int32 := if (X4_letter_r z8 z9 z12) = 115 then (X4_wants_c13 z12 z13 1) else if (X4_letter_r z8 z9 z12) = 109 then (X4_wants_c13 z12 z13 1) else if (X4_letter_r z8 z9 z12) = 108 then (X4_wants_c13 z12 z13 1) else (X4_wants_c13 z12 z13 0)
set_option maxHeartbeats 1000000 in
set_option maxRecDepth 100000 in
theorem c_X4_size (l : Launch) (G : kz_G) (a : Nat → Nat) (M : kz_S) (hsp : ∃ s, s ≤ 1000 ∧ M 12 0 = nI s) (hty : ∃ t, t ≤ 80 ∧ M 9 0 = nI t) : kz_mi l G yX4_size wsX4_size 1 21 [.ref (a 0)] [mdW G a M] [mdW G a (va_up (va_up M 12 (fun _ => (X4_size_c12 (M 8) (M 9 0) (M 12 0) (M 13 0)))) 13 (fun _ => (X4_size_c13 (M 8) (M 9 0) (M 12 0) (M 13 0))))] (X4_size_r (M 8) (M 9 0) (M 12 0) (M 13 0)) := by
  intro sz
  refine Met.ofW (cc := cX4_size) (maxL := 2) (ret := (some .int)) (by decide) rfl ?_
  intro p e s m args below meth c s₁ B hml hv
  obtain ⟨rfl, hsz, hP, hK, hD0⟩ := hv
  have hx := B.exec
  have hb := B.bytes
  have hr := B.returns
  have hts := atoms_spec (ws := wsX4_size) B.pre
  have hown : s.vm.findClass RX4 = some m.cls := findClass_of_methodNamed B.named
  have hlocks := B.notSynchronized
  subst hsz
  have hD := hD0.self (sz := s.heap.size)
  generalize hAe : kz_A [mdW G a M] s.heap.size = A at hD ⊢
  have hA : ∀ q : Nat, s.heap.size ≤ q → A q := fun q h => by rw [← hAe]; exact Or.inr h
  have hS : va_S A s.heap s.heap [] := va_S.rf
  have hl := lv_entry ([.ref (a 0)]) (n := 2) (Nat.le_of_ble_eq_true rfl)
  rw [lg_entry_eq]
  generalize (lg_sl ([.ref (a 0)]) ++ List.replicate (2 - (lg_sl ([.ref (a 0)])).length) Slot.unset).toArray = ls at hl ⊢
  have hl : lv_has ls 2 [(0, .ref (a 0))] := hl
  refine kz_start (fun QQ hQ => ?_)
  have hP : kz_P G [mdW G a M] s.heap := hP
  refine lv_aload_n hx hb dX4_size_0 rfl (lv_at hl 0 rfl) ?_
  refine kz_rdV (As := []) (rest := []) (b := a 0) ⟨hx, hb, hml, hown, hts⟩ (c_X4_letter l G a M (by repeat (first | exact kz_le12 hsp (by omega) | refine kz_fgS ?_ | refine kz_wtS ?_)) (by exact hty)) (cwV 0 hts gX4_size_X4_letter rfl rfl rfl (by decide +kernel) ⟨Nat.le_of_ble_eq_true rfl, Nat.le_of_ble_eq_true rfl⟩) hK hP (kz_recv hK hP (ci := 4) (q0 := 0) rfl rfl) rfl hl.1 rfl (Nat.le_of_ble_eq_true rfl) dX4_size_1 ⟨Nat.le_of_ble_eq_true rfl, Nat.le_of_ble_eq_true rfl⟩ ?_
  refine lv_istore_n (lv' := [(1, .int (X4_letter_r (M 8) (M 9 0) (M 12 0))), (0, .ref (a 0))]) hx hb dX4_size_4 rfl hl (by decide) rfl (fun ls hl => ?_)
  refine lv_aload_n hx hb dX4_size_5 rfl (lv_at hl 1 rfl) ?_
  refine lv_iload_n hx hb dX4_size_6 rfl (lv_at hl 0 rfl) ?_
  refine lv_bipush (v := 115) hx hb dX4_size_7 (by decide +kernel) ?_
  refine lv_icmp_eq (tgt := 24) hx hb dX4_size_9 (by decide) (fun c_1 => ?_) (fun c_1 => ?_)
  · refine lv_iconst (v := 1) hx hb dX4_size_24 (by decide +kernel) ?_
    refine lv_goto (tgt := 29) hx hb dX4_size_25 (by decide) ?_
    refine kz_mvV (As := [.int 1]) (rest := []) (b := a 0) (wr := []) (bs' := [mdW G a (va_up (va_up M 12 (fun _ => (X4_wants_c12 (M 12 0) (M 13 0) 1))) 13 (fun _ => (X4_wants_c13 (M 12 0) (M 13 0) 1)))]) ⟨hx, hb, hml, hown, hts⟩ (c_X4_wants l G a M 1) (cwV 1 hts gX4_size_X4_wants rfl rfl rfl (by decide +kernel) ⟨Nat.le_of_ble_eq_true rfl, Nat.le_of_ble_eq_true rfl⟩) hK hP hD hS hA [0] [] [0] rfl (by decide) rfl (by decide) (by decide) rfl (by decide) (kz_recv hK hP (ci := 4) (q0 := 0) rfl rfl) rfl hl.1 rfl (Nat.le_of_ble_eq_true rfl) dX4_size_29 ⟨Nat.le_of_ble_eq_true rfl, Nat.le_of_ble_eq_true rfl⟩ (fun H locs hP hD hS => ?_)
    refine lv_iload_n hx hb dX4_size_32 rfl (lv_at hl 0 rfl) ?_
    refine lv_bipush (v := 115) hx hb dX4_size_33 (by decide +kernel) ?_
    refine lv_icmp_ne (tgt := 42) hx hb dX4_size_35 (by decide) (fun c => absurd c_1 c) (fun c_2 => ?_)
    refine lv_iconst (v := 0) hx hb dX4_size_38 (by decide +kernel) ?_
    refine lv_goto (tgt := 53) hx hb dX4_size_39 (by decide) ?_
    subst hQ
    have hP9 : kz_P G [mdW G a (va_up (va_up M 12 (fun _ => (X4_size_c12 (M 8) (M 9 0) (M 12 0) (M 13 0)))) 13 (fun _ => (X4_size_c13 (M 8) (M 9 0) (M 12 0) (M 13 0))))] H := by rw [X4_size_c12, if_pos c_1]; rw [X4_size_c13, if_pos c_1]; exact hP
    have hD9 : kz_D A [mdW G a (va_up (va_up M 12 (fun _ => (X4_size_c12 (M 8) (M 9 0) (M 12 0) (M 13 0)))) 13 (fun _ => (X4_size_c13 (M 8) (M 9 0) (M 12 0) (M 13 0))))] := by rw [X4_size_c12, if_pos c_1]; rw [X4_size_c13, if_pos c_1]; exact hD
    exact W.iret (v := 0) hx hb hr (fun t ht hW => ⟨⟨0, (), rfl, (by rw [X4_size_r, if_pos c_1]), by rw [ht]; exact hP9, hD9⟩, hS.F ht⟩) hS.2.2 dX4_size_53
  · refine lv_iload_n hx hb dX4_size_12 rfl (lv_at hl 0 rfl) ?_
    refine lv_bipush (v := 109) hx hb dX4_size_13 (by decide +kernel) ?_
    refine lv_icmp_eq (tgt := 24) hx hb dX4_size_15 (by decide) (fun c_3 => ?_) (fun c_3 => ?_)
    · refine lv_iconst (v := 1) hx hb dX4_size_24 (by decide +kernel) ?_
      refine lv_goto (tgt := 29) hx hb dX4_size_25 (by decide) ?_
      refine kz_mvV (As := [.int 1]) (rest := []) (b := a 0) (wr := []) (bs' := [mdW G a (va_up (va_up M 12 (fun _ => (X4_wants_c12 (M 12 0) (M 13 0) 1))) 13 (fun _ => (X4_wants_c13 (M 12 0) (M 13 0) 1)))]) ⟨hx, hb, hml, hown, hts⟩ (c_X4_wants l G a M 1) (cwV 1 hts gX4_size_X4_wants rfl rfl rfl (by decide +kernel) ⟨Nat.le_of_ble_eq_true rfl, Nat.le_of_ble_eq_true rfl⟩) hK hP hD hS hA [0] [] [0] rfl (by decide) rfl (by decide) (by decide) rfl (by decide) (kz_recv hK hP (ci := 4) (q0 := 0) rfl rfl) rfl hl.1 rfl (Nat.le_of_ble_eq_true rfl) dX4_size_29 ⟨Nat.le_of_ble_eq_true rfl, Nat.le_of_ble_eq_true rfl⟩ (fun H locs hP hD hS => ?_)
      refine lv_iload_n hx hb dX4_size_32 rfl (lv_at hl 0 rfl) ?_
      refine lv_bipush (v := 115) hx hb dX4_size_33 (by decide +kernel) ?_
      refine lv_icmp_ne (tgt := 42) hx hb dX4_size_35 (by decide) (fun c_4 => ?_) (fun c => absurd c c_1)
      refine lv_iload_n hx hb dX4_size_42 rfl (lv_at hl 0 rfl) ?_
      refine lv_bipush (v := 109) hx hb dX4_size_43 (by decide +kernel) ?_
      refine lv_icmp_ne (tgt := 52) hx hb dX4_size_45 (by decide) (fun c => absurd c_3 c) (fun c_5 => ?_)
      refine lv_iconst (v := 1) hx hb dX4_size_48 (by decide +kernel) ?_
      refine lv_goto (tgt := 53) hx hb dX4_size_49 (by decide) ?_
      subst hQ
      have hP9 : kz_P G [mdW G a (va_up (va_up M 12 (fun _ => (X4_size_c12 (M 8) (M 9 0) (M 12 0) (M 13 0)))) 13 (fun _ => (X4_size_c13 (M 8) (M 9 0) (M 12 0) (M 13 0))))] H := by rw [X4_size_c12, if_neg c_1, if_pos c_3]; rw [X4_size_c13, if_neg c_1, if_pos c_3]; exact hP
      have hD9 : kz_D A [mdW G a (va_up (va_up M 12 (fun _ => (X4_size_c12 (M 8) (M 9 0) (M 12 0) (M 13 0)))) 13 (fun _ => (X4_size_c13 (M 8) (M 9 0) (M 12 0) (M 13 0))))] := by rw [X4_size_c12, if_neg c_1, if_pos c_3]; rw [X4_size_c13, if_neg c_1, if_pos c_3]; exact hD
      exact W.iret (v := 1) hx hb hr (fun t ht hW => ⟨⟨1, (), rfl, (by rw [X4_size_r, if_neg c_1, if_pos c_3]), by rw [ht]; exact hP9, hD9⟩, hS.F ht⟩) hS.2.2 dX4_size_53
    · refine lv_iload_n hx hb dX4_size_18 rfl (lv_at hl 0 rfl) ?_
      refine lv_bipush (v := 108) hx hb dX4_size_19 (by decide +kernel) ?_
      refine lv_icmp_ne (tgt := 28) hx hb dX4_size_21 (by decide) (fun c_6 => ?_) (fun c_6 => ?_)
      · refine lv_iconst (v := 0) hx hb dX4_size_28 (by decide +kernel) ?_
        refine kz_mvV (As := [.int 0]) (rest := []) (b := a 0) (wr := []) (bs' := [mdW G a (va_up (va_up M 12 (fun _ => (X4_wants_c12 (M 12 0) (M 13 0) 0))) 13 (fun _ => (X4_wants_c13 (M 12 0) (M 13 0) 0)))]) ⟨hx, hb, hml, hown, hts⟩ (c_X4_wants l G a M 0) (cwV 1 hts gX4_size_X4_wants rfl rfl rfl (by decide +kernel) ⟨Nat.le_of_ble_eq_true rfl, Nat.le_of_ble_eq_true rfl⟩) hK hP hD hS hA [0] [] [0] rfl (by decide) rfl (by decide) (by decide) rfl (by decide) (kz_recv hK hP (ci := 4) (q0 := 0) rfl rfl) rfl hl.1 rfl (Nat.le_of_ble_eq_true rfl) dX4_size_29 ⟨Nat.le_of_ble_eq_true rfl, Nat.le_of_ble_eq_true rfl⟩ (fun H locs hP hD hS => ?_)
        refine lv_iload_n hx hb dX4_size_32 rfl (lv_at hl 0 rfl) ?_
        refine lv_bipush (v := 115) hx hb dX4_size_33 (by decide +kernel) ?_
        refine lv_icmp_ne (tgt := 42) hx hb dX4_size_35 (by decide) (fun c_7 => ?_) (fun c => absurd c c_1)
        refine lv_iload_n hx hb dX4_size_42 rfl (lv_at hl 0 rfl) ?_
        refine lv_bipush (v := 109) hx hb dX4_size_43 (by decide +kernel) ?_
        refine lv_icmp_ne (tgt := 52) hx hb dX4_size_45 (by decide) (fun c_8 => ?_) (fun c => absurd c c_3)
        refine lv_iconst (v := 2) hx hb dX4_size_52 (by decide +kernel) ?_
        subst hQ
        have hP9 : kz_P G [mdW G a (va_up (va_up M 12 (fun _ => (X4_size_c12 (M 8) (M 9 0) (M 12 0) (M 13 0)))) 13 (fun _ => (X4_size_c13 (M 8) (M 9 0) (M 12 0) (M 13 0))))] H := by rw [X4_size_c12, if_neg c_1, if_neg c_3, if_neg c_6]; rw [X4_size_c13, if_neg c_1, if_neg c_3, if_neg c_6]; exact hP
        have hD9 : kz_D A [mdW G a (va_up (va_up M 12 (fun _ => (X4_size_c12 (M 8) (M 9 0) (M 12 0) (M 13 0)))) 13 (fun _ => (X4_size_c13 (M 8) (M 9 0) (M 12 0) (M 13 0))))] := by rw [X4_size_c12, if_neg c_1, if_neg c_3, if_neg c_6]; rw [X4_size_c13, if_neg c_1, if_neg c_3, if_neg c_6]; exact hD
        exact W.iret (v := 2) hx hb hr (fun t ht hW => ⟨⟨2, (), rfl, (by rw [X4_size_r, if_neg c_1, if_neg c_3, if_neg c_6]), by rw [ht]; exact hP9, hD9⟩, hS.F ht⟩) hS.2.2 dX4_size_53
      · refine lv_iconst (v := 1) hx hb dX4_size_24 (by decide +kernel) ?_
        refine lv_goto (tgt := 29) hx hb dX4_size_25 (by decide) ?_
        refine kz_mvV (As := [.int 1]) (rest := []) (b := a 0) (wr := []) (bs' := [mdW G a (va_up (va_up M 12 (fun _ => (X4_wants_c12 (M 12 0) (M 13 0) 1))) 13 (fun _ => (X4_wants_c13 (M 12 0) (M 13 0) 1)))]) ⟨hx, hb, hml, hown, hts⟩ (c_X4_wants l G a M 1) (cwV 1 hts gX4_size_X4_wants rfl rfl rfl (by decide +kernel) ⟨Nat.le_of_ble_eq_true rfl, Nat.le_of_ble_eq_true rfl⟩) hK hP hD hS hA [0] [] [0] rfl (by decide) rfl (by decide) (by decide) rfl (by decide) (kz_recv hK hP (ci := 4) (q0 := 0) rfl rfl) rfl hl.1 rfl (Nat.le_of_ble_eq_true rfl) dX4_size_29 ⟨Nat.le_of_ble_eq_true rfl, Nat.le_of_ble_eq_true rfl⟩ (fun H locs hP hD hS => ?_)
        refine lv_iload_n hx hb dX4_size_32 rfl (lv_at hl 0 rfl) ?_
        refine lv_bipush (v := 115) hx hb dX4_size_33 (by decide +kernel) ?_
        refine lv_icmp_ne (tgt := 42) hx hb dX4_size_35 (by decide) (fun c_9 => ?_) (fun c => absurd c c_1)
        refine lv_iload_n hx hb dX4_size_42 rfl (lv_at hl 0 rfl) ?_
        refine lv_bipush (v := 109) hx hb dX4_size_43 (by decide +kernel) ?_
        refine lv_icmp_ne (tgt := 52) hx hb dX4_size_45 (by decide) (fun c_10 => ?_) (fun c => absurd c c_3)
        refine lv_iconst (v := 2) hx hb dX4_size_52 (by decide +kernel) ?_
        subst hQ
        have hP9 : kz_P G [mdW G a (va_up (va_up M 12 (fun _ => (X4_size_c12 (M 8) (M 9 0) (M 12 0) (M 13 0)))) 13 (fun _ => (X4_size_c13 (M 8) (M 9 0) (M 12 0) (M 13 0))))] H := by rw [X4_size_c12, if_neg c_1, if_neg c_3, if_pos c_6]; rw [X4_size_c13, if_neg c_1, if_neg c_3, if_pos c_6]; exact hP
        have hD9 : kz_D A [mdW G a (va_up (va_up M 12 (fun _ => (X4_size_c12 (M 8) (M 9 0) (M 12 0) (M 13 0)))) 13 (fun _ => (X4_size_c13 (M 8) (M 9 0) (M 12 0) (M 13 0))))] := by rw [X4_size_c12, if_neg c_1, if_neg c_3, if_pos c_6]; rw [X4_size_c13, if_neg c_1, if_neg c_3, if_pos c_6]; exact hD
        exact W.iret (v := 2) hx hb hr (fun t ht hW => ⟨⟨2, (), rfl, (by rw [X4_size_r, if_neg c_1, if_neg c_3, if_pos c_6]), by rw [ht]; exact hP9, hD9⟩, hS.F ht⟩) hS.2.2 dX4_size_53
theorem kz_sizeS {z8 : Nat → Int32} {z9 a b : Int32} {n : Nat} (h : ∃ s, s ≤ n ∧ a = nI s) : ∃ s, s ≤ n + 1 ∧ X4_size_c12 z8 z9 a b = nI s := by
  rw [X4_size_c12]
  split
  · exact kz_wtS h
  · split
    · exact kz_wtS h
    · split
      · exact kz_wtS h
      · exact kz_wtS h
