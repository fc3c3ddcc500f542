def kz_z1 : Nat → Int32 := upd (upd (upd (upd (upd (fun _ => 0) 0 5) 1 2) 2 10) 3 7) 4 2
def kz_zn : Nat → Nat → Int32
  | 0 => kz_z1
  | n + 1 => upd (kz_zn n) (204 + n) (-6)
def kz_M0 : kz_S := fun k => if k = 0 then kz_zn 336 else if k = 6 then (fun _ => (-6)) else if k = 7 then (fun _ => (-6)) else fun _ => 0
set_option maxHeartbeats 4000000 in
set_option maxRecDepth 100000 in
theorem c_X4_init (l : Launch) (G : kz_G) (h0 : Nat) : kz_ini (α := Nat → Nat) l G yX4_init wsX4_init 1 20 6 4804 h0 (4, [.null, .null, .int 0, .null, .int 0, .null, .int 0, .int 0, .null, .int 0, .null, .int 0, .int 0, .int 0]) (fun u => u 0 = h0) (fun u => [mdW G u kz_M0]) := by
  intro sz
  refine Met.ofW (cc := cX4_init) (maxL := 2) (ret := none) (by decide) rfl ?_
  intro p e s m args below meth c s₁ B hml hv
  obtain ⟨rfl, hsz, hP, hK, hD0, hZ0⟩ := hv
  have hx := B.exec
  have hb := B.bytes
  have hr := B.returns
  have hts := atoms_spec (ws := wsX4_init) B.pre
  have hown : s.vm.findClass RX4 = some m.cls := findClass_of_methodNamed B.named
  have hlocks := B.notSynchronized
  have hin : meth.name = "<init>" := (name_of_methodNamed B.named B.method).1
  have hinX4 : ∀ w ∈ u_ws RX4 TX4 14, w ∈ wsX4_init := by decide +kernel
  subst hsz
  have hD := hD0.self (sz := s.heap.size)
  generalize hAe : kz_A [[(h0, .inr (4, [.null, .null, .int 0, .null, .int 0, .null, .int 0, .int 0, .null, .int 0, .null, .int 0, .int 0, .int 0]))]] s.heap.size = A at hD hZ0 ⊢
  have hA : ∀ q : Nat, s.heap.size ≤ q → A q := fun q h => by rw [← hAe]; exact Or.inr h
  have hS : va_S A s.heap s.heap [] := va_S.rf
  obtain ⟨t3, hz3, hX3, hA3⟩ := id hZ0.2.2
  have hP : kz_P G [[(h0, .inr (4, [.null, .null, .int 0, .null, .int 0, .null, .int 0, .int 0, .null, .int 0, .null, .int 0, .int 0, .int 0]))]] s.heap := hP
  have hl := lv_entry ([.ref h0]) (n := 2) (Nat.le_of_ble_eq_true rfl)
  rw [lg_entry_eq]
  generalize (lg_sl ([.ref h0]) ++ List.replicate (2 - (lg_sl ([.ref h0])).length) Slot.unset).toArray = ls at hl ⊢
  have hl : lv_has ls 2 [(0, .ref h0)] := hl
  refine kz_start (fun QQ hQ => ?_)
  refine lv_aload_n hx hb dX4_init_0 rfl (lv_at hl 0 rfl) ?_
  refine W.objInit hx hb hown (hts (.methodLink RX4 1 objectInit) (by decide +kernel)) (hts (.instanceMethod objectInit) (by decide +kernel)) (hts (.code objectInit ⟨#[0xb1]⟩ 1 none) (by decide +kernel)) rfl (by rw [hml]; exact hl.1) rfl dX4_init_1 (Nat.le_of_ble_eq_true rfl) (Nat.le_of_ble_eq_true rfl) ?_
  refine W.eq (g2 := F0 m 4 ls []) rfl ?_
  refine lv_aload_n hx hb dX4_init_4 rfl (lv_at hl 0 rfl) ?_
  refine lv_sipush (v := 580) hx hb dX4_init_5 (by decide +kernel) ?_
  refine kz_newI (N := 580) hx hb (hts (.arrayClass .int) (by decide +kernel)) hK hP hD hS hA (by decide +kernel) (by decide +kernel) (Nat.le_of_ble_eq_true rfl) (Nat.le_of_ble_eq_true rfl) (Nat.le_of_ble_eq_true rfl) dX4_init_8 (fun q1 H hP hD hS => ?_)
  have hP : kz_P G [[(h0, .inr (4, [.null, .null, .int 0, .null, .int 0, .null, .int 0, .int 0, .null, .int 0, .null, .int 0, .int 0, .int 0]))], [(q1, .inl (G.2.1, 580, .inl (fun _ => 0)))]] H := hP
  have hD : kz_D A [[(h0, .inr (4, [.null, .null, .int 0, .null, .int 0, .null, .int 0, .int 0, .null, .int 0, .null, .int 0, .int 0, .int 0]))], [(q1, .inl (G.2.1, 580, .inl (fun _ => 0)))]] := hD
  refine va_putF (D := G.1) (ci := 4) (v := .ref q1) (ty := .array .int) (C := RX4) (T := TX4) (N := 14) hx hb hts hinX4 tyX4 tyX4_ok nmX4 hown hK.1 hP hD hS 0 rfl rfl 0 (by decide) (hts (.fieldLink RX4 7 "ParcelShelvesModel" "z" "[I") (by decide +kernel)) (fun _ h9 => h9) rfl hin rfl (by decide +kernel) rfl rfl (Nat.le_of_ble_eq_true rfl) dX4_init_10 (fun H locs hP hD hS => ?_)
  have hP : kz_P G [[(h0, .inr (4, [.ref q1, .null, .int 0, .null, .int 0, .null, .int 0, .int 0, .null, .int 0, .null, .int 0, .int 0, .int 0]))], [(q1, .inl (G.2.1, 580, .inl (fun _ => 0)))]] H := hP
  have hD : kz_D A [[(h0, .inr (4, [.ref q1, .null, .int 0, .null, .int 0, .null, .int 0, .int 0, .null, .int 0, .null, .int 0, .int 0, .int 0]))], [(q1, .inl (G.2.1, 580, .inl (fun _ => 0)))]] := hD
  refine lv_aload_n hx hb dX4_init_13 rfl (lv_at hl 0 rfl) ?_
  refine lv_sipush (v := 2900) hx hb dX4_init_14 (by decide +kernel) ?_
  refine kz_newI (N := 2900) hx hb (hts (.arrayClass .int) (by decide +kernel)) hK hP hD hS hA (by decide +kernel) (by decide +kernel) (Nat.le_of_ble_eq_true rfl) (Nat.le_of_ble_eq_true rfl) (Nat.le_of_ble_eq_true rfl) dX4_init_17 (fun q2 H hP hD hS => ?_)
  have hP : kz_P G [[(h0, .inr (4, [.ref q1, .null, .int 0, .null, .int 0, .null, .int 0, .int 0, .null, .int 0, .null, .int 0, .int 0, .int 0]))], [(q1, .inl (G.2.1, 580, .inl (fun _ => 0)))], [(q2, .inl (G.2.1, 2900, .inl (fun _ => 0)))]] H := hP
  have hD : kz_D A [[(h0, .inr (4, [.ref q1, .null, .int 0, .null, .int 0, .null, .int 0, .int 0, .null, .int 0, .null, .int 0, .int 0, .int 0]))], [(q1, .inl (G.2.1, 580, .inl (fun _ => 0)))], [(q2, .inl (G.2.1, 2900, .inl (fun _ => 0)))]] := hD
  refine va_putF (D := G.1) (ci := 4) (v := .ref q2) (ty := .array .int) (C := RX4) (T := TX4) (N := 14) hx hb hts hinX4 tyX4 tyX4_ok nmX4 hown hK.1 hP hD hS 0 rfl rfl 1 (by decide) (hts (.fieldLink RX4 13 "ParcelShelvesModel" "past" "[I") (by decide +kernel)) (fun _ h9 => h9) rfl hin rfl (by decide +kernel) rfl rfl (Nat.le_of_ble_eq_true rfl) dX4_init_19 (fun H locs hP hD hS => ?_)
  have hP : kz_P G [[(h0, .inr (4, [.ref q1, .ref q2, .int 0, .null, .int 0, .null, .int 0, .int 0, .null, .int 0, .null, .int 0, .int 0, .int 0]))], [(q1, .inl (G.2.1, 580, .inl (fun _ => 0)))], [(q2, .inl (G.2.1, 2900, .inl (fun _ => 0)))]] H := hP
  have hD : kz_D A [[(h0, .inr (4, [.ref q1, .ref q2, .int 0, .null, .int 0, .null, .int 0, .int 0, .null, .int 0, .null, .int 0, .int 0, .int 0]))], [(q1, .inl (G.2.1, 580, .inl (fun _ => 0)))], [(q2, .inl (G.2.1, 2900, .inl (fun _ => 0)))]] := hD
  refine lv_aload_n hx hb dX4_init_22 rfl (lv_at hl 0 rfl) ?_
  refine lv_sipush (v := 580) hx hb dX4_init_23 (by decide +kernel) ?_
  refine kz_newI (N := 580) hx hb (hts (.arrayClass .int) (by decide +kernel)) hK hP hD hS hA (by decide +kernel) (by decide +kernel) (Nat.le_of_ble_eq_true rfl) (Nat.le_of_ble_eq_true rfl) (Nat.le_of_ble_eq_true rfl) dX4_init_26 (fun q3 H hP hD hS => ?_)
  have hP : kz_P G [[(h0, .inr (4, [.ref q1, .ref q2, .int 0, .null, .int 0, .null, .int 0, .int 0, .null, .int 0, .null, .int 0, .int 0, .int 0]))], [(q1, .inl (G.2.1, 580, .inl (fun _ => 0)))], [(q2, .inl (G.2.1, 2900, .inl (fun _ => 0)))], [(q3, .inl (G.2.1, 580, .inl (fun _ => 0)))]] H := hP
  have hD : kz_D A [[(h0, .inr (4, [.ref q1, .ref q2, .int 0, .null, .int 0, .null, .int 0, .int 0, .null, .int 0, .null, .int 0, .int 0, .int 0]))], [(q1, .inl (G.2.1, 580, .inl (fun _ => 0)))], [(q2, .inl (G.2.1, 2900, .inl (fun _ => 0)))], [(q3, .inl (G.2.1, 580, .inl (fun _ => 0)))]] := hD
  refine va_putF (D := G.1) (ci := 4) (v := .ref q3) (ty := .array .int) (C := RX4) (T := TX4) (N := 14) hx hb hts hinX4 tyX4 tyX4_ok nmX4 hown hK.1 hP hD hS 0 rfl rfl 3 (by decide) (hts (.fieldLink RX4 16 "ParcelShelvesModel" "kept" "[I") (by decide +kernel)) (fun _ h9 => h9) rfl hin rfl (by decide +kernel) rfl rfl (Nat.le_of_ble_eq_true rfl) dX4_init_28 (fun H locs hP hD hS => ?_)
  have hP : kz_P G [[(h0, .inr (4, [.ref q1, .ref q2, .int 0, .ref q3, .int 0, .null, .int 0, .int 0, .null, .int 0, .null, .int 0, .int 0, .int 0]))], [(q1, .inl (G.2.1, 580, .inl (fun _ => 0)))], [(q2, .inl (G.2.1, 2900, .inl (fun _ => 0)))], [(q3, .inl (G.2.1, 580, .inl (fun _ => 0)))]] H := hP
  have hD : kz_D A [[(h0, .inr (4, [.ref q1, .ref q2, .int 0, .ref q3, .int 0, .null, .int 0, .int 0, .null, .int 0, .null, .int 0, .int 0, .int 0]))], [(q1, .inl (G.2.1, 580, .inl (fun _ => 0)))], [(q2, .inl (G.2.1, 2900, .inl (fun _ => 0)))], [(q3, .inl (G.2.1, 580, .inl (fun _ => 0)))]] := hD
  refine lv_aload_n hx hb dX4_init_31 rfl (lv_at hl 0 rfl) ?_
  refine lv_sipush (v := 580) hx hb dX4_init_32 (by decide +kernel) ?_
  refine kz_newI (N := 580) hx hb (hts (.arrayClass .int) (by decide +kernel)) hK hP hD hS hA (by decide +kernel) (by decide +kernel) (Nat.le_of_ble_eq_true rfl) (Nat.le_of_ble_eq_true rfl) (Nat.le_of_ble_eq_true rfl) dX4_init_35 (fun q4 H hP hD hS => ?_)
  have hP : kz_P G [[(h0, .inr (4, [.ref q1, .ref q2, .int 0, .ref q3, .int 0, .null, .int 0, .int 0, .null, .int 0, .null, .int 0, .int 0, .int 0]))], [(q1, .inl (G.2.1, 580, .inl (fun _ => 0)))], [(q2, .inl (G.2.1, 2900, .inl (fun _ => 0)))], [(q3, .inl (G.2.1, 580, .inl (fun _ => 0)))], [(q4, .inl (G.2.1, 580, .inl (fun _ => 0)))]] H := hP
  have hD : kz_D A [[(h0, .inr (4, [.ref q1, .ref q2, .int 0, .ref q3, .int 0, .null, .int 0, .int 0, .null, .int 0, .null, .int 0, .int 0, .int 0]))], [(q1, .inl (G.2.1, 580, .inl (fun _ => 0)))], [(q2, .inl (G.2.1, 2900, .inl (fun _ => 0)))], [(q3, .inl (G.2.1, 580, .inl (fun _ => 0)))], [(q4, .inl (G.2.1, 580, .inl (fun _ => 0)))]] := hD
  refine va_putF (D := G.1) (ci := 4) (v := .ref q4) (ty := .array .int) (C := RX4) (T := TX4) (N := 14) hx hb hts hinX4 tyX4 tyX4_ok nmX4 hown hK.1 hP hD hS 0 rfl rfl 5 (by decide) (hts (.fieldLink RX4 19 "ParcelShelvesModel" "aside" "[I") (by decide +kernel)) (fun _ h9 => h9) rfl hin rfl (by decide +kernel) rfl rfl (Nat.le_of_ble_eq_true rfl) dX4_init_37 (fun H locs hP hD hS => ?_)
  have hP : kz_P G [[(h0, .inr (4, [.ref q1, .ref q2, .int 0, .ref q3, .int 0, .ref q4, .int 0, .int 0, .null, .int 0, .null, .int 0, .int 0, .int 0]))], [(q1, .inl (G.2.1, 580, .inl (fun _ => 0)))], [(q2, .inl (G.2.1, 2900, .inl (fun _ => 0)))], [(q3, .inl (G.2.1, 580, .inl (fun _ => 0)))], [(q4, .inl (G.2.1, 580, .inl (fun _ => 0)))]] H := hP
  have hD : kz_D A [[(h0, .inr (4, [.ref q1, .ref q2, .int 0, .ref q3, .int 0, .ref q4, .int 0, .int 0, .null, .int 0, .null, .int 0, .int 0, .int 0]))], [(q1, .inl (G.2.1, 580, .inl (fun _ => 0)))], [(q2, .inl (G.2.1, 2900, .inl (fun _ => 0)))], [(q3, .inl (G.2.1, 580, .inl (fun _ => 0)))], [(q4, .inl (G.2.1, 580, .inl (fun _ => 0)))]] := hD
  refine lv_aload_n hx hb dX4_init_40 rfl (lv_at hl 0 rfl) ?_
  refine lv_bipush (v := (-6)) hx hb dX4_init_41 (by decide +kernel) ?_
  refine va_put (D := G.1) (ci := 4) (v := .int (-6)) (ty := .int) (C := RX4) (T := TX4) (N := 14) hx hb hts hinX4 tyX4 tyX4_ok nmX4 hown hK.1 hP hD hS 0 rfl rfl 6 (by decide) (hts (.fieldLink RX4 22 "ParcelShelvesModel" "reason" "I") (by decide +kernel)) (fun _ h9 => h9) rfl (by decide +kernel) rfl rfl (Nat.le_of_ble_eq_true rfl) dX4_init_43 (fun H locs hP hD hS => ?_)
  have hP : kz_P G [[(h0, .inr (4, [.ref q1, .ref q2, .int 0, .ref q3, .int 0, .ref q4, .int (-6), .int 0, .null, .int 0, .null, .int 0, .int 0, .int 0]))], [(q1, .inl (G.2.1, 580, .inl (fun _ => 0)))], [(q2, .inl (G.2.1, 2900, .inl (fun _ => 0)))], [(q3, .inl (G.2.1, 580, .inl (fun _ => 0)))], [(q4, .inl (G.2.1, 580, .inl (fun _ => 0)))]] H := hP
  have hD : kz_D A [[(h0, .inr (4, [.ref q1, .ref q2, .int 0, .ref q3, .int 0, .ref q4, .int (-6), .int 0, .null, .int 0, .null, .int 0, .int 0, .int 0]))], [(q1, .inl (G.2.1, 580, .inl (fun _ => 0)))], [(q2, .inl (G.2.1, 2900, .inl (fun _ => 0)))], [(q3, .inl (G.2.1, 580, .inl (fun _ => 0)))], [(q4, .inl (G.2.1, 580, .inl (fun _ => 0)))]] := hD
  refine lv_aload_n hx hb dX4_init_46 rfl (lv_at hl 0 rfl) ?_
  refine lv_bipush (v := (-6)) hx hb dX4_init_47 (by decide +kernel) ?_
  refine va_put (D := G.1) (ci := 4) (v := .int (-6)) (ty := .int) (C := RX4) (T := TX4) (N := 14) hx hb hts hinX4 tyX4 tyX4_ok nmX4 hown hK.1 hP hD hS 0 rfl rfl 7 (by decide) (hts (.fieldLink RX4 26 "ParcelShelvesModel" "behind" "I") (by decide +kernel)) (fun _ h9 => h9) rfl (by decide +kernel) rfl rfl (Nat.le_of_ble_eq_true rfl) dX4_init_49 (fun H locs hP hD hS => ?_)
  have hP : kz_P G [[(h0, .inr (4, [.ref q1, .ref q2, .int 0, .ref q3, .int 0, .ref q4, .int (-6), .int (-6), .null, .int 0, .null, .int 0, .int 0, .int 0]))], [(q1, .inl (G.2.1, 580, .inl (fun _ => 0)))], [(q2, .inl (G.2.1, 2900, .inl (fun _ => 0)))], [(q3, .inl (G.2.1, 580, .inl (fun _ => 0)))], [(q4, .inl (G.2.1, 580, .inl (fun _ => 0)))]] H := hP
  have hD : kz_D A [[(h0, .inr (4, [.ref q1, .ref q2, .int 0, .ref q3, .int 0, .ref q4, .int (-6), .int (-6), .null, .int 0, .null, .int 0, .int 0, .int 0]))], [(q1, .inl (G.2.1, 580, .inl (fun _ => 0)))], [(q2, .inl (G.2.1, 2900, .inl (fun _ => 0)))], [(q3, .inl (G.2.1, 580, .inl (fun _ => 0)))], [(q4, .inl (G.2.1, 580, .inl (fun _ => 0)))]] := hD
  refine lv_aload_n hx hb dX4_init_52 rfl (lv_at hl 0 rfl) ?_
  refine lv_bipush (v := 80) hx hb dX4_init_53 (by decide +kernel) ?_
  refine kz_newC (N := 80) hx hb (hts (.arrayClass .char) (by decide +kernel)) hK hP hD hS hA (by decide +kernel) (by decide +kernel) (Nat.le_of_ble_eq_true rfl) (Nat.le_of_ble_eq_true rfl) (Nat.le_of_ble_eq_true rfl) dX4_init_55 (fun q5 H hP hD hS => ?_)
  have hP : kz_P G [[(h0, .inr (4, [.ref q1, .ref q2, .int 0, .ref q3, .int 0, .ref q4, .int (-6), .int (-6), .null, .int 0, .null, .int 0, .int 0, .int 0]))], [(q1, .inl (G.2.1, 580, .inl (fun _ => 0)))], [(q2, .inl (G.2.1, 2900, .inl (fun _ => 0)))], [(q3, .inl (G.2.1, 580, .inl (fun _ => 0)))], [(q4, .inl (G.2.1, 580, .inl (fun _ => 0)))], [(q5, .inl (G.2.2.1, 80, .inl (fun _ => 0)))]] H := hP
  have hD : kz_D A [[(h0, .inr (4, [.ref q1, .ref q2, .int 0, .ref q3, .int 0, .ref q4, .int (-6), .int (-6), .null, .int 0, .null, .int 0, .int 0, .int 0]))], [(q1, .inl (G.2.1, 580, .inl (fun _ => 0)))], [(q2, .inl (G.2.1, 2900, .inl (fun _ => 0)))], [(q3, .inl (G.2.1, 580, .inl (fun _ => 0)))], [(q4, .inl (G.2.1, 580, .inl (fun _ => 0)))], [(q5, .inl (G.2.2.1, 80, .inl (fun _ => 0)))]] := hD
  refine va_putF (D := G.1) (ci := 4) (v := .ref q5) (ty := .array .char) (C := RX4) (T := TX4) (N := 14) hx hb hts hinX4 tyX4 tyX4_ok nmX4 hown hK.1 hP hD hS 0 rfl rfl 8 (by decide) (hts (.fieldLink RX4 29 "ParcelShelvesModel" "buffer" "[C") (by decide +kernel)) (fun _ h9 => h9) rfl hin rfl (by decide +kernel) rfl rfl (Nat.le_of_ble_eq_true rfl) dX4_init_57 (fun H locs hP hD hS => ?_)
  have hP : kz_P G [[(h0, .inr (4, [.ref q1, .ref q2, .int 0, .ref q3, .int 0, .ref q4, .int (-6), .int (-6), .ref q5, .int 0, .null, .int 0, .int 0, .int 0]))], [(q1, .inl (G.2.1, 580, .inl (fun _ => 0)))], [(q2, .inl (G.2.1, 2900, .inl (fun _ => 0)))], [(q3, .inl (G.2.1, 580, .inl (fun _ => 0)))], [(q4, .inl (G.2.1, 580, .inl (fun _ => 0)))], [(q5, .inl (G.2.2.1, 80, .inl (fun _ => 0)))]] H := hP
  have hD : kz_D A [[(h0, .inr (4, [.ref q1, .ref q2, .int 0, .ref q3, .int 0, .ref q4, .int (-6), .int (-6), .ref q5, .int 0, .null, .int 0, .int 0, .int 0]))], [(q1, .inl (G.2.1, 580, .inl (fun _ => 0)))], [(q2, .inl (G.2.1, 2900, .inl (fun _ => 0)))], [(q3, .inl (G.2.1, 580, .inl (fun _ => 0)))], [(q4, .inl (G.2.1, 580, .inl (fun _ => 0)))], [(q5, .inl (G.2.2.1, 80, .inl (fun _ => 0)))]] := hD
  refine lv_aload_n hx hb dX4_init_60 rfl (lv_at hl 0 rfl) ?_
  refine lv_bipush (v := 84) hx hb dX4_init_61 (by decide +kernel) ?_
  refine kz_newI (N := 84) hx hb (hts (.arrayClass .int) (by decide +kernel)) hK hP hD hS hA (by decide +kernel) (by decide +kernel) (Nat.le_of_ble_eq_true rfl) (Nat.le_of_ble_eq_true rfl) (Nat.le_of_ble_eq_true rfl) dX4_init_63 (fun q6 H hP hD hS => ?_)
  have hP : kz_P G [[(h0, .inr (4, [.ref q1, .ref q2, .int 0, .ref q3, .int 0, .ref q4, .int (-6), .int (-6), .ref q5, .int 0, .null, .int 0, .int 0, .int 0]))], [(q1, .inl (G.2.1, 580, .inl (fun _ => 0)))], [(q2, .inl (G.2.1, 2900, .inl (fun _ => 0)))], [(q3, .inl (G.2.1, 580, .inl (fun _ => 0)))], [(q4, .inl (G.2.1, 580, .inl (fun _ => 0)))], [(q5, .inl (G.2.2.1, 80, .inl (fun _ => 0)))], [(q6, .inl (G.2.1, 84, .inl (fun _ => 0)))]] H := hP
  have hD : kz_D A [[(h0, .inr (4, [.ref q1, .ref q2, .int 0, .ref q3, .int 0, .ref q4, .int (-6), .int (-6), .ref q5, .int 0, .null, .int 0, .int 0, .int 0]))], [(q1, .inl (G.2.1, 580, .inl (fun _ => 0)))], [(q2, .inl (G.2.1, 2900, .inl (fun _ => 0)))], [(q3, .inl (G.2.1, 580, .inl (fun _ => 0)))], [(q4, .inl (G.2.1, 580, .inl (fun _ => 0)))], [(q5, .inl (G.2.2.1, 80, .inl (fun _ => 0)))], [(q6, .inl (G.2.1, 84, .inl (fun _ => 0)))]] := hD
  refine va_putF (D := G.1) (ci := 4) (v := .ref q6) (ty := .array .int) (C := RX4) (T := TX4) (N := 14) hx hb hts hinX4 tyX4 tyX4_ok nmX4 hown hK.1 hP hD hS 0 rfl rfl 10 (by decide) (hts (.fieldLink RX4 33 "ParcelShelvesModel" "told" "[I") (by decide +kernel)) (fun _ h9 => h9) rfl hin rfl (by decide +kernel) rfl rfl (Nat.le_of_ble_eq_true rfl) dX4_init_65 (fun H locs hP hD hS => ?_)
  have hP : kz_P G [[(h0, .inr (4, [.ref q1, .ref q2, .int 0, .ref q3, .int 0, .ref q4, .int (-6), .int (-6), .ref q5, .int 0, .ref q6, .int 0, .int 0, .int 0]))], [(q1, .inl (G.2.1, 580, .inl (fun _ => 0)))], [(q2, .inl (G.2.1, 2900, .inl (fun _ => 0)))], [(q3, .inl (G.2.1, 580, .inl (fun _ => 0)))], [(q4, .inl (G.2.1, 580, .inl (fun _ => 0)))], [(q5, .inl (G.2.2.1, 80, .inl (fun _ => 0)))], [(q6, .inl (G.2.1, 84, .inl (fun _ => 0)))]] H := hP
  have hD : kz_D A [[(h0, .inr (4, [.ref q1, .ref q2, .int 0, .ref q3, .int 0, .ref q4, .int (-6), .int (-6), .ref q5, .int 0, .ref q6, .int 0, .int 0, .int 0]))], [(q1, .inl (G.2.1, 580, .inl (fun _ => 0)))], [(q2, .inl (G.2.1, 2900, .inl (fun _ => 0)))], [(q3, .inl (G.2.1, 580, .inl (fun _ => 0)))], [(q4, .inl (G.2.1, 580, .inl (fun _ => 0)))], [(q5, .inl (G.2.2.1, 80, .inl (fun _ => 0)))], [(q6, .inl (G.2.1, 84, .inl (fun _ => 0)))]] := hD
  refine lv_aload_n hx hb dX4_init_68 rfl (lv_at hl 0 rfl) ?_
  refine va_get (D := G.1) (ci := 4) (v := .ref q1) (C := RX4) (T := TX4) (N := 14) hx hb hts hinX4 hown hK.1 hP 0 rfl rfl 0 (by decide) (hts (.fieldLink RX4 7 "ParcelShelvesModel" "z" "[I") (by decide +kernel)) (fun _ h9 => h9) rfl dX4_init_69 ?_
  refine lv_iconst (v := 0) hx hb dX4_init_72 (by decide +kernel) ?_
  refine lv_iconst (v := 5) hx hb dX4_init_73 (by decide +kernel) ?_
  refine va_iast hx hb hK.1 hP hD hS 1 0 rfl rfl (vp_in_nI (n := 0) (N := 580) (by decide) (by decide)) dX4_init_74 (fun H locs hP hD hS => ?_)
  have hP : kz_P G [[(h0, .inr (4, [.ref q1, .ref q2, .int 0, .ref q3, .int 0, .ref q4, .int (-6), .int (-6), .ref q5, .int 0, .ref q6, .int 0, .int 0, .int 0]))], [(q1, .inl (G.2.1, 580, .inl (upd (fun _ => 0) 0 5)))], [(q2, .inl (G.2.1, 2900, .inl (fun _ => 0)))], [(q3, .inl (G.2.1, 580, .inl (fun _ => 0)))], [(q4, .inl (G.2.1, 580, .inl (fun _ => 0)))], [(q5, .inl (G.2.2.1, 80, .inl (fun _ => 0)))], [(q6, .inl (G.2.1, 84, .inl (fun _ => 0)))]] H := hP
  have hD : kz_D A [[(h0, .inr (4, [.ref q1, .ref q2, .int 0, .ref q3, .int 0, .ref q4, .int (-6), .int (-6), .ref q5, .int 0, .ref q6, .int 0, .int 0, .int 0]))], [(q1, .inl (G.2.1, 580, .inl (upd (fun _ => 0) 0 5)))], [(q2, .inl (G.2.1, 2900, .inl (fun _ => 0)))], [(q3, .inl (G.2.1, 580, .inl (fun _ => 0)))], [(q4, .inl (G.2.1, 580, .inl (fun _ => 0)))], [(q5, .inl (G.2.2.1, 80, .inl (fun _ => 0)))], [(q6, .inl (G.2.1, 84, .inl (fun _ => 0)))]] := hD
  refine lv_aload_n hx hb dX4_init_75 rfl (lv_at hl 0 rfl) ?_
  refine va_get (D := G.1) (ci := 4) (v := .ref q1) (C := RX4) (T := TX4) (N := 14) hx hb hts hinX4 hown hK.1 hP 0 rfl rfl 0 (by decide) (hts (.fieldLink RX4 7 "ParcelShelvesModel" "z" "[I") (by decide +kernel)) (fun _ h9 => h9) rfl dX4_init_76 ?_
  refine lv_iconst (v := 1) hx hb dX4_init_79 (by decide +kernel) ?_
  refine lv_iconst (v := 2) hx hb dX4_init_80 (by decide +kernel) ?_
  refine va_iast hx hb hK.1 hP hD hS 1 0 rfl rfl (vp_in_nI (n := 1) (N := 580) (by decide) (by decide)) dX4_init_81 (fun H locs hP hD hS => ?_)
  have hP : kz_P G [[(h0, .inr (4, [.ref q1, .ref q2, .int 0, .ref q3, .int 0, .ref q4, .int (-6), .int (-6), .ref q5, .int 0, .ref q6, .int 0, .int 0, .int 0]))], [(q1, .inl (G.2.1, 580, .inl (upd (upd (fun _ => 0) 0 5) 1 2)))], [(q2, .inl (G.2.1, 2900, .inl (fun _ => 0)))], [(q3, .inl (G.2.1, 580, .inl (fun _ => 0)))], [(q4, .inl (G.2.1, 580, .inl (fun _ => 0)))], [(q5, .inl (G.2.2.1, 80, .inl (fun _ => 0)))], [(q6, .inl (G.2.1, 84, .inl (fun _ => 0)))]] H := hP
  have hD : kz_D A [[(h0, .inr (4, [.ref q1, .ref q2, .int 0, .ref q3, .int 0, .ref q4, .int (-6), .int (-6), .ref q5, .int 0, .ref q6, .int 0, .int 0, .int 0]))], [(q1, .inl (G.2.1, 580, .inl (upd (upd (fun _ => 0) 0 5) 1 2)))], [(q2, .inl (G.2.1, 2900, .inl (fun _ => 0)))], [(q3, .inl (G.2.1, 580, .inl (fun _ => 0)))], [(q4, .inl (G.2.1, 580, .inl (fun _ => 0)))], [(q5, .inl (G.2.2.1, 80, .inl (fun _ => 0)))], [(q6, .inl (G.2.1, 84, .inl (fun _ => 0)))]] := hD
  refine lv_aload_n hx hb dX4_init_82 rfl (lv_at hl 0 rfl) ?_
  refine va_get (D := G.1) (ci := 4) (v := .ref q1) (C := RX4) (T := TX4) (N := 14) hx hb hts hinX4 hown hK.1 hP 0 rfl rfl 0 (by decide) (hts (.fieldLink RX4 7 "ParcelShelvesModel" "z" "[I") (by decide +kernel)) (fun _ h9 => h9) rfl dX4_init_83 ?_
  refine lv_iconst (v := 2) hx hb dX4_init_86 (by decide +kernel) ?_
  refine lv_bipush (v := 10) hx hb dX4_init_87 (by decide +kernel) ?_
  refine va_iast hx hb hK.1 hP hD hS 1 0 rfl rfl (vp_in_nI (n := 2) (N := 580) (by decide) (by decide)) dX4_init_89 (fun H locs hP hD hS => ?_)
  have hP : kz_P G [[(h0, .inr (4, [.ref q1, .ref q2, .int 0, .ref q3, .int 0, .ref q4, .int (-6), .int (-6), .ref q5, .int 0, .ref q6, .int 0, .int 0, .int 0]))], [(q1, .inl (G.2.1, 580, .inl (upd (upd (upd (fun _ => 0) 0 5) 1 2) 2 10)))], [(q2, .inl (G.2.1, 2900, .inl (fun _ => 0)))], [(q3, .inl (G.2.1, 580, .inl (fun _ => 0)))], [(q4, .inl (G.2.1, 580, .inl (fun _ => 0)))], [(q5, .inl (G.2.2.1, 80, .inl (fun _ => 0)))], [(q6, .inl (G.2.1, 84, .inl (fun _ => 0)))]] H := hP
  have hD : kz_D A [[(h0, .inr (4, [.ref q1, .ref q2, .int 0, .ref q3, .int 0, .ref q4, .int (-6), .int (-6), .ref q5, .int 0, .ref q6, .int 0, .int 0, .int 0]))], [(q1, .inl (G.2.1, 580, .inl (upd (upd (upd (fun _ => 0) 0 5) 1 2) 2 10)))], [(q2, .inl (G.2.1, 2900, .inl (fun _ => 0)))], [(q3, .inl (G.2.1, 580, .inl (fun _ => 0)))], [(q4, .inl (G.2.1, 580, .inl (fun _ => 0)))], [(q5, .inl (G.2.2.1, 80, .inl (fun _ => 0)))], [(q6, .inl (G.2.1, 84, .inl (fun _ => 0)))]] := hD
  refine lv_aload_n hx hb dX4_init_90 rfl (lv_at hl 0 rfl) ?_
  refine va_get (D := G.1) (ci := 4) (v := .ref q1) (C := RX4) (T := TX4) (N := 14) hx hb hts hinX4 hown hK.1 hP 0 rfl rfl 0 (by decide) (hts (.fieldLink RX4 7 "ParcelShelvesModel" "z" "[I") (by decide +kernel)) (fun _ h9 => h9) rfl dX4_init_91 ?_
  refine lv_iconst (v := 3) hx hb dX4_init_94 (by decide +kernel) ?_
  refine lv_bipush (v := 7) hx hb dX4_init_95 (by decide +kernel) ?_
  refine va_iast hx hb hK.1 hP hD hS 1 0 rfl rfl (vp_in_nI (n := 3) (N := 580) (by decide) (by decide)) dX4_init_97 (fun H locs hP hD hS => ?_)
  have hP : kz_P G [[(h0, .inr (4, [.ref q1, .ref q2, .int 0, .ref q3, .int 0, .ref q4, .int (-6), .int (-6), .ref q5, .int 0, .ref q6, .int 0, .int 0, .int 0]))], [(q1, .inl (G.2.1, 580, .inl (upd (upd (upd (upd (fun _ => 0) 0 5) 1 2) 2 10) 3 7)))], [(q2, .inl (G.2.1, 2900, .inl (fun _ => 0)))], [(q3, .inl (G.2.1, 580, .inl (fun _ => 0)))], [(q4, .inl (G.2.1, 580, .inl (fun _ => 0)))], [(q5, .inl (G.2.2.1, 80, .inl (fun _ => 0)))], [(q6, .inl (G.2.1, 84, .inl (fun _ => 0)))]] H := hP
  have hD : kz_D A [[(h0, .inr (4, [.ref q1, .ref q2, .int 0, .ref q3, .int 0, .ref q4, .int (-6), .int (-6), .ref q5, .int 0, .ref q6, .int 0, .int 0, .int 0]))], [(q1, .inl (G.2.1, 580, .inl (upd (upd (upd (upd (fun _ => 0) 0 5) 1 2) 2 10) 3 7)))], [(q2, .inl (G.2.1, 2900, .inl (fun _ => 0)))], [(q3, .inl (G.2.1, 580, .inl (fun _ => 0)))], [(q4, .inl (G.2.1, 580, .inl (fun _ => 0)))], [(q5, .inl (G.2.2.1, 80, .inl (fun _ => 0)))], [(q6, .inl (G.2.1, 84, .inl (fun _ => 0)))]] := hD
  refine lv_aload_n hx hb dX4_init_98 rfl (lv_at hl 0 rfl) ?_
  refine va_get (D := G.1) (ci := 4) (v := .ref q1) (C := RX4) (T := TX4) (N := 14) hx hb hts hinX4 hown hK.1 hP 0 rfl rfl 0 (by decide) (hts (.fieldLink RX4 7 "ParcelShelvesModel" "z" "[I") (by decide +kernel)) (fun _ h9 => h9) rfl dX4_init_99 ?_
  refine lv_iconst (v := 4) hx hb dX4_init_102 (by decide +kernel) ?_
  refine lv_iconst (v := 2) hx hb dX4_init_103 (by decide +kernel) ?_
  refine va_iast hx hb hK.1 hP hD hS 1 0 rfl rfl (vp_in_nI (n := 4) (N := 580) (by decide) (by decide)) dX4_init_104 (fun H locs hP hD hS => ?_)
  have hP : kz_P G [[(h0, .inr (4, [.ref q1, .ref q2, .int 0, .ref q3, .int 0, .ref q4, .int (-6), .int (-6), .ref q5, .int 0, .ref q6, .int 0, .int 0, .int 0]))], [(q1, .inl (G.2.1, 580, .inl (upd (upd (upd (upd (upd (fun _ => 0) 0 5) 1 2) 2 10) 3 7) 4 2)))], [(q2, .inl (G.2.1, 2900, .inl (fun _ => 0)))], [(q3, .inl (G.2.1, 580, .inl (fun _ => 0)))], [(q4, .inl (G.2.1, 580, .inl (fun _ => 0)))], [(q5, .inl (G.2.2.1, 80, .inl (fun _ => 0)))], [(q6, .inl (G.2.1, 84, .inl (fun _ => 0)))]] H := hP
  have hD : kz_D A [[(h0, .inr (4, [.ref q1, .ref q2, .int 0, .ref q3, .int 0, .ref q4, .int (-6), .int (-6), .ref q5, .int 0, .ref q6, .int 0, .int 0, .int 0]))], [(q1, .inl (G.2.1, 580, .inl (upd (upd (upd (upd (upd (fun _ => 0) 0 5) 1 2) 2 10) 3 7) 4 2)))], [(q2, .inl (G.2.1, 2900, .inl (fun _ => 0)))], [(q3, .inl (G.2.1, 580, .inl (fun _ => 0)))], [(q4, .inl (G.2.1, 580, .inl (fun _ => 0)))], [(q5, .inl (G.2.2.1, 80, .inl (fun _ => 0)))], [(q6, .inl (G.2.1, 84, .inl (fun _ => 0)))]] := hD
  refine lv_iconst (v := 0) hx hb dX4_init_105 (by decide +kernel) ?_
  refine lv_istore_n (lv' := [(1, .int 0), (0, .ref h0)]) hx hb dX4_init_106 rfl hl (by decide) rfl (fun ls hl => ?_)
  have L1 : ∀ (n5 : Nat) (i : Nat), (336 - i < n5) → (i ≤ 336) → ∀ (H : Heap) (locs : List Loc), kz_P G [[(h0, .inr (4, [.ref q1, .ref q2, .int 0, .ref q3, .int 0, .ref q4, .int (-6), .int (-6), .ref q5, .int 0, .ref q6, .int 0, .int 0, .int 0]))], [(q1, .inl (G.2.1, 580, .inl (kz_zn i)))], [(q2, .inl (G.2.1, 2900, .inl (fun _ => 0)))], [(q3, .inl (G.2.1, 580, .inl (fun _ => 0)))], [(q4, .inl (G.2.1, 580, .inl (fun _ => 0)))], [(q5, .inl (G.2.2.1, 80, .inl (fun _ => 0)))], [(q6, .inl (G.2.1, 84, .inl (fun _ => 0)))]] H → kz_D A [[(h0, .inr (4, [.ref q1, .ref q2, .int 0, .ref q3, .int 0, .ref q4, .int (-6), .int (-6), .ref q5, .int 0, .ref q6, .int 0, .int 0, .int 0]))], [(q1, .inl (G.2.1, 580, .inl (kz_zn i)))], [(q2, .inl (G.2.1, 2900, .inl (fun _ => 0)))], [(q3, .inl (G.2.1, 580, .inl (fun _ => 0)))], [(q4, .inl (G.2.1, 580, .inl (fun _ => 0)))], [(q5, .inl (G.2.2.1, 80, .inl (fun _ => 0)))], [(q6, .inl (G.2.1, 84, .inl (fun _ => 0)))]] → va_S A s.heap H locs → ∀ ls : Array Slot, lv_has ls 2 [(1, .int (nI i)), (0, .ref h0)] → W p l e (headSpec wsX4_init (kz_rmI 1 20 6 4804)).room s m ([.ref h0] : List Value).toArray below meth c H locs 6 4804 QQ (F0 m 107 ls []) := by
    intro n5
    induction n5 with
    | zero => intro i h0; exact absurd h0 (Nat.not_lt_zero _)
    | succ n5 ih =>
      intro i hmeas hi1 H locs hP hD hS ls hl
      refine lv_iload_n hx hb dX4_init_107 rfl (lv_at hl 0 rfl) ?_
      refine lv_sipush (v := 336) hx hb dX4_init_108 (by decide +kernel) ?_
      refine lv_icmp_ge (tgt := 132) hx hb dX4_init_111 (by decide) (fun c_3 => ?_) (fun c_3 => ?_)
      · have hge := kz_le (a := 336) (b := i) c_3 (by omega) (by omega)
        have ei : i = 336 := by omega
        subst ei
        subst hQ
        have hP9 : kz_P G [mdW G (kz_adr [h0, q1, q2, q3, q4, q5, q6]) kz_M0] H := hP
        have hD9 : kz_D A [mdW G (kz_adr [h0, q1, q2, q3, q4, q5, q6]) kz_M0] := hD
        have hok : (kz_adr [h0, q1, q2, q3, q4, q5, q6]) 0 = h0 := rfl
        exact W.vret hx hb hr (fun t ht hW => ⟨⟨(kz_adr [h0, q1, q2, q3, q4, q5, q6]), rfl, hok, by rw [ht]; exact hP9, hD9⟩, hS.F ht⟩) hS.2.2 dX4_init_132
      · have hlt := kz_gt (a := 336) (b := i) c_3 (by omega) (by omega)
        refine lv_aload_n hx hb dX4_init_114 rfl (lv_at hl 1 rfl) ?_
        refine va_get (D := G.1) (ci := 4) (v := .ref q1) (C := RX4) (T := TX4) (N := 14) hx hb hts hinX4 hown hK.1 hP 0 rfl rfl 0 (by decide) (hts (.fieldLink RX4 7 "ParcelShelvesModel" "z" "[I") (by decide +kernel)) (fun _ h9 => h9) rfl dX4_init_115 ?_
        refine lv_sipush (v := 204) hx hb dX4_init_118 (by decide +kernel) ?_
        refine lv_iload_n hx hb dX4_init_121 rfl (lv_at hl 0 rfl) ?_
        refine lv_iadd hx hb dX4_init_122 ?_
        rw [show (204 : Int32) + nI i = nI (204 + i) from nI_add 204 i]
        refine lv_bipush (v := (-6)) hx hb dX4_init_123 (by decide +kernel) ?_
        refine va_iast hx hb hK.1 hP hD hS 1 0 rfl rfl (vp_in_nI (n := 204 + i) (N := 580) (by omega) (by decide)) dX4_init_125 (fun H locs hP hD hS => ?_)
        rw [kz_nI_clamp (n := 204 + i) (by omega)] at hP hD
        have hP : kz_P G [[(h0, .inr (4, [.ref q1, .ref q2, .int 0, .ref q3, .int 0, .ref q4, .int (-6), .int (-6), .ref q5, .int 0, .ref q6, .int 0, .int 0, .int 0]))], [(q1, .inl (G.2.1, 580, .inl (kz_zn (i + 1))))], [(q2, .inl (G.2.1, 2900, .inl (fun _ => 0)))], [(q3, .inl (G.2.1, 580, .inl (fun _ => 0)))], [(q4, .inl (G.2.1, 580, .inl (fun _ => 0)))], [(q5, .inl (G.2.2.1, 80, .inl (fun _ => 0)))], [(q6, .inl (G.2.1, 84, .inl (fun _ => 0)))]] H := hP
        have hD : kz_D A [[(h0, .inr (4, [.ref q1, .ref q2, .int 0, .ref q3, .int 0, .ref q4, .int (-6), .int (-6), .ref q5, .int 0, .ref q6, .int 0, .int 0, .int 0]))], [(q1, .inl (G.2.1, 580, .inl (kz_zn (i + 1))))], [(q2, .inl (G.2.1, 2900, .inl (fun _ => 0)))], [(q3, .inl (G.2.1, 580, .inl (fun _ => 0)))], [(q4, .inl (G.2.1, 580, .inl (fun _ => 0)))], [(q5, .inl (G.2.2.1, 80, .inl (fun _ => 0)))], [(q6, .inl (G.2.1, 84, .inl (fun _ => 0)))]] := hD
        refine lv_iinc (v := (nI (i + 1))) (lv' := [(1, .int (nI (i + 1))), (0, .ref h0)]) hx hb dX4_init_126 hl (k := 0) rfl (nI_1 _) (by decide) rfl (fun ls hl => ?_)
        refine lv_goto (tgt := 107) hx hb dX4_init_129 (by decide) ?_
        exact ih (i + 1) (by omega) (by omega) H locs hP hD hS ls (lv_sub hl [0, 1] rfl)
  have hP : kz_P G [[(h0, .inr (4, [.ref q1, .ref q2, .int 0, .ref q3, .int 0, .ref q4, .int (-6), .int (-6), .ref q5, .int 0, .ref q6, .int 0, .int 0, .int 0]))], [(q1, .inl (G.2.1, 580, .inl (kz_zn 0)))], [(q2, .inl (G.2.1, 2900, .inl (fun _ => 0)))], [(q3, .inl (G.2.1, 580, .inl (fun _ => 0)))], [(q4, .inl (G.2.1, 580, .inl (fun _ => 0)))], [(q5, .inl (G.2.2.1, 80, .inl (fun _ => 0)))], [(q6, .inl (G.2.1, 84, .inl (fun _ => 0)))]] H := hP
  have hD : kz_D A [[(h0, .inr (4, [.ref q1, .ref q2, .int 0, .ref q3, .int 0, .ref q4, .int (-6), .int (-6), .ref q5, .int 0, .ref q6, .int 0, .int 0, .int 0]))], [(q1, .inl (G.2.1, 580, .inl (kz_zn 0)))], [(q2, .inl (G.2.1, 2900, .inl (fun _ => 0)))], [(q3, .inl (G.2.1, 580, .inl (fun _ => 0)))], [(q4, .inl (G.2.1, 580, .inl (fun _ => 0)))], [(q5, .inl (G.2.2.1, 80, .inl (fun _ => 0)))], [(q6, .inl (G.2.1, 84, .inl (fun _ => 0)))]] := hD
  refine W.widen (k := 6) (n := 4804) (Nat.le_of_ble_eq_true rfl) (Nat.le_of_ble_eq_true rfl) ?_
  exact L1 _ 0 (Nat.lt_succ_self _) (by omega) H locs hP hD hS ls (lv_sub hl [0, 1] rfl)
