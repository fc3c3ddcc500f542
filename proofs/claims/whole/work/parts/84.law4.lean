section KL
variable {p : Program} {l : Launch} {e : Env} {s : State} {m : MethodId} {below : List Frame} {meth : Method} {c : Code} {bb L i : Nat} {xs : Nat → Int32} {G : kz_G} {x : Nat} {a sv ah h t o : Nat → Nat} {b : Nat → Nat → Nat} {V S Sv Sa Y : kz_S} {R : Nat → kz_S} {T M : kz_S}
set_option maxHeartbeats 1000000 in
set_option maxRecDepth 100000 in
theorem kl_c_goesIn (C0 : kl_C p s m c bb L xs G) (hi : i + 4 ≤ L) (hL : L ≤ 2048) (I : kl_I V S Sv Y R T M) (KK : kl_K p l e s m below meth c bb G x a sv ah h t o b i) : kl_at p l e s m below meth c bb G x a sv ah h t o b i 714 V S Sv Sa Y R T M := by
  obtain ⟨hx, hb, hml, hown, hts, hX, hbl, hK, hZ⟩ := C0
  have hA : ∀ q : Nat, s.heap.size ≤ q → (fun q : Nat => s.heap.size ≤ q) q := fun _ h => h
  have hbA : ¬ (fun q : Nat => s.heap.size ≤ q) bb := Nat.not_le.mpr hbl
  intro H locs ls hP hD hS hl
  have hi1 : vp_in (nI i + 1) L := kl_in (k := 1) (by omega) hi hL
  obtain ⟨q, hq⟩ : ∃ z : Int32, z = xs (nI i + 1).toNatClampNeg := ⟨_, rfl⟩
  refine lv_aload_n hx hb dL_law_714 rfl (lv_at hl 1 rfl) ?_
  refine lv_aload_n hx hb dL_law_715 rfl (lv_at hl 0 rfl) ?_
  refine lv_iload_n hx hb dL_law_716 rfl (lv_at hl 3 rfl) ?_
  refine lv_iconst (v := 1) hx hb dL_law_717 (by decide +kernel) ?_
  refine lv_iadd hx hb dL_law_718 ?_
  refine va_sld hx hb hX hbl hbA hS hi1 dL_law_719 ?_
  refine lv_topi (fun y ey => ?_)
  obtain rfl : q = y := hq.trans ey.symm
  refine kz_miV (As := [.int q]) (rest := []) (b := x) (wr := [shW G sv Sv, hsW G h (fun j => b j 0) Y, shW G (b 0) (R 0), shW G (b 1) (R 1), shW G (b 2) (R 2), shW G (b 3) (R 3), shW G (b 4) (R 4), shW G (b 5) (R 5), txW G t T, mdW G o M]) (bs' := kl_W G x a sv ah h b t o V S Sv (X3_goesIn_s S Sa q) Y R T M) ⟨hx, hb, hml, hown, hts⟩ (c_X3_goesIn l G x (sv 0) (h 0) (t 0) V a S ah Sa q (kl_J I)) (cwV 1 hts gL_law_X3_goesIn rfl rfl rfl (by decide +kernel) ⟨Nat.le_of_ble_eq_true rfl, Nat.le_of_ble_eq_true rfl⟩) hK hP hD hS hA [0, 1, 3] [2, 4, 5, 6, 7, 8, 9, 10, 11, 12] [10, 11, 0, 12, 1, 2, 3, 4, 5, 6, 7, 8, 9] rfl (by decide) rfl (by decide) (by decide) rfl (by decide) (kz_recv hK hP (ci := 3) (q0 := 0) rfl rfl) rfl hl.1 rfl (Nat.le_of_ble_eq_true rfl) dL_law_720 ⟨Nat.le_of_ble_eq_true rfl, Nat.le_of_ble_eq_true rfl⟩ (fun H locs hP hD hS => ?_)
  refine lv_aload_n hx hb dL_law_723 rfl (lv_at hl 2 rfl) ?_
  refine lv_aload_n hx hb dL_law_724 rfl (lv_at hl 0 rfl) ?_
  refine lv_iload_n hx hb dL_law_725 rfl (lv_at hl 3 rfl) ?_
  refine lv_iconst (v := 1) hx hb dL_law_726 (by decide +kernel) ?_
  refine lv_iadd hx hb dL_law_727 ?_
  refine va_sld hx hb hX hbl hbA hS hi1 dL_law_728 ?_
  refine lv_topi (fun y ey => ?_)
  obtain rfl : q = y := hq.trans ey.symm
  refine kz_miV (As := [.int q]) (rest := [.int (X3_goesIn_r S q)]) (b := o 0) (wr := [xoW x (a 0) (sv 0) (ah 0) (h 0) (t 0) V, shW G a S, shW G sv Sv, shW G ah (X3_goesIn_s S Sa q), hsW G h (fun j => b j 0) Y, shW G (b 0) (R 0), shW G (b 1) (R 1), shW G (b 2) (R 2), shW G (b 3) (R 3), shW G (b 4) (R 4), shW G (b 5) (R 5), txW G t T]) (bs' := kl_W G x a sv ah h b t o V S Sv (X3_goesIn_s S Sa q) Y R T ((va_up (va_up M 0 (X4_goesIn_c0 (M 0) (M 5) q)) 5 (X4_goesIn_c5 (M 0) (M 5) q)))) ⟨hx, hb, hml, hown, hts⟩ (c_X4_goesIn l G o M q (kl_M I)) (cwV 1 hts gL_law_X4_goesIn rfl rfl rfl (by decide +kernel) ⟨Nat.le_of_ble_eq_true rfl, Nat.le_of_ble_eq_true rfl⟩) hK hP hD hS hA [12] [0, 1, 2, 3, 4, 5, 6, 7, 8, 9, 10, 11] [0, 1, 2, 3, 4, 5, 6, 7, 8, 9, 10, 11, 12] rfl (by decide) rfl (by decide) (by decide) rfl (by decide) (kz_recv hK (hP.sub (cs := [mdW G o M]) [12] rfl) (ci := 4) (q0 := 0) rfl rfl) rfl hl.1 rfl (Nat.le_of_ble_eq_true rfl) dL_law_729 ⟨Nat.le_of_ble_eq_true rfl, Nat.le_of_ble_eq_true rfl⟩ (fun H locs hP hD hS => ?_)
  obtain ⟨e9, I2⟩ := kl_p_goesIn I q
  refine lv_icmp_eq (tgt := 861) hx hb dL_law_732 (by decide) (fun _ => ?_) (fun c9 => absurd e9 c9)
  exact (KK _ _ _ _ _ _ _ _ I2) _ _ _ hP hD hS hl
set_option maxHeartbeats 1000000 in
set_option maxRecDepth 100000 in
theorem kl_c_chargesIn (C0 : kl_C p s m c bb L xs G) (hi : i + 4 ≤ L) (hL : L ≤ 2048) (I : kl_I V S Sv Y R T M) (KK : kl_K p l e s m below meth c bb G x a sv ah h t o b i) : kl_at p l e s m below meth c bb G x a sv ah h t o b i 737 V S Sv Sa Y R T M := by
  obtain ⟨hx, hb, hml, hown, hts, hX, hbl, hK, hZ⟩ := C0
  have hA : ∀ q : Nat, s.heap.size ≤ q → (fun q : Nat => s.heap.size ≤ q) q := fun _ h => h
  have hbA : ¬ (fun q : Nat => s.heap.size ≤ q) bb := Nat.not_le.mpr hbl
  intro H locs ls hP hD hS hl
  have hi1 : vp_in (nI i + 1) L := kl_in (k := 1) (by omega) hi hL
  obtain ⟨q, hq⟩ : ∃ z : Int32, z = xs (nI i + 1).toNatClampNeg := ⟨_, rfl⟩
  refine lv_aload_n hx hb dL_law_737 rfl (lv_at hl 1 rfl) ?_
  refine lv_aload_n hx hb dL_law_738 rfl (lv_at hl 0 rfl) ?_
  refine lv_iload_n hx hb dL_law_739 rfl (lv_at hl 3 rfl) ?_
  refine lv_iconst (v := 1) hx hb dL_law_740 (by decide +kernel) ?_
  refine lv_iadd hx hb dL_law_741 ?_
  refine va_sld hx hb hX hbl hbA hS hi1 dL_law_742 ?_
  refine lv_topi (fun y ey => ?_)
  obtain rfl : q = y := hq.trans ey.symm
  refine kz_miV (As := [.int q]) (rest := []) (b := x) (wr := [shW G sv Sv, hsW G h (fun j => b j 0) Y, shW G (b 0) (R 0), shW G (b 1) (R 1), shW G (b 2) (R 2), shW G (b 3) (R 3), shW G (b 4) (R 4), shW G (b 5) (R 5), txW G t T, mdW G o M]) (bs' := kl_W G x a sv ah h b t o V S Sv (X3_chargesIn_s S Sa q) Y R T M) ⟨hx, hb, hml, hown, hts⟩ (c_X3_chargesIn l G x (sv 0) (h 0) (t 0) V a S ah Sa q (kl_J I)) (cwV 1 hts gL_law_X3_chargesIn rfl rfl rfl (by decide +kernel) ⟨Nat.le_of_ble_eq_true rfl, Nat.le_of_ble_eq_true rfl⟩) hK hP hD hS hA [0, 1, 3] [2, 4, 5, 6, 7, 8, 9, 10, 11, 12] [10, 11, 0, 12, 1, 2, 3, 4, 5, 6, 7, 8, 9] rfl (by decide) rfl (by decide) (by decide) rfl (by decide) (kz_recv hK hP (ci := 3) (q0 := 0) rfl rfl) rfl hl.1 rfl (Nat.le_of_ble_eq_true rfl) dL_law_743 ⟨Nat.le_of_ble_eq_true rfl, Nat.le_of_ble_eq_true rfl⟩ (fun H locs hP hD hS => ?_)
  refine lv_aload_n hx hb dL_law_746 rfl (lv_at hl 2 rfl) ?_
  refine lv_aload_n hx hb dL_law_747 rfl (lv_at hl 0 rfl) ?_
  refine lv_iload_n hx hb dL_law_748 rfl (lv_at hl 3 rfl) ?_
  refine lv_iconst (v := 1) hx hb dL_law_749 (by decide +kernel) ?_
  refine lv_iadd hx hb dL_law_750 ?_
  refine va_sld hx hb hX hbl hbA hS hi1 dL_law_751 ?_
  refine lv_topi (fun y ey => ?_)
  obtain rfl : q = y := hq.trans ey.symm
  refine kz_miV (As := [.int q]) (rest := [.int (X3_chargesIn_r S q)]) (b := o 0) (wr := [xoW x (a 0) (sv 0) (ah 0) (h 0) (t 0) V, shW G a S, shW G sv Sv, shW G ah (X3_chargesIn_s S Sa q), hsW G h (fun j => b j 0) Y, shW G (b 0) (R 0), shW G (b 1) (R 1), shW G (b 2) (R 2), shW G (b 3) (R 3), shW G (b 4) (R 4), shW G (b 5) (R 5), txW G t T]) (bs' := kl_W G x a sv ah h b t o V S Sv (X3_chargesIn_s S Sa q) Y R T ((va_up (va_up M 0 (X4_chargesIn_c0 (M 0) (M 5) q)) 5 (X4_chargesIn_c5 (M 0) (M 5) q)))) ⟨hx, hb, hml, hown, hts⟩ (c_X4_chargesIn l G o M q (kl_MP I)) (cwV 1 hts gL_law_X4_chargesIn rfl rfl rfl (by decide +kernel) ⟨Nat.le_of_ble_eq_true rfl, Nat.le_of_ble_eq_true rfl⟩) hK hP hD hS hA [12] [0, 1, 2, 3, 4, 5, 6, 7, 8, 9, 10, 11] [0, 1, 2, 3, 4, 5, 6, 7, 8, 9, 10, 11, 12] rfl (by decide) rfl (by decide) (by decide) rfl (by decide) (kz_recv hK (hP.sub (cs := [mdW G o M]) [12] rfl) (ci := 4) (q0 := 0) rfl rfl) rfl hl.1 rfl (Nat.le_of_ble_eq_true rfl) dL_law_752 ⟨Nat.le_of_ble_eq_true rfl, Nat.le_of_ble_eq_true rfl⟩ (fun H locs hP hD hS => ?_)
  obtain ⟨e9, I2⟩ := kl_p_chargesIn I q
  refine lv_icmp_eq (tgt := 861) hx hb dL_law_755 (by decide) (fun _ => ?_) (fun c9 => absurd e9 c9)
  exact (KK _ _ _ _ _ _ _ _ I2) _ _ _ hP hD hS hl
set_option maxHeartbeats 1000000 in
set_option maxRecDepth 100000 in
theorem kl_c_append (C0 : kl_C p s m c bb L xs G) (hi : i + 4 ≤ L) (hL : L ≤ 2048) (I : kl_I V S Sv Y R T M) (KK : kl_K p l e s m below meth c bb G x a sv ah h t o b i) : kl_at p l e s m below meth c bb G x a sv ah h t o b i 760 V S Sv Sa Y R T M := by
  obtain ⟨hx, hb, hml, hown, hts, hX, hbl, hK, hZ⟩ := C0
  have hA : ∀ q : Nat, s.heap.size ≤ q → (fun q : Nat => s.heap.size ≤ q) q := fun _ h => h
  have hbA : ¬ (fun q : Nat => s.heap.size ≤ q) bb := Nat.not_le.mpr hbl
  intro H locs ls hP hD hS hl
  have hi1 : vp_in (nI i + 1) L := kl_in (k := 1) (by omega) hi hL
  obtain ⟨q, hq⟩ : ∃ z : Int32, z = xs (nI i + 1).toNatClampNeg := ⟨_, rfl⟩
  refine lv_aload_n hx hb dL_law_760 rfl (lv_at hl 1 rfl) ?_
  refine lv_aload_n hx hb dL_law_761 rfl (lv_at hl 0 rfl) ?_
  refine lv_iload_n hx hb dL_law_762 rfl (lv_at hl 3 rfl) ?_
  refine lv_iconst (v := 1) hx hb dL_law_763 (by decide +kernel) ?_
  refine lv_iadd hx hb dL_law_764 ?_
  refine va_sld hx hb hX hbl hbA hS hi1 dL_law_765 ?_
  refine lv_topi (fun y ey => ?_)
  obtain rfl : q = y := hq.trans ey.symm
  refine kz_miV (As := [.int q]) (rest := []) (b := x) (wr := [shW G a S, shW G sv Sv, shW G ah Sa, hsW G h (fun j => b j 0) Y, shW G (b 0) (R 0), shW G (b 1) (R 1), shW G (b 2) (R 2), shW G (b 3) (R 3), shW G (b 4) (R 4), shW G (b 5) (R 5), mdW G o M]) (bs' := kl_W G x a sv ah h b t o V S Sv Sa Y R (X3_append_s V T q) M) ⟨hx, hb, hml, hown, hts⟩ (c_X3_append l G x (a 0) (sv 0) (ah 0) (h 0) V t T q (kl_L I)) (cwV 1 hts gL_law_X3_append rfl rfl rfl (by decide +kernel) ⟨Nat.le_of_ble_eq_true rfl, Nat.le_of_ble_eq_true rfl⟩) hK hP hD hS hA [0, 11] [1, 2, 3, 4, 5, 6, 7, 8, 9, 10, 12] [11, 0, 1, 2, 3, 4, 5, 6, 7, 8, 9, 12, 10] rfl (by decide) rfl (by decide) (by decide) rfl (by decide) (kz_recv hK hP (ci := 3) (q0 := 0) rfl rfl) rfl hl.1 rfl (Nat.le_of_ble_eq_true rfl) dL_law_766 ⟨Nat.le_of_ble_eq_true rfl, Nat.le_of_ble_eq_true rfl⟩ (fun H locs hP hD hS => ?_)
  refine lv_aload_n hx hb dL_law_769 rfl (lv_at hl 2 rfl) ?_
  refine lv_aload_n hx hb dL_law_770 rfl (lv_at hl 0 rfl) ?_
  refine lv_iload_n hx hb dL_law_771 rfl (lv_at hl 3 rfl) ?_
  refine lv_iconst (v := 1) hx hb dL_law_772 (by decide +kernel) ?_
  refine lv_iadd hx hb dL_law_773 ?_
  refine va_sld hx hb hX hbl hbA hS hi1 dL_law_774 ?_
  refine lv_topi (fun y ey => ?_)
  obtain rfl : q = y := hq.trans ey.symm
  refine kz_miV (As := [.int q]) (rest := [.int (X3_append_r V T q)]) (b := o 0) (wr := [xoW x (a 0) (sv 0) (ah 0) (h 0) (t 0) V, shW G a S, shW G sv Sv, shW G ah Sa, hsW G h (fun j => b j 0) Y, shW G (b 0) (R 0), shW G (b 1) (R 1), shW G (b 2) (R 2), shW G (b 3) (R 3), shW G (b 4) (R 4), shW G (b 5) (R 5), txW G t (X3_append_s V T q)]) (bs' := kl_W G x a sv ah h b t o V S Sv Sa Y R (X3_append_s V T q) ((va_up (va_up M 8 (X4_append_c8 (M 8) (M 9 0) q)) 9 (fun _ => (X4_append_c9 (M 8) (M 9 0) q))))) ⟨hx, hb, hml, hown, hts⟩ (c_X4_append l G o M q (kl_ty I)) (cwV 1 hts gL_law_X4_append rfl rfl rfl (by decide +kernel) ⟨Nat.le_of_ble_eq_true rfl, Nat.le_of_ble_eq_true rfl⟩) hK hP hD hS hA [12] [0, 1, 2, 3, 4, 5, 6, 7, 8, 9, 10, 11] [0, 1, 2, 3, 4, 5, 6, 7, 8, 9, 10, 11, 12] rfl (by decide) rfl (by decide) (by decide) rfl (by decide) (kz_recv hK (hP.sub (cs := [mdW G o M]) [12] rfl) (ci := 4) (q0 := 0) rfl rfl) rfl hl.1 rfl (Nat.le_of_ble_eq_true rfl) dL_law_775 ⟨Nat.le_of_ble_eq_true rfl, Nat.le_of_ble_eq_true rfl⟩ (fun H locs hP hD hS => ?_)
  obtain ⟨e9, I2⟩ := kl_p_append I q
  refine lv_icmp_eq (tgt := 861) hx hb dL_law_778 (by decide) (fun _ => ?_) (fun c9 => absurd e9 c9)
  exact (KK _ _ _ _ _ _ _ _ I2) _ _ _ hP hD hS hl
set_option maxHeartbeats 1000000 in
set_option maxRecDepth 100000 in
theorem kl_c_clearText (C0 : kl_C p s m c bb L xs G) (hi : i + 4 ≤ L) (hL : L ≤ 2048) (I : kl_I V S Sv Y R T M) (KK : kl_K p l e s m below meth c bb G x a sv ah h t o b i) : kl_at p l e s m below meth c bb G x a sv ah h t o b i 783 V S Sv Sa Y R T M := by
  obtain ⟨hx, hb, hml, hown, hts, hX, hbl, hK, hZ⟩ := C0
  have hA : ∀ q : Nat, s.heap.size ≤ q → (fun q : Nat => s.heap.size ≤ q) q := fun _ h => h
  have hbA : ¬ (fun q : Nat => s.heap.size ≤ q) bb := Nat.not_le.mpr hbl
  intro H locs ls hP hD hS hl
  refine lv_aload_n hx hb dL_law_783 rfl (lv_at hl 1 rfl) ?_
  refine kz_miV (As := []) (rest := []) (b := x) (wr := [shW G a S, shW G sv Sv, shW G ah Sa, hsW G h (fun j => b j 0) Y, shW G (b 0) (R 0), shW G (b 1) (R 1), shW G (b 2) (R 2), shW G (b 3) (R 3), shW G (b 4) (R 4), shW G (b 5) (R 5), mdW G o M]) (bs' := kl_W G x a sv ah h b t o V S Sv Sa Y R (X3_clearText_s V T) M) ⟨hx, hb, hml, hown, hts⟩ (c_X3_clearText l G x (a 0) (sv 0) (ah 0) (h 0) V t T) (cwV 0 hts gL_law_X3_clearText rfl rfl rfl (by decide +kernel) ⟨Nat.le_of_ble_eq_true rfl, Nat.le_of_ble_eq_true rfl⟩) hK hP hD hS hA [0, 11] [1, 2, 3, 4, 5, 6, 7, 8, 9, 10, 12] [11, 0, 1, 2, 3, 4, 5, 6, 7, 8, 9, 12, 10] rfl (by decide) rfl (by decide) (by decide) rfl (by decide) (kz_recv hK hP (ci := 3) (q0 := 0) rfl rfl) rfl hl.1 rfl (Nat.le_of_ble_eq_true rfl) dL_law_784 ⟨Nat.le_of_ble_eq_true rfl, Nat.le_of_ble_eq_true rfl⟩ (fun H locs hP hD hS => ?_)
  refine lv_aload_n hx hb dL_law_787 rfl (lv_at hl 2 rfl) ?_
  refine kz_miV (As := []) (rest := [.int (X3_clearText_r V T)]) (b := o 0) (wr := [xoW x (a 0) (sv 0) (ah 0) (h 0) (t 0) V, shW G a S, shW G sv Sv, shW G ah Sa, hsW G h (fun j => b j 0) Y, shW G (b 0) (R 0), shW G (b 1) (R 1), shW G (b 2) (R 2), shW G (b 3) (R 3), shW G (b 4) (R 4), shW G (b 5) (R 5), txW G t (X3_clearText_s V T)]) (bs' := kl_W G x a sv ah h b t o V S Sv Sa Y R (X3_clearText_s V T) ((va_up M 9 (fun _ => (X4_clearText_c9 (M 9 0)))))) ⟨hx, hb, hml, hown, hts⟩ (c_X4_clearText l G o M) (cwV 0 hts gL_law_X4_clearText rfl rfl rfl (by decide +kernel) ⟨Nat.le_of_ble_eq_true rfl, Nat.le_of_ble_eq_true rfl⟩) hK hP hD hS hA [12] [0, 1, 2, 3, 4, 5, 6, 7, 8, 9, 10, 11] [0, 1, 2, 3, 4, 5, 6, 7, 8, 9, 10, 11, 12] rfl (by decide) rfl (by decide) (by decide) rfl (by decide) (kz_recv hK (hP.sub (cs := [mdW G o M]) [12] rfl) (ci := 4) (q0 := 0) rfl rfl) rfl hl.1 rfl (Nat.le_of_ble_eq_true rfl) dL_law_788 ⟨Nat.le_of_ble_eq_true rfl, Nat.le_of_ble_eq_true rfl⟩ (fun H locs hP hD hS => ?_)
  obtain ⟨e9, I2⟩ := kl_p_clearText I
  refine lv_icmp_eq (tgt := 861) hx hb dL_law_791 (by decide) (fun _ => ?_) (fun c9 => absurd e9 c9)
  exact (KK _ _ _ _ _ _ _ _ I2) _ _ _ hP hD hS hl
set_option maxHeartbeats 1000000 in
set_option maxRecDepth 100000 in
theorem kl_c_errorPosition (C0 : kl_C p s m c bb L xs G) (hi : i + 4 ≤ L) (hL : L ≤ 2048) (I : kl_I V S Sv Y R T M) (KK : kl_K p l e s m below meth c bb G x a sv ah h t o b i) : kl_at p l e s m below meth c bb G x a sv ah h t o b i 796 V S Sv Sa Y R T M := by
  obtain ⟨hx, hb, hml, hown, hts, hX, hbl, hK, hZ⟩ := C0
  have hA : ∀ q : Nat, s.heap.size ≤ q → (fun q : Nat => s.heap.size ≤ q) q := fun _ h => h
  have hbA : ¬ (fun q : Nat => s.heap.size ≤ q) bb := Nat.not_le.mpr hbl
  intro H locs ls hP hD hS hl
  refine lv_aload_n hx hb dL_law_796 rfl (lv_at hl 1 rfl) ?_
  refine kz_rdV (As := []) (rest := []) (b := x) ⟨hx, hb, hml, hown, hts⟩ (c_X3_errorPosition l G x (a 0) (sv 0) (ah 0) (h 0) V t T (kl_L I) (kl_ch I)) (cwV 0 hts gL_law_X3_errorPosition rfl rfl rfl (by decide +kernel) ⟨Nat.le_of_ble_eq_true rfl, Nat.le_of_ble_eq_true rfl⟩) hK (hP.sub [0, 11] rfl) (kz_recv hK hP (ci := 3) (q0 := 0) rfl rfl) rfl hl.1 rfl (Nat.le_of_ble_eq_true rfl) dL_law_797 ⟨Nat.le_of_ble_eq_true rfl, Nat.le_of_ble_eq_true rfl⟩ ?_
  refine lv_aload_n hx hb dL_law_800 rfl (lv_at hl 2 rfl) ?_
  refine kz_miV (As := []) (rest := [.int (X3_errorPosition_r V T)]) (b := o 0) (wr := [xoW x (a 0) (sv 0) (ah 0) (h 0) (t 0) V, shW G a S, shW G sv Sv, shW G ah Sa, hsW G h (fun j => b j 0) Y, shW G (b 0) (R 0), shW G (b 1) (R 1), shW G (b 2) (R 2), shW G (b 3) (R 3), shW G (b 4) (R 4), shW G (b 5) (R 5), txW G t T]) (bs' := kl_W G x a sv ah h b t o V S Sv Sa Y R T ((va_up (va_up (va_up (va_up M 10 (X4_errorPosition_c10 (M 8) (M 9 0) (M 10))) 11 (fun _ => (X4_errorPosition_c11 (M 8) (M 9 0) (M 10)))) 12 (fun _ => (X4_errorPosition_c12 (M 8) (M 9 0) (M 10)))) 13 (fun _ => (X4_errorPosition_c13 (M 8) (M 9 0) (M 10)))))) ⟨hx, hb, hml, hown, hts⟩ (c_X4_errorPosition l G o M (kl_ty I)) (cwV 0 hts gL_law_X4_errorPosition rfl rfl rfl (by decide +kernel) ⟨Nat.le_of_ble_eq_true rfl, Nat.le_of_ble_eq_true rfl⟩) hK hP hD hS hA [12] [0, 1, 2, 3, 4, 5, 6, 7, 8, 9, 10, 11] [0, 1, 2, 3, 4, 5, 6, 7, 8, 9, 10, 11, 12] rfl (by decide) rfl (by decide) (by decide) rfl (by decide) (kz_recv hK (hP.sub (cs := [mdW G o M]) [12] rfl) (ci := 4) (q0 := 0) rfl rfl) rfl hl.1 rfl (Nat.le_of_ble_eq_true rfl) dL_law_801 ⟨Nat.le_of_ble_eq_true rfl, Nat.le_of_ble_eq_true rfl⟩ (fun H locs hP hD hS => ?_)
  obtain ⟨e9, I2⟩ := kl_p_errorPosition I
  refine lv_icmp_eq (tgt := 861) hx hb dL_law_804 (by decide) (fun _ => ?_) (fun c9 => absurd e9 c9)
  exact (KK _ _ _ _ _ _ _ _ I2) _ _ _ hP hD hS hl
set_option maxHeartbeats 1000000 in
set_option maxRecDepth 100000 in
theorem kl_c_execute (C0 : kl_C p s m c bb L xs G) (hi : i + 4 ≤ L) (hL : L ≤ 2048) (I : kl_I V S Sv Y R T M) (KK : kl_K p l e s m below meth c bb G x a sv ah h t o b i) : kl_at p l e s m below meth c bb G x a sv ah h t o b i 809 V S Sv Sa Y R T M := by
  obtain ⟨hx, hb, hml, hown, hts, hX, hbl, hK, hZ⟩ := C0
  have hA : ∀ q : Nat, s.heap.size ≤ q → (fun q : Nat => s.heap.size ≤ q) q := fun _ h => h
  have hbA : ¬ (fun q : Nat => s.heap.size ≤ q) bb := Nat.not_le.mpr hbl
  intro H locs ls hP hD hS hl
  refine lv_aload_n hx hb dL_law_809 rfl (lv_at hl 1 rfl) ?_
  refine kz_miV (As := []) (rest := []) (b := x) (wr := [shW G sv Sv, shW G ah Sa, mdW G o M]) (bs' := kl_W G x a sv ah h b t o (X3_execute_V V S T) (X3_execute_S V S T) Sv Sa (X3_execute_Y V S Y T) (X3_execute_R S Y R T) (X3_execute_T T) M) ⟨hx, hb, hml, hown, hts⟩ (c_X3_execute l G x (sv 0) (ah 0) V a S h Y b R t T (kl_L I) (kl_ch I) (kl_J I) (kl_dy I) (kl_O I) (kl_Cn I)) (cwV 0 hts gL_law_X3_execute rfl rfl rfl (by decide +kernel) ⟨Nat.le_of_ble_eq_true rfl, Nat.le_of_ble_eq_true rfl⟩) hK hP hD hS hA [0, 1, 4, 5, 6, 7, 8, 9, 10, 11] [2, 3, 12] [3, 4, 0, 1, 5, 6, 7, 8, 9, 10, 11, 12, 2] rfl (by decide) rfl (by decide) (by decide) rfl (by decide) (kz_recv hK hP (ci := 3) (q0 := 0) rfl rfl) rfl hl.1 rfl (Nat.le_of_ble_eq_true rfl) dL_law_810 ⟨Nat.le_of_ble_eq_true rfl, Nat.le_of_ble_eq_true rfl⟩ (fun H locs hP hD hS => ?_)
  refine lv_aload_n hx hb dL_law_813 rfl (lv_at hl 2 rfl) ?_
  refine kz_miV (As := []) (rest := [.int (X3_execute_r V S T)]) (b := o 0) (wr := [xoW x (a 0) (sv 0) (ah 0) (h 0) (t 0) (X3_execute_V V S T), shW G a (X3_execute_S V S T), shW G sv Sv, shW G ah Sa, hsW G h (fun j => b j 0) (X3_execute_Y V S Y T), shW G (b 0) ((X3_execute_R S Y R T) 0), shW G (b 1) ((X3_execute_R S Y R T) 1), shW G (b 2) ((X3_execute_R S Y R T) 2), shW G (b 3) ((X3_execute_R S Y R T) 3), shW G (b 4) ((X3_execute_R S Y R T) 4), shW G (b 5) ((X3_execute_R S Y R T) 5), txW G t (X3_execute_T T)]) (bs' := kl_W G x a sv ah h b t o (X3_execute_V V S T) (X3_execute_S V S T) Sv Sa (X3_execute_Y V S Y T) (X3_execute_R S Y R T) (X3_execute_T T) ((va_up (va_up (va_up (va_up (va_up (va_up (va_up (va_up (va_up (va_up M 0 (X4_execute_c0 (M 0) (M 1) (M 2 0) (M 6 0) (M 7 0) (M 8) (M 9 0) (M 10))) 1 (X4_execute_c1 (M 0) (M 1) (M 2 0) (M 6 0) (M 7 0) (M 8) (M 9 0) (M 10))) 2 (fun _ => (X4_execute_c2 (M 0) (M 1) (M 2 0) (M 6 0) (M 7 0) (M 8) (M 9 0) (M 10)))) 6 (fun _ => (X4_execute_c6 (M 0) (M 1) (M 2 0) (M 6 0) (M 7 0) (M 8) (M 9 0) (M 10)))) 7 (fun _ => (X4_execute_c7 (M 0) (M 1) (M 2 0) (M 6 0) (M 7 0) (M 8) (M 9 0) (M 10)))) 9 (fun _ => (X4_execute_c9 (M 0) (M 1) (M 2 0) (M 6 0) (M 7 0) (M 8) (M 9 0) (M 10)))) 10 (X4_execute_c10 (M 0) (M 1) (M 2 0) (M 6 0) (M 7 0) (M 8) (M 9 0) (M 10))) 11 (fun _ => (X4_execute_c11 (M 0) (M 1) (M 2 0) (M 6 0) (M 7 0) (M 8) (M 9 0) (M 10)))) 12 (fun _ => (X4_execute_c12 (M 0) (M 1) (M 2 0) (M 6 0) (M 7 0) (M 8) (M 9 0) (M 10)))) 13 (fun _ => (X4_execute_c13 (M 0) (M 1) (M 2 0) (M 6 0) (M 7 0) (M 8) (M 9 0) (M 10)))))) ⟨hx, hb, hml, hown, hts⟩ (c_X4_execute l G o M (kl_MP I) (kl_dz I) (kl_pm I) (kl_ty I)) (cwV 0 hts gL_law_X4_execute rfl rfl rfl (by decide +kernel) ⟨Nat.le_of_ble_eq_true rfl, Nat.le_of_ble_eq_true rfl⟩) hK hP hD hS hA [12] [0, 1, 2, 3, 4, 5, 6, 7, 8, 9, 10, 11] [0, 1, 2, 3, 4, 5, 6, 7, 8, 9, 10, 11, 12] rfl (by decide) rfl (by decide) (by decide) rfl (by decide) (kz_recv hK (hP.sub (cs := [mdW G o M]) [12] rfl) (ci := 4) (q0 := 0) rfl rfl) rfl hl.1 rfl (Nat.le_of_ble_eq_true rfl) dL_law_814 ⟨Nat.le_of_ble_eq_true rfl, Nat.le_of_ble_eq_true rfl⟩ (fun H locs hP hD hS => ?_)
  obtain ⟨e9, I2⟩ := kl_p_execute I
  refine lv_icmp_eq (tgt := 861) hx hb dL_law_817 (by decide) (fun _ => ?_) (fun c9 => absurd e9 c9)
  exact (KK _ _ _ _ _ _ _ _ I2) _ _ _ hP hD hS hl
set_option maxHeartbeats 1000000 in
set_option maxRecDepth 100000 in
theorem kl_c_undo (C0 : kl_C p s m c bb L xs G) (hi : i + 4 ≤ L) (hL : L ≤ 2048) (I : kl_I V S Sv Y R T M) (KK : kl_K p l e s m below meth c bb G x a sv ah h t o b i) : kl_at p l e s m below meth c bb G x a sv ah h t o b i 822 V S Sv Sa Y R T M := by
  obtain ⟨hx, hb, hml, hown, hts, hX, hbl, hK, hZ⟩ := C0
  have hA : ∀ q : Nat, s.heap.size ≤ q → (fun q : Nat => s.heap.size ≤ q) q := fun _ h => h
  have hbA : ¬ (fun q : Nat => s.heap.size ≤ q) bb := Nat.not_le.mpr hbl
  intro H locs ls hP hD hS hl
  refine lv_aload_n hx hb dL_law_822 rfl (lv_at hl 1 rfl) ?_
  refine kz_miV (As := []) (rest := []) (b := x) (wr := [shW G sv Sv, shW G ah Sa, txW G t T, mdW G o M]) (bs' := kl_W G x a sv ah h b t o V (X3_undo_s1 V S Y R) Sv Sa (X3_undo_s2 V S Y R) R T M) ⟨hx, hb, hml, hown, hts⟩ (c_X3_undo l G x (sv 0) (ah 0) (t 0) V a S h Y b R (kl_O I) (kl_Cn I)) (cwV 0 hts gL_law_X3_undo rfl rfl rfl (by decide +kernel) ⟨Nat.le_of_ble_eq_true rfl, Nat.le_of_ble_eq_true rfl⟩) hK hP hD hS hA [0, 1, 4, 5, 6, 7, 8, 9, 10] [2, 3, 11, 12] [4, 5, 0, 1, 6, 7, 8, 9, 10, 11, 12, 2, 3] rfl (by decide) rfl (by decide) (by decide) rfl (by decide) (kz_recv hK hP (ci := 3) (q0 := 0) rfl rfl) rfl hl.1 rfl (Nat.le_of_ble_eq_true rfl) dL_law_823 ⟨Nat.le_of_ble_eq_true rfl, Nat.le_of_ble_eq_true rfl⟩ (fun H locs hP hD hS => ?_)
  refine lv_aload_n hx hb dL_law_826 rfl (lv_at hl 2 rfl) ?_
  refine kz_miV (As := []) (rest := [.int (X3_undo_r V S Y R)]) (b := o 0) (wr := [xoW x (a 0) (sv 0) (ah 0) (h 0) (t 0) V, shW G a (X3_undo_s1 V S Y R), shW G sv Sv, shW G ah Sa, hsW G h (fun j => b j 0) (X3_undo_s2 V S Y R), shW G (b 0) (R 0), shW G (b 1) (R 1), shW G (b 2) (R 2), shW G (b 3) (R 3), shW G (b 4) (R 4), shW G (b 5) (R 5), txW G t T]) (bs' := kl_W G x a sv ah h b t o V (X3_undo_s1 V S Y R) Sv Sa (X3_undo_s2 V S Y R) R T ((va_up (va_up M 0 (X4_undo_c0 (M 0) (M 1) (M 2 0))) 2 (fun _ => (X4_undo_c2 (M 0) (M 1) (M 2 0)))))) ⟨hx, hb, hml, hown, hts⟩ (c_X4_undo l G o M (kl_pm I)) (cwV 0 hts gL_law_X4_undo rfl rfl rfl (by decide +kernel) ⟨Nat.le_of_ble_eq_true rfl, Nat.le_of_ble_eq_true rfl⟩) hK hP hD hS hA [12] [0, 1, 2, 3, 4, 5, 6, 7, 8, 9, 10, 11] [0, 1, 2, 3, 4, 5, 6, 7, 8, 9, 10, 11, 12] rfl (by decide) rfl (by decide) (by decide) rfl (by decide) (kz_recv hK (hP.sub (cs := [mdW G o M]) [12] rfl) (ci := 4) (q0 := 0) rfl rfl) rfl hl.1 rfl (Nat.le_of_ble_eq_true rfl) dL_law_827 ⟨Nat.le_of_ble_eq_true rfl, Nat.le_of_ble_eq_true rfl⟩ (fun H locs hP hD hS => ?_)
  obtain ⟨e9, I2⟩ := kl_p_undo I
  refine lv_icmp_eq (tgt := 861) hx hb dL_law_830 (by decide) (fun _ => ?_) (fun c9 => absurd e9 c9)
  exact (KK _ _ _ _ _ _ _ _ I2) _ _ _ hP hD hS hl
set_option maxHeartbeats 1000000 in
set_option maxRecDepth 100000 in
theorem kl_c_save (C0 : kl_C p s m c bb L xs G) (hi : i + 4 ≤ L) (hL : L ≤ 2048) (I : kl_I V S Sv Y R T M) (KK : kl_K p l e s m below meth c bb G x a sv ah h t o b i) : kl_at p l e s m below meth c bb G x a sv ah h t o b i 835 V S Sv Sa Y R T M := by
  obtain ⟨hx, hb, hml, hown, hts, hX, hbl, hK, hZ⟩ := C0
  have hA : ∀ q : Nat, s.heap.size ≤ q → (fun q : Nat => s.heap.size ≤ q) q := fun _ h => h
  have hbA : ¬ (fun q : Nat => s.heap.size ≤ q) bb := Nat.not_le.mpr hbl
  intro H locs ls hP hD hS hl
  refine lv_aload_n hx hb dL_law_835 rfl (lv_at hl 1 rfl) ?_
  refine kz_miV (As := []) (rest := []) (b := x) (wr := [shW G ah Sa, hsW G h (fun j => b j 0) Y, shW G (b 0) (R 0), shW G (b 1) (R 1), shW G (b 2) (R 2), shW G (b 3) (R 3), shW G (b 4) (R 4), shW G (b 5) (R 5), txW G t T, mdW G o M]) (bs' := kl_W G x a sv ah h b t o (X3_save_s0 V S Sv) S (X3_save_s2 V S Sv) Sa Y R T M) ⟨hx, hb, hml, hown, hts⟩ (c_X3_save l G x (ah 0) (h 0) (t 0) V a S sv Sv) (cwV 0 hts gL_law_X3_save rfl rfl rfl (by decide +kernel) ⟨Nat.le_of_ble_eq_true rfl, Nat.le_of_ble_eq_true rfl⟩) hK hP hD hS hA [0, 1, 2] [3, 4, 5, 6, 7, 8, 9, 10, 11, 12] [10, 11, 12, 0, 1, 2, 3, 4, 5, 6, 7, 8, 9] rfl (by decide) rfl (by decide) (by decide) rfl (by decide) (kz_recv hK hP (ci := 3) (q0 := 0) rfl rfl) rfl hl.1 rfl (Nat.le_of_ble_eq_true rfl) dL_law_836 ⟨Nat.le_of_ble_eq_true rfl, Nat.le_of_ble_eq_true rfl⟩ (fun H locs hP hD hS => ?_)
  refine lv_aload_n hx hb dL_law_839 rfl (lv_at hl 2 rfl) ?_
  refine kz_miV (As := []) (rest := [.int (X3_save_r V S Sv)]) (b := o 0) (wr := [xoW x (a 0) (sv 0) (ah 0) (h 0) (t 0) (X3_save_s0 V S Sv), shW G a S, shW G sv (X3_save_s2 V S Sv), shW G ah Sa, hsW G h (fun j => b j 0) Y, shW G (b 0) (R 0), shW G (b 1) (R 1), shW G (b 2) (R 2), shW G (b 3) (R 3), shW G (b 4) (R 4), shW G (b 5) (R 5), txW G t T]) (bs' := kl_W G x a sv ah h b t o (X3_save_s0 V S Sv) S (X3_save_s2 V S Sv) Sa Y R T ((va_up (va_up M 3 (X4_save_c3 (M 0) (M 3))) 4 (fun _ => (X4_save_c4 (M 0) (M 3)))))) ⟨hx, hb, hml, hown, hts⟩ (c_X4_save l G o M) (cwV 0 hts gL_law_X4_save rfl rfl rfl (by decide +kernel) ⟨Nat.le_of_ble_eq_true rfl, Nat.le_of_ble_eq_true rfl⟩) hK hP hD hS hA [12] [0, 1, 2, 3, 4, 5, 6, 7, 8, 9, 10, 11] [0, 1, 2, 3, 4, 5, 6, 7, 8, 9, 10, 11, 12] rfl (by decide) rfl (by decide) (by decide) rfl (by decide) (kz_recv hK (hP.sub (cs := [mdW G o M]) [12] rfl) (ci := 4) (q0 := 0) rfl rfl) rfl hl.1 rfl (Nat.le_of_ble_eq_true rfl) dL_law_840 ⟨Nat.le_of_ble_eq_true rfl, Nat.le_of_ble_eq_true rfl⟩ (fun H locs hP hD hS => ?_)
  obtain ⟨e9, I2⟩ := kl_p_save I
  refine lv_icmp_eq (tgt := 861) hx hb dL_law_843 (by decide) (fun _ => ?_) (fun c9 => absurd e9 c9)
  exact (KK _ _ _ _ _ _ _ _ I2) _ _ _ hP hD hS hl
set_option maxHeartbeats 1000000 in
set_option maxRecDepth 100000 in
theorem kl_c_restore (C0 : kl_C p s m c bb L xs G) (hi : i + 4 ≤ L) (hL : L ≤ 2048) (I : kl_I V S Sv Y R T M) (KK : kl_K p l e s m below meth c bb G x a sv ah h t o b i) : kl_at p l e s m below meth c bb G x a sv ah h t o b i 848 V S Sv Sa Y R T M := by
  obtain ⟨hx, hb, hml, hown, hts, hX, hbl, hK, hZ⟩ := C0
  have hA : ∀ q : Nat, s.heap.size ≤ q → (fun q : Nat => s.heap.size ≤ q) q := fun _ h => h
  have hbA : ¬ (fun q : Nat => s.heap.size ≤ q) bb := Nat.not_le.mpr hbl
  intro H locs ls hP hD hS hl
  refine lv_aload_n hx hb dL_law_848 rfl (lv_at hl 1 rfl) ?_
  refine kz_miV (As := []) (rest := []) (b := x) (wr := [shW G ah Sa, txW G t T, mdW G o M]) (bs' := kl_W G x a sv ah h b t o V (X3_restore_s1 V S Sv Y R) Sv Sa (X3_restore_s3 V S Sv Y R) (X3_restore_s4 V S Sv Y R) T M) ⟨hx, hb, hml, hown, hts⟩ (c_X3_restore l G x (ah 0) (t 0) V a S sv Sv h Y b R (kl_O I) (kl_Cn I)) (cwV 0 hts gL_law_X3_restore rfl rfl rfl (by decide +kernel) ⟨Nat.le_of_ble_eq_true rfl, Nat.le_of_ble_eq_true rfl⟩) hK hP hD hS hA [0, 1, 2, 4, 5, 6, 7, 8, 9, 10] [3, 11, 12] [3, 4, 5, 0, 6, 7, 8, 9, 10, 11, 12, 1, 2] rfl (by decide) rfl (by decide) (by decide) rfl (by decide) (kz_recv hK hP (ci := 3) (q0 := 0) rfl rfl) rfl hl.1 rfl (Nat.le_of_ble_eq_true rfl) dL_law_849 ⟨Nat.le_of_ble_eq_true rfl, Nat.le_of_ble_eq_true rfl⟩ (fun H locs hP hD hS => ?_)
  refine lv_aload_n hx hb dL_law_852 rfl (lv_at hl 2 rfl) ?_
  refine kz_miV (As := []) (rest := [.int (X3_restore_r V S Sv Y R)]) (b := o 0) (wr := [xoW x (a 0) (sv 0) (ah 0) (h 0) (t 0) V, shW G a (X3_restore_s1 V S Sv Y R), shW G sv Sv, shW G ah Sa, hsW G h (fun j => b j 0) (X3_restore_s3 V S Sv Y R), shW G (b 0) ((X3_restore_s4 V S Sv Y R) 0), shW G (b 1) ((X3_restore_s4 V S Sv Y R) 1), shW G (b 2) ((X3_restore_s4 V S Sv Y R) 2), shW G (b 3) ((X3_restore_s4 V S Sv Y R) 3), shW G (b 4) ((X3_restore_s4 V S Sv Y R) 4), shW G (b 5) ((X3_restore_s4 V S Sv Y R) 5), txW G t T]) (bs' := kl_W G x a sv ah h b t o V (X3_restore_s1 V S Sv Y R) Sv Sa (X3_restore_s3 V S Sv Y R) (X3_restore_s4 V S Sv Y R) T ((va_up (va_up (va_up M 0 (X4_restore_c0 (M 0) (M 1) (M 2 0) (M 3) (M 4 0))) 1 (X4_restore_c1 (M 0) (M 1) (M 2 0) (M 3) (M 4 0))) 2 (fun _ => (X4_restore_c2 (M 0) (M 1) (M 2 0) (M 3) (M 4 0)))))) ⟨hx, hb, hml, hown, hts⟩ (c_X4_restore l G o M (kl_pm I)) (cwV 0 hts gL_law_X4_restore rfl rfl rfl (by decide +kernel) ⟨Nat.le_of_ble_eq_true rfl, Nat.le_of_ble_eq_true rfl⟩) hK hP hD hS hA [12] [0, 1, 2, 3, 4, 5, 6, 7, 8, 9, 10, 11] [0, 1, 2, 3, 4, 5, 6, 7, 8, 9, 10, 11, 12] rfl (by decide) rfl (by decide) (by decide) rfl (by decide) (kz_recv hK (hP.sub (cs := [mdW G o M]) [12] rfl) (ci := 4) (q0 := 0) rfl rfl) rfl hl.1 rfl (Nat.le_of_ble_eq_true rfl) dL_law_853 ⟨Nat.le_of_ble_eq_true rfl, Nat.le_of_ble_eq_true rfl⟩ (fun H locs hP hD hS => ?_)
  obtain ⟨e9, I2⟩ := kl_p_restore I
  refine lv_icmp_eq (tgt := 861) hx hb dL_law_856 (by decide) (fun _ => ?_) (fun c9 => absurd e9 c9)
  exact (KK _ _ _ _ _ _ _ _ I2) _ _ _ hP hD hS hl
end KL
