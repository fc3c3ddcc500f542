def X3_come_r (V : kz_S) (S : kz_S) (Y : kz_S) (R : Nat → kz_S) (q : Int32) (z : Int32) : Int32 := (X3_letCome_r V S q z)
def X3_come_s0 (V : kz_S) (S : kz_S) (Y : kz_S) (R : Nat → kz_S) (q : Int32) (z : Int32) : kz_S := (X3_letCome_s0 V S q z)
def X3_come_s1 (V : kz_S) (S : kz_S) (Y : kz_S) (R : Nat → kz_S) (q : Int32) (z : Int32) : kz_S := (X3_letCome_s1 V S q z)
def X3_come_s2 (V : kz_S) (S : kz_S) (Y : kz_S) (R : Nat → kz_S) (q : Int32) (z : Int32) : kz_S := (X3_recorded_s (X3_letCome_s0 V S q z) Y (X3_letCome_r V S q z))
def X3_come_s3 (V : kz_S) (S : kz_S) (Y : kz_S) (R : Nat → kz_S) (q : Int32) (z : Int32) : Nat → kz_S := (X0_prepare_R Y R S)
set_option maxHeartbeats 4000000 in
set_option maxRecDepth 100000 in
theorem c_X3_come (l : Launch) (G : kz_G) (x : Nat) (u1 : Nat) (u2 : Nat) (u4 : Nat) (V : kz_S) (a : Nat → Nat) (S : kz_S) (h : Nat → Nat) (Y : kz_S) (b : Nat → Nat → Nat) (R : Nat → kz_S) (q : Int32) (z : Int32) (ht : ∃ d, d < 2 ^ 30 ∧ S 1 0 = nI d) (hO : ∃ o, o < 6 ∧ Y 1 0 = nI o) (hC : ∃ c, c ≤ 5 ∧ Y 2 0 = nI c) : kz_mi l G yX3_come wsX3_come 4 91 [.ref x, .int q, .int z] [xoW x (a 0) u1 u2 (h 0) u4 V, shW G a S, hsW G h (fun j => b j 0) Y, shW G (b 0) (R 0), shW G (b 1) (R 1), shW G (b 2) (R 2), shW G (b 3) (R 3), shW G (b 4) (R 4), shW G (b 5) (R 5)] [xoW x (a 0) u1 u2 (h 0) u4 (X3_come_s0 V S Y R q z), shW G a (X3_come_s1 V S Y R q z), hsW G h (fun j => b j 0) (X3_come_s2 V S Y R q z), shW G (b 0) ((X3_come_s3 V S Y R q z) 0), shW G (b 1) ((X3_come_s3 V S Y R q z) 1), shW G (b 2) ((X3_come_s3 V S Y R q z) 2), shW G (b 3) ((X3_come_s3 V S Y R q z) 3), shW G (b 4) ((X3_come_s3 V S Y R q z) 4), shW G (b 5) ((X3_come_s3 V S Y R q z) 5)] (X3_come_r V S Y R q z) := by
  intro sz
  refine Met.ofW (cc := cX3_come) (maxL := 3) (ret := (some .int)) (by decide) rfl ?_
  intro p e s m args below meth c s₁ B hml hv
  obtain ⟨rfl, hsz, hP, hK, hD0⟩ := hv
  have hx := B.exec
  have hb := B.bytes
  have hr := B.returns
  have hts := atoms_spec (ws := wsX3_come) B.pre
  have hown : s.vm.findClass RX3 = some m.cls := findClass_of_methodNamed B.named
  have hlocks := B.notSynchronized
  have hinX3 : ∀ w ∈ u_ws RX3 TX3 8, w ∈ wsX3_come := by decide +kernel
  subst hsz
  have hD := hD0.self (sz := s.heap.size)
  generalize hAe : kz_A [xoW x (a 0) u1 u2 (h 0) u4 V, shW G a S, hsW G h (fun j => b j 0) Y, shW G (b 0) (R 0), shW G (b 1) (R 1), shW G (b 2) (R 2), shW G (b 3) (R 3), shW G (b 4) (R 4), shW G (b 5) (R 5)] s.heap.size = A at hD ⊢
  have hA : ∀ q : Nat, s.heap.size ≤ q → A q := fun q h => by rw [← hAe]; exact Or.inr h
  have hS : va_S A s.heap s.heap [] := va_S.rf
  have hl := lv_entry ([.ref x, .int q, .int z]) (n := 3) (Nat.le_of_ble_eq_true rfl)
  rw [lg_entry_eq]
  generalize (lg_sl ([.ref x, .int q, .int z]) ++ List.replicate (3 - (lg_sl ([.ref x, .int q, .int z])).length) Slot.unset).toArray = ls at hl ⊢
  have hl : lv_has ls 3 [(0, .ref x), (1, .int q), (2, .int z)] := hl
  refine kz_start (fun QQ hQ => ?_)
  have hP : kz_P G [xoW x (a 0) u1 u2 (h 0) u4 V, shW G a S, hsW G h (fun j => b j 0) Y, shW G (b 0) (R 0), shW G (b 1) (R 1), shW G (b 2) (R 2), shW G (b 3) (R 3), shW G (b 4) (R 4), shW G (b 5) (R 5)] s.heap := hP
  refine lv_aload_n hx hb dX3_come_0 rfl (lv_at hl 0 rfl) ?_
  refine va_get (D := G.1) (ci := 3) (v := .ref (h 0)) (C := RX3) (T := TX3) (N := 8) hx hb hts hinX3 hown hK.1 hP 0 rfl rfl 3 (by decide) (hts (.fieldLink RX3 25 "ParcelShelves" "history" "LParcelShelves$History;") (by decide +kernel)) (fun _ h9 => h9) rfl dX3_come_1 ?_
  refine lv_aload_n hx hb dX3_come_4 rfl (lv_at hl 0 rfl) ?_
  refine va_get (D := G.1) (ci := 3) (v := .ref (a 0)) (C := RX3) (T := TX3) (N := 8) hx hb hts hinX3 hown hK.1 hP 0 rfl rfl 0 (by decide) (hts (.fieldLink RX3 12 "ParcelShelves" "now" "LParcelShelves$Shop;") (by decide +kernel)) (fun _ h9 => h9) rfl dX3_come_5 ?_
  refine kz_mvV (As := [.ref (a 0)]) (rest := []) (b := h 0) (wr := [xoW x (a 0) u1 u2 (h 0) u4 V]) (bs' := [xoW x (a 0) u1 u2 (h 0) u4 V, shW G a S, hsW G h (fun j => b j 0) Y, shW G (b 0) ((X0_prepare_R Y R S) 0), shW G (b 1) ((X0_prepare_R Y R S) 1), shW G (b 2) ((X0_prepare_R Y R S) 2), shW G (b 3) ((X0_prepare_R Y R S) 3), shW G (b 4) ((X0_prepare_R Y R S) 4), shW G (b 5) ((X0_prepare_R Y R S) 5)]) ⟨hx, hb, hml, hown, hts⟩ (c_X0_prepare l G h Y b R a S (by assumption) (by assumption)) (cwV 1 hts gX3_come_X0_prepare rfl rfl rfl (by decide +kernel) ⟨Nat.le_of_ble_eq_true rfl, Nat.le_of_ble_eq_true rfl⟩) hK hP hD hS hA [2, 3, 4, 5, 6, 7, 8, 1] [0] [0, 8, 1, 2, 3, 4, 5, 6, 7] rfl (by decide) rfl (by decide) (by decide) rfl (by decide) (kz_recv hK hP (ci := 0) (q0 := 12) rfl rfl) rfl hl.1 rfl (Nat.le_of_ble_eq_true rfl) dX3_come_8 ⟨Nat.le_of_ble_eq_true rfl, Nat.le_of_ble_eq_true rfl⟩ (fun H locs hP hD hS => ?_)
  refine lv_aload_n hx hb dX3_come_11 rfl (lv_at hl 0 rfl) ?_
  refine lv_aload_n hx hb dX3_come_12 rfl (lv_at hl 0 rfl) ?_
  refine lv_iload_n hx hb dX3_come_13 rfl (lv_at hl 1 rfl) ?_
  refine lv_iload_n hx hb dX3_come_14 rfl (lv_at hl 2 rfl) ?_
  refine kz_miV (As := [.int q, .int z]) (rest := [.ref x]) (b := x) (wr := [hsW G h (fun j => b j 0) Y, shW G (b 0) ((X0_prepare_R Y R S) 0), shW G (b 1) ((X0_prepare_R Y R S) 1), shW G (b 2) ((X0_prepare_R Y R S) 2), shW G (b 3) ((X0_prepare_R Y R S) 3), shW G (b 4) ((X0_prepare_R Y R S) 4), shW G (b 5) ((X0_prepare_R Y R S) 5)]) (bs' := [xoW x (a 0) u1 u2 (h 0) u4 (X3_letCome_s0 V S q z), shW G a (X3_letCome_s1 V S q z), hsW G h (fun j => b j 0) Y, shW G (b 0) ((X0_prepare_R Y R S) 0), shW G (b 1) ((X0_prepare_R Y R S) 1), shW G (b 2) ((X0_prepare_R Y R S) 2), shW G (b 3) ((X0_prepare_R Y R S) 3), shW G (b 4) ((X0_prepare_R Y R S) 4), shW G (b 5) ((X0_prepare_R Y R S) 5)]) ⟨hx, hb, hml, hown, hts⟩ (c_X3_letCome l G x u1 u2 (h 0) u4 V a S q z (by assumption)) (cwV 2 hts gX3_come_X3_letCome rfl rfl rfl (by decide +kernel) ⟨Nat.le_of_ble_eq_true rfl, Nat.le_of_ble_eq_true rfl⟩) hK hP hD hS hA [0, 1] [2, 3, 4, 5, 6, 7, 8] [7, 8, 0, 1, 2, 3, 4, 5, 6] rfl (by decide) rfl (by decide) (by decide) rfl (by decide) (kz_recv hK hP (ci := 3) (q0 := 0) rfl rfl) rfl hl.1 rfl (Nat.le_of_ble_eq_true rfl) dX3_come_15 ⟨Nat.le_of_ble_eq_true rfl, Nat.le_of_ble_eq_true rfl⟩ (fun H locs hP hD hS => ?_)
  refine kz_miV (As := [.int (X3_letCome_r V S q z)]) (rest := []) (b := x) (wr := [shW G a (X3_letCome_s1 V S q z), shW G (b 0) ((X0_prepare_R Y R S) 0), shW G (b 1) ((X0_prepare_R Y R S) 1), shW G (b 2) ((X0_prepare_R Y R S) 2), shW G (b 3) ((X0_prepare_R Y R S) 3), shW G (b 4) ((X0_prepare_R Y R S) 4), shW G (b 5) ((X0_prepare_R Y R S) 5)]) (bs' := [xoW x (a 0) u1 u2 (h 0) u4 (X3_letCome_s0 V S q z), shW G a (X3_letCome_s1 V S q z), hsW G h (fun j => b j 0) (X3_recorded_s (X3_letCome_s0 V S q z) Y (X3_letCome_r V S q z)), shW G (b 0) ((X0_prepare_R Y R S) 0), shW G (b 1) ((X0_prepare_R Y R S) 1), shW G (b 2) ((X0_prepare_R Y R S) 2), shW G (b 3) ((X0_prepare_R Y R S) 3), shW G (b 4) ((X0_prepare_R Y R S) 4), shW G (b 5) ((X0_prepare_R Y R S) 5)]) ⟨hx, hb, hml, hown, hts⟩ (c_X3_recorded l G x (a 0) u1 u2 u4 (X3_letCome_s0 V S q z) h (fun j => b j 0) Y (X3_letCome_r V S q z)) (cwV 1 hts gX3_come_X3_recorded rfl rfl rfl (by decide +kernel) ⟨Nat.le_of_ble_eq_true rfl, Nat.le_of_ble_eq_true rfl⟩) hK hP hD hS hA [0, 2] [1, 3, 4, 5, 6, 7, 8] [7, 0, 8, 1, 2, 3, 4, 5, 6] rfl (by decide) rfl (by decide) (by decide) rfl (by decide) (kz_recv hK hP (ci := 3) (q0 := 0) rfl rfl) rfl hl.1 rfl (Nat.le_of_ble_eq_true rfl) dX3_come_18 ⟨Nat.le_of_ble_eq_true rfl, Nat.le_of_ble_eq_true rfl⟩ (fun H locs hP hD hS => ?_)
  subst hQ
  have hP9 : kz_P G [xoW x (a 0) u1 u2 (h 0) u4 (X3_come_s0 V S Y R q z), shW G a (X3_come_s1 V S Y R q z), hsW G h (fun j => b j 0) (X3_come_s2 V S Y R q z), shW G (b 0) ((X3_come_s3 V S Y R q z) 0), shW G (b 1) ((X3_come_s3 V S Y R q z) 1), shW G (b 2) ((X3_come_s3 V S Y R q z) 2), shW G (b 3) ((X3_come_s3 V S Y R q z) 3), shW G (b 4) ((X3_come_s3 V S Y R q z) 4), shW G (b 5) ((X3_come_s3 V S Y R q z) 5)] H := hP
  have hD9 : kz_D A [xoW x (a 0) u1 u2 (h 0) u4 (X3_come_s0 V S Y R q z), shW G a (X3_come_s1 V S Y R q z), hsW G h (fun j => b j 0) (X3_come_s2 V S Y R q z), shW G (b 0) ((X3_come_s3 V S Y R q z) 0), shW G (b 1) ((X3_come_s3 V S Y R q z) 1), shW G (b 2) ((X3_come_s3 V S Y R q z) 2), shW G (b 3) ((X3_come_s3 V S Y R q z) 3), shW G (b 4) ((X3_come_s3 V S Y R q z) 4), shW G (b 5) ((X3_come_s3 V S Y R q z) 5)] := hD
  exact W.iret (v := (X3_letCome_r V S q z)) hx hb hr (fun t ht hW => ⟨⟨(X3_letCome_r V S q z), (), rfl, rfl, by rw [ht]; exact hP9, hD9⟩, hS.F ht⟩) hS.2.2 dX3_come_21
def X3_fetch_r (V : kz_S) (S : kz_S) (Y : kz_S) (R : Nat → kz_S) (code : Int32) : Int32 := (X3_letFetch_r V S code)
def X3_fetch_s0 (V : kz_S) (S : kz_S) (Y : kz_S) (R : Nat → kz_S) (code : Int32) : kz_S := (X3_letFetch_s0 V S code)
def X3_fetch_s1 (V : kz_S) (S : kz_S) (Y : kz_S) (R : Nat → kz_S) (code : Int32) : kz_S := (X3_letFetch_s1 V S code)
def X3_fetch_s2 (V : kz_S) (S : kz_S) (Y : kz_S) (R : Nat → kz_S) (code : Int32) : kz_S := (X3_recorded_s (X3_letFetch_s0 V S code) Y (X3_letFetch_r V S code))
def X3_fetch_s3 (V : kz_S) (S : kz_S) (Y : kz_S) (R : Nat → kz_S) (code : Int32) : Nat → kz_S := (X0_prepare_R Y R S)
set_option maxHeartbeats 4000000 in
set_option maxRecDepth 100000 in
theorem c_X3_fetch (l : Launch) (G : kz_G) (x : Nat) (u1 : Nat) (u2 : Nat) (u4 : Nat) (V : kz_S) (a : Nat → Nat) (S : kz_S) (h : Nat → Nat) (Y : kz_S) (b : Nat → Nat → Nat) (R : Nat → kz_S) (code : Int32) (hJ : kz_J S) (hO : ∃ o, o < 6 ∧ Y 1 0 = nI o) (hC : ∃ c, c ≤ 5 ∧ Y 2 0 = nI c) : kz_mi l G yX3_fetch wsX3_fetch 5 112 [.ref x, .int code] [xoW x (a 0) u1 u2 (h 0) u4 V, shW G a S, hsW G h (fun j => b j 0) Y, shW G (b 0) (R 0), shW G (b 1) (R 1), shW G (b 2) (R 2), shW G (b 3) (R 3), shW G (b 4) (R 4), shW G (b 5) (R 5)] [xoW x (a 0) u1 u2 (h 0) u4 (X3_fetch_s0 V S Y R code), shW G a (X3_fetch_s1 V S Y R code), hsW G h (fun j => b j 0) (X3_fetch_s2 V S Y R code), shW G (b 0) ((X3_fetch_s3 V S Y R code) 0), shW G (b 1) ((X3_fetch_s3 V S Y R code) 1), shW G (b 2) ((X3_fetch_s3 V S Y R code) 2), shW G (b 3) ((X3_fetch_s3 V S Y R code) 3), shW G (b 4) ((X3_fetch_s3 V S Y R code) 4), shW G (b 5) ((X3_fetch_s3 V S Y R code) 5)] (X3_fetch_r V S Y R code) := by
  intro sz
  refine Met.ofW (cc := cX3_fetch) (maxL := 2) (ret := (some .int)) (by decide) rfl ?_
  intro p e s m args below meth c s₁ B hml hv
  obtain ⟨rfl, hsz, hP, hK, hD0⟩ := hv
  have hx := B.exec
  have hb := B.bytes
  have hr := B.returns
  have hts := atoms_spec (ws := wsX3_fetch) B.pre
  have hown : s.vm.findClass RX3 = some m.cls := findClass_of_methodNamed B.named
  have hlocks := B.notSynchronized
  have hinX3 : ∀ w ∈ u_ws RX3 TX3 8, w ∈ wsX3_fetch := by decide +kernel
  subst hsz
  have hD := hD0.self (sz := s.heap.size)
  generalize hAe : kz_A [xoW x (a 0) u1 u2 (h 0) u4 V, shW G a S, hsW G h (fun j => b j 0) Y, shW G (b 0) (R 0), shW G (b 1) (R 1), shW G (b 2) (R 2), shW G (b 3) (R 3), shW G (b 4) (R 4), shW G (b 5) (R 5)] s.heap.size = A at hD ⊢
  have hA : ∀ q : Nat, s.heap.size ≤ q → A q := fun q h => by rw [← hAe]; exact Or.inr h
  have hS : va_S A s.heap s.heap [] := va_S.rf
  have hl := lv_entry ([.ref x, .int code]) (n := 2) (Nat.le_of_ble_eq_true rfl)
  rw [lg_entry_eq]
  generalize (lg_sl ([.ref x, .int code]) ++ List.replicate (2 - (lg_sl ([.ref x, .int code])).length) Slot.unset).toArray = ls at hl ⊢
  have hl : lv_has ls 2 [(0, .ref x), (1, .int code)] := hl
  refine kz_start (fun QQ hQ => ?_)
  have hP : kz_P G [xoW x (a 0) u1 u2 (h 0) u4 V, shW G a S, hsW G h (fun j => b j 0) Y, shW G (b 0) (R 0), shW G (b 1) (R 1), shW G (b 2) (R 2), shW G (b 3) (R 3), shW G (b 4) (R 4), shW G (b 5) (R 5)] s.heap := hP
  refine lv_aload_n hx hb dX3_fetch_0 rfl (lv_at hl 0 rfl) ?_
  refine va_get (D := G.1) (ci := 3) (v := .ref (h 0)) (C := RX3) (T := TX3) (N := 8) hx hb hts hinX3 hown hK.1 hP 0 rfl rfl 3 (by decide) (hts (.fieldLink RX3 25 "ParcelShelves" "history" "LParcelShelves$History;") (by decide +kernel)) (fun _ h9 => h9) rfl dX3_fetch_1 ?_
  refine lv_aload_n hx hb dX3_fetch_4 rfl (lv_at hl 0 rfl) ?_
  refine va_get (D := G.1) (ci := 3) (v := .ref (a 0)) (C := RX3) (T := TX3) (N := 8) hx hb hts hinX3 hown hK.1 hP 0 rfl rfl 0 (by decide) (hts (.fieldLink RX3 12 "ParcelShelves" "now" "LParcelShelves$Shop;") (by decide +kernel)) (fun _ h9 => h9) rfl dX3_fetch_5 ?_
  refine kz_mvV (As := [.ref (a 0)]) (rest := []) (b := h 0) (wr := [xoW x (a 0) u1 u2 (h 0) u4 V]) (bs' := [xoW x (a 0) u1 u2 (h 0) u4 V, shW G a S, hsW G h (fun j => b j 0) Y, shW G (b 0) ((X0_prepare_R Y R S) 0), shW G (b 1) ((X0_prepare_R Y R S) 1), shW G (b 2) ((X0_prepare_R Y R S) 2), shW G (b 3) ((X0_prepare_R Y R S) 3), shW G (b 4) ((X0_prepare_R Y R S) 4), shW G (b 5) ((X0_prepare_R Y R S) 5)]) ⟨hx, hb, hml, hown, hts⟩ (c_X0_prepare l G h Y b R a S (by assumption) (by assumption)) (cwV 1 hts gX3_fetch_X0_prepare rfl rfl rfl (by decide +kernel) ⟨Nat.le_of_ble_eq_true rfl, Nat.le_of_ble_eq_true rfl⟩) hK hP hD hS hA [2, 3, 4, 5, 6, 7, 8, 1] [0] [0, 8, 1, 2, 3, 4, 5, 6, 7] rfl (by decide) rfl (by decide) (by decide) rfl (by decide) (kz_recv hK hP (ci := 0) (q0 := 12) rfl rfl) rfl hl.1 rfl (Nat.le_of_ble_eq_true rfl) dX3_fetch_8 ⟨Nat.le_of_ble_eq_true rfl, Nat.le_of_ble_eq_true rfl⟩ (fun H locs hP hD hS => ?_)
  refine lv_aload_n hx hb dX3_fetch_11 rfl (lv_at hl 0 rfl) ?_
  refine lv_aload_n hx hb dX3_fetch_12 rfl (lv_at hl 0 rfl) ?_
  refine lv_iload_n hx hb dX3_fetch_13 rfl (lv_at hl 1 rfl) ?_
  refine kz_miV (As := [.int code]) (rest := [.ref x]) (b := x) (wr := [hsW G h (fun j => b j 0) Y, shW G (b 0) ((X0_prepare_R Y R S) 0), shW G (b 1) ((X0_prepare_R Y R S) 1), shW G (b 2) ((X0_prepare_R Y R S) 2), shW G (b 3) ((X0_prepare_R Y R S) 3), shW G (b 4) ((X0_prepare_R Y R S) 4), shW G (b 5) ((X0_prepare_R Y R S) 5)]) (bs' := [xoW x (a 0) u1 u2 (h 0) u4 (X3_letFetch_s0 V S code), shW G a (X3_letFetch_s1 V S code), hsW G h (fun j => b j 0) Y, shW G (b 0) ((X0_prepare_R Y R S) 0), shW G (b 1) ((X0_prepare_R Y R S) 1), shW G (b 2) ((X0_prepare_R Y R S) 2), shW G (b 3) ((X0_prepare_R Y R S) 3), shW G (b 4) ((X0_prepare_R Y R S) 4), shW G (b 5) ((X0_prepare_R Y R S) 5)]) ⟨hx, hb, hml, hown, hts⟩ (c_X3_letFetch l G x u1 u2 (h 0) u4 V a S code (by assumption)) (cwV 1 hts gX3_fetch_X3_letFetch rfl rfl rfl (by decide +kernel) ⟨Nat.le_of_ble_eq_true rfl, Nat.le_of_ble_eq_true rfl⟩) hK hP hD hS hA [0, 1] [2, 3, 4, 5, 6, 7, 8] [7, 8, 0, 1, 2, 3, 4, 5, 6] rfl (by decide) rfl (by decide) (by decide) rfl (by decide) (kz_recv hK hP (ci := 3) (q0 := 0) rfl rfl) rfl hl.1 rfl (Nat.le_of_ble_eq_true rfl) dX3_fetch_14 ⟨Nat.le_of_ble_eq_true rfl, Nat.le_of_ble_eq_true rfl⟩ (fun H locs hP hD hS => ?_)
  refine kz_miV (As := [.int (X3_letFetch_r V S code)]) (rest := []) (b := x) (wr := [shW G a (X3_letFetch_s1 V S code), shW G (b 0) ((X0_prepare_R Y R S) 0), shW G (b 1) ((X0_prepare_R Y R S) 1), shW G (b 2) ((X0_prepare_R Y R S) 2), shW G (b 3) ((X0_prepare_R Y R S) 3), shW G (b 4) ((X0_prepare_R Y R S) 4), shW G (b 5) ((X0_prepare_R Y R S) 5)]) (bs' := [xoW x (a 0) u1 u2 (h 0) u4 (X3_letFetch_s0 V S code), shW G a (X3_letFetch_s1 V S code), hsW G h (fun j => b j 0) (X3_recorded_s (X3_letFetch_s0 V S code) Y (X3_letFetch_r V S code)), shW G (b 0) ((X0_prepare_R Y R S) 0), shW G (b 1) ((X0_prepare_R Y R S) 1), shW G (b 2) ((X0_prepare_R Y R S) 2), shW G (b 3) ((X0_prepare_R Y R S) 3), shW G (b 4) ((X0_prepare_R Y R S) 4), shW G (b 5) ((X0_prepare_R Y R S) 5)]) ⟨hx, hb, hml, hown, hts⟩ (c_X3_recorded l G x (a 0) u1 u2 u4 (X3_letFetch_s0 V S code) h (fun j => b j 0) Y (X3_letFetch_r V S code)) (cwV 1 hts gX3_fetch_X3_recorded rfl rfl rfl (by decide +kernel) ⟨Nat.le_of_ble_eq_true rfl, Nat.le_of_ble_eq_true rfl⟩) hK hP hD hS hA [0, 2] [1, 3, 4, 5, 6, 7, 8] [7, 0, 8, 1, 2, 3, 4, 5, 6] rfl (by decide) rfl (by decide) (by decide) rfl (by decide) (kz_recv hK hP (ci := 3) (q0 := 0) rfl rfl) rfl hl.1 rfl (Nat.le_of_ble_eq_true rfl) dX3_fetch_17 ⟨Nat.le_of_ble_eq_true rfl, Nat.le_of_ble_eq_true rfl⟩ (fun H locs hP hD hS => ?_)
  subst hQ
  have hP9 : kz_P G [xoW x (a 0) u1 u2 (h 0) u4 (X3_fetch_s0 V S Y R code), shW G a (X3_fetch_s1 V S Y R code), hsW G h (fun j => b j 0) (X3_fetch_s2 V S Y R code), shW G (b 0) ((X3_fetch_s3 V S Y R code) 0), shW G (b 1) ((X3_fetch_s3 V S Y R code) 1), shW G (b 2) ((X3_fetch_s3 V S Y R code) 2), shW G (b 3) ((X3_fetch_s3 V S Y R code) 3), shW G (b 4) ((X3_fetch_s3 V S Y R code) 4), shW G (b 5) ((X3_fetch_s3 V S Y R code) 5)] H := hP
  have hD9 : kz_D A [xoW x (a 0) u1 u2 (h 0) u4 (X3_fetch_s0 V S Y R code), shW G a (X3_fetch_s1 V S Y R code), hsW G h (fun j => b j 0) (X3_fetch_s2 V S Y R code), shW G (b 0) ((X3_fetch_s3 V S Y R code) 0), shW G (b 1) ((X3_fetch_s3 V S Y R code) 1), shW G (b 2) ((X3_fetch_s3 V S Y R code) 2), shW G (b 3) ((X3_fetch_s3 V S Y R code) 3), shW G (b 4) ((X3_fetch_s3 V S Y R code) 4), shW G (b 5) ((X3_fetch_s3 V S Y R code) 5)] := hD
  exact W.iret (v := (X3_letFetch_r V S code)) hx hb hr (fun t ht hW => ⟨⟨(X3_letFetch_r V S code), (), rfl, rfl, by rw [ht]; exact hP9, hD9⟩, hS.F ht⟩) hS.2.2 dX3_fetch_20
def X3_refuse_r (V : kz_S) (S : kz_S) (Y : kz_S) (R : Nat → kz_S) (code : Int32) : Int32 := (X3_letRefuse_r V S code)
def X3_refuse_s0 (V : kz_S) (S : kz_S) (Y : kz_S) (R : Nat → kz_S) (code : Int32) : kz_S := (X3_letRefuse_s0 V S code)
def X3_refuse_s1 (V : kz_S) (S : kz_S) (Y : kz_S) (R : Nat → kz_S) (code : Int32) : kz_S := (X3_letRefuse_s1 V S code)
def X3_refuse_s2 (V : kz_S) (S : kz_S) (Y : kz_S) (R : Nat → kz_S) (code : Int32) : kz_S := (X3_recorded_s (X3_letRefuse_s0 V S code) Y (X3_letRefuse_r V S code))
def X3_refuse_s3 (V : kz_S) (S : kz_S) (Y : kz_S) (R : Nat → kz_S) (code : Int32) : Nat → kz_S := (X0_prepare_R Y R S)
set_option maxHeartbeats 4000000 in
set_option maxRecDepth 100000 in
theorem c_X3_refuse (l : Launch) (G : kz_G) (x : Nat) (u1 : Nat) (u2 : Nat) (u4 : Nat) (V : kz_S) (a : Nat → Nat) (S : kz_S) (h : Nat → Nat) (Y : kz_S) (b : Nat → Nat → Nat) (R : Nat → kz_S) (code : Int32) (hJ : kz_J S) (hO : ∃ o, o < 6 ∧ Y 1 0 = nI o) (hC : ∃ c, c ≤ 5 ∧ Y 2 0 = nI c) : kz_mi l G yX3_refuse wsX3_refuse 5 112 [.ref x, .int code] [xoW x (a 0) u1 u2 (h 0) u4 V, shW G a S, hsW G h (fun j => b j 0) Y, shW G (b 0) (R 0), shW G (b 1) (R 1), shW G (b 2) (R 2), shW G (b 3) (R 3), shW G (b 4) (R 4), shW G (b 5) (R 5)] [xoW x (a 0) u1 u2 (h 0) u4 (X3_refuse_s0 V S Y R code), shW G a (X3_refuse_s1 V S Y R code), hsW G h (fun j => b j 0) (X3_refuse_s2 V S Y R code), shW G (b 0) ((X3_refuse_s3 V S Y R code) 0), shW G (b 1) ((X3_refuse_s3 V S Y R code) 1), shW G (b 2) ((X3_refuse_s3 V S Y R code) 2), shW G (b 3) ((X3_refuse_s3 V S Y R code) 3), shW G (b 4) ((X3_refuse_s3 V S Y R code) 4), shW G (b 5) ((X3_refuse_s3 V S Y R code) 5)] (X3_refuse_r V S Y R code) := by
  intro sz
  refine Met.ofW (cc := cX3_refuse) (maxL := 2) (ret := (some .int)) (by decide) rfl ?_
  intro p e s m args below meth c s₁ B hml hv
  obtain ⟨rfl, hsz, hP, hK, hD0⟩ := hv
  have hx := B.exec
  have hb := B.bytes
  have hr := B.returns
  have hts := atoms_spec (ws := wsX3_refuse) B.pre
  have hown : s.vm.findClass RX3 = some m.cls := findClass_of_methodNamed B.named
  have hlocks := B.notSynchronized
  have hinX3 : ∀ w ∈ u_ws RX3 TX3 8, w ∈ wsX3_refuse := by decide +kernel
  subst hsz
  have hD := hD0.self (sz := s.heap.size)
  generalize hAe : kz_A [xoW x (a 0) u1 u2 (h 0) u4 V, shW G a S, hsW G h (fun j => b j 0) Y, shW G (b 0) (R 0), shW G (b 1) (R 1), shW G (b 2) (R 2), shW G (b 3) (R 3), shW G (b 4) (R 4), shW G (b 5) (R 5)] s.heap.size = A at hD ⊢
  have hA : ∀ q : Nat, s.heap.size ≤ q → A q := fun q h => by rw [← hAe]; exact Or.inr h
  have hS : va_S A s.heap s.heap [] := va_S.rf
  have hl := lv_entry ([.ref x, .int code]) (n := 2) (Nat.le_of_ble_eq_true rfl)
  rw [lg_entry_eq]
  generalize (lg_sl ([.ref x, .int code]) ++ List.replicate (2 - (lg_sl ([.ref x, .int code])).length) Slot.unset).toArray = ls at hl ⊢
  have hl : lv_has ls 2 [(0, .ref x), (1, .int code)] := hl
  refine kz_start (fun QQ hQ => ?_)
  have hP : kz_P G [xoW x (a 0) u1 u2 (h 0) u4 V, shW G a S, hsW G h (fun j => b j 0) Y, shW G (b 0) (R 0), shW G (b 1) (R 1), shW G (b 2) (R 2), shW G (b 3) (R 3), shW G (b 4) (R 4), shW G (b 5) (R 5)] s.heap := hP
  refine lv_aload_n hx hb dX3_refuse_0 rfl (lv_at hl 0 rfl) ?_
  refine va_get (D := G.1) (ci := 3) (v := .ref (h 0)) (C := RX3) (T := TX3) (N := 8) hx hb hts hinX3 hown hK.1 hP 0 rfl rfl 3 (by decide) (hts (.fieldLink RX3 25 "ParcelShelves" "history" "LParcelShelves$History;") (by decide +kernel)) (fun _ h9 => h9) rfl dX3_refuse_1 ?_
  refine lv_aload_n hx hb dX3_refuse_4 rfl (lv_at hl 0 rfl) ?_
  refine va_get (D := G.1) (ci := 3) (v := .ref (a 0)) (C := RX3) (T := TX3) (N := 8) hx hb hts hinX3 hown hK.1 hP 0 rfl rfl 0 (by decide) (hts (.fieldLink RX3 12 "ParcelShelves" "now" "LParcelShelves$Shop;") (by decide +kernel)) (fun _ h9 => h9) rfl dX3_refuse_5 ?_
  refine kz_mvV (As := [.ref (a 0)]) (rest := []) (b := h 0) (wr := [xoW x (a 0) u1 u2 (h 0) u4 V]) (bs' := [xoW x (a 0) u1 u2 (h 0) u4 V, shW G a S, hsW G h (fun j => b j 0) Y, shW G (b 0) ((X0_prepare_R Y R S) 0), shW G (b 1) ((X0_prepare_R Y R S) 1), shW G (b 2) ((X0_prepare_R Y R S) 2), shW G (b 3) ((X0_prepare_R Y R S) 3), shW G (b 4) ((X0_prepare_R Y R S) 4), shW G (b 5) ((X0_prepare_R Y R S) 5)]) ⟨hx, hb, hml, hown, hts⟩ (c_X0_prepare l G h Y b R a S (by assumption) (by assumption)) (cwV 1 hts gX3_refuse_X0_prepare rfl rfl rfl (by decide +kernel) ⟨Nat.le_of_ble_eq_true rfl, Nat.le_of_ble_eq_true rfl⟩) hK hP hD hS hA [2, 3, 4, 5, 6, 7, 8, 1] [0] [0, 8, 1, 2, 3, 4, 5, 6, 7] rfl (by decide) rfl (by decide) (by decide) rfl (by decide) (kz_recv hK hP (ci := 0) (q0 := 12) rfl rfl) rfl hl.1 rfl (Nat.le_of_ble_eq_true rfl) dX3_refuse_8 ⟨Nat.le_of_ble_eq_true rfl, Nat.le_of_ble_eq_true rfl⟩ (fun H locs hP hD hS => ?_)
  refine lv_aload_n hx hb dX3_refuse_11 rfl (lv_at hl 0 rfl) ?_
  refine lv_aload_n hx hb dX3_refuse_12 rfl (lv_at hl 0 rfl) ?_
  refine lv_iload_n hx hb dX3_refuse_13 rfl (lv_at hl 1 rfl) ?_
  refine kz_miV (As := [.int code]) (rest := [.ref x]) (b := x) (wr := [hsW G h (fun j => b j 0) Y, shW G (b 0) ((X0_prepare_R Y R S) 0), shW G (b 1) ((X0_prepare_R Y R S) 1), shW G (b 2) ((X0_prepare_R Y R S) 2), shW G (b 3) ((X0_prepare_R Y R S) 3), shW G (b 4) ((X0_prepare_R Y R S) 4), shW G (b 5) ((X0_prepare_R Y R S) 5)]) (bs' := [xoW x (a 0) u1 u2 (h 0) u4 (X3_letRefuse_s0 V S code), shW G a (X3_letRefuse_s1 V S code), hsW G h (fun j => b j 0) Y, shW G (b 0) ((X0_prepare_R Y R S) 0), shW G (b 1) ((X0_prepare_R Y R S) 1), shW G (b 2) ((X0_prepare_R Y R S) 2), shW G (b 3) ((X0_prepare_R Y R S) 3), shW G (b 4) ((X0_prepare_R Y R S) 4), shW G (b 5) ((X0_prepare_R Y R S) 5)]) ⟨hx, hb, hml, hown, hts⟩ (c_X3_letRefuse l G x u1 u2 (h 0) u4 V a S code (by assumption)) (cwV 1 hts gX3_refuse_X3_letRefuse rfl rfl rfl (by decide +kernel) ⟨Nat.le_of_ble_eq_true rfl, Nat.le_of_ble_eq_true rfl⟩) hK hP hD hS hA [0, 1] [2, 3, 4, 5, 6, 7, 8] [7, 8, 0, 1, 2, 3, 4, 5, 6] rfl (by decide) rfl (by decide) (by decide) rfl (by decide) (kz_recv hK hP (ci := 3) (q0 := 0) rfl rfl) rfl hl.1 rfl (Nat.le_of_ble_eq_true rfl) dX3_refuse_14 ⟨Nat.le_of_ble_eq_true rfl, Nat.le_of_ble_eq_true rfl⟩ (fun H locs hP hD hS => ?_)
  refine kz_miV (As := [.int (X3_letRefuse_r V S code)]) (rest := []) (b := x) (wr := [shW G a (X3_letRefuse_s1 V S code), shW G (b 0) ((X0_prepare_R Y R S) 0), shW G (b 1) ((X0_prepare_R Y R S) 1), shW G (b 2) ((X0_prepare_R Y R S) 2), shW G (b 3) ((X0_prepare_R Y R S) 3), shW G (b 4) ((X0_prepare_R Y R S) 4), shW G (b 5) ((X0_prepare_R Y R S) 5)]) (bs' := [xoW x (a 0) u1 u2 (h 0) u4 (X3_letRefuse_s0 V S code), shW G a (X3_letRefuse_s1 V S code), hsW G h (fun j => b j 0) (X3_recorded_s (X3_letRefuse_s0 V S code) Y (X3_letRefuse_r V S code)), shW G (b 0) ((X0_prepare_R Y R S) 0), shW G (b 1) ((X0_prepare_R Y R S) 1), shW G (b 2) ((X0_prepare_R Y R S) 2), shW G (b 3) ((X0_prepare_R Y R S) 3), shW G (b 4) ((X0_prepare_R Y R S) 4), shW G (b 5) ((X0_prepare_R Y R S) 5)]) ⟨hx, hb, hml, hown, hts⟩ (c_X3_recorded l G x (a 0) u1 u2 u4 (X3_letRefuse_s0 V S code) h (fun j => b j 0) Y (X3_letRefuse_r V S code)) (cwV 1 hts gX3_refuse_X3_recorded rfl rfl rfl (by decide +kernel) ⟨Nat.le_of_ble_eq_true rfl, Nat.le_of_ble_eq_true rfl⟩) hK hP hD hS hA [0, 2] [1, 3, 4, 5, 6, 7, 8] [7, 0, 8, 1, 2, 3, 4, 5, 6] rfl (by decide) rfl (by decide) (by decide) rfl (by decide) (kz_recv hK hP (ci := 3) (q0 := 0) rfl rfl) rfl hl.1 rfl (Nat.le_of_ble_eq_true rfl) dX3_refuse_17 ⟨Nat.le_of_ble_eq_true rfl, Nat.le_of_ble_eq_true rfl⟩ (fun H locs hP hD hS => ?_)
  subst hQ
  have hP9 : kz_P G [xoW x (a 0) u1 u2 (h 0) u4 (X3_refuse_s0 V S Y R code), shW G a (X3_refuse_s1 V S Y R code), hsW G h (fun j => b j 0) (X3_refuse_s2 V S Y R code), shW G (b 0) ((X3_refuse_s3 V S Y R code) 0), shW G (b 1) ((X3_refuse_s3 V S Y R code) 1), shW G (b 2) ((X3_refuse_s3 V S Y R code) 2), shW G (b 3) ((X3_refuse_s3 V S Y R code) 3), shW G (b 4) ((X3_refuse_s3 V S Y R code) 4), shW G (b 5) ((X3_refuse_s3 V S Y R code) 5)] H := hP
  have hD9 : kz_D A [xoW x (a 0) u1 u2 (h 0) u4 (X3_refuse_s0 V S Y R code), shW G a (X3_refuse_s1 V S Y R code), hsW G h (fun j => b j 0) (X3_refuse_s2 V S Y R code), shW G (b 0) ((X3_refuse_s3 V S Y R code) 0), shW G (b 1) ((X3_refuse_s3 V S Y R code) 1), shW G (b 2) ((X3_refuse_s3 V S Y R code) 2), shW G (b 3) ((X3_refuse_s3 V S Y R code) 3), shW G (b 4) ((X3_refuse_s3 V S Y R code) 4), shW G (b 5) ((X3_refuse_s3 V S Y R code) 5)] := hD
  exact W.iret (v := (X3_letRefuse_r V S code)) hx hb hr (fun t ht hW => ⟨⟨(X3_letRefuse_r V S code), (), rfl, rfl, by rw [ht]; exact hP9, hD9⟩, hS.F ht⟩) hS.2.2 dX3_refuse_20
def X3_move_r (V : kz_S) (S : kz_S) (Y : kz_S) (R : Nat → kz_S) (code : Int32) (k : Int32) : Int32 := (X3_moveParcel_r V S code k)
def X3_move_s0 (V : kz_S) (S : kz_S) (Y : kz_S) (R : Nat → kz_S) (code : Int32) (k : Int32) : kz_S := (X3_moveParcel_s0 V S code k)
def X3_move_s1 (V : kz_S) (S : kz_S) (Y : kz_S) (R : Nat → kz_S) (code : Int32) (k : Int32) : kz_S := (X3_moveParcel_s1 V S code k)
def X3_move_s2 (V : kz_S) (S : kz_S) (Y : kz_S) (R : Nat → kz_S) (code : Int32) (k : Int32) : kz_S := (X3_recorded_s (X3_moveParcel_s0 V S code k) Y (X3_moveParcel_r V S code k))
def X3_move_s3 (V : kz_S) (S : kz_S) (Y : kz_S) (R : Nat → kz_S) (code : Int32) (k : Int32) : Nat → kz_S := (X0_prepare_R Y R S)
set_option maxHeartbeats 4000000 in
set_option maxRecDepth 100000 in
theorem c_X3_move (l : Launch) (G : kz_G) (x : Nat) (u1 : Nat) (u2 : Nat) (u4 : Nat) (V : kz_S) (a : Nat → Nat) (S : kz_S) (h : Nat → Nat) (Y : kz_S) (b : Nat → Nat → Nat) (R : Nat → kz_S) (code : Int32) (k : Int32) (hJ : kz_J S) (ht : ∃ d, d < 2 ^ 30 ∧ S 1 0 = nI d) (hO : ∃ o, o < 6 ∧ Y 1 0 = nI o) (hC : ∃ c, c ≤ 5 ∧ Y 2 0 = nI c) : kz_mi l G yX3_move wsX3_move 5 113 [.ref x, .int code, .int k] [xoW x (a 0) u1 u2 (h 0) u4 V, shW G a S, hsW G h (fun j => b j 0) Y, shW G (b 0) (R 0), shW G (b 1) (R 1), shW G (b 2) (R 2), shW G (b 3) (R 3), shW G (b 4) (R 4), shW G (b 5) (R 5)] [xoW x (a 0) u1 u2 (h 0) u4 (X3_move_s0 V S Y R code k), shW G a (X3_move_s1 V S Y R code k), hsW G h (fun j => b j 0) (X3_move_s2 V S Y R code k), shW G (b 0) ((X3_move_s3 V S Y R code k) 0), shW G (b 1) ((X3_move_s3 V S Y R code k) 1), shW G (b 2) ((X3_move_s3 V S Y R code k) 2), shW G (b 3) ((X3_move_s3 V S Y R code k) 3), shW G (b 4) ((X3_move_s3 V S Y R code k) 4), shW G (b 5) ((X3_move_s3 V S Y R code k) 5)] (X3_move_r V S Y R code k) := by
  intro sz
  refine Met.ofW (cc := cX3_move) (maxL := 3) (ret := (some .int)) (by decide) rfl ?_
  intro p e s m args below meth c s₁ B hml hv
  obtain ⟨rfl, hsz, hP, hK, hD0⟩ := hv
  have hx := B.exec
  have hb := B.bytes
  have hr := B.returns
  have hts := atoms_spec (ws := wsX3_move) B.pre
  have hown : s.vm.findClass RX3 = some m.cls := findClass_of_methodNamed B.named
  have hlocks := B.notSynchronized
  have hinX3 : ∀ w ∈ u_ws RX3 TX3 8, w ∈ wsX3_move := by decide +kernel
  subst hsz
  have hD := hD0.self (sz := s.heap.size)
  generalize hAe : kz_A [xoW x (a 0) u1 u2 (h 0) u4 V, shW G a S, hsW G h (fun j => b j 0) Y, shW G (b 0) (R 0), shW G (b 1) (R 1), shW G (b 2) (R 2), shW G (b 3) (R 3), shW G (b 4) (R 4), shW G (b 5) (R 5)] s.heap.size = A at hD ⊢
  have hA : ∀ q : Nat, s.heap.size ≤ q → A q := fun q h => by rw [← hAe]; exact Or.inr h
  have hS : va_S A s.heap s.heap [] := va_S.rf
  have hl := lv_entry ([.ref x, .int code, .int k]) (n := 3) (Nat.le_of_ble_eq_true rfl)
  rw [lg_entry_eq]
  generalize (lg_sl ([.ref x, .int code, .int k]) ++ List.replicate (3 - (lg_sl ([.ref x, .int code, .int k])).length) Slot.unset).toArray = ls at hl ⊢
  have hl : lv_has ls 3 [(0, .ref x), (1, .int code), (2, .int k)] := hl
  refine kz_start (fun QQ hQ => ?_)
  have hP : kz_P G [xoW x (a 0) u1 u2 (h 0) u4 V, shW G a S, hsW G h (fun j => b j 0) Y, shW G (b 0) (R 0), shW G (b 1) (R 1), shW G (b 2) (R 2), shW G (b 3) (R 3), shW G (b 4) (R 4), shW G (b 5) (R 5)] s.heap := hP
  refine lv_aload_n hx hb dX3_move_0 rfl (lv_at hl 0 rfl) ?_
  refine va_get (D := G.1) (ci := 3) (v := .ref (h 0)) (C := RX3) (T := TX3) (N := 8) hx hb hts hinX3 hown hK.1 hP 0 rfl rfl 3 (by decide) (hts (.fieldLink RX3 25 "ParcelShelves" "history" "LParcelShelves$History;") (by decide +kernel)) (fun _ h9 => h9) rfl dX3_move_1 ?_
  refine lv_aload_n hx hb dX3_move_4 rfl (lv_at hl 0 rfl) ?_
  refine va_get (D := G.1) (ci := 3) (v := .ref (a 0)) (C := RX3) (T := TX3) (N := 8) hx hb hts hinX3 hown hK.1 hP 0 rfl rfl 0 (by decide) (hts (.fieldLink RX3 12 "ParcelShelves" "now" "LParcelShelves$Shop;") (by decide +kernel)) (fun _ h9 => h9) rfl dX3_move_5 ?_
  refine kz_mvV (As := [.ref (a 0)]) (rest := []) (b := h 0) (wr := [xoW x (a 0) u1 u2 (h 0) u4 V]) (bs' := [xoW x (a 0) u1 u2 (h 0) u4 V, shW G a S, hsW G h (fun j => b j 0) Y, shW G (b 0) ((X0_prepare_R Y R S) 0), shW G (b 1) ((X0_prepare_R Y R S) 1), shW G (b 2) ((X0_prepare_R Y R S) 2), shW G (b 3) ((X0_prepare_R Y R S) 3), shW G (b 4) ((X0_prepare_R Y R S) 4), shW G (b 5) ((X0_prepare_R Y R S) 5)]) ⟨hx, hb, hml, hown, hts⟩ (c_X0_prepare l G h Y b R a S (by assumption) (by assumption)) (cwV 1 hts gX3_move_X0_prepare rfl rfl rfl (by decide +kernel) ⟨Nat.le_of_ble_eq_true rfl, Nat.le_of_ble_eq_true rfl⟩) hK hP hD hS hA [2, 3, 4, 5, 6, 7, 8, 1] [0] [0, 8, 1, 2, 3, 4, 5, 6, 7] rfl (by decide) rfl (by decide) (by decide) rfl (by decide) (kz_recv hK hP (ci := 0) (q0 := 12) rfl rfl) rfl hl.1 rfl (Nat.le_of_ble_eq_true rfl) dX3_move_8 ⟨Nat.le_of_ble_eq_true rfl, Nat.le_of_ble_eq_true rfl⟩ (fun H locs hP hD hS => ?_)
  refine lv_aload_n hx hb dX3_move_11 rfl (lv_at hl 0 rfl) ?_
  refine lv_aload_n hx hb dX3_move_12 rfl (lv_at hl 0 rfl) ?_
  refine lv_iload_n hx hb dX3_move_13 rfl (lv_at hl 1 rfl) ?_
  refine lv_iload_n hx hb dX3_move_14 rfl (lv_at hl 2 rfl) ?_
  refine kz_miV (As := [.int code, .int k]) (rest := [.ref x]) (b := x) (wr := [hsW G h (fun j => b j 0) Y, shW G (b 0) ((X0_prepare_R Y R S) 0), shW G (b 1) ((X0_prepare_R Y R S) 1), shW G (b 2) ((X0_prepare_R Y R S) 2), shW G (b 3) ((X0_prepare_R Y R S) 3), shW G (b 4) ((X0_prepare_R Y R S) 4), shW G (b 5) ((X0_prepare_R Y R S) 5)]) (bs' := [xoW x (a 0) u1 u2 (h 0) u4 (X3_moveParcel_s0 V S code k), shW G a (X3_moveParcel_s1 V S code k), hsW G h (fun j => b j 0) Y, shW G (b 0) ((X0_prepare_R Y R S) 0), shW G (b 1) ((X0_prepare_R Y R S) 1), shW G (b 2) ((X0_prepare_R Y R S) 2), shW G (b 3) ((X0_prepare_R Y R S) 3), shW G (b 4) ((X0_prepare_R Y R S) 4), shW G (b 5) ((X0_prepare_R Y R S) 5)]) ⟨hx, hb, hml, hown, hts⟩ (c_X3_moveParcel l G x u1 u2 (h 0) u4 V a S code k (by assumption) (by assumption)) (cwV 2 hts gX3_move_X3_moveParcel rfl rfl rfl (by decide +kernel) ⟨Nat.le_of_ble_eq_true rfl, Nat.le_of_ble_eq_true rfl⟩) hK hP hD hS hA [0, 1] [2, 3, 4, 5, 6, 7, 8] [7, 8, 0, 1, 2, 3, 4, 5, 6] rfl (by decide) rfl (by decide) (by decide) rfl (by decide) (kz_recv hK hP (ci := 3) (q0 := 0) rfl rfl) rfl hl.1 rfl (Nat.le_of_ble_eq_true rfl) dX3_move_15 ⟨Nat.le_of_ble_eq_true rfl, Nat.le_of_ble_eq_true rfl⟩ (fun H locs hP hD hS => ?_)
  refine kz_miV (As := [.int (X3_moveParcel_r V S code k)]) (rest := []) (b := x) (wr := [shW G a (X3_moveParcel_s1 V S code k), shW G (b 0) ((X0_prepare_R Y R S) 0), shW G (b 1) ((X0_prepare_R Y R S) 1), shW G (b 2) ((X0_prepare_R Y R S) 2), shW G (b 3) ((X0_prepare_R Y R S) 3), shW G (b 4) ((X0_prepare_R Y R S) 4), shW G (b 5) ((X0_prepare_R Y R S) 5)]) (bs' := [xoW x (a 0) u1 u2 (h 0) u4 (X3_moveParcel_s0 V S code k), shW G a (X3_moveParcel_s1 V S code k), hsW G h (fun j => b j 0) (X3_recorded_s (X3_moveParcel_s0 V S code k) Y (X3_moveParcel_r V S code k)), shW G (b 0) ((X0_prepare_R Y R S) 0), shW G (b 1) ((X0_prepare_R Y R S) 1), shW G (b 2) ((X0_prepare_R Y R S) 2), shW G (b 3) ((X0_prepare_R Y R S) 3), shW G (b 4) ((X0_prepare_R Y R S) 4), shW G (b 5) ((X0_prepare_R Y R S) 5)]) ⟨hx, hb, hml, hown, hts⟩ (c_X3_recorded l G x (a 0) u1 u2 u4 (X3_moveParcel_s0 V S code k) h (fun j => b j 0) Y (X3_moveParcel_r V S code k)) (cwV 1 hts gX3_move_X3_recorded rfl rfl rfl (by decide +kernel) ⟨Nat.le_of_ble_eq_true rfl, Nat.le_of_ble_eq_true rfl⟩) hK hP hD hS hA [0, 2] [1, 3, 4, 5, 6, 7, 8] [7, 0, 8, 1, 2, 3, 4, 5, 6] rfl (by decide) rfl (by decide) (by decide) rfl (by decide) (kz_recv hK hP (ci := 3) (q0 := 0) rfl rfl) rfl hl.1 rfl (Nat.le_of_ble_eq_true rfl) dX3_move_18 ⟨Nat.le_of_ble_eq_true rfl, Nat.le_of_ble_eq_true rfl⟩ (fun H locs hP hD hS => ?_)
  subst hQ
  have hP9 : kz_P G [xoW x (a 0) u1 u2 (h 0) u4 (X3_move_s0 V S Y R code k), shW G a (X3_move_s1 V S Y R code k), hsW G h (fun j => b j 0) (X3_move_s2 V S Y R code k), shW G (b 0) ((X3_move_s3 V S Y R code k) 0), shW G (b 1) ((X3_move_s3 V S Y R code k) 1), shW G (b 2) ((X3_move_s3 V S Y R code k) 2), shW G (b 3) ((X3_move_s3 V S Y R code k) 3), shW G (b 4) ((X3_move_s3 V S Y R code k) 4), shW G (b 5) ((X3_move_s3 V S Y R code k) 5)] H := hP
  have hD9 : kz_D A [xoW x (a 0) u1 u2 (h 0) u4 (X3_move_s0 V S Y R code k), shW G a (X3_move_s1 V S Y R code k), hsW G h (fun j => b j 0) (X3_move_s2 V S Y R code k), shW G (b 0) ((X3_move_s3 V S Y R code k) 0), shW G (b 1) ((X3_move_s3 V S Y R code k) 1), shW G (b 2) ((X3_move_s3 V S Y R code k) 2), shW G (b 3) ((X3_move_s3 V S Y R code k) 3), shW G (b 4) ((X3_move_s3 V S Y R code k) 4), shW G (b 5) ((X3_move_s3 V S Y R code k) 5)] := hD
  exact W.iret (v := (X3_moveParcel_r V S code k)) hx hb hr (fun t ht hW => ⟨⟨(X3_moveParcel_r V S code k), (), rfl, rfl, by rw [ht]; exact hP9, hD9⟩, hS.F ht⟩) hS.2.2 dX3_move_21
def X3_pass_r (V : kz_S) (S : kz_S) (Y : kz_S) (R : Nat → kz_S) (d : Int32) : Int32 := (X3_letPass_r S d)
def X3_pass_s1 (V : kz_S) (S : kz_S) (Y : kz_S) (R : Nat → kz_S) (d : Int32) : kz_S := (X3_letPass_s S d)
def X3_pass_s2 (V : kz_S) (S : kz_S) (Y : kz_S) (R : Nat → kz_S) (d : Int32) : kz_S := (X3_recorded_s V Y (X3_letPass_r S d))
def X3_pass_s3 (V : kz_S) (S : kz_S) (Y : kz_S) (R : Nat → kz_S) (d : Int32) : Nat → kz_S := (X0_prepare_R Y R S)
set_option maxHeartbeats 4000000 in
set_option maxRecDepth 100000 in
theorem c_X3_pass (l : Launch) (G : kz_G) (x : Nat) (u1 : Nat) (u2 : Nat) (u4 : Nat) (V : kz_S) (a : Nat → Nat) (S : kz_S) (h : Nat → Nat) (Y : kz_S) (b : Nat → Nat → Nat) (R : Nat → kz_S) (d : Int32) (hJ : kz_J S) (hO : ∃ o, o < 6 ∧ Y 1 0 = nI o) (hC : ∃ c, c ≤ 5 ∧ Y 2 0 = nI c) : kz_mi l G yX3_pass wsX3_pass 5 107 [.ref x, .int d] [xoW x (a 0) u1 u2 (h 0) u4 V, shW G a S, hsW G h (fun j => b j 0) Y, shW G (b 0) (R 0), shW G (b 1) (R 1), shW G (b 2) (R 2), shW G (b 3) (R 3), shW G (b 4) (R 4), shW G (b 5) (R 5)] [xoW x (a 0) u1 u2 (h 0) u4 V, shW G a (X3_pass_s1 V S Y R d), hsW G h (fun j => b j 0) (X3_pass_s2 V S Y R d), shW G (b 0) ((X3_pass_s3 V S Y R d) 0), shW G (b 1) ((X3_pass_s3 V S Y R d) 1), shW G (b 2) ((X3_pass_s3 V S Y R d) 2), shW G (b 3) ((X3_pass_s3 V S Y R d) 3), shW G (b 4) ((X3_pass_s3 V S Y R d) 4), shW G (b 5) ((X3_pass_s3 V S Y R d) 5)] (X3_pass_r V S Y R d) := by
  intro sz
  refine Met.ofW (cc := cX3_pass) (maxL := 2) (ret := (some .int)) (by decide) rfl ?_
  intro p e s m args below meth c s₁ B hml hv
  obtain ⟨rfl, hsz, hP, hK, hD0⟩ := hv
  have hx := B.exec
  have hb := B.bytes
  have hr := B.returns
  have hts := atoms_spec (ws := wsX3_pass) B.pre
  have hown : s.vm.findClass RX3 = some m.cls := findClass_of_methodNamed B.named
  have hlocks := B.notSynchronized
  have hinX3 : ∀ w ∈ u_ws RX3 TX3 8, w ∈ wsX3_pass := by decide +kernel
  subst hsz
  have hD := hD0.self (sz := s.heap.size)
  generalize hAe : kz_A [xoW x (a 0) u1 u2 (h 0) u4 V, shW G a S, hsW G h (fun j => b j 0) Y, shW G (b 0) (R 0), shW G (b 1) (R 1), shW G (b 2) (R 2), shW G (b 3) (R 3), shW G (b 4) (R 4), shW G (b 5) (R 5)] s.heap.size = A at hD ⊢
  have hA : ∀ q : Nat, s.heap.size ≤ q → A q := fun q h => by rw [← hAe]; exact Or.inr h
  have hS : va_S A s.heap s.heap [] := va_S.rf
  have hl := lv_entry ([.ref x, .int d]) (n := 2) (Nat.le_of_ble_eq_true rfl)
  rw [lg_entry_eq]
  generalize (lg_sl ([.ref x, .int d]) ++ List.replicate (2 - (lg_sl ([.ref x, .int d])).length) Slot.unset).toArray = ls at hl ⊢
  have hl : lv_has ls 2 [(0, .ref x), (1, .int d)] := hl
  refine kz_start (fun QQ hQ => ?_)
  have hP : kz_P G [xoW x (a 0) u1 u2 (h 0) u4 V, shW G a S, hsW G h (fun j => b j 0) Y, shW G (b 0) (R 0), shW G (b 1) (R 1), shW G (b 2) (R 2), shW G (b 3) (R 3), shW G (b 4) (R 4), shW G (b 5) (R 5)] s.heap := hP
  refine lv_aload_n hx hb dX3_pass_0 rfl (lv_at hl 0 rfl) ?_
  refine va_get (D := G.1) (ci := 3) (v := .ref (h 0)) (C := RX3) (T := TX3) (N := 8) hx hb hts hinX3 hown hK.1 hP 0 rfl rfl 3 (by decide) (hts (.fieldLink RX3 25 "ParcelShelves" "history" "LParcelShelves$History;") (by decide +kernel)) (fun _ h9 => h9) rfl dX3_pass_1 ?_
  refine lv_aload_n hx hb dX3_pass_4 rfl (lv_at hl 0 rfl) ?_
  refine va_get (D := G.1) (ci := 3) (v := .ref (a 0)) (C := RX3) (T := TX3) (N := 8) hx hb hts hinX3 hown hK.1 hP 0 rfl rfl 0 (by decide) (hts (.fieldLink RX3 12 "ParcelShelves" "now" "LParcelShelves$Shop;") (by decide +kernel)) (fun _ h9 => h9) rfl dX3_pass_5 ?_
  refine kz_mvV (As := [.ref (a 0)]) (rest := []) (b := h 0) (wr := [xoW x (a 0) u1 u2 (h 0) u4 V]) (bs' := [xoW x (a 0) u1 u2 (h 0) u4 V, shW G a S, hsW G h (fun j => b j 0) Y, shW G (b 0) ((X0_prepare_R Y R S) 0), shW G (b 1) ((X0_prepare_R Y R S) 1), shW G (b 2) ((X0_prepare_R Y R S) 2), shW G (b 3) ((X0_prepare_R Y R S) 3), shW G (b 4) ((X0_prepare_R Y R S) 4), shW G (b 5) ((X0_prepare_R Y R S) 5)]) ⟨hx, hb, hml, hown, hts⟩ (c_X0_prepare l G h Y b R a S (by assumption) (by assumption)) (cwV 1 hts gX3_pass_X0_prepare rfl rfl rfl (by decide +kernel) ⟨Nat.le_of_ble_eq_true rfl, Nat.le_of_ble_eq_true rfl⟩) hK hP hD hS hA [2, 3, 4, 5, 6, 7, 8, 1] [0] [0, 8, 1, 2, 3, 4, 5, 6, 7] rfl (by decide) rfl (by decide) (by decide) rfl (by decide) (kz_recv hK hP (ci := 0) (q0 := 12) rfl rfl) rfl hl.1 rfl (Nat.le_of_ble_eq_true rfl) dX3_pass_8 ⟨Nat.le_of_ble_eq_true rfl, Nat.le_of_ble_eq_true rfl⟩ (fun H locs hP hD hS => ?_)
  refine lv_aload_n hx hb dX3_pass_11 rfl (lv_at hl 0 rfl) ?_
  refine lv_aload_n hx hb dX3_pass_12 rfl (lv_at hl 0 rfl) ?_
  refine lv_iload_n hx hb dX3_pass_13 rfl (lv_at hl 1 rfl) ?_
  refine kz_miV (As := [.int d]) (rest := [.ref x]) (b := x) (wr := [hsW G h (fun j => b j 0) Y, shW G (b 0) ((X0_prepare_R Y R S) 0), shW G (b 1) ((X0_prepare_R Y R S) 1), shW G (b 2) ((X0_prepare_R Y R S) 2), shW G (b 3) ((X0_prepare_R Y R S) 3), shW G (b 4) ((X0_prepare_R Y R S) 4), shW G (b 5) ((X0_prepare_R Y R S) 5)]) (bs' := [xoW x (a 0) u1 u2 (h 0) u4 V, shW G a (X3_letPass_s S d), hsW G h (fun j => b j 0) Y, shW G (b 0) ((X0_prepare_R Y R S) 0), shW G (b 1) ((X0_prepare_R Y R S) 1), shW G (b 2) ((X0_prepare_R Y R S) 2), shW G (b 3) ((X0_prepare_R Y R S) 3), shW G (b 4) ((X0_prepare_R Y R S) 4), shW G (b 5) ((X0_prepare_R Y R S) 5)]) ⟨hx, hb, hml, hown, hts⟩ (c_X3_letPass l G x u1 u2 (h 0) u4 V a S d (by assumption)) (cwV 1 hts gX3_pass_X3_letPass rfl rfl rfl (by decide +kernel) ⟨Nat.le_of_ble_eq_true rfl, Nat.le_of_ble_eq_true rfl⟩) hK hP hD hS hA [0, 1] [2, 3, 4, 5, 6, 7, 8] [7, 8, 0, 1, 2, 3, 4, 5, 6] rfl (by decide) rfl (by decide) (by decide) rfl (by decide) (kz_recv hK hP (ci := 3) (q0 := 0) rfl rfl) rfl hl.1 rfl (Nat.le_of_ble_eq_true rfl) dX3_pass_14 ⟨Nat.le_of_ble_eq_true rfl, Nat.le_of_ble_eq_true rfl⟩ (fun H locs hP hD hS => ?_)
  refine kz_miV (As := [.int (X3_letPass_r S d)]) (rest := []) (b := x) (wr := [shW G a (X3_letPass_s S d), shW G (b 0) ((X0_prepare_R Y R S) 0), shW G (b 1) ((X0_prepare_R Y R S) 1), shW G (b 2) ((X0_prepare_R Y R S) 2), shW G (b 3) ((X0_prepare_R Y R S) 3), shW G (b 4) ((X0_prepare_R Y R S) 4), shW G (b 5) ((X0_prepare_R Y R S) 5)]) (bs' := [xoW x (a 0) u1 u2 (h 0) u4 V, shW G a (X3_letPass_s S d), hsW G h (fun j => b j 0) (X3_recorded_s V Y (X3_letPass_r S d)), shW G (b 0) ((X0_prepare_R Y R S) 0), shW G (b 1) ((X0_prepare_R Y R S) 1), shW G (b 2) ((X0_prepare_R Y R S) 2), shW G (b 3) ((X0_prepare_R Y R S) 3), shW G (b 4) ((X0_prepare_R Y R S) 4), shW G (b 5) ((X0_prepare_R Y R S) 5)]) ⟨hx, hb, hml, hown, hts⟩ (c_X3_recorded l G x (a 0) u1 u2 u4 V h (fun j => b j 0) Y (X3_letPass_r S d)) (cwV 1 hts gX3_pass_X3_recorded rfl rfl rfl (by decide +kernel) ⟨Nat.le_of_ble_eq_true rfl, Nat.le_of_ble_eq_true rfl⟩) hK hP hD hS hA [0, 2] [1, 3, 4, 5, 6, 7, 8] [7, 0, 8, 1, 2, 3, 4, 5, 6] rfl (by decide) rfl (by decide) (by decide) rfl (by decide) (kz_recv hK hP (ci := 3) (q0 := 0) rfl rfl) rfl hl.1 rfl (Nat.le_of_ble_eq_true rfl) dX3_pass_17 ⟨Nat.le_of_ble_eq_true rfl, Nat.le_of_ble_eq_true rfl⟩ (fun H locs hP hD hS => ?_)
  subst hQ
  have hP9 : kz_P G [xoW x (a 0) u1 u2 (h 0) u4 V, shW G a (X3_pass_s1 V S Y R d), hsW G h (fun j => b j 0) (X3_pass_s2 V S Y R d), shW G (b 0) ((X3_pass_s3 V S Y R d) 0), shW G (b 1) ((X3_pass_s3 V S Y R d) 1), shW G (b 2) ((X3_pass_s3 V S Y R d) 2), shW G (b 3) ((X3_pass_s3 V S Y R d) 3), shW G (b 4) ((X3_pass_s3 V S Y R d) 4), shW G (b 5) ((X3_pass_s3 V S Y R d) 5)] H := hP
  have hD9 : kz_D A [xoW x (a 0) u1 u2 (h 0) u4 V, shW G a (X3_pass_s1 V S Y R d), hsW G h (fun j => b j 0) (X3_pass_s2 V S Y R d), shW G (b 0) ((X3_pass_s3 V S Y R d) 0), shW G (b 1) ((X3_pass_s3 V S Y R d) 1), shW G (b 2) ((X3_pass_s3 V S Y R d) 2), shW G (b 3) ((X3_pass_s3 V S Y R d) 3), shW G (b 4) ((X3_pass_s3 V S Y R d) 4), shW G (b 5) ((X3_pass_s3 V S Y R d) 5)] := hD
  exact W.iret (v := (X3_letPass_r S d)) hx hb hr (fun t ht hW => ⟨⟨(X3_letPass_r S d), (), rfl, rfl, by rw [ht]; exact hP9, hD9⟩, hS.F ht⟩) hS.2.2 dX3_pass_20
def X3_call_r (V : kz_S) (S : kz_S) (Y : kz_S) (R : Nat → kz_S) (q : Int32) : Int32 := (X3_callCourier_r V S q)
def X3_call_s1 (V : kz_S) (S : kz_S) (Y : kz_S) (R : Nat → kz_S) (q : Int32) : kz_S := (X3_callCourier_s V S q)
def X3_call_s2 (V : kz_S) (S : kz_S) (Y : kz_S) (R : Nat → kz_S) (q : Int32) : kz_S := (X3_recorded_s V Y (X3_callCourier_r V S q))
def X3_call_s3 (V : kz_S) (S : kz_S) (Y : kz_S) (R : Nat → kz_S) (q : Int32) : Nat → kz_S := (X0_prepare_R Y R S)
set_option maxHeartbeats 4000000 in
set_option maxRecDepth 100000 in
theorem c_X3_call (l : Launch) (G : kz_G) (x : Nat) (u1 : Nat) (u2 : Nat) (u4 : Nat) (V : kz_S) (a : Nat → Nat) (S : kz_S) (h : Nat → Nat) (Y : kz_S) (b : Nat → Nat → Nat) (R : Nat → kz_S) (q : Int32) (hO : ∃ o, o < 6 ∧ Y 1 0 = nI o) (hC : ∃ c, c ≤ 5 ∧ Y 2 0 = nI c) : kz_mi l G yX3_call wsX3_call 3 68 [.ref x, .int q] [xoW x (a 0) u1 u2 (h 0) u4 V, shW G a S, hsW G h (fun j => b j 0) Y, shW G (b 0) (R 0), shW G (b 1) (R 1), shW G (b 2) (R 2), shW G (b 3) (R 3), shW G (b 4) (R 4), shW G (b 5) (R 5)] [xoW x (a 0) u1 u2 (h 0) u4 V, shW G a (X3_call_s1 V S Y R q), hsW G h (fun j => b j 0) (X3_call_s2 V S Y R q), shW G (b 0) ((X3_call_s3 V S Y R q) 0), shW G (b 1) ((X3_call_s3 V S Y R q) 1), shW G (b 2) ((X3_call_s3 V S Y R q) 2), shW G (b 3) ((X3_call_s3 V S Y R q) 3), shW G (b 4) ((X3_call_s3 V S Y R q) 4), shW G (b 5) ((X3_call_s3 V S Y R q) 5)] (X3_call_r V S Y R q) := by
  intro sz
  refine Met.ofW (cc := cX3_call) (maxL := 2) (ret := (some .int)) (by decide) rfl ?_
  intro p e s m args below meth c s₁ B hml hv
  obtain ⟨rfl, hsz, hP, hK, hD0⟩ := hv
  have hx := B.exec
  have hb := B.bytes
  have hr := B.returns
  have hts := atoms_spec (ws := wsX3_call) B.pre
  have hown : s.vm.findClass RX3 = some m.cls := findClass_of_methodNamed B.named
  have hlocks := B.notSynchronized
  have hinX3 : ∀ w ∈ u_ws RX3 TX3 8, w ∈ wsX3_call := by decide +kernel
  subst hsz
  have hD := hD0.self (sz := s.heap.size)
  generalize hAe : kz_A [xoW x (a 0) u1 u2 (h 0) u4 V, shW G a S, hsW G h (fun j => b j 0) Y, shW G (b 0) (R 0), shW G (b 1) (R 1), shW G (b 2) (R 2), shW G (b 3) (R 3), shW G (b 4) (R 4), shW G (b 5) (R 5)] s.heap.size = A at hD ⊢
  have hA : ∀ q : Nat, s.heap.size ≤ q → A q := fun q h => by rw [← hAe]; exact Or.inr h
  have hS : va_S A s.heap s.heap [] := va_S.rf
  have hl := lv_entry ([.ref x, .int q]) (n := 2) (Nat.le_of_ble_eq_true rfl)
  rw [lg_entry_eq]
  generalize (lg_sl ([.ref x, .int q]) ++ List.replicate (2 - (lg_sl ([.ref x, .int q])).length) Slot.unset).toArray = ls at hl ⊢
  have hl : lv_has ls 2 [(0, .ref x), (1, .int q)] := hl
  refine kz_start (fun QQ hQ => ?_)
  have hP : kz_P G [xoW x (a 0) u1 u2 (h 0) u4 V, shW G a S, hsW G h (fun j => b j 0) Y, shW G (b 0) (R 0), shW G (b 1) (R 1), shW G (b 2) (R 2), shW G (b 3) (R 3), shW G (b 4) (R 4), shW G (b 5) (R 5)] s.heap := hP
  refine lv_aload_n hx hb dX3_call_0 rfl (lv_at hl 0 rfl) ?_
  refine va_get (D := G.1) (ci := 3) (v := .ref (h 0)) (C := RX3) (T := TX3) (N := 8) hx hb hts hinX3 hown hK.1 hP 0 rfl rfl 3 (by decide) (hts (.fieldLink RX3 25 "ParcelShelves" "history" "LParcelShelves$History;") (by decide +kernel)) (fun _ h9 => h9) rfl dX3_call_1 ?_
  refine lv_aload_n hx hb dX3_call_4 rfl (lv_at hl 0 rfl) ?_
  refine va_get (D := G.1) (ci := 3) (v := .ref (a 0)) (C := RX3) (T := TX3) (N := 8) hx hb hts hinX3 hown hK.1 hP 0 rfl rfl 0 (by decide) (hts (.fieldLink RX3 12 "ParcelShelves" "now" "LParcelShelves$Shop;") (by decide +kernel)) (fun _ h9 => h9) rfl dX3_call_5 ?_
  refine kz_mvV (As := [.ref (a 0)]) (rest := []) (b := h 0) (wr := [xoW x (a 0) u1 u2 (h 0) u4 V]) (bs' := [xoW x (a 0) u1 u2 (h 0) u4 V, shW G a S, hsW G h (fun j => b j 0) Y, shW G (b 0) ((X0_prepare_R Y R S) 0), shW G (b 1) ((X0_prepare_R Y R S) 1), shW G (b 2) ((X0_prepare_R Y R S) 2), shW G (b 3) ((X0_prepare_R Y R S) 3), shW G (b 4) ((X0_prepare_R Y R S) 4), shW G (b 5) ((X0_prepare_R Y R S) 5)]) ⟨hx, hb, hml, hown, hts⟩ (c_X0_prepare l G h Y b R a S (by assumption) (by assumption)) (cwV 1 hts gX3_call_X0_prepare rfl rfl rfl (by decide +kernel) ⟨Nat.le_of_ble_eq_true rfl, Nat.le_of_ble_eq_true rfl⟩) hK hP hD hS hA [2, 3, 4, 5, 6, 7, 8, 1] [0] [0, 8, 1, 2, 3, 4, 5, 6, 7] rfl (by decide) rfl (by decide) (by decide) rfl (by decide) (kz_recv hK hP (ci := 0) (q0 := 12) rfl rfl) rfl hl.1 rfl (Nat.le_of_ble_eq_true rfl) dX3_call_8 ⟨Nat.le_of_ble_eq_true rfl, Nat.le_of_ble_eq_true rfl⟩ (fun H locs hP hD hS => ?_)
  refine lv_aload_n hx hb dX3_call_11 rfl (lv_at hl 0 rfl) ?_
  refine lv_aload_n hx hb dX3_call_12 rfl (lv_at hl 0 rfl) ?_
  refine lv_iload_n hx hb dX3_call_13 rfl (lv_at hl 1 rfl) ?_
  refine kz_miV (As := [.int q]) (rest := [.ref x]) (b := x) (wr := [hsW G h (fun j => b j 0) Y, shW G (b 0) ((X0_prepare_R Y R S) 0), shW G (b 1) ((X0_prepare_R Y R S) 1), shW G (b 2) ((X0_prepare_R Y R S) 2), shW G (b 3) ((X0_prepare_R Y R S) 3), shW G (b 4) ((X0_prepare_R Y R S) 4), shW G (b 5) ((X0_prepare_R Y R S) 5)]) (bs' := [xoW x (a 0) u1 u2 (h 0) u4 V, shW G a (X3_callCourier_s V S q), hsW G h (fun j => b j 0) Y, shW G (b 0) ((X0_prepare_R Y R S) 0), shW G (b 1) ((X0_prepare_R Y R S) 1), shW G (b 2) ((X0_prepare_R Y R S) 2), shW G (b 3) ((X0_prepare_R Y R S) 3), shW G (b 4) ((X0_prepare_R Y R S) 4), shW G (b 5) ((X0_prepare_R Y R S) 5)]) ⟨hx, hb, hml, hown, hts⟩ (c_X3_callCourier l G x u1 u2 (h 0) u4 V a S q) (cwV 1 hts gX3_call_X3_callCourier rfl rfl rfl (by decide +kernel) ⟨Nat.le_of_ble_eq_true rfl, Nat.le_of_ble_eq_true rfl⟩) hK hP hD hS hA [0, 1] [2, 3, 4, 5, 6, 7, 8] [7, 8, 0, 1, 2, 3, 4, 5, 6] rfl (by decide) rfl (by decide) (by decide) rfl (by decide) (kz_recv hK hP (ci := 3) (q0 := 0) rfl rfl) rfl hl.1 rfl (Nat.le_of_ble_eq_true rfl) dX3_call_14 ⟨Nat.le_of_ble_eq_true rfl, Nat.le_of_ble_eq_true rfl⟩ (fun H locs hP hD hS => ?_)
  refine kz_miV (As := [.int (X3_callCourier_r V S q)]) (rest := []) (b := x) (wr := [shW G a (X3_callCourier_s V S q), shW G (b 0) ((X0_prepare_R Y R S) 0), shW G (b 1) ((X0_prepare_R Y R S) 1), shW G (b 2) ((X0_prepare_R Y R S) 2), shW G (b 3) ((X0_prepare_R Y R S) 3), shW G (b 4) ((X0_prepare_R Y R S) 4), shW G (b 5) ((X0_prepare_R Y R S) 5)]) (bs' := [xoW x (a 0) u1 u2 (h 0) u4 V, shW G a (X3_callCourier_s V S q), hsW G h (fun j => b j 0) (X3_recorded_s V Y (X3_callCourier_r V S q)), shW G (b 0) ((X0_prepare_R Y R S) 0), shW G (b 1) ((X0_prepare_R Y R S) 1), shW G (b 2) ((X0_prepare_R Y R S) 2), shW G (b 3) ((X0_prepare_R Y R S) 3), shW G (b 4) ((X0_prepare_R Y R S) 4), shW G (b 5) ((X0_prepare_R Y R S) 5)]) ⟨hx, hb, hml, hown, hts⟩ (c_X3_recorded l G x (a 0) u1 u2 u4 V h (fun j => b j 0) Y (X3_callCourier_r V S q)) (cwV 1 hts gX3_call_X3_recorded rfl rfl rfl (by decide +kernel) ⟨Nat.le_of_ble_eq_true rfl, Nat.le_of_ble_eq_true rfl⟩) hK hP hD hS hA [0, 2] [1, 3, 4, 5, 6, 7, 8] [7, 0, 8, 1, 2, 3, 4, 5, 6] rfl (by decide) rfl (by decide) (by decide) rfl (by decide) (kz_recv hK hP (ci := 3) (q0 := 0) rfl rfl) rfl hl.1 rfl (Nat.le_of_ble_eq_true rfl) dX3_call_17 ⟨Nat.le_of_ble_eq_true rfl, Nat.le_of_ble_eq_true rfl⟩ (fun H locs hP hD hS => ?_)
  subst hQ
  have hP9 : kz_P G [xoW x (a 0) u1 u2 (h 0) u4 V, shW G a (X3_call_s1 V S Y R q), hsW G h (fun j => b j 0) (X3_call_s2 V S Y R q), shW G (b 0) ((X3_call_s3 V S Y R q) 0), shW G (b 1) ((X3_call_s3 V S Y R q) 1), shW G (b 2) ((X3_call_s3 V S Y R q) 2), shW G (b 3) ((X3_call_s3 V S Y R q) 3), shW G (b 4) ((X3_call_s3 V S Y R q) 4), shW G (b 5) ((X3_call_s3 V S Y R q) 5)] H := hP
  have hD9 : kz_D A [xoW x (a 0) u1 u2 (h 0) u4 V, shW G a (X3_call_s1 V S Y R q), hsW G h (fun j => b j 0) (X3_call_s2 V S Y R q), shW G (b 0) ((X3_call_s3 V S Y R q) 0), shW G (b 1) ((X3_call_s3 V S Y R q) 1), shW G (b 2) ((X3_call_s3 V S Y R q) 2), shW G (b 3) ((X3_call_s3 V S Y R q) 3), shW G (b 4) ((X3_call_s3 V S Y R q) 4), shW G (b 5) ((X3_call_s3 V S Y R q) 5)] := hD
  exact W.iret (v := (X3_callCourier_r V S q)) hx hb hr (fun t ht hW => ⟨⟨(X3_callCourier_r V S q), (), rfl, rfl, by rw [ht]; exact hP9, hD9⟩, hS.F ht⟩) hS.2.2 dX3_call_20
