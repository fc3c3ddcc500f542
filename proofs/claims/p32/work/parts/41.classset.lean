def X3_set_r (V : kz_S) (S : kz_S) (Y : kz_S) (R : Nat → kz_S) (k : Int32) (v : Int32) : Int32 := (X3_changeSetting_r V S k v)
def X3_set_s1 (V : kz_S) (S : kz_S) (Y : kz_S) (R : Nat → kz_S) (k : Int32) (v : Int32) : kz_S := (X3_changeSetting_s V S k v)
def X3_set_s2 (V : kz_S) (S : kz_S) (Y : kz_S) (R : Nat → kz_S) (k : Int32) (v : Int32) : kz_S := (X3_recorded_s V Y (X3_changeSetting_r V S k v))
def X3_set_s3 (V : kz_S) (S : kz_S) (Y : kz_S) (R : Nat → kz_S) (k : Int32) (v : Int32) : Nat → kz_S := (X0_prepare_R Y R S)
set_option maxHeartbeats 4000000 in
set_option maxRecDepth 100000 in
theorem c_X3_set (l : Launch) (G : kz_G) (x : Nat) (u1 : Nat) (u2 : Nat) (u4 : Nat) (V : kz_S) (a : Nat → Nat) (S : kz_S) (h : Nat → Nat) (Y : kz_S) (b : Nat → Nat → Nat) (R : Nat → kz_S) (k : Int32) (v : Int32) (hO : ∃ o, o < 6 ∧ Y 1 0 = nI o) (hC : ∃ c, c ≤ 5 ∧ Y 2 0 = nI c) : kz_mz l G yX3_set wsX3_set 3 68 [.ref x, .int k, .int v] [xoW x (a 0) u1 u2 (h 0) u4 V, shW G a S, hsW G h (fun j => b j 0) Y, shW G (b 0) (R 0), shW G (b 1) (R 1), shW G (b 2) (R 2), shW G (b 3) (R 3), shW G (b 4) (R 4), shW G (b 5) (R 5)] [xoW x (a 0) u1 u2 (h 0) u4 V, shW G a (X3_set_s1 V S Y R k v), hsW G h (fun j => b j 0) (X3_set_s2 V S Y R k v), shW G (b 0) ((X3_set_s3 V S Y R k v) 0), shW G (b 1) ((X3_set_s3 V S Y R k v) 1), shW G (b 2) ((X3_set_s3 V S Y R k v) 2), shW G (b 3) ((X3_set_s3 V S Y R k v) 3), shW G (b 4) ((X3_set_s3 V S Y R k v) 4), shW G (b 5) ((X3_set_s3 V S Y R k v) 5)] (X3_set_r V S Y R k v) := by
  intro sz
  refine Met.ofW (cc := cX3_set) (maxL := 3) (ret := (some .int)) (by decide) rfl ?_
  intro p e s m args below meth c s₁ B hml hv
  obtain ⟨rfl, hsz, hP, hK, hD0, hZ0⟩ := hv
  have hx := B.exec
  have hb := B.bytes
  have hr := B.returns
  have hts := atoms_spec (ws := wsX3_set) B.pre
  have hown : s.vm.findClass RX3 = some m.cls := findClass_of_methodNamed B.named
  have hlocks := B.notSynchronized
  have hinX3 : ∀ w ∈ u_ws RX3 TX3 8, w ∈ wsX3_set := by decide +kernel
  subst hsz
  have hD := hD0.self (sz := s.heap.size)
  generalize hAe : kz_A [xoW x (a 0) u1 u2 (h 0) u4 V, shW G a S, hsW G h (fun j => b j 0) Y, shW G (b 0) (R 0), shW G (b 1) (R 1), shW G (b 2) (R 2), shW G (b 3) (R 3), shW G (b 4) (R 4), shW G (b 5) (R 5)] s.heap.size = A at hD hZ0 ⊢
  have hA : ∀ q : Nat, s.heap.size ≤ q → A q := fun q h => by rw [← hAe]; exact Or.inr h
  have hS : va_S A s.heap s.heap [] := va_S.rf
  obtain ⟨⟨t1, hz1, hT1⟩, ⟨t2, hz2, hT2⟩, ⟨t3, hz3, hX3, hA3⟩⟩ := id hZ0
  have hl := lv_entry ([.ref x, .int k, .int v]) (n := 3) (Nat.le_of_ble_eq_true rfl)
  rw [lg_entry_eq]
  generalize (lg_sl ([.ref x, .int k, .int v]) ++ List.replicate (3 - (lg_sl ([.ref x, .int k, .int v])).length) Slot.unset).toArray = ls at hl ⊢
  have hl : lv_has ls 3 [(0, .ref x), (1, .int k), (2, .int v)] := hl
  refine kz_start (fun QQ hQ => ?_)
  have hP : kz_P G [xoW x (a 0) u1 u2 (h 0) u4 V, shW G a S, hsW G h (fun j => b j 0) Y, shW G (b 0) (R 0), shW G (b 1) (R 1), shW G (b 2) (R 2), shW G (b 3) (R 3), shW G (b 4) (R 4), shW G (b 5) (R 5)] s.heap := hP
  refine lv_aload_n hx hb dX3_set_0 rfl (lv_at hl 0 rfl) ?_
  refine va_get (D := G.1) (ci := 3) (v := .ref (h 0)) (C := RX3) (T := TX3) (N := 8) hx hb hts hinX3 hown hK.1 hP 0 rfl rfl 3 (by decide) (hts (.fieldLink RX3 25 "ParcelShelves" "history" "LParcelShelves$History;") (by decide +kernel)) (fun _ h9 => h9) rfl dX3_set_1 ?_
  refine lv_aload_n hx hb dX3_set_4 rfl (lv_at hl 0 rfl) ?_
  refine va_get (D := G.1) (ci := 3) (v := .ref (a 0)) (C := RX3) (T := TX3) (N := 8) hx hb hts hinX3 hown hK.1 hP 0 rfl rfl 0 (by decide) (hts (.fieldLink RX3 12 "ParcelShelves" "now" "LParcelShelves$Shop;") (by decide +kernel)) (fun _ h9 => h9) rfl dX3_set_5 ?_
  refine kz_mvV (As := [.ref (a 0)]) (rest := []) (b := h 0) (wr := [xoW x (a 0) u1 u2 (h 0) u4 V]) (bs' := [xoW x (a 0) u1 u2 (h 0) u4 V, shW G a S, hsW G h (fun j => b j 0) Y, shW G (b 0) ((X0_prepare_R Y R S) 0), shW G (b 1) ((X0_prepare_R Y R S) 1), shW G (b 2) ((X0_prepare_R Y R S) 2), shW G (b 3) ((X0_prepare_R Y R S) 3), shW G (b 4) ((X0_prepare_R Y R S) 4), shW G (b 5) ((X0_prepare_R Y R S) 5)]) ⟨hx, hb, hml, hown, hts⟩ (c_X0_prepare l G h Y b R a S (by assumption) (by assumption)) (cwV 1 hts gX3_set_X0_prepare rfl rfl rfl (by decide +kernel) ⟨Nat.le_of_ble_eq_true rfl, Nat.le_of_ble_eq_true rfl⟩) hK hP hD hS hA [2, 3, 4, 5, 6, 7, 8, 1] [0] [0, 8, 1, 2, 3, 4, 5, 6, 7] rfl (by decide) rfl (by decide) (by decide) rfl (by decide) (kz_recv hK hP (ci := 0) (q0 := 12) rfl rfl) rfl hl.1 rfl (Nat.le_of_ble_eq_true rfl) dX3_set_8 ⟨Nat.le_of_ble_eq_true rfl, Nat.le_of_ble_eq_true rfl⟩ (fun H locs hP hD hS => ?_)
  refine lv_aload_n hx hb dX3_set_11 rfl (lv_at hl 0 rfl) ?_
  refine lv_aload_n hx hb dX3_set_12 rfl (lv_at hl 0 rfl) ?_
  refine lv_iload_n hx hb dX3_set_13 rfl (lv_at hl 1 rfl) ?_
  refine lv_iload_n hx hb dX3_set_14 rfl (lv_at hl 2 rfl) ?_
  refine kz_mzV (As := [.int k, .int v]) (rest := [.ref x]) (b := x) (wr := [hsW G h (fun j => b j 0) Y, shW G (b 0) ((X0_prepare_R Y R S) 0), shW G (b 1) ((X0_prepare_R Y R S) 1), shW G (b 2) ((X0_prepare_R Y R S) 2), shW G (b 3) ((X0_prepare_R Y R S) 3), shW G (b 4) ((X0_prepare_R Y R S) 4), shW G (b 5) ((X0_prepare_R Y R S) 5)]) (bs' := [xoW x (a 0) u1 u2 (h 0) u4 V, shW G a (X3_changeSetting_s V S k v), hsW G h (fun j => b j 0) Y, shW G (b 0) ((X0_prepare_R Y R S) 0), shW G (b 1) ((X0_prepare_R Y R S) 1), shW G (b 2) ((X0_prepare_R Y R S) 2), shW G (b 3) ((X0_prepare_R Y R S) 3), shW G (b 4) ((X0_prepare_R Y R S) 4), shW G (b 5) ((X0_prepare_R Y R S) 5)]) ⟨hx, hb, hml, hown, hts⟩ (c_X3_changeSetting l G x u1 u2 (h 0) u4 V a S k v) (cwV 2 hts gX3_set_X3_changeSetting rfl rfl rfl (by decide +kernel) ⟨Nat.le_of_ble_eq_true rfl, Nat.le_of_ble_eq_true rfl⟩) hK hP hD hS hA hZ0 [0, 1] [2, 3, 4, 5, 6, 7, 8] [7, 8, 0, 1, 2, 3, 4, 5, 6] rfl (by decide) rfl (by decide) (by decide) rfl (by decide) (kz_recv hK hP (ci := 3) (q0 := 0) rfl rfl) rfl hl.1 rfl (Nat.le_of_ble_eq_true rfl) dX3_set_15 ⟨Nat.le_of_ble_eq_true rfl, Nat.le_of_ble_eq_true rfl⟩ (fun H locs hP hD hS => ?_)
  refine kz_miV (As := [.int (X3_changeSetting_r V S k v)]) (rest := []) (b := x) (wr := [shW G a (X3_changeSetting_s V S k v), shW G (b 0) ((X0_prepare_R Y R S) 0), shW G (b 1) ((X0_prepare_R Y R S) 1), shW G (b 2) ((X0_prepare_R Y R S) 2), shW G (b 3) ((X0_prepare_R Y R S) 3), shW G (b 4) ((X0_prepare_R Y R S) 4), shW G (b 5) ((X0_prepare_R Y R S) 5)]) (bs' := [xoW x (a 0) u1 u2 (h 0) u4 V, shW G a (X3_changeSetting_s V S k v), hsW G h (fun j => b j 0) (X3_recorded_s V Y (X3_changeSetting_r V S k v)), shW G (b 0) ((X0_prepare_R Y R S) 0), shW G (b 1) ((X0_prepare_R Y R S) 1), shW G (b 2) ((X0_prepare_R Y R S) 2), shW G (b 3) ((X0_prepare_R Y R S) 3), shW G (b 4) ((X0_prepare_R Y R S) 4), shW G (b 5) ((X0_prepare_R Y R S) 5)]) ⟨hx, hb, hml, hown, hts⟩ (c_X3_recorded l G x (a 0) u1 u2 u4 V h (fun j => b j 0) Y (X3_changeSetting_r V S k v)) (cwV 1 hts gX3_set_X3_recorded rfl rfl rfl (by decide +kernel) ⟨Nat.le_of_ble_eq_true rfl, Nat.le_of_ble_eq_true rfl⟩) hK hP hD hS hA [0, 2] [1, 3, 4, 5, 6, 7, 8] [7, 0, 8, 1, 2, 3, 4, 5, 6] rfl (by decide) rfl (by decide) (by decide) rfl (by decide) (kz_recv hK hP (ci := 3) (q0 := 0) rfl rfl) rfl hl.1 rfl (Nat.le_of_ble_eq_true rfl) dX3_set_18 ⟨Nat.le_of_ble_eq_true rfl, Nat.le_of_ble_eq_true rfl⟩ (fun H locs hP hD hS => ?_)
  subst hQ
  have hP9 : kz_P G [xoW x (a 0) u1 u2 (h 0) u4 V, shW G a (X3_set_s1 V S Y R k v), hsW G h (fun j => b j 0) (X3_set_s2 V S Y R k v), shW G (b 0) ((X3_set_s3 V S Y R k v) 0), shW G (b 1) ((X3_set_s3 V S Y R k v) 1), shW G (b 2) ((X3_set_s3 V S Y R k v) 2), shW G (b 3) ((X3_set_s3 V S Y R k v) 3), shW G (b 4) ((X3_set_s3 V S Y R k v) 4), shW G (b 5) ((X3_set_s3 V S Y R k v) 5)] H := hP
  have hD9 : kz_D A [xoW x (a 0) u1 u2 (h 0) u4 V, shW G a (X3_set_s1 V S Y R k v), hsW G h (fun j => b j 0) (X3_set_s2 V S Y R k v), shW G (b 0) ((X3_set_s3 V S Y R k v) 0), shW G (b 1) ((X3_set_s3 V S Y R k v) 1), shW G (b 2) ((X3_set_s3 V S Y R k v) 2), shW G (b 3) ((X3_set_s3 V S Y R k v) 3), shW G (b 4) ((X3_set_s3 V S Y R k v) 4), shW G (b 5) ((X3_set_s3 V S Y R k v) 5)] := hD
  exact W.iret (v := (X3_changeSetting_r V S k v)) hx hb hr (fun t ht hW => ⟨⟨(X3_changeSetting_r V S k v), (), rfl, rfl, by rw [ht]; exact hP9, hD9⟩, hS.F ht⟩) hS.2.2 dX3_set_21
