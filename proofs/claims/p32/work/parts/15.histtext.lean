theorem kz_narC {n : Nat} (h : n < 65536) : vp_nar .char (nI n) = nI n := by
  unfold vp_nar
  rw [(pk_charN h).1]
theorem kz_lenIn {x : Int32} (h : ∃ n, n ≤ 80 ∧ x = nI n) (c : ¬ 80 ≤ x) : vp_in x 80 := by
  obtain ⟨n, hn, rfl⟩ := h
  exact vp_in_nI (kz_gt (a := 80) (b := n) c (by omega) (by omega)) (by decide)
theorem kz_sgIn {T : kz_S} {x : Int32} (h : ∃ n, n ≤ 80 ∧ T 1 0 = nI n) (c : X3_isWithin_p x 0 (T 1 0 - 1)) : vp_in x 80 := by
  obtain ⟨n, hn, e⟩ := h
  obtain ⟨j, hj, rfl⟩ := nI_of c.1
  have c2 := c.2
  rw [e] at c2
  cases n with
  | zero => exact absurd (show nI 0 - 1 < nI j from Int32.lt_iff_toInt_lt.mpr (by rw [nI_toInt hj]; show (-1 : Int) < j; omega)) c2
  | succ m =>
    rw [nI_pred] at c2
    have h3 := kz_ge (a := m) (b := j) c2 (by omega) hj
    exact vp_in_nI (by omega) (by decide)
theorem kz_sgC {T : kz_S} {x : Int32} (hch : ∀ k, k < 80 → ∃ c, c < 128 ∧ T 0 k = nI c) (h : vp_in x 80) : narrow .char (.int (T 0 x.toNatClampNeg)) = .int (T 0 x.toNatClampNeg) := by
  obtain ⟨j, hj, rfl⟩ := vp_in_of h (by decide)
  rw [nI_clamp (by omega)]
  obtain ⟨q, hq, e⟩ := hch j hj
  rw [e]
  exact (pk_charN (by omega)).1

def kz_top (Y : kz_S) : Nat := (kz_rem (Y 1 0 + Y 2 0) 6).toNatClampNeg
def X0_prepare_R (Y : kz_S) (R : Nat → kz_S) (S : kz_S) : Nat → kz_S := va_up R (kz_top Y) S
set_option maxHeartbeats 4000000 in
set_option maxRecDepth 100000 in
theorem c_X0_prepare (l : Launch) (G : kz_G) (h : Nat → Nat) (Y : kz_S) (b : Nat → Nat → Nat) (R : Nat → kz_S) (a : Nat → Nat) (S : kz_S) (hO : ∃ o, o < 6 ∧ Y 1 0 = nI o) (hC : ∃ c, c ≤ 5 ∧ Y 2 0 = nI c) : kz_mv l G yX0_prepare wsX0_prepare 2 47 [.ref (h 0), .ref (a 0)] [hsW G h (fun j => b j 0) Y, shW G (b 0) (R 0), shW G (b 1) (R 1), shW G (b 2) (R 2), shW G (b 3) (R 3), shW G (b 4) (R 4), shW G (b 5) (R 5), shW G a S] [hsW G h (fun j => b j 0) Y, shW G (b 0) ((X0_prepare_R Y R S) 0), shW G (b 1) ((X0_prepare_R Y R S) 1), shW G (b 2) ((X0_prepare_R Y R S) 2), shW G (b 3) ((X0_prepare_R Y R S) 3), shW G (b 4) ((X0_prepare_R Y R S) 4), shW G (b 5) ((X0_prepare_R Y R S) 5), shW G a S] := by
  intro sz
  refine Met.ofW (cc := cX0_prepare) (maxL := 2) (ret := none) (by decide) rfl ?_
  intro p e s m args below meth c s₁ B hml hv
  obtain ⟨rfl, hsz, hP, hK, hD0⟩ := hv
  have hx := B.exec
  have hb := B.bytes
  have hr := B.returns
  have hts := atoms_spec (ws := wsX0_prepare) B.pre
  have hown : s.vm.findClass RX0 = some m.cls := findClass_of_methodNamed B.named
  have hlocks := B.notSynchronized
  have hinX0 : ∀ w ∈ u_ws RX0 TX0 3, w ∈ wsX0_prepare := by decide +kernel
  subst hsz
  have hD := hD0.self (sz := s.heap.size)
  generalize hAe : kz_A [hsW G h (fun j => b j 0) Y, shW G (b 0) (R 0), shW G (b 1) (R 1), shW G (b 2) (R 2), shW G (b 3) (R 3), shW G (b 4) (R 4), shW G (b 5) (R 5), shW G a S] s.heap.size = A at hD ⊢
  have hA : ∀ q : Nat, s.heap.size ≤ q → A q := fun q h => by rw [← hAe]; exact Or.inr h
  have hS : va_S A s.heap s.heap [] := va_S.rf
  have hl := lv_entry ([.ref (h 0), .ref (a 0)]) (n := 2) (Nat.le_of_ble_eq_true rfl)
  rw [lg_entry_eq]
  generalize (lg_sl ([.ref (h 0), .ref (a 0)]) ++ List.replicate (2 - (lg_sl ([.ref (h 0), .ref (a 0)])).length) Slot.unset).toArray = ls at hl ⊢
  have hl : lv_has ls 2 [(0, .ref (h 0)), (1, .ref (a 0))] := hl
  refine kz_start (fun QQ hQ => ?_)
  have hP : kz_P G [hsW G h (fun j => b j 0) Y, shW G (b 0) (R 0), shW G (b 1) (R 1), shW G (b 2) (R 2), shW G (b 3) (R 3), shW G (b 4) (R 4), shW G (b 5) (R 5), shW G a S] s.heap := hP
  obtain ⟨o, ho, eo⟩ := hO
  obtain ⟨cn, hcn, ecn⟩ := hC
  have etop : kz_rem (Y 1 0 + Y 2 0) 6 = nI ((o + cn) % 6) := by rw [eo, ecn, nI_add]; exact kz_remN (d := 6) (by omega) (by omega) (by omega)
  have htop : kz_top Y = (o + cn) % 6 := by rw [kz_top, etop]; exact nI_clamp (by omega)
  refine lv_aload_n hx hb dX0_prepare_0 rfl (lv_at hl 0 rfl) ?_
  refine va_get (D := G.1) (ci := 0) (v := .ref (h 1)) (C := RX0) (T := TX0) (N := 3) hx hb hts hinX0 hown hK.1 hP 0 rfl rfl 0 (by decide) (hts (.fieldLink RX0 11 "ParcelShelves$History" "rows" "[LParcelShelves$Shop;") (by decide +kernel)) (fun _ h9 => h9) rfl dX0_prepare_1 ?_
  refine lv_aload_n hx hb dX0_prepare_4 rfl (lv_at hl 0 rfl) ?_
  refine va_get (D := G.1) (ci := 0) (v := .int (Y 1 0)) (C := RX0) (T := TX0) (N := 3) hx hb hts hinX0 hown hK.1 hP 0 rfl rfl 1 (by decide) (hts (.fieldLink RX0 16 "ParcelShelves$History" "oldest" "I") (by decide +kernel)) (fun _ h9 => h9) rfl dX0_prepare_5 ?_
  refine lv_aload_n hx hb dX0_prepare_8 rfl (lv_at hl 0 rfl) ?_
  refine va_get (D := G.1) (ci := 0) (v := .int (Y 2 0)) (C := RX0) (T := TX0) (N := 3) hx hb hts hinX0 hown hK.1 hP 0 rfl rfl 2 (by decide) (hts (.fieldLink RX0 20 "ParcelShelves$History" "count" "I") (by decide +kernel)) (fun _ h9 => h9) rfl dX0_prepare_9 ?_
  refine lv_iadd hx hb dX0_prepare_12 ?_
  refine lv_bipush (v := 6) hx hb dX0_prepare_13 (by decide +kernel) ?_
  refine lv_irem hx hb dX0_prepare_15 (by decide +kernel) ?_
  refine kz_topR ?_
  refine lv_topi (fun y_1 ey_2 => ?_)
  obtain rfl : y_1 = (nI ((o + cn) % 6)) := by rw [ey_2]; exact etop
  have hk_3 : ((o + cn) % 6) = 0 ∨ ((o + cn) % 6) = 1 ∨ ((o + cn) % 6) = 2 ∨ ((o + cn) % 6) = 3 ∨ ((o + cn) % 6) = 4 ∨ ((o + cn) % 6) = 5 := by omega
  rcases hk_3 with hk_3 | hk_3 | hk_3 | hk_3 | hk_3 | hk_3
  · rw [hk_3]
    refine va_aldq hx hb hK.1 hP 1 2 rfl rfl (vp_in_nI (n := 0) (N := 6) (by decide) (by decide)) dX0_prepare_16 ?_
    refine W.eq (g2 := F0 m 17 ls [.ref ((b 0) 0)]) rfl ?_
    refine lv_aload_n hx hb dX0_prepare_17 rfl (lv_at hl 1 rfl) ?_
    refine kz_mvV (As := [.ref (a 0)]) (rest := []) (b := (b 0) 0) (wr := [hsW G h (fun j => b j 0) Y, shW G (b 1) (R 1), shW G (b 2) (R 2), shW G (b 3) (R 3), shW G (b 4) (R 4), shW G (b 5) (R 5)]) (bs' := [hsW G h (fun j => b j 0) Y, shW G (b 0) S, shW G (b 1) (R 1), shW G (b 2) (R 2), shW G (b 3) (R 3), shW G (b 4) (R 4), shW G (b 5) (R 5), shW G a S]) ⟨hx, hb, hml, hown, hts⟩ (c_X1_copyFrom l G (b 0) (R 0) a S) (cwV 1 hts gX0_prepare_X1_copyFrom rfl rfl rfl (by decide +kernel) ⟨Nat.le_of_ble_eq_true rfl, Nat.le_of_ble_eq_true rfl⟩) hK hP hD hS hA [1, 7] [0, 2, 3, 4, 5, 6] [0, 6, 1, 2, 3, 4, 5, 7] rfl (by decide) rfl (by decide) (by decide) rfl (by decide) (kz_recv hK hP (ci := 1) (q0 := 2) rfl rfl) rfl hl.1 rfl (Nat.le_of_ble_eq_true rfl) dX0_prepare_18 ⟨Nat.le_of_ble_eq_true rfl, Nat.le_of_ble_eq_true rfl⟩ (fun H locs hP hD hS => ?_)
    subst hQ
    have hP9 : kz_P G [hsW G h (fun j => b j 0) Y, shW G (b 0) ((X0_prepare_R Y R S) 0), shW G (b 1) ((X0_prepare_R Y R S) 1), shW G (b 2) ((X0_prepare_R Y R S) 2), shW G (b 3) ((X0_prepare_R Y R S) 3), shW G (b 4) ((X0_prepare_R Y R S) 4), shW G (b 5) ((X0_prepare_R Y R S) 5), shW G a S] H := by rw [show X0_prepare_R Y R S = va_up R 0 S from by rw [X0_prepare_R, htop, hk_3]]; exact hP
    have hD9 : kz_D A [hsW G h (fun j => b j 0) Y, shW G (b 0) ((X0_prepare_R Y R S) 0), shW G (b 1) ((X0_prepare_R Y R S) 1), shW G (b 2) ((X0_prepare_R Y R S) 2), shW G (b 3) ((X0_prepare_R Y R S) 3), shW G (b 4) ((X0_prepare_R Y R S) 4), shW G (b 5) ((X0_prepare_R Y R S) 5), shW G a S] := by rw [show X0_prepare_R Y R S = va_up R 0 S from by rw [X0_prepare_R, htop, hk_3]]; exact hD
    exact W.vret hx hb hr (fun t ht hW => ⟨⟨(), rfl, trivial, by rw [ht]; exact hP9, hD9⟩, hS.F ht⟩) hS.2.2 dX0_prepare_21
  · rw [hk_3]
    refine va_aldq hx hb hK.1 hP 1 2 rfl rfl (vp_in_nI (n := 1) (N := 6) (by decide) (by decide)) dX0_prepare_16 ?_
    refine W.eq (g2 := F0 m 17 ls [.ref ((b 1) 0)]) rfl ?_
    refine lv_aload_n hx hb dX0_prepare_17 rfl (lv_at hl 1 rfl) ?_
    refine kz_mvV (As := [.ref (a 0)]) (rest := []) (b := (b 1) 0) (wr := [hsW G h (fun j => b j 0) Y, shW G (b 0) (R 0), shW G (b 2) (R 2), shW G (b 3) (R 3), shW G (b 4) (R 4), shW G (b 5) (R 5)]) (bs' := [hsW G h (fun j => b j 0) Y, shW G (b 0) (R 0), shW G (b 1) S, shW G (b 2) (R 2), shW G (b 3) (R 3), shW G (b 4) (R 4), shW G (b 5) (R 5), shW G a S]) ⟨hx, hb, hml, hown, hts⟩ (c_X1_copyFrom l G (b 1) (R 1) a S) (cwV 1 hts gX0_prepare_X1_copyFrom rfl rfl rfl (by decide +kernel) ⟨Nat.le_of_ble_eq_true rfl, Nat.le_of_ble_eq_true rfl⟩) hK hP hD hS hA [2, 7] [0, 1, 3, 4, 5, 6] [0, 1, 6, 2, 3, 4, 5, 7] rfl (by decide) rfl (by decide) (by decide) rfl (by decide) (kz_recv hK hP (ci := 1) (q0 := 13) rfl rfl) rfl hl.1 rfl (Nat.le_of_ble_eq_true rfl) dX0_prepare_18 ⟨Nat.le_of_ble_eq_true rfl, Nat.le_of_ble_eq_true rfl⟩ (fun H locs hP hD hS => ?_)
    subst hQ
    have hP9 : kz_P G [hsW G h (fun j => b j 0) Y, shW G (b 0) ((X0_prepare_R Y R S) 0), shW G (b 1) ((X0_prepare_R Y R S) 1), shW G (b 2) ((X0_prepare_R Y R S) 2), shW G (b 3) ((X0_prepare_R Y R S) 3), shW G (b 4) ((X0_prepare_R Y R S) 4), shW G (b 5) ((X0_prepare_R Y R S) 5), shW G a S] H := by rw [show X0_prepare_R Y R S = va_up R 1 S from by rw [X0_prepare_R, htop, hk_3]]; exact hP
    have hD9 : kz_D A [hsW G h (fun j => b j 0) Y, shW G (b 0) ((X0_prepare_R Y R S) 0), shW G (b 1) ((X0_prepare_R Y R S) 1), shW G (b 2) ((X0_prepare_R Y R S) 2), shW G (b 3) ((X0_prepare_R Y R S) 3), shW G (b 4) ((X0_prepare_R Y R S) 4), shW G (b 5) ((X0_prepare_R Y R S) 5), shW G a S] := by rw [show X0_prepare_R Y R S = va_up R 1 S from by rw [X0_prepare_R, htop, hk_3]]; exact hD
    exact W.vret hx hb hr (fun t ht hW => ⟨⟨(), rfl, trivial, by rw [ht]; exact hP9, hD9⟩, hS.F ht⟩) hS.2.2 dX0_prepare_21
  · rw [hk_3]
    refine va_aldq hx hb hK.1 hP 1 2 rfl rfl (vp_in_nI (n := 2) (N := 6) (by decide) (by decide)) dX0_prepare_16 ?_
    refine W.eq (g2 := F0 m 17 ls [.ref ((b 2) 0)]) rfl ?_
    refine lv_aload_n hx hb dX0_prepare_17 rfl (lv_at hl 1 rfl) ?_
    refine kz_mvV (As := [.ref (a 0)]) (rest := []) (b := (b 2) 0) (wr := [hsW G h (fun j => b j 0) Y, shW G (b 0) (R 0), shW G (b 1) (R 1), shW G (b 3) (R 3), shW G (b 4) (R 4), shW G (b 5) (R 5)]) (bs' := [hsW G h (fun j => b j 0) Y, shW G (b 0) (R 0), shW G (b 1) (R 1), shW G (b 2) S, shW G (b 3) (R 3), shW G (b 4) (R 4), shW G (b 5) (R 5), shW G a S]) ⟨hx, hb, hml, hown, hts⟩ (c_X1_copyFrom l G (b 2) (R 2) a S) (cwV 1 hts gX0_prepare_X1_copyFrom rfl rfl rfl (by decide +kernel) ⟨Nat.le_of_ble_eq_true rfl, Nat.le_of_ble_eq_true rfl⟩) hK hP hD hS hA [3, 7] [0, 1, 2, 4, 5, 6] [0, 1, 2, 6, 3, 4, 5, 7] rfl (by decide) rfl (by decide) (by decide) rfl (by decide) (kz_recv hK hP (ci := 1) (q0 := 24) rfl rfl) rfl hl.1 rfl (Nat.le_of_ble_eq_true rfl) dX0_prepare_18 ⟨Nat.le_of_ble_eq_true rfl, Nat.le_of_ble_eq_true rfl⟩ (fun H locs hP hD hS => ?_)
    subst hQ
    have hP9 : kz_P G [hsW G h (fun j => b j 0) Y, shW G (b 0) ((X0_prepare_R Y R S) 0), shW G (b 1) ((X0_prepare_R Y R S) 1), shW G (b 2) ((X0_prepare_R Y R S) 2), shW G (b 3) ((X0_prepare_R Y R S) 3), shW G (b 4) ((X0_prepare_R Y R S) 4), shW G (b 5) ((X0_prepare_R Y R S) 5), shW G a S] H := by rw [show X0_prepare_R Y R S = va_up R 2 S from by rw [X0_prepare_R, htop, hk_3]]; exact hP
    have hD9 : kz_D A [hsW G h (fun j => b j 0) Y, shW G (b 0) ((X0_prepare_R Y R S) 0), shW G (b 1) ((X0_prepare_R Y R S) 1), shW G (b 2) ((X0_prepare_R Y R S) 2), shW G (b 3) ((X0_prepare_R Y R S) 3), shW G (b 4) ((X0_prepare_R Y R S) 4), shW G (b 5) ((X0_prepare_R Y R S) 5), shW G a S] := by rw [show X0_prepare_R Y R S = va_up R 2 S from by rw [X0_prepare_R, htop, hk_3]]; exact hD
    exact W.vret hx hb hr (fun t ht hW => ⟨⟨(), rfl, trivial, by rw [ht]; exact hP9, hD9⟩, hS.F ht⟩) hS.2.2 dX0_prepare_21
  · rw [hk_3]
    refine va_aldq hx hb hK.1 hP 1 2 rfl rfl (vp_in_nI (n := 3) (N := 6) (by decide) (by decide)) dX0_prepare_16 ?_
    refine W.eq (g2 := F0 m 17 ls [.ref ((b 3) 0)]) rfl ?_
    refine lv_aload_n hx hb dX0_prepare_17 rfl (lv_at hl 1 rfl) ?_
    refine kz_mvV (As := [.ref (a 0)]) (rest := []) (b := (b 3) 0) (wr := [hsW G h (fun j => b j 0) Y, shW G (b 0) (R 0), shW G (b 1) (R 1), shW G (b 2) (R 2), shW G (b 4) (R 4), shW G (b 5) (R 5)]) (bs' := [hsW G h (fun j => b j 0) Y, shW G (b 0) (R 0), shW G (b 1) (R 1), shW G (b 2) (R 2), shW G (b 3) S, shW G (b 4) (R 4), shW G (b 5) (R 5), shW G a S]) ⟨hx, hb, hml, hown, hts⟩ (c_X1_copyFrom l G (b 3) (R 3) a S) (cwV 1 hts gX0_prepare_X1_copyFrom rfl rfl rfl (by decide +kernel) ⟨Nat.le_of_ble_eq_true rfl, Nat.le_of_ble_eq_true rfl⟩) hK hP hD hS hA [4, 7] [0, 1, 2, 3, 5, 6] [0, 1, 2, 3, 6, 4, 5, 7] rfl (by decide) rfl (by decide) (by decide) rfl (by decide) (kz_recv hK hP (ci := 1) (q0 := 35) rfl rfl) rfl hl.1 rfl (Nat.le_of_ble_eq_true rfl) dX0_prepare_18 ⟨Nat.le_of_ble_eq_true rfl, Nat.le_of_ble_eq_true rfl⟩ (fun H locs hP hD hS => ?_)
    subst hQ
    have hP9 : kz_P G [hsW G h (fun j => b j 0) Y, shW G (b 0) ((X0_prepare_R Y R S) 0), shW G (b 1) ((X0_prepare_R Y R S) 1), shW G (b 2) ((X0_prepare_R Y R S) 2), shW G (b 3) ((X0_prepare_R Y R S) 3), shW G (b 4) ((X0_prepare_R Y R S) 4), shW G (b 5) ((X0_prepare_R Y R S) 5), shW G a S] H := by rw [show X0_prepare_R Y R S = va_up R 3 S from by rw [X0_prepare_R, htop, hk_3]]; exact hP
    have hD9 : kz_D A [hsW G h (fun j => b j 0) Y, shW G (b 0) ((X0_prepare_R Y R S) 0), shW G (b 1) ((X0_prepare_R Y R S) 1), shW G (b 2) ((X0_prepare_R Y R S) 2), shW G (b 3) ((X0_prepare_R Y R S) 3), shW G (b 4) ((X0_prepare_R Y R S) 4), shW G (b 5) ((X0_prepare_R Y R S) 5), shW G a S] := by rw [show X0_prepare_R Y R S = va_up R 3 S from by rw [X0_prepare_R, htop, hk_3]]; exact hD
    exact W.vret hx hb hr (fun t ht hW => ⟨⟨(), rfl, trivial, by rw [ht]; exact hP9, hD9⟩, hS.F ht⟩) hS.2.2 dX0_prepare_21
  · rw [hk_3]
    refine va_aldq hx hb hK.1 hP 1 2 rfl rfl (vp_in_nI (n := 4) (N := 6) (by decide) (by decide)) dX0_prepare_16 ?_
    refine W.eq (g2 := F0 m 17 ls [.ref ((b 4) 0)]) rfl ?_
    refine lv_aload_n hx hb dX0_prepare_17 rfl (lv_at hl 1 rfl) ?_
    refine kz_mvV (As := [.ref (a 0)]) (rest := []) (b := (b 4) 0) (wr := [hsW G h (fun j => b j 0) Y, shW G (b 0) (R 0), shW G (b 1) (R 1), shW G (b 2) (R 2), shW G (b 3) (R 3), shW G (b 5) (R 5)]) (bs' := [hsW G h (fun j => b j 0) Y, shW G (b 0) (R 0), shW G (b 1) (R 1), shW G (b 2) (R 2), shW G (b 3) (R 3), shW G (b 4) S, shW G (b 5) (R 5), shW G a S]) ⟨hx, hb, hml, hown, hts⟩ (c_X1_copyFrom l G (b 4) (R 4) a S) (cwV 1 hts gX0_prepare_X1_copyFrom rfl rfl rfl (by decide +kernel) ⟨Nat.le_of_ble_eq_true rfl, Nat.le_of_ble_eq_true rfl⟩) hK hP hD hS hA [5, 7] [0, 1, 2, 3, 4, 6] [0, 1, 2, 3, 4, 6, 5, 7] rfl (by decide) rfl (by decide) (by decide) rfl (by decide) (kz_recv hK hP (ci := 1) (q0 := 46) rfl rfl) rfl hl.1 rfl (Nat.le_of_ble_eq_true rfl) dX0_prepare_18 ⟨Nat.le_of_ble_eq_true rfl, Nat.le_of_ble_eq_true rfl⟩ (fun H locs hP hD hS => ?_)
    subst hQ
    have hP9 : kz_P G [hsW G h (fun j => b j 0) Y, shW G (b 0) ((X0_prepare_R Y R S) 0), shW G (b 1) ((X0_prepare_R Y R S) 1), shW G (b 2) ((X0_prepare_R Y R S) 2), shW G (b 3) ((X0_prepare_R Y R S) 3), shW G (b 4) ((X0_prepare_R Y R S) 4), shW G (b 5) ((X0_prepare_R Y R S) 5), shW G a S] H := by rw [show X0_prepare_R Y R S = va_up R 4 S from by rw [X0_prepare_R, htop, hk_3]]; exact hP
    have hD9 : kz_D A [hsW G h (fun j => b j 0) Y, shW G (b 0) ((X0_prepare_R Y R S) 0), shW G (b 1) ((X0_prepare_R Y R S) 1), shW G (b 2) ((X0_prepare_R Y R S) 2), shW G (b 3) ((X0_prepare_R Y R S) 3), shW G (b 4) ((X0_prepare_R Y R S) 4), shW G (b 5) ((X0_prepare_R Y R S) 5), shW G a S] := by rw [show X0_prepare_R Y R S = va_up R 4 S from by rw [X0_prepare_R, htop, hk_3]]; exact hD
    exact W.vret hx hb hr (fun t ht hW => ⟨⟨(), rfl, trivial, by rw [ht]; exact hP9, hD9⟩, hS.F ht⟩) hS.2.2 dX0_prepare_21
  · rw [hk_3]
    refine va_aldq hx hb hK.1 hP 1 2 rfl rfl (vp_in_nI (n := 5) (N := 6) (by decide) (by decide)) dX0_prepare_16 ?_
    refine W.eq (g2 := F0 m 17 ls [.ref ((b 5) 0)]) rfl ?_
    refine lv_aload_n hx hb dX0_prepare_17 rfl (lv_at hl 1 rfl) ?_
    refine kz_mvV (As := [.ref (a 0)]) (rest := []) (b := (b 5) 0) (wr := [hsW G h (fun j => b j 0) Y, shW G (b 0) (R 0), shW G (b 1) (R 1), shW G (b 2) (R 2), shW G (b 3) (R 3), shW G (b 4) (R 4)]) (bs' := [hsW G h (fun j => b j 0) Y, shW G (b 0) (R 0), shW G (b 1) (R 1), shW G (b 2) (R 2), shW G (b 3) (R 3), shW G (b 4) (R 4), shW G (b 5) S, shW G a S]) ⟨hx, hb, hml, hown, hts⟩ (c_X1_copyFrom l G (b 5) (R 5) a S) (cwV 1 hts gX0_prepare_X1_copyFrom rfl rfl rfl (by decide +kernel) ⟨Nat.le_of_ble_eq_true rfl, Nat.le_of_ble_eq_true rfl⟩) hK hP hD hS hA [6, 7] [0, 1, 2, 3, 4, 5] [0, 1, 2, 3, 4, 5, 6, 7] rfl (by decide) rfl (by decide) (by decide) rfl (by decide) (kz_recv hK hP (ci := 1) (q0 := 57) rfl rfl) rfl hl.1 rfl (Nat.le_of_ble_eq_true rfl) dX0_prepare_18 ⟨Nat.le_of_ble_eq_true rfl, Nat.le_of_ble_eq_true rfl⟩ (fun H locs hP hD hS => ?_)
    subst hQ
    have hP9 : kz_P G [hsW G h (fun j => b j 0) Y, shW G (b 0) ((X0_prepare_R Y R S) 0), shW G (b 1) ((X0_prepare_R Y R S) 1), shW G (b 2) ((X0_prepare_R Y R S) 2), shW G (b 3) ((X0_prepare_R Y R S) 3), shW G (b 4) ((X0_prepare_R Y R S) 4), shW G (b 5) ((X0_prepare_R Y R S) 5), shW G a S] H := by rw [show X0_prepare_R Y R S = va_up R 5 S from by rw [X0_prepare_R, htop, hk_3]]; exact hP
    have hD9 : kz_D A [hsW G h (fun j => b j 0) Y, shW G (b 0) ((X0_prepare_R Y R S) 0), shW G (b 1) ((X0_prepare_R Y R S) 1), shW G (b 2) ((X0_prepare_R Y R S) 2), shW G (b 3) ((X0_prepare_R Y R S) 3), shW G (b 4) ((X0_prepare_R Y R S) 4), shW G (b 5) ((X0_prepare_R Y R S) 5), shW G a S] := by rw [show X0_prepare_R Y R S = va_up R 5 S from by rw [X0_prepare_R, htop, hk_3]]; exact hD
    exact W.vret hx hb hr (fun t ht hW => ⟨⟨(), rfl, trivial, by rw [ht]; exact hP9, hD9⟩, hS.F ht⟩) hS.2.2 dX0_prepare_21
def X0_keepPrepared_s (Y : kz_S) : kz_S := if 5 ≤ (Y 2 0) then (va_up Y 1 (fun _ => (kz_rem ((Y 1 0) + 1) 6))) else (va_up Y 2 (fun _ => ((Y 2 0) + 1)))
set_option maxHeartbeats 4000000 in
set_option maxRecDepth 100000 in
theorem c_X0_keepPrepared (l : Launch) (G : kz_G) (h : Nat → Nat) (rw : Nat → Nat) (Y : kz_S) : kz_mv l G yX0_keepPrepared wsX0_keepPrepared 0 0 [.ref (h 0)] [hsW G h rw Y] [hsW G h rw (X0_keepPrepared_s Y)] := by
  intro sz
  refine Met.ofW (cc := cX0_keepPrepared) (maxL := 1) (ret := none) (by decide) rfl ?_
  intro p e s m args below meth c s₁ B hml hv
  obtain ⟨rfl, hsz, hP, hK, hD0⟩ := hv
  have hx := B.exec
  have hb := B.bytes
  have hr := B.returns
  have hts := atoms_spec (ws := wsX0_keepPrepared) B.pre
  have hown : s.vm.findClass RX0 = some m.cls := findClass_of_methodNamed B.named
  have hlocks := B.notSynchronized
  have hinX0 : ∀ w ∈ u_ws RX0 TX0 3, w ∈ wsX0_keepPrepared := by decide +kernel
  subst hsz
  have hD := hD0.self (sz := s.heap.size)
  generalize hAe : kz_A [hsW G h rw Y] s.heap.size = A at hD ⊢
  have hA : ∀ q : Nat, s.heap.size ≤ q → A q := fun q h => by rw [← hAe]; exact Or.inr h
  have hS : va_S A s.heap s.heap [] := va_S.rf
  have hl := lv_entry ([.ref (h 0)]) (n := 1) (Nat.le_of_ble_eq_true rfl)
  rw [lg_entry_eq]
  generalize (lg_sl ([.ref (h 0)]) ++ List.replicate (1 - (lg_sl ([.ref (h 0)])).length) Slot.unset).toArray = ls at hl ⊢
  have hl : lv_has ls 1 [(0, .ref (h 0))] := hl
  refine kz_start (fun QQ hQ => ?_)
  have hP : kz_P G [hsW G h rw Y] s.heap := hP
  refine lv_aload_n hx hb dX0_keepPrepared_0 rfl (lv_at hl 0 rfl) ?_
  refine va_get (D := G.1) (ci := 0) (v := .int (Y 2 0)) (C := RX0) (T := TX0) (N := 3) hx hb hts hinX0 hown hK.1 hP 0 rfl rfl 2 (by decide) (hts (.fieldLink RX0 20 "ParcelShelves$History" "count" "I") (by decide +kernel)) (fun _ h9 => h9) rfl dX0_keepPrepared_1 ?_
  refine lv_iconst (v := 5) hx hb dX0_keepPrepared_4 (by decide +kernel) ?_
  refine lv_icmp_ge (tgt := 21) hx hb dX0_keepPrepared_5 (by decide) (fun c_1 => ?_) (fun c_1 => ?_)
  · refine lv_aload_n hx hb dX0_keepPrepared_21 rfl (lv_at hl 0 rfl) ?_
    refine lv_aload_n hx hb dX0_keepPrepared_22 rfl (lv_at hl 0 rfl) ?_
    refine va_get (D := G.1) (ci := 0) (v := .int (Y 1 0)) (C := RX0) (T := TX0) (N := 3) hx hb hts hinX0 hown hK.1 hP 0 rfl rfl 1 (by decide) (hts (.fieldLink RX0 16 "ParcelShelves$History" "oldest" "I") (by decide +kernel)) (fun _ h9 => h9) rfl dX0_keepPrepared_23 ?_
    refine lv_iconst (v := 1) hx hb dX0_keepPrepared_26 (by decide +kernel) ?_
    refine lv_iadd hx hb dX0_keepPrepared_27 ?_
    refine lv_bipush (v := 6) hx hb dX0_keepPrepared_28 (by decide +kernel) ?_
    refine lv_irem hx hb dX0_keepPrepared_30 (by decide +kernel) ?_
    refine kz_topR ?_
    refine va_put (D := G.1) (ci := 0) (v := .int (kz_rem ((Y 1 0) + 1) 6)) (ty := .int) (C := RX0) (T := TX0) (N := 3) hx hb hts hinX0 tyX0 tyX0_ok nmX0 hown hK.1 hP hD hS 0 rfl rfl 1 (by decide) (hts (.fieldLink RX0 16 "ParcelShelves$History" "oldest" "I") (by decide +kernel)) (fun _ h9 => h9) rfl (by decide +kernel) rfl rfl (Nat.le_of_ble_eq_true rfl) dX0_keepPrepared_31 (fun H locs hP hD hS => ?_)
    have hP : kz_P G [hsW G h rw (va_up Y 1 (fun _ => (kz_rem ((Y 1 0) + 1) 6)))] H := hP
    have hD : kz_D A [hsW G h rw (va_up Y 1 (fun _ => (kz_rem ((Y 1 0) + 1) 6)))] := hD
    subst hQ
    have hP9 : kz_P G [hsW G h rw (X0_keepPrepared_s Y)] H := by rw [X0_keepPrepared_s, if_pos c_1]; exact hP
    have hD9 : kz_D A [hsW G h rw (X0_keepPrepared_s Y)] := by rw [X0_keepPrepared_s, if_pos c_1]; exact hD
    exact W.vret hx hb hr (fun t ht hW => ⟨⟨(), rfl, trivial, by rw [ht]; exact hP9, hD9⟩, hS.F ht⟩) hS.2.2 dX0_keepPrepared_34
  · refine lv_aload_n hx hb dX0_keepPrepared_8 rfl (lv_at hl 0 rfl) ?_
    refine lv_dup hx hb dX0_keepPrepared_9 rfl ?_
    refine va_get (D := G.1) (ci := 0) (v := .int (Y 2 0)) (C := RX0) (T := TX0) (N := 3) hx hb hts hinX0 hown hK.1 hP 0 rfl rfl 2 (by decide) (hts (.fieldLink RX0 20 "ParcelShelves$History" "count" "I") (by decide +kernel)) (fun _ h9 => h9) rfl dX0_keepPrepared_10 ?_
    refine lv_iconst (v := 1) hx hb dX0_keepPrepared_13 (by decide +kernel) ?_
    refine lv_iadd hx hb dX0_keepPrepared_14 ?_
    refine va_put (D := G.1) (ci := 0) (v := .int ((Y 2 0) + 1)) (ty := .int) (C := RX0) (T := TX0) (N := 3) hx hb hts hinX0 tyX0 tyX0_ok nmX0 hown hK.1 hP hD hS 0 rfl rfl 2 (by decide) (hts (.fieldLink RX0 20 "ParcelShelves$History" "count" "I") (by decide +kernel)) (fun _ h9 => h9) rfl (by decide +kernel) rfl rfl (Nat.le_of_ble_eq_true rfl) dX0_keepPrepared_15 (fun H locs hP hD hS => ?_)
    have hP : kz_P G [hsW G h rw (va_up Y 2 (fun _ => ((Y 2 0) + 1)))] H := hP
    have hD : kz_D A [hsW G h rw (va_up Y 2 (fun _ => ((Y 2 0) + 1)))] := hD
    refine lv_goto (tgt := 34) hx hb dX0_keepPrepared_18 (by decide) ?_
    subst hQ
    have hP9 : kz_P G [hsW G h rw (X0_keepPrepared_s Y)] H := by rw [X0_keepPrepared_s, if_neg c_1]; exact hP
    have hD9 : kz_D A [hsW G h rw (X0_keepPrepared_s Y)] := by rw [X0_keepPrepared_s, if_neg c_1]; exact hD
    exact W.vret hx hb hr (fun t ht hW => ⟨⟨(), rfl, trivial, by rw [ht]; exact hP9, hD9⟩, hS.F ht⟩) hS.2.2 dX0_keepPrepared_34
