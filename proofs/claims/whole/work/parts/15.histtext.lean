theorem kz_narC {n : Nat} (h : n < 65536) : vp_nar .char (nI n) = nI n := by
  unfold vp_nar
  rw [(pk_charN h).1]
theorem kz_lenIn {x : Int32} (h : ∃ n, n ≤ 80 ∧ x = nI n) (c : ¬ 80 ≤ x) : vp_in x 80 := by
  obtain ⟨n, hn, rfl⟩ := h
  exact vp_in_nI (kz_gt (a := 80) (b := n) c (by omega) (by omega)) (by decide)
theorem kz_sgIn {T : kz_S} {x : Int32} (h : ∃ n, n ≤ 80 ∧ T 1 0 = nI n) (c : X3_isWithin_p x 0 (T 1 0 - 1)) : vp_in x 80 := by
  obtain ⟨n, hn, e⟩ := h
  obtain ⟨j, hj, rfl⟩ := nI_of c.1
  have c2 := c.2
  rw [e] at c2
  cases n with
  | zero => exact absurd (show nI 0 - 1 < nI j from Int32.lt_iff_toInt_lt.mpr (by rw [nI_toInt hj]; show (-1 : Int) < j; omega)) c2
  | succ m =>
    rw [nI_pred] at c2
    have h3 := kz_ge (a := m) (b := j) c2 (by omega) hj
    exact vp_in_nI (by omega) (by decide)
theorem kz_sgC {T : kz_S} {x : Int32} (hch : ∀ k, k < 80 → ∃ c, c < 128 ∧ T 0 k = nI c) (h : vp_in x 80) : narrow .char (.int (T 0 x.toNatClampNeg)) = .int (T 0 x.toNatClampNeg) := by
  obtain ⟨j, hj, rfl⟩ := vp_in_of h (by decide)
  rw [nI_clamp (by omega)]
  obtain ⟨q, hq, e⟩ := hch j hj
  rw [e]
  exact (pk_charN (by omega)).1

def kz_top (Y : kz_S) : Nat := (kz_rem (Y 1 0 + Y 2 0) 6).toNatClampNeg
def X0_prepare_R (Y : kz_S) (R : Nat → kz_S) (S : kz_S) : Nat → kz_S := va_up R (kz_top Y) S
set_option maxHeartbeats 4000000 in
set_option maxRecDepth 100000 in
theorem c_X0_prepare (l : Launch) (G : kz_G) (h : Nat → Nat) (Y : kz_S) (b : Nat → Nat → Nat) (R : Nat → kz_S) (a : Nat → Nat) (S : kz_S) (hO : ∃ o, o < 6 ∧ Y 1 0 = nI o) (hC : ∃ c, c ≤ 5 ∧ Y 2 0 = nI c) : kz_mv l G yX0_prepare wsX0_prepare 2 47 [.ref (h 0), .ref (a 0)] [hsW G h (fun j => b j 0) Y, shW G (b 0) (R 0), shW G (b 1) (R 1), shW G (b 2) (R 2), shW G (b 3) (R 3), shW G (b 4) (R 4), shW G (b 5) (R 5), shW G a S] [hsW G h (fun j => b j 0) Y, shW G (b 0) ((X0_prepare_R Y R S) 0), shW G (b 1) ((X0_prepare_R Y R S) 1), shW G (b 2) ((X0_prepare_R Y R S) 2), shW G (b 3) ((X0_prepare_R Y R S) 3), shW G (b 4) ((X0_prepare_R Y R S) 4), shW G (b 5) ((X0_prepare_R Y R S) 5), shW G a S] := by
  intro sz
  refine Met.ofW (cc := cX0_prepare) (maxL := 2) (ret := none) (by decide) rfl ?_
  intro p e s m args below meth c s₁ B hml hv
  obtain ⟨rfl, hsz, hP, hK, hD0⟩ := hv
  have hx := B.exec
  have hb := B.bytes
  have hr := B.returns
  have hts := atoms_spec (ws := wsX0_prepare) B.pre
  have hown : s.vm.findClass RX0 = some m.cls := findClass_of_methodNamed B.named
  have hlocks := B.notSynchronized
  have hinX0 : ∀ w ∈ u_ws RX0 TX0 3, w ∈ wsX0_prepare := by decide +kernel
  subst hsz
  have hD := hD0.self (sz := s.heap.size)
  generalize hAe : kz_A [hsW G h (fun j => b j 0) Y, shW G (b 0) (R 0), shW G (b 1) (R 1), shW G (b 2) (R 2), shW G (b 3) (R 3), shW G (b 4) (R 4), shW G (b 5) (R 5), shW G a S] s.heap.size = A at hD ⊢
  have hA : ∀ q : Nat, s.heap.size ≤ q → A q := fun q h => by rw [← hAe]; exact Or.inr h
  have hS : va_S A s.heap s.heap [] := va_S.rf
  have hl := lv_entry ([.ref (h 0), .ref (a 0)]) (n := 2) (Nat.le_of_ble_eq_true rfl)
  rw [lg_entry_eq]
  generalize (lg_sl ([.ref (h 0), .ref (a 0)]) ++ List.replicate (2 - (lg_sl ([.ref (h 0), .ref (a 0)])).length) Slot.unset).toArray = ls at hl ⊢
  have hl : lv_has ls 2 [(0, .ref (h 0)), (1, .ref (a 0))] := hl
  refine kz_start (fun QQ hQ => ?_)
  have hP : kz_P G [hsW G h (fun j => b j 0) Y, shW G (b 0) (R 0), shW G (b 1) (R 1), shW G (b 2) (R 2), shW G (b 3) (R 3), shW G (b 4) (R 4), shW G (b 5) (R 5), shW G a S] s.heap := hP
  obtain ⟨o, ho, eo⟩ := hO
  obtain ⟨cn, hcn, ecn⟩ := hC
  have etop : kz_rem (Y 1 0 + Y 2 0) 6 = nI ((o + cn) % 6) := by rw [eo, ecn, nI_add]; exact kz_remN (d := 6) (by omega) (by omega) (by omega)
  have htop : kz_top Y = (o + cn) % 6 := by rw [kz_top, etop]; exact nI_clamp (by omega)
  refine lv_aload_n hx hb dX0_prepare_0 rfl (lv_at hl 0 rfl) ?_
  refine va_get (D := G.1) (ci := 0) (v := .ref (h 1)) (C := RX0) (T := TX0) (N := 3) hx hb hts hinX0 hown hK.1 hP 0 rfl rfl 0 (by decide) (hts (.fieldLink RX0 11 "ParcelShelves$History" "rows" "[LParcelShelves$Shop;") (by decide +kernel)) (fun _ h9 => h9) rfl dX0_prepare_1 ?_
  refine lv_aload_n hx hb dX0_prepare_4 rfl (lv_at hl 0 rfl) ?_
  refine va_get (D := G.1) (ci := 0) (v := .int (Y 1 0)) (C := RX0) (T := TX0) (N := 3) hx hb hts hinX0 hown hK.1 hP 0 rfl rfl 1 (by decide) (hts (.fieldLink RX0 16 "ParcelShelves$History" "oldest" "I") (by decide +kernel)) (fun _ h9 => h9) rfl dX0_prepare_5 ?_
  refine lv_aload_n hx hb dX0_prepare_8 rfl (lv_at hl 0 rfl) ?_
  refine va_get (D := G.1) (ci := 0) (v := .int (Y 2 0)) (C := RX0) (T := TX0) (N := 3) hx hb hts hinX0 hown hK.1 hP 0 rfl rfl 2 (by decide) (hts (.fieldLink RX0 20 "ParcelShelves$History" "count" "I") (by decide +kernel)) (fun _ h9 => h9) rfl dX0_prepare_9 ?_
  refine lv_iadd hx hb dX0_prepare_12 ?_
  refine lv_bipush (v := 6) hx hb dX0_prepare_13 (by decide +kernel) ?_
  refine lv_irem hx hb dX0_prepare_15 (by decide +kernel) ?_
  refine kz_topR ?_
  refine lv_topi (fun y_1 ey_2 => ?_)
  obtain rfl : y_1 = (nI ((o + cn) % 6)) := by rw [ey_2]; exact etop
  have hk_3 : ((o + cn) % 6) = 0 ∨ ((o + cn) % 6) = 1 ∨ ((o + cn) % 6) = 2 ∨ ((o + cn) % 6) = 3 ∨ ((o + cn) % 6) = 4 ∨ ((o + cn) % 6) = 5 := by omega
  rcases hk_3 with hk_3 | hk_3 | hk_3 | hk_3 | hk_3 | hk_3
  · rw [hk_3]
    refine va_aldq hx hb hK.1 hP 1 2 rfl rfl (vp_in_nI (n := 0) (N := 6) (by decide) (by decide)) dX0_prepare_16 ?_
    refine W.eq (g2 := F0 m 17 ls [.ref ((b 0) 0)]) rfl ?_
    refine lv_aload_n hx hb dX0_prepare_17 rfl (lv_at hl 1 rfl) ?_
    refine kz_mvV (As := [.ref (a 0)]) (rest := []) (b := (b 0) 0) (wr := [hsW G h (fun j => b j 0) Y, shW G (b 1) (R 1), shW G (b 2) (R 2), shW G (b 3) (R 3), shW G (b 4) (R 4), shW G (b 5) (R 5)]) (bs' := [hsW G h (fun j => b j 0) Y, shW G (b 0) S, shW G (b 1) (R 1), shW G (b 2) (R 2), shW G (b 3) (R 3), shW G (b 4) (R 4), shW G (b 5) (R 5), shW G a S]) ⟨hx, hb, hml, hown, hts⟩ (c_X1_copyFrom l G (b 0) (R 0) a S) (cwV 1 hts gX0_prepare_X1_copyFrom rfl rfl rfl (by decide +kernel) ⟨Nat.le_of_ble_eq_true rfl, Nat.le_of_ble_eq_true rfl⟩) hK hP hD hS hA [1, 7] [0, 2, 3, 4, 5, 6] [0, 6, 1, 2, 3, 4, 5, 7] rfl (by decide) rfl (by decide) (by decide) rfl (by decide) (kz_recv hK hP (ci := 1) (q0 := 2) rfl rfl) rfl hl.1 rfl (Nat.le_of_ble_eq_true rfl) dX0_prepare_18 ⟨Nat.le_of_ble_eq_true rfl, Nat.le_of_ble_eq_true rfl⟩ (fun H locs hP hD hS => ?_)
    subst hQ
    have hP9 : kz_P G [hsW G h (fun j => b j 0) Y, shW G (b 0) ((X0_prepare_R Y R S) 0), shW G (b 1) ((X0_prepare_R Y R S) 1), shW G (b 2) ((X0_prepare_R Y R S) 2), shW G (b 3) ((X0_prepare_R Y R S) 3), shW G (b 4) ((X0_prepare_R Y R S) 4), shW G (b 5) ((X0_prepare_R Y R S) 5), shW G a S] H := by rw [show X0_prepare_R Y R S = va_up R 0 S from by rw [X0_prepare_R, htop, hk_3]]; exact hP
    have hD9 : kz_D A [hsW G h (fun j => b j 0) Y, shW G (b 0) ((X0_prepare_R Y R S) 0), shW G (b 1) ((X0_prepare_R Y R S) 1), shW G (b 2) ((X0_prepare_R Y R S) 2), shW G (b 3) ((X0_prepare_R Y R S) 3), shW G (b 4) ((X0_prepare_R Y R S) 4), shW G (b 5) ((X0_prepare_R Y R S) 5), shW G a S] := by rw [show X0_prepare_R Y R S = va_up R 0 S from by rw [X0_prepare_R, htop, hk_3]]; exact hD
    exact W.vret hx hb hr (fun t ht hW => ⟨⟨(), rfl, trivial, by rw [ht]; exact hP9, hD9⟩, hS.F ht⟩) hS.2.2 dX0_prepare_21
  · rw [hk_3]
    refine va_aldq hx hb hK.1 hP 1 2 rfl rfl (vp_in_nI (n := 1) (N := 6) (by decide) (by decide)) dX0_prepare_16 ?_
    refine W.eq (g2 := F0 m 17 ls [.ref ((b 1) 0)]) rfl ?_
    refine lv_aload_n hx hb dX0_prepare_17 rfl (lv_at hl 1 rfl) ?_
    refine kz_mvV (As := [.ref (a 0)]) (rest := []) (b := (b 1) 0) (wr := [hsW G h (fun j => b j 0) Y, shW G (b 0) (R 0), shW G (b 2) (R 2), shW G (b 3) (R 3), shW G (b 4) (R 4), shW G (b 5) (R 5)]) (bs' := [hsW G h (fun j => b j 0) Y, shW G (b 0) (R 0), shW G (b 1) S, shW G (b 2) (R 2), shW G (b 3) (R 3), shW G (b 4) (R 4), shW G (b 5) (R 5), shW G a S]) ⟨hx, hb, hml, hown, hts⟩ (c_X1_copyFrom l G (b 1) (R 1) a S) (cwV 1 hts gX0_prepare_X1_copyFrom rfl rfl rfl (by decide +kernel) ⟨Nat.le_of_ble_eq_true rfl, Nat.le_of_ble_eq_true rfl⟩) hK hP hD hS hA [2, 7] [0, 1, 3, 4, 5, 6] [0, 1, 6, 2, 3, 4, 5, 7] rfl (by decide) rfl (by decide) (by decide) rfl (by decide) (kz_recv hK hP (ci := 1) (q0 := 13) rfl rfl) rfl hl.1 rfl (Nat.le_of_ble_eq_true rfl) dX0_prepare_18 ⟨Nat.le_of_ble_eq_true rfl, Nat.le_of_ble_eq_true rfl⟩ (fun H locs hP hD hS => ?_)
    subst hQ
    have hP9 : kz_P G [hsW G h (fun j => b j 0) Y, shW G (b 0) ((X0_prepare_R Y R S) 0), shW G (b 1) ((X0_prepare_R Y R S) 1), shW G (b 2) ((X0_prepare_R Y R S) 2), shW G (b 3) ((X0_prepare_R Y R S) 3), shW G (b 4) ((X0_prepare_R Y R S) 4), shW G (b 5) ((X0_prepare_R Y R S) 5), shW G a S] H := by rw [show X0_prepare_R Y R S = va_up R 1 S from by rw [X0_prepare_R, htop, hk_3]]; exact hP
    have hD9 : kz_D A [hsW G h (fun j => b j 0) Y, shW G (b 0) ((X0_prepare_R Y R S) 0), shW G (b 1) ((X0_prepare_R Y R S) 1), shW G (b 2) ((X0_prepare_R Y R S) 2), shW G (b 3) ((X0_prepare_R Y R S) 3), shW G (b 4) ((X0_prepare_R Y R S) 4), shW G (b 5) ((X0_prepare_R Y R S) 5), shW G a S] := by rw [show X0_prepare_R Y R S = va_up R 1 S from by rw [X0_prepare_R, htop, hk_3]]; exact hD
    exact W.vret hx hb hr (fun t ht hW => ⟨⟨(), rfl, trivial, by rw [ht]; exact hP9, hD9⟩, hS.F ht⟩) hS.2.2 dX0_prepare_21
  · rw [hk_3]
    refine va_aldq hx hb hK.1 hP 1 2 rfl rfl (vp_in_nI (n := 2) (N := 6) (by decide) (by decide)) dX0_prepare_16 ?_
    refine W.eq (g2 := F0 m 17 ls [.ref ((b 2) 0)]) rfl ?_
    refine lv_aload_n hx hb dX0_prepare_17 rfl (lv_at hl 1 rfl) ?_
    refine kz_mvV (As := [.ref (a 0)]) (rest := []) (b := (b 2) 0) (wr := [hsW G h (fun j => b j 0) Y, shW G (b 0) (R 0), shW G (b 1) (R 1), shW G (b 3) (R 3), shW G (b 4) (R 4), shW G (b 5) (R 5)]) (bs' := [hsW G h (fun j => b j 0) Y, shW G (b 0) (R 0), shW G (b 1) (R 1), shW G (b 2) S, shW G (b 3) (R 3), shW G (b 4) (R 4), shW G (b 5) (R 5), shW G a S]) ⟨hx, hb, hml, hown, hts⟩ (c_X1_copyFrom l G (b 2) (R 2) a S) (cwV 1 hts gX0_prepare_X1_copyFrom rfl rfl rfl (by decide +kernel) ⟨Nat.le_of_ble_eq_true rfl, Nat.le_of_ble_eq_true rfl⟩) hK hP hD hS hA [3, 7] [0, 1, 2, 4, 5, 6] [0, 1, 2, 6, 3, 4, 5, 7] rfl (by decide) rfl (by decide) (by decide) rfl (by decide) (kz_recv hK hP (ci := 1) (q0 := 24) rfl rfl) rfl hl.1 rfl (Nat.le_of_ble_eq_true rfl) dX0_prepare_18 ⟨Nat.le_of_ble_eq_true rfl, Nat.le_of_ble_eq_true rfl⟩ (fun H locs hP hD hS => ?_)
    subst hQ
    have hP9 : kz_P G [hsW G h (fun j => b j 0) Y, shW G (b 0) ((X0_prepare_R Y R S) 0), shW G (b 1) ((X0_prepare_R Y R S) 1), shW G (b 2) ((X0_prepare_R Y R S) 2), shW G (b 3) ((X0_prepare_R Y R S) 3), shW G (b 4) ((X0_prepare_R Y R S) 4), shW G (b 5) ((X0_prepare_R Y R S) 5), shW G a S] H := by rw [show X0_prepare_R Y R S = va_up R 2 S from by rw [X0_prepare_R, htop, hk_3]]; exact hP
    have hD9 : kz_D A [hsW G h (fun j => b j 0) Y, shW G (b 0) ((X0_prepare_R Y R S) 0), shW G (b 1) ((X0_prepare_R Y R S) 1), shW G (b 2) ((X0_prepare_R Y R S) 2), shW G (b 3) ((X0_prepare_R Y R S) 3), shW G (b 4) ((X0_prepare_R Y R S) 4), shW G (b 5) ((X0_prepare_R Y R S) 5), shW G a S] := by rw [show X0_prepare_R Y R S = va_up R 2 S from by rw [X0_prepare_R, htop, hk_3]]; exact hD
    exact W.vret hx hb hr (fun t ht hW => ⟨⟨(), rfl, trivial, by rw [ht]; exact hP9, hD9⟩, hS.F ht⟩) hS.2.2 dX0_prepare_21
  · rw [hk_3]
    refine va_aldq hx hb hK.1 hP 1 2 rfl rfl (vp_in_nI (n := 3) (N := 6) (by decide) (by decide)) dX0_prepare_16 ?_
    refine W.eq (g2 := F0 m 17 ls [.ref ((b 3) 0)]) rfl ?_
    refine lv_aload_n hx hb dX0_prepare_17 rfl (lv_at hl 1 rfl) ?_
    refine kz_mvV (As := [.ref (a 0)]) (rest := []) (b := (b 3) 0) (wr := [hsW G h (fun j => b j 0) Y, shW G (b 0) (R 0), shW G (b 1) (R 1), shW G (b 2) (R 2), shW G (b 4) (R 4), shW G (b 5) (R 5)]) (bs' := [hsW G h (fun j => b j 0) Y, shW G (b 0) (R 0), shW G (b 1) (R 1), shW G (b 2) (R 2), shW G (b 3) S, shW G (b 4) (R 4), shW G (b 5) (R 5), shW G a S]) ⟨hx, hb, hml, hown, hts⟩ (c_X1_copyFrom l G (b 3) (R 3) a S) (cwV 1 hts gX0_prepare_X1_copyFrom rfl rfl rfl (by decide +kernel) ⟨Nat.le_of_ble_eq_true rfl, Nat.le_of_ble_eq_true rfl⟩) hK hP hD hS hA [4, 7] [0, 1, 2, 3, 5, 6] [0, 1, 2, 3, 6, 4, 5, 7] rfl (by decide) rfl (by decide) (by decide) rfl (by decide) (kz_recv hK hP (ci := 1) (q0 := 35) rfl rfl) rfl hl.1 rfl (Nat.le_of_ble_eq_true rfl) dX0_prepare_18 ⟨Nat.le_of_ble_eq_true rfl, Nat.le_of_ble_eq_true rfl⟩ (fun H locs hP hD hS => ?_)
    subst hQ
    have hP9 : kz_P G [hsW G h (fun j => b j 0) Y, shW G (b 0) ((X0_prepare_R Y R S) 0), shW G (b 1) ((X0_prepare_R Y R S) 1), shW G (b 2) ((X0_prepare_R Y R S) 2), shW G (b 3) ((X0_prepare_R Y R S) 3), shW G (b 4) ((X0_prepare_R Y R S) 4), shW G (b 5) ((X0_prepare_R Y R S) 5), shW G a S] H := by rw [show X0_prepare_R Y R S = va_up R 3 S from by rw [X0_prepare_R, htop, hk_3]]; exact hP
    have hD9 : kz_D A [hsW G h (fun j => b j 0) Y, shW G (b 0) ((X0_prepare_R Y R S) 0), shW G (b 1) ((X0_prepare_R Y R S) 1), shW G (b 2) ((X0_prepare_R Y R S) 2), shW G (b 3) ((X0_prepare_R Y R S) 3), shW G (b 4) ((X0_prepare_R Y R S) 4), shW G (b 5) ((X0_prepare_R Y R S) 5), shW G a S] := by rw [show X0_prepare_R Y R S = va_up R 3 S from by rw [X0_prepare_R, htop, hk_3]]; exact hD
    exact W.vret hx hb hr (fun t ht hW => ⟨⟨(), rfl, trivial, by rw [ht]; exact hP9, hD9⟩, hS.F ht⟩) hS.2.2 dX0_prepare_21
  · rw [hk_3]
    refine va_aldq hx hb hK.1 hP 1 2 rfl rfl (vp_in_nI (n := 4) (N := 6) (by decide) (by decide)) dX0_prepare_16 ?_
    refine W.eq (g2 := F0 m 17 ls [.ref ((b 4) 0)]) rfl ?_
    refine lv_aload_n hx hb dX0_prepare_17 rfl (lv_at hl 1 rfl) ?_
    refine kz_mvV (As := [.ref (a 0)]) (rest := []) (b := (b 4) 0) (wr := [hsW G h (fun j => b j 0) Y, shW G (b 0) (R 0), shW G (b 1) (R 1), shW G (b 2) (R 2), shW G (b 3) (R 3), shW G (b 5) (R 5)]) (bs' := [hsW G h (fun j => b j 0) Y, shW G (b 0) (R 0), shW G (b 1) (R 1), shW G (b 2) (R 2), shW G (b 3) (R 3), shW G (b 4) S, shW G (b 5) (R 5), shW G a S]) ⟨hx, hb, hml, hown, hts⟩ (c_X1_copyFrom l G (b 4) (R 4) a S) (cwV 1 hts gX0_prepare_X1_copyFrom rfl rfl rfl (by decide +kernel) ⟨Nat.le_of_ble_eq_true rfl, Nat.le_of_ble_eq_true rfl⟩) hK hP hD hS hA [5, 7] [0, 1, 2, 3, 4, 6] [0, 1, 2, 3, 4, 6, 5, 7] rfl (by decide) rfl (by decide) (by decide) rfl (by decide) (kz_recv hK hP (ci := 1) (q0 := 46) rfl rfl) rfl hl.1 rfl (Nat.le_of_ble_eq_true rfl) dX0_prepare_18 ⟨Nat.le_of_ble_eq_true rfl, Nat.le_of_ble_eq_true rfl⟩ (fun H locs hP hD hS => ?_)
    subst hQ
    have hP9 : kz_P G [hsW G h (fun j => b j 0) Y, shW G (b 0) ((X0_prepare_R Y R S) 0), shW G (b 1) ((X0_prepare_R Y R S) 1), shW G (b 2) ((X0_prepare_R Y R S) 2), shW G (b 3) ((X0_prepare_R Y R S) 3), shW G (b 4) ((X0_prepare_R Y R S) 4), shW G (b 5) ((X0_prepare_R Y R S) 5), shW G a S] H := by rw [show X0_prepare_R Y R S = va_up R 4 S from by rw [X0_prepare_R, htop, hk_3]]; exact hP
    have hD9 : kz_D A [hsW G h (fun j => b j 0) Y, shW G (b 0) ((X0_prepare_R Y R S) 0), shW G (b 1) ((X0_prepare_R Y R S) 1), shW G (b 2) ((X0_prepare_R Y R S) 2), shW G (b 3) ((X0_prepare_R Y R S) 3), shW G (b 4) ((X0_prepare_R Y R S) 4), shW G (b 5) ((X0_prepare_R Y R S) 5), shW G a S] := by rw [show X0_prepare_R Y R S = va_up R 4 S from by rw [X0_prepare_R, htop, hk_3]]; exact hD
    exact W.vret hx hb hr (fun t ht hW => ⟨⟨(), rfl, trivial, by rw [ht]; exact hP9, hD9⟩, hS.F ht⟩) hS.2.2 dX0_prepare_21
  · rw [hk_3]
    refine va_aldq hx hb hK.1 hP 1 2 rfl rfl (vp_in_nI (n := 5) (N := 6) (by decide) (by decide)) dX0_prepare_16 ?_
    refine W.eq (g2 := F0 m 17 ls [.ref ((b 5) 0)]) rfl ?_
    refine lv_aload_n hx hb dX0_prepare_17 rfl (lv_at hl 1 rfl) ?_
    refine kz_mvV (As := [.ref (a 0)]) (rest := []) (b := (b 5) 0) (wr := [hsW G h (fun j => b j 0) Y, shW G (b 0) (R 0), shW G (b 1) (R 1), shW G (b 2) (R 2), shW G (b 3) (R 3), shW G (b 4) (R 4)]) (bs' := [hsW G h (fun j => b j 0) Y, shW G (b 0) (R 0), shW G (b 1) (R 1), shW G (b 2) (R 2), shW G (b 3) (R 3), shW G (b 4) (R 4), shW G (b 5) S, shW G a S]) ⟨hx, hb, hml, hown, hts⟩ (c_X1_copyFrom l G (b 5) (R 5) a S) (cwV 1 hts gX0_prepare_X1_copyFrom rfl rfl rfl (by decide +kernel) ⟨Nat.le_of_ble_eq_true rfl, Nat.le_of_ble_eq_true rfl⟩) hK hP hD hS hA [6, 7] [0, 1, 2, 3, 4, 5] [0, 1, 2, 3, 4, 5, 6, 7] rfl (by decide) rfl (by decide) (by decide) rfl (by decide) (kz_recv hK hP (ci := 1) (q0 := 57) rfl rfl) rfl hl.1 rfl (Nat.le_of_ble_eq_true rfl) dX0_prepare_18 ⟨Nat.le_of_ble_eq_true rfl, Nat.le_of_ble_eq_true rfl⟩ (fun H locs hP hD hS => ?_)
    subst hQ
    have hP9 : kz_P G [hsW G h (fun j => b j 0) Y, shW G (b 0) ((X0_prepare_R Y R S) 0), shW G (b 1) ((X0_prepare_R Y R S) 1), shW G (b 2) ((X0_prepare_R Y R S) 2), shW G (b 3) ((X0_prepare_R Y R S) 3), shW G (b 4) ((X0_prepare_R Y R S) 4), shW G (b 5) ((X0_prepare_R Y R S) 5), shW G a S] H := by rw [show X0_prepare_R Y R S = va_up R 5 S from by rw [X0_prepare_R, htop, hk_3]]; exact hP
    have hD9 : kz_D A [hsW G h (fun j => b j 0) Y, shW G (b 0) ((X0_prepare_R Y R S) 0), shW G (b 1) ((X0_prepare_R Y R S) 1), shW G (b 2) ((X0_prepare_R Y R S) 2), shW G (b 3) ((X0_prepare_R Y R S) 3), shW G (b 4) ((X0_prepare_R Y R S) 4), shW G (b 5) ((X0_prepare_R Y R S) 5), shW G a S] := by rw [show X0_prepare_R Y R S = va_up R 5 S from by rw [X0_prepare_R, htop, hk_3]]; exact hD
    exact W.vret hx hb hr (fun t ht hW => ⟨⟨(), rfl, trivial, by rw [ht]; exact hP9, hD9⟩, hS.F ht⟩) hS.2.2 dX0_prepare_21
def X0_keepPrepared_s (Y : kz_S) : kz_S := if 5 ≤ (Y 2 0) then (va_up Y 1 (fun _ => (kz_rem ((Y 1 0) + 1) 6))) else (va_up Y 2 (fun _ => ((Y 2 0) + 1)))
set_option maxHeartbeats 4000000 in
set_option maxRecDepth 100000 in
theorem c_X0_keepPrepared (l : Launch) (G : kz_G) (h : Nat → Nat) (rw : Nat → Nat) (Y : kz_S) : kz_mv l G yX0_keepPrepared wsX0_keepPrepared 0 0 [.ref (h 0)] [hsW G h rw Y] [hsW G h rw (X0_keepPrepared_s Y)] := by
  intro sz
  refine Met.ofW (cc := cX0_keepPrepared) (maxL := 1) (ret := none) (by decide) rfl ?_
  intro p e s m args below meth c s₁ B hml hv
  obtain ⟨rfl, hsz, hP, hK, hD0⟩ := hv
  have hx := B.exec
  have hb := B.bytes
  have hr := B.returns
  have hts := atoms_spec (ws := wsX0_keepPrepared) B.pre
  have hown : s.vm.findClass RX0 = some m.cls := findClass_of_methodNamed B.named
  have hlocks := B.notSynchronized
  have hinX0 : ∀ w ∈ u_ws RX0 TX0 3, w ∈ wsX0_keepPrepared := by decide +kernel
  subst hsz
  have hD := hD0.self (sz := s.heap.size)
  generalize hAe : kz_A [hsW G h rw Y] s.heap.size = A at hD ⊢
  have hA : ∀ q : Nat, s.heap.size ≤ q → A q := fun q h => by rw [← hAe]; exact Or.inr h
  have hS : va_S A s.heap s.heap [] := va_S.rf
  have hl := lv_entry ([.ref (h 0)]) (n := 1) (Nat.le_of_ble_eq_true rfl)
  rw [lg_entry_eq]
  generalize (lg_sl ([.ref (h 0)]) ++ List.replicate (1 - (lg_sl ([.ref (h 0)])).length) Slot.unset).toArray = ls at hl ⊢
  have hl : lv_has ls 1 [(0, .ref (h 0))] := hl
  refine kz_start (fun QQ hQ => ?_)
  have hP : kz_P G [hsW G h rw Y] s.heap := hP
  refine lv_aload_n hx hb dX0_keepPrepared_0 rfl (lv_at hl 0 rfl) ?_
  refine va_get (D := G.1) (ci := 0) (v := .int (Y 2 0)) (C := RX0) (T := TX0) (N := 3) hx hb hts hinX0 hown hK.1 hP 0 rfl rfl 2 (by decide) (hts (.fieldLink RX0 20 "ParcelShelves$History" "count" "I") (by decide +kernel)) (fun _ h9 => h9) rfl dX0_keepPrepared_1 ?_
  refine lv_iconst (v := 5) hx hb dX0_keepPrepared_4 (by decide +kernel) ?_
  refine lv_icmp_ge (tgt := 21) hx hb dX0_keepPrepared_5 (by decide) (fun c_1 => ?_) (fun c_1 => ?_)
  · refine lv_aload_n hx hb dX0_keepPrepared_21 rfl (lv_at hl 0 rfl) ?_
    refine lv_aload_n hx hb dX0_keepPrepared_22 rfl (lv_at hl 0 rfl) ?_
    refine va_get (D := G.1) (ci := 0) (v := .int (Y 1 0)) (C := RX0) (T := TX0) (N := 3) hx hb hts hinX0 hown hK.1 hP 0 rfl rfl 1 (by decide) (hts (.fieldLink RX0 16 "ParcelShelves$History" "oldest" "I") (by decide +kernel)) (fun _ h9 => h9) rfl dX0_keepPrepared_23 ?_
    refine lv_iconst (v := 1) hx hb dX0_keepPrepared_26 (by decide +kernel) ?_
    refine lv_iadd hx hb dX0_keepPrepared_27 ?_
    refine lv_bipush (v := 6) hx hb dX0_keepPrepared_28 (by decide +kernel) ?_
    refine lv_irem hx hb dX0_keepPrepared_30 (by decide +kernel) ?_
    refine kz_topR ?_
    refine va_put (D := G.1) (ci := 0) (v := .int (kz_rem ((Y 1 0) + 1) 6)) (ty := .int) (C := RX0) (T := TX0) (N := 3) hx hb hts hinX0 tyX0 tyX0_ok nmX0 hown hK.1 hP hD hS 0 rfl rfl 1 (by decide) (hts (.fieldLink RX0 16 "ParcelShelves$History" "oldest" "I") (by decide +kernel)) (fun _ h9 => h9) rfl (by decide +kernel) rfl rfl (Nat.le_of_ble_eq_true rfl) dX0_keepPrepared_31 (fun H locs hP hD hS => ?_)
    have hP : kz_P G [hsW G h rw (va_up Y 1 (fun _ => (kz_rem ((Y 1 0) + 1) 6)))] H := hP
    have hD : kz_D A [hsW G h rw (va_up Y 1 (fun _ => (kz_rem ((Y 1 0) + 1) 6)))] := hD
    subst hQ
    have hP9 : kz_P G [hsW G h rw (X0_keepPrepared_s Y)] H := by rw [X0_keepPrepared_s, if_pos c_1]; exact hP
    have hD9 : kz_D A [hsW G h rw (X0_keepPrepared_s Y)] := by rw [X0_keepPrepared_s, if_pos c_1]; exact hD
    exact W.vret hx hb hr (fun t ht hW => ⟨⟨(), rfl, trivial, by rw [ht]; exact hP9, hD9⟩, hS.F ht⟩) hS.2.2 dX0_keepPrepared_34
  · refine lv_aload_n hx hb dX0_keepPrepared_8 rfl (lv_at hl 0 rfl) ?_
    refine lv_dup hx hb dX0_keepPrepared_9 rfl ?_
    refine va_get (D := G.1) (ci := 0) (v := .int (Y 2 0)) (C := RX0) (T := TX0) (N := 3) hx hb hts hinX0 hown hK.1 hP 0 rfl rfl 2 (by decide) (hts (.fieldLink RX0 20 "ParcelShelves$History" "count" "I") (by decide +kernel)) (fun _ h9 => h9) rfl dX0_keepPrepared_10 ?_
    refine lv_iconst (v := 1) hx hb dX0_keepPrepared_13 (by decide +kernel) ?_
    refine lv_iadd hx hb dX0_keepPrepared_14 ?_
    refine va_put (D := G.1) (ci := 0) (v := .int ((Y 2 0) + 1)) (ty := .int) (C := RX0) (T := TX0) (N := 3) hx hb hts hinX0 tyX0 tyX0_ok nmX0 hown hK.1 hP hD hS 0 rfl rfl 2 (by decide) (hts (.fieldLink RX0 20 "ParcelShelves$History" "count" "I") (by decide +kernel)) (fun _ h9 => h9) rfl (by decide +kernel) rfl rfl (Nat.le_of_ble_eq_true rfl) dX0_keepPrepared_15 (fun H locs hP hD hS => ?_)
    have hP : kz_P G [hsW G h rw (va_up Y 2 (fun _ => ((Y 2 0) + 1)))] H := hP
    have hD : kz_D A [hsW G h rw (va_up Y 2 (fun _ => ((Y 2 0) + 1)))] := hD
    refine lv_goto (tgt := 34) hx hb dX0_keepPrepared_18 (by decide) ?_
    subst hQ
    have hP9 : kz_P G [hsW G h rw (X0_keepPrepared_s Y)] H := by rw [X0_keepPrepared_s, if_neg c_1]; exact hP
    have hD9 : kz_D A [hsW G h rw (X0_keepPrepared_s Y)] := by rw [X0_keepPrepared_s, if_neg c_1]; exact hD
    exact W.vret hx hb hr (fun t ht hW => ⟨⟨(), rfl, trivial, by rw [ht]; exact hP9, hD9⟩, hS.F ht⟩) hS.2.2 dX0_keepPrepared_34
def X0_takeBack_Y (Y : kz_S) : kz_S := va_up Y 2 (fun _ => Y 2 0 - 1)
set_option maxHeartbeats 4000000 in
set_option maxRecDepth 100000 in
theorem c_X0_takeBack (l : Launch) (G : kz_G) (h : Nat → Nat) (Y : kz_S) (b : Nat → Nat → Nat) (R : Nat → kz_S) (a : Nat → Nat) (S : kz_S) (hO : ∃ o, o < 6 ∧ Y 1 0 = nI o) (hC : ∃ c, c < 5 ∧ Y 2 0 = nI (c + 1)) : kz_mi l G yX0_takeBack wsX0_takeBack 2 47 [.ref (h 0), .ref (a 0)] [hsW G h (fun j => b j 0) Y, shW G (b 0) (R 0), shW G (b 1) (R 1), shW G (b 2) (R 2), shW G (b 3) (R 3), shW G (b 4) (R 4), shW G (b 5) (R 5), shW G a S] [hsW G h (fun j => b j 0) (X0_takeBack_Y Y), shW G (b 0) (R 0), shW G (b 1) (R 1), shW G (b 2) (R 2), shW G (b 3) (R 3), shW G (b 4) (R 4), shW G (b 5) (R 5), shW G a (R (kz_top (X0_takeBack_Y Y)))] (Y 2 0 - 1) := by
  intro sz
  refine Met.ofW (cc := cX0_takeBack) (maxL := 2) (ret := (some .int)) (by decide) rfl ?_
  intro p e s m args below meth c s₁ B hml hv
  obtain ⟨rfl, hsz, hP, hK, hD0⟩ := hv
  have hx := B.exec
  have hb := B.bytes
  have hr := B.returns
  have hts := atoms_spec (ws := wsX0_takeBack) B.pre
  have hown : s.vm.findClass RX0 = some m.cls := findClass_of_methodNamed B.named
  have hlocks := B.notSynchronized
  have hinX0 : ∀ w ∈ u_ws RX0 TX0 3, w ∈ wsX0_takeBack := by decide +kernel
  subst hsz
  have hD := hD0.self (sz := s.heap.size)
  generalize hAe : kz_A [hsW G h (fun j => b j 0) Y, shW G (b 0) (R 0), shW G (b 1) (R 1), shW G (b 2) (R 2), shW G (b 3) (R 3), shW G (b 4) (R 4), shW G (b 5) (R 5), shW G a S] s.heap.size = A at hD ⊢
  have hA : ∀ q : Nat, s.heap.size ≤ q → A q := fun q h => by rw [← hAe]; exact Or.inr h
  have hS : va_S A s.heap s.heap [] := va_S.rf
  have hl := lv_entry ([.ref (h 0), .ref (a 0)]) (n := 2) (Nat.le_of_ble_eq_true rfl)
  rw [lg_entry_eq]
  generalize (lg_sl ([.ref (h 0), .ref (a 0)]) ++ List.replicate (2 - (lg_sl ([.ref (h 0), .ref (a 0)])).length) Slot.unset).toArray = ls at hl ⊢
  have hl : lv_has ls 2 [(0, .ref (h 0)), (1, .ref (a 0))] := hl
  refine kz_start (fun QQ hQ => ?_)
  have hP : kz_P G [hsW G h (fun j => b j 0) Y, shW G (b 0) (R 0), shW G (b 1) (R 1), shW G (b 2) (R 2), shW G (b 3) (R 3), shW G (b 4) (R 4), shW G (b 5) (R 5), shW G a S] s.heap := hP
  obtain ⟨o, ho, eo⟩ := hO
  obtain ⟨cn, hcn, ecn⟩ := hC
  have etop : kz_rem (Y 1 0 + (Y 2 0 - 1)) 6 = nI ((o + cn) % 6) := by rw [eo, ecn, nI_pred, nI_add]; exact kz_remN (d := 6) (by omega) (by omega) (by omega)
  have htop : kz_top (X0_takeBack_Y Y) = (o + cn) % 6 := by show (kz_rem (Y 1 0 + (Y 2 0 - 1)) 6).toNatClampNeg = _; rw [etop]; exact nI_clamp (by omega)
  refine lv_aload_n hx hb dX0_takeBack_0 rfl (lv_at hl 0 rfl) ?_
  refine lv_dup hx hb dX0_takeBack_1 rfl ?_
  refine va_get (D := G.1) (ci := 0) (v := .int (Y 2 0)) (C := RX0) (T := TX0) (N := 3) hx hb hts hinX0 hown hK.1 hP 0 rfl rfl 2 (by decide) (hts (.fieldLink RX0 20 "ParcelShelves$History" "count" "I") (by decide +kernel)) (fun _ h9 => h9) rfl dX0_takeBack_2 ?_
  refine lv_iconst (v := 1) hx hb dX0_takeBack_5 (by decide +kernel) ?_
  refine lv_isub hx hb dX0_takeBack_6 ?_
  refine va_put (D := G.1) (ci := 0) (v := .int ((Y 2 0) - 1)) (ty := .int) (C := RX0) (T := TX0) (N := 3) hx hb hts hinX0 tyX0 tyX0_ok nmX0 hown hK.1 hP hD hS 0 rfl rfl 2 (by decide) (hts (.fieldLink RX0 20 "ParcelShelves$History" "count" "I") (by decide +kernel)) (fun _ h9 => h9) rfl (by decide +kernel) rfl rfl (Nat.le_of_ble_eq_true rfl) dX0_takeBack_7 (fun H locs hP hD hS => ?_)
  have hP : kz_P G [hsW G h (fun j => b j 0) (va_up Y 2 (fun _ => ((Y 2 0) - 1))), shW G (b 0) (R 0), shW G (b 1) (R 1), shW G (b 2) (R 2), shW G (b 3) (R 3), shW G (b 4) (R 4), shW G (b 5) (R 5), shW G a S] H := hP
  have hD : kz_D A [hsW G h (fun j => b j 0) (va_up Y 2 (fun _ => ((Y 2 0) - 1))), shW G (b 0) (R 0), shW G (b 1) (R 1), shW G (b 2) (R 2), shW G (b 3) (R 3), shW G (b 4) (R 4), shW G (b 5) (R 5), shW G a S] := hD
  refine lv_aload_n hx hb dX0_takeBack_10 rfl (lv_at hl 1 rfl) ?_
  refine lv_aload_n hx hb dX0_takeBack_11 rfl (lv_at hl 0 rfl) ?_
  refine va_get (D := G.1) (ci := 0) (v := .ref (h 1)) (C := RX0) (T := TX0) (N := 3) hx hb hts hinX0 hown hK.1 hP 0 rfl rfl 0 (by decide) (hts (.fieldLink RX0 11 "ParcelShelves$History" "rows" "[LParcelShelves$Shop;") (by decide +kernel)) (fun _ h9 => h9) rfl dX0_takeBack_12 ?_
  refine lv_aload_n hx hb dX0_takeBack_15 rfl (lv_at hl 0 rfl) ?_
  refine va_get (D := G.1) (ci := 0) (v := .int (Y 1 0)) (C := RX0) (T := TX0) (N := 3) hx hb hts hinX0 hown hK.1 hP 0 rfl rfl 1 (by decide) (hts (.fieldLink RX0 16 "ParcelShelves$History" "oldest" "I") (by decide +kernel)) (fun _ h9 => h9) rfl dX0_takeBack_16 ?_
  refine lv_aload_n hx hb dX0_takeBack_19 rfl (lv_at hl 0 rfl) ?_
  refine va_get (D := G.1) (ci := 0) (v := .int ((Y 2 0) - 1)) (C := RX0) (T := TX0) (N := 3) hx hb hts hinX0 hown hK.1 hP 0 rfl rfl 2 (by decide) (hts (.fieldLink RX0 20 "ParcelShelves$History" "count" "I") (by decide +kernel)) (fun _ h9 => h9) rfl dX0_takeBack_20 ?_
  refine lv_iadd hx hb dX0_takeBack_23 ?_
  refine lv_bipush (v := 6) hx hb dX0_takeBack_24 (by decide +kernel) ?_
  refine lv_irem hx hb dX0_takeBack_26 (by decide +kernel) ?_
  refine kz_topR ?_
  refine lv_topi (fun y_1 ey_2 => ?_)
  obtain rfl : y_1 = (nI ((o + cn) % 6)) := by rw [ey_2]; exact etop
  have hk_3 : ((o + cn) % 6) = 0 ∨ ((o + cn) % 6) = 1 ∨ ((o + cn) % 6) = 2 ∨ ((o + cn) % 6) = 3 ∨ ((o + cn) % 6) = 4 ∨ ((o + cn) % 6) = 5 := by omega
  rcases hk_3 with hk_3 | hk_3 | hk_3 | hk_3 | hk_3 | hk_3
  · rw [hk_3]
    refine va_aldq hx hb hK.1 hP 1 2 rfl rfl (vp_in_nI (n := 0) (N := 6) (by decide) (by decide)) dX0_takeBack_27 ?_
    refine W.eq (g2 := F0 m 28 ls [.ref ((b 0) 0), .ref (a 0)]) rfl ?_
    refine kz_mvV (As := [.ref ((b 0) 0)]) (rest := []) (b := a 0) (wr := [hsW G h (fun j => b j 0) (va_up Y 2 (fun _ => ((Y 2 0) - 1))), shW G (b 1) (R 1), shW G (b 2) (R 2), shW G (b 3) (R 3), shW G (b 4) (R 4), shW G (b 5) (R 5)]) (bs' := [hsW G h (fun j => b j 0) (va_up Y 2 (fun _ => ((Y 2 0) - 1))), shW G (b 0) (R 0), shW G (b 1) (R 1), shW G (b 2) (R 2), shW G (b 3) (R 3), shW G (b 4) (R 4), shW G (b 5) (R 5), shW G a (R 0)]) ⟨hx, hb, hml, hown, hts⟩ (c_X1_copyFrom l G a S (b 0) (R 0)) (cwV 1 hts gX0_takeBack_X1_copyFrom rfl rfl rfl (by decide +kernel) ⟨Nat.le_of_ble_eq_true rfl, Nat.le_of_ble_eq_true rfl⟩) hK hP hD hS hA [7, 1] [0, 2, 3, 4, 5, 6] [0, 7, 1, 2, 3, 4, 5, 6] rfl (by decide) rfl (by decide) (by decide) rfl (by decide) (kz_recv hK hP (ci := 1) (q0 := 68) rfl rfl) rfl hl.1 rfl (Nat.le_of_ble_eq_true rfl) dX0_takeBack_28 ⟨Nat.le_of_ble_eq_true rfl, Nat.le_of_ble_eq_true rfl⟩ (fun H locs hP hD hS => ?_)
    refine lv_aload_n hx hb dX0_takeBack_31 rfl (lv_at hl 0 rfl) ?_
    refine va_get (D := G.1) (ci := 0) (v := .int ((Y 2 0) - 1)) (C := RX0) (T := TX0) (N := 3) hx hb hts hinX0 hown hK.1 hP 0 rfl rfl 2 (by decide) (hts (.fieldLink RX0 20 "ParcelShelves$History" "count" "I") (by decide +kernel)) (fun _ h9 => h9) rfl dX0_takeBack_32 ?_
    subst hQ
    have hP9 : kz_P G [hsW G h (fun j => b j 0) (X0_takeBack_Y Y), shW G (b 0) (R 0), shW G (b 1) (R 1), shW G (b 2) (R 2), shW G (b 3) (R 3), shW G (b 4) (R 4), shW G (b 5) (R 5), shW G a (R (kz_top (X0_takeBack_Y Y)))] H := by rw [htop, hk_3]; exact hP
    have hD9 : kz_D A [hsW G h (fun j => b j 0) (X0_takeBack_Y Y), shW G (b 0) (R 0), shW G (b 1) (R 1), shW G (b 2) (R 2), shW G (b 3) (R 3), shW G (b 4) (R 4), shW G (b 5) (R 5), shW G a (R (kz_top (X0_takeBack_Y Y)))] := by rw [htop, hk_3]; exact hD
    exact W.iret (v := ((Y 2 0) - 1)) hx hb hr (fun t ht hW => ⟨⟨((Y 2 0) - 1), (), rfl, rfl, by rw [ht]; exact hP9, hD9⟩, hS.F ht⟩) hS.2.2 dX0_takeBack_35
  · rw [hk_3]
    refine va_aldq hx hb hK.1 hP 1 2 rfl rfl (vp_in_nI (n := 1) (N := 6) (by decide) (by decide)) dX0_takeBack_27 ?_
    refine W.eq (g2 := F0 m 28 ls [.ref ((b 1) 0), .ref (a 0)]) rfl ?_
    refine kz_mvV (As := [.ref ((b 1) 0)]) (rest := []) (b := a 0) (wr := [hsW G h (fun j => b j 0) (va_up Y 2 (fun _ => ((Y 2 0) - 1))), shW G (b 0) (R 0), shW G (b 2) (R 2), shW G (b 3) (R 3), shW G (b 4) (R 4), shW G (b 5) (R 5)]) (bs' := [hsW G h (fun j => b j 0) (va_up Y 2 (fun _ => ((Y 2 0) - 1))), shW G (b 0) (R 0), shW G (b 1) (R 1), shW G (b 2) (R 2), shW G (b 3) (R 3), shW G (b 4) (R 4), shW G (b 5) (R 5), shW G a (R 1)]) ⟨hx, hb, hml, hown, hts⟩ (c_X1_copyFrom l G a S (b 1) (R 1)) (cwV 1 hts gX0_takeBack_X1_copyFrom rfl rfl rfl (by decide +kernel) ⟨Nat.le_of_ble_eq_true rfl, Nat.le_of_ble_eq_true rfl⟩) hK hP hD hS hA [7, 2] [0, 1, 3, 4, 5, 6] [0, 1, 7, 2, 3, 4, 5, 6] rfl (by decide) rfl (by decide) (by decide) rfl (by decide) (kz_recv hK hP (ci := 1) (q0 := 68) rfl rfl) rfl hl.1 rfl (Nat.le_of_ble_eq_true rfl) dX0_takeBack_28 ⟨Nat.le_of_ble_eq_true rfl, Nat.le_of_ble_eq_true rfl⟩ (fun H locs hP hD hS => ?_)
    refine lv_aload_n hx hb dX0_takeBack_31 rfl (lv_at hl 0 rfl) ?_
    refine va_get (D := G.1) (ci := 0) (v := .int ((Y 2 0) - 1)) (C := RX0) (T := TX0) (N := 3) hx hb hts hinX0 hown hK.1 hP 0 rfl rfl 2 (by decide) (hts (.fieldLink RX0 20 "ParcelShelves$History" "count" "I") (by decide +kernel)) (fun _ h9 => h9) rfl dX0_takeBack_32 ?_
    subst hQ
    have hP9 : kz_P G [hsW G h (fun j => b j 0) (X0_takeBack_Y Y), shW G (b 0) (R 0), shW G (b 1) (R 1), shW G (b 2) (R 2), shW G (b 3) (R 3), shW G (b 4) (R 4), shW G (b 5) (R 5), shW G a (R (kz_top (X0_takeBack_Y Y)))] H := by rw [htop, hk_3]; exact hP
    have hD9 : kz_D A [hsW G h (fun j => b j 0) (X0_takeBack_Y Y), shW G (b 0) (R 0), shW G (b 1) (R 1), shW G (b 2) (R 2), shW G (b 3) (R 3), shW G (b 4) (R 4), shW G (b 5) (R 5), shW G a (R (kz_top (X0_takeBack_Y Y)))] := by rw [htop, hk_3]; exact hD
    exact W.iret (v := ((Y 2 0) - 1)) hx hb hr (fun t ht hW => ⟨⟨((Y 2 0) - 1), (), rfl, rfl, by rw [ht]; exact hP9, hD9⟩, hS.F ht⟩) hS.2.2 dX0_takeBack_35
  · rw [hk_3]
    refine va_aldq hx hb hK.1 hP 1 2 rfl rfl (vp_in_nI (n := 2) (N := 6) (by decide) (by decide)) dX0_takeBack_27 ?_
    refine W.eq (g2 := F0 m 28 ls [.ref ((b 2) 0), .ref (a 0)]) rfl ?_
    refine kz_mvV (As := [.ref ((b 2) 0)]) (rest := []) (b := a 0) (wr := [hsW G h (fun j => b j 0) (va_up Y 2 (fun _ => ((Y 2 0) - 1))), shW G (b 0) (R 0), shW G (b 1) (R 1), shW G (b 3) (R 3), shW G (b 4) (R 4), shW G (b 5) (R 5)]) (bs' := [hsW G h (fun j => b j 0) (va_up Y 2 (fun _ => ((Y 2 0) - 1))), shW G (b 0) (R 0), shW G (b 1) (R 1), shW G (b 2) (R 2), shW G (b 3) (R 3), shW G (b 4) (R 4), shW G (b 5) (R 5), shW G a (R 2)]) ⟨hx, hb, hml, hown, hts⟩ (c_X1_copyFrom l G a S (b 2) (R 2)) (cwV 1 hts gX0_takeBack_X1_copyFrom rfl rfl rfl (by decide +kernel) ⟨Nat.le_of_ble_eq_true rfl, Nat.le_of_ble_eq_true rfl⟩) hK hP hD hS hA [7, 3] [0, 1, 2, 4, 5, 6] [0, 1, 2, 7, 3, 4, 5, 6] rfl (by decide) rfl (by decide) (by decide) rfl (by decide) (kz_recv hK hP (ci := 1) (q0 := 68) rfl rfl) rfl hl.1 rfl (Nat.le_of_ble_eq_true rfl) dX0_takeBack_28 ⟨Nat.le_of_ble_eq_true rfl, Nat.le_of_ble_eq_true rfl⟩ (fun H locs hP hD hS => ?_)
    refine lv_aload_n hx hb dX0_takeBack_31 rfl (lv_at hl 0 rfl) ?_
    refine va_get (D := G.1) (ci := 0) (v := .int ((Y 2 0) - 1)) (C := RX0) (T := TX0) (N := 3) hx hb hts hinX0 hown hK.1 hP 0 rfl rfl 2 (by decide) (hts (.fieldLink RX0 20 "ParcelShelves$History" "count" "I") (by decide +kernel)) (fun _ h9 => h9) rfl dX0_takeBack_32 ?_
    subst hQ
    have hP9 : kz_P G [hsW G h (fun j => b j 0) (X0_takeBack_Y Y), shW G (b 0) (R 0), shW G (b 1) (R 1), shW G (b 2) (R 2), shW G (b 3) (R 3), shW G (b 4) (R 4), shW G (b 5) (R 5), shW G a (R (kz_top (X0_takeBack_Y Y)))] H := by rw [htop, hk_3]; exact hP
    have hD9 : kz_D A [hsW G h (fun j => b j 0) (X0_takeBack_Y Y), shW G (b 0) (R 0), shW G (b 1) (R 1), shW G (b 2) (R 2), shW G (b 3) (R 3), shW G (b 4) (R 4), shW G (b 5) (R 5), shW G a (R (kz_top (X0_takeBack_Y Y)))] := by rw [htop, hk_3]; exact hD
    exact W.iret (v := ((Y 2 0) - 1)) hx hb hr (fun t ht hW => ⟨⟨((Y 2 0) - 1), (), rfl, rfl, by rw [ht]; exact hP9, hD9⟩, hS.F ht⟩) hS.2.2 dX0_takeBack_35
  · rw [hk_3]
    refine va_aldq hx hb hK.1 hP 1 2 rfl rfl (vp_in_nI (n := 3) (N := 6) (by decide) (by decide)) dX0_takeBack_27 ?_
    refine W.eq (g2 := F0 m 28 ls [.ref ((b 3) 0), .ref (a 0)]) rfl ?_
    refine kz_mvV (As := [.ref ((b 3) 0)]) (rest := []) (b := a 0) (wr := [hsW G h (fun j => b j 0) (va_up Y 2 (fun _ => ((Y 2 0) - 1))), shW G (b 0) (R 0), shW G (b 1) (R 1), shW G (b 2) (R 2), shW G (b 4) (R 4), shW G (b 5) (R 5)]) (bs' := [hsW G h (fun j => b j 0) (va_up Y 2 (fun _ => ((Y 2 0) - 1))), shW G (b 0) (R 0), shW G (b 1) (R 1), shW G (b 2) (R 2), shW G (b 3) (R 3), shW G (b 4) (R 4), shW G (b 5) (R 5), shW G a (R 3)]) ⟨hx, hb, hml, hown, hts⟩ (c_X1_copyFrom l G a S (b 3) (R 3)) (cwV 1 hts gX0_takeBack_X1_copyFrom rfl rfl rfl (by decide +kernel) ⟨Nat.le_of_ble_eq_true rfl, Nat.le_of_ble_eq_true rfl⟩) hK hP hD hS hA [7, 4] [0, 1, 2, 3, 5, 6] [0, 1, 2, 3, 7, 4, 5, 6] rfl (by decide) rfl (by decide) (by decide) rfl (by decide) (kz_recv hK hP (ci := 1) (q0 := 68) rfl rfl) rfl hl.1 rfl (Nat.le_of_ble_eq_true rfl) dX0_takeBack_28 ⟨Nat.le_of_ble_eq_true rfl, Nat.le_of_ble_eq_true rfl⟩ (fun H locs hP hD hS => ?_)
    refine lv_aload_n hx hb dX0_takeBack_31 rfl (lv_at hl 0 rfl) ?_
    refine va_get (D := G.1) (ci := 0) (v := .int ((Y 2 0) - 1)) (C := RX0) (T := TX0) (N := 3) hx hb hts hinX0 hown hK.1 hP 0 rfl rfl 2 (by decide) (hts (.fieldLink RX0 20 "ParcelShelves$History" "count" "I") (by decide +kernel)) (fun _ h9 => h9) rfl dX0_takeBack_32 ?_
    subst hQ
    have hP9 : kz_P G [hsW G h (fun j => b j 0) (X0_takeBack_Y Y), shW G (b 0) (R 0), shW G (b 1) (R 1), shW G (b 2) (R 2), shW G (b 3) (R 3), shW G (b 4) (R 4), shW G (b 5) (R 5), shW G a (R (kz_top (X0_takeBack_Y Y)))] H := by rw [htop, hk_3]; exact hP
    have hD9 : kz_D A [hsW G h (fun j => b j 0) (X0_takeBack_Y Y), shW G (b 0) (R 0), shW G (b 1) (R 1), shW G (b 2) (R 2), shW G (b 3) (R 3), shW G (b 4) (R 4), shW G (b 5) (R 5), shW G a (R (kz_top (X0_takeBack_Y Y)))] := by rw [htop, hk_3]; exact hD
    exact W.iret (v := ((Y 2 0) - 1)) hx hb hr (fun t ht hW => ⟨⟨((Y 2 0) - 1), (), rfl, rfl, by rw [ht]; exact hP9, hD9⟩, hS.F ht⟩) hS.2.2 dX0_takeBack_35
  · rw [hk_3]
    refine va_aldq hx hb hK.1 hP 1 2 rfl rfl (vp_in_nI (n := 4) (N := 6) (by decide) (by decide)) dX0_takeBack_27 ?_
    refine W.eq (g2 := F0 m 28 ls [.ref ((b 4) 0), .ref (a 0)]) rfl ?_
    refine kz_mvV (As := [.ref ((b 4) 0)]) (rest := []) (b := a 0) (wr := [hsW G h (fun j => b j 0) (va_up Y 2 (fun _ => ((Y 2 0) - 1))), shW G (b 0) (R 0), shW G (b 1) (R 1), shW G (b 2) (R 2), shW G (b 3) (R 3), shW G (b 5) (R 5)]) (bs' := [hsW G h (fun j => b j 0) (va_up Y 2 (fun _ => ((Y 2 0) - 1))), shW G (b 0) (R 0), shW G (b 1) (R 1), shW G (b 2) (R 2), shW G (b 3) (R 3), shW G (b 4) (R 4), shW G (b 5) (R 5), shW G a (R 4)]) ⟨hx, hb, hml, hown, hts⟩ (c_X1_copyFrom l G a S (b 4) (R 4)) (cwV 1 hts gX0_takeBack_X1_copyFrom rfl rfl rfl (by decide +kernel) ⟨Nat.le_of_ble_eq_true rfl, Nat.le_of_ble_eq_true rfl⟩) hK hP hD hS hA [7, 5] [0, 1, 2, 3, 4, 6] [0, 1, 2, 3, 4, 7, 5, 6] rfl (by decide) rfl (by decide) (by decide) rfl (by decide) (kz_recv hK hP (ci := 1) (q0 := 68) rfl rfl) rfl hl.1 rfl (Nat.le_of_ble_eq_true rfl) dX0_takeBack_28 ⟨Nat.le_of_ble_eq_true rfl, Nat.le_of_ble_eq_true rfl⟩ (fun H locs hP hD hS => ?_)
    refine lv_aload_n hx hb dX0_takeBack_31 rfl (lv_at hl 0 rfl) ?_
    refine va_get (D := G.1) (ci := 0) (v := .int ((Y 2 0) - 1)) (C := RX0) (T := TX0) (N := 3) hx hb hts hinX0 hown hK.1 hP 0 rfl rfl 2 (by decide) (hts (.fieldLink RX0 20 "ParcelShelves$History" "count" "I") (by decide +kernel)) (fun _ h9 => h9) rfl dX0_takeBack_32 ?_
    subst hQ
    have hP9 : kz_P G [hsW G h (fun j => b j 0) (X0_takeBack_Y Y), shW G (b 0) (R 0), shW G (b 1) (R 1), shW G (b 2) (R 2), shW G (b 3) (R 3), shW G (b 4) (R 4), shW G (b 5) (R 5), shW G a (R (kz_top (X0_takeBack_Y Y)))] H := by rw [htop, hk_3]; exact hP
    have hD9 : kz_D A [hsW G h (fun j => b j 0) (X0_takeBack_Y Y), shW G (b 0) (R 0), shW G (b 1) (R 1), shW G (b 2) (R 2), shW G (b 3) (R 3), shW G (b 4) (R 4), shW G (b 5) (R 5), shW G a (R (kz_top (X0_takeBack_Y Y)))] := by rw [htop, hk_3]; exact hD
    exact W.iret (v := ((Y 2 0) - 1)) hx hb hr (fun t ht hW => ⟨⟨((Y 2 0) - 1), (), rfl, rfl, by rw [ht]; exact hP9, hD9⟩, hS.F ht⟩) hS.2.2 dX0_takeBack_35
  · rw [hk_3]
    refine va_aldq hx hb hK.1 hP 1 2 rfl rfl (vp_in_nI (n := 5) (N := 6) (by decide) (by decide)) dX0_takeBack_27 ?_
    refine W.eq (g2 := F0 m 28 ls [.ref ((b 5) 0), .ref (a 0)]) rfl ?_
    refine kz_mvV (As := [.ref ((b 5) 0)]) (rest := []) (b := a 0) (wr := [hsW G h (fun j => b j 0) (va_up Y 2 (fun _ => ((Y 2 0) - 1))), shW G (b 0) (R 0), shW G (b 1) (R 1), shW G (b 2) (R 2), shW G (b 3) (R 3), shW G (b 4) (R 4)]) (bs' := [hsW G h (fun j => b j 0) (va_up Y 2 (fun _ => ((Y 2 0) - 1))), shW G (b 0) (R 0), shW G (b 1) (R 1), shW G (b 2) (R 2), shW G (b 3) (R 3), shW G (b 4) (R 4), shW G (b 5) (R 5), shW G a (R 5)]) ⟨hx, hb, hml, hown, hts⟩ (c_X1_copyFrom l G a S (b 5) (R 5)) (cwV 1 hts gX0_takeBack_X1_copyFrom rfl rfl rfl (by decide +kernel) ⟨Nat.le_of_ble_eq_true rfl, Nat.le_of_ble_eq_true rfl⟩) hK hP hD hS hA [7, 6] [0, 1, 2, 3, 4, 5] [0, 1, 2, 3, 4, 5, 7, 6] rfl (by decide) rfl (by decide) (by decide) rfl (by decide) (kz_recv hK hP (ci := 1) (q0 := 68) rfl rfl) rfl hl.1 rfl (Nat.le_of_ble_eq_true rfl) dX0_takeBack_28 ⟨Nat.le_of_ble_eq_true rfl, Nat.le_of_ble_eq_true rfl⟩ (fun H locs hP hD hS => ?_)
    refine lv_aload_n hx hb dX0_takeBack_31 rfl (lv_at hl 0 rfl) ?_
    refine va_get (D := G.1) (ci := 0) (v := .int ((Y 2 0) - 1)) (C := RX0) (T := TX0) (N := 3) hx hb hts hinX0 hown hK.1 hP 0 rfl rfl 2 (by decide) (hts (.fieldLink RX0 20 "ParcelShelves$History" "count" "I") (by decide +kernel)) (fun _ h9 => h9) rfl dX0_takeBack_32 ?_
    subst hQ
    have hP9 : kz_P G [hsW G h (fun j => b j 0) (X0_takeBack_Y Y), shW G (b 0) (R 0), shW G (b 1) (R 1), shW G (b 2) (R 2), shW G (b 3) (R 3), shW G (b 4) (R 4), shW G (b 5) (R 5), shW G a (R (kz_top (X0_takeBack_Y Y)))] H := by rw [htop, hk_3]; exact hP
    have hD9 : kz_D A [hsW G h (fun j => b j 0) (X0_takeBack_Y Y), shW G (b 0) (R 0), shW G (b 1) (R 1), shW G (b 2) (R 2), shW G (b 3) (R 3), shW G (b 4) (R 4), shW G (b 5) (R 5), shW G a (R (kz_top (X0_takeBack_Y Y)))] := by rw [htop, hk_3]; exact hD
    exact W.iret (v := ((Y 2 0) - 1)) hx hb hr (fun t ht hW => ⟨⟨((Y 2 0) - 1), (), rfl, rfl, by rw [ht]; exact hP9, hD9⟩, hS.F ht⟩) hS.2.2 dX0_takeBack_35
abbrev X2_isEndAllowed_p (p0 : Int32) : Prop := ((p0 = 6) ∨ ((p0 = 4) ∨ (p0 = 5)))
set_option maxHeartbeats 4000000 in
set_option maxRecDepth 100000 in
theorem c_X2_isEndAllowed (l : Launch) (G : kz_G) (p0 : Int32) : kz_rd l G yX2_isEndAllowed wsX2_isEndAllowed 0 0 [.int p0] [] (if X2_isEndAllowed_p p0 then 1 else 0) := by
  refine Met.ofW (cc := cX2_isEndAllowed) (maxL := 1) (ret := (some .boolean)) (by decide) rfl ?_
  intro p e s m args below meth c s₁ B hml hv
  obtain ⟨rfl, hP, hK⟩ := hv
  have hx := B.exec
  have hb := B.bytes
  have hr := B.returns
  have hts := atoms_spec (ws := wsX2_isEndAllowed) B.pre
  have hown : s.vm.findClass RX2 = some m.cls := findClass_of_methodNamed B.named
  have hlocks := B.notSynchronized
  have hl := lv_entry ([.int p0]) (n := 1) (Nat.le_of_ble_eq_true rfl)
  rw [lg_entry_eq]
  generalize (lg_sl ([.int p0]) ++ List.replicate (1 - (lg_sl ([.int p0])).length) Slot.unset).toArray = ls at hl ⊢
  have hl : lv_has ls 1 [(0, .int p0)] := hl
  refine kz_start (fun QQ hQ => ?_)
  refine lv_iload_n hx hb dX2_isEndAllowed_0 rfl (lv_at hl 0 rfl) ?_
  refine lv_bipush (v := 6) hx hb dX2_isEndAllowed_1 (by decide +kernel) ?_
  refine lv_icmp_eq (tgt := 16) hx hb dX2_isEndAllowed_3 (by decide) (fun c_1 => ?_) (fun c_1 => ?_)
  · refine lv_iconst (v := 1) hx hb dX2_isEndAllowed_16 (by decide +kernel) ?_
    refine lv_goto (tgt := 21) hx hb dX2_isEndAllowed_17 (by decide) ?_
    subst hQ
    exact W.zret (v := 1) hx hb hr (by decide +kernel) (fun t ht _ => ⟨1, rfl, ((if_pos (Or.inl c_1)).symm), ht⟩) (fun _ h9 => absurd h9 List.not_mem_nil) dX2_isEndAllowed_21
  · refine lv_iload_n hx hb dX2_isEndAllowed_6 rfl (lv_at hl 0 rfl) ?_
    refine lv_iconst (v := 4) hx hb dX2_isEndAllowed_7 (by decide +kernel) ?_
    refine lv_icmp_eq (tgt := 16) hx hb dX2_isEndAllowed_8 (by decide) (fun c_2 => ?_) (fun c_2 => ?_)
    · refine lv_iconst (v := 1) hx hb dX2_isEndAllowed_16 (by decide +kernel) ?_
      refine lv_goto (tgt := 21) hx hb dX2_isEndAllowed_17 (by decide) ?_
      subst hQ
      exact W.zret (v := 1) hx hb hr (by decide +kernel) (fun t ht _ => ⟨1, rfl, ((if_pos (Or.inr (Or.inl c_2))).symm), ht⟩) (fun _ h9 => absurd h9 List.not_mem_nil) dX2_isEndAllowed_21
    · refine lv_iload_n hx hb dX2_isEndAllowed_11 rfl (lv_at hl 0 rfl) ?_
      refine lv_iconst (v := 5) hx hb dX2_isEndAllowed_12 (by decide +kernel) ?_
      refine lv_icmp_ne (tgt := 20) hx hb dX2_isEndAllowed_13 (by decide) (fun c_3 => ?_) (fun c_3 => ?_)
      · refine lv_iconst (v := 0) hx hb dX2_isEndAllowed_20 (by decide +kernel) ?_
        subst hQ
        exact W.zret (v := 0) hx hb hr (by decide +kernel) (fun t ht _ => ⟨0, rfl, ((if_neg (fun h => h.elim c_1 (fun h => h.elim c_2 c_3))).symm), ht⟩) (fun _ h9 => absurd h9 List.not_mem_nil) dX2_isEndAllowed_21
      · refine lv_iconst (v := 1) hx hb dX2_isEndAllowed_16 (by decide +kernel) ?_
        refine lv_goto (tgt := 21) hx hb dX2_isEndAllowed_17 (by decide) ?_
        subst hQ
        exact W.zret (v := 1) hx hb hr (by decide +kernel) (fun t ht _ => ⟨1, rfl, ((if_pos (Or.inr (Or.inr c_3))).symm), ht⟩) (fun _ h9 => absurd h9 List.not_mem_nil) dX2_isEndAllowed_21
def X2_phaseAfterLetter_r (x : Int32) : Int32 := if x = 97 then 1 else if x = 100 then 3 else if x = 109 then 20 else if x = 112 then 10 else if x = 120 then 10 else (-1)
set_option maxHeartbeats 4000000 in
set_option maxRecDepth 100000 in
theorem c_X2_phaseAfterLetter (l : Launch) (G : kz_G) (x : Int32) : kz_rd l G yX2_phaseAfterLetter wsX2_phaseAfterLetter 0 0 [.int x] [] (X2_phaseAfterLetter_r x) := by
  refine Met.ofW (cc := cX2_phaseAfterLetter) (maxL := 1) (ret := (some .int)) (by decide) rfl ?_
  intro p e s m args below meth c s₁ B hml hv
  obtain ⟨rfl, hP, hK⟩ := hv
  have hx := B.exec
  have hb := B.bytes
  have hr := B.returns
  have hts := atoms_spec (ws := wsX2_phaseAfterLetter) B.pre
  have hown : s.vm.findClass RX2 = some m.cls := findClass_of_methodNamed B.named
  have hlocks := B.notSynchronized
  have hl := lv_entry ([.int x]) (n := 1) (Nat.le_of_ble_eq_true rfl)
  rw [lg_entry_eq]
  generalize (lg_sl ([.int x]) ++ List.replicate (1 - (lg_sl ([.int x])).length) Slot.unset).toArray = ls at hl ⊢
  have hl : lv_has ls 1 [(0, .int x)] := hl
  refine kz_start (fun QQ hQ => ?_)
  refine lv_iload_n hx hb dX2_phaseAfterLetter_0 rfl (lv_at hl 0 rfl) ?_
  refine lv_topi (fun y_1 ey_2 => ?_)
  by_cases c_3 : y_1 = 97
  · have c_4 : x = 97 := by rw [← ey_2]; exact c_3
    subst c_3
    refine lv_lookup (off := 51) (tgt := 52) hx hb dX2_phaseAfterLetter_1 (by decide +kernel) (by decide +kernel) (by decide) ?_
    refine lv_iconst (v := 1) hx hb dX2_phaseAfterLetter_52 (by decide +kernel) ?_
    subst hQ
    exact W.iret (v := 1) hx hb hr (fun t ht _ => ⟨1, rfl, (by rw [X2_phaseAfterLetter_r, if_pos c_4]), ht⟩) (fun _ h9 => absurd h9 List.not_mem_nil) dX2_phaseAfterLetter_53
  · have c_5 : ¬ x = 97 := by rw [← ey_2]; exact c_3
    by_cases c_6 : y_1 = 100
    · have c_7 : x = 100 := by rw [← ey_2]; exact c_6
      subst c_6
      refine lv_lookup (off := 59) (tgt := 60) hx hb dX2_phaseAfterLetter_1 (by decide +kernel) (by decide +kernel) (by decide) ?_
      refine lv_iconst (v := 3) hx hb dX2_phaseAfterLetter_60 (by decide +kernel) ?_
      subst hQ
      exact W.iret (v := 3) hx hb hr (fun t ht _ => ⟨3, rfl, (by rw [X2_phaseAfterLetter_r, if_neg c_5, if_pos c_7]), ht⟩) (fun _ h9 => absurd h9 List.not_mem_nil) dX2_phaseAfterLetter_61
    · have c_8 : ¬ x = 100 := by rw [← ey_2]; exact c_6
      by_cases c_9 : y_1 = 109
      · have c_10 : x = 109 := by rw [← ey_2]; exact c_9
        subst c_9
        refine lv_lookup (off := 56) (tgt := 57) hx hb dX2_phaseAfterLetter_1 (by decide +kernel) (by decide +kernel) (by decide) ?_
        refine lv_bipush (v := 20) hx hb dX2_phaseAfterLetter_57 (by decide +kernel) ?_
        subst hQ
        exact W.iret (v := 20) hx hb hr (fun t ht _ => ⟨20, rfl, (by rw [X2_phaseAfterLetter_r, if_neg c_5, if_neg c_8, if_pos c_10]), ht⟩) (fun _ h9 => absurd h9 List.not_mem_nil) dX2_phaseAfterLetter_59
      · have c_11 : ¬ x = 109 := by rw [← ey_2]; exact c_9
        by_cases c_12 : y_1 = 112
        · have c_13 : x = 112 := by rw [← ey_2]; exact c_12
          subst c_12
          refine lv_lookup (off := 53) (tgt := 54) hx hb dX2_phaseAfterLetter_1 (by decide +kernel) (by decide +kernel) (by decide) ?_
          refine lv_bipush (v := 10) hx hb dX2_phaseAfterLetter_54 (by decide +kernel) ?_
          subst hQ
          exact W.iret (v := 10) hx hb hr (fun t ht _ => ⟨10, rfl, (by rw [X2_phaseAfterLetter_r, if_neg c_5, if_neg c_8, if_neg c_11, if_pos c_13]), ht⟩) (fun _ h9 => absurd h9 List.not_mem_nil) dX2_phaseAfterLetter_56
        · have c_14 : ¬ x = 112 := by rw [← ey_2]; exact c_12
          by_cases c_15 : y_1 = 120
          · have c_16 : x = 120 := by rw [← ey_2]; exact c_15
            subst c_15
            refine lv_lookup (off := 53) (tgt := 54) hx hb dX2_phaseAfterLetter_1 (by decide +kernel) (by decide +kernel) (by decide) ?_
            refine lv_bipush (v := 10) hx hb dX2_phaseAfterLetter_54 (by decide +kernel) ?_
            subst hQ
            exact W.iret (v := 10) hx hb hr (fun t ht _ => ⟨10, rfl, (by rw [X2_phaseAfterLetter_r, if_neg c_5, if_neg c_8, if_neg c_11, if_neg c_14, if_pos c_16]), ht⟩) (fun _ h9 => absurd h9 List.not_mem_nil) dX2_phaseAfterLetter_56
          · have c_17 : ¬ x = 120 := by rw [← ey_2]; exact c_15
            refine lv_lookup (off := 61) (tgt := 62) hx hb dX2_phaseAfterLetter_1 (by decide +kernel) (by rw [lv_osw c_3 (by decide +kernel)]; rw [lv_osw c_6 (by decide +kernel)]; rw [lv_osw c_9 (by decide +kernel)]; rw [lv_osw c_12 (by decide +kernel)]; rw [lv_osw c_15 (by decide +kernel)]; rfl) (by decide) ?_
            refine lv_iconst (v := (-1)) hx hb dX2_phaseAfterLetter_62 (by decide +kernel) ?_
            subst hQ
            exact W.iret (v := (-1)) hx hb hr (fun t ht _ => ⟨(-1), rfl, (by rw [X2_phaseAfterLetter_r, if_neg c_5, if_neg c_8, if_neg c_11, if_neg c_14, if_neg c_17]), ht⟩) (fun _ h9 => absurd h9 List.not_mem_nil) dX2_phaseAfterLetter_63
abbrev X2_isDigit_p (x : Int32) : Prop := X3_isWithin_p x 48 57
set_option maxHeartbeats 4000000 in
set_option maxRecDepth 100000 in
theorem c_X2_isDigit (l : Launch) (G : kz_G) (x : Int32) : kz_rd l G yX2_isDigit wsX2_isDigit 1 22 [.int x] [] (if X2_isDigit_p x then 1 else 0) := by
  refine Met.ofW (cc := cX2_isDigit) (maxL := 1) (ret := (some .boolean)) (by decide) rfl ?_
  intro p e s m args below meth c s₁ B hml hv
  obtain ⟨rfl, hP, hK⟩ := hv
  have hx := B.exec
  have hb := B.bytes
  have hr := B.returns
  have hts := atoms_spec (ws := wsX2_isDigit) B.pre
  have hown : s.vm.findClass RX2 = some m.cls := findClass_of_methodNamed B.named
  have hlocks := B.notSynchronized
  have hl := lv_entry ([.int x]) (n := 1) (Nat.le_of_ble_eq_true rfl)
  rw [lg_entry_eq]
  generalize (lg_sl ([.int x]) ++ List.replicate (1 - (lg_sl ([.int x])).length) Slot.unset).toArray = ls at hl ⊢
  have hl : lv_has ls 1 [(0, .int x)] := hl
  refine kz_start (fun QQ hQ => ?_)
  refine lv_iload_n hx hb dX2_isDigit_0 rfl (lv_at hl 0 rfl) ?_
  refine lv_bipush (v := 48) hx hb dX2_isDigit_1 (by decide +kernel) ?_
  refine lv_bipush (v := 57) hx hb dX2_isDigit_3 (by decide +kernel) ?_
  refine kz_rdSN (As := [.int x, .int 48, .int 57]) (rest := []) ⟨hx, hb, hml, hown, hts⟩ (c_X3_isWithin l G x 48 57) ⟨va_cnB 3 hts gX2_isDigit_X3_isWithin_n19 rfl rfl rfl hK.2.2.2.2.2.1 (hts (.initialized RX3) (by decide +kernel)) (by decide +kernel) ⟨Nat.le_of_ble_eq_true rfl, Nat.le_of_ble_eq_true rfl⟩, hts (.static yX3_isWithin) (by decide +kernel), trivial⟩ hK hP rfl hl.1 rfl (Nat.le_of_ble_eq_true rfl) dX2_isDigit_5 ⟨Nat.le_of_ble_eq_true rfl, Nat.le_of_ble_eq_true rfl⟩ ?_
  subst hQ
  exact W.zret (v := (if X3_isWithin_p x 48 57 then 1 else 0)) hx hb hr (by split <;> decide +kernel) (fun t ht _ => ⟨(if X3_isWithin_p x 48 57 then 1 else 0), rfl, rfl, ht⟩) (fun _ h9 => absurd h9 List.not_mem_nil) dX2_isDigit_8
def X2_phaseAfterFirstDigit_r (x : Int32) : Int32 := if x = 49 then 4 else if x = 50 then 4 else if x = 51 then 5 else if X3_isWithin_p x 52 57 then 6 else (-1)
set_option maxHeartbeats 4000000 in
set_option maxRecDepth 100000 in
theorem c_X2_phaseAfterFirstDigit (l : Launch) (G : kz_G) (x : Int32) : kz_rd l G yX2_phaseAfterFirstDigit wsX2_phaseAfterFirstDigit 1 22 [.int x] [] (X2_phaseAfterFirstDigit_r x) := by
  refine Met.ofW (cc := cX2_phaseAfterFirstDigit) (maxL := 1) (ret := (some .int)) (by decide) rfl ?_
  intro p e s m args below meth c s₁ B hml hv
  obtain ⟨rfl, hP, hK⟩ := hv
  have hx := B.exec
  have hb := B.bytes
  have hr := B.returns
  have hts := atoms_spec (ws := wsX2_phaseAfterFirstDigit) B.pre
  have hown : s.vm.findClass RX2 = some m.cls := findClass_of_methodNamed B.named
  have hlocks := B.notSynchronized
  have hl := lv_entry ([.int x]) (n := 1) (Nat.le_of_ble_eq_true rfl)
  rw [lg_entry_eq]
  generalize (lg_sl ([.int x]) ++ List.replicate (1 - (lg_sl ([.int x])).length) Slot.unset).toArray = ls at hl ⊢
  have hl : lv_has ls 1 [(0, .int x)] := hl
  refine kz_start (fun QQ hQ => ?_)
  refine lv_iload_n hx hb dX2_phaseAfterFirstDigit_0 rfl (lv_at hl 0 rfl) ?_
  refine lv_bipush (v := 49) hx hb dX2_phaseAfterFirstDigit_1 (by decide +kernel) ?_
  refine lv_icmp_eq (tgt := 12) hx hb dX2_phaseAfterFirstDigit_3 (by decide) (fun c_1 => ?_) (fun c_1 => ?_)
  · refine lv_iconst (v := 4) hx hb dX2_phaseAfterFirstDigit_12 (by decide +kernel) ?_
    subst hQ
    exact W.iret (v := 4) hx hb hr (fun t ht _ => ⟨4, rfl, (by rw [X2_phaseAfterFirstDigit_r, if_pos c_1]), ht⟩) (fun _ h9 => absurd h9 List.not_mem_nil) dX2_phaseAfterFirstDigit_13
  · refine lv_iload_n hx hb dX2_phaseAfterFirstDigit_6 rfl (lv_at hl 0 rfl) ?_
    refine lv_bipush (v := 50) hx hb dX2_phaseAfterFirstDigit_7 (by decide +kernel) ?_
    refine lv_icmp_ne (tgt := 14) hx hb dX2_phaseAfterFirstDigit_9 (by decide) (fun c_2 => ?_) (fun c_2 => ?_)
    · refine lv_iload_n hx hb dX2_phaseAfterFirstDigit_14 rfl (lv_at hl 0 rfl) ?_
      refine lv_bipush (v := 51) hx hb dX2_phaseAfterFirstDigit_15 (by decide +kernel) ?_
      refine lv_icmp_ne (tgt := 22) hx hb dX2_phaseAfterFirstDigit_17 (by decide) (fun c_3 => ?_) (fun c_3 => ?_)
      · refine lv_iload_n hx hb dX2_phaseAfterFirstDigit_22 rfl (lv_at hl 0 rfl) ?_
        refine lv_bipush (v := 52) hx hb dX2_phaseAfterFirstDigit_23 (by decide +kernel) ?_
        refine lv_bipush (v := 57) hx hb dX2_phaseAfterFirstDigit_25 (by decide +kernel) ?_
        refine kz_rdSN (As := [.int x, .int 52, .int 57]) (rest := []) ⟨hx, hb, hml, hown, hts⟩ (c_X3_isWithin l G x 52 57) ⟨va_cnB 3 hts gX2_phaseAfterFirstDigit_X3_isWithin_n19 rfl rfl rfl hK.2.2.2.2.2.1 (hts (.initialized RX3) (by decide +kernel)) (by decide +kernel) ⟨Nat.le_of_ble_eq_true rfl, Nat.le_of_ble_eq_true rfl⟩, hts (.static yX3_isWithin) (by decide +kernel), trivial⟩ hK hP rfl hl.1 rfl (Nat.le_of_ble_eq_true rfl) dX2_phaseAfterFirstDigit_27 ⟨Nat.le_of_ble_eq_true rfl, Nat.le_of_ble_eq_true rfl⟩ ?_
        refine lv_topi (fun y_4 ey_5 => ?_)
        by_cases c_6 : X3_isWithin_p x 52 57
        · rw [if_pos c_6] at ey_5
          subst ey_5
          refine lv_if_eq (tgt := 38) hx hb dX2_phaseAfterFirstDigit_30 (by decide) (fun c => absurd c (by decide)) (fun _ => ?_)
          refine lv_bipush (v := 6) hx hb dX2_phaseAfterFirstDigit_33 (by decide +kernel) ?_
          refine lv_goto (tgt := 39) hx hb dX2_phaseAfterFirstDigit_35 (by decide) ?_
          subst hQ
          exact W.iret (v := 6) hx hb hr (fun t ht _ => ⟨6, rfl, (by rw [X2_phaseAfterFirstDigit_r, if_neg c_1, if_neg c_2, if_neg c_3, if_pos c_6]), ht⟩) (fun _ h9 => absurd h9 List.not_mem_nil) dX2_phaseAfterFirstDigit_39
        · rw [if_neg c_6] at ey_5
          subst ey_5
          refine lv_if_eq (tgt := 38) hx hb dX2_phaseAfterFirstDigit_30 (by decide) (fun _ => ?_) (fun c => absurd c (by decide))
          refine lv_iconst (v := (-1)) hx hb dX2_phaseAfterFirstDigit_38 (by decide +kernel) ?_
          subst hQ
          exact W.iret (v := (-1)) hx hb hr (fun t ht _ => ⟨(-1), rfl, (by rw [X2_phaseAfterFirstDigit_r, if_neg c_1, if_neg c_2, if_neg c_3, if_neg c_6]), ht⟩) (fun _ h9 => absurd h9 List.not_mem_nil) dX2_phaseAfterFirstDigit_39
      · refine lv_iconst (v := 5) hx hb dX2_phaseAfterFirstDigit_20 (by decide +kernel) ?_
        subst hQ
        exact W.iret (v := 5) hx hb hr (fun t ht _ => ⟨5, rfl, (by rw [X2_phaseAfterFirstDigit_r, if_neg c_1, if_neg c_2, if_pos c_3]), ht⟩) (fun _ h9 => absurd h9 List.not_mem_nil) dX2_phaseAfterFirstDigit_21
    · refine lv_iconst (v := 4) hx hb dX2_phaseAfterFirstDigit_12 (by decide +kernel) ?_
      subst hQ
      exact W.iret (v := 4) hx hb hr (fun t ht _ => ⟨4, rfl, (by rw [X2_phaseAfterFirstDigit_r, if_neg c_1, if_pos c_2]), ht⟩) (fun _ h9 => absurd h9 List.not_mem_nil) dX2_phaseAfterFirstDigit_13
def X2_phaseInCode_r (p0 : Int32) (x : Int32) : Int32 := if p0 = 6 then (-1) else if X2_isDigit_p x then (if p0 = 13 then 6 else (p0 + 1)) else (-1)
set_option maxHeartbeats 4000000 in
set_option maxRecDepth 100000 in
theorem c_X2_phaseInCode (l : Launch) (G : kz_G) (p0 : Int32) (x : Int32) : kz_rd l G yX2_phaseInCode wsX2_phaseInCode 2 42 [.int p0, .int x] [] (X2_phaseInCode_r p0 x) := by
  refine Met.ofW (cc := cX2_phaseInCode) (maxL := 2) (ret := (some .int)) (by decide) rfl ?_
  intro p e s m args below meth c s₁ B hml hv
  obtain ⟨rfl, hP, hK⟩ := hv
  have hx := B.exec
  have hb := B.bytes
  have hr := B.returns
  have hts := atoms_spec (ws := wsX2_phaseInCode) B.pre
  have hown : s.vm.findClass RX2 = some m.cls := findClass_of_methodNamed B.named
  have hlocks := B.notSynchronized
  have hl := lv_entry ([.int p0, .int x]) (n := 2) (Nat.le_of_ble_eq_true rfl)
  rw [lg_entry_eq]
  generalize (lg_sl ([.int p0, .int x]) ++ List.replicate (2 - (lg_sl ([.int p0, .int x])).length) Slot.unset).toArray = ls at hl ⊢
  have hl : lv_has ls 2 [(0, .int p0), (1, .int x)] := hl
  refine kz_start (fun QQ hQ => ?_)
  refine lv_iload_n hx hb dX2_phaseInCode_0 rfl (lv_at hl 0 rfl) ?_
  refine lv_bipush (v := 6) hx hb dX2_phaseInCode_1 (by decide +kernel) ?_
  refine lv_icmp_eq (tgt := 13) hx hb dX2_phaseInCode_3 (by decide) (fun c_1 => ?_) (fun c_1 => ?_)
  · refine lv_iconst (v := (-1)) hx hb dX2_phaseInCode_13 (by decide +kernel) ?_
    subst hQ
    exact W.iret (v := (-1)) hx hb hr (fun t ht _ => ⟨(-1), rfl, (by rw [X2_phaseInCode_r, if_pos c_1]), ht⟩) (fun _ h9 => absurd h9 List.not_mem_nil) dX2_phaseInCode_14
  · refine lv_iload_n hx hb dX2_phaseInCode_6 rfl (lv_at hl 1 rfl) ?_
    refine kz_rdS (As := [.int x]) (rest := []) ⟨hx, hb, hml, hown, hts⟩ (c_X2_isDigit l G x) (va_cwS 1 hts gX2_phaseInCode_X2_isDigit rfl rfl rfl (by decide +kernel) ⟨Nat.le_of_ble_eq_true rfl, Nat.le_of_ble_eq_true rfl⟩) hK hP rfl hl.1 rfl (Nat.le_of_ble_eq_true rfl) dX2_phaseInCode_7 ⟨Nat.le_of_ble_eq_true rfl, Nat.le_of_ble_eq_true rfl⟩ ?_
    refine lv_topi (fun y_2 ey_3 => ?_)
    by_cases c_4 : X2_isDigit_p x
    · rw [if_pos c_4] at ey_3
      subst ey_3
      refine lv_if_ne (tgt := 15) hx hb dX2_phaseInCode_10 (by decide) (fun _ => ?_) (fun c => absurd c (by decide))
      refine lv_iload_n hx hb dX2_phaseInCode_15 rfl (lv_at hl 0 rfl) ?_
      refine lv_bipush (v := 13) hx hb dX2_phaseInCode_16 (by decide +kernel) ?_
      refine lv_icmp_ne (tgt := 26) hx hb dX2_phaseInCode_18 (by decide) (fun c_5 => ?_) (fun c_5 => ?_)
      · refine lv_iload_n hx hb dX2_phaseInCode_26 rfl (lv_at hl 0 rfl) ?_
        refine lv_iconst (v := 1) hx hb dX2_phaseInCode_27 (by decide +kernel) ?_
        refine lv_iadd hx hb dX2_phaseInCode_28 ?_
        subst hQ
        exact W.iret (v := (p0 + 1)) hx hb hr (fun t ht _ => ⟨(p0 + 1), rfl, (by rw [X2_phaseInCode_r, if_neg c_1, if_pos c_4, if_neg c_5]), ht⟩) (fun _ h9 => absurd h9 List.not_mem_nil) dX2_phaseInCode_29
      · refine lv_bipush (v := 6) hx hb dX2_phaseInCode_21 (by decide +kernel) ?_
        refine lv_goto (tgt := 29) hx hb dX2_phaseInCode_23 (by decide) ?_
        subst hQ
        exact W.iret (v := 6) hx hb hr (fun t ht _ => ⟨6, rfl, (by rw [X2_phaseInCode_r, if_neg c_1, if_pos c_4, if_pos c_5]), ht⟩) (fun _ h9 => absurd h9 List.not_mem_nil) dX2_phaseInCode_29
    · rw [if_neg c_4] at ey_3
      subst ey_3
      refine lv_if_ne (tgt := 15) hx hb dX2_phaseInCode_10 (by decide) (fun c => absurd c (by decide)) (fun _ => ?_)
      refine lv_iconst (v := (-1)) hx hb dX2_phaseInCode_13 (by decide +kernel) ?_
      subst hQ
      exact W.iret (v := (-1)) hx hb hr (fun t ht _ => ⟨(-1), rfl, (by rw [X2_phaseInCode_r, if_neg c_1, if_neg c_4]), ht⟩) (fun _ h9 => absurd h9 List.not_mem_nil) dX2_phaseInCode_14
def X2_sizeOf_r (x : Int32) : Int32 := if x = 108 then 2 else if x = 109 then 1 else if x = 115 then 0 else (-1)
set_option maxHeartbeats 4000000 in
set_option maxRecDepth 100000 in
theorem c_X2_sizeOf (l : Launch) (G : kz_G) (x : Int32) : kz_rd l G yX2_sizeOf wsX2_sizeOf 0 0 [.int x] [] (X2_sizeOf_r x) := by
  refine Met.ofW (cc := cX2_sizeOf) (maxL := 1) (ret := (some .int)) (by decide) rfl ?_
  intro p e s m args below meth c s₁ B hml hv
  obtain ⟨rfl, hP, hK⟩ := hv
  have hx := B.exec
  have hb := B.bytes
  have hr := B.returns
  have hts := atoms_spec (ws := wsX2_sizeOf) B.pre
  have hown : s.vm.findClass RX2 = some m.cls := findClass_of_methodNamed B.named
  have hlocks := B.notSynchronized
  have hl := lv_entry ([.int x]) (n := 1) (Nat.le_of_ble_eq_true rfl)
  rw [lg_entry_eq]
  generalize (lg_sl ([.int x]) ++ List.replicate (1 - (lg_sl ([.int x])).length) Slot.unset).toArray = ls at hl ⊢
  have hl : lv_has ls 1 [(0, .int x)] := hl
  refine kz_start (fun QQ hQ => ?_)
  refine lv_iload_n hx hb dX2_sizeOf_0 rfl (lv_at hl 0 rfl) ?_
  refine lv_topi (fun y_1 ey_2 => ?_)
  by_cases c_3 : y_1 = 108
  · have c_4 : x = 108 := by rw [← ey_2]; exact c_3
    subst c_3
    refine lv_lookup (off := 39) (tgt := 40) hx hb dX2_sizeOf_1 (by decide +kernel) (by decide +kernel) (by decide) ?_
    refine lv_iconst (v := 2) hx hb dX2_sizeOf_40 (by decide +kernel) ?_
    subst hQ
    exact W.iret (v := 2) hx hb hr (fun t ht _ => ⟨2, rfl, (by rw [X2_sizeOf_r, if_pos c_4]), ht⟩) (fun _ h9 => absurd h9 List.not_mem_nil) dX2_sizeOf_41
  · have c_5 : ¬ x = 108 := by rw [← ey_2]; exact c_3
    by_cases c_6 : y_1 = 109
    · have c_7 : x = 109 := by rw [← ey_2]; exact c_6
      subst c_6
      refine lv_lookup (off := 37) (tgt := 38) hx hb dX2_sizeOf_1 (by decide +kernel) (by decide +kernel) (by decide) ?_
      refine lv_iconst (v := 1) hx hb dX2_sizeOf_38 (by decide +kernel) ?_
      subst hQ
      exact W.iret (v := 1) hx hb hr (fun t ht _ => ⟨1, rfl, (by rw [X2_sizeOf_r, if_neg c_5, if_pos c_7]), ht⟩) (fun _ h9 => absurd h9 List.not_mem_nil) dX2_sizeOf_39
    · have c_8 : ¬ x = 109 := by rw [← ey_2]; exact c_6
      by_cases c_9 : y_1 = 115
      · have c_10 : x = 115 := by rw [← ey_2]; exact c_9
        subst c_9
        refine lv_lookup (off := 35) (tgt := 36) hx hb dX2_sizeOf_1 (by decide +kernel) (by decide +kernel) (by decide) ?_
        refine lv_iconst (v := 0) hx hb dX2_sizeOf_36 (by decide +kernel) ?_
        subst hQ
        exact W.iret (v := 0) hx hb hr (fun t ht _ => ⟨0, rfl, (by rw [X2_sizeOf_r, if_neg c_5, if_neg c_8, if_pos c_10]), ht⟩) (fun _ h9 => absurd h9 List.not_mem_nil) dX2_sizeOf_37
      · have c_11 : ¬ x = 115 := by rw [← ey_2]; exact c_9
        refine lv_lookup (off := 41) (tgt := 42) hx hb dX2_sizeOf_1 (by decide +kernel) (by rw [lv_osw c_3 (by decide +kernel)]; rw [lv_osw c_6 (by decide +kernel)]; rw [lv_osw c_9 (by decide +kernel)]; rfl) (by decide) ?_
        refine lv_iconst (v := (-1)) hx hb dX2_sizeOf_42 (by decide +kernel) ?_
        subst hQ
        exact W.iret (v := (-1)) hx hb hr (fun t ht _ => ⟨(-1), rfl, (by rw [X2_sizeOf_r, if_neg c_5, if_neg c_8, if_neg c_11]), ht⟩) (fun _ h9 => absurd h9 List.not_mem_nil) dX2_sizeOf_43
def X2_phaseAfter_r (p0 : Int32) (x : Int32) : Int32 := if X2_isEndAllowed_p p0 then (if x = 59 then 0 else if p0 = 0 then (X2_phaseAfterLetter_r x) else if p0 = 1 then (if X2_isDigit_p x then 2 else (-1)) else if p0 = 2 then (if (X2_sizeOf_r x) < 0 then (-1) else 6) else if p0 = 3 then (X2_phaseAfterFirstDigit_r x) else if p0 = 4 then (if X2_isDigit_p x then 6 else (-1)) else if p0 = 5 then (if x = 48 then 6 else (-1)) else if p0 = 24 then (if x = 62 then 25 else (-1)) else if p0 = 25 then (if X3_isWithin_p x 48 53 then 6 else (-1)) else (X2_phaseInCode_r p0 x)) else if p0 = 0 then (X2_phaseAfterLetter_r x) else if p0 = 1 then (if X2_isDigit_p x then 2 else (-1)) else if p0 = 2 then (if (X2_sizeOf_r x) < 0 then (-1) else 6) else if p0 = 3 then (X2_phaseAfterFirstDigit_r x) else if p0 = 4 then (if X2_isDigit_p x then 6 else (-1)) else if p0 = 5 then (if x = 48 then 6 else (-1)) else if p0 = 24 then (if x = 62 then 25 else (-1)) else if p0 = 25 then (if X3_isWithin_p x 48 53 then 6 else (-1)) else (X2_phaseInCode_r p0 x)
set_option maxHeartbeats 4000000 in
set_option maxRecDepth 100000 in
theorem c_X2_phaseAfter (l : Launch) (G : kz_G) (p0 : Int32) (x : Int32) : kz_rd l G yX2_phaseAfter wsX2_phaseAfter 3 63 [.int p0, .int x] [] (X2_phaseAfter_r p0 x) := by
  refine Met.ofW (cc := cX2_phaseAfter) (maxL := 2) (ret := (some .int)) (by decide) rfl ?_
  intro p e s m args below meth c s₁ B hml hv
  obtain ⟨rfl, hP, hK⟩ := hv
  have hx := B.exec
  have hb := B.bytes
  have hr := B.returns
  have hts := atoms_spec (ws := wsX2_phaseAfter) B.pre
  have hown : s.vm.findClass RX2 = some m.cls := findClass_of_methodNamed B.named
  have hlocks := B.notSynchronized
  have hl := lv_entry ([.int p0, .int x]) (n := 2) (Nat.le_of_ble_eq_true rfl)
  rw [lg_entry_eq]
  generalize (lg_sl ([.int p0, .int x]) ++ List.replicate (2 - (lg_sl ([.int p0, .int x])).length) Slot.unset).toArray = ls at hl ⊢
  have hl : lv_has ls 2 [(0, .int p0), (1, .int x)] := hl
  refine kz_start (fun QQ hQ => ?_)
  refine lv_iload_n hx hb dX2_phaseAfter_0 rfl (lv_at hl 0 rfl) ?_
  refine kz_rdS (As := [.int p0]) (rest := []) ⟨hx, hb, hml, hown, hts⟩ (c_X2_isEndAllowed l G p0) (va_cwS 1 hts gX2_phaseAfter_X2_isEndAllowed rfl rfl rfl (by decide +kernel) ⟨Nat.le_of_ble_eq_true rfl, Nat.le_of_ble_eq_true rfl⟩) hK hP rfl hl.1 rfl (Nat.le_of_ble_eq_true rfl) dX2_phaseAfter_1 ⟨Nat.le_of_ble_eq_true rfl, Nat.le_of_ble_eq_true rfl⟩ ?_
  refine lv_topi (fun y_1 ey_2 => ?_)
  by_cases c_3 : X2_isEndAllowed_p p0
  · rw [if_pos c_3] at ey_2
    subst ey_2
    refine lv_if_eq (tgt := 15) hx hb dX2_phaseAfter_4 (by decide) (fun c => absurd c (by decide)) (fun _ => ?_)
    refine lv_iload_n hx hb dX2_phaseAfter_7 rfl (lv_at hl 1 rfl) ?_
    refine lv_bipush (v := 59) hx hb dX2_phaseAfter_8 (by decide +kernel) ?_
    refine lv_icmp_ne (tgt := 15) hx hb dX2_phaseAfter_10 (by decide) (fun c_4 => ?_) (fun c_4 => ?_)
    · refine lv_iload_n hx hb dX2_phaseAfter_15 rfl (lv_at hl 0 rfl) ?_
      refine lv_topi (fun y_5 ey_6 => ?_)
      by_cases c_7 : y_5 = 0
      · have c_8 : p0 = 0 := by rw [← ey_6]; exact c_7
        subst c_7
        refine lv_tableIn (off := 120) (tgt := 136) hx hb dX2_phaseAfter_16 (by decide +kernel) (by decide +kernel) (by decide +kernel) (by decide) ?_
        refine lv_iload_n hx hb dX2_phaseAfter_136 rfl (lv_at hl 1 rfl) ?_
        refine kz_rdS (As := [.int x]) (rest := []) ⟨hx, hb, hml, hown, hts⟩ (c_X2_phaseAfterLetter l G x) (va_cwS 1 hts gX2_phaseAfter_X2_phaseAfterLetter rfl rfl rfl (by decide +kernel) ⟨Nat.le_of_ble_eq_true rfl, Nat.le_of_ble_eq_true rfl⟩) hK hP rfl hl.1 rfl (Nat.le_of_ble_eq_true rfl) dX2_phaseAfter_137 ⟨Nat.le_of_ble_eq_true rfl, Nat.le_of_ble_eq_true rfl⟩ ?_
        subst hQ
        exact W.iret (v := (X2_phaseAfterLetter_r x)) hx hb hr (fun t ht _ => ⟨(X2_phaseAfterLetter_r x), rfl, (by rw [X2_phaseAfter_r, if_pos c_3, if_neg c_4, if_pos c_8]), ht⟩) (fun _ h9 => absurd h9 List.not_mem_nil) dX2_phaseAfter_140
      · have c_9 : ¬ p0 = 0 := by rw [← ey_6]; exact c_7
        by_cases c_10 : y_5 = 1
        · have c_11 : p0 = 1 := by rw [← ey_6]; exact c_10
          subst c_10
          refine lv_tableIn (off := 125) (tgt := 141) hx hb dX2_phaseAfter_16 (by decide +kernel) (by decide +kernel) (by decide +kernel) (by decide) ?_
          refine lv_iload_n hx hb dX2_phaseAfter_141 rfl (lv_at hl 1 rfl) ?_
          refine kz_rdS (As := [.int x]) (rest := []) ⟨hx, hb, hml, hown, hts⟩ (c_X2_isDigit l G x) (va_cwS 1 hts gX2_phaseAfter_X2_isDigit rfl rfl rfl (by decide +kernel) ⟨Nat.le_of_ble_eq_true rfl, Nat.le_of_ble_eq_true rfl⟩) hK hP rfl hl.1 rfl (Nat.le_of_ble_eq_true rfl) dX2_phaseAfter_142 ⟨Nat.le_of_ble_eq_true rfl, Nat.le_of_ble_eq_true rfl⟩ ?_
          refine lv_topi (fun y_12 ey_13 => ?_)
          by_cases c_14 : X2_isDigit_p x
          · rw [if_pos c_14] at ey_13
            subst ey_13
            refine lv_if_eq (tgt := 152) hx hb dX2_phaseAfter_145 (by decide) (fun c => absurd c (by decide)) (fun _ => ?_)
            refine lv_iconst (v := 2) hx hb dX2_phaseAfter_148 (by decide +kernel) ?_
            refine lv_goto (tgt := 153) hx hb dX2_phaseAfter_149 (by decide) ?_
            subst hQ
            exact W.iret (v := 2) hx hb hr (fun t ht _ => ⟨2, rfl, (by rw [X2_phaseAfter_r, if_pos c_3, if_neg c_4, if_neg c_9, if_pos c_11, if_pos c_14]), ht⟩) (fun _ h9 => absurd h9 List.not_mem_nil) dX2_phaseAfter_153
          · rw [if_neg c_14] at ey_13
            subst ey_13
            refine lv_if_eq (tgt := 152) hx hb dX2_phaseAfter_145 (by decide) (fun _ => ?_) (fun c => absurd c (by decide))
            refine lv_iconst (v := (-1)) hx hb dX2_phaseAfter_152 (by decide +kernel) ?_
            subst hQ
            exact W.iret (v := (-1)) hx hb hr (fun t ht _ => ⟨(-1), rfl, (by rw [X2_phaseAfter_r, if_pos c_3, if_neg c_4, if_neg c_9, if_pos c_11, if_neg c_14]), ht⟩) (fun _ h9 => absurd h9 List.not_mem_nil) dX2_phaseAfter_153
        · have c_15 : ¬ p0 = 1 := by rw [← ey_6]; exact c_10
          by_cases c_16 : y_5 = 2
          · have c_17 : p0 = 2 := by rw [← ey_6]; exact c_16
            subst c_16
            refine lv_tableIn (off := 138) (tgt := 154) hx hb dX2_phaseAfter_16 (by decide +kernel) (by decide +kernel) (by decide +kernel) (by decide) ?_
            refine lv_iload_n hx hb dX2_phaseAfter_154 rfl (lv_at hl 1 rfl) ?_
            refine kz_rdS (As := [.int x]) (rest := []) ⟨hx, hb, hml, hown, hts⟩ (c_X2_sizeOf l G x) (va_cwS 1 hts gX2_phaseAfter_X2_sizeOf rfl rfl rfl (by decide +kernel) ⟨Nat.le_of_ble_eq_true rfl, Nat.le_of_ble_eq_true rfl⟩) hK hP rfl hl.1 rfl (Nat.le_of_ble_eq_true rfl) dX2_phaseAfter_155 ⟨Nat.le_of_ble_eq_true rfl, Nat.le_of_ble_eq_true rfl⟩ ?_
            refine lv_if_lt (tgt := 166) hx hb dX2_phaseAfter_158 (by decide) (fun c_18 => ?_) (fun c_18 => ?_)
            · refine lv_iconst (v := (-1)) hx hb dX2_phaseAfter_166 (by decide +kernel) ?_
              subst hQ
              exact W.iret (v := (-1)) hx hb hr (fun t ht _ => ⟨(-1), rfl, (by rw [X2_phaseAfter_r, if_pos c_3, if_neg c_4, if_neg c_9, if_neg c_15, if_pos c_17, if_pos c_18]), ht⟩) (fun _ h9 => absurd h9 List.not_mem_nil) dX2_phaseAfter_167
            · refine lv_bipush (v := 6) hx hb dX2_phaseAfter_161 (by decide +kernel) ?_
              refine lv_goto (tgt := 167) hx hb dX2_phaseAfter_163 (by decide) ?_
              subst hQ
              exact W.iret (v := 6) hx hb hr (fun t ht _ => ⟨6, rfl, (by rw [X2_phaseAfter_r, if_pos c_3, if_neg c_4, if_neg c_9, if_neg c_15, if_pos c_17, if_neg c_18]), ht⟩) (fun _ h9 => absurd h9 List.not_mem_nil) dX2_phaseAfter_167
          · have c_19 : ¬ p0 = 2 := by rw [← ey_6]; exact c_16
            by_cases c_20 : y_5 = 3
            · have c_21 : p0 = 3 := by rw [← ey_6]; exact c_20
              subst c_20
              refine lv_tableIn (off := 152) (tgt := 168) hx hb dX2_phaseAfter_16 (by decide +kernel) (by decide +kernel) (by decide +kernel) (by decide) ?_
              refine lv_iload_n hx hb dX2_phaseAfter_168 rfl (lv_at hl 1 rfl) ?_
              refine kz_rdS (As := [.int x]) (rest := []) ⟨hx, hb, hml, hown, hts⟩ (c_X2_phaseAfterFirstDigit l G x) (va_cwS 1 hts gX2_phaseAfter_X2_phaseAfterFirstDigit rfl rfl rfl (by decide +kernel) ⟨Nat.le_of_ble_eq_true rfl, Nat.le_of_ble_eq_true rfl⟩) hK hP rfl hl.1 rfl (Nat.le_of_ble_eq_true rfl) dX2_phaseAfter_169 ⟨Nat.le_of_ble_eq_true rfl, Nat.le_of_ble_eq_true rfl⟩ ?_
              subst hQ
              exact W.iret (v := (X2_phaseAfterFirstDigit_r x)) hx hb hr (fun t ht _ => ⟨(X2_phaseAfterFirstDigit_r x), rfl, (by rw [X2_phaseAfter_r, if_pos c_3, if_neg c_4, if_neg c_9, if_neg c_15, if_neg c_19, if_pos c_21]), ht⟩) (fun _ h9 => absurd h9 List.not_mem_nil) dX2_phaseAfter_172
            · have c_22 : ¬ p0 = 3 := by rw [← ey_6]; exact c_20
              by_cases c_23 : y_5 = 4
              · have c_24 : p0 = 4 := by rw [← ey_6]; exact c_23
                subst c_23
                refine lv_tableIn (off := 157) (tgt := 173) hx hb dX2_phaseAfter_16 (by decide +kernel) (by decide +kernel) (by decide +kernel) (by decide) ?_
                refine lv_iload_n hx hb dX2_phaseAfter_173 rfl (lv_at hl 1 rfl) ?_
                refine kz_rdS (As := [.int x]) (rest := []) ⟨hx, hb, hml, hown, hts⟩ (c_X2_isDigit l G x) (va_cwS 1 hts gX2_phaseAfter_X2_isDigit rfl rfl rfl (by decide +kernel) ⟨Nat.le_of_ble_eq_true rfl, Nat.le_of_ble_eq_true rfl⟩) hK hP rfl hl.1 rfl (Nat.le_of_ble_eq_true rfl) dX2_phaseAfter_174 ⟨Nat.le_of_ble_eq_true rfl, Nat.le_of_ble_eq_true rfl⟩ ?_
                refine lv_topi (fun y_25 ey_26 => ?_)
                by_cases c_27 : X2_isDigit_p x
                · rw [if_pos c_27] at ey_26
                  subst ey_26
                  refine lv_if_eq (tgt := 185) hx hb dX2_phaseAfter_177 (by decide) (fun c => absurd c (by decide)) (fun _ => ?_)
                  refine lv_bipush (v := 6) hx hb dX2_phaseAfter_180 (by decide +kernel) ?_
                  refine lv_goto (tgt := 186) hx hb dX2_phaseAfter_182 (by decide) ?_
                  subst hQ
                  exact W.iret (v := 6) hx hb hr (fun t ht _ => ⟨6, rfl, (by rw [X2_phaseAfter_r, if_pos c_3, if_neg c_4, if_neg c_9, if_neg c_15, if_neg c_19, if_neg c_22, if_pos c_24, if_pos c_27]), ht⟩) (fun _ h9 => absurd h9 List.not_mem_nil) dX2_phaseAfter_186
                · rw [if_neg c_27] at ey_26
                  subst ey_26
                  refine lv_if_eq (tgt := 185) hx hb dX2_phaseAfter_177 (by decide) (fun _ => ?_) (fun c => absurd c (by decide))
                  refine lv_iconst (v := (-1)) hx hb dX2_phaseAfter_185 (by decide +kernel) ?_
                  subst hQ
                  exact W.iret (v := (-1)) hx hb hr (fun t ht _ => ⟨(-1), rfl, (by rw [X2_phaseAfter_r, if_pos c_3, if_neg c_4, if_neg c_9, if_neg c_15, if_neg c_19, if_neg c_22, if_pos c_24, if_neg c_27]), ht⟩) (fun _ h9 => absurd h9 List.not_mem_nil) dX2_phaseAfter_186
              · have c_28 : ¬ p0 = 4 := by rw [← ey_6]; exact c_23
                by_cases c_29 : y_5 = 5
                · have c_30 : p0 = 5 := by rw [← ey_6]; exact c_29
                  subst c_29
                  refine lv_tableIn (off := 171) (tgt := 187) hx hb dX2_phaseAfter_16 (by decide +kernel) (by decide +kernel) (by decide +kernel) (by decide) ?_
                  refine lv_iload_n hx hb dX2_phaseAfter_187 rfl (lv_at hl 1 rfl) ?_
                  refine lv_bipush (v := 48) hx hb dX2_phaseAfter_188 (by decide +kernel) ?_
                  refine lv_icmp_ne (tgt := 198) hx hb dX2_phaseAfter_190 (by decide) (fun c_31 => ?_) (fun c_31 => ?_)
                  · refine lv_iconst (v := (-1)) hx hb dX2_phaseAfter_198 (by decide +kernel) ?_
                    subst hQ
                    exact W.iret (v := (-1)) hx hb hr (fun t ht _ => ⟨(-1), rfl, (by rw [X2_phaseAfter_r, if_pos c_3, if_neg c_4, if_neg c_9, if_neg c_15, if_neg c_19, if_neg c_22, if_neg c_28, if_pos c_30, if_neg c_31]), ht⟩) (fun _ h9 => absurd h9 List.not_mem_nil) dX2_phaseAfter_199
                  · refine lv_bipush (v := 6) hx hb dX2_phaseAfter_193 (by decide +kernel) ?_
                    refine lv_goto (tgt := 199) hx hb dX2_phaseAfter_195 (by decide) ?_
                    subst hQ
                    exact W.iret (v := 6) hx hb hr (fun t ht _ => ⟨6, rfl, (by rw [X2_phaseAfter_r, if_pos c_3, if_neg c_4, if_neg c_9, if_neg c_15, if_neg c_19, if_neg c_22, if_neg c_28, if_pos c_30, if_pos c_31]), ht⟩) (fun _ h9 => absurd h9 List.not_mem_nil) dX2_phaseAfter_199
                · have c_32 : ¬ p0 = 5 := by rw [← ey_6]; exact c_29
                  by_cases c_33 : y_5 = 24
                  · have c_34 : p0 = 24 := by rw [← ey_6]; exact c_33
                    subst c_33
                    refine lv_tableIn (off := 184) (tgt := 200) hx hb dX2_phaseAfter_16 (by decide +kernel) (by decide +kernel) (by decide +kernel) (by decide) ?_
                    refine lv_iload_n hx hb dX2_phaseAfter_200 rfl (lv_at hl 1 rfl) ?_
                    refine lv_bipush (v := 62) hx hb dX2_phaseAfter_201 (by decide +kernel) ?_
                    refine lv_icmp_ne (tgt := 211) hx hb dX2_phaseAfter_203 (by decide) (fun c_35 => ?_) (fun c_35 => ?_)
                    · refine lv_iconst (v := (-1)) hx hb dX2_phaseAfter_211 (by decide +kernel) ?_
                      subst hQ
                      exact W.iret (v := (-1)) hx hb hr (fun t ht _ => ⟨(-1), rfl, (by rw [X2_phaseAfter_r, if_pos c_3, if_neg c_4, if_neg c_9, if_neg c_15, if_neg c_19, if_neg c_22, if_neg c_28, if_neg c_32, if_pos c_34, if_neg c_35]), ht⟩) (fun _ h9 => absurd h9 List.not_mem_nil) dX2_phaseAfter_212
                    · refine lv_bipush (v := 25) hx hb dX2_phaseAfter_206 (by decide +kernel) ?_
                      refine lv_goto (tgt := 212) hx hb dX2_phaseAfter_208 (by decide) ?_
                      subst hQ
                      exact W.iret (v := 25) hx hb hr (fun t ht _ => ⟨25, rfl, (by rw [X2_phaseAfter_r, if_pos c_3, if_neg c_4, if_neg c_9, if_neg c_15, if_neg c_19, if_neg c_22, if_neg c_28, if_neg c_32, if_pos c_34, if_pos c_35]), ht⟩) (fun _ h9 => absurd h9 List.not_mem_nil) dX2_phaseAfter_212
                  · have c_36 : ¬ p0 = 24 := by rw [← ey_6]; exact c_33
                    by_cases c_37 : y_5 = 25
                    · have c_38 : p0 = 25 := by rw [← ey_6]; exact c_37
                      subst c_37
                      refine lv_tableIn (off := 197) (tgt := 213) hx hb dX2_phaseAfter_16 (by decide +kernel) (by decide +kernel) (by decide +kernel) (by decide) ?_
                      refine lv_iload_n hx hb dX2_phaseAfter_213 rfl (lv_at hl 1 rfl) ?_
                      refine lv_bipush (v := 48) hx hb dX2_phaseAfter_214 (by decide +kernel) ?_
                      refine lv_bipush (v := 53) hx hb dX2_phaseAfter_216 (by decide +kernel) ?_
                      refine kz_rdSN (As := [.int x, .int 48, .int 53]) (rest := []) ⟨hx, hb, hml, hown, hts⟩ (c_X3_isWithin l G x 48 53) ⟨va_cnB 3 hts gX2_phaseAfter_X3_isWithin_n19 rfl rfl rfl hK.2.2.2.2.2.1 (hts (.initialized RX3) (by decide +kernel)) (by decide +kernel) ⟨Nat.le_of_ble_eq_true rfl, Nat.le_of_ble_eq_true rfl⟩, hts (.static yX3_isWithin) (by decide +kernel), trivial⟩ hK hP rfl hl.1 rfl (Nat.le_of_ble_eq_true rfl) dX2_phaseAfter_218 ⟨Nat.le_of_ble_eq_true rfl, Nat.le_of_ble_eq_true rfl⟩ ?_
                      refine lv_topi (fun y_39 ey_40 => ?_)
                      by_cases c_41 : X3_isWithin_p x 48 53
                      · rw [if_pos c_41] at ey_40
                        subst ey_40
                        refine lv_if_eq (tgt := 229) hx hb dX2_phaseAfter_221 (by decide) (fun c => absurd c (by decide)) (fun _ => ?_)
                        refine lv_bipush (v := 6) hx hb dX2_phaseAfter_224 (by decide +kernel) ?_
                        refine lv_goto (tgt := 230) hx hb dX2_phaseAfter_226 (by decide) ?_
                        subst hQ
                        exact W.iret (v := 6) hx hb hr (fun t ht _ => ⟨6, rfl, (by rw [X2_phaseAfter_r, if_pos c_3, if_neg c_4, if_neg c_9, if_neg c_15, if_neg c_19, if_neg c_22, if_neg c_28, if_neg c_32, if_neg c_36, if_pos c_38, if_pos c_41]), ht⟩) (fun _ h9 => absurd h9 List.not_mem_nil) dX2_phaseAfter_230
                      · rw [if_neg c_41] at ey_40
                        subst ey_40
                        refine lv_if_eq (tgt := 229) hx hb dX2_phaseAfter_221 (by decide) (fun _ => ?_) (fun c => absurd c (by decide))
                        refine lv_iconst (v := (-1)) hx hb dX2_phaseAfter_229 (by decide +kernel) ?_
                        subst hQ
                        exact W.iret (v := (-1)) hx hb hr (fun t ht _ => ⟨(-1), rfl, (by rw [X2_phaseAfter_r, if_pos c_3, if_neg c_4, if_neg c_9, if_neg c_15, if_neg c_19, if_neg c_22, if_neg c_28, if_neg c_32, if_neg c_36, if_pos c_38, if_neg c_41]), ht⟩) (fun _ h9 => absurd h9 List.not_mem_nil) dX2_phaseAfter_230
                    · have c_42 : ¬ p0 = 25 := by rw [← ey_6]; exact c_37
                      refine kz_tab (tgt := 231) hx hb dX2_phaseAfter_16 (fun h1 h2 => by have h0 := lv_neT c_7 (by decide +kernel : (0 : Int32).toInt = 0); have h1 := lv_neT c_10 (by decide +kernel : (1 : Int32).toInt = 1); have h2 := lv_neT c_16 (by decide +kernel : (2 : Int32).toInt = 2); have h3 := lv_neT c_20 (by decide +kernel : (3 : Int32).toInt = 3); have h4 := lv_neT c_23 (by decide +kernel : (4 : Int32).toInt = 4); have h5 := lv_neT c_29 (by decide +kernel : (5 : Int32).toInt = 5); have h24 := lv_neT c_33 (by decide +kernel : (24 : Int32).toInt = 24); have h25 := lv_neT c_37 (by decide +kernel : (25 : Int32).toInt = 25); rcases (by omega : y_5.toInt = 6 ∨ y_5.toInt = 7 ∨ y_5.toInt = 8 ∨ y_5.toInt = 9 ∨ y_5.toInt = 10 ∨ y_5.toInt = 11 ∨ y_5.toInt = 12 ∨ y_5.toInt = 13 ∨ y_5.toInt = 14 ∨ y_5.toInt = 15 ∨ y_5.toInt = 16 ∨ y_5.toInt = 17 ∨ y_5.toInt = 18 ∨ y_5.toInt = 19 ∨ y_5.toInt = 20 ∨ y_5.toInt = 21 ∨ y_5.toInt = 22 ∨ y_5.toInt = 23) with h9 | h9 | h9 | h9 | h9 | h9 | h9 | h9 | h9 | h9 | h9 | h9 | h9 | h9 | h9 | h9 | h9 | h9 <;> (rw [h9]; rfl)) (by decide) ?_
                      refine lv_iload_n hx hb dX2_phaseAfter_231 rfl (lv_at hl 0 rfl) ?_
                      refine lv_iload_n hx hb dX2_phaseAfter_232 rfl (lv_at hl 1 rfl) ?_
                      refine kz_rdS (As := [.int p0, .int x]) (rest := []) ⟨hx, hb, hml, hown, hts⟩ (c_X2_phaseInCode l G p0 x) (va_cwS 2 hts gX2_phaseAfter_X2_phaseInCode rfl rfl rfl (by decide +kernel) ⟨Nat.le_of_ble_eq_true rfl, Nat.le_of_ble_eq_true rfl⟩) hK hP rfl hl.1 rfl (Nat.le_of_ble_eq_true rfl) dX2_phaseAfter_233 ⟨Nat.le_of_ble_eq_true rfl, Nat.le_of_ble_eq_true rfl⟩ ?_
                      subst hQ
                      exact W.iret (v := (X2_phaseInCode_r p0 x)) hx hb hr (fun t ht _ => ⟨(X2_phaseInCode_r p0 x), rfl, (by rw [X2_phaseAfter_r, if_pos c_3, if_neg c_4, if_neg c_9, if_neg c_15, if_neg c_19, if_neg c_22, if_neg c_28, if_neg c_32, if_neg c_36, if_neg c_42]), ht⟩) (fun _ h9 => absurd h9 List.not_mem_nil) dX2_phaseAfter_236
    · refine lv_iconst (v := 0) hx hb dX2_phaseAfter_13 (by decide +kernel) ?_
      subst hQ
      exact W.iret (v := 0) hx hb hr (fun t ht _ => ⟨0, rfl, (by rw [X2_phaseAfter_r, if_pos c_3, if_pos c_4]), ht⟩) (fun _ h9 => absurd h9 List.not_mem_nil) dX2_phaseAfter_14
  · rw [if_neg c_3] at ey_2
    subst ey_2
    refine lv_if_eq (tgt := 15) hx hb dX2_phaseAfter_4 (by decide) (fun _ => ?_) (fun c => absurd c (by decide))
    refine lv_iload_n hx hb dX2_phaseAfter_15 rfl (lv_at hl 0 rfl) ?_
    refine lv_topi (fun y_43 ey_44 => ?_)
    by_cases c_45 : y_43 = 0
    · have c_46 : p0 = 0 := by rw [← ey_44]; exact c_45
      subst c_45
      refine lv_tableIn (off := 120) (tgt := 136) hx hb dX2_phaseAfter_16 (by decide +kernel) (by decide +kernel) (by decide +kernel) (by decide) ?_
      refine lv_iload_n hx hb dX2_phaseAfter_136 rfl (lv_at hl 1 rfl) ?_
      refine kz_rdS (As := [.int x]) (rest := []) ⟨hx, hb, hml, hown, hts⟩ (c_X2_phaseAfterLetter l G x) (va_cwS 1 hts gX2_phaseAfter_X2_phaseAfterLetter rfl rfl rfl (by decide +kernel) ⟨Nat.le_of_ble_eq_true rfl, Nat.le_of_ble_eq_true rfl⟩) hK hP rfl hl.1 rfl (Nat.le_of_ble_eq_true rfl) dX2_phaseAfter_137 ⟨Nat.le_of_ble_eq_true rfl, Nat.le_of_ble_eq_true rfl⟩ ?_
      subst hQ
      exact W.iret (v := (X2_phaseAfterLetter_r x)) hx hb hr (fun t ht _ => ⟨(X2_phaseAfterLetter_r x), rfl, (by rw [X2_phaseAfter_r, if_neg c_3, if_pos c_46]), ht⟩) (fun _ h9 => absurd h9 List.not_mem_nil) dX2_phaseAfter_140
    · have c_47 : ¬ p0 = 0 := by rw [← ey_44]; exact c_45
      by_cases c_48 : y_43 = 1
      · have c_49 : p0 = 1 := by rw [← ey_44]; exact c_48
        subst c_48
        refine lv_tableIn (off := 125) (tgt := 141) hx hb dX2_phaseAfter_16 (by decide +kernel) (by decide +kernel) (by decide +kernel) (by decide) ?_
        refine lv_iload_n hx hb dX2_phaseAfter_141 rfl (lv_at hl 1 rfl) ?_
        refine kz_rdS (As := [.int x]) (rest := []) ⟨hx, hb, hml, hown, hts⟩ (c_X2_isDigit l G x) (va_cwS 1 hts gX2_phaseAfter_X2_isDigit rfl rfl rfl (by decide +kernel) ⟨Nat.le_of_ble_eq_true rfl, Nat.le_of_ble_eq_true rfl⟩) hK hP rfl hl.1 rfl (Nat.le_of_ble_eq_true rfl) dX2_phaseAfter_142 ⟨Nat.le_of_ble_eq_true rfl, Nat.le_of_ble_eq_true rfl⟩ ?_
        refine lv_topi (fun y_50 ey_51 => ?_)
        by_cases c_52 : X2_isDigit_p x
        · rw [if_pos c_52] at ey_51
          subst ey_51
          refine lv_if_eq (tgt := 152) hx hb dX2_phaseAfter_145 (by decide) (fun c => absurd c (by decide)) (fun _ => ?_)
          refine lv_iconst (v := 2) hx hb dX2_phaseAfter_148 (by decide +kernel) ?_
          refine lv_goto (tgt := 153) hx hb dX2_phaseAfter_149 (by decide) ?_
          subst hQ
          exact W.iret (v := 2) hx hb hr (fun t ht _ => ⟨2, rfl, (by rw [X2_phaseAfter_r, if_neg c_3, if_neg c_47, if_pos c_49, if_pos c_52]), ht⟩) (fun _ h9 => absurd h9 List.not_mem_nil) dX2_phaseAfter_153
        · rw [if_neg c_52] at ey_51
          subst ey_51
          refine lv_if_eq (tgt := 152) hx hb dX2_phaseAfter_145 (by decide) (fun _ => ?_) (fun c => absurd c (by decide))
          refine lv_iconst (v := (-1)) hx hb dX2_phaseAfter_152 (by decide +kernel) ?_
          subst hQ
          exact W.iret (v := (-1)) hx hb hr (fun t ht _ => ⟨(-1), rfl, (by rw [X2_phaseAfter_r, if_neg c_3, if_neg c_47, if_pos c_49, if_neg c_52]), ht⟩) (fun _ h9 => absurd h9 List.not_mem_nil) dX2_phaseAfter_153
      · have c_53 : ¬ p0 = 1 := by rw [← ey_44]; exact c_48
        by_cases c_54 : y_43 = 2
        · have c_55 : p0 = 2 := by rw [← ey_44]; exact c_54
          subst c_54
          refine lv_tableIn (off := 138) (tgt := 154) hx hb dX2_phaseAfter_16 (by decide +kernel) (by decide +kernel) (by decide +kernel) (by decide) ?_
          refine lv_iload_n hx hb dX2_phaseAfter_154 rfl (lv_at hl 1 rfl) ?_
          refine kz_rdS (As := [.int x]) (rest := []) ⟨hx, hb, hml, hown, hts⟩ (c_X2_sizeOf l G x) (va_cwS 1 hts gX2_phaseAfter_X2_sizeOf rfl rfl rfl (by decide +kernel) ⟨Nat.le_of_ble_eq_true rfl, Nat.le_of_ble_eq_true rfl⟩) hK hP rfl hl.1 rfl (Nat.le_of_ble_eq_true rfl) dX2_phaseAfter_155 ⟨Nat.le_of_ble_eq_true rfl, Nat.le_of_ble_eq_true rfl⟩ ?_
          refine lv_if_lt (tgt := 166) hx hb dX2_phaseAfter_158 (by decide) (fun c_56 => ?_) (fun c_56 => ?_)
          · refine lv_iconst (v := (-1)) hx hb dX2_phaseAfter_166 (by decide +kernel) ?_
            subst hQ
            exact W.iret (v := (-1)) hx hb hr (fun t ht _ => ⟨(-1), rfl, (by rw [X2_phaseAfter_r, if_neg c_3, if_neg c_47, if_neg c_53, if_pos c_55, if_pos c_56]), ht⟩) (fun _ h9 => absurd h9 List.not_mem_nil) dX2_phaseAfter_167
          · refine lv_bipush (v := 6) hx hb dX2_phaseAfter_161 (by decide +kernel) ?_
            refine lv_goto (tgt := 167) hx hb dX2_phaseAfter_163 (by decide) ?_
            subst hQ
            exact W.iret (v := 6) hx hb hr (fun t ht _ => ⟨6, rfl, (by rw [X2_phaseAfter_r, if_neg c_3, if_neg c_47, if_neg c_53, if_pos c_55, if_neg c_56]), ht⟩) (fun _ h9 => absurd h9 List.not_mem_nil) dX2_phaseAfter_167
        · have c_57 : ¬ p0 = 2 := by rw [← ey_44]; exact c_54
          by_cases c_58 : y_43 = 3
          · have c_59 : p0 = 3 := by rw [← ey_44]; exact c_58
            subst c_58
            refine lv_tableIn (off := 152) (tgt := 168) hx hb dX2_phaseAfter_16 (by decide +kernel) (by decide +kernel) (by decide +kernel) (by decide) ?_
            refine lv_iload_n hx hb dX2_phaseAfter_168 rfl (lv_at hl 1 rfl) ?_
            refine kz_rdS (As := [.int x]) (rest := []) ⟨hx, hb, hml, hown, hts⟩ (c_X2_phaseAfterFirstDigit l G x) (va_cwS 1 hts gX2_phaseAfter_X2_phaseAfterFirstDigit rfl rfl rfl (by decide +kernel) ⟨Nat.le_of_ble_eq_true rfl, Nat.le_of_ble_eq_true rfl⟩) hK hP rfl hl.1 rfl (Nat.le_of_ble_eq_true rfl) dX2_phaseAfter_169 ⟨Nat.le_of_ble_eq_true rfl, Nat.le_of_ble_eq_true rfl⟩ ?_
            subst hQ
            exact W.iret (v := (X2_phaseAfterFirstDigit_r x)) hx hb hr (fun t ht _ => ⟨(X2_phaseAfterFirstDigit_r x), rfl, (by rw [X2_phaseAfter_r, if_neg c_3, if_neg c_47, if_neg c_53, if_neg c_57, if_pos c_59]), ht⟩) (fun _ h9 => absurd h9 List.not_mem_nil) dX2_phaseAfter_172
          · have c_60 : ¬ p0 = 3 := by rw [← ey_44]; exact c_58
            by_cases c_61 : y_43 = 4
            · have c_62 : p0 = 4 := by rw [← ey_44]; exact c_61
              subst c_61
              refine lv_tableIn (off := 157) (tgt := 173) hx hb dX2_phaseAfter_16 (by decide +kernel) (by decide +kernel) (by decide +kernel) (by decide) ?_
              refine lv_iload_n hx hb dX2_phaseAfter_173 rfl (lv_at hl 1 rfl) ?_
              refine kz_rdS (As := [.int x]) (rest := []) ⟨hx, hb, hml, hown, hts⟩ (c_X2_isDigit l G x) (va_cwS 1 hts gX2_phaseAfter_X2_isDigit rfl rfl rfl (by decide +kernel) ⟨Nat.le_of_ble_eq_true rfl, Nat.le_of_ble_eq_true rfl⟩) hK hP rfl hl.1 rfl (Nat.le_of_ble_eq_true rfl) dX2_phaseAfter_174 ⟨Nat.le_of_ble_eq_true rfl, Nat.le_of_ble_eq_true rfl⟩ ?_
              refine lv_topi (fun y_63 ey_64 => ?_)
              by_cases c_65 : X2_isDigit_p x
              · rw [if_pos c_65] at ey_64
                subst ey_64
                refine lv_if_eq (tgt := 185) hx hb dX2_phaseAfter_177 (by decide) (fun c => absurd c (by decide)) (fun _ => ?_)
                refine lv_bipush (v := 6) hx hb dX2_phaseAfter_180 (by decide +kernel) ?_
                refine lv_goto (tgt := 186) hx hb dX2_phaseAfter_182 (by decide) ?_
                subst hQ
                exact W.iret (v := 6) hx hb hr (fun t ht _ => ⟨6, rfl, (by rw [X2_phaseAfter_r, if_neg c_3, if_neg c_47, if_neg c_53, if_neg c_57, if_neg c_60, if_pos c_62, if_pos c_65]), ht⟩) (fun _ h9 => absurd h9 List.not_mem_nil) dX2_phaseAfter_186
              · rw [if_neg c_65] at ey_64
                subst ey_64
                refine lv_if_eq (tgt := 185) hx hb dX2_phaseAfter_177 (by decide) (fun _ => ?_) (fun c => absurd c (by decide))
                refine lv_iconst (v := (-1)) hx hb dX2_phaseAfter_185 (by decide +kernel) ?_
                subst hQ
                exact W.iret (v := (-1)) hx hb hr (fun t ht _ => ⟨(-1), rfl, (by rw [X2_phaseAfter_r, if_neg c_3, if_neg c_47, if_neg c_53, if_neg c_57, if_neg c_60, if_pos c_62, if_neg c_65]), ht⟩) (fun _ h9 => absurd h9 List.not_mem_nil) dX2_phaseAfter_186
            · have c_66 : ¬ p0 = 4 := by rw [← ey_44]; exact c_61
              by_cases c_67 : y_43 = 5
              · have c_68 : p0 = 5 := by rw [← ey_44]; exact c_67
                subst c_67
                refine lv_tableIn (off := 171) (tgt := 187) hx hb dX2_phaseAfter_16 (by decide +kernel) (by decide +kernel) (by decide +kernel) (by decide) ?_
                refine lv_iload_n hx hb dX2_phaseAfter_187 rfl (lv_at hl 1 rfl) ?_
                refine lv_bipush (v := 48) hx hb dX2_phaseAfter_188 (by decide +kernel) ?_
                refine lv_icmp_ne (tgt := 198) hx hb dX2_phaseAfter_190 (by decide) (fun c_69 => ?_) (fun c_69 => ?_)
                · refine lv_iconst (v := (-1)) hx hb dX2_phaseAfter_198 (by decide +kernel) ?_
                  subst hQ
                  exact W.iret (v := (-1)) hx hb hr (fun t ht _ => ⟨(-1), rfl, (by rw [X2_phaseAfter_r, if_neg c_3, if_neg c_47, if_neg c_53, if_neg c_57, if_neg c_60, if_neg c_66, if_pos c_68, if_neg c_69]), ht⟩) (fun _ h9 => absurd h9 List.not_mem_nil) dX2_phaseAfter_199
                · refine lv_bipush (v := 6) hx hb dX2_phaseAfter_193 (by decide +kernel) ?_
                  refine lv_goto (tgt := 199) hx hb dX2_phaseAfter_195 (by decide) ?_
                  subst hQ
                  exact W.iret (v := 6) hx hb hr (fun t ht _ => ⟨6, rfl, (by rw [X2_phaseAfter_r, if_neg c_3, if_neg c_47, if_neg c_53, if_neg c_57, if_neg c_60, if_neg c_66, if_pos c_68, if_pos c_69]), ht⟩) (fun _ h9 => absurd h9 List.not_mem_nil) dX2_phaseAfter_199
              · have c_70 : ¬ p0 = 5 := by rw [← ey_44]; exact c_67
                by_cases c_71 : y_43 = 24
                · have c_72 : p0 = 24 := by rw [← ey_44]; exact c_71
                  subst c_71
                  refine lv_tableIn (off := 184) (tgt := 200) hx hb dX2_phaseAfter_16 (by decide +kernel) (by decide +kernel) (by decide +kernel) (by decide) ?_
                  refine lv_iload_n hx hb dX2_phaseAfter_200 rfl (lv_at hl 1 rfl) ?_
                  refine lv_bipush (v := 62) hx hb dX2_phaseAfter_201 (by decide +kernel) ?_
                  refine lv_icmp_ne (tgt := 211) hx hb dX2_phaseAfter_203 (by decide) (fun c_73 => ?_) (fun c_73 => ?_)
                  · refine lv_iconst (v := (-1)) hx hb dX2_phaseAfter_211 (by decide +kernel) ?_
                    subst hQ
                    exact W.iret (v := (-1)) hx hb hr (fun t ht _ => ⟨(-1), rfl, (by rw [X2_phaseAfter_r, if_neg c_3, if_neg c_47, if_neg c_53, if_neg c_57, if_neg c_60, if_neg c_66, if_neg c_70, if_pos c_72, if_neg c_73]), ht⟩) (fun _ h9 => absurd h9 List.not_mem_nil) dX2_phaseAfter_212
                  · refine lv_bipush (v := 25) hx hb dX2_phaseAfter_206 (by decide +kernel) ?_
                    refine lv_goto (tgt := 212) hx hb dX2_phaseAfter_208 (by decide) ?_
                    subst hQ
                    exact W.iret (v := 25) hx hb hr (fun t ht _ => ⟨25, rfl, (by rw [X2_phaseAfter_r, if_neg c_3, if_neg c_47, if_neg c_53, if_neg c_57, if_neg c_60, if_neg c_66, if_neg c_70, if_pos c_72, if_pos c_73]), ht⟩) (fun _ h9 => absurd h9 List.not_mem_nil) dX2_phaseAfter_212
                · have c_74 : ¬ p0 = 24 := by rw [← ey_44]; exact c_71
                  by_cases c_75 : y_43 = 25
                  · have c_76 : p0 = 25 := by rw [← ey_44]; exact c_75
                    subst c_75
                    refine lv_tableIn (off := 197) (tgt := 213) hx hb dX2_phaseAfter_16 (by decide +kernel) (by decide +kernel) (by decide +kernel) (by decide) ?_
                    refine lv_iload_n hx hb dX2_phaseAfter_213 rfl (lv_at hl 1 rfl) ?_
                    refine lv_bipush (v := 48) hx hb dX2_phaseAfter_214 (by decide +kernel) ?_
                    refine lv_bipush (v := 53) hx hb dX2_phaseAfter_216 (by decide +kernel) ?_
                    refine kz_rdSN (As := [.int x, .int 48, .int 53]) (rest := []) ⟨hx, hb, hml, hown, hts⟩ (c_X3_isWithin l G x 48 53) ⟨va_cnB 3 hts gX2_phaseAfter_X3_isWithin_n19 rfl rfl rfl hK.2.2.2.2.2.1 (hts (.initialized RX3) (by decide +kernel)) (by decide +kernel) ⟨Nat.le_of_ble_eq_true rfl, Nat.le_of_ble_eq_true rfl⟩, hts (.static yX3_isWithin) (by decide +kernel), trivial⟩ hK hP rfl hl.1 rfl (Nat.le_of_ble_eq_true rfl) dX2_phaseAfter_218 ⟨Nat.le_of_ble_eq_true rfl, Nat.le_of_ble_eq_true rfl⟩ ?_
                    refine lv_topi (fun y_77 ey_78 => ?_)
                    by_cases c_79 : X3_isWithin_p x 48 53
                    · rw [if_pos c_79] at ey_78
                      subst ey_78
                      refine lv_if_eq (tgt := 229) hx hb dX2_phaseAfter_221 (by decide) (fun c => absurd c (by decide)) (fun _ => ?_)
                      refine lv_bipush (v := 6) hx hb dX2_phaseAfter_224 (by decide +kernel) ?_
                      refine lv_goto (tgt := 230) hx hb dX2_phaseAfter_226 (by decide) ?_
                      subst hQ
                      exact W.iret (v := 6) hx hb hr (fun t ht _ => ⟨6, rfl, (by rw [X2_phaseAfter_r, if_neg c_3, if_neg c_47, if_neg c_53, if_neg c_57, if_neg c_60, if_neg c_66, if_neg c_70, if_neg c_74, if_pos c_76, if_pos c_79]), ht⟩) (fun _ h9 => absurd h9 List.not_mem_nil) dX2_phaseAfter_230
                    · rw [if_neg c_79] at ey_78
                      subst ey_78
                      refine lv_if_eq (tgt := 229) hx hb dX2_phaseAfter_221 (by decide) (fun _ => ?_) (fun c => absurd c (by decide))
                      refine lv_iconst (v := (-1)) hx hb dX2_phaseAfter_229 (by decide +kernel) ?_
                      subst hQ
                      exact W.iret (v := (-1)) hx hb hr (fun t ht _ => ⟨(-1), rfl, (by rw [X2_phaseAfter_r, if_neg c_3, if_neg c_47, if_neg c_53, if_neg c_57, if_neg c_60, if_neg c_66, if_neg c_70, if_neg c_74, if_pos c_76, if_neg c_79]), ht⟩) (fun _ h9 => absurd h9 List.not_mem_nil) dX2_phaseAfter_230
                  · have c_80 : ¬ p0 = 25 := by rw [← ey_44]; exact c_75
                    refine kz_tab (tgt := 231) hx hb dX2_phaseAfter_16 (fun h1 h2 => by have h0 := lv_neT c_45 (by decide +kernel : (0 : Int32).toInt = 0); have h1 := lv_neT c_48 (by decide +kernel : (1 : Int32).toInt = 1); have h2 := lv_neT c_54 (by decide +kernel : (2 : Int32).toInt = 2); have h3 := lv_neT c_58 (by decide +kernel : (3 : Int32).toInt = 3); have h4 := lv_neT c_61 (by decide +kernel : (4 : Int32).toInt = 4); have h5 := lv_neT c_67 (by decide +kernel : (5 : Int32).toInt = 5); have h24 := lv_neT c_71 (by decide +kernel : (24 : Int32).toInt = 24); have h25 := lv_neT c_75 (by decide +kernel : (25 : Int32).toInt = 25); rcases (by omega : y_43.toInt = 6 ∨ y_43.toInt = 7 ∨ y_43.toInt = 8 ∨ y_43.toInt = 9 ∨ y_43.toInt = 10 ∨ y_43.toInt = 11 ∨ y_43.toInt = 12 ∨ y_43.toInt = 13 ∨ y_43.toInt = 14 ∨ y_43.toInt = 15 ∨ y_43.toInt = 16 ∨ y_43.toInt = 17 ∨ y_43.toInt = 18 ∨ y_43.toInt = 19 ∨ y_43.toInt = 20 ∨ y_43.toInt = 21 ∨ y_43.toInt = 22 ∨ y_43.toInt = 23) with h9 | h9 | h9 | h9 | h9 | h9 | h9 | h9 | h9 | h9 | h9 | h9 | h9 | h9 | h9 | h9 | h9 | h9 <;> (rw [h9]; rfl)) (by decide) ?_
                    refine lv_iload_n hx hb dX2_phaseAfter_231 rfl (lv_at hl 0 rfl) ?_
                    refine lv_iload_n hx hb dX2_phaseAfter_232 rfl (lv_at hl 1 rfl) ?_
                    refine kz_rdS (As := [.int p0, .int x]) (rest := []) ⟨hx, hb, hml, hown, hts⟩ (c_X2_phaseInCode l G p0 x) (va_cwS 2 hts gX2_phaseAfter_X2_phaseInCode rfl rfl rfl (by decide +kernel) ⟨Nat.le_of_ble_eq_true rfl, Nat.le_of_ble_eq_true rfl⟩) hK hP rfl hl.1 rfl (Nat.le_of_ble_eq_true rfl) dX2_phaseAfter_233 ⟨Nat.le_of_ble_eq_true rfl, Nat.le_of_ble_eq_true rfl⟩ ?_
                    subst hQ
                    exact W.iret (v := (X2_phaseInCode_r p0 x)) hx hb hr (fun t ht _ => ⟨(X2_phaseInCode_r p0 x), rfl, (by rw [X2_phaseAfter_r, if_neg c_3, if_neg c_47, if_neg c_53, if_neg c_57, if_neg c_60, if_neg c_66, if_neg c_70, if_neg c_74, if_neg c_80]), ht⟩) (fun _ h9 => absurd h9 List.not_mem_nil) dX2_phaseAfter_236
abbrev X2_isFull_p (T : kz_S) : Prop := ¬ ((T 1 0) < 80)
set_option maxHeartbeats 4000000 in
set_option maxRecDepth 100000 in
theorem c_X2_isFull (l : Launch) (G : kz_G) (t : Nat → Nat) (T : kz_S) : kz_rd l G yX2_isFull wsX2_isFull 0 0 [.ref (t 0)] [txW G t T] (if X2_isFull_p T then 1 else 0) := by
  refine Met.ofW (cc := cX2_isFull) (maxL := 1) (ret := (some .boolean)) (by decide) rfl ?_
  intro p e s m args below meth c s₁ B hml hv
  obtain ⟨rfl, hP, hK⟩ := hv
  have hx := B.exec
  have hb := B.bytes
  have hr := B.returns
  have hts := atoms_spec (ws := wsX2_isFull) B.pre
  have hown : s.vm.findClass RX2 = some m.cls := findClass_of_methodNamed B.named
  have hlocks := B.notSynchronized
  have hinX2 : ∀ w ∈ u_ws RX2 TX2 2, w ∈ wsX2_isFull := by decide +kernel
  have hl := lv_entry ([.ref (t 0)]) (n := 1) (Nat.le_of_ble_eq_true rfl)
  rw [lg_entry_eq]
  generalize (lg_sl ([.ref (t 0)]) ++ List.replicate (1 - (lg_sl ([.ref (t 0)])).length) Slot.unset).toArray = ls at hl ⊢
  have hl : lv_has ls 1 [(0, .ref (t 0))] := hl
  refine kz_start (fun QQ hQ => ?_)
  refine lv_aload_n hx hb dX2_isFull_0 rfl (lv_at hl 0 rfl) ?_
  refine va_get (D := G.1) (ci := 2) (v := .int (T 1 0)) (C := RX2) (T := TX2) (N := 2) hx hb hts hinX2 hown hK.1 hP 0 rfl rfl 1 (by decide) (hts (.fieldLink RX2 15 "ParcelShelves$Text" "length" "I") (by decide +kernel)) (fun _ h9 => h9) rfl dX2_isFull_1 ?_
  refine lv_bipush (v := 80) hx hb dX2_isFull_4 (by decide +kernel) ?_
  refine lv_icmp_lt (tgt := 13) hx hb dX2_isFull_6 (by decide) (fun c_1 => ?_) (fun c_1 => ?_)
  · refine lv_iconst (v := 0) hx hb dX2_isFull_13 (by decide +kernel) ?_
    subst hQ
    exact W.zret (v := 0) hx hb hr (by decide +kernel) (fun t ht _ => ⟨0, rfl, ((if_neg (fun h => h c_1)).symm), ht⟩) (fun _ h9 => absurd h9 List.not_mem_nil) dX2_isFull_14
  · refine lv_iconst (v := 1) hx hb dX2_isFull_9 (by decide +kernel) ?_
    refine lv_goto (tgt := 14) hx hb dX2_isFull_10 (by decide) ?_
    subst hQ
    exact W.zret (v := 1) hx hb hr (by decide +kernel) (fun t ht _ => ⟨1, rfl, ((if_pos c_1).symm), ht⟩) (fun _ h9 => absurd h9 List.not_mem_nil) dX2_isFull_14
def X2_add_r (T : kz_S) (q : Nat) : Int32 := if 80 ≤ (T 1 0) then (T 1 0) else ((T 1 0) + 1)
def X2_add_s (T : kz_S) (q : Nat) : kz_S := if 80 ≤ (T 1 0) then T else (va_up (va_up T 0 (upd (T 0) ((T 1 0).toNatClampNeg) (nI q))) 1 (fun _ => ((T 1 0) + 1)))
set_option maxHeartbeats 4000000 in
set_option maxRecDepth 100000 in
theorem c_X2_add (l : Launch) (G : kz_G) (t : Nat → Nat) (T : kz_S) (q : Nat) (hq : q < 128) (hL0 : ∃ n, n ≤ 80 ∧ T 1 0 = nI n) : kz_mi l G yX2_add wsX2_add 0 0 [.ref (t 0), .int (nI q)] [txW G t T] [txW G t (X2_add_s T q)] (X2_add_r T q) := by
  intro sz
  refine Met.ofW (cc := cX2_add) (maxL := 2) (ret := (some .int)) (by decide) rfl ?_
  intro p e s m args below meth c s₁ B hml hv
  obtain ⟨rfl, hsz, hP, hK, hD0⟩ := hv
  have hx := B.exec
  have hb := B.bytes
  have hr := B.returns
  have hts := atoms_spec (ws := wsX2_add) B.pre
  have hown : s.vm.findClass RX2 = some m.cls := findClass_of_methodNamed B.named
  have hlocks := B.notSynchronized
  have hinX2 : ∀ w ∈ u_ws RX2 TX2 2, w ∈ wsX2_add := by decide +kernel
  subst hsz
  have hD := hD0.self (sz := s.heap.size)
  generalize hAe : kz_A [txW G t T] s.heap.size = A at hD ⊢
  have hA : ∀ q : Nat, s.heap.size ≤ q → A q := fun q h => by rw [← hAe]; exact Or.inr h
  have hS : va_S A s.heap s.heap [] := va_S.rf
  have hl := lv_entry ([.ref (t 0), .int (nI q)]) (n := 2) (Nat.le_of_ble_eq_true rfl)
  rw [lg_entry_eq]
  generalize (lg_sl ([.ref (t 0), .int (nI q)]) ++ List.replicate (2 - (lg_sl ([.ref (t 0), .int (nI q)])).length) Slot.unset).toArray = ls at hl ⊢
  have hl : lv_has ls 2 [(0, .ref (t 0)), (1, .int (nI q))] := hl
  refine kz_start (fun QQ hQ => ?_)
  have hP : kz_P G [txW G t T] s.heap := hP
  refine lv_aload_n hx hb dX2_add_0 rfl (lv_at hl 0 rfl) ?_
  refine va_get (D := G.1) (ci := 2) (v := .int (T 1 0)) (C := RX2) (T := TX2) (N := 2) hx hb hts hinX2 hown hK.1 hP 0 rfl rfl 1 (by decide) (hts (.fieldLink RX2 15 "ParcelShelves$Text" "length" "I") (by decide +kernel)) (fun _ h9 => h9) rfl dX2_add_1 ?_
  refine lv_bipush (v := 80) hx hb dX2_add_4 (by decide +kernel) ?_
  refine lv_icmp_ge (tgt := 29) hx hb dX2_add_6 (by decide) (fun c_1 => ?_) (fun c_1 => ?_)
  · refine lv_aload_n hx hb dX2_add_29 rfl (lv_at hl 0 rfl) ?_
    refine va_get (D := G.1) (ci := 2) (v := .int (T 1 0)) (C := RX2) (T := TX2) (N := 2) hx hb hts hinX2 hown hK.1 hP 0 rfl rfl 1 (by decide) (hts (.fieldLink RX2 15 "ParcelShelves$Text" "length" "I") (by decide +kernel)) (fun _ h9 => h9) rfl dX2_add_30 ?_
    subst hQ
    have hP9 : kz_P G [txW G t (X2_add_s T q)] s.heap := by rw [X2_add_s, if_pos c_1]; exact hP
    have hD9 : kz_D A [txW G t (X2_add_s T q)] := by rw [X2_add_s, if_pos c_1]; exact hD
    exact W.iret (v := (T 1 0)) hx hb hr (fun t ht hW => ⟨⟨(T 1 0), (), rfl, (by rw [X2_add_r, if_pos c_1]), by rw [ht]; exact hP9, hD9⟩, hS.F ht⟩) hS.2.2 dX2_add_33
  · refine lv_aload_n hx hb dX2_add_9 rfl (lv_at hl 0 rfl) ?_
    refine va_get (D := G.1) (ci := 2) (v := .ref (t 1)) (C := RX2) (T := TX2) (N := 2) hx hb hts hinX2 hown hK.1 hP 0 rfl rfl 0 (by decide) (hts (.fieldLink RX2 11 "ParcelShelves$Text" "signs" "[C") (by decide +kernel)) (fun _ h9 => h9) rfl dX2_add_10 ?_
    refine lv_aload_n hx hb dX2_add_13 rfl (lv_at hl 0 rfl) ?_
    refine va_get (D := G.1) (ci := 2) (v := .int (T 1 0)) (C := RX2) (T := TX2) (N := 2) hx hb hts hinX2 hown hK.1 hP 0 rfl rfl 1 (by decide) (hts (.fieldLink RX2 15 "ParcelShelves$Text" "length" "I") (by decide +kernel)) (fun _ h9 => h9) rfl dX2_add_14 ?_
    refine lv_iload_n hx hb dX2_add_17 rfl (lv_at hl 1 rfl) ?_
    refine va_cast hx hb hK.1 hP hD hS 1 1 rfl rfl (kz_lenIn hL0 c_1) dX2_add_18 (fun H locs hP hD hS => ?_)
    rw [kz_narC (n := q) (by omega)] at hP hD
    have hP : kz_P G [txW G t (va_up T 0 (upd (T 0) ((T 1 0).toNatClampNeg) (nI q)))] H := hP
    have hD : kz_D A [txW G t (va_up T 0 (upd (T 0) ((T 1 0).toNatClampNeg) (nI q)))] := hD
    refine lv_aload_n hx hb dX2_add_19 rfl (lv_at hl 0 rfl) ?_
    refine lv_dup hx hb dX2_add_20 rfl ?_
    refine va_get (D := G.1) (ci := 2) (v := .int (T 1 0)) (C := RX2) (T := TX2) (N := 2) hx hb hts hinX2 hown hK.1 hP 0 rfl rfl 1 (by decide) (hts (.fieldLink RX2 15 "ParcelShelves$Text" "length" "I") (by decide +kernel)) (fun _ h9 => h9) rfl dX2_add_21 ?_
    refine lv_iconst (v := 1) hx hb dX2_add_24 (by decide +kernel) ?_
    refine lv_iadd hx hb dX2_add_25 ?_
    refine va_put (D := G.1) (ci := 2) (v := .int ((T 1 0) + 1)) (ty := .int) (C := RX2) (T := TX2) (N := 2) hx hb hts hinX2 tyX2 tyX2_ok nmX2 hown hK.1 hP hD hS 0 rfl rfl 1 (by decide) (hts (.fieldLink RX2 15 "ParcelShelves$Text" "length" "I") (by decide +kernel)) (fun _ h9 => h9) rfl (by decide +kernel) rfl rfl (Nat.le_of_ble_eq_true rfl) dX2_add_26 (fun H locs hP hD hS => ?_)
    have hP : kz_P G [txW G t (va_up (va_up T 0 (upd (T 0) ((T 1 0).toNatClampNeg) (nI q))) 1 (fun _ => ((T 1 0) + 1)))] H := hP
    have hD : kz_D A [txW G t (va_up (va_up T 0 (upd (T 0) ((T 1 0).toNatClampNeg) (nI q))) 1 (fun _ => ((T 1 0) + 1)))] := hD
    refine lv_aload_n hx hb dX2_add_29 rfl (lv_at hl 0 rfl) ?_
    refine va_get (D := G.1) (ci := 2) (v := .int ((T 1 0) + 1)) (C := RX2) (T := TX2) (N := 2) hx hb hts hinX2 hown hK.1 hP 0 rfl rfl 1 (by decide) (hts (.fieldLink RX2 15 "ParcelShelves$Text" "length" "I") (by decide +kernel)) (fun _ h9 => h9) rfl dX2_add_30 ?_
    subst hQ
    have hP9 : kz_P G [txW G t (X2_add_s T q)] H := by rw [X2_add_s, if_neg c_1]; exact hP
    have hD9 : kz_D A [txW G t (X2_add_s T q)] := by rw [X2_add_s, if_neg c_1]; exact hD
    exact W.iret (v := ((T 1 0) + 1)) hx hb hr (fun t ht hW => ⟨⟨((T 1 0) + 1), (), rfl, (by rw [X2_add_r, if_neg c_1]), by rw [ht]; exact hP9, hD9⟩, hS.F ht⟩) hS.2.2 dX2_add_33
def X2_empty_r (T : kz_S) : Int32 := (T 1 0)
def X2_empty_s (T : kz_S) : kz_S := (va_up T 1 (fun _ => 0))
set_option maxHeartbeats 4000000 in
set_option maxRecDepth 100000 in
theorem c_X2_empty (l : Launch) (G : kz_G) (t : Nat → Nat) (T : kz_S) : kz_mi l G yX2_empty wsX2_empty 0 0 [.ref (t 0)] [txW G t T] [txW G t (X2_empty_s T)] (X2_empty_r T) := by
  intro sz
  refine Met.ofW (cc := cX2_empty) (maxL := 2) (ret := (some .int)) (by decide) rfl ?_
  intro p e s m args below meth c s₁ B hml hv
  obtain ⟨rfl, hsz, hP, hK, hD0⟩ := hv
  have hx := B.exec
  have hb := B.bytes
  have hr := B.returns
  have hts := atoms_spec (ws := wsX2_empty) B.pre
  have hown : s.vm.findClass RX2 = some m.cls := findClass_of_methodNamed B.named
  have hlocks := B.notSynchronized
  have hinX2 : ∀ w ∈ u_ws RX2 TX2 2, w ∈ wsX2_empty := by decide +kernel
  subst hsz
  have hD := hD0.self (sz := s.heap.size)
  generalize hAe : kz_A [txW G t T] s.heap.size = A at hD ⊢
  have hA : ∀ q : Nat, s.heap.size ≤ q → A q := fun q h => by rw [← hAe]; exact Or.inr h
  have hS : va_S A s.heap s.heap [] := va_S.rf
  have hl := lv_entry ([.ref (t 0)]) (n := 2) (Nat.le_of_ble_eq_true rfl)
  rw [lg_entry_eq]
  generalize (lg_sl ([.ref (t 0)]) ++ List.replicate (2 - (lg_sl ([.ref (t 0)])).length) Slot.unset).toArray = ls at hl ⊢
  have hl : lv_has ls 2 [(0, .ref (t 0))] := hl
  refine kz_start (fun QQ hQ => ?_)
  have hP : kz_P G [txW G t T] s.heap := hP
  refine lv_aload_n hx hb dX2_empty_0 rfl (lv_at hl 0 rfl) ?_
  refine va_get (D := G.1) (ci := 2) (v := .int (T 1 0)) (C := RX2) (T := TX2) (N := 2) hx hb hts hinX2 hown hK.1 hP 0 rfl rfl 1 (by decide) (hts (.fieldLink RX2 15 "ParcelShelves$Text" "length" "I") (by decide +kernel)) (fun _ h9 => h9) rfl dX2_empty_1 ?_
  refine lv_istore_n (lv' := [(1, .int (T 1 0)), (0, .ref (t 0))]) hx hb dX2_empty_4 rfl hl (by decide) rfl (fun ls hl => ?_)
  refine lv_aload_n hx hb dX2_empty_5 rfl (lv_at hl 1 rfl) ?_
  refine lv_iconst (v := 0) hx hb dX2_empty_6 (by decide +kernel) ?_
  refine va_put (D := G.1) (ci := 2) (v := .int 0) (ty := .int) (C := RX2) (T := TX2) (N := 2) hx hb hts hinX2 tyX2 tyX2_ok nmX2 hown hK.1 hP hD hS 0 rfl rfl 1 (by decide) (hts (.fieldLink RX2 15 "ParcelShelves$Text" "length" "I") (by decide +kernel)) (fun _ h9 => h9) rfl (by decide +kernel) rfl rfl (Nat.le_of_ble_eq_true rfl) dX2_empty_7 (fun H locs hP hD hS => ?_)
  have hP : kz_P G [txW G t (va_up T 1 (fun _ => 0))] H := hP
  have hD : kz_D A [txW G t (va_up T 1 (fun _ => 0))] := hD
  refine lv_iload_n hx hb dX2_empty_10 rfl (lv_at hl 0 rfl) ?_
  subst hQ
  have hP9 : kz_P G [txW G t (X2_empty_s T)] H := hP
  have hD9 : kz_D A [txW G t (X2_empty_s T)] := hD
  exact W.iret (v := (T 1 0)) hx hb hr (fun t ht hW => ⟨⟨(T 1 0), (), rfl, rfl, by rw [ht]; exact hP9, hD9⟩, hS.F ht⟩) hS.2.2 dX2_empty_11
def X2_signAt_r (T : kz_S) (i : Int32) : Int32 := if X3_isWithin_p i 0 ((T 1 0) - 1) then ((T 0) i.toNatClampNeg) else 0
set_option maxHeartbeats 4000000 in
set_option maxRecDepth 100000 in
theorem c_X2_signAt (l : Launch) (G : kz_G) (t : Nat → Nat) (T : kz_S) (i : Int32) (hL0 : ∃ n, n ≤ 80 ∧ T 1 0 = nI n) (hch : ∀ k, k < 80 → ∃ c, c < 128 ∧ T 0 k = nI c) : kz_rd l G yX2_signAt wsX2_signAt 1 22 [.ref (t 0), .int i] [txW G t T] (X2_signAt_r T i) := by
  refine Met.ofW (cc := cX2_signAt) (maxL := 2) (ret := (some .char)) (by decide) rfl ?_
  intro p e s m args below meth c s₁ B hml hv
  obtain ⟨rfl, hP, hK⟩ := hv
  have hx := B.exec
  have hb := B.bytes
  have hr := B.returns
  have hts := atoms_spec (ws := wsX2_signAt) B.pre
  have hown : s.vm.findClass RX2 = some m.cls := findClass_of_methodNamed B.named
  have hlocks := B.notSynchronized
  have hinX2 : ∀ w ∈ u_ws RX2 TX2 2, w ∈ wsX2_signAt := by decide +kernel
  have hl := lv_entry ([.ref (t 0), .int i]) (n := 2) (Nat.le_of_ble_eq_true rfl)
  rw [lg_entry_eq]
  generalize (lg_sl ([.ref (t 0), .int i]) ++ List.replicate (2 - (lg_sl ([.ref (t 0), .int i])).length) Slot.unset).toArray = ls at hl ⊢
  have hl : lv_has ls 2 [(0, .ref (t 0)), (1, .int i)] := hl
  refine kz_start (fun QQ hQ => ?_)
  refine lv_iload_n hx hb dX2_signAt_0 rfl (lv_at hl 1 rfl) ?_
  refine lv_iconst (v := 0) hx hb dX2_signAt_1 (by decide +kernel) ?_
  refine lv_aload_n hx hb dX2_signAt_2 rfl (lv_at hl 0 rfl) ?_
  refine va_get (D := G.1) (ci := 2) (v := .int (T 1 0)) (C := RX2) (T := TX2) (N := 2) hx hb hts hinX2 hown hK.1 hP 0 rfl rfl 1 (by decide) (hts (.fieldLink RX2 15 "ParcelShelves$Text" "length" "I") (by decide +kernel)) (fun _ h9 => h9) rfl dX2_signAt_3 ?_
  refine lv_iconst (v := 1) hx hb dX2_signAt_6 (by decide +kernel) ?_
  refine lv_isub hx hb dX2_signAt_7 ?_
  refine kz_rdSN (As := [.int i, .int 0, .int ((T 1 0) - 1)]) (rest := []) ⟨hx, hb, hml, hown, hts⟩ (c_X3_isWithin l G i 0 ((T 1 0) - 1)) ⟨va_cnB 3 hts gX2_signAt_X3_isWithin_n19 rfl rfl rfl hK.2.2.2.2.2.1 (hts (.initialized RX3) (by decide +kernel)) (by decide +kernel) ⟨Nat.le_of_ble_eq_true rfl, Nat.le_of_ble_eq_true rfl⟩, hts (.static yX3_isWithin) (by decide +kernel), trivial⟩ hK (hP.sub (cs := []) [] rfl) rfl hl.1 rfl (Nat.le_of_ble_eq_true rfl) dX2_signAt_8 ⟨Nat.le_of_ble_eq_true rfl, Nat.le_of_ble_eq_true rfl⟩ ?_
  refine lv_topi (fun y_1 ey_2 => ?_)
  by_cases c_3 : X3_isWithin_p i 0 ((T 1 0) - 1)
  · rw [if_pos c_3] at ey_2
    subst ey_2
    refine lv_if_eq (tgt := 23) hx hb dX2_signAt_11 (by decide) (fun c => absurd c (by decide)) (fun _ => ?_)
    refine lv_aload_n hx hb dX2_signAt_14 rfl (lv_at hl 0 rfl) ?_
    refine va_get (D := G.1) (ci := 2) (v := .ref (t 1)) (C := RX2) (T := TX2) (N := 2) hx hb hts hinX2 hown hK.1 hP 0 rfl rfl 0 (by decide) (hts (.fieldLink RX2 11 "ParcelShelves$Text" "signs" "[C") (by decide +kernel)) (fun _ h9 => h9) rfl dX2_signAt_15 ?_
    refine lv_iload_n hx hb dX2_signAt_18 rfl (lv_at hl 1 rfl) ?_
    refine va_cald (f := (T 0)) hx hb hK.1 hP 1 1 rfl rfl (kz_sgIn hL0 c_3) dX2_signAt_19 ?_
    refine lv_goto (tgt := 24) hx hb dX2_signAt_20 (by decide) ?_
    subst hQ
    exact W.zret (v := ((T 0) i.toNatClampNeg)) hx hb hr (kz_sgC hch (kz_sgIn hL0 c_3)) (fun t ht _ => ⟨((T 0) i.toNatClampNeg), rfl, (by rw [X2_signAt_r, if_pos c_3]), ht⟩) (fun _ h9 => absurd h9 List.not_mem_nil) dX2_signAt_24
  · rw [if_neg c_3] at ey_2
    subst ey_2
    refine lv_if_eq (tgt := 23) hx hb dX2_signAt_11 (by decide) (fun _ => ?_) (fun c => absurd c (by decide))
    refine lv_iconst (v := 0) hx hb dX2_signAt_23 (by decide +kernel) ?_
    subst hQ
    exact W.zret (v := 0) hx hb hr (by decide +kernel) (fun t ht _ => ⟨0, rfl, (by rw [X2_signAt_r, if_neg c_3]), ht⟩) (fun _ h9 => absurd h9 List.not_mem_nil) dX2_signAt_24
def X2_sizeAt_r (T : kz_S) (i : Int32) : Int32 := (X2_sizeOf_r (X2_signAt_r T i))
set_option maxHeartbeats 4000000 in
set_option maxRecDepth 100000 in
theorem c_X2_sizeAt (l : Launch) (G : kz_G) (t : Nat → Nat) (T : kz_S) (i : Int32) (hL0 : ∃ n, n ≤ 80 ∧ T 1 0 = nI n) (hch : ∀ k, k < 80 → ∃ c, c < 128 ∧ T 0 k = nI c) : kz_rd l G yX2_sizeAt wsX2_sizeAt 2 43 [.ref (t 0), .int i] [txW G t T] (X2_sizeAt_r T i) := by
  refine Met.ofW (cc := cX2_sizeAt) (maxL := 2) (ret := (some .int)) (by decide) rfl ?_
  intro p e s m args below meth c s₁ B hml hv
  obtain ⟨rfl, hP, hK⟩ := hv
  have hx := B.exec
  have hb := B.bytes
  have hr := B.returns
  have hts := atoms_spec (ws := wsX2_sizeAt) B.pre
  have hown : s.vm.findClass RX2 = some m.cls := findClass_of_methodNamed B.named
  have hlocks := B.notSynchronized
  have hl := lv_entry ([.ref (t 0), .int i]) (n := 2) (Nat.le_of_ble_eq_true rfl)
  rw [lg_entry_eq]
  generalize (lg_sl ([.ref (t 0), .int i]) ++ List.replicate (2 - (lg_sl ([.ref (t 0), .int i])).length) Slot.unset).toArray = ls at hl ⊢
  have hl : lv_has ls 2 [(0, .ref (t 0)), (1, .int i)] := hl
  refine kz_start (fun QQ hQ => ?_)
  refine lv_aload_n hx hb dX2_sizeAt_0 rfl (lv_at hl 0 rfl) ?_
  refine lv_iload_n hx hb dX2_sizeAt_1 rfl (lv_at hl 1 rfl) ?_
  refine kz_rdV (As := [.int i]) (rest := []) (b := t 0) ⟨hx, hb, hml, hown, hts⟩ (c_X2_signAt l G t T i (by assumption) (by assumption)) (cwV 1 hts gX2_sizeAt_X2_signAt rfl rfl rfl (by decide +kernel) ⟨Nat.le_of_ble_eq_true rfl, Nat.le_of_ble_eq_true rfl⟩) hK hP (kz_recv hK hP (ci := 2) (q0 := 0) rfl rfl) rfl hl.1 rfl (Nat.le_of_ble_eq_true rfl) dX2_sizeAt_2 ⟨Nat.le_of_ble_eq_true rfl, Nat.le_of_ble_eq_true rfl⟩ ?_
  refine kz_rdS (As := [.int (X2_signAt_r T i)]) (rest := []) ⟨hx, hb, hml, hown, hts⟩ (c_X2_sizeOf l G (X2_signAt_r T i)) (va_cwS 1 hts gX2_sizeAt_X2_sizeOf rfl rfl rfl (by decide +kernel) ⟨Nat.le_of_ble_eq_true rfl, Nat.le_of_ble_eq_true rfl⟩) hK (hP.sub (cs := []) [] rfl) rfl hl.1 rfl (Nat.le_of_ble_eq_true rfl) dX2_sizeAt_5 ⟨Nat.le_of_ble_eq_true rfl, Nat.le_of_ble_eq_true rfl⟩ ?_
  subst hQ
  exact W.iret (v := (X2_sizeOf_r (X2_signAt_r T i))) hx hb hr (fun t ht _ => ⟨(X2_sizeOf_r (X2_signAt_r T i)), rfl, rfl, ht⟩) (fun _ h9 => absurd h9 List.not_mem_nil) dX2_sizeAt_8
def X2_fe (T : kz_S) : Int32 → Nat → Nat → Int32
  | p0, _, 0 => if X2_isEndAllowed_p p0 then (-6) else T 1 0
  | p0, i, n + 1 => if X2_phaseAfter_r p0 (X2_signAt_r T (nI i)) = (-1) then nI i else X2_fe T (X2_phaseAfter_r p0 (X2_signAt_r T (nI i))) (i + 1) n
def X2_firstError_r (T : kz_S) : Int32 := X2_fe T 0 0 (T 1 0).toNatClampNeg
theorem X2_fe_t {T : kz_S} {p0 : Int32} {i L : Nat} (h : i < L) (c : X2_phaseAfter_r p0 (X2_signAt_r T (nI i)) = (-1)) : X2_fe T p0 i (L - i) = nI i := by
  rw [show L - i = (L - (i + 1)) + 1 by omega, X2_fe, if_pos c]
theorem X2_fe_f {T : kz_S} {p0 : Int32} {i L : Nat} (h : i < L) (c : ¬ X2_phaseAfter_r p0 (X2_signAt_r T (nI i)) = (-1)) : X2_fe T p0 i (L - i) = X2_fe T (X2_phaseAfter_r p0 (X2_signAt_r T (nI i))) (i + 1) (L - (i + 1)) := by
  rw [show L - i = (L - (i + 1)) + 1 by omega, X2_fe, if_neg c]
theorem X2_fe_e {T : kz_S} {p0 : Int32} {i L : Nat} (h : L ≤ i) : X2_fe T p0 i (L - i) = if X2_isEndAllowed_p p0 then (-6) else T 1 0 := by
  rw [show L - i = 0 by omega, X2_fe]
set_option maxHeartbeats 4000000 in
set_option maxRecDepth 100000 in
theorem c_X2_firstError (l : Launch) (G : kz_G) (t : Nat → Nat) (T : kz_S) (hL0 : ∃ n, n ≤ 80 ∧ T 1 0 = nI n) (hch : ∀ k, k < 80 → ∃ c, c < 128 ∧ T 0 k = nI c) : kz_rd l G yX2_firstError wsX2_firstError 4 84 [.ref (t 0)] [txW G t T] (X2_firstError_r T) := by
  refine Met.ofW (cc := cX2_firstError) (maxL := 3) (ret := (some .int)) (by decide) rfl ?_
  intro p e s m args below meth c s₁ B hml hv
  obtain ⟨rfl, hP, hK⟩ := hv
  have hx := B.exec
  have hb := B.bytes
  have hr := B.returns
  have hts := atoms_spec (ws := wsX2_firstError) B.pre
  have hown : s.vm.findClass RX2 = some m.cls := findClass_of_methodNamed B.named
  have hlocks := B.notSynchronized
  have hinX2 : ∀ w ∈ u_ws RX2 TX2 2, w ∈ wsX2_firstError := by decide +kernel
  have hl := lv_entry ([.ref (t 0)]) (n := 3) (Nat.le_of_ble_eq_true rfl)
  rw [lg_entry_eq]
  generalize (lg_sl ([.ref (t 0)]) ++ List.replicate (3 - (lg_sl ([.ref (t 0)])).length) Slot.unset).toArray = ls at hl ⊢
  have hl : lv_has ls 3 [(0, .ref (t 0))] := hl
  refine kz_start (fun QQ hQ => ?_)
  obtain ⟨L, hL80, hL⟩ := id hL0
  have hLL : (T 1 0).toNatClampNeg = L := by rw [hL]; exact nI_clamp (by omega)
  refine lv_iconst (v := 0) hx hb dX2_firstError_0 (by decide +kernel) ?_
  refine lv_istore_n (lv' := [(1, .int 0), (0, .ref (t 0))]) hx hb dX2_firstError_1 rfl hl (by decide) rfl (fun ls hl => ?_)
  refine lv_iconst (v := 0) hx hb dX2_firstError_2 (by decide +kernel) ?_
  refine lv_istore_n (lv' := [(2, .int 0), (1, .int 0), (0, .ref (t 0))]) hx hb dX2_firstError_3 rfl hl (by decide) rfl (fun ls hl => ?_)
  have L4_1 : ∀ (n4 : Nat) (i : Nat) (p1 : Int32), (L - i < n4) → (i ≤ L) → (X2_firstError_r T = X2_fe T p1 i (L - i)) → ∀ ls : Array Slot, lv_has ls 3 [(2, .int (nI i)), (1, .int p1), (0, .ref (t 0))] → W p l e (headSpec wsX2_firstError (kz_rm 4 84)).room s m ([.ref (t 0)] : List Value).toArray below meth c s.heap [] 0 0 QQ (F0 m 4 ls []) := by
    intro n4
    induction n4 with
    | zero => intro i p1 h0; exact absurd h0 (Nat.not_lt_zero _)
    | succ n4 ih4_2 =>
      intro i p1 hmeas4 hi1 hres ls hl
      refine lv_iload_n hx hb dX2_firstError_4 rfl (lv_at hl 0 rfl) ?_
      refine lv_aload_n hx hb dX2_firstError_5 rfl (lv_at hl 2 rfl) ?_
      refine va_get (D := G.1) (ci := 2) (v := .int (T 1 0)) (C := RX2) (T := TX2) (N := 2) hx hb hts hinX2 hown hK.1 hP 0 rfl rfl 1 (by decide) (hts (.fieldLink RX2 15 "ParcelShelves$Text" "length" "I") (by decide +kernel)) (fun _ h9 => h9) rfl dX2_firstError_6 ?_
      refine lv_icmp_ge (tgt := 35) hx hb dX2_firstError_9 (by decide) (fun c_3 => ?_) (fun c_3 => ?_)
      · have hge := kz_le (a := L) (b := i) (by rw [← hL]; exact c_3) (by omega) (by omega)
        refine lv_iload_n hx hb dX2_firstError_35 rfl (lv_at hl 1 rfl) ?_
        refine kz_rdS (As := [.int p1]) (rest := []) ⟨hx, hb, hml, hown, hts⟩ (c_X2_isEndAllowed l G p1) (va_cwS 1 hts gX2_firstError_X2_isEndAllowed rfl rfl rfl (by decide +kernel) ⟨Nat.le_of_ble_eq_true rfl, Nat.le_of_ble_eq_true rfl⟩) hK (hP.sub (cs := []) [] rfl) rfl hl.1 rfl (Nat.le_of_ble_eq_true rfl) dX2_firstError_36 ⟨Nat.le_of_ble_eq_true rfl, Nat.le_of_ble_eq_true rfl⟩ ?_
        refine lv_topi (fun y_4 ey_5 => ?_)
        by_cases c_6 : X2_isEndAllowed_p p1
        · rw [if_pos c_6] at ey_5
          subst ey_5
          refine lv_if_eq (tgt := 47) hx hb dX2_firstError_39 (by decide) (fun c => absurd c (by decide)) (fun _ => ?_)
          refine lv_bipush (v := (-6)) hx hb dX2_firstError_42 (by decide +kernel) ?_
          refine lv_goto (tgt := 51) hx hb dX2_firstError_44 (by decide) ?_
          subst hQ
          exact W.iret (v := (-6)) hx hb hr (fun t ht _ => ⟨(-6), rfl, ((hres.trans ((X2_fe_e hge).trans (if_pos c_6))).symm), ht⟩) (fun _ h9 => absurd h9 List.not_mem_nil) dX2_firstError_51
        · rw [if_neg c_6] at ey_5
          subst ey_5
          refine lv_if_eq (tgt := 47) hx hb dX2_firstError_39 (by decide) (fun _ => ?_) (fun c => absurd c (by decide))
          refine lv_aload_n hx hb dX2_firstError_47 rfl (lv_at hl 2 rfl) ?_
          refine va_get (D := G.1) (ci := 2) (v := .int (T 1 0)) (C := RX2) (T := TX2) (N := 2) hx hb hts hinX2 hown hK.1 hP 0 rfl rfl 1 (by decide) (hts (.fieldLink RX2 15 "ParcelShelves$Text" "length" "I") (by decide +kernel)) (fun _ h9 => h9) rfl dX2_firstError_48 ?_
          subst hQ
          exact W.iret (v := (T 1 0)) hx hb hr (fun t ht _ => ⟨(T 1 0), rfl, ((hres.trans ((X2_fe_e hge).trans (if_neg c_6))).symm), ht⟩) (fun _ h9 => absurd h9 List.not_mem_nil) dX2_firstError_51
      · have hlt := kz_gt (a := L) (b := i) (by rw [← hL]; exact c_3) (by omega) (by omega)
        refine lv_iload_n hx hb dX2_firstError_12 rfl (lv_at hl 1 rfl) ?_
        refine lv_aload_n hx hb dX2_firstError_13 rfl (lv_at hl 2 rfl) ?_
        refine lv_iload_n hx hb dX2_firstError_14 rfl (lv_at hl 0 rfl) ?_
        refine kz_rdV (As := [.int (nI i)]) (rest := [.int p1]) (b := t 0) ⟨hx, hb, hml, hown, hts⟩ (c_X2_signAt l G t T (nI i) (by assumption) (by assumption)) (cwV 1 hts gX2_firstError_X2_signAt rfl rfl rfl (by decide +kernel) ⟨Nat.le_of_ble_eq_true rfl, Nat.le_of_ble_eq_true rfl⟩) hK hP (kz_recv hK hP (ci := 2) (q0 := 0) rfl rfl) rfl hl.1 rfl (Nat.le_of_ble_eq_true rfl) dX2_firstError_15 ⟨Nat.le_of_ble_eq_true rfl, Nat.le_of_ble_eq_true rfl⟩ ?_
        refine kz_rdS (As := [.int p1, .int (X2_signAt_r T (nI i))]) (rest := []) ⟨hx, hb, hml, hown, hts⟩ (c_X2_phaseAfter l G p1 (X2_signAt_r T (nI i))) (va_cwS 2 hts gX2_firstError_X2_phaseAfter rfl rfl rfl (by decide +kernel) ⟨Nat.le_of_ble_eq_true rfl, Nat.le_of_ble_eq_true rfl⟩) hK (hP.sub (cs := []) [] rfl) rfl hl.1 rfl (Nat.le_of_ble_eq_true rfl) dX2_firstError_18 ⟨Nat.le_of_ble_eq_true rfl, Nat.le_of_ble_eq_true rfl⟩ ?_
        refine lv_istore_n (lv' := [(1, .int (X2_phaseAfter_r p1 (X2_signAt_r T (nI i)))), (2, .int (nI i)), (0, .ref (t 0))]) hx hb dX2_firstError_21 rfl hl (by decide) rfl (fun ls hl => ?_)
        refine lv_iload_n hx hb dX2_firstError_22 rfl (lv_at hl 0 rfl) ?_
        refine lv_iconst (v := (-1)) hx hb dX2_firstError_23 (by decide +kernel) ?_
        refine lv_icmp_ne (tgt := 29) hx hb dX2_firstError_24 (by decide) (fun c_7 => ?_) (fun c_7 => ?_)
        · refine lv_iinc (v := (nI (i + 1))) (lv' := [(2, .int (nI (i + 1))), (1, .int (X2_phaseAfter_r p1 (X2_signAt_r T (nI i)))), (0, .ref (t 0))]) hx hb dX2_firstError_29 hl (k := 1) rfl (nI_1 _) (by decide) rfl (fun ls hl => ?_)
          refine lv_goto (tgt := 4) hx hb dX2_firstError_32 (by decide) ?_
          exact ih4_2 (i + 1) (X2_phaseAfter_r p1 (X2_signAt_r T (nI i))) (by omega) (by omega) (hres.trans (X2_fe_f hlt c_7)) ls (lv_sub hl [0, 1, 2] rfl)
        · refine lv_iload_n hx hb dX2_firstError_27 rfl (lv_at hl 1 rfl) ?_
          subst hQ
          exact W.iret (v := (nI i)) hx hb hr (fun t ht _ => ⟨(nI i), rfl, ((hres.trans (X2_fe_t hlt c_7)).symm), ht⟩) (fun _ h9 => absurd h9 List.not_mem_nil) dX2_firstError_28
  exact L4_1 _ 0 0 (Nat.lt_succ_self _) (by omega) (by rw [X2_firstError_r, hLL, Nat.sub_zero]) ls (lv_sub hl [0, 1, 2] rfl)
def X2_num (T : kz_S) : Int32 → Nat → Nat → Int32
  | x, _, 0 => x
  | x, i, n + 1 => X2_num T (10 * x + X2_signAt_r T (nI i) - 48) (i + 1) n
def X2_numberAt_r (T : kz_S) (i0 d0 : Nat) : Int32 := X2_num T 0 i0 d0
theorem X2_num_s {T : kz_S} {x : Int32} {i E : Nat} (h : i < E) : X2_num T x i (E - i) = X2_num T (10 * x + X2_signAt_r T (nI i) - 48) (i + 1) (E - (i + 1)) := by
  rw [show E - i = (E - (i + 1)) + 1 by omega, X2_num]
theorem X2_num_e {T : kz_S} {x : Int32} {i E : Nat} (h : E ≤ i) : X2_num T x i (E - i) = x := by
  rw [show E - i = 0 by omega, X2_num]
set_option maxHeartbeats 4000000 in
set_option maxRecDepth 100000 in
theorem c_X2_numberAt (l : Launch) (G : kz_G) (t : Nat → Nat) (T : kz_S) (i0 : Nat) (d0 : Nat) (hb0 : i0 + d0 < 2 ^ 20) (hL0 : ∃ n, n ≤ 80 ∧ T 1 0 = nI n) (hch : ∀ k, k < 80 → ∃ c, c < 128 ∧ T 0 k = nI c) : kz_rd l G yX2_numberAt wsX2_numberAt 2 43 [.ref (t 0), .int (nI i0), .int (nI d0)] [txW G t T] (X2_numberAt_r T i0 d0) := by
  refine Met.ofW (cc := cX2_numberAt) (maxL := 5) (ret := (some .int)) (by decide) rfl ?_
  intro p e s m args below meth c s₁ B hml hv
  obtain ⟨rfl, hP, hK⟩ := hv
  have hx := B.exec
  have hb := B.bytes
  have hr := B.returns
  have hts := atoms_spec (ws := wsX2_numberAt) B.pre
  have hown : s.vm.findClass RX2 = some m.cls := findClass_of_methodNamed B.named
  have hlocks := B.notSynchronized
  have hl := lv_entry ([.ref (t 0), .int (nI i0), .int (nI d0)]) (n := 5) (Nat.le_of_ble_eq_true rfl)
  rw [lg_entry_eq]
  generalize (lg_sl ([.ref (t 0), .int (nI i0), .int (nI d0)]) ++ List.replicate (5 - (lg_sl ([.ref (t 0), .int (nI i0), .int (nI d0)])).length) Slot.unset).toArray = ls at hl ⊢
  have hl : lv_has ls 5 [(0, .ref (t 0)), (1, .int (nI i0)), (2, .int (nI d0))] := hl
  refine kz_start (fun QQ hQ => ?_)
  refine lv_iconst (v := 0) hx hb dX2_numberAt_0 (by decide +kernel) ?_
  refine lv_istore_n (lv' := [(3, .int 0), (0, .ref (t 0)), (1, .int (nI i0)), (2, .int (nI d0))]) hx hb dX2_numberAt_1 rfl hl (by decide) rfl (fun ls hl => ?_)
  refine lv_iload_n hx hb dX2_numberAt_2 rfl (lv_at hl 2 rfl) ?_
  refine lv_istore (lv' := [(4, .int (nI i0)), (3, .int 0), (0, .ref (t 0)), (1, .int (nI i0)), (2, .int (nI d0))]) hx hb dX2_numberAt_3 hl (by decide) rfl (fun ls hl => ?_)
  have L5_1 : ∀ (n5 : Nat) (i : Nat) (x : Int32), (i0 + d0 - i < n5) → (i0 ≤ i) → (i ≤ i0 + d0) → (X2_numberAt_r T i0 d0 = X2_num T x i (i0 + d0 - i)) → ∀ ls : Array Slot, lv_has ls 5 [(4, .int (nI i)), (3, .int x), (0, .ref (t 0)), (1, .int (nI i0)), (2, .int (nI d0))] → W p l e (headSpec wsX2_numberAt (kz_rm 2 43)).room s m ([.ref (t 0), .int (nI i0), .int (nI d0)] : List Value).toArray below meth c s.heap [] 0 0 QQ (F0 m 5 ls []) := by
    intro n5
    induction n5 with
    | zero => intro i x h0; exact absurd h0 (Nat.not_lt_zero _)
    | succ n5 ih5_2 =>
      intro i x hmeas5 hi0 hi1 hres ls hl
      refine lv_iload hx hb dX2_numberAt_5 (lv_at hl 0 rfl) ?_
      refine lv_iload_n hx hb dX2_numberAt_7 rfl (lv_at hl 3 rfl) ?_
      refine lv_iload_n hx hb dX2_numberAt_8 rfl (lv_at hl 4 rfl) ?_
      refine lv_iadd hx hb dX2_numberAt_9 ?_
      refine lv_topi (fun y_3 ey_4 => ?_)
      obtain rfl : y_3 = (nI (i0 + d0)) := by rw [ey_4]; exact nI_add _ _
      refine lv_icmp_ge (tgt := 34) hx hb dX2_numberAt_10 (by decide) (fun c_5 => ?_) (fun c_5 => ?_)
      · have hge := kz_le (a := i0 + d0) (b := i) c_5 (by omega) (by omega)
        refine lv_iload_n hx hb dX2_numberAt_34 rfl (lv_at hl 1 rfl) ?_
        subst hQ
        exact W.iret (v := x) hx hb hr (fun t ht _ => ⟨x, rfl, ((hres.trans (X2_num_e hge)).symm), ht⟩) (fun _ h9 => absurd h9 List.not_mem_nil) dX2_numberAt_35
      · have hlt := kz_gt (a := i0 + d0) (b := i) c_5 (by omega) (by omega)
        refine lv_bipush (v := 10) hx hb dX2_numberAt_13 (by decide +kernel) ?_
        refine lv_iload_n hx hb dX2_numberAt_15 rfl (lv_at hl 1 rfl) ?_
        refine lv_imul hx hb dX2_numberAt_16 ?_
        refine lv_aload_n hx hb dX2_numberAt_17 rfl (lv_at hl 2 rfl) ?_
        refine lv_iload hx hb dX2_numberAt_18 (lv_at hl 0 rfl) ?_
        refine kz_rdV (As := [.int (nI i)]) (rest := [.int (10 * x)]) (b := t 0) ⟨hx, hb, hml, hown, hts⟩ (c_X2_signAt l G t T (nI i) (by assumption) (by assumption)) (cwV 1 hts gX2_numberAt_X2_signAt rfl rfl rfl (by decide +kernel) ⟨Nat.le_of_ble_eq_true rfl, Nat.le_of_ble_eq_true rfl⟩) hK hP (kz_recv hK hP (ci := 2) (q0 := 0) rfl rfl) rfl hl.1 rfl (Nat.le_of_ble_eq_true rfl) dX2_numberAt_20 ⟨Nat.le_of_ble_eq_true rfl, Nat.le_of_ble_eq_true rfl⟩ ?_
        refine lv_iadd hx hb dX2_numberAt_23 ?_
        refine lv_bipush (v := 48) hx hb dX2_numberAt_24 (by decide +kernel) ?_
        refine lv_isub hx hb dX2_numberAt_26 ?_
        refine lv_istore_n (lv' := [(3, .int (((10 * x) + (X2_signAt_r T (nI i))) - 48)), (4, .int (nI i)), (0, .ref (t 0)), (1, .int (nI i0)), (2, .int (nI d0))]) hx hb dX2_numberAt_27 rfl hl (by decide) rfl (fun ls hl => ?_)
        refine lv_iinc (v := (nI (i + 1))) (lv' := [(4, .int (nI (i + 1))), (3, .int (((10 * x) + (X2_signAt_r T (nI i))) - 48)), (0, .ref (t 0)), (1, .int (nI i0)), (2, .int (nI d0))]) hx hb dX2_numberAt_28 hl (k := 1) rfl (nI_1 _) (by decide) rfl (fun ls hl => ?_)
        refine lv_goto (tgt := 5) hx hb dX2_numberAt_31 (by decide) ?_
        exact ih5_2 (i + 1) (((10 * x) + (X2_signAt_r T (nI i))) - 48) (by omega) (by omega) (by omega) (hres.trans (X2_num_s hlt)) ls (lv_sub hl [0, 1, 2, 3, 4] rfl)
  exact L5_1 _ i0 0 (Nat.lt_succ_self _) (Nat.le_refl _) (by omega) (by rw [X2_numberAt_r, Nat.add_sub_cancel_left]) ls (lv_sub hl [0, 1, 2, 3, 4] rfl)
abbrev X2_isStartOfCommand_p (T : kz_S) (j : Nat) : Prop := (((nI j) = 0) ∨ ((X2_signAt_r T ((nI j) - 1)) = 59))
set_option maxHeartbeats 4000000 in
set_option maxRecDepth 100000 in
theorem c_X2_isStartOfCommand (l : Launch) (G : kz_G) (t : Nat → Nat) (T : kz_S) (j : Nat) (hL0 : ∃ n, n ≤ 80 ∧ T 1 0 = nI n) (hch : ∀ k, k < 80 → ∃ c, c < 128 ∧ T 0 k = nI c) : kz_rd l G yX2_isStartOfCommand wsX2_isStartOfCommand 2 43 [.ref (t 0), .int (nI j)] [txW G t T] (if X2_isStartOfCommand_p T j then 1 else 0) := by
  refine Met.ofW (cc := cX2_isStartOfCommand) (maxL := 2) (ret := (some .boolean)) (by decide) rfl ?_
  intro p e s m args below meth c s₁ B hml hv
  obtain ⟨rfl, hP, hK⟩ := hv
  have hx := B.exec
  have hb := B.bytes
  have hr := B.returns
  have hts := atoms_spec (ws := wsX2_isStartOfCommand) B.pre
  have hown : s.vm.findClass RX2 = some m.cls := findClass_of_methodNamed B.named
  have hlocks := B.notSynchronized
  have hl := lv_entry ([.ref (t 0), .int (nI j)]) (n := 2) (Nat.le_of_ble_eq_true rfl)
  rw [lg_entry_eq]
  generalize (lg_sl ([.ref (t 0), .int (nI j)]) ++ List.replicate (2 - (lg_sl ([.ref (t 0), .int (nI j)])).length) Slot.unset).toArray = ls at hl ⊢
  have hl : lv_has ls 2 [(0, .ref (t 0)), (1, .int (nI j))] := hl
  refine kz_start (fun QQ hQ => ?_)
  refine lv_iload_n hx hb dX2_isStartOfCommand_0 rfl (lv_at hl 1 rfl) ?_
  refine lv_if_eq (tgt := 16) hx hb dX2_isStartOfCommand_1 (by decide) (fun c_1 => ?_) (fun c_1 => ?_)
  · refine lv_iconst (v := 1) hx hb dX2_isStartOfCommand_16 (by decide +kernel) ?_
    refine lv_goto (tgt := 21) hx hb dX2_isStartOfCommand_17 (by decide) ?_
    subst hQ
    exact W.zret (v := 1) hx hb hr (by decide +kernel) (fun t ht _ => ⟨1, rfl, ((if_pos (Or.inl c_1)).symm), ht⟩) (fun _ h9 => absurd h9 List.not_mem_nil) dX2_isStartOfCommand_21
  · refine lv_aload_n hx hb dX2_isStartOfCommand_4 rfl (lv_at hl 0 rfl) ?_
    refine lv_iload_n hx hb dX2_isStartOfCommand_5 rfl (lv_at hl 1 rfl) ?_
    refine lv_iconst (v := 1) hx hb dX2_isStartOfCommand_6 (by decide +kernel) ?_
    refine lv_isub hx hb dX2_isStartOfCommand_7 ?_
    refine kz_rdV (As := [.int ((nI j) - 1)]) (rest := []) (b := t 0) ⟨hx, hb, hml, hown, hts⟩ (c_X2_signAt l G t T ((nI j) - 1) (by assumption) (by assumption)) (cwV 1 hts gX2_isStartOfCommand_X2_signAt rfl rfl rfl (by decide +kernel) ⟨Nat.le_of_ble_eq_true rfl, Nat.le_of_ble_eq_true rfl⟩) hK hP (kz_recv hK hP (ci := 2) (q0 := 0) rfl rfl) rfl hl.1 rfl (Nat.le_of_ble_eq_true rfl) dX2_isStartOfCommand_8 ⟨Nat.le_of_ble_eq_true rfl, Nat.le_of_ble_eq_true rfl⟩ ?_
    refine lv_bipush (v := 59) hx hb dX2_isStartOfCommand_11 (by decide +kernel) ?_
    refine lv_icmp_ne (tgt := 20) hx hb dX2_isStartOfCommand_13 (by decide) (fun c_2 => ?_) (fun c_2 => ?_)
    · refine lv_iconst (v := 0) hx hb dX2_isStartOfCommand_20 (by decide +kernel) ?_
      subst hQ
      exact W.zret (v := 0) hx hb hr (by decide +kernel) (fun t ht _ => ⟨0, rfl, ((if_neg (fun h => h.elim c_1 c_2)).symm), ht⟩) (fun _ h9 => absurd h9 List.not_mem_nil) dX2_isStartOfCommand_21
    · refine lv_iconst (v := 1) hx hb dX2_isStartOfCommand_16 (by decide +kernel) ?_
      refine lv_goto (tgt := 21) hx hb dX2_isStartOfCommand_17 (by decide) ?_
      subst hQ
      exact W.zret (v := 1) hx hb hr (by decide +kernel) (fun t ht _ => ⟨1, rfl, ((if_pos (Or.inr c_2)).symm), ht⟩) (fun _ h9 => absurd h9 List.not_mem_nil) dX2_isStartOfCommand_21
def X2_endOfCommand_r (T : kz_S) (i0 : Nat) : Int32 := kz_ff (fun j => X2_signAt_r T (nI j) = 59) (T 1 0) i0 ((T 1 0).toNatClampNeg - i0)
set_option maxHeartbeats 4000000 in
set_option maxRecDepth 100000 in
theorem c_X2_endOfCommand (l : Launch) (G : kz_G) (t : Nat → Nat) (T : kz_S) (i0 : Nat) (hs0 : i0 ≤ (T 1 0).toNatClampNeg) (hL0 : ∃ n, n ≤ 80 ∧ T 1 0 = nI n) (hch : ∀ k, k < 80 → ∃ c, c < 128 ∧ T 0 k = nI c) : kz_rd l G yX2_endOfCommand wsX2_endOfCommand 2 43 [.ref (t 0), .int (nI i0)] [txW G t T] (X2_endOfCommand_r T i0) := by
  refine Met.ofW (cc := cX2_endOfCommand) (maxL := 3) (ret := (some .int)) (by decide) rfl ?_
  intro p e s m args below meth c s₁ B hml hv
  obtain ⟨rfl, hP, hK⟩ := hv
  have hx := B.exec
  have hb := B.bytes
  have hr := B.returns
  have hts := atoms_spec (ws := wsX2_endOfCommand) B.pre
  have hown : s.vm.findClass RX2 = some m.cls := findClass_of_methodNamed B.named
  have hlocks := B.notSynchronized
  have hinX2 : ∀ w ∈ u_ws RX2 TX2 2, w ∈ wsX2_endOfCommand := by decide +kernel
  have hl := lv_entry ([.ref (t 0), .int (nI i0)]) (n := 3) (Nat.le_of_ble_eq_true rfl)
  rw [lg_entry_eq]
  generalize (lg_sl ([.ref (t 0), .int (nI i0)]) ++ List.replicate (3 - (lg_sl ([.ref (t 0), .int (nI i0)])).length) Slot.unset).toArray = ls at hl ⊢
  have hl : lv_has ls 3 [(0, .ref (t 0)), (1, .int (nI i0))] := hl
  refine kz_start (fun QQ hQ => ?_)
  obtain ⟨L, hL80, hL⟩ := id hL0
  have hLL : (T 1 0).toNatClampNeg = L := by rw [hL]; exact nI_clamp (by omega)
  refine lv_iload_n hx hb dX2_endOfCommand_0 rfl (lv_at hl 1 rfl) ?_
  refine lv_istore_n (lv' := [(2, .int (nI i0)), (0, .ref (t 0)), (1, .int (nI i0))]) hx hb dX2_endOfCommand_1 rfl hl (by decide) rfl (fun ls hl => ?_)
  have L2_1 : ∀ (n2 : Nat) (i : Nat), (L - i < n2) → (i ≤ L) → (X2_endOfCommand_r T i0 = kz_ff (fun j => X2_signAt_r T (nI j) = 59) (T 1 0) i (L - i)) → ∀ ls : Array Slot, lv_has ls 3 [(2, .int (nI i)), (0, .ref (t 0)), (1, .int (nI i0))] → W p l e (headSpec wsX2_endOfCommand (kz_rm 2 43)).room s m ([.ref (t 0), .int (nI i0)] : List Value).toArray below meth c s.heap [] 0 0 QQ (F0 m 2 ls []) := by
    intro n2
    induction n2 with
    | zero => intro i h0; exact absurd h0 (Nat.not_lt_zero _)
    | succ n2 ih2_2 =>
      intro i hmeas2 hi1 hres ls hl
      refine lv_iload_n hx hb dX2_endOfCommand_2 rfl (lv_at hl 0 rfl) ?_
      refine lv_aload_n hx hb dX2_endOfCommand_3 rfl (lv_at hl 1 rfl) ?_
      refine va_get (D := G.1) (ci := 2) (v := .int (T 1 0)) (C := RX2) (T := TX2) (N := 2) hx hb hts hinX2 hown hK.1 hP 0 rfl rfl 1 (by decide) (hts (.fieldLink RX2 15 "ParcelShelves$Text" "length" "I") (by decide +kernel)) (fun _ h9 => h9) rfl dX2_endOfCommand_4 ?_
      refine lv_icmp_ge (tgt := 26) hx hb dX2_endOfCommand_7 (by decide) (fun c_3 => ?_) (fun c_3 => ?_)
      · have hge := kz_le (a := L) (b := i) (by rw [← hL]; exact c_3) (by omega) (by omega)
        refine lv_iload_n hx hb dX2_endOfCommand_26 rfl (lv_at hl 0 rfl) ?_
        subst hQ
        exact W.iret (v := (nI i)) hx hb hr (fun t ht _ => ⟨(nI i), rfl, ((hres.trans ((kz_ff_e hge).trans (hL.trans (by rw [show i = L by omega])))).symm), ht⟩) (fun _ h9 => absurd h9 List.not_mem_nil) dX2_endOfCommand_27
      · have hlt := kz_gt (a := L) (b := i) (by rw [← hL]; exact c_3) (by omega) (by omega)
        refine lv_aload_n hx hb dX2_endOfCommand_10 rfl (lv_at hl 1 rfl) ?_
        refine lv_iload_n hx hb dX2_endOfCommand_11 rfl (lv_at hl 0 rfl) ?_
        refine kz_rdV (As := [.int (nI i)]) (rest := []) (b := t 0) ⟨hx, hb, hml, hown, hts⟩ (c_X2_signAt l G t T (nI i) (by assumption) (by assumption)) (cwV 1 hts gX2_endOfCommand_X2_signAt rfl rfl rfl (by decide +kernel) ⟨Nat.le_of_ble_eq_true rfl, Nat.le_of_ble_eq_true rfl⟩) hK hP (kz_recv hK hP (ci := 2) (q0 := 0) rfl rfl) rfl hl.1 rfl (Nat.le_of_ble_eq_true rfl) dX2_endOfCommand_12 ⟨Nat.le_of_ble_eq_true rfl, Nat.le_of_ble_eq_true rfl⟩ ?_
        refine lv_bipush (v := 59) hx hb dX2_endOfCommand_15 (by decide +kernel) ?_
        refine lv_icmp_eq (tgt := 26) hx hb dX2_endOfCommand_17 (by decide) (fun c_4 => ?_) (fun c_4 => ?_)
        · refine lv_iload_n hx hb dX2_endOfCommand_26 rfl (lv_at hl 0 rfl) ?_
          subst hQ
          exact W.iret (v := (nI i)) hx hb hr (fun t ht _ => ⟨(nI i), rfl, ((hres.trans (kz_ff_t (P := fun j => X2_signAt_r T (nI j) = 59) hlt c_4)).symm), ht⟩) (fun _ h9 => absurd h9 List.not_mem_nil) dX2_endOfCommand_27
        · refine lv_iinc (v := (nI (i + 1))) (lv' := [(2, .int (nI (i + 1))), (0, .ref (t 0)), (1, .int (nI i0))]) hx hb dX2_endOfCommand_20 hl (k := 0) rfl (nI_1 _) (by decide) rfl (fun ls hl => ?_)
          refine lv_goto (tgt := 2) hx hb dX2_endOfCommand_23 (by decide) ?_
          exact ih2_2 (i + 1) (by omega) (by omega) (hres.trans (kz_ff_f (P := fun j => X2_signAt_r T (nI j) = 59) hlt c_4)) ls (lv_sub hl [0, 1, 2] rfl)
  exact L2_1 _ i0 (Nat.lt_succ_self _) (by omega) (by rw [X2_endOfCommand_r, hLL]) ls (lv_sub hl [0, 1, 2] rfl)
