set_option maxHeartbeats 1000000 in
set_option maxRecDepth 100000 in
theorem c_X4_errorPosition (l : Launch) (G : kz_G) (a : Nat → Nat) (M : kz_S) (hty : ∃ t, t ≤ 80 ∧ M 9 0 = nI t) : kz_mi l G yX4_errorPosition wsX4_errorPosition 4 91 [.ref (a 0)] [mdW G a M] [mdW G a (va_up (va_up (va_up (va_up M 10 (X4_errorPosition_c10 (M 8) (M 9 0) (M 10))) 11 (fun _ => (X4_errorPosition_c11 (M 8) (M 9 0) (M 10)))) 12 (fun _ => (X4_errorPosition_c12 (M 8) (M 9 0) (M 10)))) 13 (fun _ => (X4_errorPosition_c13 (M 8) (M 9 0) (M 10))))] (X4_errorPosition_r (M 8) (M 9 0) (M 10)) := by
  intro sz
  refine Met.ofW (cc := cX4_errorPosition) (maxL := 2) (ret := (some .int)) (by decide) rfl ?_
  intro p e s m args below meth c s₁ B hml hv
  obtain ⟨rfl, hsz, hP, hK, hD0⟩ := hv
  have hx := B.exec
  have hb := B.bytes
  have hr := B.returns
  have hts := atoms_spec (ws := wsX4_errorPosition) B.pre
  have hown : s.vm.findClass RX4 = some m.cls := findClass_of_methodNamed B.named
  have hlocks := B.notSynchronized
  have hinX4 : ∀ w ∈ u_ws RX4 TX4 14, w ∈ wsX4_errorPosition := by decide +kernel
  subst hsz
  have hD := hD0.self (sz := s.heap.size)
  generalize hAe : kz_A [mdW G a M] s.heap.size = A at hD ⊢
  have hA : ∀ q : Nat, s.heap.size ≤ q → A q := fun q h => by rw [← hAe]; exact Or.inr h
  have hS : va_S A s.heap s.heap [] := va_S.rf
  have hl := lv_entry ([.ref (a 0)]) (n := 2) (Nat.le_of_ble_eq_true rfl)
  rw [lg_entry_eq]
  generalize (lg_sl ([.ref (a 0)]) ++ List.replicate (2 - (lg_sl ([.ref (a 0)])).length) Slot.unset).toArray = ls at hl ⊢
  have hl : lv_has ls 2 [(0, .ref (a 0))] := hl
  refine kz_start (fun QQ hQ => ?_)
  have hP : kz_P G [mdW G a M] s.heap := hP
  refine lv_aload_n hx hb dX4_errorPosition_0 rfl (lv_at hl 0 rfl) ?_
  refine lv_iconst (v := 0) hx hb dX4_errorPosition_1 (by decide +kernel) ?_
  refine va_put (D := G.1) (ci := 4) (v := .int 0) (ty := .int) (C := RX4) (T := TX4) (N := 14) hx hb hts hinX4 tyX4 tyX4_ok nmX4 hown hK.1 hP hD hS 0 rfl rfl 11 (by decide) (hts (.fieldLink RX4 202 "ParcelShelvesModel" "toldMany" "I") (by decide +kernel)) (fun _ h9 => h9) rfl (by decide +kernel) rfl rfl (Nat.le_of_ble_eq_true rfl) dX4_errorPosition_2 (fun H locs hP hD hS => ?_)
  have hP : kz_P G [mdW G a (va_up M 11 (fun _ => 0))] H := hP
  have hD : kz_D A [mdW G a (va_up M 11 (fun _ => 0))] := hD
  refine lv_aload_n hx hb dX4_errorPosition_5 rfl (lv_at hl 0 rfl) ?_
  refine lv_iconst (v := 0) hx hb dX4_errorPosition_6 (by decide +kernel) ?_
  refine va_put (D := G.1) (ci := 4) (v := .int 0) (ty := .int) (C := RX4) (T := TX4) (N := 14) hx hb hts hinX4 tyX4 tyX4_ok nmX4 hown hK.1 hP hD hS 0 rfl rfl 12 (by decide) (hts (.fieldLink RX4 180 "ParcelShelvesModel" "spot" "I") (by decide +kernel)) (fun _ h9 => h9) rfl (by decide +kernel) rfl rfl (Nat.le_of_ble_eq_true rfl) dX4_errorPosition_7 (fun H locs hP hD hS => ?_)
  have hP : kz_P G [mdW G a (va_up (va_up M 11 (fun _ => 0)) 12 (fun _ => 0))] H := hP
  have hD : kz_D A [mdW G a (va_up (va_up M 11 (fun _ => 0)) 12 (fun _ => 0))] := hD
  refine lv_aload_n hx hb dX4_errorPosition_10 rfl (lv_at hl 0 rfl) ?_
  refine lv_bipush (v := (-6)) hx hb dX4_errorPosition_11 (by decide +kernel) ?_
  refine va_put (D := G.1) (ci := 4) (v := .int (-6)) (ty := .int) (C := RX4) (T := TX4) (N := 14) hx hb hts hinX4 tyX4 tyX4_ok nmX4 hown hK.1 hP hD hS 0 rfl rfl 13 (by decide) (hts (.fieldLink RX4 183 "ParcelShelvesModel" "wrong" "I") (by decide +kernel)) (fun _ h9 => h9) rfl (by decide +kernel) rfl rfl (Nat.le_of_ble_eq_true rfl) dX4_errorPosition_13 (fun H locs hP hD hS => ?_)
  have hP : kz_P G [mdW G a (va_up (va_up (va_up M 11 (fun _ => 0)) 12 (fun _ => 0)) 13 (fun _ => (-6)))] H := hP
  have hD : kz_D A [mdW G a (va_up (va_up (va_up M 11 (fun _ => 0)) 12 (fun _ => 0)) 13 (fun _ => (-6)))] := hD
  refine lv_iconst (v := 1) hx hb dX4_errorPosition_16 (by decide +kernel) ?_
  refine lv_istore_n (lv' := [(1, .int 1), (0, .ref (a 0))]) hx hb dX4_errorPosition_17 rfl hl (by decide) rfl (fun ls hl => ?_)
  have L18_1 : ∀ (n18 : Nat) (k : Nat) (q : X4_pq), (k < n18) → (kz_at (M 8) (M 9 0) k q) → (X4_eps (M 8) (M 9 0) (M 10) = X4_ep (M 8) (M 9 0) k q) → ∀ (H : Heap) (locs : List Loc), kz_P G [mdW G a (va_up (va_up (va_up (va_up M 10 q.1) 11 (fun _ => q.2.1)) 12 (fun _ => q.2.2.1)) 13 (fun _ => q.2.2.2))] H → kz_D A [mdW G a (va_up (va_up (va_up (va_up M 10 q.1) 11 (fun _ => q.2.1)) 12 (fun _ => q.2.2.1)) 13 (fun _ => q.2.2.2))] → va_S A s.heap H locs → ∀ ls : Array Slot, lv_has ls 2 [(1, .int 1), (0, .ref (a 0))] → W p l e (headSpec wsX4_errorPosition (kz_rm 4 91)).room s m ([.ref (a 0)] : List Value).toArray below meth c H locs 0 0 QQ (F0 m 18 ls []) := by
    intro n18
    induction n18 with
    | zero => intro k q h0; exact absurd h0 (Nat.not_lt_zero _)
    | succ n18 ih18_2 =>
      intro k q hmeas18 hat hres H locs hP hD hS ls hl
      refine lv_iload_n hx hb dX4_errorPosition_18 rfl (lv_at hl 0 rfl) ?_
      refine lv_if_eq (tgt := 92) hx hb dX4_errorPosition_19 (by decide) (fun c => absurd c (by decide)) (fun _ => ?_)
      obtain ⟨k, rfl⟩ := kz_at_k hat
      refine lv_aload_n hx hb dX4_errorPosition_22 rfl (lv_at hl 1 rfl) ?_
      refine kz_mvV (As := []) (rest := []) (b := a 0) (wr := []) (bs' := [mdW G a (va_up (va_up (va_up (va_up M 10 (X4_readCommand_c10 (M 8) (M 9 0) q.1 q.2.1 q.2.2.1 q.2.2.2)) 11 (fun _ => (X4_readCommand_c11 (M 8) (M 9 0) q.1 q.2.1 q.2.2.1 q.2.2.2))) 12 (fun _ => (X4_readCommand_c12 (M 8) (M 9 0) q.1 q.2.1 q.2.2.1 q.2.2.2))) 13 (fun _ => (X4_readCommand_c13 (M 8) (M 9 0) q.1 q.2.1 q.2.2.1 q.2.2.2)))]) ⟨hx, hb, hml, hown, hts⟩ (c_X4_readCommand l G a (va_up (va_up (va_up (va_up M 10 q.1) 11 (fun _ => q.2.1)) 12 (fun _ => q.2.2.1)) 13 (fun _ => q.2.2.2)) (kz_at_S hat) (by rw [va_up_ne _ _ (by decide : 9 ≠ 13), va_up_ne _ _ (by decide : 9 ≠ 12), va_up_ne _ _ (by decide : 9 ≠ 11), va_up_ne _ _ (by decide : 9 ≠ 10)]; exact hty) (kz_at_T hat)) (cwV 0 hts gX4_errorPosition_X4_readCommand rfl rfl rfl (by decide +kernel) ⟨Nat.le_of_ble_eq_true rfl, Nat.le_of_ble_eq_true rfl⟩) hK hP hD hS hA [0] [] [0] rfl (by decide) rfl (by decide) (by decide) rfl (by decide) (kz_recv hK hP (ci := 4) (q0 := 0) rfl rfl) rfl hl.1 rfl (Nat.le_of_ble_eq_true rfl) dX4_errorPosition_23 ⟨Nat.le_of_ble_eq_true rfl, Nat.le_of_ble_eq_true rfl⟩ (fun H locs hP hD hS => ?_)
      have hP : kz_P G [mdW G a (va_up (va_up (va_up (va_up M 10 ((pq_rd (M 8) (M 9 0) q).1)) 11 (fun _ => (pq_rd (M 8) (M 9 0) q).2.1)) 12 (fun _ => (pq_rd (M 8) (M 9 0) q).2.2.1)) 13 (fun _ => (pq_rd (M 8) (M 9 0) q).2.2.2))] H := hP
      have hD : kz_D A [mdW G a (va_up (va_up (va_up (va_up M 10 ((pq_rd (M 8) (M 9 0) q).1)) 11 (fun _ => (pq_rd (M 8) (M 9 0) q).2.1)) 12 (fun _ => (pq_rd (M 8) (M 9 0) q).2.2.1)) 13 (fun _ => (pq_rd (M 8) (M 9 0) q).2.2.2))] := hD
      refine lv_aload_n hx hb dX4_errorPosition_26 rfl (lv_at hl 1 rfl) ?_
      refine va_get (D := G.1) (ci := 4) (v := .int ((pq_rd (M 8) (M 9 0) q).2.2.2)) (C := RX4) (T := TX4) (N := 14) hx hb hts hinX4 hown hK.1 hP 0 rfl rfl 13 (by decide) (hts (.fieldLink RX4 183 "ParcelShelvesModel" "wrong" "I") (by decide +kernel)) (fun _ h9 => h9) rfl dX4_errorPosition_27 ?_
      refine lv_bipush (v := (-6)) hx hb dX4_errorPosition_30 (by decide +kernel) ?_
      refine lv_icmp_ne (tgt := 50) hx hb dX4_errorPosition_32 (by decide) (fun c_3 => ?_) (fun c_3 => ?_)
      · refine lv_iconst (v := 0) hx hb dX4_errorPosition_50 (by decide +kernel) ?_
        refine lv_istore_n (lv' := [(1, .int 0), (0, .ref (a 0))]) hx hb dX4_errorPosition_51 rfl hl (by decide) rfl (fun ls hl => ?_)
        refine lv_iload_n hx hb dX4_errorPosition_52 rfl (lv_at hl 0 rfl) ?_
        refine lv_if_eq (tgt := 18) hx hb dX4_errorPosition_53 (by decide) (fun _ => ?_) (fun c => absurd c (by decide))
        refine lv_iload_n hx hb dX4_errorPosition_18 rfl (lv_at hl 0 rfl) ?_
        refine lv_if_eq (tgt := 92) hx hb dX4_errorPosition_19 (by decide) (fun _ => ?_) (fun c => absurd c (by decide))
        have hfin : X4_eps (M 8) (M 9 0) (M 10) = (pq_rd (M 8) (M 9 0) q) := hres.trans (by rw [X4_ep, if_neg c_3])
        refine lv_aload_n hx hb dX4_errorPosition_92 rfl (lv_at hl 1 rfl) ?_
        refine va_get (D := G.1) (ci := 4) (v := .int ((pq_rd (M 8) (M 9 0) q).2.2.2)) (C := RX4) (T := TX4) (N := 14) hx hb hts hinX4 hown hK.1 hP 0 rfl rfl 13 (by decide) (hts (.fieldLink RX4 183 "ParcelShelvesModel" "wrong" "I") (by decide +kernel)) (fun _ h9 => h9) rfl dX4_errorPosition_93 ?_
        subst hQ
        have hP9 : kz_P G [mdW G a (va_up (va_up (va_up (va_up M 10 (X4_errorPosition_c10 (M 8) (M 9 0) (M 10))) 11 (fun _ => (X4_errorPosition_c11 (M 8) (M 9 0) (M 10)))) 12 (fun _ => (X4_errorPosition_c12 (M 8) (M 9 0) (M 10)))) 13 (fun _ => (X4_errorPosition_c13 (M 8) (M 9 0) (M 10))))] H := by rw [X4_errorPosition_c10, X4_errorPosition_c11, X4_errorPosition_c12, X4_errorPosition_c13, hfin]; exact hP
        have hD9 : kz_D A [mdW G a (va_up (va_up (va_up (va_up M 10 (X4_errorPosition_c10 (M 8) (M 9 0) (M 10))) 11 (fun _ => (X4_errorPosition_c11 (M 8) (M 9 0) (M 10)))) 12 (fun _ => (X4_errorPosition_c12 (M 8) (M 9 0) (M 10)))) 13 (fun _ => (X4_errorPosition_c13 (M 8) (M 9 0) (M 10))))] := by rw [X4_errorPosition_c10, X4_errorPosition_c11, X4_errorPosition_c12, X4_errorPosition_c13, hfin]; exact hD
        exact W.iret (v := (pq_rd (M 8) (M 9 0) q).2.2.2) hx hb hr (fun t ht hW => ⟨⟨(pq_rd (M 8) (M 9 0) q).2.2.2, (), rfl, (by rw [X4_errorPosition_r, hfin]), by rw [ht]; exact hP9, hD9⟩, hS.F ht⟩) hS.2.2 dX4_errorPosition_96
      · refine lv_aload_n hx hb dX4_errorPosition_35 rfl (lv_at hl 1 rfl) ?_
        refine va_get (D := G.1) (ci := 4) (v := .int ((pq_rd (M 8) (M 9 0) q).2.2.1)) (C := RX4) (T := TX4) (N := 14) hx hb hts hinX4 hown hK.1 hP 0 rfl rfl 12 (by decide) (hts (.fieldLink RX4 180 "ParcelShelvesModel" "spot" "I") (by decide +kernel)) (fun _ h9 => h9) rfl dX4_errorPosition_36 ?_
        refine lv_aload_n hx hb dX4_errorPosition_39 rfl (lv_at hl 1 rfl) ?_
        refine va_get (D := G.1) (ci := 4) (v := .int (M 9 0)) (C := RX4) (T := TX4) (N := 14) hx hb hts hinX4 hown hK.1 hP 0 rfl rfl 9 (by decide) (hts (.fieldLink RX4 177 "ParcelShelvesModel" "typed" "I") (by decide +kernel)) (fun _ h9 => h9) rfl dX4_errorPosition_40 ?_
        refine lv_icmp_ge (tgt := 50) hx hb dX4_errorPosition_43 (by decide) (fun c_4 => ?_) (fun c_4 => ?_)
        · refine lv_iconst (v := 0) hx hb dX4_errorPosition_50 (by decide +kernel) ?_
          refine lv_istore_n (lv' := [(1, .int 0), (0, .ref (a 0))]) hx hb dX4_errorPosition_51 rfl hl (by decide) rfl (fun ls hl => ?_)
          refine lv_iload_n hx hb dX4_errorPosition_52 rfl (lv_at hl 0 rfl) ?_
          refine lv_if_eq (tgt := 18) hx hb dX4_errorPosition_53 (by decide) (fun _ => ?_) (fun c => absurd c (by decide))
          refine lv_iload_n hx hb dX4_errorPosition_18 rfl (lv_at hl 0 rfl) ?_
          refine lv_if_eq (tgt := 92) hx hb dX4_errorPosition_19 (by decide) (fun _ => ?_) (fun c => absurd c (by decide))
          have hfin : X4_eps (M 8) (M 9 0) (M 10) = (pq_rd (M 8) (M 9 0) q) := hres.trans (by rw [X4_ep, if_pos c_3, if_pos c_4])
          refine lv_aload_n hx hb dX4_errorPosition_92 rfl (lv_at hl 1 rfl) ?_
          refine va_get (D := G.1) (ci := 4) (v := .int ((pq_rd (M 8) (M 9 0) q).2.2.2)) (C := RX4) (T := TX4) (N := 14) hx hb hts hinX4 hown hK.1 hP 0 rfl rfl 13 (by decide) (hts (.fieldLink RX4 183 "ParcelShelvesModel" "wrong" "I") (by decide +kernel)) (fun _ h9 => h9) rfl dX4_errorPosition_93 ?_
          subst hQ
          have hP9 : kz_P G [mdW G a (va_up (va_up (va_up (va_up M 10 (X4_errorPosition_c10 (M 8) (M 9 0) (M 10))) 11 (fun _ => (X4_errorPosition_c11 (M 8) (M 9 0) (M 10)))) 12 (fun _ => (X4_errorPosition_c12 (M 8) (M 9 0) (M 10)))) 13 (fun _ => (X4_errorPosition_c13 (M 8) (M 9 0) (M 10))))] H := by rw [X4_errorPosition_c10, X4_errorPosition_c11, X4_errorPosition_c12, X4_errorPosition_c13, hfin]; exact hP
          have hD9 : kz_D A [mdW G a (va_up (va_up (va_up (va_up M 10 (X4_errorPosition_c10 (M 8) (M 9 0) (M 10))) 11 (fun _ => (X4_errorPosition_c11 (M 8) (M 9 0) (M 10)))) 12 (fun _ => (X4_errorPosition_c12 (M 8) (M 9 0) (M 10)))) 13 (fun _ => (X4_errorPosition_c13 (M 8) (M 9 0) (M 10))))] := by rw [X4_errorPosition_c10, X4_errorPosition_c11, X4_errorPosition_c12, X4_errorPosition_c13, hfin]; exact hD
          exact W.iret (v := (pq_rd (M 8) (M 9 0) q).2.2.2) hx hb hr (fun t ht hW => ⟨⟨(pq_rd (M 8) (M 9 0) q).2.2.2, (), rfl, (by rw [X4_errorPosition_r, hfin]), by rw [ht]; exact hP9, hD9⟩, hS.F ht⟩) hS.2.2 dX4_errorPosition_96
        · refine lv_iconst (v := 1) hx hb dX4_errorPosition_46 (by decide +kernel) ?_
          refine lv_goto (tgt := 51) hx hb dX4_errorPosition_47 (by decide) ?_
          refine lv_istore_n (lv' := [(1, .int 1), (0, .ref (a 0))]) hx hb dX4_errorPosition_51 rfl hl (by decide) rfl (fun ls hl => ?_)
          refine lv_iload_n hx hb dX4_errorPosition_52 rfl (lv_at hl 0 rfl) ?_
          refine lv_if_eq (tgt := 18) hx hb dX4_errorPosition_53 (by decide) (fun c => absurd c (by decide)) (fun _ => ?_)
          have hw1 := c_3
          have hle1 := c_4
          refine lv_aload_n hx hb dX4_errorPosition_56 rfl (lv_at hl 1 rfl) ?_
          refine lv_aload_n hx hb dX4_errorPosition_57 rfl (lv_at hl 1 rfl) ?_
          refine kz_rdV (As := []) (rest := [.ref (a 0)]) (b := a 0) ⟨hx, hb, hml, hown, hts⟩ (c_X4_letter l G a (va_up (va_up (va_up (va_up M 10 ((pq_rd (M 8) (M 9 0) q).1)) 11 (fun _ => (pq_rd (M 8) (M 9 0) q).2.1)) 12 (fun _ => (pq_rd (M 8) (M 9 0) q).2.2.1)) 13 (fun _ => (pq_rd (M 8) (M 9 0) q).2.2.2)) (kz_at_L hat hw1) (by rw [va_up_ne _ _ (by decide : 9 ≠ 13), va_up_ne _ _ (by decide : 9 ≠ 12), va_up_ne _ _ (by decide : 9 ≠ 11), va_up_ne _ _ (by decide : 9 ≠ 10)]; exact hty)) (cwV 0 hts gX4_errorPosition_X4_letter rfl rfl rfl (by decide +kernel) ⟨Nat.le_of_ble_eq_true rfl, Nat.le_of_ble_eq_true rfl⟩) hK hP (kz_recv hK hP (ci := 4) (q0 := 0) rfl rfl) rfl hl.1 rfl (Nat.le_of_ble_eq_true rfl) dX4_errorPosition_58 ⟨Nat.le_of_ble_eq_true rfl, Nat.le_of_ble_eq_true rfl⟩ ?_
          refine lv_topi (fun y_5 ey_6 => ?_)
          obtain rfl : y_5 = (X4_letter_r (M 8) (M 9 0) (pq_rd (M 8) (M 9 0) q).2.2.1) := ey_6
          refine lv_bipush (v := 59) hx hb dX4_errorPosition_61 (by decide +kernel) ?_
          refine lv_icmp_ne (tgt := 70) hx hb dX4_errorPosition_63 (by decide) (fun c_7 => ?_) (fun c_7 => ?_)
          · refine lv_iconst (v := 0) hx hb dX4_errorPosition_70 (by decide +kernel) ?_
            refine kz_mvV (As := [.int 0]) (rest := []) (b := a 0) (wr := []) (bs' := [mdW G a (va_up (va_up (va_up (va_up M 10 ((pq_rd (M 8) (M 9 0) q).1)) 11 (fun _ => (pq_rd (M 8) (M 9 0) q).2.1)) 12 (fun _ => (X4_wants_c12 ((pq_rd (M 8) (M 9 0) q).2.2.1) ((pq_rd (M 8) (M 9 0) q).2.2.2) 0))) 13 (fun _ => (X4_wants_c13 ((pq_rd (M 8) (M 9 0) q).2.2.1) ((pq_rd (M 8) (M 9 0) q).2.2.2) 0)))]) ⟨hx, hb, hml, hown, hts⟩ (c_X4_wants l G a (va_up (va_up (va_up (va_up M 10 ((pq_rd (M 8) (M 9 0) q).1)) 11 (fun _ => (pq_rd (M 8) (M 9 0) q).2.1)) 12 (fun _ => (pq_rd (M 8) (M 9 0) q).2.2.1)) 13 (fun _ => (pq_rd (M 8) (M 9 0) q).2.2.2)) 0) (cwV 1 hts gX4_errorPosition_X4_wants rfl rfl rfl (by decide +kernel) ⟨Nat.le_of_ble_eq_true rfl, Nat.le_of_ble_eq_true rfl⟩) hK hP hD hS hA [0] [] [0] rfl (by decide) rfl (by decide) (by decide) rfl (by decide) (kz_recv hK hP (ci := 4) (q0 := 0) rfl rfl) rfl hl.1 rfl (Nat.le_of_ble_eq_true rfl) dX4_errorPosition_71 ⟨Nat.le_of_ble_eq_true rfl, Nat.le_of_ble_eq_true rfl⟩ (fun H locs hP hD hS => ?_)
            have hP : kz_P G [mdW G a (va_up (va_up (va_up (va_up M 10 ((pq_sep (M 8) (M 9 0) (pq_rd (M 8) (M 9 0) q)).1)) 11 (fun _ => (pq_sep (M 8) (M 9 0) (pq_rd (M 8) (M 9 0) q)).2.1)) 12 (fun _ => (pq_sep (M 8) (M 9 0) (pq_rd (M 8) (M 9 0) q)).2.2.1)) 13 (fun _ => (pq_sep (M 8) (M 9 0) (pq_rd (M 8) (M 9 0) q)).2.2.2))] H := by rw [pq_sep, if_neg c_7]; exact hP
            have hD : kz_D A [mdW G a (va_up (va_up (va_up (va_up M 10 ((pq_sep (M 8) (M 9 0) (pq_rd (M 8) (M 9 0) q)).1)) 11 (fun _ => (pq_sep (M 8) (M 9 0) (pq_rd (M 8) (M 9 0) q)).2.1)) 12 (fun _ => (pq_sep (M 8) (M 9 0) (pq_rd (M 8) (M 9 0) q)).2.2.1)) 13 (fun _ => (pq_sep (M 8) (M 9 0) (pq_rd (M 8) (M 9 0) q)).2.2.2))] := by rw [pq_sep, if_neg c_7]; exact hD
            refine lv_aload_n hx hb dX4_errorPosition_74 rfl (lv_at hl 1 rfl) ?_
            refine va_get (D := G.1) (ci := 4) (v := .int ((pq_sep (M 8) (M 9 0) (pq_rd (M 8) (M 9 0) q)).2.2.2)) (C := RX4) (T := TX4) (N := 14) hx hb hts hinX4 hown hK.1 hP 0 rfl rfl 13 (by decide) (hts (.fieldLink RX4 183 "ParcelShelvesModel" "wrong" "I") (by decide +kernel)) (fun _ h9 => h9) rfl dX4_errorPosition_75 ?_
            refine lv_bipush (v := (-6)) hx hb dX4_errorPosition_78 (by decide +kernel) ?_
            refine lv_icmp_ne (tgt := 87) hx hb dX4_errorPosition_80 (by decide) (fun c_8 => ?_) (fun c_8 => ?_)
            · refine lv_iconst (v := 0) hx hb dX4_errorPosition_87 (by decide +kernel) ?_
              refine lv_istore_n (lv' := [(1, .int 0), (0, .ref (a 0))]) hx hb dX4_errorPosition_88 rfl hl (by decide) rfl (fun ls hl => ?_)
              refine lv_goto (tgt := 18) hx hb dX4_errorPosition_89 (by decide) ?_
              refine lv_iload_n hx hb dX4_errorPosition_18 rfl (lv_at hl 0 rfl) ?_
              refine lv_if_eq (tgt := 92) hx hb dX4_errorPosition_19 (by decide) (fun _ => ?_) (fun c => absurd c (by decide))
              have hfin : X4_eps (M 8) (M 9 0) (M 10) = (pq_sep (M 8) (M 9 0) (pq_rd (M 8) (M 9 0) q)) := hres.trans (by rw [X4_ep, if_pos c_3, if_neg c_4, if_neg c_8])
              refine lv_aload_n hx hb dX4_errorPosition_92 rfl (lv_at hl 1 rfl) ?_
              refine va_get (D := G.1) (ci := 4) (v := .int ((pq_sep (M 8) (M 9 0) (pq_rd (M 8) (M 9 0) q)).2.2.2)) (C := RX4) (T := TX4) (N := 14) hx hb hts hinX4 hown hK.1 hP 0 rfl rfl 13 (by decide) (hts (.fieldLink RX4 183 "ParcelShelvesModel" "wrong" "I") (by decide +kernel)) (fun _ h9 => h9) rfl dX4_errorPosition_93 ?_
              subst hQ
              have hP9 : kz_P G [mdW G a (va_up (va_up (va_up (va_up M 10 (X4_errorPosition_c10 (M 8) (M 9 0) (M 10))) 11 (fun _ => (X4_errorPosition_c11 (M 8) (M 9 0) (M 10)))) 12 (fun _ => (X4_errorPosition_c12 (M 8) (M 9 0) (M 10)))) 13 (fun _ => (X4_errorPosition_c13 (M 8) (M 9 0) (M 10))))] H := by rw [X4_errorPosition_c10, X4_errorPosition_c11, X4_errorPosition_c12, X4_errorPosition_c13, hfin]; exact hP
              have hD9 : kz_D A [mdW G a (va_up (va_up (va_up (va_up M 10 (X4_errorPosition_c10 (M 8) (M 9 0) (M 10))) 11 (fun _ => (X4_errorPosition_c11 (M 8) (M 9 0) (M 10)))) 12 (fun _ => (X4_errorPosition_c12 (M 8) (M 9 0) (M 10)))) 13 (fun _ => (X4_errorPosition_c13 (M 8) (M 9 0) (M 10))))] := by rw [X4_errorPosition_c10, X4_errorPosition_c11, X4_errorPosition_c12, X4_errorPosition_c13, hfin]; exact hD
              exact W.iret (v := (pq_sep (M 8) (M 9 0) (pq_rd (M 8) (M 9 0) q)).2.2.2) hx hb hr (fun t ht hW => ⟨⟨(pq_sep (M 8) (M 9 0) (pq_rd (M 8) (M 9 0) q)).2.2.2, (), rfl, (by rw [X4_errorPosition_r, hfin]), by rw [ht]; exact hP9, hD9⟩, hS.F ht⟩) hS.2.2 dX4_errorPosition_96
            · refine lv_iconst (v := 1) hx hb dX4_errorPosition_83 (by decide +kernel) ?_
              refine lv_goto (tgt := 88) hx hb dX4_errorPosition_84 (by decide) ?_
              refine lv_istore_n (lv' := [(1, .int 1), (0, .ref (a 0))]) hx hb dX4_errorPosition_88 rfl hl (by decide) rfl (fun ls hl => ?_)
              have hw2 := c_8
              have hnext := kz_at_next hat hty hw1 hle1 hw2
              refine lv_goto (tgt := 18) hx hb dX4_errorPosition_89 (by decide) ?_
              exact ih18_2 k (pq_sep (M 8) (M 9 0) (pq_rd (M 8) (M 9 0) q)) (by omega) hnext (hres.trans (by rw [X4_ep, if_pos hw1, if_neg hle1, if_pos hw2])) H locs hP hD hS ls (lv_sub hl [0, 1] rfl)
          · refine lv_iconst (v := 1) hx hb dX4_errorPosition_66 (by decide +kernel) ?_
            refine lv_goto (tgt := 71) hx hb dX4_errorPosition_67 (by decide) ?_
            refine kz_mvV (As := [.int 1]) (rest := []) (b := a 0) (wr := []) (bs' := [mdW G a (va_up (va_up (va_up (va_up M 10 ((pq_rd (M 8) (M 9 0) q).1)) 11 (fun _ => (pq_rd (M 8) (M 9 0) q).2.1)) 12 (fun _ => (X4_wants_c12 ((pq_rd (M 8) (M 9 0) q).2.2.1) ((pq_rd (M 8) (M 9 0) q).2.2.2) 1))) 13 (fun _ => (X4_wants_c13 ((pq_rd (M 8) (M 9 0) q).2.2.1) ((pq_rd (M 8) (M 9 0) q).2.2.2) 1)))]) ⟨hx, hb, hml, hown, hts⟩ (c_X4_wants l G a (va_up (va_up (va_up (va_up M 10 ((pq_rd (M 8) (M 9 0) q).1)) 11 (fun _ => (pq_rd (M 8) (M 9 0) q).2.1)) 12 (fun _ => (pq_rd (M 8) (M 9 0) q).2.2.1)) 13 (fun _ => (pq_rd (M 8) (M 9 0) q).2.2.2)) 1) (cwV 1 hts gX4_errorPosition_X4_wants rfl rfl rfl (by decide +kernel) ⟨Nat.le_of_ble_eq_true rfl, Nat.le_of_ble_eq_true rfl⟩) hK hP hD hS hA [0] [] [0] rfl (by decide) rfl (by decide) (by decide) rfl (by decide) (kz_recv hK hP (ci := 4) (q0 := 0) rfl rfl) rfl hl.1 rfl (Nat.le_of_ble_eq_true rfl) dX4_errorPosition_71 ⟨Nat.le_of_ble_eq_true rfl, Nat.le_of_ble_eq_true rfl⟩ (fun H locs hP hD hS => ?_)
            have hP : kz_P G [mdW G a (va_up (va_up (va_up (va_up M 10 ((pq_sep (M 8) (M 9 0) (pq_rd (M 8) (M 9 0) q)).1)) 11 (fun _ => (pq_sep (M 8) (M 9 0) (pq_rd (M 8) (M 9 0) q)).2.1)) 12 (fun _ => (pq_sep (M 8) (M 9 0) (pq_rd (M 8) (M 9 0) q)).2.2.1)) 13 (fun _ => (pq_sep (M 8) (M 9 0) (pq_rd (M 8) (M 9 0) q)).2.2.2))] H := by rw [pq_sep, if_pos c_7]; exact hP
            have hD : kz_D A [mdW G a (va_up (va_up (va_up (va_up M 10 ((pq_sep (M 8) (M 9 0) (pq_rd (M 8) (M 9 0) q)).1)) 11 (fun _ => (pq_sep (M 8) (M 9 0) (pq_rd (M 8) (M 9 0) q)).2.1)) 12 (fun _ => (pq_sep (M 8) (M 9 0) (pq_rd (M 8) (M 9 0) q)).2.2.1)) 13 (fun _ => (pq_sep (M 8) (M 9 0) (pq_rd (M 8) (M 9 0) q)).2.2.2))] := by rw [pq_sep, if_pos c_7]; exact hD
            refine lv_aload_n hx hb dX4_errorPosition_74 rfl (lv_at hl 1 rfl) ?_
            refine va_get (D := G.1) (ci := 4) (v := .int ((pq_sep (M 8) (M 9 0) (pq_rd (M 8) (M 9 0) q)).2.2.2)) (C := RX4) (T := TX4) (N := 14) hx hb hts hinX4 hown hK.1 hP 0 rfl rfl 13 (by decide) (hts (.fieldLink RX4 183 "ParcelShelvesModel" "wrong" "I") (by decide +kernel)) (fun _ h9 => h9) rfl dX4_errorPosition_75 ?_
            refine lv_bipush (v := (-6)) hx hb dX4_errorPosition_78 (by decide +kernel) ?_
            refine lv_icmp_ne (tgt := 87) hx hb dX4_errorPosition_80 (by decide) (fun c_9 => ?_) (fun c_9 => ?_)
            · refine lv_iconst (v := 0) hx hb dX4_errorPosition_87 (by decide +kernel) ?_
              refine lv_istore_n (lv' := [(1, .int 0), (0, .ref (a 0))]) hx hb dX4_errorPosition_88 rfl hl (by decide) rfl (fun ls hl => ?_)
              refine lv_goto (tgt := 18) hx hb dX4_errorPosition_89 (by decide) ?_
              refine lv_iload_n hx hb dX4_errorPosition_18 rfl (lv_at hl 0 rfl) ?_
              refine lv_if_eq (tgt := 92) hx hb dX4_errorPosition_19 (by decide) (fun _ => ?_) (fun c => absurd c (by decide))
              have hfin : X4_eps (M 8) (M 9 0) (M 10) = (pq_sep (M 8) (M 9 0) (pq_rd (M 8) (M 9 0) q)) := hres.trans (by rw [X4_ep, if_pos c_3, if_neg c_4, if_neg c_9])
              refine lv_aload_n hx hb dX4_errorPosition_92 rfl (lv_at hl 1 rfl) ?_
              refine va_get (D := G.1) (ci := 4) (v := .int ((pq_sep (M 8) (M 9 0) (pq_rd (M 8) (M 9 0) q)).2.2.2)) (C := RX4) (T := TX4) (N := 14) hx hb hts hinX4 hown hK.1 hP 0 rfl rfl 13 (by decide) (hts (.fieldLink RX4 183 "ParcelShelvesModel" "wrong" "I") (by decide +kernel)) (fun _ h9 => h9) rfl dX4_errorPosition_93 ?_
              subst hQ
              have hP9 : kz_P G [mdW G a (va_up (va_up (va_up (va_up M 10 (X4_errorPosition_c10 (M 8) (M 9 0) (M 10))) 11 (fun _ => (X4_errorPosition_c11 (M 8) (M 9 0) (M 10)))) 12 (fun _ => (X4_errorPosition_c12 (M 8) (M 9 0) (M 10)))) 13 (fun _ => (X4_errorPosition_c13 (M 8) (M 9 0) (M 10))))] H := by rw [X4_errorPosition_c10, X4_errorPosition_c11, X4_errorPosition_c12, X4_errorPosition_c13, hfin]; exact hP
              have hD9 : kz_D A [mdW G a (va_up (va_up (va_up (va_up M 10 (X4_errorPosition_c10 (M 8) (M 9 0) (M 10))) 11 (fun _ => (X4_errorPosition_c11 (M 8) (M 9 0) (M 10)))) 12 (fun _ => (X4_errorPosition_c12 (M 8) (M 9 0) (M 10)))) 13 (fun _ => (X4_errorPosition_c13 (M 8) (M 9 0) (M 10))))] := by rw [X4_errorPosition_c10, X4_errorPosition_c11, X4_errorPosition_c12, X4_errorPosition_c13, hfin]; exact hD
              exact W.iret (v := (pq_sep (M 8) (M 9 0) (pq_rd (M 8) (M 9 0) q)).2.2.2) hx hb hr (fun t ht hW => ⟨⟨(pq_sep (M 8) (M 9 0) (pq_rd (M 8) (M 9 0) q)).2.2.2, (), rfl, (by rw [X4_errorPosition_r, hfin]), by rw [ht]; exact hP9, hD9⟩, hS.F ht⟩) hS.2.2 dX4_errorPosition_96
            · refine lv_iconst (v := 1) hx hb dX4_errorPosition_83 (by decide +kernel) ?_
              refine lv_goto (tgt := 88) hx hb dX4_errorPosition_84 (by decide) ?_
              refine lv_istore_n (lv' := [(1, .int 1), (0, .ref (a 0))]) hx hb dX4_errorPosition_88 rfl hl (by decide) rfl (fun ls hl => ?_)
              have hw2 := c_9
              have hnext := kz_at_next hat hty hw1 hle1 hw2
              refine lv_goto (tgt := 18) hx hb dX4_errorPosition_89 (by decide) ?_
              exact ih18_2 k (pq_sep (M 8) (M 9 0) (pq_rd (M 8) (M 9 0) q)) (by omega) hnext (hres.trans (by rw [X4_ep, if_pos hw1, if_neg hle1, if_pos hw2])) H locs hP hD hS ls (lv_sub hl [0, 1] rfl)
  exact L18_1 _ 100 (M 10, 0, 0, (-6)) (Nat.lt_succ_self _) ⟨0, 0, by omega, by omega, by omega, rfl, rfl, rfl⟩ rfl H locs hP hD hS ls (lv_sub hl [0, 1] rfl)
