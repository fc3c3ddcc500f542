theorem kz_e5 (b : Nat) : 8 * (nI b + 1) = nI (8 * (b + 1)) := by rw [nI_1]; exact pk_mul 8 (b + 1)
theorem kz_ix4N (w j : Nat) : 48 * (nI (w + 1) - 1) + nI j = nI (48 * w + j) := by
  rw [show nI (w + 1) - 1 = nI w from nI_pred w]
  exact (congrArg (· + nI j) (pk_mul 48 w)).trans (nI_add _ _)
theorem kz_ix48 {x : Int32} (h : vp_in x 336) : kz_rem x 48 = nI (x.toNatClampNeg % 48) := by
  obtain ⟨j, hj, rfl⟩ := vp_in_of h (by decide)
  rw [nI_clamp (by omega)]
  exact kz_remN (d := 48) (by omega) (by omega) (by omega)
theorem kz_204 {k : Int32} (h : vp_in k 336) : vp_in (204 + k) 580 := by
  obtain ⟨j, hj, rfl⟩ := vp_in_of h (by decide)
  rw [show 204 + nI j = nI (204 + j) from nI_add 204 j]
  exact vp_in_nI (by omega) (by decide)
theorem kz_ix4T {M : kz_S} {j : Nat} (ht : ∃ d, d < 2 ^ 30 ∧ M 0 5 = nI d) (hj : j < 48) : vp_in (48 * (X4_weekday_r (M 0 5) - 1) + nI j) 336 := by
  obtain ⟨d, hd, e⟩ := ht
  rw [e, X4_weekday_r, kz_wdN hd, kz_ix4N]
  exact vp_in_nI (by omega) (by decide)
theorem kz_lv4 {M : kz_S} {j : Nat} (hw : ∃ w, w < 7 ∧ M 0 (12 + 4 * j + 3) = nI (w + 1)) (hj : j < 48) : vp_in (204 + 48 * (M 0 (12 + 4 * j + 3) - 1) + nI j) 580 := by
  obtain ⟨w, hw7, e⟩ := hw
  rw [e, show 204 + 48 * (nI (w + 1) - 1) + nI j = nI (204 + (48 * w + j)) from by rw [Int32.add_assoc, kz_ix4N]; exact nI_add 204 _]
  exact vp_in_nI (by omega) (by decide)
theorem kz_remB {n : Nat} {a b N : Nat} (hn : n < 2 ^ 31) (ha : 0 < a) (ha2 : a < 2 ^ 31) : kz_rem (nI n / nI a) (nI 10) = nI (n / a % 10) := by
  rw [kz_divN hn ha ha2, kz_remN (Nat.lt_of_le_of_lt (Nat.div_le_self _ _) hn) (by omega) (by omega)]
theorem kz_ic4 {code : Int32} (h : ¬ X4_indexOf_r code = (-6)) : vp_in (X4_indexOf_r code) 336 := by
  rw [X4_indexOf_r] at h ⊢
  by_cases c1 : X4_in_p code 0 9999
  · rw [if_pos c1] at h ⊢
    by_cases c2 : X4_in_p (code / 1000) 1 7
    · rw [if_pos c2] at h ⊢
      by_cases c3 : 6 ≤ (kz_rem (code / 100) 10)
      · rw [if_pos c3] at h
        exact absurd rfl h
      · rw [if_neg c3] at h ⊢
        by_cases c4 : 8 ≤ (kz_rem (code / 10) 10)
        · rw [if_pos c4] at h
          exact absurd rfl h
        · rw [if_neg c4] at h ⊢
          by_cases c5 : (X4_codeBy_r (code / 1000) ((8 * (kz_rem (code / 100) 10)) + (kz_rem (code / 10) 10))) = code
          · rw [if_pos c5]
            obtain ⟨n, hn, rfl⟩ := nI_of c1.1
            have e1 : kz_rem (nI n / 100) 10 = nI (n / 100 % 10) := kz_remB (a := 100) (b := 0) (N := 0) hn (by omega) (by omega)
            have e2 : kz_rem (nI n / 10) 10 = nI (n / 10 % 10) := kz_remB (a := 10) (b := 0) (N := 0) hn (by omega) (by omega)
            have e3 : nI n / 1000 = nI (n / 1000) := kz_divN (d := 1000) hn (by omega) (by omega)
            rw [e1] at c3 ⊢
            rw [e2] at c4 ⊢
            rw [e3] at c2 ⊢
            have h3 := kz_gt (a := 6) (b := n / 100 % 10) c3 (by omega) (by omega)
            have h4 := kz_gt (a := 8) (b := n / 10 % 10) c4 (by omega) (by omega)
            have h5 := kz_ge (a := n / 1000) (b := 1) c2.1 (by omega) (by omega)
            have h6 := kz_ge (a := 7) (b := n / 1000) c2.2 (by omega) (by omega)
            rw [kz_e3, show nI (n / 1000) = nI (n / 1000 - 1 + 1) by rw [show n / 1000 - 1 + 1 = n / 1000 by omega], kz_ix4N, nI_add]
            exact vp_in_nI (by omega) (by decide)
          · rw [if_neg c5] at h
            exact absurd rfl h
    · rw [if_neg c2] at h
      exact absurd rfl h
  · rw [if_neg c1] at h
    exact absurd rfl h

set_option maxHeartbeats 4000000 in
set_option maxRecDepth 100000 in
theorem c_X4_at (l : Launch) (G : kz_G) (a : Nat → Nat) (M : kz_S) (p0 : Nat) (w : Nat) (hb : 12 + 4 * p0 + w < 580) : kz_rd l G yX4_at wsX4_at 0 0 [.ref (a 0), .int (nI p0), .int (nI w)] [mdW G a M] ((M 0) (12 + 4 * p0 + w)) := by
  refine Met.ofW (cc := cX4_at) (maxL := 3) (ret := (some .int)) (by decide) rfl ?_
  intro p e s m args below meth c s₁ B hml hv
  obtain ⟨rfl, hP, hK⟩ := hv
  have hx := B.exec
  have hb := B.bytes
  have hr := B.returns
  have hts := atoms_spec (ws := wsX4_at) B.pre
  have hown : s.vm.findClass RX4 = some m.cls := findClass_of_methodNamed B.named
  have hlocks := B.notSynchronized
  have hinX4 : ∀ w ∈ u_ws RX4 TX4 14, w ∈ wsX4_at := by decide +kernel
  have hl := lv_entry ([.ref (a 0), .int (nI p0), .int (nI w)]) (n := 3) (Nat.le_of_ble_eq_true rfl)
  rw [lg_entry_eq]
  generalize (lg_sl ([.ref (a 0), .int (nI p0), .int (nI w)]) ++ List.replicate (3 - (lg_sl ([.ref (a 0), .int (nI p0), .int (nI w)])).length) Slot.unset).toArray = ls at hl ⊢
  have hl : lv_has ls 3 [(0, .ref (a 0)), (1, .int (nI p0)), (2, .int (nI w))] := hl
  refine kz_start (fun QQ hQ => ?_)
  refine lv_aload_n hx hb dX4_at_0 rfl (lv_at hl 0 rfl) ?_
  refine va_get (D := G.1) (ci := 4) (v := .ref (a 1)) (C := RX4) (T := TX4) (N := 14) hx hb hts hinX4 hown hK.1 hP 0 rfl rfl 0 (by decide) (hts (.fieldLink RX4 7 "ParcelShelvesModel" "z" "[I") (by decide +kernel)) (fun _ h9 => h9) rfl dX4_at_1 ?_
  refine lv_bipush (v := 12) hx hb dX4_at_4 (by decide +kernel) ?_
  refine lv_iconst (v := 4) hx hb dX4_at_6 (by decide +kernel) ?_
  refine lv_iload_n hx hb dX4_at_7 rfl (lv_at hl 1 rfl) ?_
  refine lv_imul hx hb dX4_at_8 ?_
  refine lv_topi (fun y_1 ey_2 => ?_)
  obtain rfl : y_1 = (nI (4 * p0)) := by rw [ey_2]; exact pk_mul 4 p0
  refine lv_iadd hx hb dX4_at_9 ?_
  refine lv_topi (fun y_3 ey_4 => ?_)
  obtain rfl : y_3 = (nI (12 + 4 * p0)) := by rw [ey_4]; exact nI_add 12 _
  refine lv_iload_n hx hb dX4_at_10 rfl (lv_at hl 2 rfl) ?_
  refine lv_iadd hx hb dX4_at_11 ?_
  refine lv_topi (fun y_5 ey_6 => ?_)
  obtain rfl : y_5 = (nI (12 + 4 * p0 + w)) := by rw [ey_6]; exact nI_add _ _
  refine va_iald (f := (M 0)) hx hb hK.1 hP 1 0 rfl rfl (vp_in_nI (n := (12 + 4 * p0 + w)) (N := 580) (by omega) (by decide)) dX4_at_12 ?_
  refine lv_topi (fun y_7 ey_8 => ?_)
  obtain rfl : y_7 = ((M 0) (12 + 4 * p0 + w)) := by rw [ey_8, kz_nI_clamp (n := (12 + 4 * p0 + w)) (by omega)]
  subst hQ
  exact W.iret (v := ((M 0) (12 + 4 * p0 + w))) hx hb hr (fun t ht _ => ⟨((M 0) (12 + 4 * p0 + w)), rfl, rfl, ht⟩) (fun _ h9 => absurd h9 List.not_mem_nil) dX4_at_13
set_option maxHeartbeats 4000000 in
set_option maxRecDepth 100000 in
theorem c_X4_ofSender (l : Launch) (G : kz_G) (a : Nat → Nat) (M : kz_S) (k : Nat) (w : Nat) (hb : 540 + 4 * k + w < 580) : kz_rd l G yX4_ofSender wsX4_ofSender 0 0 [.ref (a 0), .int (nI k), .int (nI w)] [mdW G a M] ((M 0) (540 + 4 * k + w)) := by
  refine Met.ofW (cc := cX4_ofSender) (maxL := 3) (ret := (some .int)) (by decide) rfl ?_
  intro p e s m args below meth c s₁ B hml hv
  obtain ⟨rfl, hP, hK⟩ := hv
  have hx := B.exec
  have hb := B.bytes
  have hr := B.returns
  have hts := atoms_spec (ws := wsX4_ofSender) B.pre
  have hown : s.vm.findClass RX4 = some m.cls := findClass_of_methodNamed B.named
  have hlocks := B.notSynchronized
  have hinX4 : ∀ w ∈ u_ws RX4 TX4 14, w ∈ wsX4_ofSender := by decide +kernel
  have hl := lv_entry ([.ref (a 0), .int (nI k), .int (nI w)]) (n := 3) (Nat.le_of_ble_eq_true rfl)
  rw [lg_entry_eq]
  generalize (lg_sl ([.ref (a 0), .int (nI k), .int (nI w)]) ++ List.replicate (3 - (lg_sl ([.ref (a 0), .int (nI k), .int (nI w)])).length) Slot.unset).toArray = ls at hl ⊢
  have hl : lv_has ls 3 [(0, .ref (a 0)), (1, .int (nI k)), (2, .int (nI w))] := hl
  refine kz_start (fun QQ hQ => ?_)
  refine lv_aload_n hx hb dX4_ofSender_0 rfl (lv_at hl 0 rfl) ?_
  refine va_get (D := G.1) (ci := 4) (v := .ref (a 1)) (C := RX4) (T := TX4) (N := 14) hx hb hts hinX4 hown hK.1 hP 0 rfl rfl 0 (by decide) (hts (.fieldLink RX4 7 "ParcelShelvesModel" "z" "[I") (by decide +kernel)) (fun _ h9 => h9) rfl dX4_ofSender_1 ?_
  refine lv_sipush (v := 540) hx hb dX4_ofSender_4 (by decide +kernel) ?_
  refine lv_iconst (v := 4) hx hb dX4_ofSender_7 (by decide +kernel) ?_
  refine lv_iload_n hx hb dX4_ofSender_8 rfl (lv_at hl 1 rfl) ?_
  refine lv_imul hx hb dX4_ofSender_9 ?_
  refine lv_topi (fun y_1 ey_2 => ?_)
  obtain rfl : y_1 = (nI (4 * k)) := by rw [ey_2]; exact pk_mul 4 k
  refine lv_iadd hx hb dX4_ofSender_10 ?_
  refine lv_topi (fun y_3 ey_4 => ?_)
  obtain rfl : y_3 = (nI (540 + 4 * k)) := by rw [ey_4]; exact nI_add 540 _
  refine lv_iload_n hx hb dX4_ofSender_11 rfl (lv_at hl 2 rfl) ?_
  refine lv_iadd hx hb dX4_ofSender_12 ?_
  refine lv_topi (fun y_5 ey_6 => ?_)
  obtain rfl : y_5 = (nI (540 + 4 * k + w)) := by rw [ey_6]; exact nI_add _ _
  refine va_iald (f := (M 0)) hx hb hK.1 hP 1 0 rfl rfl (vp_in_nI (n := (540 + 4 * k + w)) (N := 580) (by omega) (by decide)) dX4_ofSender_13 ?_
  refine lv_topi (fun y_7 ey_8 => ?_)
  obtain rfl : y_7 = ((M 0) (540 + 4 * k + w)) := by rw [ey_8, kz_nI_clamp (n := (540 + 4 * k + w)) (by omega)]
  subst hQ
  exact W.iret (v := ((M 0) (540 + 4 * k + w))) hx hb hr (fun t ht _ => ⟨((M 0) (540 + 4 * k + w)), rfl, rfl, ht⟩) (fun _ h9 => absurd h9 List.not_mem_nil) dX4_ofSender_14
abbrev X4_isTaken_p (z0 : Nat → Int32) (p0 : Nat) : Prop := ¬ ((z0 (12 + 4 * p0 + 0)) ≤ 0)
set_option maxHeartbeats 4000000 in
set_option maxRecDepth 100000 in
theorem c_X4_isTaken (l : Launch) (G : kz_G) (a : Nat → Nat) (M : kz_S) (p0 : Nat) (hp : p0 < 48) : kz_rd l G yX4_isTaken wsX4_isTaken 1 22 [.ref (a 0), .int (nI p0)] [mdW G a M] (if X4_isTaken_p (M 0) p0 then 1 else 0) := by
  refine Met.ofW (cc := cX4_isTaken) (maxL := 2) (ret := (some .boolean)) (by decide) rfl ?_
  intro p e s m args below meth c s₁ B hml hv
  obtain ⟨rfl, hP, hK⟩ := hv
  have hx := B.exec
  have hb := B.bytes
  have hr := B.returns
  have hts := atoms_spec (ws := wsX4_isTaken) B.pre
  have hown : s.vm.findClass RX4 = some m.cls := findClass_of_methodNamed B.named
  have hlocks := B.notSynchronized
  have hl := lv_entry ([.ref (a 0), .int (nI p0)]) (n := 2) (Nat.le_of_ble_eq_true rfl)
  rw [lg_entry_eq]
  generalize (lg_sl ([.ref (a 0), .int (nI p0)]) ++ List.replicate (2 - (lg_sl ([.ref (a 0), .int (nI p0)])).length) Slot.unset).toArray = ls at hl ⊢
  have hl : lv_has ls 2 [(0, .ref (a 0)), (1, .int (nI p0))] := hl
  refine kz_start (fun QQ hQ => ?_)
  refine lv_aload_n hx hb dX4_isTaken_0 rfl (lv_at hl 0 rfl) ?_
  refine lv_iload_n hx hb dX4_isTaken_1 rfl (lv_at hl 1 rfl) ?_
  refine lv_iconst (v := 0) hx hb dX4_isTaken_2 (by decide +kernel) ?_
  refine kz_rdV (As := [.int (nI p0), .int 0]) (rest := []) (b := a 0) ⟨hx, hb, hml, hown, hts⟩ (c_X4_at l G a M p0 0 (by omega)) (cwV 2 hts gX4_isTaken_X4_at rfl rfl rfl (by decide +kernel) ⟨Nat.le_of_ble_eq_true rfl, Nat.le_of_ble_eq_true rfl⟩) hK hP (kz_recv hK hP (ci := 4) (q0 := 0) rfl rfl) rfl hl.1 rfl (Nat.le_of_ble_eq_true rfl) dX4_isTaken_3 ⟨Nat.le_of_ble_eq_true rfl, Nat.le_of_ble_eq_true rfl⟩ ?_
  refine lv_if_le (tgt := 13) hx hb dX4_isTaken_6 (by decide) (fun c_1 => ?_) (fun c_1 => ?_)
  · refine lv_iconst (v := 0) hx hb dX4_isTaken_13 (by decide +kernel) ?_
    subst hQ
    exact W.zret (v := 0) hx hb hr (by decide +kernel) (fun t ht _ => ⟨0, rfl, ((if_neg (fun h => h c_1)).symm), ht⟩) (fun _ h9 => absurd h9 List.not_mem_nil) dX4_isTaken_14
  · refine lv_iconst (v := 1) hx hb dX4_isTaken_9 (by decide +kernel) ?_
    refine lv_goto (tgt := 14) hx hb dX4_isTaken_10 (by decide) ?_
    subst hQ
    exact W.zret (v := 1) hx hb hr (by decide +kernel) (fun t ht _ => ⟨1, rfl, ((if_pos c_1).symm), ht⟩) (fun _ h9 => absurd h9 List.not_mem_nil) dX4_isTaken_14
def X4_codeOn_r (z0 : Nat → Int32) (p0 : Nat) : Int32 := (X4_codeBy_r (z0 (12 + 4 * p0 + 3)) (nI p0))
set_option maxHeartbeats 4000000 in
set_option maxRecDepth 100000 in
theorem c_X4_codeOn (l : Launch) (G : kz_G) (a : Nat → Nat) (M : kz_S) (p0 : Nat) (hp : p0 < 48) : kz_rd l G yX4_codeOn wsX4_codeOn 1 22 [.ref (a 0), .int (nI p0)] [mdW G a M] (X4_codeOn_r (M 0) p0) := by
  refine Met.ofW (cc := cX4_codeOn) (maxL := 2) (ret := (some .int)) (by decide) rfl ?_
  intro p e s m args below meth c s₁ B hml hv
  obtain ⟨rfl, hP, hK⟩ := hv
  have hx := B.exec
  have hb := B.bytes
  have hr := B.returns
  have hts := atoms_spec (ws := wsX4_codeOn) B.pre
  have hown : s.vm.findClass RX4 = some m.cls := findClass_of_methodNamed B.named
  have hlocks := B.notSynchronized
  have hl := lv_entry ([.ref (a 0), .int (nI p0)]) (n := 2) (Nat.le_of_ble_eq_true rfl)
  rw [lg_entry_eq]
  generalize (lg_sl ([.ref (a 0), .int (nI p0)]) ++ List.replicate (2 - (lg_sl ([.ref (a 0), .int (nI p0)])).length) Slot.unset).toArray = ls at hl ⊢
  have hl : lv_has ls 2 [(0, .ref (a 0)), (1, .int (nI p0))] := hl
  refine kz_start (fun QQ hQ => ?_)
  refine lv_aload_n hx hb dX4_codeOn_0 rfl (lv_at hl 0 rfl) ?_
  refine lv_iload_n hx hb dX4_codeOn_1 rfl (lv_at hl 1 rfl) ?_
  refine lv_iconst (v := 3) hx hb dX4_codeOn_2 (by decide +kernel) ?_
  refine kz_rdV (As := [.int (nI p0), .int 3]) (rest := []) (b := a 0) ⟨hx, hb, hml, hown, hts⟩ (c_X4_at l G a M p0 3 (by omega)) (cwV 2 hts gX4_codeOn_X4_at rfl rfl rfl (by decide +kernel) ⟨Nat.le_of_ble_eq_true rfl, Nat.le_of_ble_eq_true rfl⟩) hK hP (kz_recv hK hP (ci := 4) (q0 := 0) rfl rfl) rfl hl.1 rfl (Nat.le_of_ble_eq_true rfl) dX4_codeOn_3 ⟨Nat.le_of_ble_eq_true rfl, Nat.le_of_ble_eq_true rfl⟩ ?_
  refine lv_iload_n hx hb dX4_codeOn_6 rfl (lv_at hl 1 rfl) ?_
  refine kz_rdS (As := [.int ((M 0) (12 + 4 * p0 + 3)), .int (nI p0)]) (rest := []) ⟨hx, hb, hml, hown, hts⟩ (c_X4_codeBy l G ((M 0) (12 + 4 * p0 + 3)) (nI p0)) (va_cwS 2 hts gX4_codeOn_X4_codeBy rfl rfl rfl (by decide +kernel) ⟨Nat.le_of_ble_eq_true rfl, Nat.le_of_ble_eq_true rfl⟩) hK (hP.sub (cs := []) [] rfl) rfl hl.1 rfl (Nat.le_of_ble_eq_true rfl) dX4_codeOn_7 ⟨Nat.le_of_ble_eq_true rfl, Nat.le_of_ble_eq_true rfl⟩ ?_
  subst hQ
  exact W.iret (v := (X4_codeBy_r ((M 0) (12 + 4 * p0 + 3)) (nI p0))) hx hb hr (fun t ht _ => ⟨(X4_codeBy_r ((M 0) (12 + 4 * p0 + 3)) (nI p0)), rfl, rfl, ht⟩) (fun _ h9 => absurd h9 List.not_mem_nil) dX4_codeOn_10
def X4_placeBy_r (z0 : Nat → Int32) (code : Int32) : Int32 := if (X4_indexOf_r code) = (-6) then (-6) else if X4_isTaken_p z0 ((X4_indexOf_r code).toNatClampNeg % 48) then (if (z0 (12 + 4 * ((X4_indexOf_r code).toNatClampNeg % 48) + 3)) = (((X4_indexOf_r code) / 48) + 1) then (nI ((X4_indexOf_r code).toNatClampNeg % 48)) else (-6)) else (-6)
set_option maxHeartbeats 4000000 in
set_option maxRecDepth 100000 in
theorem c_X4_placeBy (l : Launch) (G : kz_G) (a : Nat → Nat) (M : kz_S) (code : Int32) : kz_rd l G yX4_placeBy wsX4_placeBy 2 46 [.ref (a 0), .int code] [mdW G a M] (X4_placeBy_r (M 0) code) := by
  refine Met.ofW (cc := cX4_placeBy) (maxL := 4) (ret := (some .int)) (by decide) rfl ?_
  intro p e s m args below meth c s₁ B hml hv
  obtain ⟨rfl, hP, hK⟩ := hv
  have hx := B.exec
  have hb := B.bytes
  have hr := B.returns
  have hts := atoms_spec (ws := wsX4_placeBy) B.pre
  have hown : s.vm.findClass RX4 = some m.cls := findClass_of_methodNamed B.named
  have hlocks := B.notSynchronized
  have hl := lv_entry ([.ref (a 0), .int code]) (n := 4) (Nat.le_of_ble_eq_true rfl)
  rw [lg_entry_eq]
  generalize (lg_sl ([.ref (a 0), .int code]) ++ List.replicate (4 - (lg_sl ([.ref (a 0), .int code])).length) Slot.unset).toArray = ls at hl ⊢
  have hl : lv_has ls 4 [(0, .ref (a 0)), (1, .int code)] := hl
  refine kz_start (fun QQ hQ => ?_)
  refine lv_iload_n hx hb dX4_placeBy_0 rfl (lv_at hl 1 rfl) ?_
  refine kz_rdS (As := [.int code]) (rest := []) ⟨hx, hb, hml, hown, hts⟩ (c_X4_indexOf l G code) (va_cwS 1 hts gX4_placeBy_X4_indexOf rfl rfl rfl (by decide +kernel) ⟨Nat.le_of_ble_eq_true rfl, Nat.le_of_ble_eq_true rfl⟩) hK (hP.sub (cs := []) [] rfl) rfl hl.1 rfl (Nat.le_of_ble_eq_true rfl) dX4_placeBy_1 ⟨Nat.le_of_ble_eq_true rfl, Nat.le_of_ble_eq_true rfl⟩ ?_
  refine lv_istore_n (lv' := [(2, .int (X4_indexOf_r code)), (0, .ref (a 0)), (1, .int code)]) hx hb dX4_placeBy_4 rfl hl (by decide) rfl (fun ls hl => ?_)
  refine lv_iload_n hx hb dX4_placeBy_5 rfl (lv_at hl 0 rfl) ?_
  refine lv_bipush (v := (-6)) hx hb dX4_placeBy_6 (by decide +kernel) ?_
  refine lv_icmp_ne (tgt := 16) hx hb dX4_placeBy_8 (by decide) (fun c_1 => ?_) (fun c_1 => ?_)
  · refine lv_iload_n hx hb dX4_placeBy_16 rfl (lv_at hl 0 rfl) ?_
    refine lv_bipush (v := 48) hx hb dX4_placeBy_17 (by decide +kernel) ?_
    refine lv_irem hx hb dX4_placeBy_19 (by decide +kernel) ?_
    refine kz_topR ?_
    refine lv_topi (fun y_2 ey_3 => ?_)
    obtain rfl : y_2 = (nI ((X4_indexOf_r code).toNatClampNeg % 48)) := by rw [ey_3]; exact kz_ix48 (kz_ic4 c_1)
    refine lv_istore_n (lv' := [(3, .int (nI ((X4_indexOf_r code).toNatClampNeg % 48))), (2, .int (X4_indexOf_r code)), (0, .ref (a 0)), (1, .int code)]) hx hb dX4_placeBy_20 rfl hl (by decide) rfl (fun ls hl => ?_)
    refine lv_iload_n hx hb dX4_placeBy_21 rfl (lv_at hl 0 rfl) ?_
    refine lv_bipush (v := (-6)) hx hb dX4_placeBy_22 (by decide +kernel) ?_
    refine lv_icmp_eq (tgt := 54) hx hb dX4_placeBy_24 (by decide) (fun c => absurd c (by exact kz_nI6 (by omega))) (fun c_4 => ?_)
    refine lv_aload_n hx hb dX4_placeBy_27 rfl (lv_at hl 2 rfl) ?_
    refine lv_iload_n hx hb dX4_placeBy_28 rfl (lv_at hl 0 rfl) ?_
    refine kz_rdV (As := [.int (nI ((X4_indexOf_r code).toNatClampNeg % 48))]) (rest := []) (b := a 0) ⟨hx, hb, hml, hown, hts⟩ (c_X4_isTaken l G a M ((X4_indexOf_r code).toNatClampNeg % 48) (by omega)) (cwV 1 hts gX4_placeBy_X4_isTaken rfl rfl rfl (by decide +kernel) ⟨Nat.le_of_ble_eq_true rfl, Nat.le_of_ble_eq_true rfl⟩) hK hP (kz_recv hK hP (ci := 4) (q0 := 0) rfl rfl) rfl hl.1 rfl (Nat.le_of_ble_eq_true rfl) dX4_placeBy_29 ⟨Nat.le_of_ble_eq_true rfl, Nat.le_of_ble_eq_true rfl⟩ ?_
    refine lv_topi (fun y_5 ey_6 => ?_)
    by_cases c_7 : X4_isTaken_p (M 0) ((X4_indexOf_r code).toNatClampNeg % 48)
    · rw [if_pos c_7] at ey_6
      subst ey_6
      refine lv_if_eq (tgt := 54) hx hb dX4_placeBy_32 (by decide) (fun c => absurd c (by decide)) (fun _ => ?_)
      refine lv_aload_n hx hb dX4_placeBy_35 rfl (lv_at hl 2 rfl) ?_
      refine lv_iload_n hx hb dX4_placeBy_36 rfl (lv_at hl 0 rfl) ?_
      refine lv_iconst (v := 3) hx hb dX4_placeBy_37 (by decide +kernel) ?_
      refine kz_rdV (As := [.int (nI ((X4_indexOf_r code).toNatClampNeg % 48)), .int 3]) (rest := []) (b := a 0) ⟨hx, hb, hml, hown, hts⟩ (c_X4_at l G a M ((X4_indexOf_r code).toNatClampNeg % 48) 3 (by omega)) (cwV 2 hts gX4_placeBy_X4_at rfl rfl rfl (by decide +kernel) ⟨Nat.le_of_ble_eq_true rfl, Nat.le_of_ble_eq_true rfl⟩) hK hP (kz_recv hK hP (ci := 4) (q0 := 0) rfl rfl) rfl hl.1 rfl (Nat.le_of_ble_eq_true rfl) dX4_placeBy_38 ⟨Nat.le_of_ble_eq_true rfl, Nat.le_of_ble_eq_true rfl⟩ ?_
      refine lv_iload_n hx hb dX4_placeBy_41 rfl (lv_at hl 1 rfl) ?_
      refine lv_bipush (v := 48) hx hb dX4_placeBy_42 (by decide +kernel) ?_
      refine lv_idiv hx hb dX4_placeBy_44 (by decide +kernel) ?_
      refine lv_iconst (v := 1) hx hb dX4_placeBy_45 (by decide +kernel) ?_
      refine lv_iadd hx hb dX4_placeBy_46 ?_
      refine lv_icmp_ne (tgt := 54) hx hb dX4_placeBy_47 (by decide) (fun c_8 => ?_) (fun c_8 => ?_)
      · refine lv_bipush (v := (-6)) hx hb dX4_placeBy_54 (by decide +kernel) ?_
        subst hQ
        exact W.iret (v := (-6)) hx hb hr (fun t ht _ => ⟨(-6), rfl, (by rw [X4_placeBy_r, if_neg c_1, if_pos c_7, if_neg c_8]), ht⟩) (fun _ h9 => absurd h9 List.not_mem_nil) dX4_placeBy_56
      · refine lv_iload_n hx hb dX4_placeBy_50 rfl (lv_at hl 0 rfl) ?_
        refine lv_goto (tgt := 56) hx hb dX4_placeBy_51 (by decide) ?_
        subst hQ
        exact W.iret (v := (nI ((X4_indexOf_r code).toNatClampNeg % 48))) hx hb hr (fun t ht _ => ⟨(nI ((X4_indexOf_r code).toNatClampNeg % 48)), rfl, (by rw [X4_placeBy_r, if_neg c_1, if_pos c_7, if_pos c_8]), ht⟩) (fun _ h9 => absurd h9 List.not_mem_nil) dX4_placeBy_56
    · rw [if_neg c_7] at ey_6
      subst ey_6
      refine lv_if_eq (tgt := 54) hx hb dX4_placeBy_32 (by decide) (fun _ => ?_) (fun c => absurd c (by decide))
      refine lv_bipush (v := (-6)) hx hb dX4_placeBy_54 (by decide +kernel) ?_
      subst hQ
      exact W.iret (v := (-6)) hx hb hr (fun t ht _ => ⟨(-6), rfl, (by rw [X4_placeBy_r, if_neg c_1, if_neg c_7]), ht⟩) (fun _ h9 => absurd h9 List.not_mem_nil) dX4_placeBy_56
  · refine lv_bipush (v := (-6)) hx hb dX4_placeBy_11 (by decide +kernel) ?_
    refine lv_goto (tgt := 20) hx hb dX4_placeBy_13 (by decide) ?_
    refine lv_istore_n (lv' := [(3, .int (-6)), (2, .int (X4_indexOf_r code)), (0, .ref (a 0)), (1, .int code)]) hx hb dX4_placeBy_20 rfl hl (by decide) rfl (fun ls hl => ?_)
    refine lv_iload_n hx hb dX4_placeBy_21 rfl (lv_at hl 0 rfl) ?_
    refine lv_bipush (v := (-6)) hx hb dX4_placeBy_22 (by decide +kernel) ?_
    refine lv_icmp_eq (tgt := 54) hx hb dX4_placeBy_24 (by decide) (fun _ => ?_) (fun c => absurd c (by decide))
    refine lv_bipush (v := (-6)) hx hb dX4_placeBy_54 (by decide +kernel) ?_
    subst hQ
    exact W.iret (v := (-6)) hx hb hr (fun t ht _ => ⟨(-6), rfl, (by rw [X4_placeBy_r, if_pos c_1]), ht⟩) (fun _ h9 => absurd h9 List.not_mem_nil) dX4_placeBy_56
def X4_restsOf_r (z0 : Nat → Int32) (k : Int32) : Int32 := if k = (-6) then (if (-6) ≤ (z0 5) then (-6) else (-6)) else if (z0 (204 + k).toNatClampNeg) = (-6) then (if (-6) ≤ (z0 5) then (-6) else (-6)) else if ((z0 (204 + k).toNatClampNeg) + (z0 0)) ≤ (z0 5) then (-6) else ((z0 (204 + k).toNatClampNeg) + (z0 0))
set_option maxHeartbeats 4000000 in
set_option maxRecDepth 100000 in
theorem c_X4_restsOf (l : Launch) (G : kz_G) (a : Nat → Nat) (M : kz_S) (k : Int32) (hk : ¬ k = (-6) → vp_in k 336) : kz_rd l G yX4_restsOf wsX4_restsOf 0 0 [.ref (a 0), .int k] [mdW G a M] (X4_restsOf_r (M 0) k) := by
  refine Met.ofW (cc := cX4_restsOf) (maxL := 3) (ret := (some .int)) (by decide) rfl ?_
  intro p e s m args below meth c s₁ B hml hv
  obtain ⟨rfl, hP, hK⟩ := hv
  have hx := B.exec
  have hb := B.bytes
  have hr := B.returns
  have hts := atoms_spec (ws := wsX4_restsOf) B.pre
  have hown : s.vm.findClass RX4 = some m.cls := findClass_of_methodNamed B.named
  have hlocks := B.notSynchronized
  have hinX4 : ∀ w ∈ u_ws RX4 TX4 14, w ∈ wsX4_restsOf := by decide +kernel
  have hl := lv_entry ([.ref (a 0), .int k]) (n := 3) (Nat.le_of_ble_eq_true rfl)
  rw [lg_entry_eq]
  generalize (lg_sl ([.ref (a 0), .int k]) ++ List.replicate (3 - (lg_sl ([.ref (a 0), .int k])).length) Slot.unset).toArray = ls at hl ⊢
  have hl : lv_has ls 3 [(0, .ref (a 0)), (1, .int k)] := hl
  refine kz_start (fun QQ hQ => ?_)
  refine lv_iload_n hx hb dX4_restsOf_0 rfl (lv_at hl 1 rfl) ?_
  refine lv_bipush (v := (-6)) hx hb dX4_restsOf_1 (by decide +kernel) ?_
  refine lv_icmp_eq (tgt := 21) hx hb dX4_restsOf_3 (by decide) (fun c_1 => ?_) (fun c_1 => ?_)
  · refine lv_bipush (v := (-6)) hx hb dX4_restsOf_21 (by decide +kernel) ?_
    refine lv_goto (tgt := 43) hx hb dX4_restsOf_23 (by decide) ?_
    refine lv_istore_n (lv' := [(2, .int (-6)), (0, .ref (a 0)), (1, .int k)]) hx hb dX4_restsOf_43 rfl hl (by decide) rfl (fun ls hl => ?_)
    refine lv_iload_n hx hb dX4_restsOf_44 rfl (lv_at hl 0 rfl) ?_
    refine lv_aload_n hx hb dX4_restsOf_45 rfl (lv_at hl 1 rfl) ?_
    refine va_get (D := G.1) (ci := 4) (v := .ref (a 1)) (C := RX4) (T := TX4) (N := 14) hx hb hts hinX4 hown hK.1 hP 0 rfl rfl 0 (by decide) (hts (.fieldLink RX4 7 "ParcelShelvesModel" "z" "[I") (by decide +kernel)) (fun _ h9 => h9) rfl dX4_restsOf_46 ?_
    refine lv_iconst (v := 5) hx hb dX4_restsOf_49 (by decide +kernel) ?_
    refine va_iald (f := (M 0)) hx hb hK.1 hP 1 0 rfl rfl (vp_in_nI (n := 5) (N := 580) (by decide) (by decide)) dX4_restsOf_50 ?_
    refine lv_topi (fun y_2 ey_3 => ?_)
    obtain rfl : y_2 = ((M 0) 5) := by rw [ey_3]; rfl
    refine lv_icmp_le (tgt := 58) hx hb dX4_restsOf_51 (by decide) (fun c_4 => ?_) (fun c_4 => ?_)
    · refine lv_bipush (v := (-6)) hx hb dX4_restsOf_58 (by decide +kernel) ?_
      subst hQ
      exact W.iret (v := (-6)) hx hb hr (fun t ht _ => ⟨(-6), rfl, (by rw [X4_restsOf_r, if_pos c_1, if_pos c_4]), ht⟩) (fun _ h9 => absurd h9 List.not_mem_nil) dX4_restsOf_60
    · refine lv_iload_n hx hb dX4_restsOf_54 rfl (lv_at hl 0 rfl) ?_
      refine lv_goto (tgt := 60) hx hb dX4_restsOf_55 (by decide) ?_
      subst hQ
      exact W.iret (v := (-6)) hx hb hr (fun t ht _ => ⟨(-6), rfl, (by rw [X4_restsOf_r, if_pos c_1, if_neg c_4]), ht⟩) (fun _ h9 => absurd h9 List.not_mem_nil) dX4_restsOf_60
  · refine lv_aload_n hx hb dX4_restsOf_6 rfl (lv_at hl 0 rfl) ?_
    refine va_get (D := G.1) (ci := 4) (v := .ref (a 1)) (C := RX4) (T := TX4) (N := 14) hx hb hts hinX4 hown hK.1 hP 0 rfl rfl 0 (by decide) (hts (.fieldLink RX4 7 "ParcelShelvesModel" "z" "[I") (by decide +kernel)) (fun _ h9 => h9) rfl dX4_restsOf_7 ?_
    refine lv_sipush (v := 204) hx hb dX4_restsOf_10 (by decide +kernel) ?_
    refine lv_iload_n hx hb dX4_restsOf_13 rfl (lv_at hl 1 rfl) ?_
    refine lv_iadd hx hb dX4_restsOf_14 ?_
    refine va_iald (f := (M 0)) hx hb hK.1 hP 1 0 rfl rfl (kz_204 (hk c_1)) dX4_restsOf_15 ?_
    refine lv_bipush (v := (-6)) hx hb dX4_restsOf_16 (by decide +kernel) ?_
    refine lv_icmp_ne (tgt := 26) hx hb dX4_restsOf_18 (by decide) (fun c_5 => ?_) (fun c_5 => ?_)
    · refine lv_aload_n hx hb dX4_restsOf_26 rfl (lv_at hl 0 rfl) ?_
      refine va_get (D := G.1) (ci := 4) (v := .ref (a 1)) (C := RX4) (T := TX4) (N := 14) hx hb hts hinX4 hown hK.1 hP 0 rfl rfl 0 (by decide) (hts (.fieldLink RX4 7 "ParcelShelvesModel" "z" "[I") (by decide +kernel)) (fun _ h9 => h9) rfl dX4_restsOf_27 ?_
      refine lv_sipush (v := 204) hx hb dX4_restsOf_30 (by decide +kernel) ?_
      refine lv_iload_n hx hb dX4_restsOf_33 rfl (lv_at hl 1 rfl) ?_
      refine lv_iadd hx hb dX4_restsOf_34 ?_
      refine va_iald (f := (M 0)) hx hb hK.1 hP 1 0 rfl rfl (kz_204 (hk c_1)) dX4_restsOf_35 ?_
      refine lv_aload_n hx hb dX4_restsOf_36 rfl (lv_at hl 0 rfl) ?_
      refine va_get (D := G.1) (ci := 4) (v := .ref (a 1)) (C := RX4) (T := TX4) (N := 14) hx hb hts hinX4 hown hK.1 hP 0 rfl rfl 0 (by decide) (hts (.fieldLink RX4 7 "ParcelShelvesModel" "z" "[I") (by decide +kernel)) (fun _ h9 => h9) rfl dX4_restsOf_37 ?_
      refine lv_iconst (v := 0) hx hb dX4_restsOf_40 (by decide +kernel) ?_
      refine va_iald (f := (M 0)) hx hb hK.1 hP 1 0 rfl rfl (vp_in_nI (n := 0) (N := 580) (by decide) (by decide)) dX4_restsOf_41 ?_
      refine lv_topi (fun y_6 ey_7 => ?_)
      obtain rfl : y_6 = ((M 0) 0) := by rw [ey_7]; rfl
      refine lv_iadd hx hb dX4_restsOf_42 ?_
      refine lv_istore_n (lv' := [(2, .int (((M 0) (204 + k).toNatClampNeg) + ((M 0) 0))), (0, .ref (a 0)), (1, .int k)]) hx hb dX4_restsOf_43 rfl hl (by decide) rfl (fun ls hl => ?_)
      refine lv_iload_n hx hb dX4_restsOf_44 rfl (lv_at hl 0 rfl) ?_
      refine lv_aload_n hx hb dX4_restsOf_45 rfl (lv_at hl 1 rfl) ?_
      refine va_get (D := G.1) (ci := 4) (v := .ref (a 1)) (C := RX4) (T := TX4) (N := 14) hx hb hts hinX4 hown hK.1 hP 0 rfl rfl 0 (by decide) (hts (.fieldLink RX4 7 "ParcelShelvesModel" "z" "[I") (by decide +kernel)) (fun _ h9 => h9) rfl dX4_restsOf_46 ?_
      refine lv_iconst (v := 5) hx hb dX4_restsOf_49 (by decide +kernel) ?_
      refine va_iald (f := (M 0)) hx hb hK.1 hP 1 0 rfl rfl (vp_in_nI (n := 5) (N := 580) (by decide) (by decide)) dX4_restsOf_50 ?_
      refine lv_topi (fun y_8 ey_9 => ?_)
      obtain rfl : y_8 = ((M 0) 5) := by rw [ey_9]; rfl
      refine lv_icmp_le (tgt := 58) hx hb dX4_restsOf_51 (by decide) (fun c_10 => ?_) (fun c_10 => ?_)
      · refine lv_bipush (v := (-6)) hx hb dX4_restsOf_58 (by decide +kernel) ?_
        subst hQ
        exact W.iret (v := (-6)) hx hb hr (fun t ht _ => ⟨(-6), rfl, (by rw [X4_restsOf_r, if_neg c_1, if_neg c_5, if_pos c_10]), ht⟩) (fun _ h9 => absurd h9 List.not_mem_nil) dX4_restsOf_60
      · refine lv_iload_n hx hb dX4_restsOf_54 rfl (lv_at hl 0 rfl) ?_
        refine lv_goto (tgt := 60) hx hb dX4_restsOf_55 (by decide) ?_
        subst hQ
        exact W.iret (v := (((M 0) (204 + k).toNatClampNeg) + ((M 0) 0))) hx hb hr (fun t ht _ => ⟨(((M 0) (204 + k).toNatClampNeg) + ((M 0) 0)), rfl, (by rw [X4_restsOf_r, if_neg c_1, if_neg c_5, if_neg c_10]), ht⟩) (fun _ h9 => absurd h9 List.not_mem_nil) dX4_restsOf_60
    · refine lv_bipush (v := (-6)) hx hb dX4_restsOf_21 (by decide +kernel) ?_
      refine lv_goto (tgt := 43) hx hb dX4_restsOf_23 (by decide) ?_
      refine lv_istore_n (lv' := [(2, .int (-6)), (0, .ref (a 0)), (1, .int k)]) hx hb dX4_restsOf_43 rfl hl (by decide) rfl (fun ls hl => ?_)
      refine lv_iload_n hx hb dX4_restsOf_44 rfl (lv_at hl 0 rfl) ?_
      refine lv_aload_n hx hb dX4_restsOf_45 rfl (lv_at hl 1 rfl) ?_
      refine va_get (D := G.1) (ci := 4) (v := .ref (a 1)) (C := RX4) (T := TX4) (N := 14) hx hb hts hinX4 hown hK.1 hP 0 rfl rfl 0 (by decide) (hts (.fieldLink RX4 7 "ParcelShelvesModel" "z" "[I") (by decide +kernel)) (fun _ h9 => h9) rfl dX4_restsOf_46 ?_
      refine lv_iconst (v := 5) hx hb dX4_restsOf_49 (by decide +kernel) ?_
      refine va_iald (f := (M 0)) hx hb hK.1 hP 1 0 rfl rfl (vp_in_nI (n := 5) (N := 580) (by decide) (by decide)) dX4_restsOf_50 ?_
      refine lv_topi (fun y_11 ey_12 => ?_)
      obtain rfl : y_11 = ((M 0) 5) := by rw [ey_12]; rfl
      refine lv_icmp_le (tgt := 58) hx hb dX4_restsOf_51 (by decide) (fun c_13 => ?_) (fun c_13 => ?_)
      · refine lv_bipush (v := (-6)) hx hb dX4_restsOf_58 (by decide +kernel) ?_
        subst hQ
        exact W.iret (v := (-6)) hx hb hr (fun t ht _ => ⟨(-6), rfl, (by rw [X4_restsOf_r, if_neg c_1, if_pos c_5, if_pos c_13]), ht⟩) (fun _ h9 => absurd h9 List.not_mem_nil) dX4_restsOf_60
      · refine lv_iload_n hx hb dX4_restsOf_54 rfl (lv_at hl 0 rfl) ?_
        refine lv_goto (tgt := 60) hx hb dX4_restsOf_55 (by decide) ?_
        subst hQ
        exact W.iret (v := (-6)) hx hb hr (fun t ht _ => ⟨(-6), rfl, (by rw [X4_restsOf_r, if_neg c_1, if_pos c_5, if_neg c_13]), ht⟩) (fun _ h9 => absurd h9 List.not_mem_nil) dX4_restsOf_60
abbrev X4_rests_p (z0 : Nat → Int32) (p0 : Nat) : Prop := ¬ ((X4_restsOf_r z0 ((48 * ((X4_weekday_r (z0 5)) - 1)) + (nI p0))) = (-6))
set_option maxHeartbeats 4000000 in
set_option maxRecDepth 100000 in
theorem c_X4_rests (l : Launch) (G : kz_G) (a : Nat → Nat) (M : kz_S) (p0 : Nat) (hp : p0 < 48) (ht : ∃ d, d < 2 ^ 30 ∧ M 0 5 = nI d) : kz_rd l G yX4_rests wsX4_rests 1 22 [.ref (a 0), .int (nI p0)] [mdW G a M] (if X4_rests_p (M 0) p0 then 1 else 0) := by
  refine Met.ofW (cc := cX4_rests) (maxL := 2) (ret := (some .boolean)) (by decide) rfl ?_
  intro p e s m args below meth c s₁ B hml hv
  obtain ⟨rfl, hP, hK⟩ := hv
  have hx := B.exec
  have hb := B.bytes
  have hr := B.returns
  have hts := atoms_spec (ws := wsX4_rests) B.pre
  have hown : s.vm.findClass RX4 = some m.cls := findClass_of_methodNamed B.named
  have hlocks := B.notSynchronized
  have hinX4 : ∀ w ∈ u_ws RX4 TX4 14, w ∈ wsX4_rests := by decide +kernel
  have hl := lv_entry ([.ref (a 0), .int (nI p0)]) (n := 2) (Nat.le_of_ble_eq_true rfl)
  rw [lg_entry_eq]
  generalize (lg_sl ([.ref (a 0), .int (nI p0)]) ++ List.replicate (2 - (lg_sl ([.ref (a 0), .int (nI p0)])).length) Slot.unset).toArray = ls at hl ⊢
  have hl : lv_has ls 2 [(0, .ref (a 0)), (1, .int (nI p0))] := hl
  refine kz_start (fun QQ hQ => ?_)
  refine lv_aload_n hx hb dX4_rests_0 rfl (lv_at hl 0 rfl) ?_
  refine lv_bipush (v := 48) hx hb dX4_rests_1 (by decide +kernel) ?_
  refine lv_aload_n hx hb dX4_rests_3 rfl (lv_at hl 0 rfl) ?_
  refine va_get (D := G.1) (ci := 4) (v := .ref (a 1)) (C := RX4) (T := TX4) (N := 14) hx hb hts hinX4 hown hK.1 hP 0 rfl rfl 0 (by decide) (hts (.fieldLink RX4 7 "ParcelShelvesModel" "z" "[I") (by decide +kernel)) (fun _ h9 => h9) rfl dX4_rests_4 ?_
  refine lv_iconst (v := 5) hx hb dX4_rests_7 (by decide +kernel) ?_
  refine va_iald (f := (M 0)) hx hb hK.1 hP 1 0 rfl rfl (vp_in_nI (n := 5) (N := 580) (by decide) (by decide)) dX4_rests_8 ?_
  refine lv_topi (fun y_1 ey_2 => ?_)
  obtain rfl : y_1 = ((M 0) 5) := by rw [ey_2]; rfl
  refine kz_rdS (As := [.int ((M 0) 5)]) (rest := [.int 48, .ref (a 0)]) ⟨hx, hb, hml, hown, hts⟩ (c_X4_weekday l G ((M 0) 5)) (va_cwS 1 hts gX4_rests_X4_weekday rfl rfl rfl (by decide +kernel) ⟨Nat.le_of_ble_eq_true rfl, Nat.le_of_ble_eq_true rfl⟩) hK (hP.sub (cs := []) [] rfl) rfl hl.1 rfl (Nat.le_of_ble_eq_true rfl) dX4_rests_9 ⟨Nat.le_of_ble_eq_true rfl, Nat.le_of_ble_eq_true rfl⟩ ?_
  refine lv_iconst (v := 1) hx hb dX4_rests_12 (by decide +kernel) ?_
  refine lv_isub hx hb dX4_rests_13 ?_
  refine lv_imul hx hb dX4_rests_14 ?_
  refine lv_iload_n hx hb dX4_rests_15 rfl (lv_at hl 1 rfl) ?_
  refine lv_iadd hx hb dX4_rests_16 ?_
  refine kz_rdV (As := [.int ((48 * ((X4_weekday_r ((M 0) 5)) - 1)) + (nI p0))]) (rest := []) (b := a 0) ⟨hx, hb, hml, hown, hts⟩ (c_X4_restsOf l G a M ((48 * ((X4_weekday_r ((M 0) 5)) - 1)) + (nI p0)) (fun _ => kz_ix4T ht hp)) (cwV 1 hts gX4_rests_X4_restsOf rfl rfl rfl (by decide +kernel) ⟨Nat.le_of_ble_eq_true rfl, Nat.le_of_ble_eq_true rfl⟩) hK hP (kz_recv hK hP (ci := 4) (q0 := 0) rfl rfl) rfl hl.1 rfl (Nat.le_of_ble_eq_true rfl) dX4_rests_17 ⟨Nat.le_of_ble_eq_true rfl, Nat.le_of_ble_eq_true rfl⟩ ?_
  refine lv_bipush (v := (-6)) hx hb dX4_rests_20 (by decide +kernel) ?_
  refine lv_icmp_eq (tgt := 29) hx hb dX4_rests_22 (by decide) (fun c_3 => ?_) (fun c_3 => ?_)
  · refine lv_iconst (v := 0) hx hb dX4_rests_29 (by decide +kernel) ?_
    subst hQ
    exact W.zret (v := 0) hx hb hr (by decide +kernel) (fun t ht _ => ⟨0, rfl, ((if_neg (fun h => h c_3)).symm), ht⟩) (fun _ h9 => absurd h9 List.not_mem_nil) dX4_rests_30
  · refine lv_iconst (v := 1) hx hb dX4_rests_25 (by decide +kernel) ?_
    refine lv_goto (tgt := 30) hx hb dX4_rests_26 (by decide) ?_
    subst hQ
    exact W.zret (v := 1) hx hb hr (by decide +kernel) (fun t ht _ => ⟨1, rfl, ((if_pos c_3).symm), ht⟩) (fun _ h9 => absurd h9 List.not_mem_nil) dX4_rests_30
def X4_feeOn_r (z0 : Nat → Int32) (p0 : Nat) (d : Int32) : Int32 := if ((d - (z0 (12 + 4 * p0 + 2))) - (z0 1)) ≤ 0 then 0 else ((((z0 (12 + 4 * p0 + 1)) + 1) * (z0 2)) * ((d - (z0 (12 + 4 * p0 + 2))) - (z0 1)))
set_option maxHeartbeats 4000000 in
set_option maxRecDepth 100000 in
theorem c_X4_feeOn (l : Launch) (G : kz_G) (a : Nat → Nat) (M : kz_S) (p0 : Nat) (d : Int32) (hp : p0 < 48) : kz_rd l G yX4_feeOn wsX4_feeOn 1 22 [.ref (a 0), .int (nI p0), .int d] [mdW G a M] (X4_feeOn_r (M 0) p0 d) := by
  refine Met.ofW (cc := cX4_feeOn) (maxL := 4) (ret := (some .int)) (by decide) rfl ?_
  intro p e s m args below meth c s₁ B hml hv
  obtain ⟨rfl, hP, hK⟩ := hv
  have hx := B.exec
  have hb := B.bytes
  have hr := B.returns
  have hts := atoms_spec (ws := wsX4_feeOn) B.pre
  have hown : s.vm.findClass RX4 = some m.cls := findClass_of_methodNamed B.named
  have hlocks := B.notSynchronized
  have hinX4 : ∀ w ∈ u_ws RX4 TX4 14, w ∈ wsX4_feeOn := by decide +kernel
  have hl := lv_entry ([.ref (a 0), .int (nI p0), .int d]) (n := 4) (Nat.le_of_ble_eq_true rfl)
  rw [lg_entry_eq]
  generalize (lg_sl ([.ref (a 0), .int (nI p0), .int d]) ++ List.replicate (4 - (lg_sl ([.ref (a 0), .int (nI p0), .int d])).length) Slot.unset).toArray = ls at hl ⊢
  have hl : lv_has ls 4 [(0, .ref (a 0)), (1, .int (nI p0)), (2, .int d)] := hl
  refine kz_start (fun QQ hQ => ?_)
  refine lv_iload_n hx hb dX4_feeOn_0 rfl (lv_at hl 2 rfl) ?_
  refine lv_aload_n hx hb dX4_feeOn_1 rfl (lv_at hl 0 rfl) ?_
  refine lv_iload_n hx hb dX4_feeOn_2 rfl (lv_at hl 1 rfl) ?_
  refine lv_iconst (v := 2) hx hb dX4_feeOn_3 (by decide +kernel) ?_
  refine kz_rdV (As := [.int (nI p0), .int 2]) (rest := [.int d]) (b := a 0) ⟨hx, hb, hml, hown, hts⟩ (c_X4_at l G a M p0 2 (by omega)) (cwV 2 hts gX4_feeOn_X4_at rfl rfl rfl (by decide +kernel) ⟨Nat.le_of_ble_eq_true rfl, Nat.le_of_ble_eq_true rfl⟩) hK hP (kz_recv hK hP (ci := 4) (q0 := 0) rfl rfl) rfl hl.1 rfl (Nat.le_of_ble_eq_true rfl) dX4_feeOn_4 ⟨Nat.le_of_ble_eq_true rfl, Nat.le_of_ble_eq_true rfl⟩ ?_
  refine lv_isub hx hb dX4_feeOn_7 ?_
  refine lv_aload_n hx hb dX4_feeOn_8 rfl (lv_at hl 0 rfl) ?_
  refine va_get (D := G.1) (ci := 4) (v := .ref (a 1)) (C := RX4) (T := TX4) (N := 14) hx hb hts hinX4 hown hK.1 hP 0 rfl rfl 0 (by decide) (hts (.fieldLink RX4 7 "ParcelShelvesModel" "z" "[I") (by decide +kernel)) (fun _ h9 => h9) rfl dX4_feeOn_9 ?_
  refine lv_iconst (v := 1) hx hb dX4_feeOn_12 (by decide +kernel) ?_
  refine va_iald (f := (M 0)) hx hb hK.1 hP 1 0 rfl rfl (vp_in_nI (n := 1) (N := 580) (by decide) (by decide)) dX4_feeOn_13 ?_
  refine lv_topi (fun y_1 ey_2 => ?_)
  obtain rfl : y_1 = ((M 0) 1) := by rw [ey_2]; rfl
  refine lv_isub hx hb dX4_feeOn_14 ?_
  refine lv_istore_n (lv' := [(3, .int ((d - ((M 0) (12 + 4 * p0 + 2))) - ((M 0) 1))), (0, .ref (a 0)), (1, .int (nI p0)), (2, .int d)]) hx hb dX4_feeOn_15 rfl hl (by decide) rfl (fun ls hl => ?_)
  refine lv_iload_n hx hb dX4_feeOn_16 rfl (lv_at hl 0 rfl) ?_
  refine lv_if_le (tgt := 40) hx hb dX4_feeOn_17 (by decide) (fun c_3 => ?_) (fun c_3 => ?_)
  · refine lv_iconst (v := 0) hx hb dX4_feeOn_40 (by decide +kernel) ?_
    subst hQ
    exact W.iret (v := 0) hx hb hr (fun t ht _ => ⟨0, rfl, (by rw [X4_feeOn_r, if_pos c_3]), ht⟩) (fun _ h9 => absurd h9 List.not_mem_nil) dX4_feeOn_41
  · refine lv_aload_n hx hb dX4_feeOn_20 rfl (lv_at hl 1 rfl) ?_
    refine lv_iload_n hx hb dX4_feeOn_21 rfl (lv_at hl 2 rfl) ?_
    refine lv_iconst (v := 1) hx hb dX4_feeOn_22 (by decide +kernel) ?_
    refine kz_rdV (As := [.int (nI p0), .int 1]) (rest := []) (b := a 0) ⟨hx, hb, hml, hown, hts⟩ (c_X4_at l G a M p0 1 (by omega)) (cwV 2 hts gX4_feeOn_X4_at rfl rfl rfl (by decide +kernel) ⟨Nat.le_of_ble_eq_true rfl, Nat.le_of_ble_eq_true rfl⟩) hK hP (kz_recv hK hP (ci := 4) (q0 := 0) rfl rfl) rfl hl.1 rfl (Nat.le_of_ble_eq_true rfl) dX4_feeOn_23 ⟨Nat.le_of_ble_eq_true rfl, Nat.le_of_ble_eq_true rfl⟩ ?_
    refine lv_iconst (v := 1) hx hb dX4_feeOn_26 (by decide +kernel) ?_
    refine lv_iadd hx hb dX4_feeOn_27 ?_
    refine lv_aload_n hx hb dX4_feeOn_28 rfl (lv_at hl 1 rfl) ?_
    refine va_get (D := G.1) (ci := 4) (v := .ref (a 1)) (C := RX4) (T := TX4) (N := 14) hx hb hts hinX4 hown hK.1 hP 0 rfl rfl 0 (by decide) (hts (.fieldLink RX4 7 "ParcelShelvesModel" "z" "[I") (by decide +kernel)) (fun _ h9 => h9) rfl dX4_feeOn_29 ?_
    refine lv_iconst (v := 2) hx hb dX4_feeOn_32 (by decide +kernel) ?_
    refine va_iald (f := (M 0)) hx hb hK.1 hP 1 0 rfl rfl (vp_in_nI (n := 2) (N := 580) (by decide) (by decide)) dX4_feeOn_33 ?_
    refine lv_topi (fun y_4 ey_5 => ?_)
    obtain rfl : y_4 = ((M 0) 2) := by rw [ey_5]; rfl
    refine lv_imul hx hb dX4_feeOn_34 ?_
    refine lv_iload_n hx hb dX4_feeOn_35 rfl (lv_at hl 0 rfl) ?_
    refine lv_imul hx hb dX4_feeOn_36 ?_
    refine lv_goto (tgt := 41) hx hb dX4_feeOn_37 (by decide) ?_
    subst hQ
    exact W.iret (v := (((((M 0) (12 + 4 * p0 + 1)) + 1) * ((M 0) 2)) * ((d - ((M 0) (12 + 4 * p0 + 2))) - ((M 0) 1)))) hx hb hr (fun t ht _ => ⟨(((((M 0) (12 + 4 * p0 + 1)) + 1) * ((M 0) 2)) * ((d - ((M 0) (12 + 4 * p0 + 2))) - ((M 0) 1))), rfl, (by rw [X4_feeOn_r, if_neg c_3]), ht⟩) (fun _ h9 => absurd h9 List.not_mem_nil) dX4_feeOn_41
abbrev X4_isLocked_p (z0 : Nat → Int32) : Prop := (z0 6) = 3
set_option maxHeartbeats 4000000 in
set_option maxRecDepth 100000 in
theorem c_X4_isLocked (l : Launch) (G : kz_G) (a : Nat → Nat) (M : kz_S) : kz_rd l G yX4_isLocked wsX4_isLocked 0 0 [.ref (a 0)] [mdW G a M] (if X4_isLocked_p (M 0) then 1 else 0) := by
  refine Met.ofW (cc := cX4_isLocked) (maxL := 1) (ret := (some .boolean)) (by decide) rfl ?_
  intro p e s m args below meth c s₁ B hml hv
  obtain ⟨rfl, hP, hK⟩ := hv
  have hx := B.exec
  have hb := B.bytes
  have hr := B.returns
  have hts := atoms_spec (ws := wsX4_isLocked) B.pre
  have hown : s.vm.findClass RX4 = some m.cls := findClass_of_methodNamed B.named
  have hlocks := B.notSynchronized
  have hinX4 : ∀ w ∈ u_ws RX4 TX4 14, w ∈ wsX4_isLocked := by decide +kernel
  have hl := lv_entry ([.ref (a 0)]) (n := 1) (Nat.le_of_ble_eq_true rfl)
  rw [lg_entry_eq]
  generalize (lg_sl ([.ref (a 0)]) ++ List.replicate (1 - (lg_sl ([.ref (a 0)])).length) Slot.unset).toArray = ls at hl ⊢
  have hl : lv_has ls 1 [(0, .ref (a 0))] := hl
  refine kz_start (fun QQ hQ => ?_)
  refine lv_aload_n hx hb dX4_isLocked_0 rfl (lv_at hl 0 rfl) ?_
  refine va_get (D := G.1) (ci := 4) (v := .ref (a 1)) (C := RX4) (T := TX4) (N := 14) hx hb hts hinX4 hown hK.1 hP 0 rfl rfl 0 (by decide) (hts (.fieldLink RX4 7 "ParcelShelvesModel" "z" "[I") (by decide +kernel)) (fun _ h9 => h9) rfl dX4_isLocked_1 ?_
  refine lv_bipush (v := 6) hx hb dX4_isLocked_4 (by decide +kernel) ?_
  refine va_iald (f := (M 0)) hx hb hK.1 hP 1 0 rfl rfl (vp_in_nI (n := 6) (N := 580) (by decide) (by decide)) dX4_isLocked_6 ?_
  refine lv_topi (fun y_1 ey_2 => ?_)
  obtain rfl : y_1 = ((M 0) 6) := by rw [ey_2]; rfl
  refine lv_iconst (v := 3) hx hb dX4_isLocked_7 (by decide +kernel) ?_
  refine lv_icmp_ne (tgt := 15) hx hb dX4_isLocked_8 (by decide) (fun c_3 => ?_) (fun c_3 => ?_)
  · refine lv_iconst (v := 0) hx hb dX4_isLocked_15 (by decide +kernel) ?_
    subst hQ
    exact W.zret (v := 0) hx hb hr (by decide +kernel) (fun t ht _ => ⟨0, rfl, ((if_neg c_3).symm), ht⟩) (fun _ h9 => absurd h9 List.not_mem_nil) dX4_isLocked_16
  · refine lv_iconst (v := 1) hx hb dX4_isLocked_11 (by decide +kernel) ?_
    refine lv_goto (tgt := 16) hx hb dX4_isLocked_12 (by decide) ?_
    subst hQ
    exact W.zret (v := 1) hx hb hr (by decide +kernel) (fun t ht _ => ⟨1, rfl, ((if_pos c_3).symm), ht⟩) (fun _ h9 => absurd h9 List.not_mem_nil) dX4_isLocked_16
abbrev X4_give_p (z0 : Nat → Int32) (j : Nat) : Prop := ¬ X4_isTaken_p z0 j ∧ ¬ X4_rests_p z0 j
def X4_firstPlace_r (z0 : Nat → Int32) (p0 q : Nat) : Int32 := kz_ff (X4_give_p z0) (-6) (8 * p0) (8 * (q + 1) - 8 * p0)
set_option maxHeartbeats 4000000 in
set_option maxRecDepth 100000 in
theorem c_X4_firstPlace (l : Launch) (G : kz_G) (a : Nat → Nat) (M : kz_S) (p0 : Nat) (q : Nat) (hp : p0 < 6) (hq : q < 6) (ht : ∃ d, d < 2 ^ 30 ∧ M 0 5 = nI d) : kz_rd l G yX4_firstPlace wsX4_firstPlace 2 43 [.ref (a 0), .int (nI p0), .int (nI q)] [mdW G a M] (X4_firstPlace_r (M 0) p0 q) := by
  refine Met.ofW (cc := cX4_firstPlace) (maxL := 4) (ret := (some .int)) (by decide) rfl ?_
  intro p e s m args below meth c s₁ B hml hv
  obtain ⟨rfl, hP, hK⟩ := hv
  have hx := B.exec
  have hb := B.bytes
  have hr := B.returns
  have hts := atoms_spec (ws := wsX4_firstPlace) B.pre
  have hown : s.vm.findClass RX4 = some m.cls := findClass_of_methodNamed B.named
  have hlocks := B.notSynchronized
  have hl := lv_entry ([.ref (a 0), .int (nI p0), .int (nI q)]) (n := 4) (Nat.le_of_ble_eq_true rfl)
  rw [lg_entry_eq]
  generalize (lg_sl ([.ref (a 0), .int (nI p0), .int (nI q)]) ++ List.replicate (4 - (lg_sl ([.ref (a 0), .int (nI p0), .int (nI q)])).length) Slot.unset).toArray = ls at hl ⊢
  have hl : lv_has ls 4 [(0, .ref (a 0)), (1, .int (nI p0)), (2, .int (nI q))] := hl
  refine kz_start (fun QQ hQ => ?_)
  refine lv_bipush (v := 8) hx hb dX4_firstPlace_0 (by decide +kernel) ?_
  refine lv_iload_n hx hb dX4_firstPlace_2 rfl (lv_at hl 1 rfl) ?_
  refine lv_imul hx hb dX4_firstPlace_3 ?_
  refine lv_topi (fun y_1 ey_2 => ?_)
  obtain rfl : y_1 = (nI (8 * p0)) := by rw [ey_2]; exact kz_e3 p0
  refine lv_istore_n (lv' := [(3, .int (nI (8 * p0))), (0, .ref (a 0)), (1, .int (nI p0)), (2, .int (nI q))]) hx hb dX4_firstPlace_4 rfl hl (by decide) rfl (fun ls hl => ?_)
  have L5_3 : ∀ (n5 : Nat) (i : Nat), (8 * (q + 1) - i < n5) → (8 * p0 ≤ i) → (i ≤ 8 * p0 + 8 * (q + 1)) → (X4_firstPlace_r (M 0) p0 q = kz_ff (X4_give_p (M 0)) (-6) i (8 * (q + 1) - i)) → ∀ ls : Array Slot, lv_has ls 4 [(3, .int (nI i)), (0, .ref (a 0)), (1, .int (nI p0)), (2, .int (nI q))] → W p l e (headSpec wsX4_firstPlace (kz_rm 2 43)).room s m ([.ref (a 0), .int (nI p0), .int (nI q)] : List Value).toArray below meth c s.heap [] 0 0 QQ (F0 m 5 ls []) := by
    intro n5
    induction n5 with
    | zero => intro i h0; exact absurd h0 (Nat.not_lt_zero _)
    | succ n5 ih5_4 =>
      intro i hmeas5 hi1 hi2 hres ls hl
      refine lv_iload_n hx hb dX4_firstPlace_5 rfl (lv_at hl 0 rfl) ?_
      refine lv_bipush (v := 8) hx hb dX4_firstPlace_6 (by decide +kernel) ?_
      refine lv_iload_n hx hb dX4_firstPlace_8 rfl (lv_at hl 3 rfl) ?_
      refine lv_iconst (v := 1) hx hb dX4_firstPlace_9 (by decide +kernel) ?_
      refine lv_iadd hx hb dX4_firstPlace_10 ?_
      refine lv_imul hx hb dX4_firstPlace_11 ?_
      refine lv_topi (fun y_5 ey_6 => ?_)
      obtain rfl : y_5 = (nI (8 * (q + 1))) := by rw [ey_6]; exact kz_e5 q
      refine lv_icmp_ge (tgt := 39) hx hb dX4_firstPlace_12 (by decide) (fun c_7 => ?_) (fun c_7 => ?_)
      · have hge := kz_le (a := 8 * (q + 1)) (b := i) c_7 (by omega) (by omega)
        refine lv_bipush (v := (-6)) hx hb dX4_firstPlace_39 (by decide +kernel) ?_
        subst hQ
        exact W.iret (v := (-6)) hx hb hr (fun t ht _ => ⟨(-6), rfl, ((hres.trans (kz_ff_e hge)).symm), ht⟩) (fun _ h9 => absurd h9 List.not_mem_nil) dX4_firstPlace_41
      · have hlt := kz_gt (a := 8 * (q + 1)) (b := i) c_7 (by omega) (by omega)
        refine lv_aload_n hx hb dX4_firstPlace_15 rfl (lv_at hl 1 rfl) ?_
        refine lv_iload_n hx hb dX4_firstPlace_16 rfl (lv_at hl 0 rfl) ?_
        refine kz_rdV (As := [.int (nI i)]) (rest := []) (b := a 0) ⟨hx, hb, hml, hown, hts⟩ (c_X4_isTaken l G a M i (by omega)) (cwV 1 hts gX4_firstPlace_X4_isTaken rfl rfl rfl (by decide +kernel) ⟨Nat.le_of_ble_eq_true rfl, Nat.le_of_ble_eq_true rfl⟩) hK hP (kz_recv hK hP (ci := 4) (q0 := 0) rfl rfl) rfl hl.1 rfl (Nat.le_of_ble_eq_true rfl) dX4_firstPlace_17 ⟨Nat.le_of_ble_eq_true rfl, Nat.le_of_ble_eq_true rfl⟩ ?_
        refine lv_topi (fun y_8 ey_9 => ?_)
        by_cases c_10 : X4_isTaken_p (M 0) i
        · rw [if_pos c_10] at ey_9
          subst ey_9
          refine lv_if_ne (tgt := 33) hx hb dX4_firstPlace_20 (by decide) (fun _ => ?_) (fun c => absurd c (by decide))
          refine lv_iinc (v := (nI (i + 1))) (lv' := [(3, .int (nI (i + 1))), (0, .ref (a 0)), (1, .int (nI p0)), (2, .int (nI q))]) hx hb dX4_firstPlace_33 hl (k := 0) rfl (nI_1 _) (by decide) rfl (fun ls hl => ?_)
          refine lv_goto (tgt := 5) hx hb dX4_firstPlace_36 (by decide) ?_
          exact ih5_4 (i + 1) (by omega) (by omega) (by omega) (hres.trans (kz_ff_f (P := X4_give_p (M 0)) hlt (fun h => h.1 c_10))) ls (lv_sub hl [0, 1, 2, 3] rfl)
        · rw [if_neg c_10] at ey_9
          subst ey_9
          refine lv_if_ne (tgt := 33) hx hb dX4_firstPlace_20 (by decide) (fun c => absurd c (by decide)) (fun _ => ?_)
          refine lv_aload_n hx hb dX4_firstPlace_23 rfl (lv_at hl 1 rfl) ?_
          refine lv_iload_n hx hb dX4_firstPlace_24 rfl (lv_at hl 0 rfl) ?_
          refine kz_rdV (As := [.int (nI i)]) (rest := []) (b := a 0) ⟨hx, hb, hml, hown, hts⟩ (c_X4_rests l G a M i (by omega) (by assumption)) (cwV 1 hts gX4_firstPlace_X4_rests rfl rfl rfl (by decide +kernel) ⟨Nat.le_of_ble_eq_true rfl, Nat.le_of_ble_eq_true rfl⟩) hK hP (kz_recv hK hP (ci := 4) (q0 := 0) rfl rfl) rfl hl.1 rfl (Nat.le_of_ble_eq_true rfl) dX4_firstPlace_25 ⟨Nat.le_of_ble_eq_true rfl, Nat.le_of_ble_eq_true rfl⟩ ?_
          refine lv_topi (fun y_11 ey_12 => ?_)
          by_cases c_13 : X4_rests_p (M 0) i
          · rw [if_pos c_13] at ey_12
            subst ey_12
            refine lv_if_ne (tgt := 33) hx hb dX4_firstPlace_28 (by decide) (fun _ => ?_) (fun c => absurd c (by decide))
            refine lv_iinc (v := (nI (i + 1))) (lv' := [(3, .int (nI (i + 1))), (0, .ref (a 0)), (1, .int (nI p0)), (2, .int (nI q))]) hx hb dX4_firstPlace_33 hl (k := 0) rfl (nI_1 _) (by decide) rfl (fun ls hl => ?_)
            refine lv_goto (tgt := 5) hx hb dX4_firstPlace_36 (by decide) ?_
            exact ih5_4 (i + 1) (by omega) (by omega) (by omega) (hres.trans (kz_ff_f (P := X4_give_p (M 0)) hlt (fun h => h.2 c_13))) ls (lv_sub hl [0, 1, 2, 3] rfl)
          · rw [if_neg c_13] at ey_12
            subst ey_12
            refine lv_if_ne (tgt := 33) hx hb dX4_firstPlace_28 (by decide) (fun c => absurd c (by decide)) (fun _ => ?_)
            refine lv_iload_n hx hb dX4_firstPlace_31 rfl (lv_at hl 0 rfl) ?_
            subst hQ
            exact W.iret (v := (nI i)) hx hb hr (fun t ht _ => ⟨(nI i), rfl, ((hres.trans (kz_ff_t (P := X4_give_p (M 0)) hlt ⟨c_10, c_13⟩)).symm), ht⟩) (fun _ h9 => absurd h9 List.not_mem_nil) dX4_firstPlace_32
  exact L5_3 _ (8 * p0) (Nat.lt_succ_self _) (Nat.le_refl _) (by omega) rfl ls (lv_sub hl [0, 1, 2, 3] rfl)
def X4_refuseBy_c6 (y : Int32) (w : Int32) (v : Int32) : Int32 := y
def X4_refuseBy_c7 (y : Int32) (w : Int32) (v : Int32) : Int32 := w
set_option maxHeartbeats 4000000 in
set_option maxRecDepth 100000 in
theorem c_X4_refuseBy (l : Launch) (G : kz_G) (a : Nat → Nat) (M : kz_S) (y : Int32) (w : Int32) (v : Int32) : kz_mi l G yX4_refuseBy wsX4_refuseBy 0 0 [.ref (a 0), .int y, .int w, .int v] [mdW G a M] [mdW G a (va_up (va_up M 6 (fun _ => (X4_refuseBy_c6 y w v))) 7 (fun _ => (X4_refuseBy_c7 y w v)))] v := by
  intro sz
  refine Met.ofW (cc := cX4_refuseBy) (maxL := 4) (ret := (some .int)) (by decide) rfl ?_
  intro p e s m args below meth c s₁ B hml hv
  obtain ⟨rfl, hsz, hP, hK, hD0⟩ := hv
  have hx := B.exec
  have hb := B.bytes
  have hr := B.returns
  have hts := atoms_spec (ws := wsX4_refuseBy) B.pre
  have hown : s.vm.findClass RX4 = some m.cls := findClass_of_methodNamed B.named
  have hlocks := B.notSynchronized
  have hinX4 : ∀ w ∈ u_ws RX4 TX4 14, w ∈ wsX4_refuseBy := by decide +kernel
  subst hsz
  have hD := hD0.self (sz := s.heap.size)
  generalize hAe : kz_A [mdW G a M] s.heap.size = A at hD ⊢
  have hA : ∀ q : Nat, s.heap.size ≤ q → A q := fun q h => by rw [← hAe]; exact Or.inr h
  have hS : va_S A s.heap s.heap [] := va_S.rf
  have hl := lv_entry ([.ref (a 0), .int y, .int w, .int v]) (n := 4) (Nat.le_of_ble_eq_true rfl)
  rw [lg_entry_eq]
  generalize (lg_sl ([.ref (a 0), .int y, .int w, .int v]) ++ List.replicate (4 - (lg_sl ([.ref (a 0), .int y, .int w, .int v])).length) Slot.unset).toArray = ls at hl ⊢
  have hl : lv_has ls 4 [(0, .ref (a 0)), (1, .int y), (2, .int w), (3, .int v)] := hl
  refine kz_start (fun QQ hQ => ?_)
  have hP : kz_P G [mdW G a M] s.heap := hP
  refine lv_aload_n hx hb dX4_refuseBy_0 rfl (lv_at hl 0 rfl) ?_
  refine lv_iload_n hx hb dX4_refuseBy_1 rfl (lv_at hl 1 rfl) ?_
  refine va_put (D := G.1) (ci := 4) (v := .int y) (ty := .int) (C := RX4) (T := TX4) (N := 14) hx hb hts hinX4 tyX4 tyX4_ok nmX4 hown hK.1 hP hD hS 0 rfl rfl 6 (by decide) (hts (.fieldLink RX4 22 "ParcelShelvesModel" "reason" "I") (by decide +kernel)) (fun _ h9 => h9) rfl (by decide +kernel) rfl rfl (Nat.le_of_ble_eq_true rfl) dX4_refuseBy_2 (fun H locs hP hD hS => ?_)
  have hP : kz_P G [mdW G a (va_up M 6 (fun _ => y))] H := hP
  have hD : kz_D A [mdW G a (va_up M 6 (fun _ => y))] := hD
  refine lv_aload_n hx hb dX4_refuseBy_5 rfl (lv_at hl 0 rfl) ?_
  refine lv_iload_n hx hb dX4_refuseBy_6 rfl (lv_at hl 2 rfl) ?_
  refine va_put (D := G.1) (ci := 4) (v := .int w) (ty := .int) (C := RX4) (T := TX4) (N := 14) hx hb hts hinX4 tyX4 tyX4_ok nmX4 hown hK.1 hP hD hS 0 rfl rfl 7 (by decide) (hts (.fieldLink RX4 26 "ParcelShelvesModel" "behind" "I") (by decide +kernel)) (fun _ h9 => h9) rfl (by decide +kernel) rfl rfl (Nat.le_of_ble_eq_true rfl) dX4_refuseBy_7 (fun H locs hP hD hS => ?_)
  have hP : kz_P G [mdW G a (va_up (va_up M 6 (fun _ => y)) 7 (fun _ => w))] H := hP
  have hD : kz_D A [mdW G a (va_up (va_up M 6 (fun _ => y)) 7 (fun _ => w))] := hD
  refine lv_iload_n hx hb dX4_refuseBy_10 rfl (lv_at hl 3 rfl) ?_
  subst hQ
  have hP9 : kz_P G [mdW G a (va_up (va_up M 6 (fun _ => (X4_refuseBy_c6 y w v))) 7 (fun _ => (X4_refuseBy_c7 y w v)))] H := hP
  have hD9 : kz_D A [mdW G a (va_up (va_up M 6 (fun _ => (X4_refuseBy_c6 y w v))) 7 (fun _ => (X4_refuseBy_c7 y w v)))] := hD
  exact W.iret (v := v) hx hb hr (fun t ht hW => ⟨⟨v, (), rfl, rfl, by rw [ht]; exact hP9, hD9⟩, hS.F ht⟩) hS.2.2 dX4_refuseBy_11
abbrev X4_hasFree_p (z0 : Nat → Int32) (p0 q : Nat) : Prop := kz_fb (fun j => ¬ X4_isTaken_p z0 j) (8 * p0) (8 * (q + 1) - 8 * p0) = true
def X4_refusePlace_c6 (z0 : Nat → Int32) (p0 q : Nat) : Int32 := 1
def X4_refusePlace_c7 (z0 : Nat → Int32) (p0 q : Nat) : Int32 := if X4_hasFree_p z0 p0 q then 5 else 6
theorem kz_h1 {P : Nat → Prop} [DecidablePred P] {F : Prop} {x : Int32} {i E : Nat} (hx : x = 0 ∨ x = 1) (h : ¬ x = 0) (hr : F ↔ (x = 1 ∨ kz_fb P i (E - i) = true)) : F ↔ ((1 : Int32) = 1 ∨ kz_fb P (i + 1) (E - (i + 1)) = true) := by
  rcases hx with e | e
  · exact absurd e h
  · exact ⟨fun _ => Or.inl rfl, fun _ => hr.mpr (Or.inl e)⟩
theorem kz_h2 {P : Nat → Prop} [DecidablePred P] {F : Prop} {x : Int32} {i E : Nat} (hi : i < E) (h : P i) (hr : F ↔ (x = 1 ∨ kz_fb P i (E - i) = true)) : F ↔ ((1 : Int32) = 1 ∨ kz_fb P (i + 1) (E - (i + 1)) = true) :=
  ⟨fun _ => Or.inl rfl, fun _ => hr.mpr (Or.inr (kz_fb_t hi h))⟩
theorem kz_h3 {P : Nat → Prop} [DecidablePred P] {F : Prop} {x : Int32} {i E : Nat} (hi : i < E) (h : ¬ P i) (hx : x = 0) (hr : F ↔ (x = 1 ∨ kz_fb P i (E - i) = true)) : F ↔ ((0 : Int32) = 1 ∨ kz_fb P (i + 1) (E - (i + 1)) = true) := by
  rw [kz_fb_f hi h] at hr
  subst hx
  exact hr
set_option maxHeartbeats 4000000 in
set_option maxRecDepth 100000 in
theorem c_X4_refusePlace (l : Launch) (G : kz_G) (a : Nat → Nat) (M : kz_S) (p0 : Nat) (q : Nat) (hp : p0 < 6) (hq : q < 6) : kz_mi l G yX4_refusePlace wsX4_refusePlace 2 43 [.ref (a 0), .int (nI p0), .int (nI q)] [mdW G a M] [mdW G a (va_up (va_up M 6 (fun _ => (X4_refusePlace_c6 (M 0) p0 q))) 7 (fun _ => (X4_refusePlace_c7 (M 0) p0 q)))] (-4) := by
  intro sz
  refine Met.ofW (cc := cX4_refusePlace) (maxL := 5) (ret := (some .int)) (by decide) rfl ?_
  intro p e s m args below meth c s₁ B hml hv
  obtain ⟨rfl, hsz, hP, hK, hD0⟩ := hv
  have hx := B.exec
  have hb := B.bytes
  have hr := B.returns
  have hts := atoms_spec (ws := wsX4_refusePlace) B.pre
  have hown : s.vm.findClass RX4 = some m.cls := findClass_of_methodNamed B.named
  have hlocks := B.notSynchronized
  subst hsz
  have hD := hD0.self (sz := s.heap.size)
  generalize hAe : kz_A [mdW G a M] s.heap.size = A at hD ⊢
  have hA : ∀ q : Nat, s.heap.size ≤ q → A q := fun q h => by rw [← hAe]; exact Or.inr h
  have hS : va_S A s.heap s.heap [] := va_S.rf
  have hl := lv_entry ([.ref (a 0), .int (nI p0), .int (nI q)]) (n := 5) (Nat.le_of_ble_eq_true rfl)
  rw [lg_entry_eq]
  generalize (lg_sl ([.ref (a 0), .int (nI p0), .int (nI q)]) ++ List.replicate (5 - (lg_sl ([.ref (a 0), .int (nI p0), .int (nI q)])).length) Slot.unset).toArray = ls at hl ⊢
  have hl : lv_has ls 5 [(0, .ref (a 0)), (1, .int (nI p0)), (2, .int (nI q))] := hl
  refine kz_start (fun QQ hQ => ?_)
  have hP : kz_P G [mdW G a M] s.heap := hP
  refine lv_iconst (v := 0) hx hb dX4_refusePlace_0 (by decide +kernel) ?_
  refine lv_istore_n (lv' := [(3, .int 0), (0, .ref (a 0)), (1, .int (nI p0)), (2, .int (nI q))]) hx hb dX4_refusePlace_1 rfl hl (by decide) rfl (fun ls hl => ?_)
  refine lv_bipush (v := 8) hx hb dX4_refusePlace_2 (by decide +kernel) ?_
  refine lv_iload_n hx hb dX4_refusePlace_4 rfl (lv_at hl 2 rfl) ?_
  refine lv_imul hx hb dX4_refusePlace_5 ?_
  refine lv_topi (fun y_1 ey_2 => ?_)
  obtain rfl : y_1 = (nI (8 * p0)) := by rw [ey_2]; exact kz_e3 p0
  refine lv_istore (lv' := [(4, .int (nI (8 * p0))), (3, .int 0), (0, .ref (a 0)), (1, .int (nI p0)), (2, .int (nI q))]) hx hb dX4_refusePlace_6 hl (by decide) rfl (fun ls hl => ?_)
  have L8_3 : ∀ (n8 : Nat) (i : Nat) (x0 : Int32), (8 * (q + 1) - i < n8) → (8 * p0 ≤ i) → (i ≤ 8 * p0 + 8 * (q + 1)) → (x0 = 0 ∨ x0 = 1) → (X4_hasFree_p (M 0) p0 q ↔ (x0 = 1 ∨ kz_fb (fun j => ¬ X4_isTaken_p (M 0) j) i (8 * (q + 1) - i) = true)) → ∀ (H : Heap) (locs : List Loc), kz_P G [mdW G a M] H → kz_D A [mdW G a M] → va_S A s.heap H locs → ∀ ls : Array Slot, lv_has ls 5 [(4, .int (nI i)), (3, .int x0), (0, .ref (a 0)), (1, .int (nI p0)), (2, .int (nI q))] → W p l e (headSpec wsX4_refusePlace (kz_rm 2 43)).room s m ([.ref (a 0), .int (nI p0), .int (nI q)] : List Value).toArray below meth c H locs 0 0 QQ (F0 m 8 ls []) := by
    intro n8
    induction n8 with
    | zero => intro i x0 h0; exact absurd h0 (Nat.not_lt_zero _)
    | succ n8 ih8_4 =>
      intro i x0 hmeas8 hi1 hi2 hxb hres H locs hP hD hS ls hl
      refine lv_iload hx hb dX4_refusePlace_8 (lv_at hl 0 rfl) ?_
      refine lv_bipush (v := 8) hx hb dX4_refusePlace_10 (by decide +kernel) ?_
      refine lv_iload_n hx hb dX4_refusePlace_12 rfl (lv_at hl 4 rfl) ?_
      refine lv_iconst (v := 1) hx hb dX4_refusePlace_13 (by decide +kernel) ?_
      refine lv_iadd hx hb dX4_refusePlace_14 ?_
      refine lv_imul hx hb dX4_refusePlace_15 ?_
      refine lv_topi (fun y_5 ey_6 => ?_)
      obtain rfl : y_5 = (nI (8 * (q + 1))) := by rw [ey_6]; exact kz_e5 q
      refine lv_icmp_ge (tgt := 44) hx hb dX4_refusePlace_16 (by decide) (fun c_7 => ?_) (fun c_7 => ?_)
      · have hge := kz_le (a := 8 * (q + 1)) (b := i) c_7 (by omega) (by omega)
        refine lv_aload_n hx hb dX4_refusePlace_44 rfl (lv_at hl 2 rfl) ?_
        refine lv_iconst (v := 1) hx hb dX4_refusePlace_45 (by decide +kernel) ?_
        refine lv_iload_n hx hb dX4_refusePlace_46 rfl (lv_at hl 1 rfl) ?_
        refine lv_if_eq (tgt := 54) hx hb dX4_refusePlace_47 (by decide) (fun c_8 => ?_) (fun c_8 => ?_)
        · refine lv_bipush (v := 6) hx hb dX4_refusePlace_54 (by decide +kernel) ?_
          refine lv_bipush (v := (-4)) hx hb dX4_refusePlace_56 (by decide +kernel) ?_
          refine kz_miV (As := [.int 1, .int 6, .int (-4)]) (rest := []) (b := a 0) (wr := []) (bs' := [mdW G a (va_up (va_up M 6 (fun _ => (X4_refuseBy_c6 1 6 (-4)))) 7 (fun _ => (X4_refuseBy_c7 1 6 (-4))))]) ⟨hx, hb, hml, hown, hts⟩ (c_X4_refuseBy l G a M 1 6 (-4)) (cwV 3 hts gX4_refusePlace_X4_refuseBy rfl rfl rfl (by decide +kernel) ⟨Nat.le_of_ble_eq_true rfl, Nat.le_of_ble_eq_true rfl⟩) hK hP hD hS hA [0] [] [0] rfl (by decide) rfl (by decide) (by decide) rfl (by decide) (kz_recv hK hP (ci := 4) (q0 := 0) rfl rfl) rfl hl.1 rfl (Nat.le_of_ble_eq_true rfl) dX4_refusePlace_58 ⟨Nat.le_of_ble_eq_true rfl, Nat.le_of_ble_eq_true rfl⟩ (fun H locs hP hD hS => ?_)
          subst hQ
          have hP9 : kz_P G [mdW G a (va_up (va_up M 6 (fun _ => (X4_refusePlace_c6 (M 0) p0 q))) 7 (fun _ => (X4_refusePlace_c7 (M 0) p0 q)))] H := by rw [X4_refusePlace_c6, X4_refusePlace_c7, if_neg (fun h => (hres.mp h).elim (fun e => absurd (c_8.symm.trans e) (by decide)) (fun e => absurd ((kz_fb_e hge).symm.trans e) (by decide)))]; exact hP
          have hD9 : kz_D A [mdW G a (va_up (va_up M 6 (fun _ => (X4_refusePlace_c6 (M 0) p0 q))) 7 (fun _ => (X4_refusePlace_c7 (M 0) p0 q)))] := by rw [X4_refusePlace_c6, X4_refusePlace_c7, if_neg (fun h => (hres.mp h).elim (fun e => absurd (c_8.symm.trans e) (by decide)) (fun e => absurd ((kz_fb_e hge).symm.trans e) (by decide)))]; exact hD
          exact W.iret (v := (-4)) hx hb hr (fun t ht hW => ⟨⟨(-4), (), rfl, rfl, by rw [ht]; exact hP9, hD9⟩, hS.F ht⟩) hS.2.2 dX4_refusePlace_61
        · refine lv_iconst (v := 5) hx hb dX4_refusePlace_50 (by decide +kernel) ?_
          refine lv_goto (tgt := 56) hx hb dX4_refusePlace_51 (by decide) ?_
          refine lv_bipush (v := (-4)) hx hb dX4_refusePlace_56 (by decide +kernel) ?_
          refine kz_miV (As := [.int 1, .int 5, .int (-4)]) (rest := []) (b := a 0) (wr := []) (bs' := [mdW G a (va_up (va_up M 6 (fun _ => (X4_refuseBy_c6 1 5 (-4)))) 7 (fun _ => (X4_refuseBy_c7 1 5 (-4))))]) ⟨hx, hb, hml, hown, hts⟩ (c_X4_refuseBy l G a M 1 5 (-4)) (cwV 3 hts gX4_refusePlace_X4_refuseBy rfl rfl rfl (by decide +kernel) ⟨Nat.le_of_ble_eq_true rfl, Nat.le_of_ble_eq_true rfl⟩) hK hP hD hS hA [0] [] [0] rfl (by decide) rfl (by decide) (by decide) rfl (by decide) (kz_recv hK hP (ci := 4) (q0 := 0) rfl rfl) rfl hl.1 rfl (Nat.le_of_ble_eq_true rfl) dX4_refusePlace_58 ⟨Nat.le_of_ble_eq_true rfl, Nat.le_of_ble_eq_true rfl⟩ (fun H locs hP hD hS => ?_)
          subst hQ
          have hP9 : kz_P G [mdW G a (va_up (va_up M 6 (fun _ => (X4_refusePlace_c6 (M 0) p0 q))) 7 (fun _ => (X4_refusePlace_c7 (M 0) p0 q)))] H := by rw [X4_refusePlace_c6, X4_refusePlace_c7, if_pos (hres.mpr (Or.inl (hxb.resolve_left c_8)))]; exact hP
          have hD9 : kz_D A [mdW G a (va_up (va_up M 6 (fun _ => (X4_refusePlace_c6 (M 0) p0 q))) 7 (fun _ => (X4_refusePlace_c7 (M 0) p0 q)))] := by rw [X4_refusePlace_c6, X4_refusePlace_c7, if_pos (hres.mpr (Or.inl (hxb.resolve_left c_8)))]; exact hD
          exact W.iret (v := (-4)) hx hb hr (fun t ht hW => ⟨⟨(-4), (), rfl, rfl, by rw [ht]; exact hP9, hD9⟩, hS.F ht⟩) hS.2.2 dX4_refusePlace_61
      · have hlt := kz_gt (a := 8 * (q + 1)) (b := i) c_7 (by omega) (by omega)
        refine lv_iload_n hx hb dX4_refusePlace_19 rfl (lv_at hl 1 rfl) ?_
        refine lv_if_ne (tgt := 32) hx hb dX4_refusePlace_20 (by decide) (fun c_9 => ?_) (fun c_9 => ?_)
        · refine lv_iconst (v := 1) hx hb dX4_refusePlace_32 (by decide +kernel) ?_
          refine lv_goto (tgt := 37) hx hb dX4_refusePlace_33 (by decide) ?_
          refine lv_istore_n (lv' := [(3, .int 1), (4, .int (nI i)), (0, .ref (a 0)), (1, .int (nI p0)), (2, .int (nI q))]) hx hb dX4_refusePlace_37 rfl hl (by decide) rfl (fun ls hl => ?_)
          refine lv_iinc (v := (nI (i + 1))) (lv' := [(4, .int (nI (i + 1))), (3, .int 1), (0, .ref (a 0)), (1, .int (nI p0)), (2, .int (nI q))]) hx hb dX4_refusePlace_38 hl (k := 1) rfl (nI_1 _) (by decide) rfl (fun ls hl => ?_)
          refine lv_goto (tgt := 8) hx hb dX4_refusePlace_41 (by decide) ?_
          exact ih8_4 (i + 1) 1 (by omega) (by omega) (by omega) (Or.inr rfl) (kz_h1 hxb c_9 hres) H locs hP hD hS ls (lv_sub hl [0, 1, 2, 3, 4] rfl)
        · refine lv_aload_n hx hb dX4_refusePlace_23 rfl (lv_at hl 2 rfl) ?_
          refine lv_iload hx hb dX4_refusePlace_24 (lv_at hl 0 rfl) ?_
          refine kz_rdV (As := [.int (nI i)]) (rest := []) (b := a 0) ⟨hx, hb, hml, hown, hts⟩ (c_X4_isTaken l G a M i (by omega)) (cwV 1 hts gX4_refusePlace_X4_isTaken rfl rfl rfl (by decide +kernel) ⟨Nat.le_of_ble_eq_true rfl, Nat.le_of_ble_eq_true rfl⟩) hK hP (kz_recv hK hP (ci := 4) (q0 := 0) rfl rfl) rfl hl.1 rfl (Nat.le_of_ble_eq_true rfl) dX4_refusePlace_26 ⟨Nat.le_of_ble_eq_true rfl, Nat.le_of_ble_eq_true rfl⟩ ?_
          refine lv_topi (fun y_10 ey_11 => ?_)
          by_cases c_12 : X4_isTaken_p (M 0) i
          · rw [if_pos c_12] at ey_11
            subst ey_11
            refine lv_if_ne (tgt := 36) hx hb dX4_refusePlace_29 (by decide) (fun _ => ?_) (fun c => absurd c (by decide))
            refine lv_iconst (v := 0) hx hb dX4_refusePlace_36 (by decide +kernel) ?_
            refine lv_istore_n (lv' := [(3, .int 0), (4, .int (nI i)), (0, .ref (a 0)), (1, .int (nI p0)), (2, .int (nI q))]) hx hb dX4_refusePlace_37 rfl hl (by decide) rfl (fun ls hl => ?_)
            refine lv_iinc (v := (nI (i + 1))) (lv' := [(4, .int (nI (i + 1))), (3, .int 0), (0, .ref (a 0)), (1, .int (nI p0)), (2, .int (nI q))]) hx hb dX4_refusePlace_38 hl (k := 1) rfl (nI_1 _) (by decide) rfl (fun ls hl => ?_)
            refine lv_goto (tgt := 8) hx hb dX4_refusePlace_41 (by decide) ?_
            exact ih8_4 (i + 1) 0 (by omega) (by omega) (by omega) (Or.inl rfl) (kz_h3 hlt (fun h => h c_12) c_9 hres) H locs hP hD hS ls (lv_sub hl [0, 1, 2, 3, 4] rfl)
          · rw [if_neg c_12] at ey_11
            subst ey_11
            refine lv_if_ne (tgt := 36) hx hb dX4_refusePlace_29 (by decide) (fun c => absurd c (by decide)) (fun _ => ?_)
            refine lv_iconst (v := 1) hx hb dX4_refusePlace_32 (by decide +kernel) ?_
            refine lv_goto (tgt := 37) hx hb dX4_refusePlace_33 (by decide) ?_
            refine lv_istore_n (lv' := [(3, .int 1), (4, .int (nI i)), (0, .ref (a 0)), (1, .int (nI p0)), (2, .int (nI q))]) hx hb dX4_refusePlace_37 rfl hl (by decide) rfl (fun ls hl => ?_)
            refine lv_iinc (v := (nI (i + 1))) (lv' := [(4, .int (nI (i + 1))), (3, .int 1), (0, .ref (a 0)), (1, .int (nI p0)), (2, .int (nI q))]) hx hb dX4_refusePlace_38 hl (k := 1) rfl (nI_1 _) (by decide) rfl (fun ls hl => ?_)
            refine lv_goto (tgt := 8) hx hb dX4_refusePlace_41 (by decide) ?_
            exact ih8_4 (i + 1) 1 (by omega) (by omega) (by omega) (Or.inr rfl) (kz_h2 hlt c_12 hres) H locs hP hD hS ls (lv_sub hl [0, 1, 2, 3, 4] rfl)
  exact L8_3 _ (8 * p0) 0 (Nat.lt_succ_self _) (Nat.le_refl _) (by omega) (Or.inl rfl) ⟨fun h => Or.inr h, fun h => h.elim (fun e => absurd e (by decide)) (fun e => e)⟩ s.heap [] hP hD hS ls (lv_sub hl [0, 1, 2, 3, 4] rfl)
def X4_refuseCode_r (z0 : Nat → Int32) (code : Int32) : Int32 := if (X4_restsOf_r z0 (X4_indexOf_r code)) = (-6) then (-1) else (-1)
def X4_refuseCode_c6 (z0 : Nat → Int32) (code : Int32) : Int32 := if (X4_restsOf_r z0 (X4_indexOf_r code)) = (-6) then (X4_refuseBy_c6 4 (-6) (-1)) else (X4_refuseBy_c6 4 5 (-1))
def X4_refuseCode_c7 (z0 : Nat → Int32) (code : Int32) : Int32 := if (X4_restsOf_r z0 (X4_indexOf_r code)) = (-6) then (X4_refuseBy_c7 4 (-6) (-1)) else (X4_refuseBy_c7 4 5 (-1))
set_option maxHeartbeats 4000000 in
set_option maxRecDepth 100000 in
theorem c_X4_refuseCode (l : Launch) (G : kz_G) (a : Nat → Nat) (M : kz_S) (code : Int32) : kz_mi l G yX4_refuseCode wsX4_refuseCode 2 46 [.ref (a 0), .int code] [mdW G a M] [mdW G a (va_up (va_up M 6 (fun _ => (X4_refuseCode_c6 (M 0) code))) 7 (fun _ => (X4_refuseCode_c7 (M 0) code)))] (X4_refuseCode_r (M 0) code) := by
  intro sz
  refine Met.ofW (cc := cX4_refuseCode) (maxL := 2) (ret := (some .int)) (by decide) rfl ?_
  intro p e s m args below meth c s₁ B hml hv
  obtain ⟨rfl, hsz, hP, hK, hD0⟩ := hv
  have hx := B.exec
  have hb := B.bytes
  have hr := B.returns
  have hts := atoms_spec (ws := wsX4_refuseCode) B.pre
  have hown : s.vm.findClass RX4 = some m.cls := findClass_of_methodNamed B.named
  have hlocks := B.notSynchronized
  subst hsz
  have hD := hD0.self (sz := s.heap.size)
  generalize hAe : kz_A [mdW G a M] s.heap.size = A at hD ⊢
  have hA : ∀ q : Nat, s.heap.size ≤ q → A q := fun q h => by rw [← hAe]; exact Or.inr h
  have hS : va_S A s.heap s.heap [] := va_S.rf
  have hl := lv_entry ([.ref (a 0), .int code]) (n := 2) (Nat.le_of_ble_eq_true rfl)
  rw [lg_entry_eq]
  generalize (lg_sl ([.ref (a 0), .int code]) ++ List.replicate (2 - (lg_sl ([.ref (a 0), .int code])).length) Slot.unset).toArray = ls at hl ⊢
  have hl : lv_has ls 2 [(0, .ref (a 0)), (1, .int code)] := hl
  refine kz_start (fun QQ hQ => ?_)
  have hP : kz_P G [mdW G a M] s.heap := hP
  refine lv_aload_n hx hb dX4_refuseCode_0 rfl (lv_at hl 0 rfl) ?_
  refine lv_iconst (v := 4) hx hb dX4_refuseCode_1 (by decide +kernel) ?_
  refine lv_aload_n hx hb dX4_refuseCode_2 rfl (lv_at hl 0 rfl) ?_
  refine lv_iload_n hx hb dX4_refuseCode_3 rfl (lv_at hl 1 rfl) ?_
  refine kz_rdS (As := [.int code]) (rest := [.ref (a 0), .int 4, .ref (a 0)]) ⟨hx, hb, hml, hown, hts⟩ (c_X4_indexOf l G code) (va_cwS 1 hts gX4_refuseCode_X4_indexOf rfl rfl rfl (by decide +kernel) ⟨Nat.le_of_ble_eq_true rfl, Nat.le_of_ble_eq_true rfl⟩) hK (hP.sub (cs := []) [] rfl) rfl hl.1 rfl (Nat.le_of_ble_eq_true rfl) dX4_refuseCode_4 ⟨Nat.le_of_ble_eq_true rfl, Nat.le_of_ble_eq_true rfl⟩ ?_
  refine kz_rdV (As := [.int (X4_indexOf_r code)]) (rest := [.int 4, .ref (a 0)]) (b := a 0) ⟨hx, hb, hml, hown, hts⟩ (c_X4_restsOf l G a M (X4_indexOf_r code) (fun h => kz_ic4 h)) (cwV 1 hts gX4_refuseCode_X4_restsOf rfl rfl rfl (by decide +kernel) ⟨Nat.le_of_ble_eq_true rfl, Nat.le_of_ble_eq_true rfl⟩) hK hP (kz_recv hK hP (ci := 4) (q0 := 0) rfl rfl) rfl hl.1 rfl (Nat.le_of_ble_eq_true rfl) dX4_refuseCode_7 ⟨Nat.le_of_ble_eq_true rfl, Nat.le_of_ble_eq_true rfl⟩ ?_
  refine lv_bipush (v := (-6)) hx hb dX4_refuseCode_10 (by decide +kernel) ?_
  refine lv_icmp_ne (tgt := 20) hx hb dX4_refuseCode_12 (by decide) (fun c_1 => ?_) (fun c_1 => ?_)
  · refine lv_iconst (v := 5) hx hb dX4_refuseCode_20 (by decide +kernel) ?_
    refine lv_iconst (v := (-1)) hx hb dX4_refuseCode_21 (by decide +kernel) ?_
    refine kz_miV (As := [.int 4, .int 5, .int (-1)]) (rest := []) (b := a 0) (wr := []) (bs' := [mdW G a (va_up (va_up M 6 (fun _ => (X4_refuseBy_c6 4 5 (-1)))) 7 (fun _ => (X4_refuseBy_c7 4 5 (-1))))]) ⟨hx, hb, hml, hown, hts⟩ (c_X4_refuseBy l G a M 4 5 (-1)) (cwV 3 hts gX4_refuseCode_X4_refuseBy rfl rfl rfl (by decide +kernel) ⟨Nat.le_of_ble_eq_true rfl, Nat.le_of_ble_eq_true rfl⟩) hK hP hD hS hA [0] [] [0] rfl (by decide) rfl (by decide) (by decide) rfl (by decide) (kz_recv hK hP (ci := 4) (q0 := 0) rfl rfl) rfl hl.1 rfl (Nat.le_of_ble_eq_true rfl) dX4_refuseCode_22 ⟨Nat.le_of_ble_eq_true rfl, Nat.le_of_ble_eq_true rfl⟩ (fun H locs hP hD hS => ?_)
    subst hQ
    have hP9 : kz_P G [mdW G a (va_up (va_up M 6 (fun _ => (X4_refuseCode_c6 (M 0) code))) 7 (fun _ => (X4_refuseCode_c7 (M 0) code)))] H := by rw [X4_refuseCode_c6, if_neg c_1]; rw [X4_refuseCode_c7, if_neg c_1]; exact hP
    have hD9 : kz_D A [mdW G a (va_up (va_up M 6 (fun _ => (X4_refuseCode_c6 (M 0) code))) 7 (fun _ => (X4_refuseCode_c7 (M 0) code)))] := by rw [X4_refuseCode_c6, if_neg c_1]; rw [X4_refuseCode_c7, if_neg c_1]; exact hD
    exact W.iret (v := (-1)) hx hb hr (fun t ht hW => ⟨⟨(-1), (), rfl, (by rw [X4_refuseCode_r, if_neg c_1]), by rw [ht]; exact hP9, hD9⟩, hS.F ht⟩) hS.2.2 dX4_refuseCode_25
  · refine lv_bipush (v := (-6)) hx hb dX4_refuseCode_15 (by decide +kernel) ?_
    refine lv_goto (tgt := 21) hx hb dX4_refuseCode_17 (by decide) ?_
    refine lv_iconst (v := (-1)) hx hb dX4_refuseCode_21 (by decide +kernel) ?_
    refine kz_miV (As := [.int 4, .int (-6), .int (-1)]) (rest := []) (b := a 0) (wr := []) (bs' := [mdW G a (va_up (va_up M 6 (fun _ => (X4_refuseBy_c6 4 (-6) (-1)))) 7 (fun _ => (X4_refuseBy_c7 4 (-6) (-1))))]) ⟨hx, hb, hml, hown, hts⟩ (c_X4_refuseBy l G a M 4 (-6) (-1)) (cwV 3 hts gX4_refuseCode_X4_refuseBy rfl rfl rfl (by decide +kernel) ⟨Nat.le_of_ble_eq_true rfl, Nat.le_of_ble_eq_true rfl⟩) hK hP hD hS hA [0] [] [0] rfl (by decide) rfl (by decide) (by decide) rfl (by decide) (kz_recv hK hP (ci := 4) (q0 := 0) rfl rfl) rfl hl.1 rfl (Nat.le_of_ble_eq_true rfl) dX4_refuseCode_22 ⟨Nat.le_of_ble_eq_true rfl, Nat.le_of_ble_eq_true rfl⟩ (fun H locs hP hD hS => ?_)
    subst hQ
    have hP9 : kz_P G [mdW G a (va_up (va_up M 6 (fun _ => (X4_refuseCode_c6 (M 0) code))) 7 (fun _ => (X4_refuseCode_c7 (M 0) code)))] H := by rw [X4_refuseCode_c6, if_pos c_1]; rw [X4_refuseCode_c7, if_pos c_1]; exact hP
    have hD9 : kz_D A [mdW G a (va_up (va_up M 6 (fun _ => (X4_refuseCode_c6 (M 0) code))) 7 (fun _ => (X4_refuseCode_c7 (M 0) code)))] := by rw [X4_refuseCode_c6, if_pos c_1]; rw [X4_refuseCode_c7, if_pos c_1]; exact hD
    exact W.iret (v := (-1)) hx hb hr (fun t ht hW => ⟨⟨(-1), (), rfl, (by rw [X4_refuseCode_r, if_pos c_1]), by rw [ht]; exact hP9, hD9⟩, hS.F ht⟩) hS.2.2 dX4_refuseCode_25
def X4_lay_c0 (z0 : Nat → Int32) (p0 : Nat) (q : Int32) (v : Int32) (d : Int32) : Nat → Int32 := (upd (upd (upd (upd z0 (12 + 4 * p0) (q + 1)) (12 + 4 * p0 + 1) v) (12 + 4 * p0 + 2) d) (12 + 4 * p0 + 3) (X4_weekday_r ((upd (upd (upd z0 (12 + 4 * p0) (q + 1)) (12 + 4 * p0 + 1) v) (12 + 4 * p0 + 2) d) 5)))
set_option maxHeartbeats 4000000 in
set_option maxRecDepth 100000 in
theorem c_X4_lay (l : Launch) (G : kz_G) (a : Nat → Nat) (M : kz_S) (p0 : Nat) (q : Int32) (v : Int32) (d : Int32) (hp : p0 < 48) : kz_mv l G yX4_lay wsX4_lay 1 20 [.ref (a 0), .int (nI p0), .int q, .int v, .int d] [mdW G a M] [mdW G a (va_up M 0 (X4_lay_c0 (M 0) p0 q v d))] := by
  intro sz
  refine Met.ofW (cc := cX4_lay) (maxL := 6) (ret := none) (by decide) rfl ?_
  intro p e s m args below meth c s₁ B hml hv
  obtain ⟨rfl, hsz, hP, hK, hD0⟩ := hv
  have hx := B.exec
  have hb := B.bytes
  have hr := B.returns
  have hts := atoms_spec (ws := wsX4_lay) B.pre
  have hown : s.vm.findClass RX4 = some m.cls := findClass_of_methodNamed B.named
  have hlocks := B.notSynchronized
  have hinX4 : ∀ w ∈ u_ws RX4 TX4 14, w ∈ wsX4_lay := by decide +kernel
  subst hsz
  have hD := hD0.self (sz := s.heap.size)
  generalize hAe : kz_A [mdW G a M] s.heap.size = A at hD ⊢
  have hA : ∀ q : Nat, s.heap.size ≤ q → A q := fun q h => by rw [← hAe]; exact Or.inr h
  have hS : va_S A s.heap s.heap [] := va_S.rf
  have hl := lv_entry ([.ref (a 0), .int (nI p0), .int q, .int v, .int d]) (n := 6) (Nat.le_of_ble_eq_true rfl)
  rw [lg_entry_eq]
  generalize (lg_sl ([.ref (a 0), .int (nI p0), .int q, .int v, .int d]) ++ List.replicate (6 - (lg_sl ([.ref (a 0), .int (nI p0), .int q, .int v, .int d])).length) Slot.unset).toArray = ls at hl ⊢
  have hl : lv_has ls 6 [(0, .ref (a 0)), (1, .int (nI p0)), (2, .int q), (3, .int v), (4, .int d)] := hl
  refine kz_start (fun QQ hQ => ?_)
  have hP : kz_P G [mdW G a M] s.heap := hP
  refine lv_bipush (v := 12) hx hb dX4_lay_0 (by decide +kernel) ?_
  refine lv_iconst (v := 4) hx hb dX4_lay_2 (by decide +kernel) ?_
  refine lv_iload_n hx hb dX4_lay_3 rfl (lv_at hl 1 rfl) ?_
  refine lv_imul hx hb dX4_lay_4 ?_
  refine lv_topi (fun y_1 ey_2 => ?_)
  obtain rfl : y_1 = (nI (4 * p0)) := by rw [ey_2]; exact pk_mul 4 p0
  refine lv_iadd hx hb dX4_lay_5 ?_
  refine lv_topi (fun y_3 ey_4 => ?_)
  obtain rfl : y_3 = (nI (12 + 4 * p0)) := by rw [ey_4]; exact nI_add 12 _
  refine lv_istore (lv' := [(5, .int (nI (12 + 4 * p0))), (0, .ref (a 0)), (1, .int (nI p0)), (2, .int q), (3, .int v), (4, .int d)]) hx hb dX4_lay_6 hl (by decide) rfl (fun ls hl => ?_)
  refine lv_aload_n hx hb dX4_lay_8 rfl (lv_at hl 1 rfl) ?_
  refine va_get (D := G.1) (ci := 4) (v := .ref (a 1)) (C := RX4) (T := TX4) (N := 14) hx hb hts hinX4 hown hK.1 hP 0 rfl rfl 0 (by decide) (hts (.fieldLink RX4 7 "ParcelShelvesModel" "z" "[I") (by decide +kernel)) (fun _ h9 => h9) rfl dX4_lay_9 ?_
  refine lv_iload hx hb dX4_lay_12 (lv_at hl 0 rfl) ?_
  refine lv_iload_n hx hb dX4_lay_14 rfl (lv_at hl 3 rfl) ?_
  refine lv_iconst (v := 1) hx hb dX4_lay_15 (by decide +kernel) ?_
  refine lv_iadd hx hb dX4_lay_16 ?_
  refine va_iast hx hb hK.1 hP hD hS 1 0 rfl rfl (vp_in_nI (n := (12 + 4 * p0)) (N := 580) (by omega) (by decide)) dX4_lay_17 (fun H locs hP hD hS => ?_)
  rw [kz_nI_clamp (n := (12 + 4 * p0)) (by omega)] at hP hD
  have hP : kz_P G [mdW G a (va_up M 0 (upd (M 0) (12 + 4 * p0) (q + 1)))] H := hP
  have hD : kz_D A [mdW G a (va_up M 0 (upd (M 0) (12 + 4 * p0) (q + 1)))] := hD
  refine lv_aload_n hx hb dX4_lay_18 rfl (lv_at hl 1 rfl) ?_
  refine va_get (D := G.1) (ci := 4) (v := .ref (a 1)) (C := RX4) (T := TX4) (N := 14) hx hb hts hinX4 hown hK.1 hP 0 rfl rfl 0 (by decide) (hts (.fieldLink RX4 7 "ParcelShelvesModel" "z" "[I") (by decide +kernel)) (fun _ h9 => h9) rfl dX4_lay_19 ?_
  refine lv_iload hx hb dX4_lay_22 (lv_at hl 0 rfl) ?_
  refine lv_iconst (v := 1) hx hb dX4_lay_24 (by decide +kernel) ?_
  refine lv_iadd hx hb dX4_lay_25 ?_
  refine lv_topi (fun y_5 ey_6 => ?_)
  obtain rfl : y_5 = (nI (12 + 4 * p0 + 1)) := by rw [ey_6]; exact nI_1 _
  refine lv_iload_n hx hb dX4_lay_26 rfl (lv_at hl 4 rfl) ?_
  refine va_iast hx hb hK.1 hP hD hS 1 0 rfl rfl (vp_in_nI (n := (12 + 4 * p0 + 1)) (N := 580) (by omega) (by decide)) dX4_lay_27 (fun H locs hP hD hS => ?_)
  rw [kz_nI_clamp (n := (12 + 4 * p0 + 1)) (by omega)] at hP hD
  have hP : kz_P G [mdW G a (va_up M 0 (upd (upd (M 0) (12 + 4 * p0) (q + 1)) (12 + 4 * p0 + 1) v))] H := hP
  have hD : kz_D A [mdW G a (va_up M 0 (upd (upd (M 0) (12 + 4 * p0) (q + 1)) (12 + 4 * p0 + 1) v))] := hD
  refine lv_aload_n hx hb dX4_lay_28 rfl (lv_at hl 1 rfl) ?_
  refine va_get (D := G.1) (ci := 4) (v := .ref (a 1)) (C := RX4) (T := TX4) (N := 14) hx hb hts hinX4 hown hK.1 hP 0 rfl rfl 0 (by decide) (hts (.fieldLink RX4 7 "ParcelShelvesModel" "z" "[I") (by decide +kernel)) (fun _ h9 => h9) rfl dX4_lay_29 ?_
  refine lv_iload hx hb dX4_lay_32 (lv_at hl 0 rfl) ?_
  refine lv_iconst (v := 2) hx hb dX4_lay_34 (by decide +kernel) ?_
  refine lv_iadd hx hb dX4_lay_35 ?_
  refine lv_topi (fun y_7 ey_8 => ?_)
  obtain rfl : y_7 = (nI (12 + 4 * p0 + 2)) := by rw [ey_8]; exact nI_add _ 2
  refine lv_iload hx hb dX4_lay_36 (lv_at hl 5 rfl) ?_
  refine va_iast hx hb hK.1 hP hD hS 1 0 rfl rfl (vp_in_nI (n := (12 + 4 * p0 + 2)) (N := 580) (by omega) (by decide)) dX4_lay_38 (fun H locs hP hD hS => ?_)
  rw [kz_nI_clamp (n := (12 + 4 * p0 + 2)) (by omega)] at hP hD
  have hP : kz_P G [mdW G a (va_up M 0 (upd (upd (upd (M 0) (12 + 4 * p0) (q + 1)) (12 + 4 * p0 + 1) v) (12 + 4 * p0 + 2) d))] H := hP
  have hD : kz_D A [mdW G a (va_up M 0 (upd (upd (upd (M 0) (12 + 4 * p0) (q + 1)) (12 + 4 * p0 + 1) v) (12 + 4 * p0 + 2) d))] := hD
  refine lv_aload_n hx hb dX4_lay_39 rfl (lv_at hl 1 rfl) ?_
  refine va_get (D := G.1) (ci := 4) (v := .ref (a 1)) (C := RX4) (T := TX4) (N := 14) hx hb hts hinX4 hown hK.1 hP 0 rfl rfl 0 (by decide) (hts (.fieldLink RX4 7 "ParcelShelvesModel" "z" "[I") (by decide +kernel)) (fun _ h9 => h9) rfl dX4_lay_40 ?_
  refine lv_iload hx hb dX4_lay_43 (lv_at hl 0 rfl) ?_
  refine lv_iconst (v := 3) hx hb dX4_lay_45 (by decide +kernel) ?_
  refine lv_iadd hx hb dX4_lay_46 ?_
  refine lv_topi (fun y_9 ey_10 => ?_)
  obtain rfl : y_9 = (nI (12 + 4 * p0 + 3)) := by rw [ey_10]; exact nI_add _ 3
  refine lv_aload_n hx hb dX4_lay_47 rfl (lv_at hl 1 rfl) ?_
  refine va_get (D := G.1) (ci := 4) (v := .ref (a 1)) (C := RX4) (T := TX4) (N := 14) hx hb hts hinX4 hown hK.1 hP 0 rfl rfl 0 (by decide) (hts (.fieldLink RX4 7 "ParcelShelvesModel" "z" "[I") (by decide +kernel)) (fun _ h9 => h9) rfl dX4_lay_48 ?_
  refine lv_iconst (v := 5) hx hb dX4_lay_51 (by decide +kernel) ?_
  refine va_iald (f := (upd (upd (upd (M 0) (12 + 4 * p0) (q + 1)) (12 + 4 * p0 + 1) v) (12 + 4 * p0 + 2) d)) hx hb hK.1 hP 1 0 rfl rfl (vp_in_nI (n := 5) (N := 580) (by decide) (by decide)) dX4_lay_52 ?_
  refine lv_topi (fun y_11 ey_12 => ?_)
  obtain rfl : y_11 = ((upd (upd (upd (M 0) (12 + 4 * p0) (q + 1)) (12 + 4 * p0 + 1) v) (12 + 4 * p0 + 2) d) 5) := by rw [ey_12]; rfl
  refine kz_rdS (As := [.int ((upd (upd (upd (M 0) (12 + 4 * p0) (q + 1)) (12 + 4 * p0 + 1) v) (12 + 4 * p0 + 2) d) 5)]) (rest := [.int (nI (12 + 4 * p0 + 3)), .ref (a 1)]) ⟨hx, hb, hml, hown, hts⟩ (c_X4_weekday l G ((upd (upd (upd (M 0) (12 + 4 * p0) (q + 1)) (12 + 4 * p0 + 1) v) (12 + 4 * p0 + 2) d) 5)) (va_cwS 1 hts gX4_lay_X4_weekday rfl rfl rfl (by decide +kernel) ⟨Nat.le_of_ble_eq_true rfl, Nat.le_of_ble_eq_true rfl⟩) hK (hP.sub (cs := []) [] rfl) rfl hl.1 rfl (Nat.le_of_ble_eq_true rfl) dX4_lay_53 ⟨Nat.le_of_ble_eq_true rfl, Nat.le_of_ble_eq_true rfl⟩ ?_
  refine va_iast hx hb hK.1 hP hD hS 1 0 rfl rfl (vp_in_nI (n := (12 + 4 * p0 + 3)) (N := 580) (by omega) (by decide)) dX4_lay_56 (fun H locs hP hD hS => ?_)
  rw [kz_nI_clamp (n := (12 + 4 * p0 + 3)) (by omega)] at hP hD
  have hP : kz_P G [mdW G a (va_up M 0 (upd (upd (upd (upd (M 0) (12 + 4 * p0) (q + 1)) (12 + 4 * p0 + 1) v) (12 + 4 * p0 + 2) d) (12 + 4 * p0 + 3) (X4_weekday_r ((upd (upd (upd (M 0) (12 + 4 * p0) (q + 1)) (12 + 4 * p0 + 1) v) (12 + 4 * p0 + 2) d) 5))))] H := hP
  have hD : kz_D A [mdW G a (va_up M 0 (upd (upd (upd (upd (M 0) (12 + 4 * p0) (q + 1)) (12 + 4 * p0 + 1) v) (12 + 4 * p0 + 2) d) (12 + 4 * p0 + 3) (X4_weekday_r ((upd (upd (upd (M 0) (12 + 4 * p0) (q + 1)) (12 + 4 * p0 + 1) v) (12 + 4 * p0 + 2) d) 5))))] := hD
  subst hQ
  have hP9 : kz_P G [mdW G a (va_up M 0 (X4_lay_c0 (M 0) p0 q v d))] H := hP
  have hD9 : kz_D A [mdW G a (va_up M 0 (X4_lay_c0 (M 0) p0 q v d))] := hD
  exact W.vret hx hb hr (fun t ht hW => ⟨⟨(), rfl, trivial, by rw [ht]; exact hP9, hD9⟩, hS.F ht⟩) hS.2.2 dX4_lay_57
def X4_leave_c0 (z0 : Nat → Int32) (p0 : Nat) : Nat → Int32 := (upd (upd z0 (((204 + (48 * ((z0 (12 + 4 * p0 + 3)) - 1))) + (nI p0)).toNatClampNeg) (z0 5)) (12 + 4 * p0) 0)
set_option maxHeartbeats 4000000 in
set_option maxRecDepth 100000 in
theorem c_X4_leave (l : Launch) (G : kz_G) (a : Nat → Nat) (M : kz_S) (p0 : Nat) (hp : p0 < 48) (hw : ∃ w, w < 7 ∧ M 0 (12 + 4 * p0 + 3) = nI (w + 1)) : kz_mv l G yX4_leave wsX4_leave 1 22 [.ref (a 0), .int (nI p0)] [mdW G a M] [mdW G a (va_up M 0 (X4_leave_c0 (M 0) p0))] := by
  intro sz
  refine Met.ofW (cc := cX4_leave) (maxL := 2) (ret := none) (by decide) rfl ?_
  intro p e s m args below meth c s₁ B hml hv
  obtain ⟨rfl, hsz, hP, hK, hD0⟩ := hv
  have hx := B.exec
  have hb := B.bytes
  have hr := B.returns
  have hts := atoms_spec (ws := wsX4_leave) B.pre
  have hown : s.vm.findClass RX4 = some m.cls := findClass_of_methodNamed B.named
  have hlocks := B.notSynchronized
  have hinX4 : ∀ w ∈ u_ws RX4 TX4 14, w ∈ wsX4_leave := by decide +kernel
  subst hsz
  have hD := hD0.self (sz := s.heap.size)
  generalize hAe : kz_A [mdW G a M] s.heap.size = A at hD ⊢
  have hA : ∀ q : Nat, s.heap.size ≤ q → A q := fun q h => by rw [← hAe]; exact Or.inr h
  have hS : va_S A s.heap s.heap [] := va_S.rf
  have hl := lv_entry ([.ref (a 0), .int (nI p0)]) (n := 2) (Nat.le_of_ble_eq_true rfl)
  rw [lg_entry_eq]
  generalize (lg_sl ([.ref (a 0), .int (nI p0)]) ++ List.replicate (2 - (lg_sl ([.ref (a 0), .int (nI p0)])).length) Slot.unset).toArray = ls at hl ⊢
  have hl : lv_has ls 2 [(0, .ref (a 0)), (1, .int (nI p0))] := hl
  refine kz_start (fun QQ hQ => ?_)
  have hP : kz_P G [mdW G a M] s.heap := hP
  refine lv_aload_n hx hb dX4_leave_0 rfl (lv_at hl 0 rfl) ?_
  refine va_get (D := G.1) (ci := 4) (v := .ref (a 1)) (C := RX4) (T := TX4) (N := 14) hx hb hts hinX4 hown hK.1 hP 0 rfl rfl 0 (by decide) (hts (.fieldLink RX4 7 "ParcelShelvesModel" "z" "[I") (by decide +kernel)) (fun _ h9 => h9) rfl dX4_leave_1 ?_
  refine lv_sipush (v := 204) hx hb dX4_leave_4 (by decide +kernel) ?_
  refine lv_bipush (v := 48) hx hb dX4_leave_7 (by decide +kernel) ?_
  refine lv_aload_n hx hb dX4_leave_9 rfl (lv_at hl 0 rfl) ?_
  refine lv_iload_n hx hb dX4_leave_10 rfl (lv_at hl 1 rfl) ?_
  refine lv_iconst (v := 3) hx hb dX4_leave_11 (by decide +kernel) ?_
  refine kz_rdV (As := [.int (nI p0), .int 3]) (rest := [.int 48, .int 204, .ref (a 1)]) (b := a 0) ⟨hx, hb, hml, hown, hts⟩ (c_X4_at l G a M p0 3 (by omega)) (cwV 2 hts gX4_leave_X4_at rfl rfl rfl (by decide +kernel) ⟨Nat.le_of_ble_eq_true rfl, Nat.le_of_ble_eq_true rfl⟩) hK hP (kz_recv hK hP (ci := 4) (q0 := 0) rfl rfl) rfl hl.1 rfl (Nat.le_of_ble_eq_true rfl) dX4_leave_12 ⟨Nat.le_of_ble_eq_true rfl, Nat.le_of_ble_eq_true rfl⟩ ?_
  refine lv_iconst (v := 1) hx hb dX4_leave_15 (by decide +kernel) ?_
  refine lv_isub hx hb dX4_leave_16 ?_
  refine lv_imul hx hb dX4_leave_17 ?_
  refine lv_iadd hx hb dX4_leave_18 ?_
  refine lv_iload_n hx hb dX4_leave_19 rfl (lv_at hl 1 rfl) ?_
  refine lv_iadd hx hb dX4_leave_20 ?_
  refine lv_aload_n hx hb dX4_leave_21 rfl (lv_at hl 0 rfl) ?_
  refine va_get (D := G.1) (ci := 4) (v := .ref (a 1)) (C := RX4) (T := TX4) (N := 14) hx hb hts hinX4 hown hK.1 hP 0 rfl rfl 0 (by decide) (hts (.fieldLink RX4 7 "ParcelShelvesModel" "z" "[I") (by decide +kernel)) (fun _ h9 => h9) rfl dX4_leave_22 ?_
  refine lv_iconst (v := 5) hx hb dX4_leave_25 (by decide +kernel) ?_
  refine va_iald (f := (M 0)) hx hb hK.1 hP 1 0 rfl rfl (vp_in_nI (n := 5) (N := 580) (by decide) (by decide)) dX4_leave_26 ?_
  refine lv_topi (fun y_1 ey_2 => ?_)
  obtain rfl : y_1 = ((M 0) 5) := by rw [ey_2]; rfl
  refine va_iast hx hb hK.1 hP hD hS 1 0 rfl rfl (kz_lv4 hw hp) dX4_leave_27 (fun H locs hP hD hS => ?_)
  have hP : kz_P G [mdW G a (va_up M 0 (upd (M 0) (((204 + (48 * (((M 0) (12 + 4 * p0 + 3)) - 1))) + (nI p0)).toNatClampNeg) ((M 0) 5)))] H := hP
  have hD : kz_D A [mdW G a (va_up M 0 (upd (M 0) (((204 + (48 * (((M 0) (12 + 4 * p0 + 3)) - 1))) + (nI p0)).toNatClampNeg) ((M 0) 5)))] := hD
  refine lv_aload_n hx hb dX4_leave_28 rfl (lv_at hl 0 rfl) ?_
  refine va_get (D := G.1) (ci := 4) (v := .ref (a 1)) (C := RX4) (T := TX4) (N := 14) hx hb hts hinX4 hown hK.1 hP 0 rfl rfl 0 (by decide) (hts (.fieldLink RX4 7 "ParcelShelvesModel" "z" "[I") (by decide +kernel)) (fun _ h9 => h9) rfl dX4_leave_29 ?_
  refine lv_bipush (v := 12) hx hb dX4_leave_32 (by decide +kernel) ?_
  refine lv_iconst (v := 4) hx hb dX4_leave_34 (by decide +kernel) ?_
  refine lv_iload_n hx hb dX4_leave_35 rfl (lv_at hl 1 rfl) ?_
  refine lv_imul hx hb dX4_leave_36 ?_
  refine lv_topi (fun y_3 ey_4 => ?_)
  obtain rfl : y_3 = (nI (4 * p0)) := by rw [ey_4]; exact pk_mul 4 p0
  refine lv_iadd hx hb dX4_leave_37 ?_
  refine lv_topi (fun y_5 ey_6 => ?_)
  obtain rfl : y_5 = (nI (12 + 4 * p0)) := by rw [ey_6]; exact nI_add 12 _
  refine lv_iconst (v := 0) hx hb dX4_leave_38 (by decide +kernel) ?_
  refine va_iast hx hb hK.1 hP hD hS 1 0 rfl rfl (vp_in_nI (n := (12 + 4 * p0)) (N := 580) (by omega) (by decide)) dX4_leave_39 (fun H locs hP hD hS => ?_)
  rw [kz_nI_clamp (n := (12 + 4 * p0)) (by omega)] at hP hD
  have hP : kz_P G [mdW G a (va_up M 0 (upd (upd (M 0) (((204 + (48 * (((M 0) (12 + 4 * p0 + 3)) - 1))) + (nI p0)).toNatClampNeg) ((M 0) 5)) (12 + 4 * p0) 0))] H := hP
  have hD : kz_D A [mdW G a (va_up M 0 (upd (upd (M 0) (((204 + (48 * (((M 0) (12 + 4 * p0 + 3)) - 1))) + (nI p0)).toNatClampNeg) ((M 0) 5)) (12 + 4 * p0) 0))] := hD
  subst hQ
  have hP9 : kz_P G [mdW G a (va_up M 0 (X4_leave_c0 (M 0) p0))] H := hP
  have hD9 : kz_D A [mdW G a (va_up M 0 (X4_leave_c0 (M 0) p0))] := hD
  exact W.vret hx hb hr (fun t ht hW => ⟨⟨(), rfl, trivial, by rw [ht]; exact hP9, hD9⟩, hS.F ht⟩) hS.2.2 dX4_leave_40
def X4_count_c0 (z0 : Nat → Int32) (k : Nat) (w : Nat) (v : Int32) : Nat → Int32 := (upd z0 (540 + 4 * k + w) ((z0 (540 + 4 * k + w)) + v))
set_option maxHeartbeats 4000000 in
set_option maxRecDepth 100000 in
theorem c_X4_count (l : Launch) (G : kz_G) (a : Nat → Nat) (M : kz_S) (k : Nat) (w : Nat) (v : Int32) (hb : 540 + 4 * k + w < 580) : kz_mv l G yX4_count wsX4_count 0 0 [.ref (a 0), .int (nI k), .int (nI w), .int v] [mdW G a M] [mdW G a (va_up M 0 (X4_count_c0 (M 0) k w v))] := by
  intro sz
  refine Met.ofW (cc := cX4_count) (maxL := 4) (ret := none) (by decide) rfl ?_
  intro p e s m args below meth c s₁ B hml hv
  obtain ⟨rfl, hsz, hP, hK, hD0⟩ := hv
  have hx := B.exec
  have hb := B.bytes
  have hr := B.returns
  have hts := atoms_spec (ws := wsX4_count) B.pre
  have hown : s.vm.findClass RX4 = some m.cls := findClass_of_methodNamed B.named
  have hlocks := B.notSynchronized
  have hinX4 : ∀ w ∈ u_ws RX4 TX4 14, w ∈ wsX4_count := by decide +kernel
  subst hsz
  have hD := hD0.self (sz := s.heap.size)
  generalize hAe : kz_A [mdW G a M] s.heap.size = A at hD ⊢
  have hA : ∀ q : Nat, s.heap.size ≤ q → A q := fun q h => by rw [← hAe]; exact Or.inr h
  have hS : va_S A s.heap s.heap [] := va_S.rf
  have hl := lv_entry ([.ref (a 0), .int (nI k), .int (nI w), .int v]) (n := 4) (Nat.le_of_ble_eq_true rfl)
  rw [lg_entry_eq]
  generalize (lg_sl ([.ref (a 0), .int (nI k), .int (nI w), .int v]) ++ List.replicate (4 - (lg_sl ([.ref (a 0), .int (nI k), .int (nI w), .int v])).length) Slot.unset).toArray = ls at hl ⊢
  have hl : lv_has ls 4 [(0, .ref (a 0)), (1, .int (nI k)), (2, .int (nI w)), (3, .int v)] := hl
  refine kz_start (fun QQ hQ => ?_)
  have hP : kz_P G [mdW G a M] s.heap := hP
  refine lv_aload_n hx hb dX4_count_0 rfl (lv_at hl 0 rfl) ?_
  refine va_get (D := G.1) (ci := 4) (v := .ref (a 1)) (C := RX4) (T := TX4) (N := 14) hx hb hts hinX4 hown hK.1 hP 0 rfl rfl 0 (by decide) (hts (.fieldLink RX4 7 "ParcelShelvesModel" "z" "[I") (by decide +kernel)) (fun _ h9 => h9) rfl dX4_count_1 ?_
  refine lv_sipush (v := 540) hx hb dX4_count_4 (by decide +kernel) ?_
  refine lv_iconst (v := 4) hx hb dX4_count_7 (by decide +kernel) ?_
  refine lv_iload_n hx hb dX4_count_8 rfl (lv_at hl 1 rfl) ?_
  refine lv_imul hx hb dX4_count_9 ?_
  refine lv_topi (fun y_1 ey_2 => ?_)
  obtain rfl : y_1 = (nI (4 * k)) := by rw [ey_2]; exact pk_mul 4 k
  refine lv_iadd hx hb dX4_count_10 ?_
  refine lv_topi (fun y_3 ey_4 => ?_)
  obtain rfl : y_3 = (nI (540 + 4 * k)) := by rw [ey_4]; exact nI_add 540 _
  refine lv_iload_n hx hb dX4_count_11 rfl (lv_at hl 2 rfl) ?_
  refine lv_iadd hx hb dX4_count_12 ?_
  refine lv_topi (fun y_5 ey_6 => ?_)
  obtain rfl : y_5 = (nI (540 + 4 * k + w)) := by rw [ey_6]; exact nI_add _ _
  refine lv_dup2_11 hx hb dX4_count_13 rfl rfl ?_
  refine va_iald (f := (M 0)) hx hb hK.1 hP 1 0 rfl rfl (vp_in_nI (n := (540 + 4 * k + w)) (N := 580) (by omega) (by decide)) dX4_count_14 ?_
  refine lv_topi (fun y_7 ey_8 => ?_)
  obtain rfl : y_7 = ((M 0) (540 + 4 * k + w)) := by rw [ey_8, kz_nI_clamp (n := (540 + 4 * k + w)) (by omega)]
  refine lv_iload_n hx hb dX4_count_15 rfl (lv_at hl 3 rfl) ?_
  refine lv_iadd hx hb dX4_count_16 ?_
  refine va_iast hx hb hK.1 hP hD hS 1 0 rfl rfl (vp_in_nI (n := (540 + 4 * k + w)) (N := 580) (by omega) (by decide)) dX4_count_17 (fun H locs hP hD hS => ?_)
  rw [kz_nI_clamp (n := (540 + 4 * k + w)) (by omega)] at hP hD
  have hP : kz_P G [mdW G a (va_up M 0 (upd (M 0) (540 + 4 * k + w) (((M 0) (540 + 4 * k + w)) + v)))] H := hP
  have hD : kz_D A [mdW G a (va_up M 0 (upd (M 0) (540 + 4 * k + w) (((M 0) (540 + 4 * k + w)) + v)))] := hD
  subst hQ
  have hP9 : kz_P G [mdW G a (va_up M 0 (X4_count_c0 (M 0) k w v))] H := hP
  have hD9 : kz_D A [mdW G a (va_up M 0 (X4_count_c0 (M 0) k w v))] := hD
  exact W.vret hx hb hr (fun t ht hW => ⟨⟨(), rfl, trivial, by rw [ht]; exact hP9, hD9⟩, hS.F ht⟩) hS.2.2 dX4_count_18
