/-- what the walks need of the reference's row: who lies on a place, and by which weekday -/
def kz_MP (z : Nat → Int32) : Prop := ∀ p, p < 48 → (∃ q, q ≤ 10 ∧ z (12 + 4 * p + 0) = nI q) ∧ (¬ z (12 + 4 * p + 0) ≤ 0 → ∃ w, w < 7 ∧ z (12 + 4 * p + 3) = nI (w + 1))
def kz_M (z : Nat → Int32) : Prop := (∃ d, d < 2 ^ 30 ∧ z 5 = nI d) ∧ kz_MP z
theorem kz_2z {z : Int32} (h : X4_in_p z 0 2) : 2 * z = nI (2 * z.toNatClampNeg) := by
  obtain ⟨j, hj, rfl⟩ := kz_wiE (n := 2) h rfl (by decide)
  rw [nI_clamp (by omega)]
  exact pk_mul 2 j
theorem kz_fpIn {z : Nat → Int32} {p q : Nat} (hq : q < 6) (h : ¬ X4_firstPlace_r z p q = (-6)) : vp_in (X4_firstPlace_r z p q) 48 := by
  rcases kz_ff_in (X4_give_p z) (-6) (8 * (q + 1) - 8 * p) (8 * p) with e | ⟨j, h1, h2, h3, e⟩
  · exact absurd e h
  · rw [X4_firstPlace_r, e]
    exact vp_in_nI (by omega) (by decide)
theorem kz_pbIn {z : Nat → Int32} {code : Int32} (h : ¬ X4_placeBy_r z code = (-6)) : vp_in (X4_placeBy_r z code) 48 := by
  rw [X4_placeBy_r] at h ⊢
  by_cases c1 : X4_indexOf_r code = (-6)
  · rw [if_pos c1] at h
    exact absurd rfl h
  · rw [if_neg c1] at h ⊢
    by_cases c2 : X4_isTaken_p z ((X4_indexOf_r code).toNatClampNeg % 48)
    · rw [if_pos c2] at h ⊢
      split
      · exact vp_in_nI (by omega) (by decide)
      · rename_i c3
        rw [if_neg c3] at h
        exact absurd rfl h
    · rw [if_neg c2] at h
      exact absurd rfl h
theorem kz_pbT {z : Nat → Int32} {code : Int32} (h : ¬ X4_placeBy_r z code = (-6)) : X4_isTaken_p z (X4_placeBy_r z code).toNatClampNeg := by
  rw [X4_placeBy_r] at h ⊢
  by_cases c1 : X4_indexOf_r code = (-6)
  · rw [if_pos c1] at h
    exact absurd rfl h
  · rw [if_neg c1] at h ⊢
    by_cases c2 : X4_isTaken_p z ((X4_indexOf_r code).toNatClampNeg % 48)
    · rw [if_pos c2] at h ⊢
      by_cases c3 : z (12 + 4 * ((X4_indexOf_r code).toNatClampNeg % 48) + 3) = X4_indexOf_r code / 48 + 1
      · rw [if_pos c3, nI_clamp (by omega)]
        exact c2
      · rw [if_neg c3] at h
        exact absurd rfl h
    · rw [if_neg c2] at h
      exact absurd rfl h
theorem kz_sdS {y : Int32} (h : ∃ q, q ≤ 10 ∧ y = nI q) (ht : ¬ y ≤ 0) : ∃ q, q < 10 ∧ y = nI (q + 1) := by
  obtain ⟨q, hq, rfl⟩ := h
  cases q with
  | zero => exact absurd (by decide) ht
  | succ q => exact ⟨q, by omega, rfl⟩
theorem kz_sdE {x y : Int32} (e : x = y) (h : ∃ q, q ≤ 10 ∧ y = nI q) (ht : ¬ y ≤ 0) : vp_in (x - 1) 10 := by
  obtain ⟨q, hq, e2⟩ := kz_sdS h ht
  rw [e, e2, nI_pred]
  exact vp_in_nI hq (by decide)
theorem kz_sd4 {y : Int32} (h : ∃ q, q < 10 ∧ y = nI (q + 1)) : vp_in (y - 1) 10 := by
  obtain ⟨q, hq, e2⟩ := h
  rw [e2, nI_pred]
  exact vp_in_nI hq (by decide)
theorem kz_wE {x y : Int32} (e : x = y) (h : ∃ w, w < 7 ∧ y = nI (w + 1)) : ∃ w, w < 7 ∧ x = nI (w + 1) := by rw [e]; exact h
theorem kz_ctw {z : Nat → Int32} {k w p : Nat} {v : Int32} (hw : ∃ w, w < 7 ∧ z (12 + 4 * p + 3) = nI (w + 1)) (hp : p < 48) : ∃ u, u < 7 ∧ X4_count_c0 z k w v (12 + 4 * p + 3) = nI (u + 1) :=
  kz_wE (by rw [X4_count_c0, pk_un (by omega)]) hw
theorem kz_layw {z : Nat → Int32} {t p : Nat} {q v d : Int32} (hw : ∃ w, w < 7 ∧ z (12 + 4 * p + 3) = nI (w + 1)) (ht : ∃ d, d < 2 ^ 30 ∧ z 5 = nI d) : ∃ w, w < 7 ∧ X4_lay_c0 z t q v d (12 + 4 * p + 3) = nI (w + 1) := by
  rw [X4_lay_c0, pk_un (j := 5) (by omega), pk_un (j := 5) (by omega), pk_un (j := 5) (by omega)]
  by_cases e : p = t
  · subst e
    obtain ⟨d, hd, e5⟩ := ht
    exact ⟨d % 7, by omega, by rw [pk_us, e5, X4_weekday_r, kz_wdN hd]⟩
  · rw [pk_un (by omega), pk_un (by omega), pk_un (by omega), pk_un (by omega)]
    exact hw
theorem kz_rng {k v : Int32} (h : X4_isInRange_p k v) : vp_in k 580 := by
  rcases h with h | ⟨-, h | ⟨-, h | ⟨-, h | ⟨-, h⟩⟩⟩⟩
  · rw [h.1]; exact vp_in_nI (n := 0) (by decide) (by decide)
  · rw [h.1]; exact vp_in_nI (n := 1) (by decide) (by decide)
  · rw [h.1]; exact vp_in_nI (n := 2) (by decide) (by decide)
  · rw [h.1]; exact vp_in_nI (n := 3) (by decide) (by decide)
  · rw [h.1]; exact vp_in_nI (n := 4) (by decide) (by decide)
theorem kz_in5 {k : Int32} (h : X4_in_p k 0 4) : vp_in k 580 := by
  obtain ⟨j, hj, rfl⟩ := kz_wiE (n := 4) h rfl (by decide)
  exact vp_in_nI (by omega) (by decide)
theorem kz_pm1 {k : Int32} (h : X4_in_p k 0 4) (h0 : ¬ k = 0) : vp_in (k - 1) 4 := by
  obtain ⟨j, hj, rfl⟩ := kz_wiE (n := 4) h rfl (by decide)
  cases j with
  | zero => exact absurd nI_0 h0
  | succ j =>
    rw [nI_pred]
    exact vp_in_nI (by omega) (by decide)

def X4_whyNotCome_r (z0 : Nat → Int32) (z6 : Int32) (z7 : Int32) (q : Int32) (z : Int32) : Int32 := if X4_isSender_p q then (if X4_in_p z 0 2 then (if (X4_firstPlace_r z0 (2 * z.toNatClampNeg) 5) = (-6) then (-4) else 0) else (-2)) else (-1)
def X4_whyNotCome_c6 (z0 : Nat → Int32) (z6 : Int32) (z7 : Int32) (q : Int32) (z : Int32) : Int32 := if X4_isSender_p q then (if X4_in_p z 0 2 then (if (X4_firstPlace_r z0 (2 * z.toNatClampNeg) 5) = (-6) then (X4_refusePlace_c6 z0 (2 * z.toNatClampNeg) 5) else z6) else z6) else z6
def X4_whyNotCome_c7 (z0 : Nat → Int32) (z6 : Int32) (z7 : Int32) (q : Int32) (z : Int32) : Int32 := if X4_isSender_p q then (if X4_in_p z 0 2 then (if (X4_firstPlace_r z0 (2 * z.toNatClampNeg) 5) = (-6) then (X4_refusePlace_c7 z0 (2 * z.toNatClampNeg) 5) else z7) else z7) else z7
set_option maxHeartbeats 1000000 in
set_option maxRecDepth 100000 in
theorem c_X4_whyNotCome (l : Launch) (G : kz_G) (a : Nat → Nat) (M : kz_S) (q : Int32) (z : Int32) (ht : ∃ d, d < 2 ^ 30 ∧ M 0 5 = nI d) : kz_mi l G yX4_whyNotCome wsX4_whyNotCome 3 67 [.ref (a 0), .int q, .int z] [mdW G a M] [mdW G a (va_up (va_up M 6 (fun _ => (X4_whyNotCome_c6 (M 0) (M 6 0) (M 7 0) q z))) 7 (fun _ => (X4_whyNotCome_c7 (M 0) (M 6 0) (M 7 0) q z)))] (X4_whyNotCome_r (M 0) (M 6 0) (M 7 0) q z) := by
  intro sz
  refine Met.ofW (cc := cX4_whyNotCome) (maxL := 3) (ret := (some .int)) (by decide) rfl ?_
  intro p e s m args below meth c s₁ B hml hv
  obtain ⟨rfl, hsz, hP, hK, hD0⟩ := hv
  have hx := B.exec
  have hb := B.bytes
  have hr := B.returns
  have hts := atoms_spec (ws := wsX4_whyNotCome) B.pre
  have hown : s.vm.findClass RX4 = some m.cls := findClass_of_methodNamed B.named
  have hlocks := B.notSynchronized
  subst hsz
  have hD := hD0.self (sz := s.heap.size)
  generalize hAe : kz_A [mdW G a M] s.heap.size = A at hD ⊢
  have hA : ∀ q : Nat, s.heap.size ≤ q → A q := fun q h => by rw [← hAe]; exact Or.inr h
  have hS : va_S A s.heap s.heap [] := va_S.rf
  have hl := lv_entry ([.ref (a 0), .int q, .int z]) (n := 3) (Nat.le_of_ble_eq_true rfl)
  rw [lg_entry_eq]
  generalize (lg_sl ([.ref (a 0), .int q, .int z]) ++ List.replicate (3 - (lg_sl ([.ref (a 0), .int q, .int z])).length) Slot.unset).toArray = ls at hl ⊢
  have hl : lv_has ls 3 [(0, .ref (a 0)), (1, .int q), (2, .int z)] := hl
  refine kz_start (fun QQ hQ => ?_)
  have hP : kz_P G [mdW G a M] s.heap := hP
  refine lv_iload_n hx hb dX4_whyNotCome_0 rfl (lv_at hl 1 rfl) ?_
  refine kz_rdS (As := [.int q]) (rest := []) ⟨hx, hb, hml, hown, hts⟩ (c_X4_isSender l G q) (va_cwS 1 hts gX4_whyNotCome_X4_isSender rfl rfl rfl (by decide +kernel) ⟨Nat.le_of_ble_eq_true rfl, Nat.le_of_ble_eq_true rfl⟩) hK (hP.sub (cs := []) [] rfl) rfl hl.1 rfl (Nat.le_of_ble_eq_true rfl) dX4_whyNotCome_1 ⟨Nat.le_of_ble_eq_true rfl, Nat.le_of_ble_eq_true rfl⟩ ?_
  refine lv_topi (fun y_1 ey_2 => ?_)
  by_cases c_3 : X4_isSender_p q
  · rw [if_pos c_3] at ey_2
    subst ey_2
    refine lv_if_ne (tgt := 9) hx hb dX4_whyNotCome_4 (by decide) (fun _ => ?_) (fun c => absurd c (by decide))
    refine lv_iload_n hx hb dX4_whyNotCome_9 rfl (lv_at hl 2 rfl) ?_
    refine lv_iconst (v := 0) hx hb dX4_whyNotCome_10 (by decide +kernel) ?_
    refine lv_iconst (v := 2) hx hb dX4_whyNotCome_11 (by decide +kernel) ?_
    refine kz_rdS (As := [.int z, .int 0, .int 2]) (rest := []) ⟨hx, hb, hml, hown, hts⟩ (c_X4_in l G z 0 2) (va_cwS 3 hts gX4_whyNotCome_X4_in rfl rfl rfl (by decide +kernel) ⟨Nat.le_of_ble_eq_true rfl, Nat.le_of_ble_eq_true rfl⟩) hK (hP.sub (cs := []) [] rfl) rfl hl.1 rfl (Nat.le_of_ble_eq_true rfl) dX4_whyNotCome_12 ⟨Nat.le_of_ble_eq_true rfl, Nat.le_of_ble_eq_true rfl⟩ ?_
    refine lv_topi (fun y_4 ey_5 => ?_)
    by_cases c_6 : X4_in_p z 0 2
    · rw [if_pos c_6] at ey_5
      subst ey_5
      have hzz := c_6
      have hz := (kz_back (kz_wiIn 2 c_6 rfl (by decide)) (by decide)).2
      refine lv_if_ne (tgt := 21) hx hb dX4_whyNotCome_15 (by decide) (fun _ => ?_) (fun c => absurd c (by decide))
      refine lv_aload_n hx hb dX4_whyNotCome_21 rfl (lv_at hl 0 rfl) ?_
      refine lv_iconst (v := 2) hx hb dX4_whyNotCome_22 (by decide +kernel) ?_
      refine lv_iload_n hx hb dX4_whyNotCome_23 rfl (lv_at hl 2 rfl) ?_
      refine lv_imul hx hb dX4_whyNotCome_24 ?_
      refine lv_topi (fun y_7 ey_8 => ?_)
      obtain rfl : y_7 = (nI (2 * z.toNatClampNeg)) := by rw [ey_8]; exact kz_2z hzz
      refine lv_iconst (v := 5) hx hb dX4_whyNotCome_25 (by decide +kernel) ?_
      refine kz_rdV (As := [.int (nI (2 * z.toNatClampNeg)), .int 5]) (rest := []) (b := a 0) ⟨hx, hb, hml, hown, hts⟩ (c_X4_firstPlace l G a M (2 * z.toNatClampNeg) 5 (by omega) (by omega) ht) (cwV 2 hts gX4_whyNotCome_X4_firstPlace rfl rfl rfl (by decide +kernel) ⟨Nat.le_of_ble_eq_true rfl, Nat.le_of_ble_eq_true rfl⟩) hK hP (kz_recv hK hP (ci := 4) (q0 := 0) rfl rfl) rfl hl.1 rfl (Nat.le_of_ble_eq_true rfl) dX4_whyNotCome_26 ⟨Nat.le_of_ble_eq_true rfl, Nat.le_of_ble_eq_true rfl⟩ ?_
      refine lv_bipush (v := (-6)) hx hb dX4_whyNotCome_29 (by decide +kernel) ?_
      refine lv_icmp_ne (tgt := 45) hx hb dX4_whyNotCome_31 (by decide) (fun c_9 => ?_) (fun c_9 => ?_)
      · refine lv_iconst (v := 0) hx hb dX4_whyNotCome_45 (by decide +kernel) ?_
        subst hQ
        have hP9 : kz_P G [mdW G a (va_up (va_up M 6 (fun _ => (X4_whyNotCome_c6 (M 0) (M 6 0) (M 7 0) q z))) 7 (fun _ => (X4_whyNotCome_c7 (M 0) (M 6 0) (M 7 0) q z)))] s.heap := by rw [X4_whyNotCome_c6, if_pos c_3, if_pos c_6, if_neg c_9]; rw [X4_whyNotCome_c7, if_pos c_3, if_pos c_6, if_neg c_9]; exact hP
        have hD9 : kz_D A [mdW G a (va_up (va_up M 6 (fun _ => (X4_whyNotCome_c6 (M 0) (M 6 0) (M 7 0) q z))) 7 (fun _ => (X4_whyNotCome_c7 (M 0) (M 6 0) (M 7 0) q z)))] := by rw [X4_whyNotCome_c6, if_pos c_3, if_pos c_6, if_neg c_9]; rw [X4_whyNotCome_c7, if_pos c_3, if_pos c_6, if_neg c_9]; exact hD
        exact W.iret (v := 0) hx hb hr (fun t ht hW => ⟨⟨0, (), rfl, (by rw [X4_whyNotCome_r, if_pos c_3, if_pos c_6, if_neg c_9]), by rw [ht]; exact hP9, hD9⟩, hS.F ht⟩) hS.2.2 dX4_whyNotCome_46
      · refine lv_aload_n hx hb dX4_whyNotCome_34 rfl (lv_at hl 0 rfl) ?_
        refine lv_iconst (v := 2) hx hb dX4_whyNotCome_35 (by decide +kernel) ?_
        refine lv_iload_n hx hb dX4_whyNotCome_36 rfl (lv_at hl 2 rfl) ?_
        refine lv_imul hx hb dX4_whyNotCome_37 ?_
        refine lv_topi (fun y_10 ey_11 => ?_)
        obtain rfl : y_10 = (nI (2 * z.toNatClampNeg)) := by rw [ey_11]; exact kz_2z hzz
        refine lv_iconst (v := 5) hx hb dX4_whyNotCome_38 (by decide +kernel) ?_
        refine kz_miV (As := [.int (nI (2 * z.toNatClampNeg)), .int 5]) (rest := []) (b := a 0) (wr := []) (bs' := [mdW G a (va_up (va_up M 6 (fun _ => (X4_refusePlace_c6 (M 0) (2 * z.toNatClampNeg) 5))) 7 (fun _ => (X4_refusePlace_c7 (M 0) (2 * z.toNatClampNeg) 5)))]) ⟨hx, hb, hml, hown, hts⟩ (c_X4_refusePlace l G a M (2 * z.toNatClampNeg) 5 (by omega) (by omega)) (cwV 2 hts gX4_whyNotCome_X4_refusePlace rfl rfl rfl (by decide +kernel) ⟨Nat.le_of_ble_eq_true rfl, Nat.le_of_ble_eq_true rfl⟩) hK hP hD hS hA [0] [] [0] rfl (by decide) rfl (by decide) (by decide) rfl (by decide) (kz_recv hK hP (ci := 4) (q0 := 0) rfl rfl) rfl hl.1 rfl (Nat.le_of_ble_eq_true rfl) dX4_whyNotCome_39 ⟨Nat.le_of_ble_eq_true rfl, Nat.le_of_ble_eq_true rfl⟩ (fun H locs hP hD hS => ?_)
        refine lv_goto (tgt := 46) hx hb dX4_whyNotCome_42 (by decide) ?_
        subst hQ
        have hP9 : kz_P G [mdW G a (va_up (va_up M 6 (fun _ => (X4_whyNotCome_c6 (M 0) (M 6 0) (M 7 0) q z))) 7 (fun _ => (X4_whyNotCome_c7 (M 0) (M 6 0) (M 7 0) q z)))] H := by rw [X4_whyNotCome_c6, if_pos c_3, if_pos c_6, if_pos c_9]; rw [X4_whyNotCome_c7, if_pos c_3, if_pos c_6, if_pos c_9]; exact hP
        have hD9 : kz_D A [mdW G a (va_up (va_up M 6 (fun _ => (X4_whyNotCome_c6 (M 0) (M 6 0) (M 7 0) q z))) 7 (fun _ => (X4_whyNotCome_c7 (M 0) (M 6 0) (M 7 0) q z)))] := by rw [X4_whyNotCome_c6, if_pos c_3, if_pos c_6, if_pos c_9]; rw [X4_whyNotCome_c7, if_pos c_3, if_pos c_6, if_pos c_9]; exact hD
        exact W.iret (v := (-4)) hx hb hr (fun t ht hW => ⟨⟨(-4), (), rfl, (by rw [X4_whyNotCome_r, if_pos c_3, if_pos c_6, if_pos c_9]), by rw [ht]; exact hP9, hD9⟩, hS.F ht⟩) hS.2.2 dX4_whyNotCome_46
    · rw [if_neg c_6] at ey_5
      subst ey_5
      refine lv_if_ne (tgt := 21) hx hb dX4_whyNotCome_15 (by decide) (fun c => absurd c (by decide)) (fun _ => ?_)
      refine lv_bipush (v := (-2)) hx hb dX4_whyNotCome_18 (by decide +kernel) ?_
      subst hQ
      have hP9 : kz_P G [mdW G a (va_up (va_up M 6 (fun _ => (X4_whyNotCome_c6 (M 0) (M 6 0) (M 7 0) q z))) 7 (fun _ => (X4_whyNotCome_c7 (M 0) (M 6 0) (M 7 0) q z)))] s.heap := by rw [X4_whyNotCome_c6, if_pos c_3, if_neg c_6]; rw [X4_whyNotCome_c7, if_pos c_3, if_neg c_6]; exact hP
      have hD9 : kz_D A [mdW G a (va_up (va_up M 6 (fun _ => (X4_whyNotCome_c6 (M 0) (M 6 0) (M 7 0) q z))) 7 (fun _ => (X4_whyNotCome_c7 (M 0) (M 6 0) (M 7 0) q z)))] := by rw [X4_whyNotCome_c6, if_pos c_3, if_neg c_6]; rw [X4_whyNotCome_c7, if_pos c_3, if_neg c_6]; exact hD
      exact W.iret (v := (-2)) hx hb hr (fun t ht hW => ⟨⟨(-2), (), rfl, (by rw [X4_whyNotCome_r, if_pos c_3, if_neg c_6]), by rw [ht]; exact hP9, hD9⟩, hS.F ht⟩) hS.2.2 dX4_whyNotCome_20
  · rw [if_neg c_3] at ey_2
    subst ey_2
    refine lv_if_ne (tgt := 9) hx hb dX4_whyNotCome_4 (by decide) (fun c => absurd c (by decide)) (fun _ => ?_)
    refine lv_iconst (v := (-1)) hx hb dX4_whyNotCome_7 (by decide +kernel) ?_
    subst hQ
    have hP9 : kz_P G [mdW G a (va_up (va_up M 6 (fun _ => (X4_whyNotCome_c6 (M 0) (M 6 0) (M 7 0) q z))) 7 (fun _ => (X4_whyNotCome_c7 (M 0) (M 6 0) (M 7 0) q z)))] s.heap := by rw [X4_whyNotCome_c6, if_neg c_3]; rw [X4_whyNotCome_c7, if_neg c_3]; exact hP
    have hD9 : kz_D A [mdW G a (va_up (va_up M 6 (fun _ => (X4_whyNotCome_c6 (M 0) (M 6 0) (M 7 0) q z))) 7 (fun _ => (X4_whyNotCome_c7 (M 0) (M 6 0) (M 7 0) q z)))] := by rw [X4_whyNotCome_c6, if_neg c_3]; rw [X4_whyNotCome_c7, if_neg c_3]; exact hD
    exact W.iret (v := (-1)) hx hb hr (fun t ht hW => ⟨⟨(-1), (), rfl, (by rw [X4_whyNotCome_r, if_neg c_3]), by rw [ht]; exact hP9, hD9⟩, hS.F ht⟩) hS.2.2 dX4_whyNotCome_8
theorem kz_wnc {z0 : Nat → Int32} {z6 z7 q z : Int32} (h : 0 ≤ X4_whyNotCome_r z0 z6 z7 q z) : X4_in_p z 0 2 ∧ ¬ X4_firstPlace_r z0 (2 * z.toNatClampNeg) 5 = (-6) := by
  rw [X4_whyNotCome_r] at h
  by_cases c1 : X4_isSender_p q
  · rw [if_pos c1] at h
    by_cases c2 : X4_in_p z 0 2
    · rw [if_pos c2] at h
      by_cases c3 : X4_firstPlace_r z0 (2 * z.toNatClampNeg) 5 = (-6)
      · rw [if_pos c3] at h
        exact absurd h (by decide)
      · exact ⟨c2, c3⟩
    · rw [if_neg c2] at h
      exact absurd h (by decide)
  · rw [if_neg c1] at h
    exact absurd h (by decide)

def X4_comes_r (z0 : Nat → Int32) (q : Int32) (z : Int32) : Int32 := (X4_codeOn_r (upd (X4_lay_c0 z0 ((X4_firstPlace_r z0 (2 * z.toNatClampNeg) 5).toNatClampNeg) q z (z0 5)) 7 (((X4_lay_c0 z0 ((X4_firstPlace_r z0 (2 * z.toNatClampNeg) 5).toNatClampNeg) q z (z0 5)) 7) + 1)) ((X4_firstPlace_r z0 (2 * z.toNatClampNeg) 5).toNatClampNeg))
def X4_comes_c0 (z0 : Nat → Int32) (q : Int32) (z : Int32) : Nat → Int32 := (upd (X4_lay_c0 z0 ((X4_firstPlace_r z0 (2 * z.toNatClampNeg) 5).toNatClampNeg) q z (z0 5)) 7 (((X4_lay_c0 z0 ((X4_firstPlace_r z0 (2 * z.toNatClampNeg) 5).toNatClampNeg) q z (z0 5)) 7) + 1))
set_option maxHeartbeats 1000000 in
set_option maxRecDepth 100000 in
theorem c_X4_comes (l : Launch) (G : kz_G) (a : Nat → Nat) (M : kz_S) (q : Int32) (z : Int32) (ht : ∃ d, d < 2 ^ 30 ∧ M 0 5 = nI d) (hzz : X4_in_p z 0 2) (hf : ¬ (X4_firstPlace_r (M 0) (2 * z.toNatClampNeg) 5) = (-6)) : kz_mi l G yX4_comes wsX4_comes 3 66 [.ref (a 0), .int q, .int z] [mdW G a M] [mdW G a (va_up M 0 (X4_comes_c0 (M 0) q z))] (X4_comes_r (M 0) q z) := by
  intro sz
  refine Met.ofW (cc := cX4_comes) (maxL := 4) (ret := (some .int)) (by decide) rfl ?_
  intro p e s m args below meth c s₁ B hml hv
  obtain ⟨rfl, hsz, hP, hK, hD0⟩ := hv
  have hx := B.exec
  have hb := B.bytes
  have hr := B.returns
  have hts := atoms_spec (ws := wsX4_comes) B.pre
  have hown : s.vm.findClass RX4 = some m.cls := findClass_of_methodNamed B.named
  have hlocks := B.notSynchronized
  have hinX4 : ∀ w ∈ u_ws RX4 TX4 14, w ∈ wsX4_comes := by decide +kernel
  subst hsz
  have hD := hD0.self (sz := s.heap.size)
  generalize hAe : kz_A [mdW G a M] s.heap.size = A at hD ⊢
  have hA : ∀ q : Nat, s.heap.size ≤ q → A q := fun q h => by rw [← hAe]; exact Or.inr h
  have hS : va_S A s.heap s.heap [] := va_S.rf
  have hl := lv_entry ([.ref (a 0), .int q, .int z]) (n := 4) (Nat.le_of_ble_eq_true rfl)
  rw [lg_entry_eq]
  generalize (lg_sl ([.ref (a 0), .int q, .int z]) ++ List.replicate (4 - (lg_sl ([.ref (a 0), .int q, .int z])).length) Slot.unset).toArray = ls at hl ⊢
  have hl : lv_has ls 4 [(0, .ref (a 0)), (1, .int q), (2, .int z)] := hl
  refine kz_start (fun QQ hQ => ?_)
  have hP : kz_P G [mdW G a M] s.heap := hP
  have hz := (kz_back (kz_wiIn 2 hzz rfl (by decide)) (by decide)).2
  refine lv_aload_n hx hb dX4_comes_0 rfl (lv_at hl 0 rfl) ?_
  refine lv_iconst (v := 2) hx hb dX4_comes_1 (by decide +kernel) ?_
  refine lv_iload_n hx hb dX4_comes_2 rfl (lv_at hl 2 rfl) ?_
  refine lv_imul hx hb dX4_comes_3 ?_
  refine lv_topi (fun y_1 ey_2 => ?_)
  obtain rfl : y_1 = (nI (2 * z.toNatClampNeg)) := by rw [ey_2]; exact kz_2z hzz
  refine lv_iconst (v := 5) hx hb dX4_comes_4 (by decide +kernel) ?_
  refine kz_rdV (As := [.int (nI (2 * z.toNatClampNeg)), .int 5]) (rest := []) (b := a 0) ⟨hx, hb, hml, hown, hts⟩ (c_X4_firstPlace l G a M (2 * z.toNatClampNeg) 5 (by omega) (by omega) ht) (cwV 2 hts gX4_comes_X4_firstPlace rfl rfl rfl (by decide +kernel) ⟨Nat.le_of_ble_eq_true rfl, Nat.le_of_ble_eq_true rfl⟩) hK hP (kz_recv hK hP (ci := 4) (q0 := 0) rfl rfl) rfl hl.1 rfl (Nat.le_of_ble_eq_true rfl) dX4_comes_5 ⟨Nat.le_of_ble_eq_true rfl, Nat.le_of_ble_eq_true rfl⟩ ?_
  refine lv_istore_n (lv' := [(3, .int (X4_firstPlace_r (M 0) (2 * z.toNatClampNeg) 5)), (0, .ref (a 0)), (1, .int q), (2, .int z)]) hx hb dX4_comes_8 rfl hl (by decide) rfl (fun ls hl => ?_)
  obtain ⟨hcv3, hcl3⟩ := kz_back (kz_fpIn (by omega) hf) (by decide)
  have hl : lv_has ls 4 [(3, .int (nI (X4_firstPlace_r (M 0) (2 * z.toNatClampNeg) 5).toNatClampNeg)), (0, .ref (a 0)), (1, .int q), (2, .int z)] := by rw [← hcv3]; exact hl
  refine lv_aload_n hx hb dX4_comes_9 rfl (lv_at hl 1 rfl) ?_
  refine lv_iload_n hx hb dX4_comes_10 rfl (lv_at hl 0 rfl) ?_
  refine lv_iload_n hx hb dX4_comes_11 rfl (lv_at hl 2 rfl) ?_
  refine lv_iload_n hx hb dX4_comes_12 rfl (lv_at hl 3 rfl) ?_
  refine lv_aload_n hx hb dX4_comes_13 rfl (lv_at hl 1 rfl) ?_
  refine va_get (D := G.1) (ci := 4) (v := .ref (a 1)) (C := RX4) (T := TX4) (N := 14) hx hb hts hinX4 hown hK.1 hP 0 rfl rfl 0 (by decide) (hts (.fieldLink RX4 7 "ParcelShelvesModel" "z" "[I") (by decide +kernel)) (fun _ h9 => h9) rfl dX4_comes_14 ?_
  refine lv_iconst (v := 5) hx hb dX4_comes_17 (by decide +kernel) ?_
  refine va_iald (f := (M 0)) hx hb hK.1 hP 1 0 rfl rfl (vp_in_nI (n := 5) (N := 580) (by decide) (by decide)) dX4_comes_18 ?_
  refine lv_topi (fun y_4 ey_5 => ?_)
  obtain rfl : y_4 = ((M 0) 5) := by rw [ey_5]; rfl
  refine kz_mvV (As := [.int (nI (X4_firstPlace_r (M 0) (2 * z.toNatClampNeg) 5).toNatClampNeg), .int q, .int z, .int ((M 0) 5)]) (rest := []) (b := a 0) (wr := []) (bs' := [mdW G a (va_up M 0 (X4_lay_c0 (M 0) ((X4_firstPlace_r (M 0) (2 * z.toNatClampNeg) 5).toNatClampNeg) q z ((M 0) 5)))]) ⟨hx, hb, hml, hown, hts⟩ (c_X4_lay l G a M ((X4_firstPlace_r (M 0) (2 * z.toNatClampNeg) 5).toNatClampNeg) q z ((M 0) 5) (by omega)) (cwV 4 hts gX4_comes_X4_lay rfl rfl rfl (by decide +kernel) ⟨Nat.le_of_ble_eq_true rfl, Nat.le_of_ble_eq_true rfl⟩) hK hP hD hS hA [0] [] [0] rfl (by decide) rfl (by decide) (by decide) rfl (by decide) (kz_recv hK hP (ci := 4) (q0 := 0) rfl rfl) rfl hl.1 rfl (Nat.le_of_ble_eq_true rfl) dX4_comes_19 ⟨Nat.le_of_ble_eq_true rfl, Nat.le_of_ble_eq_true rfl⟩ (fun H locs hP hD hS => ?_)
  refine lv_aload_n hx hb dX4_comes_22 rfl (lv_at hl 1 rfl) ?_
  refine va_get (D := G.1) (ci := 4) (v := .ref (a 1)) (C := RX4) (T := TX4) (N := 14) hx hb hts hinX4 hown hK.1 hP 0 rfl rfl 0 (by decide) (hts (.fieldLink RX4 7 "ParcelShelvesModel" "z" "[I") (by decide +kernel)) (fun _ h9 => h9) rfl dX4_comes_23 ?_
  refine lv_bipush (v := 7) hx hb dX4_comes_26 (by decide +kernel) ?_
  refine lv_dup2_11 hx hb dX4_comes_28 rfl rfl ?_
  refine va_iald (f := (X4_lay_c0 (M 0) ((X4_firstPlace_r (M 0) (2 * z.toNatClampNeg) 5).toNatClampNeg) q z ((M 0) 5))) hx hb hK.1 hP 1 0 rfl rfl (vp_in_nI (n := 7) (N := 580) (by decide) (by decide)) dX4_comes_29 ?_
  refine lv_topi (fun y_6 ey_7 => ?_)
  obtain rfl : y_6 = ((X4_lay_c0 (M 0) ((X4_firstPlace_r (M 0) (2 * z.toNatClampNeg) 5).toNatClampNeg) q z ((M 0) 5)) 7) := by rw [ey_7]; rfl
  refine lv_iconst (v := 1) hx hb dX4_comes_30 (by decide +kernel) ?_
  refine lv_iadd hx hb dX4_comes_31 ?_
  refine va_iast hx hb hK.1 hP hD hS 1 0 rfl rfl (vp_in_nI (n := 7) (N := 580) (by decide) (by decide)) dX4_comes_32 (fun H locs hP hD hS => ?_)
  have hP : kz_P G [mdW G a (va_up M 0 (upd (X4_lay_c0 (M 0) ((X4_firstPlace_r (M 0) (2 * z.toNatClampNeg) 5).toNatClampNeg) q z ((M 0) 5)) 7 (((X4_lay_c0 (M 0) ((X4_firstPlace_r (M 0) (2 * z.toNatClampNeg) 5).toNatClampNeg) q z ((M 0) 5)) 7) + 1)))] H := hP
  have hD : kz_D A [mdW G a (va_up M 0 (upd (X4_lay_c0 (M 0) ((X4_firstPlace_r (M 0) (2 * z.toNatClampNeg) 5).toNatClampNeg) q z ((M 0) 5)) 7 (((X4_lay_c0 (M 0) ((X4_firstPlace_r (M 0) (2 * z.toNatClampNeg) 5).toNatClampNeg) q z ((M 0) 5)) 7) + 1)))] := hD
  refine lv_aload_n hx hb dX4_comes_33 rfl (lv_at hl 1 rfl) ?_
  refine lv_iload_n hx hb dX4_comes_34 rfl (lv_at hl 0 rfl) ?_
  refine kz_rdV (As := [.int (nI (X4_firstPlace_r (M 0) (2 * z.toNatClampNeg) 5).toNatClampNeg)]) (rest := []) (b := a 0) ⟨hx, hb, hml, hown, hts⟩ (c_X4_codeOn l G a (va_up M 0 (upd (X4_lay_c0 (M 0) ((X4_firstPlace_r (M 0) (2 * z.toNatClampNeg) 5).toNatClampNeg) q z ((M 0) 5)) 7 (((X4_lay_c0 (M 0) ((X4_firstPlace_r (M 0) (2 * z.toNatClampNeg) 5).toNatClampNeg) q z ((M 0) 5)) 7) + 1))) ((X4_firstPlace_r (M 0) (2 * z.toNatClampNeg) 5).toNatClampNeg) (by omega)) (cwV 1 hts gX4_comes_X4_codeOn rfl rfl rfl (by decide +kernel) ⟨Nat.le_of_ble_eq_true rfl, Nat.le_of_ble_eq_true rfl⟩) hK hP (kz_recv hK hP (ci := 4) (q0 := 0) rfl rfl) rfl hl.1 rfl (Nat.le_of_ble_eq_true rfl) dX4_comes_35 ⟨Nat.le_of_ble_eq_true rfl, Nat.le_of_ble_eq_true rfl⟩ ?_
  subst hQ
  have hP9 : kz_P G [mdW G a (va_up M 0 (X4_comes_c0 (M 0) q z))] H := hP
  have hD9 : kz_D A [mdW G a (va_up M 0 (X4_comes_c0 (M 0) q z))] := hD
  exact W.iret (v := (X4_codeOn_r (upd (X4_lay_c0 (M 0) ((X4_firstPlace_r (M 0) (2 * z.toNatClampNeg) 5).toNatClampNeg) q z ((M 0) 5)) 7 (((X4_lay_c0 (M 0) ((X4_firstPlace_r (M 0) (2 * z.toNatClampNeg) 5).toNatClampNeg) q z ((M 0) 5)) 7) + 1)) ((X4_firstPlace_r (M 0) (2 * z.toNatClampNeg) 5).toNatClampNeg))) hx hb hr (fun t ht hW => ⟨⟨(X4_codeOn_r (upd (X4_lay_c0 (M 0) ((X4_firstPlace_r (M 0) (2 * z.toNatClampNeg) 5).toNatClampNeg) q z ((M 0) 5)) 7 (((X4_lay_c0 (M 0) ((X4_firstPlace_r (M 0) (2 * z.toNatClampNeg) 5).toNatClampNeg) q z ((M 0) 5)) 7) + 1)) ((X4_firstPlace_r (M 0) (2 * z.toNatClampNeg) 5).toNatClampNeg)), (), rfl, rfl, by rw [ht]; exact hP9, hD9⟩, hS.F ht⟩) hS.2.2 dX4_comes_38
def X4_come_r (z0 : Nat → Int32) (z1 : Nat → Int32) (z2 : Int32) (z6 : Int32) (z7 : Int32) (q : Int32) (z : Int32) : Int32 := if 0 ≤ (X4_whyNotCome_r z0 z6 z7 q z) then (X4_comes_r z0 q z) else (X4_whyNotCome_r z0 z6 z7 q z)
def X4_come_c0 (z0 : Nat → Int32) (z1 : Nat → Int32) (z2 : Int32) (z6 : Int32) (z7 : Int32) (q : Int32) (z : Int32) : Nat → Int32 := if 0 ≤ (X4_whyNotCome_r z0 z6 z7 q z) then (X4_comes_c0 z0 q z) else z0
def X4_come_c1 (z0 : Nat → Int32) (z1 : Nat → Int32) (z2 : Int32) (z6 : Int32) (z7 : Int32) (q : Int32) (z : Int32) : Nat → Int32 := if 0 ≤ (X4_whyNotCome_r z0 z6 z7 q z) then (X4_record_c1 z0 z1 z2) else z1
def X4_come_c2 (z0 : Nat → Int32) (z1 : Nat → Int32) (z2 : Int32) (z6 : Int32) (z7 : Int32) (q : Int32) (z : Int32) : Int32 := if 0 ≤ (X4_whyNotCome_r z0 z6 z7 q z) then (X4_record_c2 z0 z1 z2) else z2
def X4_come_c6 (z0 : Nat → Int32) (z1 : Nat → Int32) (z2 : Int32) (z6 : Int32) (z7 : Int32) (q : Int32) (z : Int32) : Int32 := if 0 ≤ (X4_whyNotCome_r z0 z6 z7 q z) then (X4_whyNotCome_c6 z0 z6 z7 q z) else (X4_whyNotCome_c6 z0 z6 z7 q z)
def X4_come_c7 (z0 : Nat → Int32) (z1 : Nat → Int32) (z2 : Int32) (z6 : Int32) (z7 : Int32) (q : Int32) (z : Int32) : Int32 := if 0 ≤ (X4_whyNotCome_r z0 z6 z7 q z) then (X4_whyNotCome_c7 z0 z6 z7 q z) else (X4_whyNotCome_c7 z0 z6 z7 q z)
set_option maxHeartbeats 1000000 in
set_option maxRecDepth 100000 in
theorem c_X4_come (l : Launch) (G : kz_G) (a : Nat → Nat) (M : kz_S) (q : Int32) (z : Int32) (ht : ∃ d, d < 2 ^ 30 ∧ M 0 5 = nI d) (hpm : ∃ n, n ≤ 5 ∧ M 2 0 = nI n) : kz_mi l G yX4_come wsX4_come 4 89 [.ref (a 0), .int q, .int z] [mdW G a M] [mdW G a (va_up (va_up (va_up (va_up (va_up M 0 (X4_come_c0 (M 0) (M 1) (M 2 0) (M 6 0) (M 7 0) q z)) 1 (X4_come_c1 (M 0) (M 1) (M 2 0) (M 6 0) (M 7 0) q z)) 2 (fun _ => (X4_come_c2 (M 0) (M 1) (M 2 0) (M 6 0) (M 7 0) q z))) 6 (fun _ => (X4_come_c6 (M 0) (M 1) (M 2 0) (M 6 0) (M 7 0) q z))) 7 (fun _ => (X4_come_c7 (M 0) (M 1) (M 2 0) (M 6 0) (M 7 0) q z)))] (X4_come_r (M 0) (M 1) (M 2 0) (M 6 0) (M 7 0) q z) := by
  intro sz
  refine Met.ofW (cc := cX4_come) (maxL := 4) (ret := (some .int)) (by decide) rfl ?_
  intro p e s m args below meth c s₁ B hml hv
  obtain ⟨rfl, hsz, hP, hK, hD0⟩ := hv
  have hx := B.exec
  have hb := B.bytes
  have hr := B.returns
  have hts := atoms_spec (ws := wsX4_come) B.pre
  have hown : s.vm.findClass RX4 = some m.cls := findClass_of_methodNamed B.named
  have hlocks := B.notSynchronized
  subst hsz
  have hD := hD0.self (sz := s.heap.size)
  generalize hAe : kz_A [mdW G a M] s.heap.size = A at hD ⊢
  have hA : ∀ q : Nat, s.heap.size ≤ q → A q := fun q h => by rw [← hAe]; exact Or.inr h
  have hS : va_S A s.heap s.heap [] := va_S.rf
  have hl := lv_entry ([.ref (a 0), .int q, .int z]) (n := 4) (Nat.le_of_ble_eq_true rfl)
  rw [lg_entry_eq]
  generalize (lg_sl ([.ref (a 0), .int q, .int z]) ++ List.replicate (4 - (lg_sl ([.ref (a 0), .int q, .int z])).length) Slot.unset).toArray = ls at hl ⊢
  have hl : lv_has ls 4 [(0, .ref (a 0)), (1, .int q), (2, .int z)] := hl
  refine kz_start (fun QQ hQ => ?_)
  have hP : kz_P G [mdW G a M] s.heap := hP
  refine lv_aload_n hx hb dX4_come_0 rfl (lv_at hl 0 rfl) ?_
  refine lv_iload_n hx hb dX4_come_1 rfl (lv_at hl 1 rfl) ?_
  refine lv_iload_n hx hb dX4_come_2 rfl (lv_at hl 2 rfl) ?_
  refine kz_miV (As := [.int q, .int z]) (rest := []) (b := a 0) (wr := []) (bs' := [mdW G a (va_up (va_up M 6 (fun _ => (X4_whyNotCome_c6 (M 0) (M 6 0) (M 7 0) q z))) 7 (fun _ => (X4_whyNotCome_c7 (M 0) (M 6 0) (M 7 0) q z)))]) ⟨hx, hb, hml, hown, hts⟩ (c_X4_whyNotCome l G a M q z ht) (cwV 2 hts gX4_come_X4_whyNotCome rfl rfl rfl (by decide +kernel) ⟨Nat.le_of_ble_eq_true rfl, Nat.le_of_ble_eq_true rfl⟩) hK hP hD hS hA [0] [] [0] rfl (by decide) rfl (by decide) (by decide) rfl (by decide) (kz_recv hK hP (ci := 4) (q0 := 0) rfl rfl) rfl hl.1 rfl (Nat.le_of_ble_eq_true rfl) dX4_come_3 ⟨Nat.le_of_ble_eq_true rfl, Nat.le_of_ble_eq_true rfl⟩ (fun H locs hP hD hS => ?_)
  refine lv_istore_n (lv' := [(3, .int (X4_whyNotCome_r (M 0) (M 6 0) (M 7 0) q z)), (0, .ref (a 0)), (1, .int q), (2, .int z)]) hx hb dX4_come_6 rfl hl (by decide) rfl (fun ls hl => ?_)
  refine lv_iload_n hx hb dX4_come_7 rfl (lv_at hl 0 rfl) ?_
  refine lv_if_ge (tgt := 13) hx hb dX4_come_8 (by decide) (fun c_1 => ?_) (fun c_1 => ?_)
  · have hwn := kz_wnc c_1
    refine lv_aload_n hx hb dX4_come_13 rfl (lv_at hl 1 rfl) ?_
    refine kz_mvV (As := []) (rest := []) (b := a 0) (wr := []) (bs' := [mdW G a (va_up (va_up (va_up (va_up M 6 (fun _ => (X4_whyNotCome_c6 (M 0) (M 6 0) (M 7 0) q z))) 7 (fun _ => (X4_whyNotCome_c7 (M 0) (M 6 0) (M 7 0) q z))) 1 (X4_record_c1 (M 0) (M 1) (M 2 0))) 2 (fun _ => (X4_record_c2 (M 0) (M 1) (M 2 0))))]) ⟨hx, hb, hml, hown, hts⟩ (c_X4_record l G a (va_up (va_up M 6 (fun _ => (X4_whyNotCome_c6 (M 0) (M 6 0) (M 7 0) q z))) 7 (fun _ => (X4_whyNotCome_c7 (M 0) (M 6 0) (M 7 0) q z))) hpm) (cwV 0 hts gX4_come_X4_record rfl rfl rfl (by decide +kernel) ⟨Nat.le_of_ble_eq_true rfl, Nat.le_of_ble_eq_true rfl⟩) hK hP hD hS hA [0] [] [0] rfl (by decide) rfl (by decide) (by decide) rfl (by decide) (kz_recv hK hP (ci := 4) (q0 := 0) rfl rfl) rfl hl.1 rfl (Nat.le_of_ble_eq_true rfl) dX4_come_14 ⟨Nat.le_of_ble_eq_true rfl, Nat.le_of_ble_eq_true rfl⟩ (fun H locs hP hD hS => ?_)
    refine lv_aload_n hx hb dX4_come_17 rfl (lv_at hl 1 rfl) ?_
    refine lv_iload_n hx hb dX4_come_18 rfl (lv_at hl 2 rfl) ?_
    refine lv_iload_n hx hb dX4_come_19 rfl (lv_at hl 3 rfl) ?_
    refine kz_miV (As := [.int q, .int z]) (rest := []) (b := a 0) (wr := []) (bs' := [mdW G a (va_up (va_up (va_up (va_up (va_up M 6 (fun _ => (X4_whyNotCome_c6 (M 0) (M 6 0) (M 7 0) q z))) 7 (fun _ => (X4_whyNotCome_c7 (M 0) (M 6 0) (M 7 0) q z))) 1 (X4_record_c1 (M 0) (M 1) (M 2 0))) 2 (fun _ => (X4_record_c2 (M 0) (M 1) (M 2 0)))) 0 (X4_comes_c0 (M 0) q z))]) ⟨hx, hb, hml, hown, hts⟩ (c_X4_comes l G a (va_up (va_up (va_up (va_up M 6 (fun _ => (X4_whyNotCome_c6 (M 0) (M 6 0) (M 7 0) q z))) 7 (fun _ => (X4_whyNotCome_c7 (M 0) (M 6 0) (M 7 0) q z))) 1 (X4_record_c1 (M 0) (M 1) (M 2 0))) 2 (fun _ => (X4_record_c2 (M 0) (M 1) (M 2 0)))) q z ht hwn.1 hwn.2) (cwV 2 hts gX4_come_X4_comes rfl rfl rfl (by decide +kernel) ⟨Nat.le_of_ble_eq_true rfl, Nat.le_of_ble_eq_true rfl⟩) hK hP hD hS hA [0] [] [0] rfl (by decide) rfl (by decide) (by decide) rfl (by decide) (kz_recv hK hP (ci := 4) (q0 := 0) rfl rfl) rfl hl.1 rfl (Nat.le_of_ble_eq_true rfl) dX4_come_20 ⟨Nat.le_of_ble_eq_true rfl, Nat.le_of_ble_eq_true rfl⟩ (fun H locs hP hD hS => ?_)
    subst hQ
    have hP9 : kz_P G [mdW G a (va_up (va_up (va_up (va_up (va_up M 0 (X4_come_c0 (M 0) (M 1) (M 2 0) (M 6 0) (M 7 0) q z)) 1 (X4_come_c1 (M 0) (M 1) (M 2 0) (M 6 0) (M 7 0) q z)) 2 (fun _ => (X4_come_c2 (M 0) (M 1) (M 2 0) (M 6 0) (M 7 0) q z))) 6 (fun _ => (X4_come_c6 (M 0) (M 1) (M 2 0) (M 6 0) (M 7 0) q z))) 7 (fun _ => (X4_come_c7 (M 0) (M 1) (M 2 0) (M 6 0) (M 7 0) q z)))] H := by rw [X4_come_c0, if_pos c_1]; rw [X4_come_c1, if_pos c_1]; rw [X4_come_c2, if_pos c_1]; rw [X4_come_c6, if_pos c_1]; rw [X4_come_c7, if_pos c_1]; exact hP
    have hD9 : kz_D A [mdW G a (va_up (va_up (va_up (va_up (va_up M 0 (X4_come_c0 (M 0) (M 1) (M 2 0) (M 6 0) (M 7 0) q z)) 1 (X4_come_c1 (M 0) (M 1) (M 2 0) (M 6 0) (M 7 0) q z)) 2 (fun _ => (X4_come_c2 (M 0) (M 1) (M 2 0) (M 6 0) (M 7 0) q z))) 6 (fun _ => (X4_come_c6 (M 0) (M 1) (M 2 0) (M 6 0) (M 7 0) q z))) 7 (fun _ => (X4_come_c7 (M 0) (M 1) (M 2 0) (M 6 0) (M 7 0) q z)))] := by rw [X4_come_c0, if_pos c_1]; rw [X4_come_c1, if_pos c_1]; rw [X4_come_c2, if_pos c_1]; rw [X4_come_c6, if_pos c_1]; rw [X4_come_c7, if_pos c_1]; exact hD
    exact W.iret (v := (X4_comes_r (M 0) q z)) hx hb hr (fun t ht hW => ⟨⟨(X4_comes_r (M 0) q z), (), rfl, (by rw [X4_come_r, if_pos c_1]), by rw [ht]; exact hP9, hD9⟩, hS.F ht⟩) hS.2.2 dX4_come_23
  · refine lv_iload_n hx hb dX4_come_11 rfl (lv_at hl 0 rfl) ?_
    subst hQ
    have hP9 : kz_P G [mdW G a (va_up (va_up (va_up (va_up (va_up M 0 (X4_come_c0 (M 0) (M 1) (M 2 0) (M 6 0) (M 7 0) q z)) 1 (X4_come_c1 (M 0) (M 1) (M 2 0) (M 6 0) (M 7 0) q z)) 2 (fun _ => (X4_come_c2 (M 0) (M 1) (M 2 0) (M 6 0) (M 7 0) q z))) 6 (fun _ => (X4_come_c6 (M 0) (M 1) (M 2 0) (M 6 0) (M 7 0) q z))) 7 (fun _ => (X4_come_c7 (M 0) (M 1) (M 2 0) (M 6 0) (M 7 0) q z)))] H := by rw [X4_come_c0, if_neg c_1]; rw [X4_come_c1, if_neg c_1]; rw [X4_come_c2, if_neg c_1]; rw [X4_come_c6, if_neg c_1]; rw [X4_come_c7, if_neg c_1]; exact hP
    have hD9 : kz_D A [mdW G a (va_up (va_up (va_up (va_up (va_up M 0 (X4_come_c0 (M 0) (M 1) (M 2 0) (M 6 0) (M 7 0) q z)) 1 (X4_come_c1 (M 0) (M 1) (M 2 0) (M 6 0) (M 7 0) q z)) 2 (fun _ => (X4_come_c2 (M 0) (M 1) (M 2 0) (M 6 0) (M 7 0) q z))) 6 (fun _ => (X4_come_c6 (M 0) (M 1) (M 2 0) (M 6 0) (M 7 0) q z))) 7 (fun _ => (X4_come_c7 (M 0) (M 1) (M 2 0) (M 6 0) (M 7 0) q z)))] := by rw [X4_come_c0, if_neg c_1]; rw [X4_come_c1, if_neg c_1]; rw [X4_come_c2, if_neg c_1]; rw [X4_come_c6, if_neg c_1]; rw [X4_come_c7, if_neg c_1]; exact hD
    exact W.iret (v := (X4_whyNotCome_r (M 0) (M 6 0) (M 7 0) q z)) hx hb hr (fun t ht hW => ⟨⟨(X4_whyNotCome_r (M 0) (M 6 0) (M 7 0) q z), (), rfl, (by rw [X4_come_r, if_neg c_1]), by rw [ht]; exact hP9, hD9⟩, hS.F ht⟩) hS.2.2 dX4_come_12
def X4_whyNotFetch_r (z0 : Nat → Int32) (z6 : Int32) (z7 : Int32) (code : Int32) : Int32 := if X4_in_p code 0 9999 then (if X4_isLocked_p z0 then (-3) else 0) else (-2)
def X4_whyNotFetch_c6 (z0 : Nat → Int32) (z6 : Int32) (z7 : Int32) (code : Int32) : Int32 := if X4_in_p code 0 9999 then (if X4_isLocked_p z0 then (X4_refuseBy_c6 2 (-6) (-3)) else z6) else z6
def X4_whyNotFetch_c7 (z0 : Nat → Int32) (z6 : Int32) (z7 : Int32) (code : Int32) : Int32 := if X4_in_p code 0 9999 then (if X4_isLocked_p z0 then (X4_refuseBy_c7 2 (-6) (-3)) else z7) else z7
set_option maxHeartbeats 1000000 in
set_option maxRecDepth 100000 in
theorem c_X4_whyNotFetch (l : Launch) (G : kz_G) (a : Nat → Nat) (M : kz_S) (code : Int32) : kz_mi l G yX4_whyNotFetch wsX4_whyNotFetch 1 23 [.ref (a 0), .int code] [mdW G a M] [mdW G a (va_up (va_up M 6 (fun _ => (X4_whyNotFetch_c6 (M 0) (M 6 0) (M 7 0) code))) 7 (fun _ => (X4_whyNotFetch_c7 (M 0) (M 6 0) (M 7 0) code)))] (X4_whyNotFetch_r (M 0) (M 6 0) (M 7 0) code) := by
  intro sz
  refine Met.ofW (cc := cX4_whyNotFetch) (maxL := 2) (ret := (some .int)) (by decide) rfl ?_
  intro p e s m args below meth c s₁ B hml hv
  obtain ⟨rfl, hsz, hP, hK, hD0⟩ := hv
  have hx := B.exec
  have hb := B.bytes
  have hr := B.returns
  have hts := atoms_spec (ws := wsX4_whyNotFetch) B.pre
  have hown : s.vm.findClass RX4 = some m.cls := findClass_of_methodNamed B.named
  have hlocks := B.notSynchronized
  subst hsz
  have hD := hD0.self (sz := s.heap.size)
  generalize hAe : kz_A [mdW G a M] s.heap.size = A at hD ⊢
  have hA : ∀ q : Nat, s.heap.size ≤ q → A q := fun q h => by rw [← hAe]; exact Or.inr h
  have hS : va_S A s.heap s.heap [] := va_S.rf
  have hl := lv_entry ([.ref (a 0), .int code]) (n := 2) (Nat.le_of_ble_eq_true rfl)
  rw [lg_entry_eq]
  generalize (lg_sl ([.ref (a 0), .int code]) ++ List.replicate (2 - (lg_sl ([.ref (a 0), .int code])).length) Slot.unset).toArray = ls at hl ⊢
  have hl : lv_has ls 2 [(0, .ref (a 0)), (1, .int code)] := hl
  refine kz_start (fun QQ hQ => ?_)
  have hP : kz_P G [mdW G a M] s.heap := hP
  refine lv_iload_n hx hb dX4_whyNotFetch_0 rfl (lv_at hl 1 rfl) ?_
  refine lv_iconst (v := 0) hx hb dX4_whyNotFetch_1 (by decide +kernel) ?_
  refine lv_sipush (v := 9999) hx hb dX4_whyNotFetch_2 (by decide +kernel) ?_
  refine kz_rdS (As := [.int code, .int 0, .int 9999]) (rest := []) ⟨hx, hb, hml, hown, hts⟩ (c_X4_in l G code 0 9999) (va_cwS 3 hts gX4_whyNotFetch_X4_in rfl rfl rfl (by decide +kernel) ⟨Nat.le_of_ble_eq_true rfl, Nat.le_of_ble_eq_true rfl⟩) hK (hP.sub (cs := []) [] rfl) rfl hl.1 rfl (Nat.le_of_ble_eq_true rfl) dX4_whyNotFetch_5 ⟨Nat.le_of_ble_eq_true rfl, Nat.le_of_ble_eq_true rfl⟩ ?_
  refine lv_topi (fun y_1 ey_2 => ?_)
  by_cases c_3 : X4_in_p code 0 9999
  · rw [if_pos c_3] at ey_2
    subst ey_2
    refine lv_if_ne (tgt := 14) hx hb dX4_whyNotFetch_8 (by decide) (fun _ => ?_) (fun c => absurd c (by decide))
    refine lv_aload_n hx hb dX4_whyNotFetch_14 rfl (lv_at hl 0 rfl) ?_
    refine kz_rdV (As := []) (rest := []) (b := a 0) ⟨hx, hb, hml, hown, hts⟩ (c_X4_isLocked l G a M) (cwV 0 hts gX4_whyNotFetch_X4_isLocked rfl rfl rfl (by decide +kernel) ⟨Nat.le_of_ble_eq_true rfl, Nat.le_of_ble_eq_true rfl⟩) hK hP (kz_recv hK hP (ci := 4) (q0 := 0) rfl rfl) rfl hl.1 rfl (Nat.le_of_ble_eq_true rfl) dX4_whyNotFetch_15 ⟨Nat.le_of_ble_eq_true rfl, Nat.le_of_ble_eq_true rfl⟩ ?_
    refine lv_topi (fun y_4 ey_5 => ?_)
    by_cases c_6 : X4_isLocked_p (M 0)
    · rw [if_pos c_6] at ey_5
      subst ey_5
      refine lv_if_eq (tgt := 33) hx hb dX4_whyNotFetch_18 (by decide) (fun c => absurd c (by decide)) (fun _ => ?_)
      refine lv_aload_n hx hb dX4_whyNotFetch_21 rfl (lv_at hl 0 rfl) ?_
      refine lv_iconst (v := 2) hx hb dX4_whyNotFetch_22 (by decide +kernel) ?_
      refine lv_bipush (v := (-6)) hx hb dX4_whyNotFetch_23 (by decide +kernel) ?_
      refine lv_bipush (v := (-3)) hx hb dX4_whyNotFetch_25 (by decide +kernel) ?_
      refine kz_miV (As := [.int 2, .int (-6), .int (-3)]) (rest := []) (b := a 0) (wr := []) (bs' := [mdW G a (va_up (va_up M 6 (fun _ => (X4_refuseBy_c6 2 (-6) (-3)))) 7 (fun _ => (X4_refuseBy_c7 2 (-6) (-3))))]) ⟨hx, hb, hml, hown, hts⟩ (c_X4_refuseBy l G a M 2 (-6) (-3)) (cwV 3 hts gX4_whyNotFetch_X4_refuseBy rfl rfl rfl (by decide +kernel) ⟨Nat.le_of_ble_eq_true rfl, Nat.le_of_ble_eq_true rfl⟩) hK hP hD hS hA [0] [] [0] rfl (by decide) rfl (by decide) (by decide) rfl (by decide) (kz_recv hK hP (ci := 4) (q0 := 0) rfl rfl) rfl hl.1 rfl (Nat.le_of_ble_eq_true rfl) dX4_whyNotFetch_27 ⟨Nat.le_of_ble_eq_true rfl, Nat.le_of_ble_eq_true rfl⟩ (fun H locs hP hD hS => ?_)
      refine lv_goto (tgt := 34) hx hb dX4_whyNotFetch_30 (by decide) ?_
      subst hQ
      have hP9 : kz_P G [mdW G a (va_up (va_up M 6 (fun _ => (X4_whyNotFetch_c6 (M 0) (M 6 0) (M 7 0) code))) 7 (fun _ => (X4_whyNotFetch_c7 (M 0) (M 6 0) (M 7 0) code)))] H := by rw [X4_whyNotFetch_c6, if_pos c_3, if_pos c_6]; rw [X4_whyNotFetch_c7, if_pos c_3, if_pos c_6]; exact hP
      have hD9 : kz_D A [mdW G a (va_up (va_up M 6 (fun _ => (X4_whyNotFetch_c6 (M 0) (M 6 0) (M 7 0) code))) 7 (fun _ => (X4_whyNotFetch_c7 (M 0) (M 6 0) (M 7 0) code)))] := by rw [X4_whyNotFetch_c6, if_pos c_3, if_pos c_6]; rw [X4_whyNotFetch_c7, if_pos c_3, if_pos c_6]; exact hD
      exact W.iret (v := (-3)) hx hb hr (fun t ht hW => ⟨⟨(-3), (), rfl, (by rw [X4_whyNotFetch_r, if_pos c_3, if_pos c_6]), by rw [ht]; exact hP9, hD9⟩, hS.F ht⟩) hS.2.2 dX4_whyNotFetch_34
    · rw [if_neg c_6] at ey_5
      subst ey_5
      refine lv_if_eq (tgt := 33) hx hb dX4_whyNotFetch_18 (by decide) (fun _ => ?_) (fun c => absurd c (by decide))
      refine lv_iconst (v := 0) hx hb dX4_whyNotFetch_33 (by decide +kernel) ?_
      subst hQ
      have hP9 : kz_P G [mdW G a (va_up (va_up M 6 (fun _ => (X4_whyNotFetch_c6 (M 0) (M 6 0) (M 7 0) code))) 7 (fun _ => (X4_whyNotFetch_c7 (M 0) (M 6 0) (M 7 0) code)))] s.heap := by rw [X4_whyNotFetch_c6, if_pos c_3, if_neg c_6]; rw [X4_whyNotFetch_c7, if_pos c_3, if_neg c_6]; exact hP
      have hD9 : kz_D A [mdW G a (va_up (va_up M 6 (fun _ => (X4_whyNotFetch_c6 (M 0) (M 6 0) (M 7 0) code))) 7 (fun _ => (X4_whyNotFetch_c7 (M 0) (M 6 0) (M 7 0) code)))] := by rw [X4_whyNotFetch_c6, if_pos c_3, if_neg c_6]; rw [X4_whyNotFetch_c7, if_pos c_3, if_neg c_6]; exact hD
      exact W.iret (v := 0) hx hb hr (fun t ht hW => ⟨⟨0, (), rfl, (by rw [X4_whyNotFetch_r, if_pos c_3, if_neg c_6]), by rw [ht]; exact hP9, hD9⟩, hS.F ht⟩) hS.2.2 dX4_whyNotFetch_34
  · rw [if_neg c_3] at ey_2
    subst ey_2
    refine lv_if_ne (tgt := 14) hx hb dX4_whyNotFetch_8 (by decide) (fun c => absurd c (by decide)) (fun _ => ?_)
    refine lv_bipush (v := (-2)) hx hb dX4_whyNotFetch_11 (by decide +kernel) ?_
    subst hQ
    have hP9 : kz_P G [mdW G a (va_up (va_up M 6 (fun _ => (X4_whyNotFetch_c6 (M 0) (M 6 0) (M 7 0) code))) 7 (fun _ => (X4_whyNotFetch_c7 (M 0) (M 6 0) (M 7 0) code)))] s.heap := by rw [X4_whyNotFetch_c6, if_neg c_3]; rw [X4_whyNotFetch_c7, if_neg c_3]; exact hP
    have hD9 : kz_D A [mdW G a (va_up (va_up M 6 (fun _ => (X4_whyNotFetch_c6 (M 0) (M 6 0) (M 7 0) code))) 7 (fun _ => (X4_whyNotFetch_c7 (M 0) (M 6 0) (M 7 0) code)))] := by rw [X4_whyNotFetch_c6, if_neg c_3]; rw [X4_whyNotFetch_c7, if_neg c_3]; exact hD
    exact W.iret (v := (-2)) hx hb hr (fun t ht hW => ⟨⟨(-2), (), rfl, (by rw [X4_whyNotFetch_r, if_neg c_3]), by rw [ht]; exact hP9, hD9⟩, hS.F ht⟩) hS.2.2 dX4_whyNotFetch_13
def X4_whyNotRefuse_r (z0 : Nat → Int32) (z6 : Int32) (z7 : Int32) (code : Int32) : Int32 := if (X4_placeBy_r z0 code) = (-6) then (X4_refuseCode_r z0 code) else if (z0 (540 + 4 * (((z0 (12 + 4 * ((X4_placeBy_r z0 code).toNatClampNeg) + 0)) - 1).toNatClampNeg) + 0)) = 9 then (-3) else 0
def X4_whyNotRefuse_c6 (z0 : Nat → Int32) (z6 : Int32) (z7 : Int32) (code : Int32) : Int32 := if (X4_placeBy_r z0 code) = (-6) then (X4_refuseCode_c6 z0 code) else if (z0 (540 + 4 * (((z0 (12 + 4 * ((X4_placeBy_r z0 code).toNatClampNeg) + 0)) - 1).toNatClampNeg) + 0)) = 9 then (X4_refuseBy_c6 3 (-6) (-3)) else z6
def X4_whyNotRefuse_c7 (z0 : Nat → Int32) (z6 : Int32) (z7 : Int32) (code : Int32) : Int32 := if (X4_placeBy_r z0 code) = (-6) then (X4_refuseCode_c7 z0 code) else if (z0 (540 + 4 * (((z0 (12 + 4 * ((X4_placeBy_r z0 code).toNatClampNeg) + 0)) - 1).toNatClampNeg) + 0)) = 9 then (X4_refuseBy_c7 3 (-6) (-3)) else z7
set_option maxHeartbeats 1000000 in
set_option maxRecDepth 100000 in
theorem c_X4_whyNotRefuse (l : Launch) (G : kz_G) (a : Nat → Nat) (M : kz_S) (code : Int32) (hM : kz_M (M 0)) : kz_mi l G yX4_whyNotRefuse wsX4_whyNotRefuse 3 69 [.ref (a 0), .int code] [mdW G a M] [mdW G a (va_up (va_up M 6 (fun _ => (X4_whyNotRefuse_c6 (M 0) (M 6 0) (M 7 0) code))) 7 (fun _ => (X4_whyNotRefuse_c7 (M 0) (M 6 0) (M 7 0) code)))] (X4_whyNotRefuse_r (M 0) (M 6 0) (M 7 0) code) := by
  intro sz
  refine Met.ofW (cc := cX4_whyNotRefuse) (maxL := 3) (ret := (some .int)) (by decide) rfl ?_
  intro p e s m args below meth c s₁ B hml hv
  obtain ⟨rfl, hsz, hP, hK, hD0⟩ := hv
  have hx := B.exec
  have hb := B.bytes
  have hr := B.returns
  have hts := atoms_spec (ws := wsX4_whyNotRefuse) B.pre
  have hown : s.vm.findClass RX4 = some m.cls := findClass_of_methodNamed B.named
  have hlocks := B.notSynchronized
  subst hsz
  have hD := hD0.self (sz := s.heap.size)
  generalize hAe : kz_A [mdW G a M] s.heap.size = A at hD ⊢
  have hA : ∀ q : Nat, s.heap.size ≤ q → A q := fun q h => by rw [← hAe]; exact Or.inr h
  have hS : va_S A s.heap s.heap [] := va_S.rf
  have hl := lv_entry ([.ref (a 0), .int code]) (n := 3) (Nat.le_of_ble_eq_true rfl)
  rw [lg_entry_eq]
  generalize (lg_sl ([.ref (a 0), .int code]) ++ List.replicate (3 - (lg_sl ([.ref (a 0), .int code])).length) Slot.unset).toArray = ls at hl ⊢
  have hl : lv_has ls 3 [(0, .ref (a 0)), (1, .int code)] := hl
  refine kz_start (fun QQ hQ => ?_)
  have hP : kz_P G [mdW G a M] s.heap := hP
  refine lv_aload_n hx hb dX4_whyNotRefuse_0 rfl (lv_at hl 0 rfl) ?_
  refine lv_iload_n hx hb dX4_whyNotRefuse_1 rfl (lv_at hl 1 rfl) ?_
  refine kz_rdV (As := [.int code]) (rest := []) (b := a 0) ⟨hx, hb, hml, hown, hts⟩ (c_X4_placeBy l G a M code) (cwV 1 hts gX4_whyNotRefuse_X4_placeBy rfl rfl rfl (by decide +kernel) ⟨Nat.le_of_ble_eq_true rfl, Nat.le_of_ble_eq_true rfl⟩) hK hP (kz_recv hK hP (ci := 4) (q0 := 0) rfl rfl) rfl hl.1 rfl (Nat.le_of_ble_eq_true rfl) dX4_whyNotRefuse_2 ⟨Nat.le_of_ble_eq_true rfl, Nat.le_of_ble_eq_true rfl⟩ ?_
  refine lv_istore_n (lv' := [(2, .int (X4_placeBy_r (M 0) code)), (0, .ref (a 0)), (1, .int code)]) hx hb dX4_whyNotRefuse_5 rfl hl (by decide) rfl (fun ls hl => ?_)
  refine lv_iload_n hx hb dX4_whyNotRefuse_6 rfl (lv_at hl 0 rfl) ?_
  refine lv_bipush (v := (-6)) hx hb dX4_whyNotRefuse_7 (by decide +kernel) ?_
  refine lv_icmp_ne (tgt := 18) hx hb dX4_whyNotRefuse_9 (by decide) (fun c_1 => ?_) (fun c_1 => ?_)
  · obtain ⟨hcv2, hcl2⟩ := kz_back (kz_pbIn c_1) (by decide)
    have hl : lv_has ls 3 [(2, .int (nI (X4_placeBy_r (M 0) code).toNatClampNeg)), (0, .ref (a 0)), (1, .int code)] := by rw [← hcv2]; exact hl
    have htk := kz_pbT c_1
    have hMp := hM.2 (X4_placeBy_r (M 0) code).toNatClampNeg (by omega)
    refine lv_aload_n hx hb dX4_whyNotRefuse_18 rfl (lv_at hl 1 rfl) ?_
    refine lv_aload_n hx hb dX4_whyNotRefuse_19 rfl (lv_at hl 1 rfl) ?_
    refine lv_iload_n hx hb dX4_whyNotRefuse_20 rfl (lv_at hl 0 rfl) ?_
    refine lv_iconst (v := 0) hx hb dX4_whyNotRefuse_21 (by decide +kernel) ?_
    refine kz_rdV (As := [.int (nI (X4_placeBy_r (M 0) code).toNatClampNeg), .int 0]) (rest := [.ref (a 0)]) (b := a 0) ⟨hx, hb, hml, hown, hts⟩ (c_X4_at l G a M ((X4_placeBy_r (M 0) code).toNatClampNeg) 0 (by omega)) (cwV 2 hts gX4_whyNotRefuse_X4_at rfl rfl rfl (by decide +kernel) ⟨Nat.le_of_ble_eq_true rfl, Nat.le_of_ble_eq_true rfl⟩) hK hP (kz_recv hK hP (ci := 4) (q0 := 0) rfl rfl) rfl hl.1 rfl (Nat.le_of_ble_eq_true rfl) dX4_whyNotRefuse_22 ⟨Nat.le_of_ble_eq_true rfl, Nat.le_of_ble_eq_true rfl⟩ ?_
    refine lv_iconst (v := 1) hx hb dX4_whyNotRefuse_25 (by decide +kernel) ?_
    refine lv_isub hx hb dX4_whyNotRefuse_26 ?_
    refine lv_topi (fun y_3 ey_4 => ?_)
    obtain rfl : y_3 = (nI (((M 0) (12 + 4 * ((X4_placeBy_r (M 0) code).toNatClampNeg) + 0)) - 1).toNatClampNeg) := by rw [ey_4]; exact (kz_back (kz_sdE (rfl) hMp.1 htk) (by decide)).1
    have hk10 : (((M 0) (12 + 4 * ((X4_placeBy_r (M 0) code).toNatClampNeg) + 0)) - 1).toNatClampNeg < 10 := (kz_back (kz_sdE rfl hMp.1 htk) (by decide)).2
    refine lv_iconst (v := 0) hx hb dX4_whyNotRefuse_27 (by decide +kernel) ?_
    refine kz_rdV (As := [.int (nI (((M 0) (12 + 4 * ((X4_placeBy_r (M 0) code).toNatClampNeg) + 0)) - 1).toNatClampNeg), .int 0]) (rest := []) (b := a 0) ⟨hx, hb, hml, hown, hts⟩ (c_X4_ofSender l G a M ((((M 0) (12 + 4 * ((X4_placeBy_r (M 0) code).toNatClampNeg) + 0)) - 1).toNatClampNeg) 0 (by omega)) (cwV 2 hts gX4_whyNotRefuse_X4_ofSender rfl rfl rfl (by decide +kernel) ⟨Nat.le_of_ble_eq_true rfl, Nat.le_of_ble_eq_true rfl⟩) hK hP (kz_recv hK hP (ci := 4) (q0 := 0) rfl rfl) rfl hl.1 rfl (Nat.le_of_ble_eq_true rfl) dX4_whyNotRefuse_28 ⟨Nat.le_of_ble_eq_true rfl, Nat.le_of_ble_eq_true rfl⟩ ?_
    refine lv_bipush (v := 9) hx hb dX4_whyNotRefuse_31 (by decide +kernel) ?_
    refine lv_icmp_ne (tgt := 48) hx hb dX4_whyNotRefuse_33 (by decide) (fun c_5 => ?_) (fun c_5 => ?_)
    · refine lv_iconst (v := 0) hx hb dX4_whyNotRefuse_48 (by decide +kernel) ?_
      subst hQ
      have hP9 : kz_P G [mdW G a (va_up (va_up M 6 (fun _ => (X4_whyNotRefuse_c6 (M 0) (M 6 0) (M 7 0) code))) 7 (fun _ => (X4_whyNotRefuse_c7 (M 0) (M 6 0) (M 7 0) code)))] s.heap := by rw [X4_whyNotRefuse_c6, if_neg c_1, if_neg c_5]; rw [X4_whyNotRefuse_c7, if_neg c_1, if_neg c_5]; exact hP
      have hD9 : kz_D A [mdW G a (va_up (va_up M 6 (fun _ => (X4_whyNotRefuse_c6 (M 0) (M 6 0) (M 7 0) code))) 7 (fun _ => (X4_whyNotRefuse_c7 (M 0) (M 6 0) (M 7 0) code)))] := by rw [X4_whyNotRefuse_c6, if_neg c_1, if_neg c_5]; rw [X4_whyNotRefuse_c7, if_neg c_1, if_neg c_5]; exact hD
      exact W.iret (v := 0) hx hb hr (fun t ht hW => ⟨⟨0, (), rfl, (by rw [X4_whyNotRefuse_r, if_neg c_1, if_neg c_5]), by rw [ht]; exact hP9, hD9⟩, hS.F ht⟩) hS.2.2 dX4_whyNotRefuse_49
    · refine lv_aload_n hx hb dX4_whyNotRefuse_36 rfl (lv_at hl 1 rfl) ?_
      refine lv_iconst (v := 3) hx hb dX4_whyNotRefuse_37 (by decide +kernel) ?_
      refine lv_bipush (v := (-6)) hx hb dX4_whyNotRefuse_38 (by decide +kernel) ?_
      refine lv_bipush (v := (-3)) hx hb dX4_whyNotRefuse_40 (by decide +kernel) ?_
      refine kz_miV (As := [.int 3, .int (-6), .int (-3)]) (rest := []) (b := a 0) (wr := []) (bs' := [mdW G a (va_up (va_up M 6 (fun _ => (X4_refuseBy_c6 3 (-6) (-3)))) 7 (fun _ => (X4_refuseBy_c7 3 (-6) (-3))))]) ⟨hx, hb, hml, hown, hts⟩ (c_X4_refuseBy l G a M 3 (-6) (-3)) (cwV 3 hts gX4_whyNotRefuse_X4_refuseBy rfl rfl rfl (by decide +kernel) ⟨Nat.le_of_ble_eq_true rfl, Nat.le_of_ble_eq_true rfl⟩) hK hP hD hS hA [0] [] [0] rfl (by decide) rfl (by decide) (by decide) rfl (by decide) (kz_recv hK hP (ci := 4) (q0 := 0) rfl rfl) rfl hl.1 rfl (Nat.le_of_ble_eq_true rfl) dX4_whyNotRefuse_42 ⟨Nat.le_of_ble_eq_true rfl, Nat.le_of_ble_eq_true rfl⟩ (fun H locs hP hD hS => ?_)
      refine lv_goto (tgt := 49) hx hb dX4_whyNotRefuse_45 (by decide) ?_
      subst hQ
      have hP9 : kz_P G [mdW G a (va_up (va_up M 6 (fun _ => (X4_whyNotRefuse_c6 (M 0) (M 6 0) (M 7 0) code))) 7 (fun _ => (X4_whyNotRefuse_c7 (M 0) (M 6 0) (M 7 0) code)))] H := by rw [X4_whyNotRefuse_c6, if_neg c_1, if_pos c_5]; rw [X4_whyNotRefuse_c7, if_neg c_1, if_pos c_5]; exact hP
      have hD9 : kz_D A [mdW G a (va_up (va_up M 6 (fun _ => (X4_whyNotRefuse_c6 (M 0) (M 6 0) (M 7 0) code))) 7 (fun _ => (X4_whyNotRefuse_c7 (M 0) (M 6 0) (M 7 0) code)))] := by rw [X4_whyNotRefuse_c6, if_neg c_1, if_pos c_5]; rw [X4_whyNotRefuse_c7, if_neg c_1, if_pos c_5]; exact hD
      exact W.iret (v := (-3)) hx hb hr (fun t ht hW => ⟨⟨(-3), (), rfl, (by rw [X4_whyNotRefuse_r, if_neg c_1, if_pos c_5]), by rw [ht]; exact hP9, hD9⟩, hS.F ht⟩) hS.2.2 dX4_whyNotRefuse_49
  · refine lv_aload_n hx hb dX4_whyNotRefuse_12 rfl (lv_at hl 1 rfl) ?_
    refine lv_iload_n hx hb dX4_whyNotRefuse_13 rfl (lv_at hl 2 rfl) ?_
    refine kz_miV (As := [.int code]) (rest := []) (b := a 0) (wr := []) (bs' := [mdW G a (va_up (va_up M 6 (fun _ => (X4_refuseCode_c6 (M 0) code))) 7 (fun _ => (X4_refuseCode_c7 (M 0) code)))]) ⟨hx, hb, hml, hown, hts⟩ (c_X4_refuseCode l G a M code) (cwV 1 hts gX4_whyNotRefuse_X4_refuseCode rfl rfl rfl (by decide +kernel) ⟨Nat.le_of_ble_eq_true rfl, Nat.le_of_ble_eq_true rfl⟩) hK hP hD hS hA [0] [] [0] rfl (by decide) rfl (by decide) (by decide) rfl (by decide) (kz_recv hK hP (ci := 4) (q0 := 0) rfl rfl) rfl hl.1 rfl (Nat.le_of_ble_eq_true rfl) dX4_whyNotRefuse_14 ⟨Nat.le_of_ble_eq_true rfl, Nat.le_of_ble_eq_true rfl⟩ (fun H locs hP hD hS => ?_)
    subst hQ
    have hP9 : kz_P G [mdW G a (va_up (va_up M 6 (fun _ => (X4_whyNotRefuse_c6 (M 0) (M 6 0) (M 7 0) code))) 7 (fun _ => (X4_whyNotRefuse_c7 (M 0) (M 6 0) (M 7 0) code)))] H := by rw [X4_whyNotRefuse_c6, if_pos c_1]; rw [X4_whyNotRefuse_c7, if_pos c_1]; exact hP
    have hD9 : kz_D A [mdW G a (va_up (va_up M 6 (fun _ => (X4_whyNotRefuse_c6 (M 0) (M 6 0) (M 7 0) code))) 7 (fun _ => (X4_whyNotRefuse_c7 (M 0) (M 6 0) (M 7 0) code)))] := by rw [X4_whyNotRefuse_c6, if_pos c_1]; rw [X4_whyNotRefuse_c7, if_pos c_1]; exact hD
    exact W.iret (v := (X4_refuseCode_r (M 0) code)) hx hb hr (fun t ht hW => ⟨⟨(X4_refuseCode_r (M 0) code), (), rfl, (by rw [X4_whyNotRefuse_r, if_pos c_1]), by rw [ht]; exact hP9, hD9⟩, hS.F ht⟩) hS.2.2 dX4_whyNotRefuse_17
def X4_whyNotMove_r (z0 : Nat → Int32) (z6 : Int32) (z7 : Int32) (code : Int32) (k : Int32) : Int32 := if (X4_placeBy_r z0 code) = (-6) then (X4_refuseCode_r z0 code) else if X4_in_p k 0 5 then (if ((nI (X4_placeBy_r z0 code).toNatClampNeg) / 8) = (nI k.toNatClampNeg) then (-2) else if (z0 (12 + 4 * ((X4_placeBy_r z0 code).toNatClampNeg) + 1)) ≤ ((nI k.toNatClampNeg) / 2) then (if (X4_firstPlace_r z0 k.toNatClampNeg k.toNatClampNeg) = (-6) then (-4) else 0) else (-2)) else (-1)
def X4_whyNotMove_c6 (z0 : Nat → Int32) (z6 : Int32) (z7 : Int32) (code : Int32) (k : Int32) : Int32 := if (X4_placeBy_r z0 code) = (-6) then (X4_refuseCode_c6 z0 code) else if X4_in_p k 0 5 then (if ((nI (X4_placeBy_r z0 code).toNatClampNeg) / 8) = (nI k.toNatClampNeg) then z6 else if (z0 (12 + 4 * ((X4_placeBy_r z0 code).toNatClampNeg) + 1)) ≤ ((nI k.toNatClampNeg) / 2) then (if (X4_firstPlace_r z0 k.toNatClampNeg k.toNatClampNeg) = (-6) then (X4_refusePlace_c6 z0 k.toNatClampNeg k.toNatClampNeg) else z6) else z6) else z6
def X4_whyNotMove_c7 (z0 : Nat → Int32) (z6 : Int32) (z7 : Int32) (code : Int32) (k : Int32) : Int32 := if (X4_placeBy_r z0 code) = (-6) then (X4_refuseCode_c7 z0 code) else if X4_in_p k 0 5 then (if ((nI (X4_placeBy_r z0 code).toNatClampNeg) / 8) = (nI k.toNatClampNeg) then z7 else if (z0 (12 + 4 * ((X4_placeBy_r z0 code).toNatClampNeg) + 1)) ≤ ((nI k.toNatClampNeg) / 2) then (if (X4_firstPlace_r z0 k.toNatClampNeg k.toNatClampNeg) = (-6) then (X4_refusePlace_c7 z0 k.toNatClampNeg k.toNatClampNeg) else z7) else z7) else z7
set_option maxHeartbeats 1000000 in
set_option maxRecDepth 100000 in
theorem c_X4_whyNotMove (l : Launch) (G : kz_G) (a : Nat → Nat) (M : kz_S) (code : Int32) (k : Int32) (hM : kz_M (M 0)) (ht : ∃ d, d < 2 ^ 30 ∧ M 0 5 = nI d) : kz_mi l G yX4_whyNotMove wsX4_whyNotMove 3 69 [.ref (a 0), .int code, .int k] [mdW G a M] [mdW G a (va_up (va_up M 6 (fun _ => (X4_whyNotMove_c6 (M 0) (M 6 0) (M 7 0) code k))) 7 (fun _ => (X4_whyNotMove_c7 (M 0) (M 6 0) (M 7 0) code k)))] (X4_whyNotMove_r (M 0) (M 6 0) (M 7 0) code k) := by
  intro sz
  refine Met.ofW (cc := cX4_whyNotMove) (maxL := 4) (ret := (some .int)) (by decide) rfl ?_
  intro p e s m args below meth c s₁ B hml hv
  obtain ⟨rfl, hsz, hP, hK, hD0⟩ := hv
  have hx := B.exec
  have hb := B.bytes
  have hr := B.returns
  have hts := atoms_spec (ws := wsX4_whyNotMove) B.pre
  have hown : s.vm.findClass RX4 = some m.cls := findClass_of_methodNamed B.named
  have hlocks := B.notSynchronized
  subst hsz
  have hD := hD0.self (sz := s.heap.size)
  generalize hAe : kz_A [mdW G a M] s.heap.size = A at hD ⊢
  have hA : ∀ q : Nat, s.heap.size ≤ q → A q := fun q h => by rw [← hAe]; exact Or.inr h
  have hS : va_S A s.heap s.heap [] := va_S.rf
  have hl := lv_entry ([.ref (a 0), .int code, .int k]) (n := 4) (Nat.le_of_ble_eq_true rfl)
  rw [lg_entry_eq]
  generalize (lg_sl ([.ref (a 0), .int code, .int k]) ++ List.replicate (4 - (lg_sl ([.ref (a 0), .int code, .int k])).length) Slot.unset).toArray = ls at hl ⊢
  have hl : lv_has ls 4 [(0, .ref (a 0)), (1, .int code), (2, .int k)] := hl
  refine kz_start (fun QQ hQ => ?_)
  have hP : kz_P G [mdW G a M] s.heap := hP
  refine lv_aload_n hx hb dX4_whyNotMove_0 rfl (lv_at hl 0 rfl) ?_
  refine lv_iload_n hx hb dX4_whyNotMove_1 rfl (lv_at hl 1 rfl) ?_
  refine kz_rdV (As := [.int code]) (rest := []) (b := a 0) ⟨hx, hb, hml, hown, hts⟩ (c_X4_placeBy l G a M code) (cwV 1 hts gX4_whyNotMove_X4_placeBy rfl rfl rfl (by decide +kernel) ⟨Nat.le_of_ble_eq_true rfl, Nat.le_of_ble_eq_true rfl⟩) hK hP (kz_recv hK hP (ci := 4) (q0 := 0) rfl rfl) rfl hl.1 rfl (Nat.le_of_ble_eq_true rfl) dX4_whyNotMove_2 ⟨Nat.le_of_ble_eq_true rfl, Nat.le_of_ble_eq_true rfl⟩ ?_
  refine lv_istore_n (lv' := [(3, .int (X4_placeBy_r (M 0) code)), (0, .ref (a 0)), (1, .int code), (2, .int k)]) hx hb dX4_whyNotMove_5 rfl hl (by decide) rfl (fun ls hl => ?_)
  refine lv_iload_n hx hb dX4_whyNotMove_6 rfl (lv_at hl 0 rfl) ?_
  refine lv_bipush (v := (-6)) hx hb dX4_whyNotMove_7 (by decide +kernel) ?_
  refine lv_icmp_ne (tgt := 18) hx hb dX4_whyNotMove_9 (by decide) (fun c_1 => ?_) (fun c_1 => ?_)
  · obtain ⟨hcv2, hcl2⟩ := kz_back (kz_pbIn c_1) (by decide)
    have hl : lv_has ls 4 [(3, .int (nI (X4_placeBy_r (M 0) code).toNatClampNeg)), (0, .ref (a 0)), (1, .int code), (2, .int k)] := by rw [← hcv2]; exact hl
    have htk := kz_pbT c_1
    have hMp := hM.2 (X4_placeBy_r (M 0) code).toNatClampNeg (by omega)
    refine lv_iload_n hx hb dX4_whyNotMove_18 rfl (lv_at hl 3 rfl) ?_
    refine lv_iconst (v := 0) hx hb dX4_whyNotMove_19 (by decide +kernel) ?_
    refine lv_iconst (v := 5) hx hb dX4_whyNotMove_20 (by decide +kernel) ?_
    refine kz_rdS (As := [.int k, .int 0, .int 5]) (rest := []) ⟨hx, hb, hml, hown, hts⟩ (c_X4_in l G k 0 5) (va_cwS 3 hts gX4_whyNotMove_X4_in rfl rfl rfl (by decide +kernel) ⟨Nat.le_of_ble_eq_true rfl, Nat.le_of_ble_eq_true rfl⟩) hK (hP.sub (cs := []) [] rfl) rfl hl.1 rfl (Nat.le_of_ble_eq_true rfl) dX4_whyNotMove_21 ⟨Nat.le_of_ble_eq_true rfl, Nat.le_of_ble_eq_true rfl⟩ ?_
    refine lv_topi (fun y_3 ey_4 => ?_)
    by_cases c_5 : X4_in_p k 0 5
    · rw [if_pos c_5] at ey_4
      subst ey_4
      obtain ⟨hcv6, hcl6⟩ := kz_back (kz_wiIn 5 c_5 rfl (by decide)) (by decide)
      have hl : lv_has ls 4 [(3, .int (nI (X4_placeBy_r (M 0) code).toNatClampNeg)), (0, .ref (a 0)), (1, .int code), (2, .int (nI k.toNatClampNeg))] := by rw [← hcv6]; exact hl
      refine lv_if_ne (tgt := 29) hx hb dX4_whyNotMove_24 (by decide) (fun _ => ?_) (fun c => absurd c (by decide))
      refine lv_iload_n hx hb dX4_whyNotMove_29 rfl (lv_at hl 0 rfl) ?_
      refine lv_bipush (v := 8) hx hb dX4_whyNotMove_30 (by decide +kernel) ?_
      refine lv_idiv hx hb dX4_whyNotMove_32 (by decide +kernel) ?_
      refine lv_iload_n hx hb dX4_whyNotMove_33 rfl (lv_at hl 3 rfl) ?_
      refine lv_icmp_eq (tgt := 49) hx hb dX4_whyNotMove_34 (by decide) (fun c_7 => ?_) (fun c_7 => ?_)
      · refine lv_bipush (v := (-2)) hx hb dX4_whyNotMove_49 (by decide +kernel) ?_
        subst hQ
        have hP9 : kz_P G [mdW G a (va_up (va_up M 6 (fun _ => (X4_whyNotMove_c6 (M 0) (M 6 0) (M 7 0) code k))) 7 (fun _ => (X4_whyNotMove_c7 (M 0) (M 6 0) (M 7 0) code k)))] s.heap := by rw [X4_whyNotMove_c6, if_neg c_1, if_pos c_5, if_pos c_7]; rw [X4_whyNotMove_c7, if_neg c_1, if_pos c_5, if_pos c_7]; exact hP
        have hD9 : kz_D A [mdW G a (va_up (va_up M 6 (fun _ => (X4_whyNotMove_c6 (M 0) (M 6 0) (M 7 0) code k))) 7 (fun _ => (X4_whyNotMove_c7 (M 0) (M 6 0) (M 7 0) code k)))] := by rw [X4_whyNotMove_c6, if_neg c_1, if_pos c_5, if_pos c_7]; rw [X4_whyNotMove_c7, if_neg c_1, if_pos c_5, if_pos c_7]; exact hD
        exact W.iret (v := (-2)) hx hb hr (fun t ht hW => ⟨⟨(-2), (), rfl, (by rw [X4_whyNotMove_r, if_neg c_1, if_pos c_5, if_pos c_7]), by rw [ht]; exact hP9, hD9⟩, hS.F ht⟩) hS.2.2 dX4_whyNotMove_51
      · refine lv_aload_n hx hb dX4_whyNotMove_37 rfl (lv_at hl 1 rfl) ?_
        refine lv_iload_n hx hb dX4_whyNotMove_38 rfl (lv_at hl 0 rfl) ?_
        refine lv_iconst (v := 1) hx hb dX4_whyNotMove_39 (by decide +kernel) ?_
        refine kz_rdV (As := [.int (nI (X4_placeBy_r (M 0) code).toNatClampNeg), .int 1]) (rest := []) (b := a 0) ⟨hx, hb, hml, hown, hts⟩ (c_X4_at l G a M ((X4_placeBy_r (M 0) code).toNatClampNeg) 1 (by omega)) (cwV 2 hts gX4_whyNotMove_X4_at rfl rfl rfl (by decide +kernel) ⟨Nat.le_of_ble_eq_true rfl, Nat.le_of_ble_eq_true rfl⟩) hK hP (kz_recv hK hP (ci := 4) (q0 := 0) rfl rfl) rfl hl.1 rfl (Nat.le_of_ble_eq_true rfl) dX4_whyNotMove_40 ⟨Nat.le_of_ble_eq_true rfl, Nat.le_of_ble_eq_true rfl⟩ ?_
        refine lv_iload_n hx hb dX4_whyNotMove_43 rfl (lv_at hl 3 rfl) ?_
        refine lv_iconst (v := 2) hx hb dX4_whyNotMove_44 (by decide +kernel) ?_
        refine lv_idiv hx hb dX4_whyNotMove_45 (by decide +kernel) ?_
        refine lv_icmp_le (tgt := 52) hx hb dX4_whyNotMove_46 (by decide) (fun c_8 => ?_) (fun c_8 => ?_)
        · refine lv_aload_n hx hb dX4_whyNotMove_52 rfl (lv_at hl 1 rfl) ?_
          refine lv_iload_n hx hb dX4_whyNotMove_53 rfl (lv_at hl 3 rfl) ?_
          refine lv_iload_n hx hb dX4_whyNotMove_54 rfl (lv_at hl 3 rfl) ?_
          refine kz_rdV (As := [.int (nI k.toNatClampNeg), .int (nI k.toNatClampNeg)]) (rest := []) (b := a 0) ⟨hx, hb, hml, hown, hts⟩ (c_X4_firstPlace l G a M k.toNatClampNeg k.toNatClampNeg (by omega) (by omega) ht) (cwV 2 hts gX4_whyNotMove_X4_firstPlace rfl rfl rfl (by decide +kernel) ⟨Nat.le_of_ble_eq_true rfl, Nat.le_of_ble_eq_true rfl⟩) hK hP (kz_recv hK hP (ci := 4) (q0 := 0) rfl rfl) rfl hl.1 rfl (Nat.le_of_ble_eq_true rfl) dX4_whyNotMove_55 ⟨Nat.le_of_ble_eq_true rfl, Nat.le_of_ble_eq_true rfl⟩ ?_
          refine lv_bipush (v := (-6)) hx hb dX4_whyNotMove_58 (by decide +kernel) ?_
          refine lv_icmp_ne (tgt := 72) hx hb dX4_whyNotMove_60 (by decide) (fun c_9 => ?_) (fun c_9 => ?_)
          · refine lv_iconst (v := 0) hx hb dX4_whyNotMove_72 (by decide +kernel) ?_
            subst hQ
            have hP9 : kz_P G [mdW G a (va_up (va_up M 6 (fun _ => (X4_whyNotMove_c6 (M 0) (M 6 0) (M 7 0) code k))) 7 (fun _ => (X4_whyNotMove_c7 (M 0) (M 6 0) (M 7 0) code k)))] s.heap := by rw [X4_whyNotMove_c6, if_neg c_1, if_pos c_5, if_neg c_7, if_pos c_8, if_neg c_9]; rw [X4_whyNotMove_c7, if_neg c_1, if_pos c_5, if_neg c_7, if_pos c_8, if_neg c_9]; exact hP
            have hD9 : kz_D A [mdW G a (va_up (va_up M 6 (fun _ => (X4_whyNotMove_c6 (M 0) (M 6 0) (M 7 0) code k))) 7 (fun _ => (X4_whyNotMove_c7 (M 0) (M 6 0) (M 7 0) code k)))] := by rw [X4_whyNotMove_c6, if_neg c_1, if_pos c_5, if_neg c_7, if_pos c_8, if_neg c_9]; rw [X4_whyNotMove_c7, if_neg c_1, if_pos c_5, if_neg c_7, if_pos c_8, if_neg c_9]; exact hD
            exact W.iret (v := 0) hx hb hr (fun t ht hW => ⟨⟨0, (), rfl, (by rw [X4_whyNotMove_r, if_neg c_1, if_pos c_5, if_neg c_7, if_pos c_8, if_neg c_9]), by rw [ht]; exact hP9, hD9⟩, hS.F ht⟩) hS.2.2 dX4_whyNotMove_73
          · refine lv_aload_n hx hb dX4_whyNotMove_63 rfl (lv_at hl 1 rfl) ?_
            refine lv_iload_n hx hb dX4_whyNotMove_64 rfl (lv_at hl 3 rfl) ?_
            refine lv_iload_n hx hb dX4_whyNotMove_65 rfl (lv_at hl 3 rfl) ?_
            refine kz_miV (As := [.int (nI k.toNatClampNeg), .int (nI k.toNatClampNeg)]) (rest := []) (b := a 0) (wr := []) (bs' := [mdW G a (va_up (va_up M 6 (fun _ => (X4_refusePlace_c6 (M 0) k.toNatClampNeg k.toNatClampNeg))) 7 (fun _ => (X4_refusePlace_c7 (M 0) k.toNatClampNeg k.toNatClampNeg)))]) ⟨hx, hb, hml, hown, hts⟩ (c_X4_refusePlace l G a M k.toNatClampNeg k.toNatClampNeg (by omega) (by omega)) (cwV 2 hts gX4_whyNotMove_X4_refusePlace rfl rfl rfl (by decide +kernel) ⟨Nat.le_of_ble_eq_true rfl, Nat.le_of_ble_eq_true rfl⟩) hK hP hD hS hA [0] [] [0] rfl (by decide) rfl (by decide) (by decide) rfl (by decide) (kz_recv hK hP (ci := 4) (q0 := 0) rfl rfl) rfl hl.1 rfl (Nat.le_of_ble_eq_true rfl) dX4_whyNotMove_66 ⟨Nat.le_of_ble_eq_true rfl, Nat.le_of_ble_eq_true rfl⟩ (fun H locs hP hD hS => ?_)
            refine lv_goto (tgt := 73) hx hb dX4_whyNotMove_69 (by decide) ?_
            subst hQ
            have hP9 : kz_P G [mdW G a (va_up (va_up M 6 (fun _ => (X4_whyNotMove_c6 (M 0) (M 6 0) (M 7 0) code k))) 7 (fun _ => (X4_whyNotMove_c7 (M 0) (M 6 0) (M 7 0) code k)))] H := by rw [X4_whyNotMove_c6, if_neg c_1, if_pos c_5, if_neg c_7, if_pos c_8, if_pos c_9]; rw [X4_whyNotMove_c7, if_neg c_1, if_pos c_5, if_neg c_7, if_pos c_8, if_pos c_9]; exact hP
            have hD9 : kz_D A [mdW G a (va_up (va_up M 6 (fun _ => (X4_whyNotMove_c6 (M 0) (M 6 0) (M 7 0) code k))) 7 (fun _ => (X4_whyNotMove_c7 (M 0) (M 6 0) (M 7 0) code k)))] := by rw [X4_whyNotMove_c6, if_neg c_1, if_pos c_5, if_neg c_7, if_pos c_8, if_pos c_9]; rw [X4_whyNotMove_c7, if_neg c_1, if_pos c_5, if_neg c_7, if_pos c_8, if_pos c_9]; exact hD
            exact W.iret (v := (-4)) hx hb hr (fun t ht hW => ⟨⟨(-4), (), rfl, (by rw [X4_whyNotMove_r, if_neg c_1, if_pos c_5, if_neg c_7, if_pos c_8, if_pos c_9]), by rw [ht]; exact hP9, hD9⟩, hS.F ht⟩) hS.2.2 dX4_whyNotMove_73
        · refine lv_bipush (v := (-2)) hx hb dX4_whyNotMove_49 (by decide +kernel) ?_
          subst hQ
          have hP9 : kz_P G [mdW G a (va_up (va_up M 6 (fun _ => (X4_whyNotMove_c6 (M 0) (M 6 0) (M 7 0) code k))) 7 (fun _ => (X4_whyNotMove_c7 (M 0) (M 6 0) (M 7 0) code k)))] s.heap := by rw [X4_whyNotMove_c6, if_neg c_1, if_pos c_5, if_neg c_7, if_neg c_8]; rw [X4_whyNotMove_c7, if_neg c_1, if_pos c_5, if_neg c_7, if_neg c_8]; exact hP
          have hD9 : kz_D A [mdW G a (va_up (va_up M 6 (fun _ => (X4_whyNotMove_c6 (M 0) (M 6 0) (M 7 0) code k))) 7 (fun _ => (X4_whyNotMove_c7 (M 0) (M 6 0) (M 7 0) code k)))] := by rw [X4_whyNotMove_c6, if_neg c_1, if_pos c_5, if_neg c_7, if_neg c_8]; rw [X4_whyNotMove_c7, if_neg c_1, if_pos c_5, if_neg c_7, if_neg c_8]; exact hD
          exact W.iret (v := (-2)) hx hb hr (fun t ht hW => ⟨⟨(-2), (), rfl, (by rw [X4_whyNotMove_r, if_neg c_1, if_pos c_5, if_neg c_7, if_neg c_8]), by rw [ht]; exact hP9, hD9⟩, hS.F ht⟩) hS.2.2 dX4_whyNotMove_51
    · rw [if_neg c_5] at ey_4
      subst ey_4
      refine lv_if_ne (tgt := 29) hx hb dX4_whyNotMove_24 (by decide) (fun c => absurd c (by decide)) (fun _ => ?_)
      refine lv_iconst (v := (-1)) hx hb dX4_whyNotMove_27 (by decide +kernel) ?_
      subst hQ
      have hP9 : kz_P G [mdW G a (va_up (va_up M 6 (fun _ => (X4_whyNotMove_c6 (M 0) (M 6 0) (M 7 0) code k))) 7 (fun _ => (X4_whyNotMove_c7 (M 0) (M 6 0) (M 7 0) code k)))] s.heap := by rw [X4_whyNotMove_c6, if_neg c_1, if_neg c_5]; rw [X4_whyNotMove_c7, if_neg c_1, if_neg c_5]; exact hP
      have hD9 : kz_D A [mdW G a (va_up (va_up M 6 (fun _ => (X4_whyNotMove_c6 (M 0) (M 6 0) (M 7 0) code k))) 7 (fun _ => (X4_whyNotMove_c7 (M 0) (M 6 0) (M 7 0) code k)))] := by rw [X4_whyNotMove_c6, if_neg c_1, if_neg c_5]; rw [X4_whyNotMove_c7, if_neg c_1, if_neg c_5]; exact hD
      exact W.iret (v := (-1)) hx hb hr (fun t ht hW => ⟨⟨(-1), (), rfl, (by rw [X4_whyNotMove_r, if_neg c_1, if_neg c_5]), by rw [ht]; exact hP9, hD9⟩, hS.F ht⟩) hS.2.2 dX4_whyNotMove_28
  · refine lv_aload_n hx hb dX4_whyNotMove_12 rfl (lv_at hl 1 rfl) ?_
    refine lv_iload_n hx hb dX4_whyNotMove_13 rfl (lv_at hl 2 rfl) ?_
    refine kz_miV (As := [.int code]) (rest := []) (b := a 0) (wr := []) (bs' := [mdW G a (va_up (va_up M 6 (fun _ => (X4_refuseCode_c6 (M 0) code))) 7 (fun _ => (X4_refuseCode_c7 (M 0) code)))]) ⟨hx, hb, hml, hown, hts⟩ (c_X4_refuseCode l G a M code) (cwV 1 hts gX4_whyNotMove_X4_refuseCode rfl rfl rfl (by decide +kernel) ⟨Nat.le_of_ble_eq_true rfl, Nat.le_of_ble_eq_true rfl⟩) hK hP hD hS hA [0] [] [0] rfl (by decide) rfl (by decide) (by decide) rfl (by decide) (kz_recv hK hP (ci := 4) (q0 := 0) rfl rfl) rfl hl.1 rfl (Nat.le_of_ble_eq_true rfl) dX4_whyNotMove_14 ⟨Nat.le_of_ble_eq_true rfl, Nat.le_of_ble_eq_true rfl⟩ (fun H locs hP hD hS => ?_)
    subst hQ
    have hP9 : kz_P G [mdW G a (va_up (va_up M 6 (fun _ => (X4_whyNotMove_c6 (M 0) (M 6 0) (M 7 0) code k))) 7 (fun _ => (X4_whyNotMove_c7 (M 0) (M 6 0) (M 7 0) code k)))] H := by rw [X4_whyNotMove_c6, if_pos c_1]; rw [X4_whyNotMove_c7, if_pos c_1]; exact hP
    have hD9 : kz_D A [mdW G a (va_up (va_up M 6 (fun _ => (X4_whyNotMove_c6 (M 0) (M 6 0) (M 7 0) code k))) 7 (fun _ => (X4_whyNotMove_c7 (M 0) (M 6 0) (M 7 0) code k)))] := by rw [X4_whyNotMove_c6, if_pos c_1]; rw [X4_whyNotMove_c7, if_pos c_1]; exact hD
    exact W.iret (v := (X4_refuseCode_r (M 0) code)) hx hb hr (fun t ht hW => ⟨⟨(X4_refuseCode_r (M 0) code), (), rfl, (by rw [X4_whyNotMove_r, if_pos c_1]), by rw [ht]; exact hP9, hD9⟩, hS.F ht⟩) hS.2.2 dX4_whyNotMove_17
def X4_takes_r (z0 : Nat → Int32) (k : Nat) (v : Int32) : Int32 := ((v * (z0 2)) * (z0 (540 + 4 * k + 0)))
def X4_takes_c0 (z0 : Nat → Int32) (k : Nat) (v : Int32) : Nat → Int32 := (upd (upd (X4_count_c0 (X4_count_c0 (X4_count_c0 z0 k 0 (-(z0 (540 + 4 * k + 0)))) k 1 ((v * (z0 2)) * (z0 (540 + 4 * k + 0)))) k 3 (z0 (540 + 4 * k + 0))) 9 (((X4_count_c0 (X4_count_c0 (X4_count_c0 z0 k 0 (-(z0 (540 + 4 * k + 0)))) k 1 ((v * (z0 2)) * (z0 (540 + 4 * k + 0)))) k 3 (z0 (540 + 4 * k + 0))) 9) + (z0 (540 + 4 * k + 0)))) 11 (((upd (X4_count_c0 (X4_count_c0 (X4_count_c0 z0 k 0 (-(z0 (540 + 4 * k + 0)))) k 1 ((v * (z0 2)) * (z0 (540 + 4 * k + 0)))) k 3 (z0 (540 + 4 * k + 0))) 9 (((X4_count_c0 (X4_count_c0 (X4_count_c0 z0 k 0 (-(z0 (540 + 4 * k + 0)))) k 1 ((v * (z0 2)) * (z0 (540 + 4 * k + 0)))) k 3 (z0 (540 + 4 * k + 0))) 9) + (z0 (540 + 4 * k + 0)))) 11) + ((v * (z0 2)) * (z0 (540 + 4 * k + 0)))))
set_option maxHeartbeats 1000000 in
set_option maxRecDepth 100000 in
theorem c_X4_takes (l : Launch) (G : kz_G) (a : Nat → Nat) (M : kz_S) (k : Nat) (v : Int32) (hk : k < 10) : kz_mi l G yX4_takes wsX4_takes 1 23 [.ref (a 0), .int (nI k), .int v] [mdW G a M] [mdW G a (va_up M 0 (X4_takes_c0 (M 0) k v))] (X4_takes_r (M 0) k v) := by
  intro sz
  refine Met.ofW (cc := cX4_takes) (maxL := 5) (ret := (some .int)) (by decide) rfl ?_
  intro p e s m args below meth c s₁ B hml hv
  obtain ⟨rfl, hsz, hP, hK, hD0⟩ := hv
  have hx := B.exec
  have hb := B.bytes
  have hr := B.returns
  have hts := atoms_spec (ws := wsX4_takes) B.pre
  have hown : s.vm.findClass RX4 = some m.cls := findClass_of_methodNamed B.named
  have hlocks := B.notSynchronized
  have hinX4 : ∀ w ∈ u_ws RX4 TX4 14, w ∈ wsX4_takes := by decide +kernel
  subst hsz
  have hD := hD0.self (sz := s.heap.size)
  generalize hAe : kz_A [mdW G a M] s.heap.size = A at hD ⊢
  have hA : ∀ q : Nat, s.heap.size ≤ q → A q := fun q h => by rw [← hAe]; exact Or.inr h
  have hS : va_S A s.heap s.heap [] := va_S.rf
  have hl := lv_entry ([.ref (a 0), .int (nI k), .int v]) (n := 5) (Nat.le_of_ble_eq_true rfl)
  rw [lg_entry_eq]
  generalize (lg_sl ([.ref (a 0), .int (nI k), .int v]) ++ List.replicate (5 - (lg_sl ([.ref (a 0), .int (nI k), .int v])).length) Slot.unset).toArray = ls at hl ⊢
  have hl : lv_has ls 5 [(0, .ref (a 0)), (1, .int (nI k)), (2, .int v)] := hl
  refine kz_start (fun QQ hQ => ?_)
  have hP : kz_P G [mdW G a M] s.heap := hP
  refine lv_aload_n hx hb dX4_takes_0 rfl (lv_at hl 0 rfl) ?_
  refine lv_iload_n hx hb dX4_takes_1 rfl (lv_at hl 1 rfl) ?_
  refine lv_iconst (v := 0) hx hb dX4_takes_2 (by decide +kernel) ?_
  refine kz_rdV (As := [.int (nI k), .int 0]) (rest := []) (b := a 0) ⟨hx, hb, hml, hown, hts⟩ (c_X4_ofSender l G a M k 0 (by omega)) (cwV 2 hts gX4_takes_X4_ofSender rfl rfl rfl (by decide +kernel) ⟨Nat.le_of_ble_eq_true rfl, Nat.le_of_ble_eq_true rfl⟩) hK hP (kz_recv hK hP (ci := 4) (q0 := 0) rfl rfl) rfl hl.1 rfl (Nat.le_of_ble_eq_true rfl) dX4_takes_3 ⟨Nat.le_of_ble_eq_true rfl, Nat.le_of_ble_eq_true rfl⟩ ?_
  refine lv_istore_n (lv' := [(3, .int ((M 0) (540 + 4 * k + 0))), (0, .ref (a 0)), (1, .int (nI k)), (2, .int v)]) hx hb dX4_takes_6 rfl hl (by decide) rfl (fun ls hl => ?_)
  refine lv_iload_n hx hb dX4_takes_7 rfl (lv_at hl 3 rfl) ?_
  refine lv_aload_n hx hb dX4_takes_8 rfl (lv_at hl 1 rfl) ?_
  refine va_get (D := G.1) (ci := 4) (v := .ref (a 1)) (C := RX4) (T := TX4) (N := 14) hx hb hts hinX4 hown hK.1 hP 0 rfl rfl 0 (by decide) (hts (.fieldLink RX4 7 "ParcelShelvesModel" "z" "[I") (by decide +kernel)) (fun _ h9 => h9) rfl dX4_takes_9 ?_
  refine lv_iconst (v := 2) hx hb dX4_takes_12 (by decide +kernel) ?_
  refine va_iald (f := (M 0)) hx hb hK.1 hP 1 0 rfl rfl (vp_in_nI (n := 2) (N := 580) (by decide) (by decide)) dX4_takes_13 ?_
  refine lv_topi (fun y_1 ey_2 => ?_)
  obtain rfl : y_1 = ((M 0) 2) := by rw [ey_2]; rfl
  refine lv_imul hx hb dX4_takes_14 ?_
  refine lv_iload_n hx hb dX4_takes_15 rfl (lv_at hl 0 rfl) ?_
  refine lv_imul hx hb dX4_takes_16 ?_
  refine lv_istore (lv' := [(4, .int ((v * ((M 0) 2)) * ((M 0) (540 + 4 * k + 0)))), (3, .int ((M 0) (540 + 4 * k + 0))), (0, .ref (a 0)), (1, .int (nI k)), (2, .int v)]) hx hb dX4_takes_17 hl (by decide) rfl (fun ls hl => ?_)
  refine lv_aload_n hx hb dX4_takes_19 rfl (lv_at hl 2 rfl) ?_
  refine lv_iload_n hx hb dX4_takes_20 rfl (lv_at hl 3 rfl) ?_
  refine lv_iconst (v := 0) hx hb dX4_takes_21 (by decide +kernel) ?_
  refine lv_iload_n hx hb dX4_takes_22 rfl (lv_at hl 1 rfl) ?_
  refine lv_ineg hx hb dX4_takes_23 ?_
  refine kz_mvV (As := [.int (nI k), .int 0, .int (-((M 0) (540 + 4 * k + 0)))]) (rest := []) (b := a 0) (wr := []) (bs' := [mdW G a (va_up M 0 (X4_count_c0 (M 0) k 0 (-((M 0) (540 + 4 * k + 0)))))]) ⟨hx, hb, hml, hown, hts⟩ (c_X4_count l G a M k 0 (-((M 0) (540 + 4 * k + 0))) (by omega)) (cwV 3 hts gX4_takes_X4_count rfl rfl rfl (by decide +kernel) ⟨Nat.le_of_ble_eq_true rfl, Nat.le_of_ble_eq_true rfl⟩) hK hP hD hS hA [0] [] [0] rfl (by decide) rfl (by decide) (by decide) rfl (by decide) (kz_recv hK hP (ci := 4) (q0 := 0) rfl rfl) rfl hl.1 rfl (Nat.le_of_ble_eq_true rfl) dX4_takes_24 ⟨Nat.le_of_ble_eq_true rfl, Nat.le_of_ble_eq_true rfl⟩ (fun H locs hP hD hS => ?_)
  refine lv_aload_n hx hb dX4_takes_27 rfl (lv_at hl 2 rfl) ?_
  refine lv_iload_n hx hb dX4_takes_28 rfl (lv_at hl 3 rfl) ?_
  refine lv_iconst (v := 1) hx hb dX4_takes_29 (by decide +kernel) ?_
  refine lv_iload hx hb dX4_takes_30 (lv_at hl 0 rfl) ?_
  refine kz_mvV (As := [.int (nI k), .int 1, .int ((v * ((M 0) 2)) * ((M 0) (540 + 4 * k + 0)))]) (rest := []) (b := a 0) (wr := []) (bs' := [mdW G a (va_up M 0 (X4_count_c0 (X4_count_c0 (M 0) k 0 (-((M 0) (540 + 4 * k + 0)))) k 1 ((v * ((M 0) 2)) * ((M 0) (540 + 4 * k + 0)))))]) ⟨hx, hb, hml, hown, hts⟩ (c_X4_count l G a (va_up M 0 (X4_count_c0 (M 0) k 0 (-((M 0) (540 + 4 * k + 0))))) k 1 ((v * ((M 0) 2)) * ((M 0) (540 + 4 * k + 0))) (by omega)) (cwV 3 hts gX4_takes_X4_count rfl rfl rfl (by decide +kernel) ⟨Nat.le_of_ble_eq_true rfl, Nat.le_of_ble_eq_true rfl⟩) hK hP hD hS hA [0] [] [0] rfl (by decide) rfl (by decide) (by decide) rfl (by decide) (kz_recv hK hP (ci := 4) (q0 := 0) rfl rfl) rfl hl.1 rfl (Nat.le_of_ble_eq_true rfl) dX4_takes_32 ⟨Nat.le_of_ble_eq_true rfl, Nat.le_of_ble_eq_true rfl⟩ (fun H locs hP hD hS => ?_)
  refine lv_aload_n hx hb dX4_takes_35 rfl (lv_at hl 2 rfl) ?_
  refine lv_iload_n hx hb dX4_takes_36 rfl (lv_at hl 3 rfl) ?_
  refine lv_iconst (v := 3) hx hb dX4_takes_37 (by decide +kernel) ?_
  refine lv_iload_n hx hb dX4_takes_38 rfl (lv_at hl 1 rfl) ?_
  refine kz_mvV (As := [.int (nI k), .int 3, .int ((M 0) (540 + 4 * k + 0))]) (rest := []) (b := a 0) (wr := []) (bs' := [mdW G a (va_up M 0 (X4_count_c0 (X4_count_c0 (X4_count_c0 (M 0) k 0 (-((M 0) (540 + 4 * k + 0)))) k 1 ((v * ((M 0) 2)) * ((M 0) (540 + 4 * k + 0)))) k 3 ((M 0) (540 + 4 * k + 0))))]) ⟨hx, hb, hml, hown, hts⟩ (c_X4_count l G a (va_up M 0 (X4_count_c0 (X4_count_c0 (M 0) k 0 (-((M 0) (540 + 4 * k + 0)))) k 1 ((v * ((M 0) 2)) * ((M 0) (540 + 4 * k + 0))))) k 3 ((M 0) (540 + 4 * k + 0)) (by omega)) (cwV 3 hts gX4_takes_X4_count rfl rfl rfl (by decide +kernel) ⟨Nat.le_of_ble_eq_true rfl, Nat.le_of_ble_eq_true rfl⟩) hK hP hD hS hA [0] [] [0] rfl (by decide) rfl (by decide) (by decide) rfl (by decide) (kz_recv hK hP (ci := 4) (q0 := 0) rfl rfl) rfl hl.1 rfl (Nat.le_of_ble_eq_true rfl) dX4_takes_39 ⟨Nat.le_of_ble_eq_true rfl, Nat.le_of_ble_eq_true rfl⟩ (fun H locs hP hD hS => ?_)
  refine lv_aload_n hx hb dX4_takes_42 rfl (lv_at hl 2 rfl) ?_
  refine va_get (D := G.1) (ci := 4) (v := .ref (a 1)) (C := RX4) (T := TX4) (N := 14) hx hb hts hinX4 hown hK.1 hP 0 rfl rfl 0 (by decide) (hts (.fieldLink RX4 7 "ParcelShelvesModel" "z" "[I") (by decide +kernel)) (fun _ h9 => h9) rfl dX4_takes_43 ?_
  refine lv_bipush (v := 9) hx hb dX4_takes_46 (by decide +kernel) ?_
  refine lv_dup2_11 hx hb dX4_takes_48 rfl rfl ?_
  refine va_iald (f := (X4_count_c0 (X4_count_c0 (X4_count_c0 (M 0) k 0 (-((M 0) (540 + 4 * k + 0)))) k 1 ((v * ((M 0) 2)) * ((M 0) (540 + 4 * k + 0)))) k 3 ((M 0) (540 + 4 * k + 0)))) hx hb hK.1 hP 1 0 rfl rfl (vp_in_nI (n := 9) (N := 580) (by decide) (by decide)) dX4_takes_49 ?_
  refine lv_topi (fun y_3 ey_4 => ?_)
  obtain rfl : y_3 = ((X4_count_c0 (X4_count_c0 (X4_count_c0 (M 0) k 0 (-((M 0) (540 + 4 * k + 0)))) k 1 ((v * ((M 0) 2)) * ((M 0) (540 + 4 * k + 0)))) k 3 ((M 0) (540 + 4 * k + 0))) 9) := by rw [ey_4]; rfl
  refine lv_iload_n hx hb dX4_takes_50 rfl (lv_at hl 1 rfl) ?_
  refine lv_iadd hx hb dX4_takes_51 ?_
  refine va_iast hx hb hK.1 hP hD hS 1 0 rfl rfl (vp_in_nI (n := 9) (N := 580) (by decide) (by decide)) dX4_takes_52 (fun H locs hP hD hS => ?_)
  have hP : kz_P G [mdW G a (va_up M 0 (upd (X4_count_c0 (X4_count_c0 (X4_count_c0 (M 0) k 0 (-((M 0) (540 + 4 * k + 0)))) k 1 ((v * ((M 0) 2)) * ((M 0) (540 + 4 * k + 0)))) k 3 ((M 0) (540 + 4 * k + 0))) 9 (((X4_count_c0 (X4_count_c0 (X4_count_c0 (M 0) k 0 (-((M 0) (540 + 4 * k + 0)))) k 1 ((v * ((M 0) 2)) * ((M 0) (540 + 4 * k + 0)))) k 3 ((M 0) (540 + 4 * k + 0))) 9) + ((M 0) (540 + 4 * k + 0)))))] H := hP
  have hD : kz_D A [mdW G a (va_up M 0 (upd (X4_count_c0 (X4_count_c0 (X4_count_c0 (M 0) k 0 (-((M 0) (540 + 4 * k + 0)))) k 1 ((v * ((M 0) 2)) * ((M 0) (540 + 4 * k + 0)))) k 3 ((M 0) (540 + 4 * k + 0))) 9 (((X4_count_c0 (X4_count_c0 (X4_count_c0 (M 0) k 0 (-((M 0) (540 + 4 * k + 0)))) k 1 ((v * ((M 0) 2)) * ((M 0) (540 + 4 * k + 0)))) k 3 ((M 0) (540 + 4 * k + 0))) 9) + ((M 0) (540 + 4 * k + 0)))))] := hD
  refine lv_aload_n hx hb dX4_takes_53 rfl (lv_at hl 2 rfl) ?_
  refine va_get (D := G.1) (ci := 4) (v := .ref (a 1)) (C := RX4) (T := TX4) (N := 14) hx hb hts hinX4 hown hK.1 hP 0 rfl rfl 0 (by decide) (hts (.fieldLink RX4 7 "ParcelShelvesModel" "z" "[I") (by decide +kernel)) (fun _ h9 => h9) rfl dX4_takes_54 ?_
  refine lv_bipush (v := 11) hx hb dX4_takes_57 (by decide +kernel) ?_
  refine lv_dup2_11 hx hb dX4_takes_59 rfl rfl ?_
  refine va_iald (f := (upd (X4_count_c0 (X4_count_c0 (X4_count_c0 (M 0) k 0 (-((M 0) (540 + 4 * k + 0)))) k 1 ((v * ((M 0) 2)) * ((M 0) (540 + 4 * k + 0)))) k 3 ((M 0) (540 + 4 * k + 0))) 9 (((X4_count_c0 (X4_count_c0 (X4_count_c0 (M 0) k 0 (-((M 0) (540 + 4 * k + 0)))) k 1 ((v * ((M 0) 2)) * ((M 0) (540 + 4 * k + 0)))) k 3 ((M 0) (540 + 4 * k + 0))) 9) + ((M 0) (540 + 4 * k + 0))))) hx hb hK.1 hP 1 0 rfl rfl (vp_in_nI (n := 11) (N := 580) (by decide) (by decide)) dX4_takes_60 ?_
  refine lv_topi (fun y_5 ey_6 => ?_)
  obtain rfl : y_5 = ((upd (X4_count_c0 (X4_count_c0 (X4_count_c0 (M 0) k 0 (-((M 0) (540 + 4 * k + 0)))) k 1 ((v * ((M 0) 2)) * ((M 0) (540 + 4 * k + 0)))) k 3 ((M 0) (540 + 4 * k + 0))) 9 (((X4_count_c0 (X4_count_c0 (X4_count_c0 (M 0) k 0 (-((M 0) (540 + 4 * k + 0)))) k 1 ((v * ((M 0) 2)) * ((M 0) (540 + 4 * k + 0)))) k 3 ((M 0) (540 + 4 * k + 0))) 9) + ((M 0) (540 + 4 * k + 0)))) 11) := by rw [ey_6]; rfl
  refine lv_iload hx hb dX4_takes_61 (lv_at hl 0 rfl) ?_
  refine lv_iadd hx hb dX4_takes_63 ?_
  refine va_iast hx hb hK.1 hP hD hS 1 0 rfl rfl (vp_in_nI (n := 11) (N := 580) (by decide) (by decide)) dX4_takes_64 (fun H locs hP hD hS => ?_)
  have hP : kz_P G [mdW G a (va_up M 0 (upd (upd (X4_count_c0 (X4_count_c0 (X4_count_c0 (M 0) k 0 (-((M 0) (540 + 4 * k + 0)))) k 1 ((v * ((M 0) 2)) * ((M 0) (540 + 4 * k + 0)))) k 3 ((M 0) (540 + 4 * k + 0))) 9 (((X4_count_c0 (X4_count_c0 (X4_count_c0 (M 0) k 0 (-((M 0) (540 + 4 * k + 0)))) k 1 ((v * ((M 0) 2)) * ((M 0) (540 + 4 * k + 0)))) k 3 ((M 0) (540 + 4 * k + 0))) 9) + ((M 0) (540 + 4 * k + 0)))) 11 (((upd (X4_count_c0 (X4_count_c0 (X4_count_c0 (M 0) k 0 (-((M 0) (540 + 4 * k + 0)))) k 1 ((v * ((M 0) 2)) * ((M 0) (540 + 4 * k + 0)))) k 3 ((M 0) (540 + 4 * k + 0))) 9 (((X4_count_c0 (X4_count_c0 (X4_count_c0 (M 0) k 0 (-((M 0) (540 + 4 * k + 0)))) k 1 ((v * ((M 0) 2)) * ((M 0) (540 + 4 * k + 0)))) k 3 ((M 0) (540 + 4 * k + 0))) 9) + ((M 0) (540 + 4 * k + 0)))) 11) + ((v * ((M 0) 2)) * ((M 0) (540 + 4 * k + 0))))))] H := hP
  have hD : kz_D A [mdW G a (va_up M 0 (upd (upd (X4_count_c0 (X4_count_c0 (X4_count_c0 (M 0) k 0 (-((M 0) (540 + 4 * k + 0)))) k 1 ((v * ((M 0) 2)) * ((M 0) (540 + 4 * k + 0)))) k 3 ((M 0) (540 + 4 * k + 0))) 9 (((X4_count_c0 (X4_count_c0 (X4_count_c0 (M 0) k 0 (-((M 0) (540 + 4 * k + 0)))) k 1 ((v * ((M 0) 2)) * ((M 0) (540 + 4 * k + 0)))) k 3 ((M 0) (540 + 4 * k + 0))) 9) + ((M 0) (540 + 4 * k + 0)))) 11 (((upd (X4_count_c0 (X4_count_c0 (X4_count_c0 (M 0) k 0 (-((M 0) (540 + 4 * k + 0)))) k 1 ((v * ((M 0) 2)) * ((M 0) (540 + 4 * k + 0)))) k 3 ((M 0) (540 + 4 * k + 0))) 9 (((X4_count_c0 (X4_count_c0 (X4_count_c0 (M 0) k 0 (-((M 0) (540 + 4 * k + 0)))) k 1 ((v * ((M 0) 2)) * ((M 0) (540 + 4 * k + 0)))) k 3 ((M 0) (540 + 4 * k + 0))) 9) + ((M 0) (540 + 4 * k + 0)))) 11) + ((v * ((M 0) 2)) * ((M 0) (540 + 4 * k + 0))))))] := hD
  refine lv_iload hx hb dX4_takes_65 (lv_at hl 0 rfl) ?_
  subst hQ
  have hP9 : kz_P G [mdW G a (va_up M 0 (X4_takes_c0 (M 0) k v))] H := hP
  have hD9 : kz_D A [mdW G a (va_up M 0 (X4_takes_c0 (M 0) k v))] := hD
  exact W.iret (v := ((v * ((M 0) 2)) * ((M 0) (540 + 4 * k + 0)))) hx hb hr (fun t ht hW => ⟨⟨((v * ((M 0) 2)) * ((M 0) (540 + 4 * k + 0))), (), rfl, rfl, by rw [ht]; exact hP9, hD9⟩, hS.F ht⟩) hS.2.2 dX4_takes_67
def X4_call_r (z0 : Nat → Int32) (z1 : Nat → Int32) (z2 : Int32) (q : Int32) : Int32 := if X4_isSender_p q then (if (z0 (540 + 4 * q.toNatClampNeg + 0)) = 0 then (-3) else (X4_takes_r z0 q.toNatClampNeg 6)) else (-1)
def X4_call_c0 (z0 : Nat → Int32) (z1 : Nat → Int32) (z2 : Int32) (q : Int32) : Nat → Int32 := if X4_isSender_p q then (if (z0 (540 + 4 * q.toNatClampNeg + 0)) = 0 then z0 else (X4_takes_c0 z0 q.toNatClampNeg 6)) else z0
def X4_call_c1 (z0 : Nat → Int32) (z1 : Nat → Int32) (z2 : Int32) (q : Int32) : Nat → Int32 := if X4_isSender_p q then (if (z0 (540 + 4 * q.toNatClampNeg + 0)) = 0 then z1 else (X4_record_c1 z0 z1 z2)) else z1
def X4_call_c2 (z0 : Nat → Int32) (z1 : Nat → Int32) (z2 : Int32) (q : Int32) : Int32 := if X4_isSender_p q then (if (z0 (540 + 4 * q.toNatClampNeg + 0)) = 0 then z2 else (X4_record_c2 z0 z1 z2)) else z2
set_option maxHeartbeats 1000000 in
set_option maxRecDepth 100000 in
theorem c_X4_call (l : Launch) (G : kz_G) (a : Nat → Nat) (M : kz_S) (q : Int32) (hpm : ∃ n, n ≤ 5 ∧ M 2 0 = nI n) : kz_mi l G yX4_call wsX4_call 2 47 [.ref (a 0), .int q] [mdW G a M] [mdW G a (va_up (va_up (va_up M 0 (X4_call_c0 (M 0) (M 1) (M 2 0) q)) 1 (X4_call_c1 (M 0) (M 1) (M 2 0) q)) 2 (fun _ => (X4_call_c2 (M 0) (M 1) (M 2 0) q)))] (X4_call_r (M 0) (M 1) (M 2 0) q) := by
  intro sz
  refine Met.ofW (cc := cX4_call) (maxL := 2) (ret := (some .int)) (by decide) rfl ?_
  intro p e s m args below meth c s₁ B hml hv
  obtain ⟨rfl, hsz, hP, hK, hD0⟩ := hv
  have hx := B.exec
  have hb := B.bytes
  have hr := B.returns
  have hts := atoms_spec (ws := wsX4_call) B.pre
  have hown : s.vm.findClass RX4 = some m.cls := findClass_of_methodNamed B.named
  have hlocks := B.notSynchronized
  subst hsz
  have hD := hD0.self (sz := s.heap.size)
  generalize hAe : kz_A [mdW G a M] s.heap.size = A at hD ⊢
  have hA : ∀ q : Nat, s.heap.size ≤ q → A q := fun q h => by rw [← hAe]; exact Or.inr h
  have hS : va_S A s.heap s.heap [] := va_S.rf
  have hl := lv_entry ([.ref (a 0), .int q]) (n := 2) (Nat.le_of_ble_eq_true rfl)
  rw [lg_entry_eq]
  generalize (lg_sl ([.ref (a 0), .int q]) ++ List.replicate (2 - (lg_sl ([.ref (a 0), .int q])).length) Slot.unset).toArray = ls at hl ⊢
  have hl : lv_has ls 2 [(0, .ref (a 0)), (1, .int q)] := hl
  refine kz_start (fun QQ hQ => ?_)
  have hP : kz_P G [mdW G a M] s.heap := hP
  refine lv_iload_n hx hb dX4_call_0 rfl (lv_at hl 1 rfl) ?_
  refine kz_rdS (As := [.int q]) (rest := []) ⟨hx, hb, hml, hown, hts⟩ (c_X4_isSender l G q) (va_cwS 1 hts gX4_call_X4_isSender rfl rfl rfl (by decide +kernel) ⟨Nat.le_of_ble_eq_true rfl, Nat.le_of_ble_eq_true rfl⟩) hK (hP.sub (cs := []) [] rfl) rfl hl.1 rfl (Nat.le_of_ble_eq_true rfl) dX4_call_1 ⟨Nat.le_of_ble_eq_true rfl, Nat.le_of_ble_eq_true rfl⟩ ?_
  refine lv_topi (fun y_1 ey_2 => ?_)
  by_cases c_3 : X4_isSender_p q
  · rw [if_pos c_3] at ey_2
    subst ey_2
    obtain ⟨hcv4, hcl4⟩ := kz_back (kz_wiIn 9 c_3 rfl (by decide)) (by decide)
    have hl : lv_has ls 2 [(0, .ref (a 0)), (1, .int (nI q.toNatClampNeg))] := by rw [← hcv4]; exact hl
    refine lv_if_ne (tgt := 9) hx hb dX4_call_4 (by decide) (fun _ => ?_) (fun c => absurd c (by decide))
    refine lv_aload_n hx hb dX4_call_9 rfl (lv_at hl 0 rfl) ?_
    refine lv_iload_n hx hb dX4_call_10 rfl (lv_at hl 1 rfl) ?_
    refine lv_iconst (v := 0) hx hb dX4_call_11 (by decide +kernel) ?_
    refine kz_rdV (As := [.int (nI q.toNatClampNeg), .int 0]) (rest := []) (b := a 0) ⟨hx, hb, hml, hown, hts⟩ (c_X4_ofSender l G a M q.toNatClampNeg 0 (by omega)) (cwV 2 hts gX4_call_X4_ofSender rfl rfl rfl (by decide +kernel) ⟨Nat.le_of_ble_eq_true rfl, Nat.le_of_ble_eq_true rfl⟩) hK hP (kz_recv hK hP (ci := 4) (q0 := 0) rfl rfl) rfl hl.1 rfl (Nat.le_of_ble_eq_true rfl) dX4_call_12 ⟨Nat.le_of_ble_eq_true rfl, Nat.le_of_ble_eq_true rfl⟩ ?_
    refine lv_if_ne (tgt := 21) hx hb dX4_call_15 (by decide) (fun c_5 => ?_) (fun c_5 => ?_)
    · refine lv_aload_n hx hb dX4_call_21 rfl (lv_at hl 0 rfl) ?_
      refine kz_mvV (As := []) (rest := []) (b := a 0) (wr := []) (bs' := [mdW G a (va_up (va_up M 1 (X4_record_c1 (M 0) (M 1) (M 2 0))) 2 (fun _ => (X4_record_c2 (M 0) (M 1) (M 2 0))))]) ⟨hx, hb, hml, hown, hts⟩ (c_X4_record l G a M hpm) (cwV 0 hts gX4_call_X4_record rfl rfl rfl (by decide +kernel) ⟨Nat.le_of_ble_eq_true rfl, Nat.le_of_ble_eq_true rfl⟩) hK hP hD hS hA [0] [] [0] rfl (by decide) rfl (by decide) (by decide) rfl (by decide) (kz_recv hK hP (ci := 4) (q0 := 0) rfl rfl) rfl hl.1 rfl (Nat.le_of_ble_eq_true rfl) dX4_call_22 ⟨Nat.le_of_ble_eq_true rfl, Nat.le_of_ble_eq_true rfl⟩ (fun H locs hP hD hS => ?_)
      refine lv_aload_n hx hb dX4_call_25 rfl (lv_at hl 0 rfl) ?_
      refine lv_iload_n hx hb dX4_call_26 rfl (lv_at hl 1 rfl) ?_
      refine lv_bipush (v := 6) hx hb dX4_call_27 (by decide +kernel) ?_
      refine kz_miV (As := [.int (nI q.toNatClampNeg), .int 6]) (rest := []) (b := a 0) (wr := []) (bs' := [mdW G a (va_up (va_up (va_up M 1 (X4_record_c1 (M 0) (M 1) (M 2 0))) 2 (fun _ => (X4_record_c2 (M 0) (M 1) (M 2 0)))) 0 (X4_takes_c0 (M 0) q.toNatClampNeg 6))]) ⟨hx, hb, hml, hown, hts⟩ (c_X4_takes l G a (va_up (va_up M 1 (X4_record_c1 (M 0) (M 1) (M 2 0))) 2 (fun _ => (X4_record_c2 (M 0) (M 1) (M 2 0)))) q.toNatClampNeg 6 (by omega)) (cwV 2 hts gX4_call_X4_takes rfl rfl rfl (by decide +kernel) ⟨Nat.le_of_ble_eq_true rfl, Nat.le_of_ble_eq_true rfl⟩) hK hP hD hS hA [0] [] [0] rfl (by decide) rfl (by decide) (by decide) rfl (by decide) (kz_recv hK hP (ci := 4) (q0 := 0) rfl rfl) rfl hl.1 rfl (Nat.le_of_ble_eq_true rfl) dX4_call_29 ⟨Nat.le_of_ble_eq_true rfl, Nat.le_of_ble_eq_true rfl⟩ (fun H locs hP hD hS => ?_)
      subst hQ
      have hP9 : kz_P G [mdW G a (va_up (va_up (va_up M 0 (X4_call_c0 (M 0) (M 1) (M 2 0) q)) 1 (X4_call_c1 (M 0) (M 1) (M 2 0) q)) 2 (fun _ => (X4_call_c2 (M 0) (M 1) (M 2 0) q)))] H := by rw [X4_call_c0, if_pos c_3, if_neg c_5]; rw [X4_call_c1, if_pos c_3, if_neg c_5]; rw [X4_call_c2, if_pos c_3, if_neg c_5]; exact hP
      have hD9 : kz_D A [mdW G a (va_up (va_up (va_up M 0 (X4_call_c0 (M 0) (M 1) (M 2 0) q)) 1 (X4_call_c1 (M 0) (M 1) (M 2 0) q)) 2 (fun _ => (X4_call_c2 (M 0) (M 1) (M 2 0) q)))] := by rw [X4_call_c0, if_pos c_3, if_neg c_5]; rw [X4_call_c1, if_pos c_3, if_neg c_5]; rw [X4_call_c2, if_pos c_3, if_neg c_5]; exact hD
      exact W.iret (v := (X4_takes_r (M 0) q.toNatClampNeg 6)) hx hb hr (fun t ht hW => ⟨⟨(X4_takes_r (M 0) q.toNatClampNeg 6), (), rfl, (by rw [X4_call_r, if_pos c_3, if_neg c_5]), by rw [ht]; exact hP9, hD9⟩, hS.F ht⟩) hS.2.2 dX4_call_32
    · refine lv_bipush (v := (-3)) hx hb dX4_call_18 (by decide +kernel) ?_
      subst hQ
      have hP9 : kz_P G [mdW G a (va_up (va_up (va_up M 0 (X4_call_c0 (M 0) (M 1) (M 2 0) q)) 1 (X4_call_c1 (M 0) (M 1) (M 2 0) q)) 2 (fun _ => (X4_call_c2 (M 0) (M 1) (M 2 0) q)))] s.heap := by rw [X4_call_c0, if_pos c_3, if_pos c_5]; rw [X4_call_c1, if_pos c_3, if_pos c_5]; rw [X4_call_c2, if_pos c_3, if_pos c_5]; exact hP
      have hD9 : kz_D A [mdW G a (va_up (va_up (va_up M 0 (X4_call_c0 (M 0) (M 1) (M 2 0) q)) 1 (X4_call_c1 (M 0) (M 1) (M 2 0) q)) 2 (fun _ => (X4_call_c2 (M 0) (M 1) (M 2 0) q)))] := by rw [X4_call_c0, if_pos c_3, if_pos c_5]; rw [X4_call_c1, if_pos c_3, if_pos c_5]; rw [X4_call_c2, if_pos c_3, if_pos c_5]; exact hD
      exact W.iret (v := (-3)) hx hb hr (fun t ht hW => ⟨⟨(-3), (), rfl, (by rw [X4_call_r, if_pos c_3, if_pos c_5]), by rw [ht]; exact hP9, hD9⟩, hS.F ht⟩) hS.2.2 dX4_call_20
  · rw [if_neg c_3] at ey_2
    subst ey_2
    refine lv_if_ne (tgt := 9) hx hb dX4_call_4 (by decide) (fun c => absurd c (by decide)) (fun _ => ?_)
    refine lv_iconst (v := (-1)) hx hb dX4_call_7 (by decide +kernel) ?_
    subst hQ
    have hP9 : kz_P G [mdW G a (va_up (va_up (va_up M 0 (X4_call_c0 (M 0) (M 1) (M 2 0) q)) 1 (X4_call_c1 (M 0) (M 1) (M 2 0) q)) 2 (fun _ => (X4_call_c2 (M 0) (M 1) (M 2 0) q)))] s.heap := by rw [X4_call_c0, if_neg c_3]; rw [X4_call_c1, if_neg c_3]; rw [X4_call_c2, if_neg c_3]; exact hP
    have hD9 : kz_D A [mdW G a (va_up (va_up (va_up M 0 (X4_call_c0 (M 0) (M 1) (M 2 0) q)) 1 (X4_call_c1 (M 0) (M 1) (M 2 0) q)) 2 (fun _ => (X4_call_c2 (M 0) (M 1) (M 2 0) q)))] := by rw [X4_call_c0, if_neg c_3]; rw [X4_call_c1, if_neg c_3]; rw [X4_call_c2, if_neg c_3]; exact hD
    exact W.iret (v := (-1)) hx hb hr (fun t ht hW => ⟨⟨(-1), (), rfl, (by rw [X4_call_r, if_neg c_3]), by rw [ht]; exact hP9, hD9⟩, hS.F ht⟩) hS.2.2 dX4_call_8
def X4_set_r (z0 : Nat → Int32) (z1 : Nat → Int32) (z2 : Int32) (k : Int32) (v : Int32) : Int32 := if X4_isInRange_p k v then (z0 k.toNatClampNeg) else (-2)
def X4_set_c0 (z0 : Nat → Int32) (z1 : Nat → Int32) (z2 : Int32) (k : Int32) (v : Int32) : Nat → Int32 := if X4_isInRange_p k v then (upd z0 k.toNatClampNeg v) else z0
def X4_set_c1 (z0 : Nat → Int32) (z1 : Nat → Int32) (z2 : Int32) (k : Int32) (v : Int32) : Nat → Int32 := if X4_isInRange_p k v then (X4_record_c1 z0 z1 z2) else z1
def X4_set_c2 (z0 : Nat → Int32) (z1 : Nat → Int32) (z2 : Int32) (k : Int32) (v : Int32) : Int32 := if X4_isInRange_p k v then (X4_record_c2 z0 z1 z2) else z2
set_option maxHeartbeats 1000000 in
set_option maxRecDepth 100000 in
theorem c_X4_set (l : Launch) (G : kz_G) (a : Nat → Nat) (M : kz_S) (k : Int32) (v : Int32) (hpm : ∃ n, n ≤ 5 ∧ M 2 0 = nI n) : kz_mi l G yX4_set wsX4_set 2 43 [.ref (a 0), .int k, .int v] [mdW G a M] [mdW G a (va_up (va_up (va_up M 0 (X4_set_c0 (M 0) (M 1) (M 2 0) k v)) 1 (X4_set_c1 (M 0) (M 1) (M 2 0) k v)) 2 (fun _ => (X4_set_c2 (M 0) (M 1) (M 2 0) k v)))] (X4_set_r (M 0) (M 1) (M 2 0) k v) := by
  intro sz
  refine Met.ofW (cc := cX4_set) (maxL := 4) (ret := (some .int)) (by decide) rfl ?_
  intro p e s m args below meth c s₁ B hml hv
  obtain ⟨rfl, hsz, hP, hK, hD0⟩ := hv
  have hx := B.exec
  have hb := B.bytes
  have hr := B.returns
  have hts := atoms_spec (ws := wsX4_set) B.pre
  have hown : s.vm.findClass RX4 = some m.cls := findClass_of_methodNamed B.named
  have hlocks := B.notSynchronized
  have hinX4 : ∀ w ∈ u_ws RX4 TX4 14, w ∈ wsX4_set := by decide +kernel
  subst hsz
  have hD := hD0.self (sz := s.heap.size)
  generalize hAe : kz_A [mdW G a M] s.heap.size = A at hD ⊢
  have hA : ∀ q : Nat, s.heap.size ≤ q → A q := fun q h => by rw [← hAe]; exact Or.inr h
  have hS : va_S A s.heap s.heap [] := va_S.rf
  have hl := lv_entry ([.ref (a 0), .int k, .int v]) (n := 4) (Nat.le_of_ble_eq_true rfl)
  rw [lg_entry_eq]
  generalize (lg_sl ([.ref (a 0), .int k, .int v]) ++ List.replicate (4 - (lg_sl ([.ref (a 0), .int k, .int v])).length) Slot.unset).toArray = ls at hl ⊢
  have hl : lv_has ls 4 [(0, .ref (a 0)), (1, .int k), (2, .int v)] := hl
  refine kz_start (fun QQ hQ => ?_)
  have hP : kz_P G [mdW G a M] s.heap := hP
  refine lv_iload_n hx hb dX4_set_0 rfl (lv_at hl 1 rfl) ?_
  refine lv_iload_n hx hb dX4_set_1 rfl (lv_at hl 2 rfl) ?_
  refine kz_rdS (As := [.int k, .int v]) (rest := []) ⟨hx, hb, hml, hown, hts⟩ (c_X4_isInRange l G k v) (va_cwS 2 hts gX4_set_X4_isInRange rfl rfl rfl (by decide +kernel) ⟨Nat.le_of_ble_eq_true rfl, Nat.le_of_ble_eq_true rfl⟩) hK (hP.sub (cs := []) [] rfl) rfl hl.1 rfl (Nat.le_of_ble_eq_true rfl) dX4_set_2 ⟨Nat.le_of_ble_eq_true rfl, Nat.le_of_ble_eq_true rfl⟩ ?_
  refine lv_topi (fun y_1 ey_2 => ?_)
  by_cases c_3 : X4_isInRange_p k v
  · rw [if_pos c_3] at ey_2
    subst ey_2
    refine lv_if_ne (tgt := 11) hx hb dX4_set_5 (by decide) (fun _ => ?_) (fun c => absurd c (by decide))
    refine lv_aload_n hx hb dX4_set_11 rfl (lv_at hl 0 rfl) ?_
    refine kz_mvV (As := []) (rest := []) (b := a 0) (wr := []) (bs' := [mdW G a (va_up (va_up M 1 (X4_record_c1 (M 0) (M 1) (M 2 0))) 2 (fun _ => (X4_record_c2 (M 0) (M 1) (M 2 0))))]) ⟨hx, hb, hml, hown, hts⟩ (c_X4_record l G a M hpm) (cwV 0 hts gX4_set_X4_record rfl rfl rfl (by decide +kernel) ⟨Nat.le_of_ble_eq_true rfl, Nat.le_of_ble_eq_true rfl⟩) hK hP hD hS hA [0] [] [0] rfl (by decide) rfl (by decide) (by decide) rfl (by decide) (kz_recv hK hP (ci := 4) (q0 := 0) rfl rfl) rfl hl.1 rfl (Nat.le_of_ble_eq_true rfl) dX4_set_12 ⟨Nat.le_of_ble_eq_true rfl, Nat.le_of_ble_eq_true rfl⟩ (fun H locs hP hD hS => ?_)
    refine lv_aload_n hx hb dX4_set_15 rfl (lv_at hl 0 rfl) ?_
    refine va_get (D := G.1) (ci := 4) (v := .ref (a 1)) (C := RX4) (T := TX4) (N := 14) hx hb hts hinX4 hown hK.1 hP 0 rfl rfl 0 (by decide) (hts (.fieldLink RX4 7 "ParcelShelvesModel" "z" "[I") (by decide +kernel)) (fun _ h9 => h9) rfl dX4_set_16 ?_
    refine lv_iload_n hx hb dX4_set_19 rfl (lv_at hl 1 rfl) ?_
    refine va_iald (f := (M 0)) hx hb hK.1 hP 1 0 rfl rfl (kz_rng c_3) dX4_set_20 ?_
    refine lv_istore_n (lv' := [(3, .int ((M 0) k.toNatClampNeg)), (0, .ref (a 0)), (1, .int k), (2, .int v)]) hx hb dX4_set_21 rfl hl (by decide) rfl (fun ls hl => ?_)
    refine lv_aload_n hx hb dX4_set_22 rfl (lv_at hl 1 rfl) ?_
    refine va_get (D := G.1) (ci := 4) (v := .ref (a 1)) (C := RX4) (T := TX4) (N := 14) hx hb hts hinX4 hown hK.1 hP 0 rfl rfl 0 (by decide) (hts (.fieldLink RX4 7 "ParcelShelvesModel" "z" "[I") (by decide +kernel)) (fun _ h9 => h9) rfl dX4_set_23 ?_
    refine lv_iload_n hx hb dX4_set_26 rfl (lv_at hl 2 rfl) ?_
    refine lv_iload_n hx hb dX4_set_27 rfl (lv_at hl 3 rfl) ?_
    refine va_iast hx hb hK.1 hP hD hS 1 0 rfl rfl (kz_rng c_3) dX4_set_28 (fun H locs hP hD hS => ?_)
    have hP : kz_P G [mdW G a (va_up (va_up (va_up M 1 (X4_record_c1 (M 0) (M 1) (M 2 0))) 2 (fun _ => (X4_record_c2 (M 0) (M 1) (M 2 0)))) 0 (upd (M 0) k.toNatClampNeg v))] H := hP
    have hD : kz_D A [mdW G a (va_up (va_up (va_up M 1 (X4_record_c1 (M 0) (M 1) (M 2 0))) 2 (fun _ => (X4_record_c2 (M 0) (M 1) (M 2 0)))) 0 (upd (M 0) k.toNatClampNeg v))] := hD
    refine lv_iload_n hx hb dX4_set_29 rfl (lv_at hl 0 rfl) ?_
    subst hQ
    have hP9 : kz_P G [mdW G a (va_up (va_up (va_up M 0 (X4_set_c0 (M 0) (M 1) (M 2 0) k v)) 1 (X4_set_c1 (M 0) (M 1) (M 2 0) k v)) 2 (fun _ => (X4_set_c2 (M 0) (M 1) (M 2 0) k v)))] H := by rw [X4_set_c0, if_pos c_3]; rw [X4_set_c1, if_pos c_3]; rw [X4_set_c2, if_pos c_3]; exact hP
    have hD9 : kz_D A [mdW G a (va_up (va_up (va_up M 0 (X4_set_c0 (M 0) (M 1) (M 2 0) k v)) 1 (X4_set_c1 (M 0) (M 1) (M 2 0) k v)) 2 (fun _ => (X4_set_c2 (M 0) (M 1) (M 2 0) k v)))] := by rw [X4_set_c0, if_pos c_3]; rw [X4_set_c1, if_pos c_3]; rw [X4_set_c2, if_pos c_3]; exact hD
    exact W.iret (v := ((M 0) k.toNatClampNeg)) hx hb hr (fun t ht hW => ⟨⟨((M 0) k.toNatClampNeg), (), rfl, (by rw [X4_set_r, if_pos c_3]), by rw [ht]; exact hP9, hD9⟩, hS.F ht⟩) hS.2.2 dX4_set_30
  · rw [if_neg c_3] at ey_2
    subst ey_2
    refine lv_if_ne (tgt := 11) hx hb dX4_set_5 (by decide) (fun c => absurd c (by decide)) (fun _ => ?_)
    refine lv_bipush (v := (-2)) hx hb dX4_set_8 (by decide +kernel) ?_
    subst hQ
    have hP9 : kz_P G [mdW G a (va_up (va_up (va_up M 0 (X4_set_c0 (M 0) (M 1) (M 2 0) k v)) 1 (X4_set_c1 (M 0) (M 1) (M 2 0) k v)) 2 (fun _ => (X4_set_c2 (M 0) (M 1) (M 2 0) k v)))] s.heap := by rw [X4_set_c0, if_neg c_3]; rw [X4_set_c1, if_neg c_3]; rw [X4_set_c2, if_neg c_3]; exact hP
    have hD9 : kz_D A [mdW G a (va_up (va_up (va_up M 0 (X4_set_c0 (M 0) (M 1) (M 2 0) k v)) 1 (X4_set_c1 (M 0) (M 1) (M 2 0) k v)) 2 (fun _ => (X4_set_c2 (M 0) (M 1) (M 2 0) k v)))] := by rw [X4_set_c0, if_neg c_3]; rw [X4_set_c1, if_neg c_3]; rw [X4_set_c2, if_neg c_3]; exact hD
    exact W.iret (v := (-2)) hx hb hr (fun t ht hW => ⟨⟨(-2), (), rfl, (by rw [X4_set_r, if_neg c_3]), by rw [ht]; exact hP9, hD9⟩, hS.F ht⟩) hS.2.2 dX4_set_10
