def X4_psn (z : Nat → Int32) : Nat → (Nat → Int32) × Int32
  | 0 => (z, 0)
  | n + 1 => (X4_begins_c0 (X4_psn z n).1, (X4_psn z n).2 + X4_begins_r (X4_psn z n).1)
def X4_passes_c0 (z0 : Nat → Int32) (n0 : Nat) : Nat → Int32 := (X4_psn z0 n0).1
def X4_passes_r (z0 : Nat → Int32) (n0 : Nat) : Int32 := (X4_psn z0 n0).2
theorem X4_psn_s {z y : Nat → Int32} {x : Int32} {i : Nat} (hT : (y, x) = X4_psn z i) : (X4_begins_c0 y, x + X4_begins_r y) = X4_psn z (i + 1) := by
  rw [X4_psn, ← hT]
set_option maxHeartbeats 1000000 in
set_option maxRecDepth 100000 in
theorem c_X4_passes (l : Launch) (G : kz_G) (a : Nat → Nat) (M : kz_S) (n0 : Nat) (hMP : kz_MP (M 0)) (hn0 : n0 < 2 ^ 20) : kz_mi l G yX4_passes wsX4_passes 4 87 [.ref (a 0), .int (nI n0)] [mdW G a M] [mdW G a (va_up M 0 (X4_passes_c0 (M 0) n0))] (X4_passes_r (M 0) n0) := by
  intro sz
  refine Met.ofW (cc := cX4_passes) (maxL := 4) (ret := (some .int)) (by decide) rfl ?_
  intro p e s m args below meth c s₁ B hml hv
  obtain ⟨rfl, hsz, hP, hK, hD0⟩ := hv
  have hx := B.exec
  have hb := B.bytes
  have hr := B.returns
  have hts := atoms_spec (ws := wsX4_passes) B.pre
  have hown : s.vm.findClass RX4 = some m.cls := findClass_of_methodNamed B.named
  have hlocks := B.notSynchronized
  subst hsz
  have hD := hD0.self (sz := s.heap.size)
  generalize hAe : kz_A [mdW G a M] s.heap.size = A at hD ⊢
  have hA : ∀ q : Nat, s.heap.size ≤ q → A q := fun q h => by rw [← hAe]; exact Or.inr h
  have hS : va_S A s.heap s.heap [] := va_S.rf
  have hl := lv_entry ([.ref (a 0), .int (nI n0)]) (n := 4) (Nat.le_of_ble_eq_true rfl)
  rw [lg_entry_eq]
  generalize (lg_sl ([.ref (a 0), .int (nI n0)]) ++ List.replicate (4 - (lg_sl ([.ref (a 0), .int (nI n0)])).length) Slot.unset).toArray = ls at hl ⊢
  have hl : lv_has ls 4 [(0, .ref (a 0)), (1, .int (nI n0))] := hl
  refine kz_start (fun QQ hQ => ?_)
  have hP : kz_P G [mdW G a M] s.heap := hP
  refine lv_iconst (v := 0) hx hb dX4_passes_0 (by decide +kernel) ?_
  refine lv_istore_n (lv' := [(2, .int 0), (0, .ref (a 0)), (1, .int (nI n0))]) hx hb dX4_passes_1 rfl hl (by decide) rfl (fun ls hl => ?_)
  refine lv_iconst (v := 0) hx hb dX4_passes_2 (by decide +kernel) ?_
  refine lv_istore_n (lv' := [(3, .int 0), (2, .int 0), (0, .ref (a 0)), (1, .int (nI n0))]) hx hb dX4_passes_3 rfl hl (by decide) rfl (fun ls hl => ?_)
  have L4_1 : ∀ (n4 : Nat) (i : Nat) (y0 : Nat → Int32) (x0 : Int32), (n0 - i < n4) → (i ≤ n0) → ((y0, x0) = X4_psn (M 0) i) → (kz_MP y0) → ∀ (H : Heap) (locs : List Loc), kz_P G [mdW G a (va_up M 0 y0)] H → kz_D A [mdW G a (va_up M 0 y0)] → va_S A s.heap H locs → ∀ ls : Array Slot, lv_has ls 4 [(3, .int (nI i)), (2, .int x0), (0, .ref (a 0)), (1, .int (nI n0))] → W p l e (headSpec wsX4_passes (kz_rm 4 87)).room s m ([.ref (a 0), .int (nI n0)] : List Value).toArray below meth c H locs 0 0 QQ (F0 m 4 ls []) := by
    intro n4
    induction n4 with
    | zero => intro i y0 x0 h0; exact absurd h0 (Nat.not_lt_zero _)
    | succ n4 ih4_2 =>
      intro i y0 x0 hmeas4 hi1 hT hMy H locs hP hD hS ls hl
      refine lv_iload_n hx hb dX4_passes_4 rfl (lv_at hl 0 rfl) ?_
      refine lv_iload_n hx hb dX4_passes_5 rfl (lv_at hl 3 rfl) ?_
      refine lv_icmp_ge (tgt := 22) hx hb dX4_passes_6 (by decide) (fun c_3 => ?_) (fun c_3 => ?_)
      · have hge := kz_le (a := n0) (b := i) c_3 (by omega) (by omega)
        have hin : i = n0 := by omega
        refine lv_iload_n hx hb dX4_passes_22 rfl (lv_at hl 1 rfl) ?_
        subst hQ
        have hP9 : kz_P G [mdW G a (va_up M 0 (X4_passes_c0 (M 0) n0))] H := by rw [X4_passes_c0, ← hin, ← hT]; exact hP
        have hD9 : kz_D A [mdW G a (va_up M 0 (X4_passes_c0 (M 0) n0))] := by rw [X4_passes_c0, ← hin, ← hT]; exact hD
        exact W.iret (v := x0) hx hb hr (fun t ht hW => ⟨⟨x0, (), rfl, (by rw [X4_passes_r, ← hin, ← hT]), by rw [ht]; exact hP9, hD9⟩, hS.F ht⟩) hS.2.2 dX4_passes_23
      · have hlt := kz_gt (a := n0) (b := i) c_3 (by omega) (by omega)
        refine lv_iload_n hx hb dX4_passes_9 rfl (lv_at hl 1 rfl) ?_
        refine lv_aload_n hx hb dX4_passes_10 rfl (lv_at hl 2 rfl) ?_
        refine kz_miV (As := []) (rest := [.int x0]) (b := a 0) (wr := []) (bs' := [mdW G a (va_up M 0 (X4_begins_c0 y0))]) ⟨hx, hb, hml, hown, hts⟩ (c_X4_begins l G a (va_up M 0 y0) (by rw [va_up_self]; exact hMy)) (cwV 0 hts gX4_passes_X4_begins rfl rfl rfl (by decide +kernel) ⟨Nat.le_of_ble_eq_true rfl, Nat.le_of_ble_eq_true rfl⟩) hK hP hD hS hA [0] [] [0] rfl (by decide) rfl (by decide) (by decide) rfl (by decide) (kz_recv hK hP (ci := 4) (q0 := 0) rfl rfl) rfl hl.1 rfl (Nat.le_of_ble_eq_true rfl) dX4_passes_11 ⟨Nat.le_of_ble_eq_true rfl, Nat.le_of_ble_eq_true rfl⟩ (fun H locs hP hD hS => ?_)
        refine lv_iadd hx hb dX4_passes_14 ?_
        refine lv_istore_n (lv' := [(2, .int (x0 + (X4_begins_r y0))), (3, .int (nI i)), (0, .ref (a 0)), (1, .int (nI n0))]) hx hb dX4_passes_15 rfl hl (by decide) rfl (fun ls hl => ?_)
        refine lv_iinc (v := (nI (i + 1))) (lv' := [(3, .int (nI (i + 1))), (2, .int (x0 + (X4_begins_r y0))), (0, .ref (a 0)), (1, .int (nI n0))]) hx hb dX4_passes_16 hl (k := 1) rfl (nI_1 _) (by decide) rfl (fun ls hl => ?_)
        refine lv_goto (tgt := 4) hx hb dX4_passes_19 (by decide) ?_
        exact ih4_2 (i + 1) (X4_begins_c0 y0) (x0 + (X4_begins_r y0)) (by omega) (by omega) (X4_psn_s hT) (kz_MP_begins hMy) H locs hP hD hS ls (lv_sub hl [0, 1, 2, 3] rfl)
  exact L4_1 _ 0 (M 0) 0 (Nat.lt_succ_self _) (by omega) rfl hMP s.heap [] hP hD hS ls (lv_sub hl [0, 1, 2, 3] rfl)
def X4_whyNotPass_r (z0 : Nat → Int32) (d : Int32) : Int32 := if X4_in_p d 1 30 then (if ((z0 5) + d) ≤ 9999 then 0 else (-4)) else (-2)
set_option maxHeartbeats 1000000 in
set_option maxRecDepth 100000 in
theorem c_X4_whyNotPass (l : Launch) (G : kz_G) (a : Nat → Nat) (M : kz_S) (d : Int32) : kz_rd l G yX4_whyNotPass wsX4_whyNotPass 1 22 [.ref (a 0), .int d] [mdW G a M] (X4_whyNotPass_r (M 0) d) := by
  refine Met.ofW (cc := cX4_whyNotPass) (maxL := 2) (ret := (some .int)) (by decide) rfl ?_
  intro p e s m args below meth c s₁ B hml hv
  obtain ⟨rfl, hP, hK⟩ := hv
  have hx := B.exec
  have hb := B.bytes
  have hr := B.returns
  have hts := atoms_spec (ws := wsX4_whyNotPass) B.pre
  have hown : s.vm.findClass RX4 = some m.cls := findClass_of_methodNamed B.named
  have hlocks := B.notSynchronized
  have hinX4 : ∀ w ∈ u_ws RX4 TX4 14, w ∈ wsX4_whyNotPass := by decide +kernel
  have hl := lv_entry ([.ref (a 0), .int d]) (n := 2) (Nat.le_of_ble_eq_true rfl)
  rw [lg_entry_eq]
  generalize (lg_sl ([.ref (a 0), .int d]) ++ List.replicate (2 - (lg_sl ([.ref (a 0), .int d])).length) Slot.unset).toArray = ls at hl ⊢
  have hl : lv_has ls 2 [(0, .ref (a 0)), (1, .int d)] := hl
  refine kz_start (fun QQ hQ => ?_)
  refine lv_iload_n hx hb dX4_whyNotPass_0 rfl (lv_at hl 1 rfl) ?_
  refine lv_iconst (v := 1) hx hb dX4_whyNotPass_1 (by decide +kernel) ?_
  refine lv_bipush (v := 30) hx hb dX4_whyNotPass_2 (by decide +kernel) ?_
  refine kz_rdS (As := [.int d, .int 1, .int 30]) (rest := []) ⟨hx, hb, hml, hown, hts⟩ (c_X4_in l G d 1 30) (va_cwS 3 hts gX4_whyNotPass_X4_in rfl rfl rfl (by decide +kernel) ⟨Nat.le_of_ble_eq_true rfl, Nat.le_of_ble_eq_true rfl⟩) hK (hP.sub (cs := []) [] rfl) rfl hl.1 rfl (Nat.le_of_ble_eq_true rfl) dX4_whyNotPass_4 ⟨Nat.le_of_ble_eq_true rfl, Nat.le_of_ble_eq_true rfl⟩ ?_
  refine lv_topi (fun y_1 ey_2 => ?_)
  by_cases c_3 : X4_in_p d 1 30
  · rw [if_pos c_3] at ey_2
    subst ey_2
    refine lv_if_ne (tgt := 15) hx hb dX4_whyNotPass_7 (by decide) (fun _ => ?_) (fun c => absurd c (by decide))
    refine lv_aload_n hx hb dX4_whyNotPass_15 rfl (lv_at hl 0 rfl) ?_
    refine va_get (D := G.1) (ci := 4) (v := .ref (a 1)) (C := RX4) (T := TX4) (N := 14) hx hb hts hinX4 hown hK.1 hP 0 rfl rfl 0 (by decide) (hts (.fieldLink RX4 7 "ParcelShelvesModel" "z" "[I") (by decide +kernel)) (fun _ h9 => h9) rfl dX4_whyNotPass_16 ?_
    refine lv_iconst (v := 5) hx hb dX4_whyNotPass_19 (by decide +kernel) ?_
    refine va_iald (f := (M 0)) hx hb hK.1 hP 1 0 rfl rfl (vp_in_nI (n := 5) (N := 580) (by decide) (by decide)) dX4_whyNotPass_20 ?_
    refine lv_topi (fun y_4 ey_5 => ?_)
    obtain rfl : y_4 = ((M 0) 5) := by rw [ey_5]; rfl
    refine lv_iload_n hx hb dX4_whyNotPass_21 rfl (lv_at hl 1 rfl) ?_
    refine lv_iadd hx hb dX4_whyNotPass_22 ?_
    refine lv_sipush (v := 9999) hx hb dX4_whyNotPass_23 (by decide +kernel) ?_
    refine lv_icmp_le (tgt := 34) hx hb dX4_whyNotPass_26 (by decide) (fun c_6 => ?_) (fun c_6 => ?_)
    · refine lv_iconst (v := 0) hx hb dX4_whyNotPass_34 (by decide +kernel) ?_
      subst hQ
      exact W.iret (v := 0) hx hb hr (fun t ht _ => ⟨0, rfl, (by rw [X4_whyNotPass_r, if_pos c_3, if_pos c_6]), ht⟩) (fun _ h9 => absurd h9 List.not_mem_nil) dX4_whyNotPass_35
    · refine lv_bipush (v := (-4)) hx hb dX4_whyNotPass_29 (by decide +kernel) ?_
      refine lv_goto (tgt := 35) hx hb dX4_whyNotPass_31 (by decide) ?_
      subst hQ
      exact W.iret (v := (-4)) hx hb hr (fun t ht _ => ⟨(-4), rfl, (by rw [X4_whyNotPass_r, if_pos c_3, if_neg c_6]), ht⟩) (fun _ h9 => absurd h9 List.not_mem_nil) dX4_whyNotPass_35
  · rw [if_neg c_3] at ey_2
    subst ey_2
    refine lv_if_ne (tgt := 15) hx hb dX4_whyNotPass_7 (by decide) (fun c => absurd c (by decide)) (fun _ => ?_)
    refine lv_bipush (v := (-2)) hx hb dX4_whyNotPass_10 (by decide +kernel) ?_
    refine lv_goto (tgt := 35) hx hb dX4_whyNotPass_12 (by decide) ?_
    subst hQ
    exact W.iret (v := (-2)) hx hb hr (fun t ht _ => ⟨(-2), rfl, (by rw [X4_whyNotPass_r, if_neg c_3]), ht⟩) (fun _ h9 => absurd h9 List.not_mem_nil) dX4_whyNotPass_35
theorem kz_wnp {z : Nat → Int32} {d : Int32} (h : 0 ≤ X4_whyNotPass_r z d) : X4_in_p d 1 30 := by
  rw [X4_whyNotPass_r] at h
  by_cases c : X4_in_p d 1 30
  · exact c
  · rw [if_neg c] at h
    exact absurd h (by decide)

def X4_pass_r (z0 : Nat → Int32) (z1 : Nat → Int32) (z2 : Int32) (d : Int32) : Int32 := if 0 ≤ (X4_whyNotPass_r z0 d) then (X4_passes_r z0 d.toNatClampNeg) else (X4_whyNotPass_r z0 d)
def X4_pass_c0 (z0 : Nat → Int32) (z1 : Nat → Int32) (z2 : Int32) (d : Int32) : Nat → Int32 := if 0 ≤ (X4_whyNotPass_r z0 d) then (X4_passes_c0 z0 d.toNatClampNeg) else z0
def X4_pass_c1 (z0 : Nat → Int32) (z1 : Nat → Int32) (z2 : Int32) (d : Int32) : Nat → Int32 := if 0 ≤ (X4_whyNotPass_r z0 d) then (X4_record_c1 z0 z1 z2) else z1
def X4_pass_c2 (z0 : Nat → Int32) (z1 : Nat → Int32) (z2 : Int32) (d : Int32) : Int32 := if 0 ≤ (X4_whyNotPass_r z0 d) then (X4_record_c2 z0 z1 z2) else z2
set_option maxHeartbeats 1000000 in
set_option maxRecDepth 100000 in
theorem c_X4_pass (l : Launch) (G : kz_G) (a : Nat → Nat) (M : kz_S) (d : Int32) (hMP : kz_MP (M 0)) (hpm : ∃ n, n ≤ 5 ∧ M 2 0 = nI n) : kz_mi l G yX4_pass wsX4_pass 5 110 [.ref (a 0), .int d] [mdW G a M] [mdW G a (va_up (va_up (va_up M 0 (X4_pass_c0 (M 0) (M 1) (M 2 0) d)) 1 (X4_pass_c1 (M 0) (M 1) (M 2 0) d)) 2 (fun _ => (X4_pass_c2 (M 0) (M 1) (M 2 0) d)))] (X4_pass_r (M 0) (M 1) (M 2 0) d) := by
  intro sz
  refine Met.ofW (cc := cX4_pass) (maxL := 3) (ret := (some .int)) (by decide) rfl ?_
  intro p e s m args below meth c s₁ B hml hv
  obtain ⟨rfl, hsz, hP, hK, hD0⟩ := hv
  have hx := B.exec
  have hb := B.bytes
  have hr := B.returns
  have hts := atoms_spec (ws := wsX4_pass) B.pre
  have hown : s.vm.findClass RX4 = some m.cls := findClass_of_methodNamed B.named
  have hlocks := B.notSynchronized
  subst hsz
  have hD := hD0.self (sz := s.heap.size)
  generalize hAe : kz_A [mdW G a M] s.heap.size = A at hD ⊢
  have hA : ∀ q : Nat, s.heap.size ≤ q → A q := fun q h => by rw [← hAe]; exact Or.inr h
  have hS : va_S A s.heap s.heap [] := va_S.rf
  have hl := lv_entry ([.ref (a 0), .int d]) (n := 3) (Nat.le_of_ble_eq_true rfl)
  rw [lg_entry_eq]
  generalize (lg_sl ([.ref (a 0), .int d]) ++ List.replicate (3 - (lg_sl ([.ref (a 0), .int d])).length) Slot.unset).toArray = ls at hl ⊢
  have hl : lv_has ls 3 [(0, .ref (a 0)), (1, .int d)] := hl
  refine kz_start (fun QQ hQ => ?_)
  have hP : kz_P G [mdW G a M] s.heap := hP
  refine lv_aload_n hx hb dX4_pass_0 rfl (lv_at hl 0 rfl) ?_
  refine lv_iload_n hx hb dX4_pass_1 rfl (lv_at hl 1 rfl) ?_
  refine kz_rdV (As := [.int d]) (rest := []) (b := a 0) ⟨hx, hb, hml, hown, hts⟩ (c_X4_whyNotPass l G a M d) (cwV 1 hts gX4_pass_X4_whyNotPass rfl rfl rfl (by decide +kernel) ⟨Nat.le_of_ble_eq_true rfl, Nat.le_of_ble_eq_true rfl⟩) hK hP (kz_recv hK hP (ci := 4) (q0 := 0) rfl rfl) rfl hl.1 rfl (Nat.le_of_ble_eq_true rfl) dX4_pass_2 ⟨Nat.le_of_ble_eq_true rfl, Nat.le_of_ble_eq_true rfl⟩ ?_
  refine lv_istore_n (lv' := [(2, .int (X4_whyNotPass_r (M 0) d)), (0, .ref (a 0)), (1, .int d)]) hx hb dX4_pass_5 rfl hl (by decide) rfl (fun ls hl => ?_)
  refine lv_iload_n hx hb dX4_pass_6 rfl (lv_at hl 0 rfl) ?_
  refine lv_if_ge (tgt := 12) hx hb dX4_pass_7 (by decide) (fun c_1 => ?_) (fun c_1 => ?_)
  · have hwn := kz_wnp c_1
    obtain ⟨hcv2, hcl2⟩ := kz_back (kz_wi1In 30 hwn rfl (by decide)) (by decide)
    have hl : lv_has ls 3 [(2, .int (X4_whyNotPass_r (M 0) d)), (0, .ref (a 0)), (1, .int (nI d.toNatClampNeg))] := by rw [← hcv2]; exact hl
    refine lv_aload_n hx hb dX4_pass_12 rfl (lv_at hl 1 rfl) ?_
    refine kz_mvV (As := []) (rest := []) (b := a 0) (wr := []) (bs' := [mdW G a (va_up (va_up M 1 (X4_record_c1 (M 0) (M 1) (M 2 0))) 2 (fun _ => (X4_record_c2 (M 0) (M 1) (M 2 0))))]) ⟨hx, hb, hml, hown, hts⟩ (c_X4_record l G a M hpm) (cwV 0 hts gX4_pass_X4_record rfl rfl rfl (by decide +kernel) ⟨Nat.le_of_ble_eq_true rfl, Nat.le_of_ble_eq_true rfl⟩) hK hP hD hS hA [0] [] [0] rfl (by decide) rfl (by decide) (by decide) rfl (by decide) (kz_recv hK hP (ci := 4) (q0 := 0) rfl rfl) rfl hl.1 rfl (Nat.le_of_ble_eq_true rfl) dX4_pass_13 ⟨Nat.le_of_ble_eq_true rfl, Nat.le_of_ble_eq_true rfl⟩ (fun H locs hP hD hS => ?_)
    refine lv_aload_n hx hb dX4_pass_16 rfl (lv_at hl 1 rfl) ?_
    refine lv_iload_n hx hb dX4_pass_17 rfl (lv_at hl 2 rfl) ?_
    refine kz_miV (As := [.int (nI d.toNatClampNeg)]) (rest := []) (b := a 0) (wr := []) (bs' := [mdW G a (va_up (va_up (va_up M 1 (X4_record_c1 (M 0) (M 1) (M 2 0))) 2 (fun _ => (X4_record_c2 (M 0) (M 1) (M 2 0)))) 0 (X4_passes_c0 (M 0) d.toNatClampNeg))]) ⟨hx, hb, hml, hown, hts⟩ (c_X4_passes l G a (va_up (va_up M 1 (X4_record_c1 (M 0) (M 1) (M 2 0))) 2 (fun _ => (X4_record_c2 (M 0) (M 1) (M 2 0)))) d.toNatClampNeg hMP (by omega)) (cwV 1 hts gX4_pass_X4_passes rfl rfl rfl (by decide +kernel) ⟨Nat.le_of_ble_eq_true rfl, Nat.le_of_ble_eq_true rfl⟩) hK hP hD hS hA [0] [] [0] rfl (by decide) rfl (by decide) (by decide) rfl (by decide) (kz_recv hK hP (ci := 4) (q0 := 0) rfl rfl) rfl hl.1 rfl (Nat.le_of_ble_eq_true rfl) dX4_pass_18 ⟨Nat.le_of_ble_eq_true rfl, Nat.le_of_ble_eq_true rfl⟩ (fun H locs hP hD hS => ?_)
    subst hQ
    have hP9 : kz_P G [mdW G a (va_up (va_up (va_up M 0 (X4_pass_c0 (M 0) (M 1) (M 2 0) d)) 1 (X4_pass_c1 (M 0) (M 1) (M 2 0) d)) 2 (fun _ => (X4_pass_c2 (M 0) (M 1) (M 2 0) d)))] H := by rw [X4_pass_c0, if_pos c_1]; rw [X4_pass_c1, if_pos c_1]; rw [X4_pass_c2, if_pos c_1]; exact hP
    have hD9 : kz_D A [mdW G a (va_up (va_up (va_up M 0 (X4_pass_c0 (M 0) (M 1) (M 2 0) d)) 1 (X4_pass_c1 (M 0) (M 1) (M 2 0) d)) 2 (fun _ => (X4_pass_c2 (M 0) (M 1) (M 2 0) d)))] := by rw [X4_pass_c0, if_pos c_1]; rw [X4_pass_c1, if_pos c_1]; rw [X4_pass_c2, if_pos c_1]; exact hD
    exact W.iret (v := (X4_passes_r (M 0) d.toNatClampNeg)) hx hb hr (fun t ht hW => ⟨⟨(X4_passes_r (M 0) d.toNatClampNeg), (), rfl, (by rw [X4_pass_r, if_pos c_1]), by rw [ht]; exact hP9, hD9⟩, hS.F ht⟩) hS.2.2 dX4_pass_21
  · refine lv_iload_n hx hb dX4_pass_10 rfl (lv_at hl 0 rfl) ?_
    subst hQ
    have hP9 : kz_P G [mdW G a (va_up (va_up (va_up M 0 (X4_pass_c0 (M 0) (M 1) (M 2 0) d)) 1 (X4_pass_c1 (M 0) (M 1) (M 2 0) d)) 2 (fun _ => (X4_pass_c2 (M 0) (M 1) (M 2 0) d)))] s.heap := by rw [X4_pass_c0, if_neg c_1]; rw [X4_pass_c1, if_neg c_1]; rw [X4_pass_c2, if_neg c_1]; exact hP
    have hD9 : kz_D A [mdW G a (va_up (va_up (va_up M 0 (X4_pass_c0 (M 0) (M 1) (M 2 0) d)) 1 (X4_pass_c1 (M 0) (M 1) (M 2 0) d)) 2 (fun _ => (X4_pass_c2 (M 0) (M 1) (M 2 0) d)))] := by rw [X4_pass_c0, if_neg c_1]; rw [X4_pass_c1, if_neg c_1]; rw [X4_pass_c2, if_neg c_1]; exact hD
    exact W.iret (v := (X4_whyNotPass_r (M 0) d)) hx hb hr (fun t ht hW => ⟨⟨(X4_whyNotPass_r (M 0) d), (), rfl, (by rw [X4_pass_r, if_neg c_1]), by rw [ht]; exact hP9, hD9⟩, hS.F ht⟩) hS.2.2 dX4_pass_11
def X4_chargesIn_r (z0 : Nat → Int32) (z5 : Nat → Int32) (d : Int32) : Int32 := if X4_in_p d 1 30 then (((X4_passes_c0 z0 d.toNatClampNeg) 11) - ((X4_takeBack_c0 (X4_passes_c0 z0 d.toNatClampNeg) (X4_putAside_c5 z0 z5)) 11)) else (-2)
def X4_chargesIn_c0 (z0 : Nat → Int32) (z5 : Nat → Int32) (d : Int32) : Nat → Int32 := if X4_in_p d 1 30 then (X4_takeBack_c0 (X4_passes_c0 z0 d.toNatClampNeg) (X4_putAside_c5 z0 z5)) else z0
def X4_chargesIn_c5 (z0 : Nat → Int32) (z5 : Nat → Int32) (d : Int32) : Nat → Int32 := if X4_in_p d 1 30 then (X4_putAside_c5 z0 z5) else z5
set_option maxHeartbeats 1000000 in
set_option maxRecDepth 100000 in
theorem c_X4_chargesIn (l : Launch) (G : kz_G) (a : Nat → Nat) (M : kz_S) (d : Int32) (hMP : kz_MP (M 0)) : kz_mi l G yX4_chargesIn wsX4_chargesIn 5 110 [.ref (a 0), .int d] [mdW G a M] [mdW G a (va_up (va_up M 0 (X4_chargesIn_c0 (M 0) (M 5) d)) 5 (X4_chargesIn_c5 (M 0) (M 5) d))] (X4_chargesIn_r (M 0) (M 5) d) := by
  intro sz
  refine Met.ofW (cc := cX4_chargesIn) (maxL := 3) (ret := (some .int)) (by decide) rfl ?_
  intro p e s m args below meth c s₁ B hml hv
  obtain ⟨rfl, hsz, hP, hK, hD0⟩ := hv
  have hx := B.exec
  have hb := B.bytes
  have hr := B.returns
  have hts := atoms_spec (ws := wsX4_chargesIn) B.pre
  have hown : s.vm.findClass RX4 = some m.cls := findClass_of_methodNamed B.named
  have hlocks := B.notSynchronized
  have hinX4 : ∀ w ∈ u_ws RX4 TX4 14, w ∈ wsX4_chargesIn := by decide +kernel
  subst hsz
  have hD := hD0.self (sz := s.heap.size)
  generalize hAe : kz_A [mdW G a M] s.heap.size = A at hD ⊢
  have hA : ∀ q : Nat, s.heap.size ≤ q → A q := fun q h => by rw [← hAe]; exact Or.inr h
  have hS : va_S A s.heap s.heap [] := va_S.rf
  have hl := lv_entry ([.ref (a 0), .int d]) (n := 3) (Nat.le_of_ble_eq_true rfl)
  rw [lg_entry_eq]
  generalize (lg_sl ([.ref (a 0), .int d]) ++ List.replicate (3 - (lg_sl ([.ref (a 0), .int d])).length) Slot.unset).toArray = ls at hl ⊢
  have hl : lv_has ls 3 [(0, .ref (a 0)), (1, .int d)] := hl
  refine kz_start (fun QQ hQ => ?_)
  have hP : kz_P G [mdW G a M] s.heap := hP
  refine lv_iload_n hx hb dX4_chargesIn_0 rfl (lv_at hl 1 rfl) ?_
  refine lv_iconst (v := 1) hx hb dX4_chargesIn_1 (by decide +kernel) ?_
  refine lv_bipush (v := 30) hx hb dX4_chargesIn_2 (by decide +kernel) ?_
  refine kz_rdS (As := [.int d, .int 1, .int 30]) (rest := []) ⟨hx, hb, hml, hown, hts⟩ (c_X4_in l G d 1 30) (va_cwS 3 hts gX4_chargesIn_X4_in rfl rfl rfl (by decide +kernel) ⟨Nat.le_of_ble_eq_true rfl, Nat.le_of_ble_eq_true rfl⟩) hK (hP.sub (cs := []) [] rfl) rfl hl.1 rfl (Nat.le_of_ble_eq_true rfl) dX4_chargesIn_4 ⟨Nat.le_of_ble_eq_true rfl, Nat.le_of_ble_eq_true rfl⟩ ?_
  refine lv_topi (fun y_1 ey_2 => ?_)
  by_cases c_3 : X4_in_p d 1 30
  · rw [if_pos c_3] at ey_2
    subst ey_2
    obtain ⟨hcv4, hcl4⟩ := kz_back (kz_wi1In 30 c_3 rfl (by decide)) (by decide)
    have hl : lv_has ls 3 [(0, .ref (a 0)), (1, .int (nI d.toNatClampNeg))] := by rw [← hcv4]; exact hl
    refine lv_if_ne (tgt := 13) hx hb dX4_chargesIn_7 (by decide) (fun _ => ?_) (fun c => absurd c (by decide))
    refine lv_aload_n hx hb dX4_chargesIn_13 rfl (lv_at hl 0 rfl) ?_
    refine kz_mvV (As := []) (rest := []) (b := a 0) (wr := []) (bs' := [mdW G a (va_up M 5 (X4_putAside_c5 (M 0) (M 5)))]) ⟨hx, hb, hml, hown, hts⟩ (c_X4_putAside l G a M) (cwV 0 hts gX4_chargesIn_X4_putAside rfl rfl rfl (by decide +kernel) ⟨Nat.le_of_ble_eq_true rfl, Nat.le_of_ble_eq_true rfl⟩) hK hP hD hS hA [0] [] [0] rfl (by decide) rfl (by decide) (by decide) rfl (by decide) (kz_recv hK hP (ci := 4) (q0 := 0) rfl rfl) rfl hl.1 rfl (Nat.le_of_ble_eq_true rfl) dX4_chargesIn_14 ⟨Nat.le_of_ble_eq_true rfl, Nat.le_of_ble_eq_true rfl⟩ (fun H locs hP hD hS => ?_)
    refine lv_aload_n hx hb dX4_chargesIn_17 rfl (lv_at hl 0 rfl) ?_
    refine lv_iload_n hx hb dX4_chargesIn_18 rfl (lv_at hl 1 rfl) ?_
    refine kz_miV (As := [.int (nI d.toNatClampNeg)]) (rest := []) (b := a 0) (wr := []) (bs' := [mdW G a (va_up (va_up M 5 (X4_putAside_c5 (M 0) (M 5))) 0 (X4_passes_c0 (M 0) d.toNatClampNeg))]) ⟨hx, hb, hml, hown, hts⟩ (c_X4_passes l G a (va_up M 5 (X4_putAside_c5 (M 0) (M 5))) d.toNatClampNeg hMP (by omega)) (cwV 1 hts gX4_chargesIn_X4_passes rfl rfl rfl (by decide +kernel) ⟨Nat.le_of_ble_eq_true rfl, Nat.le_of_ble_eq_true rfl⟩) hK hP hD hS hA [0] [] [0] rfl (by decide) rfl (by decide) (by decide) rfl (by decide) (kz_recv hK hP (ci := 4) (q0 := 0) rfl rfl) rfl hl.1 rfl (Nat.le_of_ble_eq_true rfl) dX4_chargesIn_19 ⟨Nat.le_of_ble_eq_true rfl, Nat.le_of_ble_eq_true rfl⟩ (fun H locs hP hD hS => ?_)
    obtain ⟨y1, ey1⟩ : ∃ z, z = (X4_passes_c0 (M 0) d.toNatClampNeg) := ⟨_, rfl⟩
    have hP : kz_P G [mdW G a (va_up (va_up M 5 (X4_putAside_c5 (M 0) (M 5))) 0 y1)] H := by rw [ey1]; exact hP
    have hD : kz_D A [mdW G a (va_up (va_up M 5 (X4_putAside_c5 (M 0) (M 5))) 0 y1)] := by rw [ey1]; exact hD
    refine lv_pop hx hb dX4_chargesIn_22 rfl ?_
    refine lv_aload_n hx hb dX4_chargesIn_23 rfl (lv_at hl 0 rfl) ?_
    refine va_get (D := G.1) (ci := 4) (v := .ref (a 1)) (C := RX4) (T := TX4) (N := 14) hx hb hts hinX4 hown hK.1 hP 0 rfl rfl 0 (by decide) (hts (.fieldLink RX4 7 "ParcelShelvesModel" "z" "[I") (by decide +kernel)) (fun _ h9 => h9) rfl dX4_chargesIn_24 ?_
    refine lv_bipush (v := 11) hx hb dX4_chargesIn_27 (by decide +kernel) ?_
    refine va_iald (f := y1) hx hb hK.1 hP 1 0 rfl rfl (vp_in_nI (n := 11) (N := 580) (by decide) (by decide)) dX4_chargesIn_29 ?_
    refine lv_topi (fun y_5 ey_6 => ?_)
    obtain rfl : y_5 = (y1 11) := by rw [ey_6]; rfl
    refine lv_istore_n (lv' := [(2, .int (y1 11)), (0, .ref (a 0)), (1, .int (nI d.toNatClampNeg))]) hx hb dX4_chargesIn_30 rfl hl (by decide) rfl (fun ls hl => ?_)
    refine lv_aload_n hx hb dX4_chargesIn_31 rfl (lv_at hl 1 rfl) ?_
    refine kz_mvV (As := []) (rest := []) (b := a 0) (wr := []) (bs' := [mdW G a (va_up (va_up M 5 (X4_putAside_c5 (M 0) (M 5))) 0 (X4_takeBack_c0 y1 (X4_putAside_c5 (M 0) (M 5))))]) ⟨hx, hb, hml, hown, hts⟩ (c_X4_takeBack l G a (va_up (va_up M 5 (X4_putAside_c5 (M 0) (M 5))) 0 y1)) (cwV 0 hts gX4_chargesIn_X4_takeBack rfl rfl rfl (by decide +kernel) ⟨Nat.le_of_ble_eq_true rfl, Nat.le_of_ble_eq_true rfl⟩) hK hP hD hS hA [0] [] [0] rfl (by decide) rfl (by decide) (by decide) rfl (by decide) (kz_recv hK hP (ci := 4) (q0 := 0) rfl rfl) rfl hl.1 rfl (Nat.le_of_ble_eq_true rfl) dX4_chargesIn_32 ⟨Nat.le_of_ble_eq_true rfl, Nat.le_of_ble_eq_true rfl⟩ (fun H locs hP hD hS => ?_)
    obtain ⟨y2, ey2⟩ : ∃ z, z = (X4_takeBack_c0 y1 (X4_putAside_c5 (M 0) (M 5))) := ⟨_, rfl⟩
    have hP : kz_P G [mdW G a (va_up (va_up M 5 (X4_putAside_c5 (M 0) (M 5))) 0 y2)] H := by rw [ey2]; exact hP
    have hD : kz_D A [mdW G a (va_up (va_up M 5 (X4_putAside_c5 (M 0) (M 5))) 0 y2)] := by rw [ey2]; exact hD
    refine lv_iload_n hx hb dX4_chargesIn_35 rfl (lv_at hl 0 rfl) ?_
    refine lv_aload_n hx hb dX4_chargesIn_36 rfl (lv_at hl 1 rfl) ?_
    refine va_get (D := G.1) (ci := 4) (v := .ref (a 1)) (C := RX4) (T := TX4) (N := 14) hx hb hts hinX4 hown hK.1 hP 0 rfl rfl 0 (by decide) (hts (.fieldLink RX4 7 "ParcelShelvesModel" "z" "[I") (by decide +kernel)) (fun _ h9 => h9) rfl dX4_chargesIn_37 ?_
    refine lv_bipush (v := 11) hx hb dX4_chargesIn_40 (by decide +kernel) ?_
    refine va_iald (f := y2) hx hb hK.1 hP 1 0 rfl rfl (vp_in_nI (n := 11) (N := 580) (by decide) (by decide)) dX4_chargesIn_42 ?_
    refine lv_topi (fun y_7 ey_8 => ?_)
    obtain rfl : y_7 = (y2 11) := by rw [ey_8]; rfl
    refine lv_isub hx hb dX4_chargesIn_43 ?_
    subst hQ
    subst ey2
    subst ey1
    have hP9 : kz_P G [mdW G a (va_up (va_up M 0 (X4_chargesIn_c0 (M 0) (M 5) d)) 5 (X4_chargesIn_c5 (M 0) (M 5) d))] H := by rw [X4_chargesIn_c0, if_pos c_3]; rw [X4_chargesIn_c5, if_pos c_3]; exact hP
    have hD9 : kz_D A [mdW G a (va_up (va_up M 0 (X4_chargesIn_c0 (M 0) (M 5) d)) 5 (X4_chargesIn_c5 (M 0) (M 5) d))] := by rw [X4_chargesIn_c0, if_pos c_3]; rw [X4_chargesIn_c5, if_pos c_3]; exact hD
    exact W.iret (v := (((X4_passes_c0 (M 0) d.toNatClampNeg) 11) - ((X4_takeBack_c0 (X4_passes_c0 (M 0) d.toNatClampNeg) (X4_putAside_c5 (M 0) (M 5))) 11))) hx hb hr (fun t ht hW => ⟨⟨(((X4_passes_c0 (M 0) d.toNatClampNeg) 11) - ((X4_takeBack_c0 (X4_passes_c0 (M 0) d.toNatClampNeg) (X4_putAside_c5 (M 0) (M 5))) 11)), (), rfl, (by rw [X4_chargesIn_r, if_pos c_3]), by rw [ht]; exact hP9, hD9⟩, hS.F ht⟩) hS.2.2 dX4_chargesIn_44
  · rw [if_neg c_3] at ey_2
    subst ey_2
    refine lv_if_ne (tgt := 13) hx hb dX4_chargesIn_7 (by decide) (fun c => absurd c (by decide)) (fun _ => ?_)
    refine lv_bipush (v := (-2)) hx hb dX4_chargesIn_10 (by decide +kernel) ?_
    subst hQ
    have hP9 : kz_P G [mdW G a (va_up (va_up M 0 (X4_chargesIn_c0 (M 0) (M 5) d)) 5 (X4_chargesIn_c5 (M 0) (M 5) d))] s.heap := by rw [X4_chargesIn_c0, if_neg c_3]; rw [X4_chargesIn_c5, if_neg c_3]; exact hP
    have hD9 : kz_D A [mdW G a (va_up (va_up M 0 (X4_chargesIn_c0 (M 0) (M 5) d)) 5 (X4_chargesIn_c5 (M 0) (M 5) d))] := by rw [X4_chargesIn_c0, if_neg c_3]; rw [X4_chargesIn_c5, if_neg c_3]; exact hD
    exact W.iret (v := (-2)) hx hb hr (fun t ht hW => ⟨⟨(-2), (), rfl, (by rw [X4_chargesIn_r, if_neg c_3]), by rw [ht]; exact hP9, hD9⟩, hS.F ht⟩) hS.2.2 dX4_chargesIn_12
def X4_days (z : Nat → Int32) : Nat → Nat → Int32
  | 0 => z
  | n + 1 => X4_begins_c0 (X4_days z n)
/-- the days until a place is free, by trying at most n of them from day i on -/
def X4_gi (z : Nat → Int32) (j : Nat) : Nat → Nat → Int32
  | i, 0 => if X4_isTaken_p (X4_days z i) j then (-6) else nI i
  | i, n + 1 => if X4_isTaken_p (X4_days z i) j then X4_gi z j (i + 1) n else nI i
def X4_gn (z : Nat → Int32) (j : Nat) : Nat → Nat → Nat
  | i, 0 => i
  | i, n + 1 => if X4_isTaken_p (X4_days z i) j then X4_gn z j (i + 1) n else i
def X4_goesIn_r (z0 z5 : Nat → Int32) (code : Int32) : Int32 := if X4_placeBy_r z0 code = (-6) then (-1) else X4_gi z0 (X4_placeBy_r z0 code).toNatClampNeg 0 60
def X4_goesIn_c5 (z0 z5 : Nat → Int32) (code : Int32) : Nat → Int32 := if X4_placeBy_r z0 code = (-6) then z5 else X4_putAside_c5 z0 z5
def X4_goesIn_c0 (z0 z5 : Nat → Int32) (code : Int32) : Nat → Int32 := if X4_placeBy_r z0 code = (-6) then z0 else X4_takeBack_c0 (X4_days z0 (X4_gn z0 (X4_placeBy_r z0 code).toNatClampNeg 0 60)) (X4_putAside_c5 z0 z5)
theorem X4_gi_t {z : Nat → Int32} {j i : Nat} (h : i < 60) (c : X4_isTaken_p (X4_days z i) j) : X4_gi z j i (60 - i) = X4_gi z j (i + 1) (60 - (i + 1)) ∧ X4_gn z j i (60 - i) = X4_gn z j (i + 1) (60 - (i + 1)) := by
  rw [show 60 - i = (60 - (i + 1)) + 1 by omega, X4_gi, X4_gn, if_pos c, if_pos c]
  exact ⟨rfl, rfl⟩
theorem X4_gi_f {z : Nat → Int32} {j i : Nat} (h : i ≤ 60) (c : ¬ X4_isTaken_p (X4_days z i) j) : X4_gi z j i (60 - i) = nI i ∧ X4_gn z j i (60 - i) = i := by
  cases hn : 60 - i with
  | zero => rw [X4_gi, X4_gn, if_neg c]; exact ⟨rfl, rfl⟩
  | succ n => rw [X4_gi, X4_gn, if_neg c, if_neg c]; exact ⟨rfl, rfl⟩
theorem X4_gi_e {z : Nat → Int32} {j i : Nat} (h : 60 ≤ i) : X4_gi z j i (60 - i) = (if X4_isTaken_p (X4_days z i) j then (-6) else nI i) ∧ X4_gn z j i (60 - i) = i := by
  rw [show 60 - i = 0 by omega, X4_gi, X4_gn]
  exact ⟨rfl, rfl⟩
set_option maxHeartbeats 1000000 in
set_option maxRecDepth 100000 in
theorem c_X4_goesIn (l : Launch) (G : kz_G) (a : Nat → Nat) (M : kz_S) (code : Int32) (hM : kz_M (M 0)) : kz_mi l G yX4_goesIn wsX4_goesIn 4 87 [.ref (a 0), .int code] [mdW G a M] [mdW G a (va_up (va_up M 0 (X4_goesIn_c0 (M 0) (M 5) code)) 5 (X4_goesIn_c5 (M 0) (M 5) code))] (X4_goesIn_r (M 0) (M 5) code) := by
  intro sz
  refine Met.ofW (cc := cX4_goesIn) (maxL := 5) (ret := (some .int)) (by decide) rfl ?_
  intro p e s m args below meth c s₁ B hml hv
  obtain ⟨rfl, hsz, hP, hK, hD0⟩ := hv
  have hx := B.exec
  have hb := B.bytes
  have hr := B.returns
  have hts := atoms_spec (ws := wsX4_goesIn) B.pre
  have hown : s.vm.findClass RX4 = some m.cls := findClass_of_methodNamed B.named
  have hlocks := B.notSynchronized
  subst hsz
  have hD := hD0.self (sz := s.heap.size)
  generalize hAe : kz_A [mdW G a M] s.heap.size = A at hD ⊢
  have hA : ∀ q : Nat, s.heap.size ≤ q → A q := fun q h => by rw [← hAe]; exact Or.inr h
  have hS : va_S A s.heap s.heap [] := va_S.rf
  have hl := lv_entry ([.ref (a 0), .int code]) (n := 5) (Nat.le_of_ble_eq_true rfl)
  rw [lg_entry_eq]
  generalize (lg_sl ([.ref (a 0), .int code]) ++ List.replicate (5 - (lg_sl ([.ref (a 0), .int code])).length) Slot.unset).toArray = ls at hl ⊢
  have hl : lv_has ls 5 [(0, .ref (a 0)), (1, .int code)] := hl
  refine kz_start (fun QQ hQ => ?_)
  have hP : kz_P G [mdW G a M] s.heap := hP
  refine lv_aload_n hx hb dX4_goesIn_0 rfl (lv_at hl 0 rfl) ?_
  refine lv_iload_n hx hb dX4_goesIn_1 rfl (lv_at hl 1 rfl) ?_
  refine kz_rdV (As := [.int code]) (rest := []) (b := a 0) ⟨hx, hb, hml, hown, hts⟩ (c_X4_placeBy l G a M code) (cwV 1 hts gX4_goesIn_X4_placeBy rfl rfl rfl (by decide +kernel) ⟨Nat.le_of_ble_eq_true rfl, Nat.le_of_ble_eq_true rfl⟩) hK hP (kz_recv hK hP (ci := 4) (q0 := 0) rfl rfl) rfl hl.1 rfl (Nat.le_of_ble_eq_true rfl) dX4_goesIn_2 ⟨Nat.le_of_ble_eq_true rfl, Nat.le_of_ble_eq_true rfl⟩ ?_
  refine lv_istore_n (lv' := [(2, .int (X4_placeBy_r (M 0) code)), (0, .ref (a 0)), (1, .int code)]) hx hb dX4_goesIn_5 rfl hl (by decide) rfl (fun ls hl => ?_)
  refine lv_iload_n hx hb dX4_goesIn_6 rfl (lv_at hl 0 rfl) ?_
  refine lv_bipush (v := (-6)) hx hb dX4_goesIn_7 (by decide +kernel) ?_
  refine lv_icmp_ne (tgt := 14) hx hb dX4_goesIn_9 (by decide) (fun c_1 => ?_) (fun c_1 => ?_)
  · obtain ⟨hcv2, hcl2⟩ := kz_back (kz_pbIn c_1) (by decide)
    have hl : lv_has ls 5 [(2, .int (nI (X4_placeBy_r (M 0) code).toNatClampNeg)), (0, .ref (a 0)), (1, .int code)] := by rw [← hcv2]; exact hl
    refine lv_aload_n hx hb dX4_goesIn_14 rfl (lv_at hl 1 rfl) ?_
    refine kz_mvV (As := []) (rest := []) (b := a 0) (wr := []) (bs' := [mdW G a (va_up M 5 (X4_putAside_c5 (M 0) (M 5)))]) ⟨hx, hb, hml, hown, hts⟩ (c_X4_putAside l G a M) (cwV 0 hts gX4_goesIn_X4_putAside rfl rfl rfl (by decide +kernel) ⟨Nat.le_of_ble_eq_true rfl, Nat.le_of_ble_eq_true rfl⟩) hK hP hD hS hA [0] [] [0] rfl (by decide) rfl (by decide) (by decide) rfl (by decide) (kz_recv hK hP (ci := 4) (q0 := 0) rfl rfl) rfl hl.1 rfl (Nat.le_of_ble_eq_true rfl) dX4_goesIn_15 ⟨Nat.le_of_ble_eq_true rfl, Nat.le_of_ble_eq_true rfl⟩ (fun H locs hP hD hS => ?_)
    refine lv_iconst (v := 0) hx hb dX4_goesIn_18 (by decide +kernel) ?_
    refine lv_istore_n (lv' := [(3, .int 0), (2, .int (nI (X4_placeBy_r (M 0) code).toNatClampNeg)), (0, .ref (a 0)), (1, .int code)]) hx hb dX4_goesIn_19 rfl hl (by decide) rfl (fun ls hl => ?_)
    have L20_3 : ∀ (n20 : Nat) (i : Nat) (y0 : Nat → Int32), (60 - i < n20) → (i ≤ 60) → (y0 = X4_days (M 0) i) → (kz_MP y0) → (X4_gi (M 0) (X4_placeBy_r (M 0) code).toNatClampNeg 0 60 = X4_gi (M 0) (X4_placeBy_r (M 0) code).toNatClampNeg i (60 - i)) → (X4_gn (M 0) (X4_placeBy_r (M 0) code).toNatClampNeg 0 60 = X4_gn (M 0) (X4_placeBy_r (M 0) code).toNatClampNeg i (60 - i)) → ∀ (H : Heap) (locs : List Loc), kz_P G [mdW G a (va_up (va_up M 5 (X4_putAside_c5 (M 0) (M 5))) 0 y0)] H → kz_D A [mdW G a (va_up (va_up M 5 (X4_putAside_c5 (M 0) (M 5))) 0 y0)] → va_S A s.heap H locs → ∀ ls : Array Slot, lv_has ls 5 [(3, .int (nI i)), (2, .int (nI (X4_placeBy_r (M 0) code).toNatClampNeg)), (0, .ref (a 0)), (1, .int code)] → W p l e (headSpec wsX4_goesIn (kz_rm 4 87)).room s m ([.ref (a 0), .int code] : List Value).toArray below meth c H locs 0 0 QQ (F0 m 20 ls []) := by
      intro n20
      induction n20 with
      | zero => intro i y0 h0; exact absurd h0 (Nat.not_lt_zero _)
      | succ n20 ih20_4 =>
        intro i y0 hmeas20 hi1 hT hMy hgi hgn H locs hP hD hS ls hl
        refine lv_iload_n hx hb dX4_goesIn_20 rfl (lv_at hl 0 rfl) ?_
        refine lv_bipush (v := 60) hx hb dX4_goesIn_21 (by decide +kernel) ?_
        refine lv_icmp_ge (tgt := 45) hx hb dX4_goesIn_23 (by decide) (fun c_5 => ?_) (fun c_5 => ?_)
        · have hge := kz_le (a := 60) (b := i) c_5 (by omega) (by omega)
          have hi60 : i = 60 := by omega
          refine lv_aload_n hx hb dX4_goesIn_45 rfl (lv_at hl 2 rfl) ?_
          refine lv_iload_n hx hb dX4_goesIn_46 rfl (lv_at hl 1 rfl) ?_
          refine kz_rdV (As := [.int (nI (X4_placeBy_r (M 0) code).toNatClampNeg)]) (rest := []) (b := a 0) ⟨hx, hb, hml, hown, hts⟩ (c_X4_isTaken l G a (va_up (va_up M 5 (X4_putAside_c5 (M 0) (M 5))) 0 y0) ((X4_placeBy_r (M 0) code).toNatClampNeg) (by omega)) (cwV 1 hts gX4_goesIn_X4_isTaken rfl rfl rfl (by decide +kernel) ⟨Nat.le_of_ble_eq_true rfl, Nat.le_of_ble_eq_true rfl⟩) hK hP (kz_recv hK hP (ci := 4) (q0 := 0) rfl rfl) rfl hl.1 rfl (Nat.le_of_ble_eq_true rfl) dX4_goesIn_47 ⟨Nat.le_of_ble_eq_true rfl, Nat.le_of_ble_eq_true rfl⟩ ?_
          refine lv_topi (fun y_6 ey_7 => ?_)
          rw [va_up_self] at ey_7
          by_cases c_8 : X4_isTaken_p y0 ((X4_placeBy_r (M 0) code).toNatClampNeg)
          · rw [if_pos c_8] at ey_7
            subst ey_7
            refine lv_if_ne (tgt := 57) hx hb dX4_goesIn_50 (by decide) (fun _ => ?_) (fun c => absurd c (by decide))
            refine lv_iconst (v := 0) hx hb dX4_goesIn_57 (by decide +kernel) ?_
            refine lv_istore (lv' := [(4, .int 0), (3, .int (nI i)), (2, .int (nI (X4_placeBy_r (M 0) code).toNatClampNeg)), (0, .ref (a 0)), (1, .int code)]) hx hb dX4_goesIn_58 hl (by decide) rfl (fun ls hl => ?_)
            refine lv_aload_n hx hb dX4_goesIn_60 rfl (lv_at hl 3 rfl) ?_
            refine kz_mvV (As := []) (rest := []) (b := a 0) (wr := []) (bs' := [mdW G a (va_up (va_up M 5 (X4_putAside_c5 (M 0) (M 5))) 0 (X4_takeBack_c0 y0 (X4_putAside_c5 (M 0) (M 5))))]) ⟨hx, hb, hml, hown, hts⟩ (c_X4_takeBack l G a (va_up (va_up M 5 (X4_putAside_c5 (M 0) (M 5))) 0 y0)) (cwV 0 hts gX4_goesIn_X4_takeBack rfl rfl rfl (by decide +kernel) ⟨Nat.le_of_ble_eq_true rfl, Nat.le_of_ble_eq_true rfl⟩) hK hP hD hS hA [0] [] [0] rfl (by decide) rfl (by decide) (by decide) rfl (by decide) (kz_recv hK hP (ci := 4) (q0 := 0) rfl rfl) rfl hl.1 rfl (Nat.le_of_ble_eq_true rfl) dX4_goesIn_61 ⟨Nat.le_of_ble_eq_true rfl, Nat.le_of_ble_eq_true rfl⟩ (fun H locs hP hD hS => ?_)
            refine lv_iload hx hb dX4_goesIn_64 (lv_at hl 0 rfl) ?_
            refine lv_if_eq (tgt := 73) hx hb dX4_goesIn_66 (by decide) (fun _ => ?_) (fun c => absurd c (by decide))
            refine lv_bipush (v := (-6)) hx hb dX4_goesIn_73 (by decide +kernel) ?_
            subst hQ
            have hP9 : kz_P G [mdW G a (va_up (va_up M 0 (X4_goesIn_c0 (M 0) (M 5) code)) 5 (X4_goesIn_c5 (M 0) (M 5) code))] H := by rw [X4_goesIn_c0, X4_goesIn_c5, if_neg c_1, if_neg c_1, hgn, (X4_gi_e hge).2, ← hT]; exact hP
            have hD9 : kz_D A [mdW G a (va_up (va_up M 0 (X4_goesIn_c0 (M 0) (M 5) code)) 5 (X4_goesIn_c5 (M 0) (M 5) code))] := by rw [X4_goesIn_c0, X4_goesIn_c5, if_neg c_1, if_neg c_1, hgn, (X4_gi_e hge).2, ← hT]; exact hD
            exact W.iret (v := (-6)) hx hb hr (fun t ht hW => ⟨⟨(-6), (), rfl, (by rw [X4_goesIn_r, if_neg c_1, hgi, (X4_gi_e hge).1, if_pos (by rw [← hT]; exact c_8)]), by rw [ht]; exact hP9, hD9⟩, hS.F ht⟩) hS.2.2 dX4_goesIn_75
          · rw [if_neg c_8] at ey_7
            subst ey_7
            refine lv_if_ne (tgt := 57) hx hb dX4_goesIn_50 (by decide) (fun c => absurd c (by decide)) (fun _ => ?_)
            refine lv_iconst (v := 1) hx hb dX4_goesIn_53 (by decide +kernel) ?_
            refine lv_goto (tgt := 58) hx hb dX4_goesIn_54 (by decide) ?_
            refine lv_istore (lv' := [(4, .int 1), (3, .int (nI i)), (2, .int (nI (X4_placeBy_r (M 0) code).toNatClampNeg)), (0, .ref (a 0)), (1, .int code)]) hx hb dX4_goesIn_58 hl (by decide) rfl (fun ls hl => ?_)
            refine lv_aload_n hx hb dX4_goesIn_60 rfl (lv_at hl 3 rfl) ?_
            refine kz_mvV (As := []) (rest := []) (b := a 0) (wr := []) (bs' := [mdW G a (va_up (va_up M 5 (X4_putAside_c5 (M 0) (M 5))) 0 (X4_takeBack_c0 y0 (X4_putAside_c5 (M 0) (M 5))))]) ⟨hx, hb, hml, hown, hts⟩ (c_X4_takeBack l G a (va_up (va_up M 5 (X4_putAside_c5 (M 0) (M 5))) 0 y0)) (cwV 0 hts gX4_goesIn_X4_takeBack rfl rfl rfl (by decide +kernel) ⟨Nat.le_of_ble_eq_true rfl, Nat.le_of_ble_eq_true rfl⟩) hK hP hD hS hA [0] [] [0] rfl (by decide) rfl (by decide) (by decide) rfl (by decide) (kz_recv hK hP (ci := 4) (q0 := 0) rfl rfl) rfl hl.1 rfl (Nat.le_of_ble_eq_true rfl) dX4_goesIn_61 ⟨Nat.le_of_ble_eq_true rfl, Nat.le_of_ble_eq_true rfl⟩ (fun H locs hP hD hS => ?_)
            refine lv_iload hx hb dX4_goesIn_64 (lv_at hl 0 rfl) ?_
            refine lv_if_eq (tgt := 73) hx hb dX4_goesIn_66 (by decide) (fun c => absurd c (by decide)) (fun _ => ?_)
            refine lv_iload_n hx hb dX4_goesIn_69 rfl (lv_at hl 1 rfl) ?_
            refine lv_goto (tgt := 75) hx hb dX4_goesIn_70 (by decide) ?_
            subst hQ
            have hP9 : kz_P G [mdW G a (va_up (va_up M 0 (X4_goesIn_c0 (M 0) (M 5) code)) 5 (X4_goesIn_c5 (M 0) (M 5) code))] H := by rw [X4_goesIn_c0, X4_goesIn_c5, if_neg c_1, if_neg c_1, hgn, (X4_gi_f hi1 (by rw [← hT]; exact c_8)).2, ← hT]; exact hP
            have hD9 : kz_D A [mdW G a (va_up (va_up M 0 (X4_goesIn_c0 (M 0) (M 5) code)) 5 (X4_goesIn_c5 (M 0) (M 5) code))] := by rw [X4_goesIn_c0, X4_goesIn_c5, if_neg c_1, if_neg c_1, hgn, (X4_gi_f hi1 (by rw [← hT]; exact c_8)).2, ← hT]; exact hD
            exact W.iret (v := (nI i)) hx hb hr (fun t ht hW => ⟨⟨(nI i), (), rfl, (by rw [X4_goesIn_r, if_neg c_1, hgi, (X4_gi_f hi1 (by rw [← hT]; exact c_8)).1]), by rw [ht]; exact hP9, hD9⟩, hS.F ht⟩) hS.2.2 dX4_goesIn_75
        · have hlt := kz_gt (a := 60) (b := i) c_5 (by omega) (by omega)
          refine lv_aload_n hx hb dX4_goesIn_26 rfl (lv_at hl 2 rfl) ?_
          refine lv_iload_n hx hb dX4_goesIn_27 rfl (lv_at hl 1 rfl) ?_
          refine kz_rdV (As := [.int (nI (X4_placeBy_r (M 0) code).toNatClampNeg)]) (rest := []) (b := a 0) ⟨hx, hb, hml, hown, hts⟩ (c_X4_isTaken l G a (va_up (va_up M 5 (X4_putAside_c5 (M 0) (M 5))) 0 y0) ((X4_placeBy_r (M 0) code).toNatClampNeg) (by omega)) (cwV 1 hts gX4_goesIn_X4_isTaken rfl rfl rfl (by decide +kernel) ⟨Nat.le_of_ble_eq_true rfl, Nat.le_of_ble_eq_true rfl⟩) hK hP (kz_recv hK hP (ci := 4) (q0 := 0) rfl rfl) rfl hl.1 rfl (Nat.le_of_ble_eq_true rfl) dX4_goesIn_28 ⟨Nat.le_of_ble_eq_true rfl, Nat.le_of_ble_eq_true rfl⟩ ?_
          refine lv_topi (fun y_9 ey_10 => ?_)
          rw [va_up_self] at ey_10
          by_cases c_11 : X4_isTaken_p y0 ((X4_placeBy_r (M 0) code).toNatClampNeg)
          · rw [if_pos c_11] at ey_10
            subst ey_10
            refine lv_if_eq (tgt := 45) hx hb dX4_goesIn_31 (by decide) (fun c => absurd c (by decide)) (fun _ => ?_)
            refine lv_aload_n hx hb dX4_goesIn_34 rfl (lv_at hl 2 rfl) ?_
            refine kz_miV (As := []) (rest := []) (b := a 0) (wr := []) (bs' := [mdW G a (va_up (va_up M 5 (X4_putAside_c5 (M 0) (M 5))) 0 (X4_begins_c0 y0))]) ⟨hx, hb, hml, hown, hts⟩ (c_X4_begins l G a (va_up (va_up M 5 (X4_putAside_c5 (M 0) (M 5))) 0 y0) (by rw [va_up_self]; exact hMy)) (cwV 0 hts gX4_goesIn_X4_begins rfl rfl rfl (by decide +kernel) ⟨Nat.le_of_ble_eq_true rfl, Nat.le_of_ble_eq_true rfl⟩) hK hP hD hS hA [0] [] [0] rfl (by decide) rfl (by decide) (by decide) rfl (by decide) (kz_recv hK hP (ci := 4) (q0 := 0) rfl rfl) rfl hl.1 rfl (Nat.le_of_ble_eq_true rfl) dX4_goesIn_35 ⟨Nat.le_of_ble_eq_true rfl, Nat.le_of_ble_eq_true rfl⟩ (fun H locs hP hD hS => ?_)
            refine lv_pop hx hb dX4_goesIn_38 rfl ?_
            refine lv_iinc (v := (nI (i + 1))) (lv' := [(3, .int (nI (i + 1))), (2, .int (nI (X4_placeBy_r (M 0) code).toNatClampNeg)), (0, .ref (a 0)), (1, .int code)]) hx hb dX4_goesIn_39 hl (k := 0) rfl (nI_1 _) (by decide) rfl (fun ls hl => ?_)
            refine lv_goto (tgt := 20) hx hb dX4_goesIn_42 (by decide) ?_
            exact ih20_4 (i + 1) (X4_begins_c0 y0) (by omega) (by omega) (by rw [hT]; rfl) (kz_MP_begins hMy) (hgi.trans (X4_gi_t hlt (by rw [← hT]; exact c_11)).1) (hgn.trans (X4_gi_t hlt (by rw [← hT]; exact c_11)).2) H locs hP hD hS ls (lv_sub hl [0, 1, 2, 3] rfl)
          · rw [if_neg c_11] at ey_10
            subst ey_10
            refine lv_if_eq (tgt := 45) hx hb dX4_goesIn_31 (by decide) (fun _ => ?_) (fun c => absurd c (by decide))
            refine lv_aload_n hx hb dX4_goesIn_45 rfl (lv_at hl 2 rfl) ?_
            refine lv_iload_n hx hb dX4_goesIn_46 rfl (lv_at hl 1 rfl) ?_
            refine kz_rdV (As := [.int (nI (X4_placeBy_r (M 0) code).toNatClampNeg)]) (rest := []) (b := a 0) ⟨hx, hb, hml, hown, hts⟩ (c_X4_isTaken l G a (va_up (va_up M 5 (X4_putAside_c5 (M 0) (M 5))) 0 y0) ((X4_placeBy_r (M 0) code).toNatClampNeg) (by omega)) (cwV 1 hts gX4_goesIn_X4_isTaken rfl rfl rfl (by decide +kernel) ⟨Nat.le_of_ble_eq_true rfl, Nat.le_of_ble_eq_true rfl⟩) hK hP (kz_recv hK hP (ci := 4) (q0 := 0) rfl rfl) rfl hl.1 rfl (Nat.le_of_ble_eq_true rfl) dX4_goesIn_47 ⟨Nat.le_of_ble_eq_true rfl, Nat.le_of_ble_eq_true rfl⟩ ?_
            refine lv_topi (fun y_12 ey_13 => ?_)
            rw [va_up_self] at ey_13
            have c_14 : ¬ (X4_isTaken_p y0 ((X4_placeBy_r (M 0) code).toNatClampNeg)) := by exact c_11
            rw [if_neg c_14] at ey_13
            subst ey_13
            refine lv_if_ne (tgt := 57) hx hb dX4_goesIn_50 (by decide) (fun c => absurd c (by decide)) (fun _ => ?_)
            refine lv_iconst (v := 1) hx hb dX4_goesIn_53 (by decide +kernel) ?_
            refine lv_goto (tgt := 58) hx hb dX4_goesIn_54 (by decide) ?_
            refine lv_istore (lv' := [(4, .int 1), (3, .int (nI i)), (2, .int (nI (X4_placeBy_r (M 0) code).toNatClampNeg)), (0, .ref (a 0)), (1, .int code)]) hx hb dX4_goesIn_58 hl (by decide) rfl (fun ls hl => ?_)
            refine lv_aload_n hx hb dX4_goesIn_60 rfl (lv_at hl 3 rfl) ?_
            refine kz_mvV (As := []) (rest := []) (b := a 0) (wr := []) (bs' := [mdW G a (va_up (va_up M 5 (X4_putAside_c5 (M 0) (M 5))) 0 (X4_takeBack_c0 y0 (X4_putAside_c5 (M 0) (M 5))))]) ⟨hx, hb, hml, hown, hts⟩ (c_X4_takeBack l G a (va_up (va_up M 5 (X4_putAside_c5 (M 0) (M 5))) 0 y0)) (cwV 0 hts gX4_goesIn_X4_takeBack rfl rfl rfl (by decide +kernel) ⟨Nat.le_of_ble_eq_true rfl, Nat.le_of_ble_eq_true rfl⟩) hK hP hD hS hA [0] [] [0] rfl (by decide) rfl (by decide) (by decide) rfl (by decide) (kz_recv hK hP (ci := 4) (q0 := 0) rfl rfl) rfl hl.1 rfl (Nat.le_of_ble_eq_true rfl) dX4_goesIn_61 ⟨Nat.le_of_ble_eq_true rfl, Nat.le_of_ble_eq_true rfl⟩ (fun H locs hP hD hS => ?_)
            refine lv_iload hx hb dX4_goesIn_64 (lv_at hl 0 rfl) ?_
            refine lv_if_eq (tgt := 73) hx hb dX4_goesIn_66 (by decide) (fun c => absurd c (by decide)) (fun _ => ?_)
            refine lv_iload_n hx hb dX4_goesIn_69 rfl (lv_at hl 1 rfl) ?_
            refine lv_goto (tgt := 75) hx hb dX4_goesIn_70 (by decide) ?_
            subst hQ
            have hP9 : kz_P G [mdW G a (va_up (va_up M 0 (X4_goesIn_c0 (M 0) (M 5) code)) 5 (X4_goesIn_c5 (M 0) (M 5) code))] H := by rw [X4_goesIn_c0, X4_goesIn_c5, if_neg c_1, if_neg c_1, hgn, (X4_gi_f hi1 (by rw [← hT]; exact c_11)).2, ← hT]; exact hP
            have hD9 : kz_D A [mdW G a (va_up (va_up M 0 (X4_goesIn_c0 (M 0) (M 5) code)) 5 (X4_goesIn_c5 (M 0) (M 5) code))] := by rw [X4_goesIn_c0, X4_goesIn_c5, if_neg c_1, if_neg c_1, hgn, (X4_gi_f hi1 (by rw [← hT]; exact c_11)).2, ← hT]; exact hD
            exact W.iret (v := (nI i)) hx hb hr (fun t ht hW => ⟨⟨(nI i), (), rfl, (by rw [X4_goesIn_r, if_neg c_1, hgi, (X4_gi_f hi1 (by rw [← hT]; exact c_11)).1]), by rw [ht]; exact hP9, hD9⟩, hS.F ht⟩) hS.2.2 dX4_goesIn_75
    exact L20_3 _ 0 (M 0) (Nat.lt_succ_self _) (by omega) rfl hM.2 rfl rfl H locs hP hD hS ls (lv_sub hl [0, 1, 2, 3] rfl)
  · refine lv_iconst (v := (-1)) hx hb dX4_goesIn_12 (by decide +kernel) ?_
    subst hQ
    have hP9 : kz_P G [mdW G a (va_up (va_up M 0 (X4_goesIn_c0 (M 0) (M 5) code)) 5 (X4_goesIn_c5 (M 0) (M 5) code))] s.heap := by rw [X4_goesIn_c0, X4_goesIn_c5, if_pos c_1, if_pos c_1]; exact hP
    have hD9 : kz_D A [mdW G a (va_up (va_up M 0 (X4_goesIn_c0 (M 0) (M 5) code)) 5 (X4_goesIn_c5 (M 0) (M 5) code))] := by rw [X4_goesIn_c0, X4_goesIn_c5, if_pos c_1, if_pos c_1]; exact hD
    exact W.iret (v := (-1)) hx hb hr (fun t ht hW => ⟨⟨(-1), (), rfl, (by rw [X4_goesIn_r, if_pos c_1]), by rw [ht]; exact hP9, hD9⟩, hS.F ht⟩) hS.2.2 dX4_goesIn_13
