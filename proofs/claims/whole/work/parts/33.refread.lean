def rc_w (a b d : Int32) : Int32 × Int32 := (X4_wants_c12 a b d, X4_wants_c13 a b d)
def rc_g (z8 : Nat → Int32) (z9 lo hi : Int32) (q : Int32 × Int32) : Int32 × Int32 := (X4_figure_c12 z8 z9 q.1 q.2 lo hi, X4_figure_c13 z8 z9 q.1 q.2 lo hi)
def rc_f (z8 : Nat → Int32) (z9 : Int32) (s : Int32 × Int32 × Int32) : Int32 × Int32 × Int32 := (10 * s.1 + X4_figure_r z8 z9 s.2.1 s.2.2 0 9, X4_figure_c12 z8 z9 s.2.1 s.2.2 0 9, X4_figure_c13 z8 z9 s.2.1 s.2.2 0 9)
def rc_4 (z8 : Nat → Int32) (z9 : Int32) (q : Int32 × Int32) : Int32 × Int32 × Int32 := rc_f z8 z9 (rc_f z8 z9 (rc_f z8 z9 (rc_f z8 z9 (0, q))))
def rc_b (c : Int32) : Int32 := if c = 97 then 1 else if c = 112 then 1 else if c = 120 then 1 else if c = 109 then 1 else if c = 100 then 1 else 0
def rc_m (z8 : Nat → Int32) (z9 c n : Int32) (q : Int32 × Int32) : Int32 × Int32 × Int32 × Int32 × Int32 := (c, n, X4_figure_r z8 z9 q.1 q.2 0 5, X4_figure_c12 z8 z9 q.1 q.2 0 5, X4_figure_c13 z8 z9 q.1 q.2 0 5)
def rc_t (z8 : Nat → Int32) (z9 c : Int32) (s : Int32 × Int32 × Int32) : Int32 × Int32 × Int32 × Int32 × Int32 := if c = 109 then rc_m z8 z9 c s.1 (rc_w s.2.1 s.2.2 (if X4_letter_r z8 z9 s.2.1 = 62 then 1 else 0)) else (c, s.1, 0, s.2.1, s.2.2)
def rc_a (z8 : Nat → Int32) (z9 c n : Int32) (q : Int32 × Int32) : Int32 × Int32 × Int32 × Int32 × Int32 := (c, n, X4_size_r z8 z9 q.1 q.2, X4_size_c12 z8 z9 q.1 q.2, X4_size_c13 z8 z9 q.1 q.2)
def rc_k (z8 : Nat → Int32) (z9 c : Int32) (q : Int32 × Int32) : Int32 × Int32 × Int32 × Int32 × Int32 := if c = 97 then rc_a z8 z9 c (X4_figure_r z8 z9 q.1 q.2 0 9) (rc_g z8 z9 0 9 q) else if c = 100 then (c, X4_days_r z8 z9 q.1 q.2, 0, X4_days_c12 z8 z9 q.1 q.2, X4_days_c13 z8 z9 q.1 q.2) else rc_t z8 z9 c (rc_4 z8 z9 q)
/-- a command that is read: its letter, its two numbers, where it ends, whether it's wrong -/
def X4_rc (z8 : Nat → Int32) (z9 z12 z13 : Int32) : Int32 × Int32 × Int32 × Int32 × Int32 := rc_k z8 z9 (X4_letter_r z8 z9 z12) (rc_w z12 z13 (rc_b (X4_letter_r z8 z9 z12)))
def X4_readCommand_c10 (z8 : Nat → Int32) (z9 : Int32) (z10 : Nat → Int32) (z11 z12 z13 : Int32) : Nat → Int32 := upd (upd (upd z10 (3 * z11.toNatClampNeg) (X4_rc z8 z9 z12 z13).1) (3 * z11.toNatClampNeg + 1) (X4_rc z8 z9 z12 z13).2.1) (3 * z11.toNatClampNeg + 2) (X4_rc z8 z9 z12 z13).2.2.1
def X4_readCommand_c11 (z8 : Nat → Int32) (z9 : Int32) (z10 : Nat → Int32) (z11 z12 z13 : Int32) : Int32 := z11 + 1
def X4_readCommand_c12 (z8 : Nat → Int32) (z9 : Int32) (z10 : Nat → Int32) (z11 z12 z13 : Int32) : Int32 := (X4_rc z8 z9 z12 z13).2.2.2.1
def X4_readCommand_c13 (z8 : Nat → Int32) (z9 : Int32) (z10 : Nat → Int32) (z11 z12 z13 : Int32) : Int32 := (X4_rc z8 z9 z12 z13).2.2.2.2
set_option maxHeartbeats 1000000 in
set_option maxRecDepth 100000 in
theorem c_X4_readCommand (l : Launch) (G : kz_G) (a : Nat → Nat) (M : kz_S) (hsp : ∃ s, s ≤ 900 ∧ M 12 0 = nI s) (hty : ∃ t, t ≤ 80 ∧ M 9 0 = nI t) (htl : ∃ t, t ≤ 27 ∧ M 11 0 = nI t) : kz_mv l G yX4_readCommand wsX4_readCommand 3 67 [.ref (a 0)] [mdW G a M] [mdW G a (va_up (va_up (va_up (va_up M 10 (X4_readCommand_c10 (M 8) (M 9 0) (M 10) (M 11 0) (M 12 0) (M 13 0))) 11 (fun _ => (X4_readCommand_c11 (M 8) (M 9 0) (M 10) (M 11 0) (M 12 0) (M 13 0)))) 12 (fun _ => (X4_readCommand_c12 (M 8) (M 9 0) (M 10) (M 11 0) (M 12 0) (M 13 0)))) 13 (fun _ => (X4_readCommand_c13 (M 8) (M 9 0) (M 10) (M 11 0) (M 12 0) (M 13 0))))] := by
  intro sz
  refine Met.ofW (cc := cX4_readCommand) (maxL := 5) (ret := none) (by decide) rfl ?_
  intro p e s m args below meth c s₁ B hml hv
  obtain ⟨rfl, hsz, hP, hK, hD0⟩ := hv
  have hx := B.exec
  have hb := B.bytes
  have hr := B.returns
  have hts := atoms_spec (ws := wsX4_readCommand) B.pre
  have hown : s.vm.findClass RX4 = some m.cls := findClass_of_methodNamed B.named
  have hlocks := B.notSynchronized
  have hinX4 : ∀ w ∈ u_ws RX4 TX4 14, w ∈ wsX4_readCommand := by decide +kernel
  subst hsz
  have hD := hD0.self (sz := s.heap.size)
  generalize hAe : kz_A [mdW G a M] s.heap.size = A at hD ⊢
  have hA : ∀ q : Nat, s.heap.size ≤ q → A q := fun q h => by rw [← hAe]; exact Or.inr h
  have hS : va_S A s.heap s.heap [] := va_S.rf
  have hl := lv_entry ([.ref (a 0)]) (n := 5) (Nat.le_of_ble_eq_true rfl)
  rw [lg_entry_eq]
  generalize (lg_sl ([.ref (a 0)]) ++ List.replicate (5 - (lg_sl ([.ref (a 0)])).length) Slot.unset).toArray = ls at hl ⊢
  have hl : lv_has ls 5 [(0, .ref (a 0))] := hl
  refine kz_start (fun QQ hQ => ?_)
  have hP : kz_P G [mdW G a M] s.heap := hP
  obtain ⟨tm, htm, etm⟩ := id htl
  have htn : (M 11 0).toNatClampNeg = tm := by rw [etm]; exact nI_clamp (by omega)
  refine lv_aload_n hx hb dX4_readCommand_0 rfl (lv_at hl 0 rfl) ?_
  refine kz_rdV (As := []) (rest := []) (b := a 0) ⟨hx, hb, hml, hown, hts⟩ (c_X4_letter l G a M (by repeat (first | exact kz_le12 hsp (by omega) | refine kz_fgS ?_ | refine kz_wtS ?_)) (by exact hty)) (cwV 0 hts gX4_readCommand_X4_letter rfl rfl rfl (by decide +kernel) ⟨Nat.le_of_ble_eq_true rfl, Nat.le_of_ble_eq_true rfl⟩) hK hP (kz_recv hK hP (ci := 4) (q0 := 0) rfl rfl) rfl hl.1 rfl (Nat.le_of_ble_eq_true rfl) dX4_readCommand_1 ⟨Nat.le_of_ble_eq_true rfl, Nat.le_of_ble_eq_true rfl⟩ ?_
  refine lv_istore_n (lv' := [(1, .int (X4_letter_r (M 8) (M 9 0) (M 12 0))), (0, .ref (a 0))]) hx hb dX4_readCommand_4 rfl hl (by decide) rfl (fun ls hl => ?_)
  refine lv_aload_n hx hb dX4_readCommand_5 rfl (lv_at hl 1 rfl) ?_
  refine lv_iload_n hx hb dX4_readCommand_6 rfl (lv_at hl 0 rfl) ?_
  refine lv_bipush (v := 97) hx hb dX4_readCommand_7 (by decide +kernel) ?_
  refine lv_icmp_eq (tgt := 36) hx hb dX4_readCommand_9 (by decide) (fun c_1 => ?_) (fun c_1 => ?_)
  · refine lv_iconst (v := 1) hx hb dX4_readCommand_36 (by decide +kernel) ?_
    refine lv_goto (tgt := 41) hx hb dX4_readCommand_37 (by decide) ?_
    refine kz_mvV (As := [.int 1]) (rest := []) (b := a 0) (wr := []) (bs' := [mdW G a (va_up (va_up M 12 (fun _ => (X4_wants_c12 (M 12 0) (M 13 0) 1))) 13 (fun _ => (X4_wants_c13 (M 12 0) (M 13 0) 1)))]) ⟨hx, hb, hml, hown, hts⟩ (c_X4_wants l G a M 1) (cwV 1 hts gX4_readCommand_X4_wants rfl rfl rfl (by decide +kernel) ⟨Nat.le_of_ble_eq_true rfl, Nat.le_of_ble_eq_true rfl⟩) hK hP hD hS hA [0] [] [0] rfl (by decide) rfl (by decide) (by decide) rfl (by decide) (kz_recv hK hP (ci := 4) (q0 := 0) rfl rfl) rfl hl.1 rfl (Nat.le_of_ble_eq_true rfl) dX4_readCommand_41 ⟨Nat.le_of_ble_eq_true rfl, Nat.le_of_ble_eq_true rfl⟩ (fun H locs hP hD hS => ?_)
    obtain ⟨q1, eq1⟩ : ∃ q, q = rc_w (M 12 0) (M 13 0) 1 := ⟨_, rfl⟩
    have hP : kz_P G [mdW G a (va_up (va_up M 12 (fun _ => q1.1)) 13 (fun _ => q1.2))] H := by rw [eq1]; exact hP
    have hD : kz_D A [mdW G a (va_up (va_up M 12 (fun _ => q1.1)) 13 (fun _ => q1.2))] := by rw [eq1]; exact hD
    have hb1 : rc_b (X4_letter_r (M 8) (M 9 0) (M 12 0)) = 1 := by rw [rc_b, if_pos c_1]
    have hq1 : ∃ s, s ≤ 901 ∧ q1.1 = nI s := by rw [eq1]; exact kz_wtS hsp
    refine lv_iconst (v := 0) hx hb dX4_readCommand_44 (by decide +kernel) ?_
    refine lv_istore_n (lv' := [(2, .int 0), (1, .int (X4_letter_r (M 8) (M 9 0) (M 12 0))), (0, .ref (a 0))]) hx hb dX4_readCommand_45 rfl hl (by decide) rfl (fun ls hl => ?_)
    refine lv_iconst (v := 0) hx hb dX4_readCommand_46 (by decide +kernel) ?_
    refine lv_istore_n (lv' := [(3, .int 0), (2, .int 0), (1, .int (X4_letter_r (M 8) (M 9 0) (M 12 0))), (0, .ref (a 0))]) hx hb dX4_readCommand_47 rfl hl (by decide) rfl (fun ls hl => ?_)
    refine lv_iload_n hx hb dX4_readCommand_48 rfl (lv_at hl 2 rfl) ?_
    refine lv_bipush (v := 97) hx hb dX4_readCommand_49 (by decide +kernel) ?_
    refine lv_icmp_ne (tgt := 70) hx hb dX4_readCommand_51 (by decide) (fun c => absurd c_1 c) (fun c_2 => ?_)
    refine lv_aload_n hx hb dX4_readCommand_54 rfl (lv_at hl 3 rfl) ?_
    refine lv_iconst (v := 0) hx hb dX4_readCommand_55 (by decide +kernel) ?_
    refine lv_bipush (v := 9) hx hb dX4_readCommand_56 (by decide +kernel) ?_
    refine kz_miV (As := [.int 0, .int 9]) (rest := []) (b := a 0) (wr := []) (bs' := [mdW G a (va_up (va_up M 12 (fun _ => (X4_figure_c12 (M 8) (M 9 0) q1.1 q1.2 0 9))) 13 (fun _ => (X4_figure_c13 (M 8) (M 9 0) q1.1 q1.2 0 9)))]) ⟨hx, hb, hml, hown, hts⟩ (c_X4_figure l G a (va_up (va_up M 12 (fun _ => q1.1)) 13 (fun _ => q1.2)) 0 9 (by rw [va_up_ne _ _ (by decide : 12 ≠ 13), va_up_self]; exact kz_le12 hq1 (by omega)) (by rw [va_up_ne _ _ (by decide : 9 ≠ 13), va_up_ne _ _ (by decide : 9 ≠ 12)]; exact hty)) (cwV 2 hts gX4_readCommand_X4_figure rfl rfl rfl (by decide +kernel) ⟨Nat.le_of_ble_eq_true rfl, Nat.le_of_ble_eq_true rfl⟩) hK hP hD hS hA [0] [] [0] rfl (by decide) rfl (by decide) (by decide) rfl (by decide) (kz_recv hK hP (ci := 4) (q0 := 0) rfl rfl) rfl hl.1 rfl (Nat.le_of_ble_eq_true rfl) dX4_readCommand_58 ⟨Nat.le_of_ble_eq_true rfl, Nat.le_of_ble_eq_true rfl⟩ (fun H locs hP hD hS => ?_)
    obtain ⟨q2, eq2⟩ : ∃ q, q = rc_g (M 8) (M 9 0) 0 9 q1 := ⟨_, rfl⟩
    have hP : kz_P G [mdW G a (va_up (va_up M 12 (fun _ => q2.1)) 13 (fun _ => q2.2))] H := by rw [eq2]; exact hP
    have hD : kz_D A [mdW G a (va_up (va_up M 12 (fun _ => q2.1)) 13 (fun _ => q2.2))] := by rw [eq2]; exact hD
    have hq2 : ∃ s, s ≤ 902 ∧ q2.1 = nI s := by rw [eq2]; exact kz_fgS hq1
    refine lv_istore_n (lv' := [(2, .int (X4_figure_r (M 8) (M 9 0) q1.1 q1.2 0 9)), (3, .int 0), (1, .int (X4_letter_r (M 8) (M 9 0) (M 12 0))), (0, .ref (a 0))]) hx hb dX4_readCommand_61 rfl hl (by decide) rfl (fun ls hl => ?_)
    refine lv_aload_n hx hb dX4_readCommand_62 rfl (lv_at hl 3 rfl) ?_
    refine kz_miV (As := []) (rest := []) (b := a 0) (wr := []) (bs' := [mdW G a (va_up (va_up M 12 (fun _ => (X4_size_c12 (M 8) (M 9 0) q2.1 q2.2))) 13 (fun _ => (X4_size_c13 (M 8) (M 9 0) q2.1 q2.2)))]) ⟨hx, hb, hml, hown, hts⟩ (c_X4_size l G a (va_up (va_up M 12 (fun _ => q2.1)) 13 (fun _ => q2.2)) (by rw [va_up_ne _ _ (by decide : 12 ≠ 13), va_up_self]; exact kz_le12 hq2 (by omega)) (by rw [va_up_ne _ _ (by decide : 9 ≠ 13), va_up_ne _ _ (by decide : 9 ≠ 12)]; exact hty)) (cwV 0 hts gX4_readCommand_X4_size rfl rfl rfl (by decide +kernel) ⟨Nat.le_of_ble_eq_true rfl, Nat.le_of_ble_eq_true rfl⟩) hK hP hD hS hA [0] [] [0] rfl (by decide) rfl (by decide) (by decide) rfl (by decide) (kz_recv hK hP (ci := 4) (q0 := 0) rfl rfl) rfl hl.1 rfl (Nat.le_of_ble_eq_true rfl) dX4_readCommand_63 ⟨Nat.le_of_ble_eq_true rfl, Nat.le_of_ble_eq_true rfl⟩ (fun H locs hP hD hS => ?_)
    refine lv_istore_n (lv' := [(3, .int (X4_size_r (M 8) (M 9 0) q2.1 q2.2)), (2, .int (X4_figure_r (M 8) (M 9 0) q1.1 q1.2 0 9)), (1, .int (X4_letter_r (M 8) (M 9 0) (M 12 0))), (0, .ref (a 0))]) hx hb dX4_readCommand_66 rfl hl (by decide) rfl (fun ls hl => ?_)
    refine lv_goto (tgt := 143) hx hb dX4_readCommand_67 (by decide) ?_
    have hall : X4_rc (M 8) (M 9 0) (M 12 0) (M 13 0) = ((X4_letter_r (M 8) (M 9 0) (M 12 0)), (X4_figure_r (M 8) (M 9 0) q1.1 q1.2 0 9), (X4_size_r (M 8) (M 9 0) q2.1 q2.2), (X4_size_c12 (M 8) (M 9 0) q2.1 q2.2), (X4_size_c13 (M 8) (M 9 0) q2.1 q2.2)) := by rw [X4_rc, hb1, ← eq1, rc_k, if_pos c_1, ← eq2, rc_a]
    refine lv_aload_n hx hb dX4_readCommand_143 rfl (lv_at hl 3 rfl) ?_
    refine va_get (D := G.1) (ci := 4) (v := .ref (a 6)) (C := RX4) (T := TX4) (N := 14) hx hb hts hinX4 hown hK.1 hP 0 rfl rfl 10 (by decide) (hts (.fieldLink RX4 33 "ParcelShelvesModel" "told" "[I") (by decide +kernel)) (fun _ h9 => h9) rfl dX4_readCommand_144 ?_
    refine lv_iconst (v := 3) hx hb dX4_readCommand_147 (by decide +kernel) ?_
    refine lv_aload_n hx hb dX4_readCommand_148 rfl (lv_at hl 3 rfl) ?_
    refine va_get (D := G.1) (ci := 4) (v := .int (M 11 0)) (C := RX4) (T := TX4) (N := 14) hx hb hts hinX4 hown hK.1 hP 0 rfl rfl 11 (by decide) (hts (.fieldLink RX4 202 "ParcelShelvesModel" "toldMany" "I") (by decide +kernel)) (fun _ h9 => h9) rfl dX4_readCommand_149 ?_
    refine lv_imul hx hb dX4_readCommand_152 ?_
    refine lv_topi (fun y_3 ey_4 => ?_)
    obtain rfl : y_3 = (nI (3 * (M 11 0).toNatClampNeg)) := by rw [ey_4]; rw [etm, nI_clamp (by omega)]; exact pk_mul 3 tm
    refine lv_iload_n hx hb dX4_readCommand_153 rfl (lv_at hl 2 rfl) ?_
    refine va_iast hx hb hK.1 hP hD hS 6 0 rfl rfl (vp_in_nI (n := (3 * (M 11 0).toNatClampNeg)) (N := 84) (by omega) (by decide)) dX4_readCommand_154 (fun H locs hP hD hS => ?_)
    rw [kz_nI_clamp (n := (3 * (M 11 0).toNatClampNeg)) (by omega)] at hP hD
    have hP : kz_P G [mdW G a (va_up (va_up (va_up M 12 (fun _ => (X4_size_c12 (M 8) (M 9 0) q2.1 q2.2))) 13 (fun _ => (X4_size_c13 (M 8) (M 9 0) q2.1 q2.2))) 10 (upd (M 10) (3 * (M 11 0).toNatClampNeg) (X4_letter_r (M 8) (M 9 0) (M 12 0))))] H := hP
    have hD : kz_D A [mdW G a (va_up (va_up (va_up M 12 (fun _ => (X4_size_c12 (M 8) (M 9 0) q2.1 q2.2))) 13 (fun _ => (X4_size_c13 (M 8) (M 9 0) q2.1 q2.2))) 10 (upd (M 10) (3 * (M 11 0).toNatClampNeg) (X4_letter_r (M 8) (M 9 0) (M 12 0))))] := hD
    refine lv_aload_n hx hb dX4_readCommand_155 rfl (lv_at hl 3 rfl) ?_
    refine va_get (D := G.1) (ci := 4) (v := .ref (a 6)) (C := RX4) (T := TX4) (N := 14) hx hb hts hinX4 hown hK.1 hP 0 rfl rfl 10 (by decide) (hts (.fieldLink RX4 33 "ParcelShelvesModel" "told" "[I") (by decide +kernel)) (fun _ h9 => h9) rfl dX4_readCommand_156 ?_
    refine lv_iconst (v := 3) hx hb dX4_readCommand_159 (by decide +kernel) ?_
    refine lv_aload_n hx hb dX4_readCommand_160 rfl (lv_at hl 3 rfl) ?_
    refine va_get (D := G.1) (ci := 4) (v := .int (M 11 0)) (C := RX4) (T := TX4) (N := 14) hx hb hts hinX4 hown hK.1 hP 0 rfl rfl 11 (by decide) (hts (.fieldLink RX4 202 "ParcelShelvesModel" "toldMany" "I") (by decide +kernel)) (fun _ h9 => h9) rfl dX4_readCommand_161 ?_
    refine lv_imul hx hb dX4_readCommand_164 ?_
    refine lv_topi (fun y_5 ey_6 => ?_)
    obtain rfl : y_5 = (nI (3 * (M 11 0).toNatClampNeg)) := by rw [ey_6]; rw [etm, nI_clamp (by omega)]; exact pk_mul 3 tm
    refine lv_iconst (v := 1) hx hb dX4_readCommand_165 (by decide +kernel) ?_
    refine lv_iadd hx hb dX4_readCommand_166 ?_
    refine lv_topi (fun y_7 ey_8 => ?_)
    obtain rfl : y_7 = (nI (3 * (M 11 0).toNatClampNeg + 1)) := by rw [ey_8]; exact nI_1 _
    refine lv_iload_n hx hb dX4_readCommand_167 rfl (lv_at hl 1 rfl) ?_
    refine va_iast hx hb hK.1 hP hD hS 6 0 rfl rfl (vp_in_nI (n := (3 * (M 11 0).toNatClampNeg + 1)) (N := 84) (by omega) (by decide)) dX4_readCommand_168 (fun H locs hP hD hS => ?_)
    rw [kz_nI_clamp (n := (3 * (M 11 0).toNatClampNeg + 1)) (by omega)] at hP hD
    have hP : kz_P G [mdW G a (va_up (va_up (va_up M 12 (fun _ => (X4_size_c12 (M 8) (M 9 0) q2.1 q2.2))) 13 (fun _ => (X4_size_c13 (M 8) (M 9 0) q2.1 q2.2))) 10 (upd (upd (M 10) (3 * (M 11 0).toNatClampNeg) (X4_letter_r (M 8) (M 9 0) (M 12 0))) (3 * (M 11 0).toNatClampNeg + 1) (X4_figure_r (M 8) (M 9 0) q1.1 q1.2 0 9)))] H := hP
    have hD : kz_D A [mdW G a (va_up (va_up (va_up M 12 (fun _ => (X4_size_c12 (M 8) (M 9 0) q2.1 q2.2))) 13 (fun _ => (X4_size_c13 (M 8) (M 9 0) q2.1 q2.2))) 10 (upd (upd (M 10) (3 * (M 11 0).toNatClampNeg) (X4_letter_r (M 8) (M 9 0) (M 12 0))) (3 * (M 11 0).toNatClampNeg + 1) (X4_figure_r (M 8) (M 9 0) q1.1 q1.2 0 9)))] := hD
    refine lv_aload_n hx hb dX4_readCommand_169 rfl (lv_at hl 3 rfl) ?_
    refine va_get (D := G.1) (ci := 4) (v := .ref (a 6)) (C := RX4) (T := TX4) (N := 14) hx hb hts hinX4 hown hK.1 hP 0 rfl rfl 10 (by decide) (hts (.fieldLink RX4 33 "ParcelShelvesModel" "told" "[I") (by decide +kernel)) (fun _ h9 => h9) rfl dX4_readCommand_170 ?_
    refine lv_iconst (v := 3) hx hb dX4_readCommand_173 (by decide +kernel) ?_
    refine lv_aload_n hx hb dX4_readCommand_174 rfl (lv_at hl 3 rfl) ?_
    refine va_get (D := G.1) (ci := 4) (v := .int (M 11 0)) (C := RX4) (T := TX4) (N := 14) hx hb hts hinX4 hown hK.1 hP 0 rfl rfl 11 (by decide) (hts (.fieldLink RX4 202 "ParcelShelvesModel" "toldMany" "I") (by decide +kernel)) (fun _ h9 => h9) rfl dX4_readCommand_175 ?_
    refine lv_imul hx hb dX4_readCommand_178 ?_
    refine lv_topi (fun y_9 ey_10 => ?_)
    obtain rfl : y_9 = (nI (3 * (M 11 0).toNatClampNeg)) := by rw [ey_10]; rw [etm, nI_clamp (by omega)]; exact pk_mul 3 tm
    refine lv_iconst (v := 2) hx hb dX4_readCommand_179 (by decide +kernel) ?_
    refine lv_iadd hx hb dX4_readCommand_180 ?_
    refine lv_topi (fun y_11 ey_12 => ?_)
    obtain rfl : y_11 = (nI (3 * (M 11 0).toNatClampNeg + 2)) := by rw [ey_12]; exact nI_add _ 2
    refine lv_iload_n hx hb dX4_readCommand_181 rfl (lv_at hl 0 rfl) ?_
    refine va_iast hx hb hK.1 hP hD hS 6 0 rfl rfl (vp_in_nI (n := (3 * (M 11 0).toNatClampNeg + 2)) (N := 84) (by omega) (by decide)) dX4_readCommand_182 (fun H locs hP hD hS => ?_)
    rw [kz_nI_clamp (n := (3 * (M 11 0).toNatClampNeg + 2)) (by omega)] at hP hD
    have hP : kz_P G [mdW G a (va_up (va_up (va_up M 12 (fun _ => (X4_size_c12 (M 8) (M 9 0) q2.1 q2.2))) 13 (fun _ => (X4_size_c13 (M 8) (M 9 0) q2.1 q2.2))) 10 (upd (upd (upd (M 10) (3 * (M 11 0).toNatClampNeg) (X4_letter_r (M 8) (M 9 0) (M 12 0))) (3 * (M 11 0).toNatClampNeg + 1) (X4_figure_r (M 8) (M 9 0) q1.1 q1.2 0 9)) (3 * (M 11 0).toNatClampNeg + 2) (X4_size_r (M 8) (M 9 0) q2.1 q2.2)))] H := hP
    have hD : kz_D A [mdW G a (va_up (va_up (va_up M 12 (fun _ => (X4_size_c12 (M 8) (M 9 0) q2.1 q2.2))) 13 (fun _ => (X4_size_c13 (M 8) (M 9 0) q2.1 q2.2))) 10 (upd (upd (upd (M 10) (3 * (M 11 0).toNatClampNeg) (X4_letter_r (M 8) (M 9 0) (M 12 0))) (3 * (M 11 0).toNatClampNeg + 1) (X4_figure_r (M 8) (M 9 0) q1.1 q1.2 0 9)) (3 * (M 11 0).toNatClampNeg + 2) (X4_size_r (M 8) (M 9 0) q2.1 q2.2)))] := hD
    refine lv_aload_n hx hb dX4_readCommand_183 rfl (lv_at hl 3 rfl) ?_
    refine lv_dup hx hb dX4_readCommand_184 rfl ?_
    refine va_get (D := G.1) (ci := 4) (v := .int (M 11 0)) (C := RX4) (T := TX4) (N := 14) hx hb hts hinX4 hown hK.1 hP 0 rfl rfl 11 (by decide) (hts (.fieldLink RX4 202 "ParcelShelvesModel" "toldMany" "I") (by decide +kernel)) (fun _ h9 => h9) rfl dX4_readCommand_185 ?_
    refine lv_iconst (v := 1) hx hb dX4_readCommand_188 (by decide +kernel) ?_
    refine lv_iadd hx hb dX4_readCommand_189 ?_
    refine va_put (D := G.1) (ci := 4) (v := .int ((M 11 0) + 1)) (ty := .int) (C := RX4) (T := TX4) (N := 14) hx hb hts hinX4 tyX4 tyX4_ok nmX4 hown hK.1 hP hD hS 0 rfl rfl 11 (by decide) (hts (.fieldLink RX4 202 "ParcelShelvesModel" "toldMany" "I") (by decide +kernel)) (fun _ h9 => h9) rfl (by decide +kernel) rfl rfl (Nat.le_of_ble_eq_true rfl) dX4_readCommand_190 (fun H locs hP hD hS => ?_)
    have hP : kz_P G [mdW G a (va_up (va_up (va_up (va_up M 12 (fun _ => (X4_size_c12 (M 8) (M 9 0) q2.1 q2.2))) 13 (fun _ => (X4_size_c13 (M 8) (M 9 0) q2.1 q2.2))) 10 (upd (upd (upd (M 10) (3 * (M 11 0).toNatClampNeg) (X4_letter_r (M 8) (M 9 0) (M 12 0))) (3 * (M 11 0).toNatClampNeg + 1) (X4_figure_r (M 8) (M 9 0) q1.1 q1.2 0 9)) (3 * (M 11 0).toNatClampNeg + 2) (X4_size_r (M 8) (M 9 0) q2.1 q2.2))) 11 (fun _ => ((M 11 0) + 1)))] H := hP
    have hD : kz_D A [mdW G a (va_up (va_up (va_up (va_up M 12 (fun _ => (X4_size_c12 (M 8) (M 9 0) q2.1 q2.2))) 13 (fun _ => (X4_size_c13 (M 8) (M 9 0) q2.1 q2.2))) 10 (upd (upd (upd (M 10) (3 * (M 11 0).toNatClampNeg) (X4_letter_r (M 8) (M 9 0) (M 12 0))) (3 * (M 11 0).toNatClampNeg + 1) (X4_figure_r (M 8) (M 9 0) q1.1 q1.2 0 9)) (3 * (M 11 0).toNatClampNeg + 2) (X4_size_r (M 8) (M 9 0) q2.1 q2.2))) 11 (fun _ => ((M 11 0) + 1)))] := hD
    subst hQ
    have hP9 : kz_P G [mdW G a (va_up (va_up (va_up (va_up M 10 (X4_readCommand_c10 (M 8) (M 9 0) (M 10) (M 11 0) (M 12 0) (M 13 0))) 11 (fun _ => (X4_readCommand_c11 (M 8) (M 9 0) (M 10) (M 11 0) (M 12 0) (M 13 0)))) 12 (fun _ => (X4_readCommand_c12 (M 8) (M 9 0) (M 10) (M 11 0) (M 12 0) (M 13 0)))) 13 (fun _ => (X4_readCommand_c13 (M 8) (M 9 0) (M 10) (M 11 0) (M 12 0) (M 13 0))))] H := by rw [X4_readCommand_c10, X4_readCommand_c11, X4_readCommand_c12, X4_readCommand_c13, hall]; exact hP
    have hD9 : kz_D A [mdW G a (va_up (va_up (va_up (va_up M 10 (X4_readCommand_c10 (M 8) (M 9 0) (M 10) (M 11 0) (M 12 0) (M 13 0))) 11 (fun _ => (X4_readCommand_c11 (M 8) (M 9 0) (M 10) (M 11 0) (M 12 0) (M 13 0)))) 12 (fun _ => (X4_readCommand_c12 (M 8) (M 9 0) (M 10) (M 11 0) (M 12 0) (M 13 0)))) 13 (fun _ => (X4_readCommand_c13 (M 8) (M 9 0) (M 10) (M 11 0) (M 12 0) (M 13 0))))] := by rw [X4_readCommand_c10, X4_readCommand_c11, X4_readCommand_c12, X4_readCommand_c13, hall]; exact hD
    exact W.vret hx hb hr (fun t ht hW => ⟨⟨(), rfl, trivial, by rw [ht]; exact hP9, hD9⟩, hS.F ht⟩) hS.2.2 dX4_readCommand_193
  · refine lv_iload_n hx hb dX4_readCommand_12 rfl (lv_at hl 0 rfl) ?_
    refine lv_bipush (v := 112) hx hb dX4_readCommand_13 (by decide +kernel) ?_
    refine lv_icmp_eq (tgt := 36) hx hb dX4_readCommand_15 (by decide) (fun c_13 => ?_) (fun c_13 => ?_)
    · refine lv_iconst (v := 1) hx hb dX4_readCommand_36 (by decide +kernel) ?_
      refine lv_goto (tgt := 41) hx hb dX4_readCommand_37 (by decide) ?_
      refine kz_mvV (As := [.int 1]) (rest := []) (b := a 0) (wr := []) (bs' := [mdW G a (va_up (va_up M 12 (fun _ => (X4_wants_c12 (M 12 0) (M 13 0) 1))) 13 (fun _ => (X4_wants_c13 (M 12 0) (M 13 0) 1)))]) ⟨hx, hb, hml, hown, hts⟩ (c_X4_wants l G a M 1) (cwV 1 hts gX4_readCommand_X4_wants rfl rfl rfl (by decide +kernel) ⟨Nat.le_of_ble_eq_true rfl, Nat.le_of_ble_eq_true rfl⟩) hK hP hD hS hA [0] [] [0] rfl (by decide) rfl (by decide) (by decide) rfl (by decide) (kz_recv hK hP (ci := 4) (q0 := 0) rfl rfl) rfl hl.1 rfl (Nat.le_of_ble_eq_true rfl) dX4_readCommand_41 ⟨Nat.le_of_ble_eq_true rfl, Nat.le_of_ble_eq_true rfl⟩ (fun H locs hP hD hS => ?_)
      obtain ⟨q1, eq1⟩ : ∃ q, q = rc_w (M 12 0) (M 13 0) 1 := ⟨_, rfl⟩
      have hP : kz_P G [mdW G a (va_up (va_up M 12 (fun _ => q1.1)) 13 (fun _ => q1.2))] H := by rw [eq1]; exact hP
      have hD : kz_D A [mdW G a (va_up (va_up M 12 (fun _ => q1.1)) 13 (fun _ => q1.2))] := by rw [eq1]; exact hD
      have hb1 : rc_b (X4_letter_r (M 8) (M 9 0) (M 12 0)) = 1 := by rw [rc_b, if_neg c_1, if_pos c_13]
      have hq1 : ∃ s, s ≤ 901 ∧ q1.1 = nI s := by rw [eq1]; exact kz_wtS hsp
      refine lv_iconst (v := 0) hx hb dX4_readCommand_44 (by decide +kernel) ?_
      refine lv_istore_n (lv' := [(2, .int 0), (1, .int (X4_letter_r (M 8) (M 9 0) (M 12 0))), (0, .ref (a 0))]) hx hb dX4_readCommand_45 rfl hl (by decide) rfl (fun ls hl => ?_)
      refine lv_iconst (v := 0) hx hb dX4_readCommand_46 (by decide +kernel) ?_
      refine lv_istore_n (lv' := [(3, .int 0), (2, .int 0), (1, .int (X4_letter_r (M 8) (M 9 0) (M 12 0))), (0, .ref (a 0))]) hx hb dX4_readCommand_47 rfl hl (by decide) rfl (fun ls hl => ?_)
      refine lv_iload_n hx hb dX4_readCommand_48 rfl (lv_at hl 2 rfl) ?_
      refine lv_bipush (v := 97) hx hb dX4_readCommand_49 (by decide +kernel) ?_
      refine lv_icmp_ne (tgt := 70) hx hb dX4_readCommand_51 (by decide) (fun c_14 => ?_) (fun c => absurd c c_1)
      refine lv_iload_n hx hb dX4_readCommand_70 rfl (lv_at hl 2 rfl) ?_
      refine lv_bipush (v := 100) hx hb dX4_readCommand_71 (by decide +kernel) ?_
      refine lv_icmp_ne (tgt := 84) hx hb dX4_readCommand_73 (by decide) (fun c_15 => ?_) (fun c => absurd c (by exact fun e9 => absurd (c_13.symm.trans e9) (by decide)))
      refine lv_iconst (v := 0) hx hb dX4_readCommand_84 (by decide +kernel) ?_
      refine lv_istore (lv' := [(4, .int 0), (3, .int 0), (2, .int 0), (1, .int (X4_letter_r (M 8) (M 9 0) (M 12 0))), (0, .ref (a 0))]) hx hb dX4_readCommand_85 hl (by decide) rfl (fun ls hl => ?_)
      refine lv_iload hx hb dX4_readCommand_87 (lv_at hl 0 rfl) ?_
      refine lv_iconst (v := 4) hx hb dX4_readCommand_89 (by decide +kernel) ?_
      refine lv_icmp_ge (tgt := 112) hx hb dX4_readCommand_90 (by decide) (fun c => absurd c (by decide)) (fun _ => ?_)
      refine lv_bipush (v := 10) hx hb dX4_readCommand_93 (by decide +kernel) ?_
      refine lv_iload_n hx hb dX4_readCommand_95 rfl (lv_at hl 2 rfl) ?_
      refine lv_imul hx hb dX4_readCommand_96 ?_
      refine lv_aload_n hx hb dX4_readCommand_97 rfl (lv_at hl 4 rfl) ?_
      refine lv_iconst (v := 0) hx hb dX4_readCommand_98 (by decide +kernel) ?_
      refine lv_bipush (v := 9) hx hb dX4_readCommand_99 (by decide +kernel) ?_
      refine kz_miV (As := [.int 0, .int 9]) (rest := [.int (10 * 0)]) (b := a 0) (wr := []) (bs' := [mdW G a (va_up (va_up M 12 (fun _ => (X4_figure_c12 (M 8) (M 9 0) q1.1 q1.2 0 9))) 13 (fun _ => (X4_figure_c13 (M 8) (M 9 0) q1.1 q1.2 0 9)))]) ⟨hx, hb, hml, hown, hts⟩ (c_X4_figure l G a (va_up (va_up M 12 (fun _ => q1.1)) 13 (fun _ => q1.2)) 0 9 (by rw [va_up_ne _ _ (by decide : 12 ≠ 13), va_up_self]; exact kz_le12 hq1 (by omega)) (by rw [va_up_ne _ _ (by decide : 9 ≠ 13), va_up_ne _ _ (by decide : 9 ≠ 12)]; exact hty)) (cwV 2 hts gX4_readCommand_X4_figure rfl rfl rfl (by decide +kernel) ⟨Nat.le_of_ble_eq_true rfl, Nat.le_of_ble_eq_true rfl⟩) hK hP hD hS hA [0] [] [0] rfl (by decide) rfl (by decide) (by decide) rfl (by decide) (kz_recv hK hP (ci := 4) (q0 := 0) rfl rfl) rfl hl.1 rfl (Nat.le_of_ble_eq_true rfl) dX4_readCommand_101 ⟨Nat.le_of_ble_eq_true rfl, Nat.le_of_ble_eq_true rfl⟩ (fun H locs hP hD hS => ?_)
      refine lv_iadd hx hb dX4_readCommand_104 ?_
      obtain ⟨s2, es2⟩ : ∃ q, q = rc_f (M 8) (M 9 0) (0, q1) := ⟨_, rfl⟩
      have hP : kz_P G [mdW G a (va_up (va_up M 12 (fun _ => s2.2.1)) 13 (fun _ => s2.2.2))] H := by rw [es2]; exact hP
      have hD : kz_D A [mdW G a (va_up (va_up M 12 (fun _ => s2.2.1)) 13 (fun _ => s2.2.2))] := by rw [es2]; exact hD
      have hs2 : ∃ s, s ≤ 902 ∧ s2.2.1 = nI s := by rw [es2]; exact kz_fgS hq1
      refine lv_topi (fun y_16 ey_17 => ?_)
      obtain rfl : y_16 = s2.1 := by rw [ey_17, es2]; rfl
      refine lv_istore_n (lv' := [(2, .int s2.1), (4, .int 0), (3, .int 0), (1, .int (X4_letter_r (M 8) (M 9 0) (M 12 0))), (0, .ref (a 0))]) hx hb dX4_readCommand_105 rfl hl (by decide) rfl (fun ls hl => ?_)
      refine lv_iinc (v := 1) (lv' := [(4, .int 1), (2, .int s2.1), (3, .int 0), (1, .int (X4_letter_r (M 8) (M 9 0) (M 12 0))), (0, .ref (a 0))]) hx hb dX4_readCommand_106 hl (k := 1) rfl (by decide +kernel) (by decide) rfl (fun ls hl => ?_)
      refine lv_goto (tgt := 87) hx hb dX4_readCommand_109 (by decide) ?_
      refine lv_iload hx hb dX4_readCommand_87 (lv_at hl 0 rfl) ?_
      refine lv_iconst (v := 4) hx hb dX4_readCommand_89 (by decide +kernel) ?_
      refine lv_icmp_ge (tgt := 112) hx hb dX4_readCommand_90 (by decide) (fun c => absurd c (by decide)) (fun _ => ?_)
      refine lv_bipush (v := 10) hx hb dX4_readCommand_93 (by decide +kernel) ?_
      refine lv_iload_n hx hb dX4_readCommand_95 rfl (lv_at hl 1 rfl) ?_
      refine lv_imul hx hb dX4_readCommand_96 ?_
      refine lv_aload_n hx hb dX4_readCommand_97 rfl (lv_at hl 4 rfl) ?_
      refine lv_iconst (v := 0) hx hb dX4_readCommand_98 (by decide +kernel) ?_
      refine lv_bipush (v := 9) hx hb dX4_readCommand_99 (by decide +kernel) ?_
      refine kz_miV (As := [.int 0, .int 9]) (rest := [.int (10 * s2.1)]) (b := a 0) (wr := []) (bs' := [mdW G a (va_up (va_up M 12 (fun _ => (X4_figure_c12 (M 8) (M 9 0) s2.2.1 s2.2.2 0 9))) 13 (fun _ => (X4_figure_c13 (M 8) (M 9 0) s2.2.1 s2.2.2 0 9)))]) ⟨hx, hb, hml, hown, hts⟩ (c_X4_figure l G a (va_up (va_up M 12 (fun _ => s2.2.1)) 13 (fun _ => s2.2.2)) 0 9 (by rw [va_up_ne _ _ (by decide : 12 ≠ 13), va_up_self]; exact kz_le12 hs2 (by omega)) (by rw [va_up_ne _ _ (by decide : 9 ≠ 13), va_up_ne _ _ (by decide : 9 ≠ 12)]; exact hty)) (cwV 2 hts gX4_readCommand_X4_figure rfl rfl rfl (by decide +kernel) ⟨Nat.le_of_ble_eq_true rfl, Nat.le_of_ble_eq_true rfl⟩) hK hP hD hS hA [0] [] [0] rfl (by decide) rfl (by decide) (by decide) rfl (by decide) (kz_recv hK hP (ci := 4) (q0 := 0) rfl rfl) rfl hl.1 rfl (Nat.le_of_ble_eq_true rfl) dX4_readCommand_101 ⟨Nat.le_of_ble_eq_true rfl, Nat.le_of_ble_eq_true rfl⟩ (fun H locs hP hD hS => ?_)
      refine lv_iadd hx hb dX4_readCommand_104 ?_
      obtain ⟨s3, es3⟩ : ∃ q, q = rc_f (M 8) (M 9 0) s2 := ⟨_, rfl⟩
      have hP : kz_P G [mdW G a (va_up (va_up M 12 (fun _ => s3.2.1)) 13 (fun _ => s3.2.2))] H := by rw [es3]; exact hP
      have hD : kz_D A [mdW G a (va_up (va_up M 12 (fun _ => s3.2.1)) 13 (fun _ => s3.2.2))] := by rw [es3]; exact hD
      have hs3 : ∃ s, s ≤ 903 ∧ s3.2.1 = nI s := by rw [es3]; exact kz_fgS hs2
      refine lv_topi (fun y_18 ey_19 => ?_)
      obtain rfl : y_18 = s3.1 := by rw [ey_19, es3]; rfl
      refine lv_istore_n (lv' := [(2, .int s3.1), (4, .int 1), (3, .int 0), (1, .int (X4_letter_r (M 8) (M 9 0) (M 12 0))), (0, .ref (a 0))]) hx hb dX4_readCommand_105 rfl hl (by decide) rfl (fun ls hl => ?_)
      refine lv_iinc (v := 2) (lv' := [(4, .int 2), (2, .int s3.1), (3, .int 0), (1, .int (X4_letter_r (M 8) (M 9 0) (M 12 0))), (0, .ref (a 0))]) hx hb dX4_readCommand_106 hl (k := 1) rfl (by decide +kernel) (by decide) rfl (fun ls hl => ?_)
      refine lv_goto (tgt := 87) hx hb dX4_readCommand_109 (by decide) ?_
      refine lv_iload hx hb dX4_readCommand_87 (lv_at hl 0 rfl) ?_
      refine lv_iconst (v := 4) hx hb dX4_readCommand_89 (by decide +kernel) ?_
      refine lv_icmp_ge (tgt := 112) hx hb dX4_readCommand_90 (by decide) (fun c => absurd c (by decide)) (fun _ => ?_)
      refine lv_bipush (v := 10) hx hb dX4_readCommand_93 (by decide +kernel) ?_
      refine lv_iload_n hx hb dX4_readCommand_95 rfl (lv_at hl 1 rfl) ?_
      refine lv_imul hx hb dX4_readCommand_96 ?_
      refine lv_aload_n hx hb dX4_readCommand_97 rfl (lv_at hl 4 rfl) ?_
      refine lv_iconst (v := 0) hx hb dX4_readCommand_98 (by decide +kernel) ?_
      refine lv_bipush (v := 9) hx hb dX4_readCommand_99 (by decide +kernel) ?_
      refine kz_miV (As := [.int 0, .int 9]) (rest := [.int (10 * s3.1)]) (b := a 0) (wr := []) (bs' := [mdW G a (va_up (va_up M 12 (fun _ => (X4_figure_c12 (M 8) (M 9 0) s3.2.1 s3.2.2 0 9))) 13 (fun _ => (X4_figure_c13 (M 8) (M 9 0) s3.2.1 s3.2.2 0 9)))]) ⟨hx, hb, hml, hown, hts⟩ (c_X4_figure l G a (va_up (va_up M 12 (fun _ => s3.2.1)) 13 (fun _ => s3.2.2)) 0 9 (by rw [va_up_ne _ _ (by decide : 12 ≠ 13), va_up_self]; exact kz_le12 hs3 (by omega)) (by rw [va_up_ne _ _ (by decide : 9 ≠ 13), va_up_ne _ _ (by decide : 9 ≠ 12)]; exact hty)) (cwV 2 hts gX4_readCommand_X4_figure rfl rfl rfl (by decide +kernel) ⟨Nat.le_of_ble_eq_true rfl, Nat.le_of_ble_eq_true rfl⟩) hK hP hD hS hA [0] [] [0] rfl (by decide) rfl (by decide) (by decide) rfl (by decide) (kz_recv hK hP (ci := 4) (q0 := 0) rfl rfl) rfl hl.1 rfl (Nat.le_of_ble_eq_true rfl) dX4_readCommand_101 ⟨Nat.le_of_ble_eq_true rfl, Nat.le_of_ble_eq_true rfl⟩ (fun H locs hP hD hS => ?_)
      refine lv_iadd hx hb dX4_readCommand_104 ?_
      obtain ⟨s4, es4⟩ : ∃ q, q = rc_f (M 8) (M 9 0) s3 := ⟨_, rfl⟩
      have hP : kz_P G [mdW G a (va_up (va_up M 12 (fun _ => s4.2.1)) 13 (fun _ => s4.2.2))] H := by rw [es4]; exact hP
      have hD : kz_D A [mdW G a (va_up (va_up M 12 (fun _ => s4.2.1)) 13 (fun _ => s4.2.2))] := by rw [es4]; exact hD
      have hs4 : ∃ s, s ≤ 904 ∧ s4.2.1 = nI s := by rw [es4]; exact kz_fgS hs3
      refine lv_topi (fun y_20 ey_21 => ?_)
      obtain rfl : y_20 = s4.1 := by rw [ey_21, es4]; rfl
      refine lv_istore_n (lv' := [(2, .int s4.1), (4, .int 2), (3, .int 0), (1, .int (X4_letter_r (M 8) (M 9 0) (M 12 0))), (0, .ref (a 0))]) hx hb dX4_readCommand_105 rfl hl (by decide) rfl (fun ls hl => ?_)
      refine lv_iinc (v := 3) (lv' := [(4, .int 3), (2, .int s4.1), (3, .int 0), (1, .int (X4_letter_r (M 8) (M 9 0) (M 12 0))), (0, .ref (a 0))]) hx hb dX4_readCommand_106 hl (k := 1) rfl (by decide +kernel) (by decide) rfl (fun ls hl => ?_)
      refine lv_goto (tgt := 87) hx hb dX4_readCommand_109 (by decide) ?_
      refine lv_iload hx hb dX4_readCommand_87 (lv_at hl 0 rfl) ?_
      refine lv_iconst (v := 4) hx hb dX4_readCommand_89 (by decide +kernel) ?_
      refine lv_icmp_ge (tgt := 112) hx hb dX4_readCommand_90 (by decide) (fun c => absurd c (by decide)) (fun _ => ?_)
      refine lv_bipush (v := 10) hx hb dX4_readCommand_93 (by decide +kernel) ?_
      refine lv_iload_n hx hb dX4_readCommand_95 rfl (lv_at hl 1 rfl) ?_
      refine lv_imul hx hb dX4_readCommand_96 ?_
      refine lv_aload_n hx hb dX4_readCommand_97 rfl (lv_at hl 4 rfl) ?_
      refine lv_iconst (v := 0) hx hb dX4_readCommand_98 (by decide +kernel) ?_
      refine lv_bipush (v := 9) hx hb dX4_readCommand_99 (by decide +kernel) ?_
      refine kz_miV (As := [.int 0, .int 9]) (rest := [.int (10 * s4.1)]) (b := a 0) (wr := []) (bs' := [mdW G a (va_up (va_up M 12 (fun _ => (X4_figure_c12 (M 8) (M 9 0) s4.2.1 s4.2.2 0 9))) 13 (fun _ => (X4_figure_c13 (M 8) (M 9 0) s4.2.1 s4.2.2 0 9)))]) ⟨hx, hb, hml, hown, hts⟩ (c_X4_figure l G a (va_up (va_up M 12 (fun _ => s4.2.1)) 13 (fun _ => s4.2.2)) 0 9 (by rw [va_up_ne _ _ (by decide : 12 ≠ 13), va_up_self]; exact kz_le12 hs4 (by omega)) (by rw [va_up_ne _ _ (by decide : 9 ≠ 13), va_up_ne _ _ (by decide : 9 ≠ 12)]; exact hty)) (cwV 2 hts gX4_readCommand_X4_figure rfl rfl rfl (by decide +kernel) ⟨Nat.le_of_ble_eq_true rfl, Nat.le_of_ble_eq_true rfl⟩) hK hP hD hS hA [0] [] [0] rfl (by decide) rfl (by decide) (by decide) rfl (by decide) (kz_recv hK hP (ci := 4) (q0 := 0) rfl rfl) rfl hl.1 rfl (Nat.le_of_ble_eq_true rfl) dX4_readCommand_101 ⟨Nat.le_of_ble_eq_true rfl, Nat.le_of_ble_eq_true rfl⟩ (fun H locs hP hD hS => ?_)
      refine lv_iadd hx hb dX4_readCommand_104 ?_
      obtain ⟨s5, es5⟩ : ∃ q, q = rc_f (M 8) (M 9 0) s4 := ⟨_, rfl⟩
      have hP : kz_P G [mdW G a (va_up (va_up M 12 (fun _ => s5.2.1)) 13 (fun _ => s5.2.2))] H := by rw [es5]; exact hP
      have hD : kz_D A [mdW G a (va_up (va_up M 12 (fun _ => s5.2.1)) 13 (fun _ => s5.2.2))] := by rw [es5]; exact hD
      have hs5 : ∃ s, s ≤ 905 ∧ s5.2.1 = nI s := by rw [es5]; exact kz_fgS hs4
      refine lv_topi (fun y_22 ey_23 => ?_)
      obtain rfl : y_22 = s5.1 := by rw [ey_23, es5]; rfl
      refine lv_istore_n (lv' := [(2, .int s5.1), (4, .int 3), (3, .int 0), (1, .int (X4_letter_r (M 8) (M 9 0) (M 12 0))), (0, .ref (a 0))]) hx hb dX4_readCommand_105 rfl hl (by decide) rfl (fun ls hl => ?_)
      refine lv_iinc (v := 4) (lv' := [(4, .int 4), (2, .int s5.1), (3, .int 0), (1, .int (X4_letter_r (M 8) (M 9 0) (M 12 0))), (0, .ref (a 0))]) hx hb dX4_readCommand_106 hl (k := 1) rfl (by decide +kernel) (by decide) rfl (fun ls hl => ?_)
      refine lv_goto (tgt := 87) hx hb dX4_readCommand_109 (by decide) ?_
      refine lv_iload hx hb dX4_readCommand_87 (lv_at hl 0 rfl) ?_
      refine lv_iconst (v := 4) hx hb dX4_readCommand_89 (by decide +kernel) ?_
      refine lv_icmp_ge (tgt := 112) hx hb dX4_readCommand_90 (by decide) (fun _ => ?_) (fun c => absurd c (by decide))
      refine lv_iload_n hx hb dX4_readCommand_112 rfl (lv_at hl 3 rfl) ?_
      refine lv_bipush (v := 109) hx hb dX4_readCommand_113 (by decide +kernel) ?_
      refine lv_icmp_ne (tgt := 143) hx hb dX4_readCommand_115 (by decide) (fun c_24 => ?_) (fun c => absurd c (by exact fun e9 => absurd (c_13.symm.trans e9) (by decide)))
      have hall : X4_rc (M 8) (M 9 0) (M 12 0) (M 13 0) = ((X4_letter_r (M 8) (M 9 0) (M 12 0)), s5.1, 0, s5.2.1, s5.2.2) := by rw [X4_rc, hb1, ← eq1, rc_k, if_neg c_1, if_neg c_15, show rc_4 (M 8) (M 9 0) q1 = s5 from by rw [es5, es4, es3, es2]; rfl, rc_t, if_neg c_24]
      refine lv_aload_n hx hb dX4_readCommand_143 rfl (lv_at hl 4 rfl) ?_
      refine va_get (D := G.1) (ci := 4) (v := .ref (a 6)) (C := RX4) (T := TX4) (N := 14) hx hb hts hinX4 hown hK.1 hP 0 rfl rfl 10 (by decide) (hts (.fieldLink RX4 33 "ParcelShelvesModel" "told" "[I") (by decide +kernel)) (fun _ h9 => h9) rfl dX4_readCommand_144 ?_
      refine lv_iconst (v := 3) hx hb dX4_readCommand_147 (by decide +kernel) ?_
      refine lv_aload_n hx hb dX4_readCommand_148 rfl (lv_at hl 4 rfl) ?_
      refine va_get (D := G.1) (ci := 4) (v := .int (M 11 0)) (C := RX4) (T := TX4) (N := 14) hx hb hts hinX4 hown hK.1 hP 0 rfl rfl 11 (by decide) (hts (.fieldLink RX4 202 "ParcelShelvesModel" "toldMany" "I") (by decide +kernel)) (fun _ h9 => h9) rfl dX4_readCommand_149 ?_
      refine lv_imul hx hb dX4_readCommand_152 ?_
      refine lv_topi (fun y_25 ey_26 => ?_)
      obtain rfl : y_25 = (nI (3 * (M 11 0).toNatClampNeg)) := by rw [ey_26]; rw [etm, nI_clamp (by omega)]; exact pk_mul 3 tm
      refine lv_iload_n hx hb dX4_readCommand_153 rfl (lv_at hl 3 rfl) ?_
      refine va_iast hx hb hK.1 hP hD hS 6 0 rfl rfl (vp_in_nI (n := (3 * (M 11 0).toNatClampNeg)) (N := 84) (by omega) (by decide)) dX4_readCommand_154 (fun H locs hP hD hS => ?_)
      rw [kz_nI_clamp (n := (3 * (M 11 0).toNatClampNeg)) (by omega)] at hP hD
      have hP : kz_P G [mdW G a (va_up (va_up (va_up M 12 (fun _ => s5.2.1)) 13 (fun _ => s5.2.2)) 10 (upd (M 10) (3 * (M 11 0).toNatClampNeg) (X4_letter_r (M 8) (M 9 0) (M 12 0))))] H := hP
      have hD : kz_D A [mdW G a (va_up (va_up (va_up M 12 (fun _ => s5.2.1)) 13 (fun _ => s5.2.2)) 10 (upd (M 10) (3 * (M 11 0).toNatClampNeg) (X4_letter_r (M 8) (M 9 0) (M 12 0))))] := hD
      refine lv_aload_n hx hb dX4_readCommand_155 rfl (lv_at hl 4 rfl) ?_
      refine va_get (D := G.1) (ci := 4) (v := .ref (a 6)) (C := RX4) (T := TX4) (N := 14) hx hb hts hinX4 hown hK.1 hP 0 rfl rfl 10 (by decide) (hts (.fieldLink RX4 33 "ParcelShelvesModel" "told" "[I") (by decide +kernel)) (fun _ h9 => h9) rfl dX4_readCommand_156 ?_
      refine lv_iconst (v := 3) hx hb dX4_readCommand_159 (by decide +kernel) ?_
      refine lv_aload_n hx hb dX4_readCommand_160 rfl (lv_at hl 4 rfl) ?_
      refine va_get (D := G.1) (ci := 4) (v := .int (M 11 0)) (C := RX4) (T := TX4) (N := 14) hx hb hts hinX4 hown hK.1 hP 0 rfl rfl 11 (by decide) (hts (.fieldLink RX4 202 "ParcelShelvesModel" "toldMany" "I") (by decide +kernel)) (fun _ h9 => h9) rfl dX4_readCommand_161 ?_
      refine lv_imul hx hb dX4_readCommand_164 ?_
      refine lv_topi (fun y_27 ey_28 => ?_)
      obtain rfl : y_27 = (nI (3 * (M 11 0).toNatClampNeg)) := by rw [ey_28]; rw [etm, nI_clamp (by omega)]; exact pk_mul 3 tm
      refine lv_iconst (v := 1) hx hb dX4_readCommand_165 (by decide +kernel) ?_
      refine lv_iadd hx hb dX4_readCommand_166 ?_
      refine lv_topi (fun y_29 ey_30 => ?_)
      obtain rfl : y_29 = (nI (3 * (M 11 0).toNatClampNeg + 1)) := by rw [ey_30]; exact nI_1 _
      refine lv_iload_n hx hb dX4_readCommand_167 rfl (lv_at hl 1 rfl) ?_
      refine va_iast hx hb hK.1 hP hD hS 6 0 rfl rfl (vp_in_nI (n := (3 * (M 11 0).toNatClampNeg + 1)) (N := 84) (by omega) (by decide)) dX4_readCommand_168 (fun H locs hP hD hS => ?_)
      rw [kz_nI_clamp (n := (3 * (M 11 0).toNatClampNeg + 1)) (by omega)] at hP hD
      have hP : kz_P G [mdW G a (va_up (va_up (va_up M 12 (fun _ => s5.2.1)) 13 (fun _ => s5.2.2)) 10 (upd (upd (M 10) (3 * (M 11 0).toNatClampNeg) (X4_letter_r (M 8) (M 9 0) (M 12 0))) (3 * (M 11 0).toNatClampNeg + 1) s5.1))] H := hP
      have hD : kz_D A [mdW G a (va_up (va_up (va_up M 12 (fun _ => s5.2.1)) 13 (fun _ => s5.2.2)) 10 (upd (upd (M 10) (3 * (M 11 0).toNatClampNeg) (X4_letter_r (M 8) (M 9 0) (M 12 0))) (3 * (M 11 0).toNatClampNeg + 1) s5.1))] := hD
      refine lv_aload_n hx hb dX4_readCommand_169 rfl (lv_at hl 4 rfl) ?_
      refine va_get (D := G.1) (ci := 4) (v := .ref (a 6)) (C := RX4) (T := TX4) (N := 14) hx hb hts hinX4 hown hK.1 hP 0 rfl rfl 10 (by decide) (hts (.fieldLink RX4 33 "ParcelShelvesModel" "told" "[I") (by decide +kernel)) (fun _ h9 => h9) rfl dX4_readCommand_170 ?_
      refine lv_iconst (v := 3) hx hb dX4_readCommand_173 (by decide +kernel) ?_
      refine lv_aload_n hx hb dX4_readCommand_174 rfl (lv_at hl 4 rfl) ?_
      refine va_get (D := G.1) (ci := 4) (v := .int (M 11 0)) (C := RX4) (T := TX4) (N := 14) hx hb hts hinX4 hown hK.1 hP 0 rfl rfl 11 (by decide) (hts (.fieldLink RX4 202 "ParcelShelvesModel" "toldMany" "I") (by decide +kernel)) (fun _ h9 => h9) rfl dX4_readCommand_175 ?_
      refine lv_imul hx hb dX4_readCommand_178 ?_
      refine lv_topi (fun y_31 ey_32 => ?_)
      obtain rfl : y_31 = (nI (3 * (M 11 0).toNatClampNeg)) := by rw [ey_32]; rw [etm, nI_clamp (by omega)]; exact pk_mul 3 tm
      refine lv_iconst (v := 2) hx hb dX4_readCommand_179 (by decide +kernel) ?_
      refine lv_iadd hx hb dX4_readCommand_180 ?_
      refine lv_topi (fun y_33 ey_34 => ?_)
      obtain rfl : y_33 = (nI (3 * (M 11 0).toNatClampNeg + 2)) := by rw [ey_34]; exact nI_add _ 2
      refine lv_iload_n hx hb dX4_readCommand_181 rfl (lv_at hl 2 rfl) ?_
      refine va_iast hx hb hK.1 hP hD hS 6 0 rfl rfl (vp_in_nI (n := (3 * (M 11 0).toNatClampNeg + 2)) (N := 84) (by omega) (by decide)) dX4_readCommand_182 (fun H locs hP hD hS => ?_)
      rw [kz_nI_clamp (n := (3 * (M 11 0).toNatClampNeg + 2)) (by omega)] at hP hD
      have hP : kz_P G [mdW G a (va_up (va_up (va_up M 12 (fun _ => s5.2.1)) 13 (fun _ => s5.2.2)) 10 (upd (upd (upd (M 10) (3 * (M 11 0).toNatClampNeg) (X4_letter_r (M 8) (M 9 0) (M 12 0))) (3 * (M 11 0).toNatClampNeg + 1) s5.1) (3 * (M 11 0).toNatClampNeg + 2) 0))] H := hP
      have hD : kz_D A [mdW G a (va_up (va_up (va_up M 12 (fun _ => s5.2.1)) 13 (fun _ => s5.2.2)) 10 (upd (upd (upd (M 10) (3 * (M 11 0).toNatClampNeg) (X4_letter_r (M 8) (M 9 0) (M 12 0))) (3 * (M 11 0).toNatClampNeg + 1) s5.1) (3 * (M 11 0).toNatClampNeg + 2) 0))] := hD
      refine lv_aload_n hx hb dX4_readCommand_183 rfl (lv_at hl 4 rfl) ?_
      refine lv_dup hx hb dX4_readCommand_184 rfl ?_
      refine va_get (D := G.1) (ci := 4) (v := .int (M 11 0)) (C := RX4) (T := TX4) (N := 14) hx hb hts hinX4 hown hK.1 hP 0 rfl rfl 11 (by decide) (hts (.fieldLink RX4 202 "ParcelShelvesModel" "toldMany" "I") (by decide +kernel)) (fun _ h9 => h9) rfl dX4_readCommand_185 ?_
      refine lv_iconst (v := 1) hx hb dX4_readCommand_188 (by decide +kernel) ?_
      refine lv_iadd hx hb dX4_readCommand_189 ?_
      refine va_put (D := G.1) (ci := 4) (v := .int ((M 11 0) + 1)) (ty := .int) (C := RX4) (T := TX4) (N := 14) hx hb hts hinX4 tyX4 tyX4_ok nmX4 hown hK.1 hP hD hS 0 rfl rfl 11 (by decide) (hts (.fieldLink RX4 202 "ParcelShelvesModel" "toldMany" "I") (by decide +kernel)) (fun _ h9 => h9) rfl (by decide +kernel) rfl rfl (Nat.le_of_ble_eq_true rfl) dX4_readCommand_190 (fun H locs hP hD hS => ?_)
      have hP : kz_P G [mdW G a (va_up (va_up (va_up (va_up M 12 (fun _ => s5.2.1)) 13 (fun _ => s5.2.2)) 10 (upd (upd (upd (M 10) (3 * (M 11 0).toNatClampNeg) (X4_letter_r (M 8) (M 9 0) (M 12 0))) (3 * (M 11 0).toNatClampNeg + 1) s5.1) (3 * (M 11 0).toNatClampNeg + 2) 0)) 11 (fun _ => ((M 11 0) + 1)))] H := hP
      have hD : kz_D A [mdW G a (va_up (va_up (va_up (va_up M 12 (fun _ => s5.2.1)) 13 (fun _ => s5.2.2)) 10 (upd (upd (upd (M 10) (3 * (M 11 0).toNatClampNeg) (X4_letter_r (M 8) (M 9 0) (M 12 0))) (3 * (M 11 0).toNatClampNeg + 1) s5.1) (3 * (M 11 0).toNatClampNeg + 2) 0)) 11 (fun _ => ((M 11 0) + 1)))] := hD
      subst hQ
      have hP9 : kz_P G [mdW G a (va_up (va_up (va_up (va_up M 10 (X4_readCommand_c10 (M 8) (M 9 0) (M 10) (M 11 0) (M 12 0) (M 13 0))) 11 (fun _ => (X4_readCommand_c11 (M 8) (M 9 0) (M 10) (M 11 0) (M 12 0) (M 13 0)))) 12 (fun _ => (X4_readCommand_c12 (M 8) (M 9 0) (M 10) (M 11 0) (M 12 0) (M 13 0)))) 13 (fun _ => (X4_readCommand_c13 (M 8) (M 9 0) (M 10) (M 11 0) (M 12 0) (M 13 0))))] H := by rw [X4_readCommand_c10, X4_readCommand_c11, X4_readCommand_c12, X4_readCommand_c13, hall]; exact hP
      have hD9 : kz_D A [mdW G a (va_up (va_up (va_up (va_up M 10 (X4_readCommand_c10 (M 8) (M 9 0) (M 10) (M 11 0) (M 12 0) (M 13 0))) 11 (fun _ => (X4_readCommand_c11 (M 8) (M 9 0) (M 10) (M 11 0) (M 12 0) (M 13 0)))) 12 (fun _ => (X4_readCommand_c12 (M 8) (M 9 0) (M 10) (M 11 0) (M 12 0) (M 13 0)))) 13 (fun _ => (X4_readCommand_c13 (M 8) (M 9 0) (M 10) (M 11 0) (M 12 0) (M 13 0))))] := by rw [X4_readCommand_c10, X4_readCommand_c11, X4_readCommand_c12, X4_readCommand_c13, hall]; exact hD
      exact W.vret hx hb hr (fun t ht hW => ⟨⟨(), rfl, trivial, by rw [ht]; exact hP9, hD9⟩, hS.F ht⟩) hS.2.2 dX4_readCommand_193
    · refine lv_iload_n hx hb dX4_readCommand_18 rfl (lv_at hl 0 rfl) ?_
      refine lv_bipush (v := 120) hx hb dX4_readCommand_19 (by decide +kernel) ?_
      refine lv_icmp_eq (tgt := 36) hx hb dX4_readCommand_21 (by decide) (fun c_35 => ?_) (fun c_35 => ?_)
      · refine lv_iconst (v := 1) hx hb dX4_readCommand_36 (by decide +kernel) ?_
        refine lv_goto (tgt := 41) hx hb dX4_readCommand_37 (by decide) ?_
        refine kz_mvV (As := [.int 1]) (rest := []) (b := a 0) (wr := []) (bs' := [mdW G a (va_up (va_up M 12 (fun _ => (X4_wants_c12 (M 12 0) (M 13 0) 1))) 13 (fun _ => (X4_wants_c13 (M 12 0) (M 13 0) 1)))]) ⟨hx, hb, hml, hown, hts⟩ (c_X4_wants l G a M 1) (cwV 1 hts gX4_readCommand_X4_wants rfl rfl rfl (by decide +kernel) ⟨Nat.le_of_ble_eq_true rfl, Nat.le_of_ble_eq_true rfl⟩) hK hP hD hS hA [0] [] [0] rfl (by decide) rfl (by decide) (by decide) rfl (by decide) (kz_recv hK hP (ci := 4) (q0 := 0) rfl rfl) rfl hl.1 rfl (Nat.le_of_ble_eq_true rfl) dX4_readCommand_41 ⟨Nat.le_of_ble_eq_true rfl, Nat.le_of_ble_eq_true rfl⟩ (fun H locs hP hD hS => ?_)
        obtain ⟨q1, eq1⟩ : ∃ q, q = rc_w (M 12 0) (M 13 0) 1 := ⟨_, rfl⟩
        have hP : kz_P G [mdW G a (va_up (va_up M 12 (fun _ => q1.1)) 13 (fun _ => q1.2))] H := by rw [eq1]; exact hP
        have hD : kz_D A [mdW G a (va_up (va_up M 12 (fun _ => q1.1)) 13 (fun _ => q1.2))] := by rw [eq1]; exact hD
        have hb1 : rc_b (X4_letter_r (M 8) (M 9 0) (M 12 0)) = 1 := by rw [rc_b, if_neg c_1, if_neg c_13, if_pos c_35]
        have hq1 : ∃ s, s ≤ 901 ∧ q1.1 = nI s := by rw [eq1]; exact kz_wtS hsp
        refine lv_iconst (v := 0) hx hb dX4_readCommand_44 (by decide +kernel) ?_
        refine lv_istore_n (lv' := [(2, .int 0), (1, .int (X4_letter_r (M 8) (M 9 0) (M 12 0))), (0, .ref (a 0))]) hx hb dX4_readCommand_45 rfl hl (by decide) rfl (fun ls hl => ?_)
        refine lv_iconst (v := 0) hx hb dX4_readCommand_46 (by decide +kernel) ?_
        refine lv_istore_n (lv' := [(3, .int 0), (2, .int 0), (1, .int (X4_letter_r (M 8) (M 9 0) (M 12 0))), (0, .ref (a 0))]) hx hb dX4_readCommand_47 rfl hl (by decide) rfl (fun ls hl => ?_)
        refine lv_iload_n hx hb dX4_readCommand_48 rfl (lv_at hl 2 rfl) ?_
        refine lv_bipush (v := 97) hx hb dX4_readCommand_49 (by decide +kernel) ?_
        refine lv_icmp_ne (tgt := 70) hx hb dX4_readCommand_51 (by decide) (fun c_36 => ?_) (fun c => absurd c c_1)
        refine lv_iload_n hx hb dX4_readCommand_70 rfl (lv_at hl 2 rfl) ?_
        refine lv_bipush (v := 100) hx hb dX4_readCommand_71 (by decide +kernel) ?_
        refine lv_icmp_ne (tgt := 84) hx hb dX4_readCommand_73 (by decide) (fun c_37 => ?_) (fun c => absurd c (by exact fun e9 => absurd (c_35.symm.trans e9) (by decide)))
        refine lv_iconst (v := 0) hx hb dX4_readCommand_84 (by decide +kernel) ?_
        refine lv_istore (lv' := [(4, .int 0), (3, .int 0), (2, .int 0), (1, .int (X4_letter_r (M 8) (M 9 0) (M 12 0))), (0, .ref (a 0))]) hx hb dX4_readCommand_85 hl (by decide) rfl (fun ls hl => ?_)
        refine lv_iload hx hb dX4_readCommand_87 (lv_at hl 0 rfl) ?_
        refine lv_iconst (v := 4) hx hb dX4_readCommand_89 (by decide +kernel) ?_
        refine lv_icmp_ge (tgt := 112) hx hb dX4_readCommand_90 (by decide) (fun c => absurd c (by decide)) (fun _ => ?_)
        refine lv_bipush (v := 10) hx hb dX4_readCommand_93 (by decide +kernel) ?_
        refine lv_iload_n hx hb dX4_readCommand_95 rfl (lv_at hl 2 rfl) ?_
        refine lv_imul hx hb dX4_readCommand_96 ?_
        refine lv_aload_n hx hb dX4_readCommand_97 rfl (lv_at hl 4 rfl) ?_
        refine lv_iconst (v := 0) hx hb dX4_readCommand_98 (by decide +kernel) ?_
        refine lv_bipush (v := 9) hx hb dX4_readCommand_99 (by decide +kernel) ?_
        refine kz_miV (As := [.int 0, .int 9]) (rest := [.int (10 * 0)]) (b := a 0) (wr := []) (bs' := [mdW G a (va_up (va_up M 12 (fun _ => (X4_figure_c12 (M 8) (M 9 0) q1.1 q1.2 0 9))) 13 (fun _ => (X4_figure_c13 (M 8) (M 9 0) q1.1 q1.2 0 9)))]) ⟨hx, hb, hml, hown, hts⟩ (c_X4_figure l G a (va_up (va_up M 12 (fun _ => q1.1)) 13 (fun _ => q1.2)) 0 9 (by rw [va_up_ne _ _ (by decide : 12 ≠ 13), va_up_self]; exact kz_le12 hq1 (by omega)) (by rw [va_up_ne _ _ (by decide : 9 ≠ 13), va_up_ne _ _ (by decide : 9 ≠ 12)]; exact hty)) (cwV 2 hts gX4_readCommand_X4_figure rfl rfl rfl (by decide +kernel) ⟨Nat.le_of_ble_eq_true rfl, Nat.le_of_ble_eq_true rfl⟩) hK hP hD hS hA [0] [] [0] rfl (by decide) rfl (by decide) (by decide) rfl (by decide) (kz_recv hK hP (ci := 4) (q0 := 0) rfl rfl) rfl hl.1 rfl (Nat.le_of_ble_eq_true rfl) dX4_readCommand_101 ⟨Nat.le_of_ble_eq_true rfl, Nat.le_of_ble_eq_true rfl⟩ (fun H locs hP hD hS => ?_)
        refine lv_iadd hx hb dX4_readCommand_104 ?_
        obtain ⟨s2, es2⟩ : ∃ q, q = rc_f (M 8) (M 9 0) (0, q1) := ⟨_, rfl⟩
        have hP : kz_P G [mdW G a (va_up (va_up M 12 (fun _ => s2.2.1)) 13 (fun _ => s2.2.2))] H := by rw [es2]; exact hP
        have hD : kz_D A [mdW G a (va_up (va_up M 12 (fun _ => s2.2.1)) 13 (fun _ => s2.2.2))] := by rw [es2]; exact hD
        have hs2 : ∃ s, s ≤ 902 ∧ s2.2.1 = nI s := by rw [es2]; exact kz_fgS hq1
        refine lv_topi (fun y_38 ey_39 => ?_)
        obtain rfl : y_38 = s2.1 := by rw [ey_39, es2]; rfl
        refine lv_istore_n (lv' := [(2, .int s2.1), (4, .int 0), (3, .int 0), (1, .int (X4_letter_r (M 8) (M 9 0) (M 12 0))), (0, .ref (a 0))]) hx hb dX4_readCommand_105 rfl hl (by decide) rfl (fun ls hl => ?_)
        refine lv_iinc (v := 1) (lv' := [(4, .int 1), (2, .int s2.1), (3, .int 0), (1, .int (X4_letter_r (M 8) (M 9 0) (M 12 0))), (0, .ref (a 0))]) hx hb dX4_readCommand_106 hl (k := 1) rfl (by decide +kernel) (by decide) rfl (fun ls hl => ?_)
        refine lv_goto (tgt := 87) hx hb dX4_readCommand_109 (by decide) ?_
        refine lv_iload hx hb dX4_readCommand_87 (lv_at hl 0 rfl) ?_
        refine lv_iconst (v := 4) hx hb dX4_readCommand_89 (by decide +kernel) ?_
        refine lv_icmp_ge (tgt := 112) hx hb dX4_readCommand_90 (by decide) (fun c => absurd c (by decide)) (fun _ => ?_)
        refine lv_bipush (v := 10) hx hb dX4_readCommand_93 (by decide +kernel) ?_
        refine lv_iload_n hx hb dX4_readCommand_95 rfl (lv_at hl 1 rfl) ?_
        refine lv_imul hx hb dX4_readCommand_96 ?_
        refine lv_aload_n hx hb dX4_readCommand_97 rfl (lv_at hl 4 rfl) ?_
        refine lv_iconst (v := 0) hx hb dX4_readCommand_98 (by decide +kernel) ?_
        refine lv_bipush (v := 9) hx hb dX4_readCommand_99 (by decide +kernel) ?_
        refine kz_miV (As := [.int 0, .int 9]) (rest := [.int (10 * s2.1)]) (b := a 0) (wr := []) (bs' := [mdW G a (va_up (va_up M 12 (fun _ => (X4_figure_c12 (M 8) (M 9 0) s2.2.1 s2.2.2 0 9))) 13 (fun _ => (X4_figure_c13 (M 8) (M 9 0) s2.2.1 s2.2.2 0 9)))]) ⟨hx, hb, hml, hown, hts⟩ (c_X4_figure l G a (va_up (va_up M 12 (fun _ => s2.2.1)) 13 (fun _ => s2.2.2)) 0 9 (by rw [va_up_ne _ _ (by decide : 12 ≠ 13), va_up_self]; exact kz_le12 hs2 (by omega)) (by rw [va_up_ne _ _ (by decide : 9 ≠ 13), va_up_ne _ _ (by decide : 9 ≠ 12)]; exact hty)) (cwV 2 hts gX4_readCommand_X4_figure rfl rfl rfl (by decide +kernel) ⟨Nat.le_of_ble_eq_true rfl, Nat.le_of_ble_eq_true rfl⟩) hK hP hD hS hA [0] [] [0] rfl (by decide) rfl (by decide) (by decide) rfl (by decide) (kz_recv hK hP (ci := 4) (q0 := 0) rfl rfl) rfl hl.1 rfl (Nat.le_of_ble_eq_true rfl) dX4_readCommand_101 ⟨Nat.le_of_ble_eq_true rfl, Nat.le_of_ble_eq_true rfl⟩ (fun H locs hP hD hS => ?_)
        refine lv_iadd hx hb dX4_readCommand_104 ?_
        obtain ⟨s3, es3⟩ : ∃ q, q = rc_f (M 8) (M 9 0) s2 := ⟨_, rfl⟩
        have hP : kz_P G [mdW G a (va_up (va_up M 12 (fun _ => s3.2.1)) 13 (fun _ => s3.2.2))] H := by rw [es3]; exact hP
        have hD : kz_D A [mdW G a (va_up (va_up M 12 (fun _ => s3.2.1)) 13 (fun _ => s3.2.2))] := by rw [es3]; exact hD
        have hs3 : ∃ s, s ≤ 903 ∧ s3.2.1 = nI s := by rw [es3]; exact kz_fgS hs2
        refine lv_topi (fun y_40 ey_41 => ?_)
        obtain rfl : y_40 = s3.1 := by rw [ey_41, es3]; rfl
        refine lv_istore_n (lv' := [(2, .int s3.1), (4, .int 1), (3, .int 0), (1, .int (X4_letter_r (M 8) (M 9 0) (M 12 0))), (0, .ref (a 0))]) hx hb dX4_readCommand_105 rfl hl (by decide) rfl (fun ls hl => ?_)
        refine lv_iinc (v := 2) (lv' := [(4, .int 2), (2, .int s3.1), (3, .int 0), (1, .int (X4_letter_r (M 8) (M 9 0) (M 12 0))), (0, .ref (a 0))]) hx hb dX4_readCommand_106 hl (k := 1) rfl (by decide +kernel) (by decide) rfl (fun ls hl => ?_)
        refine lv_goto (tgt := 87) hx hb dX4_readCommand_109 (by decide) ?_
        refine lv_iload hx hb dX4_readCommand_87 (lv_at hl 0 rfl) ?_
        refine lv_iconst (v := 4) hx hb dX4_readCommand_89 (by decide +kernel) ?_
        refine lv_icmp_ge (tgt := 112) hx hb dX4_readCommand_90 (by decide) (fun c => absurd c (by decide)) (fun _ => ?_)
        refine lv_bipush (v := 10) hx hb dX4_readCommand_93 (by decide +kernel) ?_
        refine lv_iload_n hx hb dX4_readCommand_95 rfl (lv_at hl 1 rfl) ?_
        refine lv_imul hx hb dX4_readCommand_96 ?_
        refine lv_aload_n hx hb dX4_readCommand_97 rfl (lv_at hl 4 rfl) ?_
        refine lv_iconst (v := 0) hx hb dX4_readCommand_98 (by decide +kernel) ?_
        refine lv_bipush (v := 9) hx hb dX4_readCommand_99 (by decide +kernel) ?_
        refine kz_miV (As := [.int 0, .int 9]) (rest := [.int (10 * s3.1)]) (b := a 0) (wr := []) (bs' := [mdW G a (va_up (va_up M 12 (fun _ => (X4_figure_c12 (M 8) (M 9 0) s3.2.1 s3.2.2 0 9))) 13 (fun _ => (X4_figure_c13 (M 8) (M 9 0) s3.2.1 s3.2.2 0 9)))]) ⟨hx, hb, hml, hown, hts⟩ (c_X4_figure l G a (va_up (va_up M 12 (fun _ => s3.2.1)) 13 (fun _ => s3.2.2)) 0 9 (by rw [va_up_ne _ _ (by decide : 12 ≠ 13), va_up_self]; exact kz_le12 hs3 (by omega)) (by rw [va_up_ne _ _ (by decide : 9 ≠ 13), va_up_ne _ _ (by decide : 9 ≠ 12)]; exact hty)) (cwV 2 hts gX4_readCommand_X4_figure rfl rfl rfl (by decide +kernel) ⟨Nat.le_of_ble_eq_true rfl, Nat.le_of_ble_eq_true rfl⟩) hK hP hD hS hA [0] [] [0] rfl (by decide) rfl (by decide) (by decide) rfl (by decide) (kz_recv hK hP (ci := 4) (q0 := 0) rfl rfl) rfl hl.1 rfl (Nat.le_of_ble_eq_true rfl) dX4_readCommand_101 ⟨Nat.le_of_ble_eq_true rfl, Nat.le_of_ble_eq_true rfl⟩ (fun H locs hP hD hS => ?_)
        refine lv_iadd hx hb dX4_readCommand_104 ?_
        obtain ⟨s4, es4⟩ : ∃ q, q = rc_f (M 8) (M 9 0) s3 := ⟨_, rfl⟩
        have hP : kz_P G [mdW G a (va_up (va_up M 12 (fun _ => s4.2.1)) 13 (fun _ => s4.2.2))] H := by rw [es4]; exact hP
        have hD : kz_D A [mdW G a (va_up (va_up M 12 (fun _ => s4.2.1)) 13 (fun _ => s4.2.2))] := by rw [es4]; exact hD
        have hs4 : ∃ s, s ≤ 904 ∧ s4.2.1 = nI s := by rw [es4]; exact kz_fgS hs3
        refine lv_topi (fun y_42 ey_43 => ?_)
        obtain rfl : y_42 = s4.1 := by rw [ey_43, es4]; rfl
        refine lv_istore_n (lv' := [(2, .int s4.1), (4, .int 2), (3, .int 0), (1, .int (X4_letter_r (M 8) (M 9 0) (M 12 0))), (0, .ref (a 0))]) hx hb dX4_readCommand_105 rfl hl (by decide) rfl (fun ls hl => ?_)
        refine lv_iinc (v := 3) (lv' := [(4, .int 3), (2, .int s4.1), (3, .int 0), (1, .int (X4_letter_r (M 8) (M 9 0) (M 12 0))), (0, .ref (a 0))]) hx hb dX4_readCommand_106 hl (k := 1) rfl (by decide +kernel) (by decide) rfl (fun ls hl => ?_)
        refine lv_goto (tgt := 87) hx hb dX4_readCommand_109 (by decide) ?_
        refine lv_iload hx hb dX4_readCommand_87 (lv_at hl 0 rfl) ?_
        refine lv_iconst (v := 4) hx hb dX4_readCommand_89 (by decide +kernel) ?_
        refine lv_icmp_ge (tgt := 112) hx hb dX4_readCommand_90 (by decide) (fun c => absurd c (by decide)) (fun _ => ?_)
        refine lv_bipush (v := 10) hx hb dX4_readCommand_93 (by decide +kernel) ?_
        refine lv_iload_n hx hb dX4_readCommand_95 rfl (lv_at hl 1 rfl) ?_
        refine lv_imul hx hb dX4_readCommand_96 ?_
        refine lv_aload_n hx hb dX4_readCommand_97 rfl (lv_at hl 4 rfl) ?_
        refine lv_iconst (v := 0) hx hb dX4_readCommand_98 (by decide +kernel) ?_
        refine lv_bipush (v := 9) hx hb dX4_readCommand_99 (by decide +kernel) ?_
        refine kz_miV (As := [.int 0, .int 9]) (rest := [.int (10 * s4.1)]) (b := a 0) (wr := []) (bs' := [mdW G a (va_up (va_up M 12 (fun _ => (X4_figure_c12 (M 8) (M 9 0) s4.2.1 s4.2.2 0 9))) 13 (fun _ => (X4_figure_c13 (M 8) (M 9 0) s4.2.1 s4.2.2 0 9)))]) ⟨hx, hb, hml, hown, hts⟩ (c_X4_figure l G a (va_up (va_up M 12 (fun _ => s4.2.1)) 13 (fun _ => s4.2.2)) 0 9 (by rw [va_up_ne _ _ (by decide : 12 ≠ 13), va_up_self]; exact kz_le12 hs4 (by omega)) (by rw [va_up_ne _ _ (by decide : 9 ≠ 13), va_up_ne _ _ (by decide : 9 ≠ 12)]; exact hty)) (cwV 2 hts gX4_readCommand_X4_figure rfl rfl rfl (by decide +kernel) ⟨Nat.le_of_ble_eq_true rfl, Nat.le_of_ble_eq_true rfl⟩) hK hP hD hS hA [0] [] [0] rfl (by decide) rfl (by decide) (by decide) rfl (by decide) (kz_recv hK hP (ci := 4) (q0 := 0) rfl rfl) rfl hl.1 rfl (Nat.le_of_ble_eq_true rfl) dX4_readCommand_101 ⟨Nat.le_of_ble_eq_true rfl, Nat.le_of_ble_eq_true rfl⟩ (fun H locs hP hD hS => ?_)
        refine lv_iadd hx hb dX4_readCommand_104 ?_
        obtain ⟨s5, es5⟩ : ∃ q, q = rc_f (M 8) (M 9 0) s4 := ⟨_, rfl⟩
        have hP : kz_P G [mdW G a (va_up (va_up M 12 (fun _ => s5.2.1)) 13 (fun _ => s5.2.2))] H := by rw [es5]; exact hP
        have hD : kz_D A [mdW G a (va_up (va_up M 12 (fun _ => s5.2.1)) 13 (fun _ => s5.2.2))] := by rw [es5]; exact hD
        have hs5 : ∃ s, s ≤ 905 ∧ s5.2.1 = nI s := by rw [es5]; exact kz_fgS hs4
        refine lv_topi (fun y_44 ey_45 => ?_)
        obtain rfl : y_44 = s5.1 := by rw [ey_45, es5]; rfl
        refine lv_istore_n (lv' := [(2, .int s5.1), (4, .int 3), (3, .int 0), (1, .int (X4_letter_r (M 8) (M 9 0) (M 12 0))), (0, .ref (a 0))]) hx hb dX4_readCommand_105 rfl hl (by decide) rfl (fun ls hl => ?_)
        refine lv_iinc (v := 4) (lv' := [(4, .int 4), (2, .int s5.1), (3, .int 0), (1, .int (X4_letter_r (M 8) (M 9 0) (M 12 0))), (0, .ref (a 0))]) hx hb dX4_readCommand_106 hl (k := 1) rfl (by decide +kernel) (by decide) rfl (fun ls hl => ?_)
        refine lv_goto (tgt := 87) hx hb dX4_readCommand_109 (by decide) ?_
        refine lv_iload hx hb dX4_readCommand_87 (lv_at hl 0 rfl) ?_
        refine lv_iconst (v := 4) hx hb dX4_readCommand_89 (by decide +kernel) ?_
        refine lv_icmp_ge (tgt := 112) hx hb dX4_readCommand_90 (by decide) (fun _ => ?_) (fun c => absurd c (by decide))
        refine lv_iload_n hx hb dX4_readCommand_112 rfl (lv_at hl 3 rfl) ?_
        refine lv_bipush (v := 109) hx hb dX4_readCommand_113 (by decide +kernel) ?_
        refine lv_icmp_ne (tgt := 143) hx hb dX4_readCommand_115 (by decide) (fun c_46 => ?_) (fun c => absurd c (by exact fun e9 => absurd (c_35.symm.trans e9) (by decide)))
        have hall : X4_rc (M 8) (M 9 0) (M 12 0) (M 13 0) = ((X4_letter_r (M 8) (M 9 0) (M 12 0)), s5.1, 0, s5.2.1, s5.2.2) := by rw [X4_rc, hb1, ← eq1, rc_k, if_neg c_1, if_neg c_37, show rc_4 (M 8) (M 9 0) q1 = s5 from by rw [es5, es4, es3, es2]; rfl, rc_t, if_neg c_46]
        refine lv_aload_n hx hb dX4_readCommand_143 rfl (lv_at hl 4 rfl) ?_
        refine va_get (D := G.1) (ci := 4) (v := .ref (a 6)) (C := RX4) (T := TX4) (N := 14) hx hb hts hinX4 hown hK.1 hP 0 rfl rfl 10 (by decide) (hts (.fieldLink RX4 33 "ParcelShelvesModel" "told" "[I") (by decide +kernel)) (fun _ h9 => h9) rfl dX4_readCommand_144 ?_
        refine lv_iconst (v := 3) hx hb dX4_readCommand_147 (by decide +kernel) ?_
        refine lv_aload_n hx hb dX4_readCommand_148 rfl (lv_at hl 4 rfl) ?_
        refine va_get (D := G.1) (ci := 4) (v := .int (M 11 0)) (C := RX4) (T := TX4) (N := 14) hx hb hts hinX4 hown hK.1 hP 0 rfl rfl 11 (by decide) (hts (.fieldLink RX4 202 "ParcelShelvesModel" "toldMany" "I") (by decide +kernel)) (fun _ h9 => h9) rfl dX4_readCommand_149 ?_
        refine lv_imul hx hb dX4_readCommand_152 ?_
        refine lv_topi (fun y_47 ey_48 => ?_)
        obtain rfl : y_47 = (nI (3 * (M 11 0).toNatClampNeg)) := by rw [ey_48]; rw [etm, nI_clamp (by omega)]; exact pk_mul 3 tm
        refine lv_iload_n hx hb dX4_readCommand_153 rfl (lv_at hl 3 rfl) ?_
        refine va_iast hx hb hK.1 hP hD hS 6 0 rfl rfl (vp_in_nI (n := (3 * (M 11 0).toNatClampNeg)) (N := 84) (by omega) (by decide)) dX4_readCommand_154 (fun H locs hP hD hS => ?_)
        rw [kz_nI_clamp (n := (3 * (M 11 0).toNatClampNeg)) (by omega)] at hP hD
        have hP : kz_P G [mdW G a (va_up (va_up (va_up M 12 (fun _ => s5.2.1)) 13 (fun _ => s5.2.2)) 10 (upd (M 10) (3 * (M 11 0).toNatClampNeg) (X4_letter_r (M 8) (M 9 0) (M 12 0))))] H := hP
        have hD : kz_D A [mdW G a (va_up (va_up (va_up M 12 (fun _ => s5.2.1)) 13 (fun _ => s5.2.2)) 10 (upd (M 10) (3 * (M 11 0).toNatClampNeg) (X4_letter_r (M 8) (M 9 0) (M 12 0))))] := hD
        refine lv_aload_n hx hb dX4_readCommand_155 rfl (lv_at hl 4 rfl) ?_
        refine va_get (D := G.1) (ci := 4) (v := .ref (a 6)) (C := RX4) (T := TX4) (N := 14) hx hb hts hinX4 hown hK.1 hP 0 rfl rfl 10 (by decide) (hts (.fieldLink RX4 33 "ParcelShelvesModel" "told" "[I") (by decide +kernel)) (fun _ h9 => h9) rfl dX4_readCommand_156 ?_
        refine lv_iconst (v := 3) hx hb dX4_readCommand_159 (by decide +kernel) ?_
        refine lv_aload_n hx hb dX4_readCommand_160 rfl (lv_at hl 4 rfl) ?_
        refine va_get (D := G.1) (ci := 4) (v := .int (M 11 0)) (C := RX4) (T := TX4) (N := 14) hx hb hts hinX4 hown hK.1 hP 0 rfl rfl 11 (by decide) (hts (.fieldLink RX4 202 "ParcelShelvesModel" "toldMany" "I") (by decide +kernel)) (fun _ h9 => h9) rfl dX4_readCommand_161 ?_
        refine lv_imul hx hb dX4_readCommand_164 ?_
        refine lv_topi (fun y_49 ey_50 => ?_)
        obtain rfl : y_49 = (nI (3 * (M 11 0).toNatClampNeg)) := by rw [ey_50]; rw [etm, nI_clamp (by omega)]; exact pk_mul 3 tm
        refine lv_iconst (v := 1) hx hb dX4_readCommand_165 (by decide +kernel) ?_
        refine lv_iadd hx hb dX4_readCommand_166 ?_
        refine lv_topi (fun y_51 ey_52 => ?_)
        obtain rfl : y_51 = (nI (3 * (M 11 0).toNatClampNeg + 1)) := by rw [ey_52]; exact nI_1 _
        refine lv_iload_n hx hb dX4_readCommand_167 rfl (lv_at hl 1 rfl) ?_
        refine va_iast hx hb hK.1 hP hD hS 6 0 rfl rfl (vp_in_nI (n := (3 * (M 11 0).toNatClampNeg + 1)) (N := 84) (by omega) (by decide)) dX4_readCommand_168 (fun H locs hP hD hS => ?_)
        rw [kz_nI_clamp (n := (3 * (M 11 0).toNatClampNeg + 1)) (by omega)] at hP hD
        have hP : kz_P G [mdW G a (va_up (va_up (va_up M 12 (fun _ => s5.2.1)) 13 (fun _ => s5.2.2)) 10 (upd (upd (M 10) (3 * (M 11 0).toNatClampNeg) (X4_letter_r (M 8) (M 9 0) (M 12 0))) (3 * (M 11 0).toNatClampNeg + 1) s5.1))] H := hP
        have hD : kz_D A [mdW G a (va_up (va_up (va_up M 12 (fun _ => s5.2.1)) 13 (fun _ => s5.2.2)) 10 (upd (upd (M 10) (3 * (M 11 0).toNatClampNeg) (X4_letter_r (M 8) (M 9 0) (M 12 0))) (3 * (M 11 0).toNatClampNeg + 1) s5.1))] := hD
        refine lv_aload_n hx hb dX4_readCommand_169 rfl (lv_at hl 4 rfl) ?_
        refine va_get (D := G.1) (ci := 4) (v := .ref (a 6)) (C := RX4) (T := TX4) (N := 14) hx hb hts hinX4 hown hK.1 hP 0 rfl rfl 10 (by decide) (hts (.fieldLink RX4 33 "ParcelShelvesModel" "told" "[I") (by decide +kernel)) (fun _ h9 => h9) rfl dX4_readCommand_170 ?_
        refine lv_iconst (v := 3) hx hb dX4_readCommand_173 (by decide +kernel) ?_
        refine lv_aload_n hx hb dX4_readCommand_174 rfl (lv_at hl 4 rfl) ?_
        refine va_get (D := G.1) (ci := 4) (v := .int (M 11 0)) (C := RX4) (T := TX4) (N := 14) hx hb hts hinX4 hown hK.1 hP 0 rfl rfl 11 (by decide) (hts (.fieldLink RX4 202 "ParcelShelvesModel" "toldMany" "I") (by decide +kernel)) (fun _ h9 => h9) rfl dX4_readCommand_175 ?_
        refine lv_imul hx hb dX4_readCommand_178 ?_
        refine lv_topi (fun y_53 ey_54 => ?_)
        obtain rfl : y_53 = (nI (3 * (M 11 0).toNatClampNeg)) := by rw [ey_54]; rw [etm, nI_clamp (by omega)]; exact pk_mul 3 tm
        refine lv_iconst (v := 2) hx hb dX4_readCommand_179 (by decide +kernel) ?_
        refine lv_iadd hx hb dX4_readCommand_180 ?_
        refine lv_topi (fun y_55 ey_56 => ?_)
        obtain rfl : y_55 = (nI (3 * (M 11 0).toNatClampNeg + 2)) := by rw [ey_56]; exact nI_add _ 2
        refine lv_iload_n hx hb dX4_readCommand_181 rfl (lv_at hl 2 rfl) ?_
        refine va_iast hx hb hK.1 hP hD hS 6 0 rfl rfl (vp_in_nI (n := (3 * (M 11 0).toNatClampNeg + 2)) (N := 84) (by omega) (by decide)) dX4_readCommand_182 (fun H locs hP hD hS => ?_)
        rw [kz_nI_clamp (n := (3 * (M 11 0).toNatClampNeg + 2)) (by omega)] at hP hD
        have hP : kz_P G [mdW G a (va_up (va_up (va_up M 12 (fun _ => s5.2.1)) 13 (fun _ => s5.2.2)) 10 (upd (upd (upd (M 10) (3 * (M 11 0).toNatClampNeg) (X4_letter_r (M 8) (M 9 0) (M 12 0))) (3 * (M 11 0).toNatClampNeg + 1) s5.1) (3 * (M 11 0).toNatClampNeg + 2) 0))] H := hP
        have hD : kz_D A [mdW G a (va_up (va_up (va_up M 12 (fun _ => s5.2.1)) 13 (fun _ => s5.2.2)) 10 (upd (upd (upd (M 10) (3 * (M 11 0).toNatClampNeg) (X4_letter_r (M 8) (M 9 0) (M 12 0))) (3 * (M 11 0).toNatClampNeg + 1) s5.1) (3 * (M 11 0).toNatClampNeg + 2) 0))] := hD
        refine lv_aload_n hx hb dX4_readCommand_183 rfl (lv_at hl 4 rfl) ?_
        refine lv_dup hx hb dX4_readCommand_184 rfl ?_
        refine va_get (D := G.1) (ci := 4) (v := .int (M 11 0)) (C := RX4) (T := TX4) (N := 14) hx hb hts hinX4 hown hK.1 hP 0 rfl rfl 11 (by decide) (hts (.fieldLink RX4 202 "ParcelShelvesModel" "toldMany" "I") (by decide +kernel)) (fun _ h9 => h9) rfl dX4_readCommand_185 ?_
        refine lv_iconst (v := 1) hx hb dX4_readCommand_188 (by decide +kernel) ?_
        refine lv_iadd hx hb dX4_readCommand_189 ?_
        refine va_put (D := G.1) (ci := 4) (v := .int ((M 11 0) + 1)) (ty := .int) (C := RX4) (T := TX4) (N := 14) hx hb hts hinX4 tyX4 tyX4_ok nmX4 hown hK.1 hP hD hS 0 rfl rfl 11 (by decide) (hts (.fieldLink RX4 202 "ParcelShelvesModel" "toldMany" "I") (by decide +kernel)) (fun _ h9 => h9) rfl (by decide +kernel) rfl rfl (Nat.le_of_ble_eq_true rfl) dX4_readCommand_190 (fun H locs hP hD hS => ?_)
        have hP : kz_P G [mdW G a (va_up (va_up (va_up (va_up M 12 (fun _ => s5.2.1)) 13 (fun _ => s5.2.2)) 10 (upd (upd (upd (M 10) (3 * (M 11 0).toNatClampNeg) (X4_letter_r (M 8) (M 9 0) (M 12 0))) (3 * (M 11 0).toNatClampNeg + 1) s5.1) (3 * (M 11 0).toNatClampNeg + 2) 0)) 11 (fun _ => ((M 11 0) + 1)))] H := hP
        have hD : kz_D A [mdW G a (va_up (va_up (va_up (va_up M 12 (fun _ => s5.2.1)) 13 (fun _ => s5.2.2)) 10 (upd (upd (upd (M 10) (3 * (M 11 0).toNatClampNeg) (X4_letter_r (M 8) (M 9 0) (M 12 0))) (3 * (M 11 0).toNatClampNeg + 1) s5.1) (3 * (M 11 0).toNatClampNeg + 2) 0)) 11 (fun _ => ((M 11 0) + 1)))] := hD
        subst hQ
        have hP9 : kz_P G [mdW G a (va_up (va_up (va_up (va_up M 10 (X4_readCommand_c10 (M 8) (M 9 0) (M 10) (M 11 0) (M 12 0) (M 13 0))) 11 (fun _ => (X4_readCommand_c11 (M 8) (M 9 0) (M 10) (M 11 0) (M 12 0) (M 13 0)))) 12 (fun _ => (X4_readCommand_c12 (M 8) (M 9 0) (M 10) (M 11 0) (M 12 0) (M 13 0)))) 13 (fun _ => (X4_readCommand_c13 (M 8) (M 9 0) (M 10) (M 11 0) (M 12 0) (M 13 0))))] H := by rw [X4_readCommand_c10, X4_readCommand_c11, X4_readCommand_c12, X4_readCommand_c13, hall]; exact hP
        have hD9 : kz_D A [mdW G a (va_up (va_up (va_up (va_up M 10 (X4_readCommand_c10 (M 8) (M 9 0) (M 10) (M 11 0) (M 12 0) (M 13 0))) 11 (fun _ => (X4_readCommand_c11 (M 8) (M 9 0) (M 10) (M 11 0) (M 12 0) (M 13 0)))) 12 (fun _ => (X4_readCommand_c12 (M 8) (M 9 0) (M 10) (M 11 0) (M 12 0) (M 13 0)))) 13 (fun _ => (X4_readCommand_c13 (M 8) (M 9 0) (M 10) (M 11 0) (M 12 0) (M 13 0))))] := by rw [X4_readCommand_c10, X4_readCommand_c11, X4_readCommand_c12, X4_readCommand_c13, hall]; exact hD
        exact W.vret hx hb hr (fun t ht hW => ⟨⟨(), rfl, trivial, by rw [ht]; exact hP9, hD9⟩, hS.F ht⟩) hS.2.2 dX4_readCommand_193
      · refine lv_iload_n hx hb dX4_readCommand_24 rfl (lv_at hl 0 rfl) ?_
        refine lv_bipush (v := 109) hx hb dX4_readCommand_25 (by decide +kernel) ?_
        refine lv_icmp_eq (tgt := 36) hx hb dX4_readCommand_27 (by decide) (fun c_57 => ?_) (fun c_57 => ?_)
        · refine lv_iconst (v := 1) hx hb dX4_readCommand_36 (by decide +kernel) ?_
          refine lv_goto (tgt := 41) hx hb dX4_readCommand_37 (by decide) ?_
          refine kz_mvV (As := [.int 1]) (rest := []) (b := a 0) (wr := []) (bs' := [mdW G a (va_up (va_up M 12 (fun _ => (X4_wants_c12 (M 12 0) (M 13 0) 1))) 13 (fun _ => (X4_wants_c13 (M 12 0) (M 13 0) 1)))]) ⟨hx, hb, hml, hown, hts⟩ (c_X4_wants l G a M 1) (cwV 1 hts gX4_readCommand_X4_wants rfl rfl rfl (by decide +kernel) ⟨Nat.le_of_ble_eq_true rfl, Nat.le_of_ble_eq_true rfl⟩) hK hP hD hS hA [0] [] [0] rfl (by decide) rfl (by decide) (by decide) rfl (by decide) (kz_recv hK hP (ci := 4) (q0 := 0) rfl rfl) rfl hl.1 rfl (Nat.le_of_ble_eq_true rfl) dX4_readCommand_41 ⟨Nat.le_of_ble_eq_true rfl, Nat.le_of_ble_eq_true rfl⟩ (fun H locs hP hD hS => ?_)
          obtain ⟨q1, eq1⟩ : ∃ q, q = rc_w (M 12 0) (M 13 0) 1 := ⟨_, rfl⟩
          have hP : kz_P G [mdW G a (va_up (va_up M 12 (fun _ => q1.1)) 13 (fun _ => q1.2))] H := by rw [eq1]; exact hP
          have hD : kz_D A [mdW G a (va_up (va_up M 12 (fun _ => q1.1)) 13 (fun _ => q1.2))] := by rw [eq1]; exact hD
          have hb1 : rc_b (X4_letter_r (M 8) (M 9 0) (M 12 0)) = 1 := by rw [rc_b, if_neg c_1, if_neg c_13, if_neg c_35, if_pos c_57]
          have hq1 : ∃ s, s ≤ 901 ∧ q1.1 = nI s := by rw [eq1]; exact kz_wtS hsp
          refine lv_iconst (v := 0) hx hb dX4_readCommand_44 (by decide +kernel) ?_
          refine lv_istore_n (lv' := [(2, .int 0), (1, .int (X4_letter_r (M 8) (M 9 0) (M 12 0))), (0, .ref (a 0))]) hx hb dX4_readCommand_45 rfl hl (by decide) rfl (fun ls hl => ?_)
          refine lv_iconst (v := 0) hx hb dX4_readCommand_46 (by decide +kernel) ?_
          refine lv_istore_n (lv' := [(3, .int 0), (2, .int 0), (1, .int (X4_letter_r (M 8) (M 9 0) (M 12 0))), (0, .ref (a 0))]) hx hb dX4_readCommand_47 rfl hl (by decide) rfl (fun ls hl => ?_)
          refine lv_iload_n hx hb dX4_readCommand_48 rfl (lv_at hl 2 rfl) ?_
          refine lv_bipush (v := 97) hx hb dX4_readCommand_49 (by decide +kernel) ?_
          refine lv_icmp_ne (tgt := 70) hx hb dX4_readCommand_51 (by decide) (fun c_58 => ?_) (fun c => absurd c c_1)
          refine lv_iload_n hx hb dX4_readCommand_70 rfl (lv_at hl 2 rfl) ?_
          refine lv_bipush (v := 100) hx hb dX4_readCommand_71 (by decide +kernel) ?_
          refine lv_icmp_ne (tgt := 84) hx hb dX4_readCommand_73 (by decide) (fun c_59 => ?_) (fun c => absurd c (by exact fun e9 => absurd (c_57.symm.trans e9) (by decide)))
          refine lv_iconst (v := 0) hx hb dX4_readCommand_84 (by decide +kernel) ?_
          refine lv_istore (lv' := [(4, .int 0), (3, .int 0), (2, .int 0), (1, .int (X4_letter_r (M 8) (M 9 0) (M 12 0))), (0, .ref (a 0))]) hx hb dX4_readCommand_85 hl (by decide) rfl (fun ls hl => ?_)
          refine lv_iload hx hb dX4_readCommand_87 (lv_at hl 0 rfl) ?_
          refine lv_iconst (v := 4) hx hb dX4_readCommand_89 (by decide +kernel) ?_
          refine lv_icmp_ge (tgt := 112) hx hb dX4_readCommand_90 (by decide) (fun c => absurd c (by decide)) (fun _ => ?_)
          refine lv_bipush (v := 10) hx hb dX4_readCommand_93 (by decide +kernel) ?_
          refine lv_iload_n hx hb dX4_readCommand_95 rfl (lv_at hl 2 rfl) ?_
          refine lv_imul hx hb dX4_readCommand_96 ?_
          refine lv_aload_n hx hb dX4_readCommand_97 rfl (lv_at hl 4 rfl) ?_
          refine lv_iconst (v := 0) hx hb dX4_readCommand_98 (by decide +kernel) ?_
          refine lv_bipush (v := 9) hx hb dX4_readCommand_99 (by decide +kernel) ?_
          refine kz_miV (As := [.int 0, .int 9]) (rest := [.int (10 * 0)]) (b := a 0) (wr := []) (bs' := [mdW G a (va_up (va_up M 12 (fun _ => (X4_figure_c12 (M 8) (M 9 0) q1.1 q1.2 0 9))) 13 (fun _ => (X4_figure_c13 (M 8) (M 9 0) q1.1 q1.2 0 9)))]) ⟨hx, hb, hml, hown, hts⟩ (c_X4_figure l G a (va_up (va_up M 12 (fun _ => q1.1)) 13 (fun _ => q1.2)) 0 9 (by rw [va_up_ne _ _ (by decide : 12 ≠ 13), va_up_self]; exact kz_le12 hq1 (by omega)) (by rw [va_up_ne _ _ (by decide : 9 ≠ 13), va_up_ne _ _ (by decide : 9 ≠ 12)]; exact hty)) (cwV 2 hts gX4_readCommand_X4_figure rfl rfl rfl (by decide +kernel) ⟨Nat.le_of_ble_eq_true rfl, Nat.le_of_ble_eq_true rfl⟩) hK hP hD hS hA [0] [] [0] rfl (by decide) rfl (by decide) (by decide) rfl (by decide) (kz_recv hK hP (ci := 4) (q0 := 0) rfl rfl) rfl hl.1 rfl (Nat.le_of_ble_eq_true rfl) dX4_readCommand_101 ⟨Nat.le_of_ble_eq_true rfl, Nat.le_of_ble_eq_true rfl⟩ (fun H locs hP hD hS => ?_)
          refine lv_iadd hx hb dX4_readCommand_104 ?_
          obtain ⟨s2, es2⟩ : ∃ q, q = rc_f (M 8) (M 9 0) (0, q1) := ⟨_, rfl⟩
          have hP : kz_P G [mdW G a (va_up (va_up M 12 (fun _ => s2.2.1)) 13 (fun _ => s2.2.2))] H := by rw [es2]; exact hP
          have hD : kz_D A [mdW G a (va_up (va_up M 12 (fun _ => s2.2.1)) 13 (fun _ => s2.2.2))] := by rw [es2]; exact hD
          have hs2 : ∃ s, s ≤ 902 ∧ s2.2.1 = nI s := by rw [es2]; exact kz_fgS hq1
          refine lv_topi (fun y_60 ey_61 => ?_)
          obtain rfl : y_60 = s2.1 := by rw [ey_61, es2]; rfl
          refine lv_istore_n (lv' := [(2, .int s2.1), (4, .int 0), (3, .int 0), (1, .int (X4_letter_r (M 8) (M 9 0) (M 12 0))), (0, .ref (a 0))]) hx hb dX4_readCommand_105 rfl hl (by decide) rfl (fun ls hl => ?_)
          refine lv_iinc (v := 1) (lv' := [(4, .int 1), (2, .int s2.1), (3, .int 0), (1, .int (X4_letter_r (M 8) (M 9 0) (M 12 0))), (0, .ref (a 0))]) hx hb dX4_readCommand_106 hl (k := 1) rfl (by decide +kernel) (by decide) rfl (fun ls hl => ?_)
          refine lv_goto (tgt := 87) hx hb dX4_readCommand_109 (by decide) ?_
          refine lv_iload hx hb dX4_readCommand_87 (lv_at hl 0 rfl) ?_
          refine lv_iconst (v := 4) hx hb dX4_readCommand_89 (by decide +kernel) ?_
          refine lv_icmp_ge (tgt := 112) hx hb dX4_readCommand_90 (by decide) (fun c => absurd c (by decide)) (fun _ => ?_)
          refine lv_bipush (v := 10) hx hb dX4_readCommand_93 (by decide +kernel) ?_
          refine lv_iload_n hx hb dX4_readCommand_95 rfl (lv_at hl 1 rfl) ?_
          refine lv_imul hx hb dX4_readCommand_96 ?_
          refine lv_aload_n hx hb dX4_readCommand_97 rfl (lv_at hl 4 rfl) ?_
          refine lv_iconst (v := 0) hx hb dX4_readCommand_98 (by decide +kernel) ?_
          refine lv_bipush (v := 9) hx hb dX4_readCommand_99 (by decide +kernel) ?_
          refine kz_miV (As := [.int 0, .int 9]) (rest := [.int (10 * s2.1)]) (b := a 0) (wr := []) (bs' := [mdW G a (va_up (va_up M 12 (fun _ => (X4_figure_c12 (M 8) (M 9 0) s2.2.1 s2.2.2 0 9))) 13 (fun _ => (X4_figure_c13 (M 8) (M 9 0) s2.2.1 s2.2.2 0 9)))]) ⟨hx, hb, hml, hown, hts⟩ (c_X4_figure l G a (va_up (va_up M 12 (fun _ => s2.2.1)) 13 (fun _ => s2.2.2)) 0 9 (by rw [va_up_ne _ _ (by decide : 12 ≠ 13), va_up_self]; exact kz_le12 hs2 (by omega)) (by rw [va_up_ne _ _ (by decide : 9 ≠ 13), va_up_ne _ _ (by decide : 9 ≠ 12)]; exact hty)) (cwV 2 hts gX4_readCommand_X4_figure rfl rfl rfl (by decide +kernel) ⟨Nat.le_of_ble_eq_true rfl, Nat.le_of_ble_eq_true rfl⟩) hK hP hD hS hA [0] [] [0] rfl (by decide) rfl (by decide) (by decide) rfl (by decide) (kz_recv hK hP (ci := 4) (q0 := 0) rfl rfl) rfl hl.1 rfl (Nat.le_of_ble_eq_true rfl) dX4_readCommand_101 ⟨Nat.le_of_ble_eq_true rfl, Nat.le_of_ble_eq_true rfl⟩ (fun H locs hP hD hS => ?_)
          refine lv_iadd hx hb dX4_readCommand_104 ?_
          obtain ⟨s3, es3⟩ : ∃ q, q = rc_f (M 8) (M 9 0) s2 := ⟨_, rfl⟩
          have hP : kz_P G [mdW G a (va_up (va_up M 12 (fun _ => s3.2.1)) 13 (fun _ => s3.2.2))] H := by rw [es3]; exact hP
          have hD : kz_D A [mdW G a (va_up (va_up M 12 (fun _ => s3.2.1)) 13 (fun _ => s3.2.2))] := by rw [es3]; exact hD
          have hs3 : ∃ s, s ≤ 903 ∧ s3.2.1 = nI s := by rw [es3]; exact kz_fgS hs2
          refine lv_topi (fun y_62 ey_63 => ?_)
          obtain rfl : y_62 = s3.1 := by rw [ey_63, es3]; rfl
          refine lv_istore_n (lv' := [(2, .int s3.1), (4, .int 1), (3, .int 0), (1, .int (X4_letter_r (M 8) (M 9 0) (M 12 0))), (0, .ref (a 0))]) hx hb dX4_readCommand_105 rfl hl (by decide) rfl (fun ls hl => ?_)
          refine lv_iinc (v := 2) (lv' := [(4, .int 2), (2, .int s3.1), (3, .int 0), (1, .int (X4_letter_r (M 8) (M 9 0) (M 12 0))), (0, .ref (a 0))]) hx hb dX4_readCommand_106 hl (k := 1) rfl (by decide +kernel) (by decide) rfl (fun ls hl => ?_)
          refine lv_goto (tgt := 87) hx hb dX4_readCommand_109 (by decide) ?_
          refine lv_iload hx hb dX4_readCommand_87 (lv_at hl 0 rfl) ?_
          refine lv_iconst (v := 4) hx hb dX4_readCommand_89 (by decide +kernel) ?_
          refine lv_icmp_ge (tgt := 112) hx hb dX4_readCommand_90 (by decide) (fun c => absurd c (by decide)) (fun _ => ?_)
          refine lv_bipush (v := 10) hx hb dX4_readCommand_93 (by decide +kernel) ?_
          refine lv_iload_n hx hb dX4_readCommand_95 rfl (lv_at hl 1 rfl) ?_
          refine lv_imul hx hb dX4_readCommand_96 ?_
          refine lv_aload_n hx hb dX4_readCommand_97 rfl (lv_at hl 4 rfl) ?_
          refine lv_iconst (v := 0) hx hb dX4_readCommand_98 (by decide +kernel) ?_
          refine lv_bipush (v := 9) hx hb dX4_readCommand_99 (by decide +kernel) ?_
          refine kz_miV (As := [.int 0, .int 9]) (rest := [.int (10 * s3.1)]) (b := a 0) (wr := []) (bs' := [mdW G a (va_up (va_up M 12 (fun _ => (X4_figure_c12 (M 8) (M 9 0) s3.2.1 s3.2.2 0 9))) 13 (fun _ => (X4_figure_c13 (M 8) (M 9 0) s3.2.1 s3.2.2 0 9)))]) ⟨hx, hb, hml, hown, hts⟩ (c_X4_figure l G a (va_up (va_up M 12 (fun _ => s3.2.1)) 13 (fun _ => s3.2.2)) 0 9 (by rw [va_up_ne _ _ (by decide : 12 ≠ 13), va_up_self]; exact kz_le12 hs3 (by omega)) (by rw [va_up_ne _ _ (by decide : 9 ≠ 13), va_up_ne _ _ (by decide : 9 ≠ 12)]; exact hty)) (cwV 2 hts gX4_readCommand_X4_figure rfl rfl rfl (by decide +kernel) ⟨Nat.le_of_ble_eq_true rfl, Nat.le_of_ble_eq_true rfl⟩) hK hP hD hS hA [0] [] [0] rfl (by decide) rfl (by decide) (by decide) rfl (by decide) (kz_recv hK hP (ci := 4) (q0 := 0) rfl rfl) rfl hl.1 rfl (Nat.le_of_ble_eq_true rfl) dX4_readCommand_101 ⟨Nat.le_of_ble_eq_true rfl, Nat.le_of_ble_eq_true rfl⟩ (fun H locs hP hD hS => ?_)
          refine lv_iadd hx hb dX4_readCommand_104 ?_
          obtain ⟨s4, es4⟩ : ∃ q, q = rc_f (M 8) (M 9 0) s3 := ⟨_, rfl⟩
          have hP : kz_P G [mdW G a (va_up (va_up M 12 (fun _ => s4.2.1)) 13 (fun _ => s4.2.2))] H := by rw [es4]; exact hP
          have hD : kz_D A [mdW G a (va_up (va_up M 12 (fun _ => s4.2.1)) 13 (fun _ => s4.2.2))] := by rw [es4]; exact hD
          have hs4 : ∃ s, s ≤ 904 ∧ s4.2.1 = nI s := by rw [es4]; exact kz_fgS hs3
          refine lv_topi (fun y_64 ey_65 => ?_)
          obtain rfl : y_64 = s4.1 := by rw [ey_65, es4]; rfl
          refine lv_istore_n (lv' := [(2, .int s4.1), (4, .int 2), (3, .int 0), (1, .int (X4_letter_r (M 8) (M 9 0) (M 12 0))), (0, .ref (a 0))]) hx hb dX4_readCommand_105 rfl hl (by decide) rfl (fun ls hl => ?_)
          refine lv_iinc (v := 3) (lv' := [(4, .int 3), (2, .int s4.1), (3, .int 0), (1, .int (X4_letter_r (M 8) (M 9 0) (M 12 0))), (0, .ref (a 0))]) hx hb dX4_readCommand_106 hl (k := 1) rfl (by decide +kernel) (by decide) rfl (fun ls hl => ?_)
          refine lv_goto (tgt := 87) hx hb dX4_readCommand_109 (by decide) ?_
          refine lv_iload hx hb dX4_readCommand_87 (lv_at hl 0 rfl) ?_
          refine lv_iconst (v := 4) hx hb dX4_readCommand_89 (by decide +kernel) ?_
          refine lv_icmp_ge (tgt := 112) hx hb dX4_readCommand_90 (by decide) (fun c => absurd c (by decide)) (fun _ => ?_)
          refine lv_bipush (v := 10) hx hb dX4_readCommand_93 (by decide +kernel) ?_
          refine lv_iload_n hx hb dX4_readCommand_95 rfl (lv_at hl 1 rfl) ?_
          refine lv_imul hx hb dX4_readCommand_96 ?_
          refine lv_aload_n hx hb dX4_readCommand_97 rfl (lv_at hl 4 rfl) ?_
          refine lv_iconst (v := 0) hx hb dX4_readCommand_98 (by decide +kernel) ?_
          refine lv_bipush (v := 9) hx hb dX4_readCommand_99 (by decide +kernel) ?_
          refine kz_miV (As := [.int 0, .int 9]) (rest := [.int (10 * s4.1)]) (b := a 0) (wr := []) (bs' := [mdW G a (va_up (va_up M 12 (fun _ => (X4_figure_c12 (M 8) (M 9 0) s4.2.1 s4.2.2 0 9))) 13 (fun _ => (X4_figure_c13 (M 8) (M 9 0) s4.2.1 s4.2.2 0 9)))]) ⟨hx, hb, hml, hown, hts⟩ (c_X4_figure l G a (va_up (va_up M 12 (fun _ => s4.2.1)) 13 (fun _ => s4.2.2)) 0 9 (by rw [va_up_ne _ _ (by decide : 12 ≠ 13), va_up_self]; exact kz_le12 hs4 (by omega)) (by rw [va_up_ne _ _ (by decide : 9 ≠ 13), va_up_ne _ _ (by decide : 9 ≠ 12)]; exact hty)) (cwV 2 hts gX4_readCommand_X4_figure rfl rfl rfl (by decide +kernel) ⟨Nat.le_of_ble_eq_true rfl, Nat.le_of_ble_eq_true rfl⟩) hK hP hD hS hA [0] [] [0] rfl (by decide) rfl (by decide) (by decide) rfl (by decide) (kz_recv hK hP (ci := 4) (q0 := 0) rfl rfl) rfl hl.1 rfl (Nat.le_of_ble_eq_true rfl) dX4_readCommand_101 ⟨Nat.le_of_ble_eq_true rfl, Nat.le_of_ble_eq_true rfl⟩ (fun H locs hP hD hS => ?_)
          refine lv_iadd hx hb dX4_readCommand_104 ?_
          obtain ⟨s5, es5⟩ : ∃ q, q = rc_f (M 8) (M 9 0) s4 := ⟨_, rfl⟩
          have hP : kz_P G [mdW G a (va_up (va_up M 12 (fun _ => s5.2.1)) 13 (fun _ => s5.2.2))] H := by rw [es5]; exact hP
          have hD : kz_D A [mdW G a (va_up (va_up M 12 (fun _ => s5.2.1)) 13 (fun _ => s5.2.2))] := by rw [es5]; exact hD
          have hs5 : ∃ s, s ≤ 905 ∧ s5.2.1 = nI s := by rw [es5]; exact kz_fgS hs4
          refine lv_topi (fun y_66 ey_67 => ?_)
          obtain rfl : y_66 = s5.1 := by rw [ey_67, es5]; rfl
          refine lv_istore_n (lv' := [(2, .int s5.1), (4, .int 3), (3, .int 0), (1, .int (X4_letter_r (M 8) (M 9 0) (M 12 0))), (0, .ref (a 0))]) hx hb dX4_readCommand_105 rfl hl (by decide) rfl (fun ls hl => ?_)
          refine lv_iinc (v := 4) (lv' := [(4, .int 4), (2, .int s5.1), (3, .int 0), (1, .int (X4_letter_r (M 8) (M 9 0) (M 12 0))), (0, .ref (a 0))]) hx hb dX4_readCommand_106 hl (k := 1) rfl (by decide +kernel) (by decide) rfl (fun ls hl => ?_)
          refine lv_goto (tgt := 87) hx hb dX4_readCommand_109 (by decide) ?_
          refine lv_iload hx hb dX4_readCommand_87 (lv_at hl 0 rfl) ?_
          refine lv_iconst (v := 4) hx hb dX4_readCommand_89 (by decide +kernel) ?_
          refine lv_icmp_ge (tgt := 112) hx hb dX4_readCommand_90 (by decide) (fun _ => ?_) (fun c => absurd c (by decide))
          refine lv_iload_n hx hb dX4_readCommand_112 rfl (lv_at hl 3 rfl) ?_
          refine lv_bipush (v := 109) hx hb dX4_readCommand_113 (by decide +kernel) ?_
          refine lv_icmp_ne (tgt := 143) hx hb dX4_readCommand_115 (by decide) (fun c => absurd c_57 c) (fun c_68 => ?_)
          refine lv_aload_n hx hb dX4_readCommand_118 rfl (lv_at hl 4 rfl) ?_
          refine lv_aload_n hx hb dX4_readCommand_119 rfl (lv_at hl 4 rfl) ?_
          refine kz_rdV (As := []) (rest := [.ref (a 0)]) (b := a 0) ⟨hx, hb, hml, hown, hts⟩ (c_X4_letter l G a (va_up (va_up M 12 (fun _ => s5.2.1)) 13 (fun _ => s5.2.2)) (by rw [va_up_ne _ _ (by decide : 12 ≠ 13), va_up_self]; exact kz_le12 hs5 (by omega)) (by rw [va_up_ne _ _ (by decide : 9 ≠ 13), va_up_ne _ _ (by decide : 9 ≠ 12)]; exact hty)) (cwV 0 hts gX4_readCommand_X4_letter rfl rfl rfl (by decide +kernel) ⟨Nat.le_of_ble_eq_true rfl, Nat.le_of_ble_eq_true rfl⟩) hK hP (kz_recv hK hP (ci := 4) (q0 := 0) rfl rfl) rfl hl.1 rfl (Nat.le_of_ble_eq_true rfl) dX4_readCommand_120 ⟨Nat.le_of_ble_eq_true rfl, Nat.le_of_ble_eq_true rfl⟩ ?_
          refine lv_topi (fun y_69 ey_70 => ?_)
          obtain rfl : y_69 = (X4_letter_r (M 8) (M 9 0) s5.2.1) := ey_70
          refine lv_bipush (v := 62) hx hb dX4_readCommand_123 (by decide +kernel) ?_
          refine lv_icmp_ne (tgt := 132) hx hb dX4_readCommand_125 (by decide) (fun c_71 => ?_) (fun c_71 => ?_)
          · refine lv_iconst (v := 0) hx hb dX4_readCommand_132 (by decide +kernel) ?_
            refine kz_mvV (As := [.int 0]) (rest := []) (b := a 0) (wr := []) (bs' := [mdW G a (va_up (va_up M 12 (fun _ => (X4_wants_c12 s5.2.1 s5.2.2 0))) 13 (fun _ => (X4_wants_c13 s5.2.1 s5.2.2 0)))]) ⟨hx, hb, hml, hown, hts⟩ (c_X4_wants l G a (va_up (va_up M 12 (fun _ => s5.2.1)) 13 (fun _ => s5.2.2)) 0) (cwV 1 hts gX4_readCommand_X4_wants rfl rfl rfl (by decide +kernel) ⟨Nat.le_of_ble_eq_true rfl, Nat.le_of_ble_eq_true rfl⟩) hK hP hD hS hA [0] [] [0] rfl (by decide) rfl (by decide) (by decide) rfl (by decide) (kz_recv hK hP (ci := 4) (q0 := 0) rfl rfl) rfl hl.1 rfl (Nat.le_of_ble_eq_true rfl) dX4_readCommand_133 ⟨Nat.le_of_ble_eq_true rfl, Nat.le_of_ble_eq_true rfl⟩ (fun H locs hP hD hS => ?_)
            obtain ⟨q3, eq3⟩ : ∃ q, q = rc_w s5.2.1 s5.2.2 0 := ⟨_, rfl⟩
            have hP : kz_P G [mdW G a (va_up (va_up M 12 (fun _ => q3.1)) 13 (fun _ => q3.2))] H := by rw [eq3]; exact hP
            have hD : kz_D A [mdW G a (va_up (va_up M 12 (fun _ => q3.1)) 13 (fun _ => q3.2))] := by rw [eq3]; exact hD
            have hq3 : ∃ s, s ≤ 906 ∧ q3.1 = nI s := by rw [eq3]; exact kz_wtS hs5
            refine lv_aload_n hx hb dX4_readCommand_136 rfl (lv_at hl 4 rfl) ?_
            refine lv_iconst (v := 0) hx hb dX4_readCommand_137 (by decide +kernel) ?_
            refine lv_iconst (v := 5) hx hb dX4_readCommand_138 (by decide +kernel) ?_
            refine kz_miV (As := [.int 0, .int 5]) (rest := []) (b := a 0) (wr := []) (bs' := [mdW G a (va_up (va_up M 12 (fun _ => (X4_figure_c12 (M 8) (M 9 0) q3.1 q3.2 0 5))) 13 (fun _ => (X4_figure_c13 (M 8) (M 9 0) q3.1 q3.2 0 5)))]) ⟨hx, hb, hml, hown, hts⟩ (c_X4_figure l G a (va_up (va_up M 12 (fun _ => q3.1)) 13 (fun _ => q3.2)) 0 5 (by rw [va_up_ne _ _ (by decide : 12 ≠ 13), va_up_self]; exact kz_le12 hq3 (by omega)) (by rw [va_up_ne _ _ (by decide : 9 ≠ 13), va_up_ne _ _ (by decide : 9 ≠ 12)]; exact hty)) (cwV 2 hts gX4_readCommand_X4_figure rfl rfl rfl (by decide +kernel) ⟨Nat.le_of_ble_eq_true rfl, Nat.le_of_ble_eq_true rfl⟩) hK hP hD hS hA [0] [] [0] rfl (by decide) rfl (by decide) (by decide) rfl (by decide) (kz_recv hK hP (ci := 4) (q0 := 0) rfl rfl) rfl hl.1 rfl (Nat.le_of_ble_eq_true rfl) dX4_readCommand_139 ⟨Nat.le_of_ble_eq_true rfl, Nat.le_of_ble_eq_true rfl⟩ (fun H locs hP hD hS => ?_)
            refine lv_istore_n (lv' := [(3, .int (X4_figure_r (M 8) (M 9 0) q3.1 q3.2 0 5)), (4, .int 4), (2, .int s5.1), (1, .int (X4_letter_r (M 8) (M 9 0) (M 12 0))), (0, .ref (a 0))]) hx hb dX4_readCommand_142 rfl hl (by decide) rfl (fun ls hl => ?_)
            have hall : X4_rc (M 8) (M 9 0) (M 12 0) (M 13 0) = ((X4_letter_r (M 8) (M 9 0) (M 12 0)), s5.1, (X4_figure_r (M 8) (M 9 0) q3.1 q3.2 0 5), (X4_figure_c12 (M 8) (M 9 0) q3.1 q3.2 0 5), (X4_figure_c13 (M 8) (M 9 0) q3.1 q3.2 0 5)) := by rw [X4_rc, hb1, ← eq1, rc_k, if_neg c_1, if_neg c_59, show rc_4 (M 8) (M 9 0) q1 = s5 from by rw [es5, es4, es3, es2]; rfl, rc_t, if_pos c_57, if_neg c_71, ← eq3, rc_m]
            refine lv_aload_n hx hb dX4_readCommand_143 rfl (lv_at hl 4 rfl) ?_
            refine va_get (D := G.1) (ci := 4) (v := .ref (a 6)) (C := RX4) (T := TX4) (N := 14) hx hb hts hinX4 hown hK.1 hP 0 rfl rfl 10 (by decide) (hts (.fieldLink RX4 33 "ParcelShelvesModel" "told" "[I") (by decide +kernel)) (fun _ h9 => h9) rfl dX4_readCommand_144 ?_
            refine lv_iconst (v := 3) hx hb dX4_readCommand_147 (by decide +kernel) ?_
            refine lv_aload_n hx hb dX4_readCommand_148 rfl (lv_at hl 4 rfl) ?_
            refine va_get (D := G.1) (ci := 4) (v := .int (M 11 0)) (C := RX4) (T := TX4) (N := 14) hx hb hts hinX4 hown hK.1 hP 0 rfl rfl 11 (by decide) (hts (.fieldLink RX4 202 "ParcelShelvesModel" "toldMany" "I") (by decide +kernel)) (fun _ h9 => h9) rfl dX4_readCommand_149 ?_
            refine lv_imul hx hb dX4_readCommand_152 ?_
            refine lv_topi (fun y_72 ey_73 => ?_)
            obtain rfl : y_72 = (nI (3 * (M 11 0).toNatClampNeg)) := by rw [ey_73]; rw [etm, nI_clamp (by omega)]; exact pk_mul 3 tm
            refine lv_iload_n hx hb dX4_readCommand_153 rfl (lv_at hl 3 rfl) ?_
            refine va_iast hx hb hK.1 hP hD hS 6 0 rfl rfl (vp_in_nI (n := (3 * (M 11 0).toNatClampNeg)) (N := 84) (by omega) (by decide)) dX4_readCommand_154 (fun H locs hP hD hS => ?_)
            rw [kz_nI_clamp (n := (3 * (M 11 0).toNatClampNeg)) (by omega)] at hP hD
            have hP : kz_P G [mdW G a (va_up (va_up (va_up M 12 (fun _ => (X4_figure_c12 (M 8) (M 9 0) q3.1 q3.2 0 5))) 13 (fun _ => (X4_figure_c13 (M 8) (M 9 0) q3.1 q3.2 0 5))) 10 (upd (M 10) (3 * (M 11 0).toNatClampNeg) (X4_letter_r (M 8) (M 9 0) (M 12 0))))] H := hP
            have hD : kz_D A [mdW G a (va_up (va_up (va_up M 12 (fun _ => (X4_figure_c12 (M 8) (M 9 0) q3.1 q3.2 0 5))) 13 (fun _ => (X4_figure_c13 (M 8) (M 9 0) q3.1 q3.2 0 5))) 10 (upd (M 10) (3 * (M 11 0).toNatClampNeg) (X4_letter_r (M 8) (M 9 0) (M 12 0))))] := hD
            refine lv_aload_n hx hb dX4_readCommand_155 rfl (lv_at hl 4 rfl) ?_
            refine va_get (D := G.1) (ci := 4) (v := .ref (a 6)) (C := RX4) (T := TX4) (N := 14) hx hb hts hinX4 hown hK.1 hP 0 rfl rfl 10 (by decide) (hts (.fieldLink RX4 33 "ParcelShelvesModel" "told" "[I") (by decide +kernel)) (fun _ h9 => h9) rfl dX4_readCommand_156 ?_
            refine lv_iconst (v := 3) hx hb dX4_readCommand_159 (by decide +kernel) ?_
            refine lv_aload_n hx hb dX4_readCommand_160 rfl (lv_at hl 4 rfl) ?_
            refine va_get (D := G.1) (ci := 4) (v := .int (M 11 0)) (C := RX4) (T := TX4) (N := 14) hx hb hts hinX4 hown hK.1 hP 0 rfl rfl 11 (by decide) (hts (.fieldLink RX4 202 "ParcelShelvesModel" "toldMany" "I") (by decide +kernel)) (fun _ h9 => h9) rfl dX4_readCommand_161 ?_
            refine lv_imul hx hb dX4_readCommand_164 ?_
            refine lv_topi (fun y_74 ey_75 => ?_)
            obtain rfl : y_74 = (nI (3 * (M 11 0).toNatClampNeg)) := by rw [ey_75]; rw [etm, nI_clamp (by omega)]; exact pk_mul 3 tm
            refine lv_iconst (v := 1) hx hb dX4_readCommand_165 (by decide +kernel) ?_
            refine lv_iadd hx hb dX4_readCommand_166 ?_
            refine lv_topi (fun y_76 ey_77 => ?_)
            obtain rfl : y_76 = (nI (3 * (M 11 0).toNatClampNeg + 1)) := by rw [ey_77]; exact nI_1 _
            refine lv_iload_n hx hb dX4_readCommand_167 rfl (lv_at hl 2 rfl) ?_
            refine va_iast hx hb hK.1 hP hD hS 6 0 rfl rfl (vp_in_nI (n := (3 * (M 11 0).toNatClampNeg + 1)) (N := 84) (by omega) (by decide)) dX4_readCommand_168 (fun H locs hP hD hS => ?_)
            rw [kz_nI_clamp (n := (3 * (M 11 0).toNatClampNeg + 1)) (by omega)] at hP hD
            have hP : kz_P G [mdW G a (va_up (va_up (va_up M 12 (fun _ => (X4_figure_c12 (M 8) (M 9 0) q3.1 q3.2 0 5))) 13 (fun _ => (X4_figure_c13 (M 8) (M 9 0) q3.1 q3.2 0 5))) 10 (upd (upd (M 10) (3 * (M 11 0).toNatClampNeg) (X4_letter_r (M 8) (M 9 0) (M 12 0))) (3 * (M 11 0).toNatClampNeg + 1) s5.1))] H := hP
            have hD : kz_D A [mdW G a (va_up (va_up (va_up M 12 (fun _ => (X4_figure_c12 (M 8) (M 9 0) q3.1 q3.2 0 5))) 13 (fun _ => (X4_figure_c13 (M 8) (M 9 0) q3.1 q3.2 0 5))) 10 (upd (upd (M 10) (3 * (M 11 0).toNatClampNeg) (X4_letter_r (M 8) (M 9 0) (M 12 0))) (3 * (M 11 0).toNatClampNeg + 1) s5.1))] := hD
            refine lv_aload_n hx hb dX4_readCommand_169 rfl (lv_at hl 4 rfl) ?_
            refine va_get (D := G.1) (ci := 4) (v := .ref (a 6)) (C := RX4) (T := TX4) (N := 14) hx hb hts hinX4 hown hK.1 hP 0 rfl rfl 10 (by decide) (hts (.fieldLink RX4 33 "ParcelShelvesModel" "told" "[I") (by decide +kernel)) (fun _ h9 => h9) rfl dX4_readCommand_170 ?_
            refine lv_iconst (v := 3) hx hb dX4_readCommand_173 (by decide +kernel) ?_
            refine lv_aload_n hx hb dX4_readCommand_174 rfl (lv_at hl 4 rfl) ?_
            refine va_get (D := G.1) (ci := 4) (v := .int (M 11 0)) (C := RX4) (T := TX4) (N := 14) hx hb hts hinX4 hown hK.1 hP 0 rfl rfl 11 (by decide) (hts (.fieldLink RX4 202 "ParcelShelvesModel" "toldMany" "I") (by decide +kernel)) (fun _ h9 => h9) rfl dX4_readCommand_175 ?_
            refine lv_imul hx hb dX4_readCommand_178 ?_
            refine lv_topi (fun y_78 ey_79 => ?_)
            obtain rfl : y_78 = (nI (3 * (M 11 0).toNatClampNeg)) := by rw [ey_79]; rw [etm, nI_clamp (by omega)]; exact pk_mul 3 tm
            refine lv_iconst (v := 2) hx hb dX4_readCommand_179 (by decide +kernel) ?_
            refine lv_iadd hx hb dX4_readCommand_180 ?_
            refine lv_topi (fun y_80 ey_81 => ?_)
            obtain rfl : y_80 = (nI (3 * (M 11 0).toNatClampNeg + 2)) := by rw [ey_81]; exact nI_add _ 2
            refine lv_iload_n hx hb dX4_readCommand_181 rfl (lv_at hl 0 rfl) ?_
            refine va_iast hx hb hK.1 hP hD hS 6 0 rfl rfl (vp_in_nI (n := (3 * (M 11 0).toNatClampNeg + 2)) (N := 84) (by omega) (by decide)) dX4_readCommand_182 (fun H locs hP hD hS => ?_)
            rw [kz_nI_clamp (n := (3 * (M 11 0).toNatClampNeg + 2)) (by omega)] at hP hD
            have hP : kz_P G [mdW G a (va_up (va_up (va_up M 12 (fun _ => (X4_figure_c12 (M 8) (M 9 0) q3.1 q3.2 0 5))) 13 (fun _ => (X4_figure_c13 (M 8) (M 9 0) q3.1 q3.2 0 5))) 10 (upd (upd (upd (M 10) (3 * (M 11 0).toNatClampNeg) (X4_letter_r (M 8) (M 9 0) (M 12 0))) (3 * (M 11 0).toNatClampNeg + 1) s5.1) (3 * (M 11 0).toNatClampNeg + 2) (X4_figure_r (M 8) (M 9 0) q3.1 q3.2 0 5)))] H := hP
            have hD : kz_D A [mdW G a (va_up (va_up (va_up M 12 (fun _ => (X4_figure_c12 (M 8) (M 9 0) q3.1 q3.2 0 5))) 13 (fun _ => (X4_figure_c13 (M 8) (M 9 0) q3.1 q3.2 0 5))) 10 (upd (upd (upd (M 10) (3 * (M 11 0).toNatClampNeg) (X4_letter_r (M 8) (M 9 0) (M 12 0))) (3 * (M 11 0).toNatClampNeg + 1) s5.1) (3 * (M 11 0).toNatClampNeg + 2) (X4_figure_r (M 8) (M 9 0) q3.1 q3.2 0 5)))] := hD
            refine lv_aload_n hx hb dX4_readCommand_183 rfl (lv_at hl 4 rfl) ?_
            refine lv_dup hx hb dX4_readCommand_184 rfl ?_
            refine va_get (D := G.1) (ci := 4) (v := .int (M 11 0)) (C := RX4) (T := TX4) (N := 14) hx hb hts hinX4 hown hK.1 hP 0 rfl rfl 11 (by decide) (hts (.fieldLink RX4 202 "ParcelShelvesModel" "toldMany" "I") (by decide +kernel)) (fun _ h9 => h9) rfl dX4_readCommand_185 ?_
            refine lv_iconst (v := 1) hx hb dX4_readCommand_188 (by decide +kernel) ?_
            refine lv_iadd hx hb dX4_readCommand_189 ?_
            refine va_put (D := G.1) (ci := 4) (v := .int ((M 11 0) + 1)) (ty := .int) (C := RX4) (T := TX4) (N := 14) hx hb hts hinX4 tyX4 tyX4_ok nmX4 hown hK.1 hP hD hS 0 rfl rfl 11 (by decide) (hts (.fieldLink RX4 202 "ParcelShelvesModel" "toldMany" "I") (by decide +kernel)) (fun _ h9 => h9) rfl (by decide +kernel) rfl rfl (Nat.le_of_ble_eq_true rfl) dX4_readCommand_190 (fun H locs hP hD hS => ?_)
            have hP : kz_P G [mdW G a (va_up (va_up (va_up (va_up M 12 (fun _ => (X4_figure_c12 (M 8) (M 9 0) q3.1 q3.2 0 5))) 13 (fun _ => (X4_figure_c13 (M 8) (M 9 0) q3.1 q3.2 0 5))) 10 (upd (upd (upd (M 10) (3 * (M 11 0).toNatClampNeg) (X4_letter_r (M 8) (M 9 0) (M 12 0))) (3 * (M 11 0).toNatClampNeg + 1) s5.1) (3 * (M 11 0).toNatClampNeg + 2) (X4_figure_r (M 8) (M 9 0) q3.1 q3.2 0 5))) 11 (fun _ => ((M 11 0) + 1)))] H := hP
            have hD : kz_D A [mdW G a (va_up (va_up (va_up (va_up M 12 (fun _ => (X4_figure_c12 (M 8) (M 9 0) q3.1 q3.2 0 5))) 13 (fun _ => (X4_figure_c13 (M 8) (M 9 0) q3.1 q3.2 0 5))) 10 (upd (upd (upd (M 10) (3 * (M 11 0).toNatClampNeg) (X4_letter_r (M 8) (M 9 0) (M 12 0))) (3 * (M 11 0).toNatClampNeg + 1) s5.1) (3 * (M 11 0).toNatClampNeg + 2) (X4_figure_r (M 8) (M 9 0) q3.1 q3.2 0 5))) 11 (fun _ => ((M 11 0) + 1)))] := hD
            subst hQ
            have hP9 : kz_P G [mdW G a (va_up (va_up (va_up (va_up M 10 (X4_readCommand_c10 (M 8) (M 9 0) (M 10) (M 11 0) (M 12 0) (M 13 0))) 11 (fun _ => (X4_readCommand_c11 (M 8) (M 9 0) (M 10) (M 11 0) (M 12 0) (M 13 0)))) 12 (fun _ => (X4_readCommand_c12 (M 8) (M 9 0) (M 10) (M 11 0) (M 12 0) (M 13 0)))) 13 (fun _ => (X4_readCommand_c13 (M 8) (M 9 0) (M 10) (M 11 0) (M 12 0) (M 13 0))))] H := by rw [X4_readCommand_c10, X4_readCommand_c11, X4_readCommand_c12, X4_readCommand_c13, hall]; exact hP
            have hD9 : kz_D A [mdW G a (va_up (va_up (va_up (va_up M 10 (X4_readCommand_c10 (M 8) (M 9 0) (M 10) (M 11 0) (M 12 0) (M 13 0))) 11 (fun _ => (X4_readCommand_c11 (M 8) (M 9 0) (M 10) (M 11 0) (M 12 0) (M 13 0)))) 12 (fun _ => (X4_readCommand_c12 (M 8) (M 9 0) (M 10) (M 11 0) (M 12 0) (M 13 0)))) 13 (fun _ => (X4_readCommand_c13 (M 8) (M 9 0) (M 10) (M 11 0) (M 12 0) (M 13 0))))] := by rw [X4_readCommand_c10, X4_readCommand_c11, X4_readCommand_c12, X4_readCommand_c13, hall]; exact hD
            exact W.vret hx hb hr (fun t ht hW => ⟨⟨(), rfl, trivial, by rw [ht]; exact hP9, hD9⟩, hS.F ht⟩) hS.2.2 dX4_readCommand_193
          · refine lv_iconst (v := 1) hx hb dX4_readCommand_128 (by decide +kernel) ?_
            refine lv_goto (tgt := 133) hx hb dX4_readCommand_129 (by decide) ?_
            refine kz_mvV (As := [.int 1]) (rest := []) (b := a 0) (wr := []) (bs' := [mdW G a (va_up (va_up M 12 (fun _ => (X4_wants_c12 s5.2.1 s5.2.2 1))) 13 (fun _ => (X4_wants_c13 s5.2.1 s5.2.2 1)))]) ⟨hx, hb, hml, hown, hts⟩ (c_X4_wants l G a (va_up (va_up M 12 (fun _ => s5.2.1)) 13 (fun _ => s5.2.2)) 1) (cwV 1 hts gX4_readCommand_X4_wants rfl rfl rfl (by decide +kernel) ⟨Nat.le_of_ble_eq_true rfl, Nat.le_of_ble_eq_true rfl⟩) hK hP hD hS hA [0] [] [0] rfl (by decide) rfl (by decide) (by decide) rfl (by decide) (kz_recv hK hP (ci := 4) (q0 := 0) rfl rfl) rfl hl.1 rfl (Nat.le_of_ble_eq_true rfl) dX4_readCommand_133 ⟨Nat.le_of_ble_eq_true rfl, Nat.le_of_ble_eq_true rfl⟩ (fun H locs hP hD hS => ?_)
            obtain ⟨q3, eq3⟩ : ∃ q, q = rc_w s5.2.1 s5.2.2 1 := ⟨_, rfl⟩
            have hP : kz_P G [mdW G a (va_up (va_up M 12 (fun _ => q3.1)) 13 (fun _ => q3.2))] H := by rw [eq3]; exact hP
            have hD : kz_D A [mdW G a (va_up (va_up M 12 (fun _ => q3.1)) 13 (fun _ => q3.2))] := by rw [eq3]; exact hD
            have hq3 : ∃ s, s ≤ 906 ∧ q3.1 = nI s := by rw [eq3]; exact kz_wtS hs5
            refine lv_aload_n hx hb dX4_readCommand_136 rfl (lv_at hl 4 rfl) ?_
            refine lv_iconst (v := 0) hx hb dX4_readCommand_137 (by decide +kernel) ?_
            refine lv_iconst (v := 5) hx hb dX4_readCommand_138 (by decide +kernel) ?_
            refine kz_miV (As := [.int 0, .int 5]) (rest := []) (b := a 0) (wr := []) (bs' := [mdW G a (va_up (va_up M 12 (fun _ => (X4_figure_c12 (M 8) (M 9 0) q3.1 q3.2 0 5))) 13 (fun _ => (X4_figure_c13 (M 8) (M 9 0) q3.1 q3.2 0 5)))]) ⟨hx, hb, hml, hown, hts⟩ (c_X4_figure l G a (va_up (va_up M 12 (fun _ => q3.1)) 13 (fun _ => q3.2)) 0 5 (by rw [va_up_ne _ _ (by decide : 12 ≠ 13), va_up_self]; exact kz_le12 hq3 (by omega)) (by rw [va_up_ne _ _ (by decide : 9 ≠ 13), va_up_ne _ _ (by decide : 9 ≠ 12)]; exact hty)) (cwV 2 hts gX4_readCommand_X4_figure rfl rfl rfl (by decide +kernel) ⟨Nat.le_of_ble_eq_true rfl, Nat.le_of_ble_eq_true rfl⟩) hK hP hD hS hA [0] [] [0] rfl (by decide) rfl (by decide) (by decide) rfl (by decide) (kz_recv hK hP (ci := 4) (q0 := 0) rfl rfl) rfl hl.1 rfl (Nat.le_of_ble_eq_true rfl) dX4_readCommand_139 ⟨Nat.le_of_ble_eq_true rfl, Nat.le_of_ble_eq_true rfl⟩ (fun H locs hP hD hS => ?_)
            refine lv_istore_n (lv' := [(3, .int (X4_figure_r (M 8) (M 9 0) q3.1 q3.2 0 5)), (4, .int 4), (2, .int s5.1), (1, .int (X4_letter_r (M 8) (M 9 0) (M 12 0))), (0, .ref (a 0))]) hx hb dX4_readCommand_142 rfl hl (by decide) rfl (fun ls hl => ?_)
            have hall : X4_rc (M 8) (M 9 0) (M 12 0) (M 13 0) = ((X4_letter_r (M 8) (M 9 0) (M 12 0)), s5.1, (X4_figure_r (M 8) (M 9 0) q3.1 q3.2 0 5), (X4_figure_c12 (M 8) (M 9 0) q3.1 q3.2 0 5), (X4_figure_c13 (M 8) (M 9 0) q3.1 q3.2 0 5)) := by rw [X4_rc, hb1, ← eq1, rc_k, if_neg c_1, if_neg c_59, show rc_4 (M 8) (M 9 0) q1 = s5 from by rw [es5, es4, es3, es2]; rfl, rc_t, if_pos c_57, if_pos c_71, ← eq3, rc_m]
            refine lv_aload_n hx hb dX4_readCommand_143 rfl (lv_at hl 4 rfl) ?_
            refine va_get (D := G.1) (ci := 4) (v := .ref (a 6)) (C := RX4) (T := TX4) (N := 14) hx hb hts hinX4 hown hK.1 hP 0 rfl rfl 10 (by decide) (hts (.fieldLink RX4 33 "ParcelShelvesModel" "told" "[I") (by decide +kernel)) (fun _ h9 => h9) rfl dX4_readCommand_144 ?_
            refine lv_iconst (v := 3) hx hb dX4_readCommand_147 (by decide +kernel) ?_
            refine lv_aload_n hx hb dX4_readCommand_148 rfl (lv_at hl 4 rfl) ?_
            refine va_get (D := G.1) (ci := 4) (v := .int (M 11 0)) (C := RX4) (T := TX4) (N := 14) hx hb hts hinX4 hown hK.1 hP 0 rfl rfl 11 (by decide) (hts (.fieldLink RX4 202 "ParcelShelvesModel" "toldMany" "I") (by decide +kernel)) (fun _ h9 => h9) rfl dX4_readCommand_149 ?_
            refine lv_imul hx hb dX4_readCommand_152 ?_
            refine lv_topi (fun y_82 ey_83 => ?_)
            obtain rfl : y_82 = (nI (3 * (M 11 0).toNatClampNeg)) := by rw [ey_83]; rw [etm, nI_clamp (by omega)]; exact pk_mul 3 tm
            refine lv_iload_n hx hb dX4_readCommand_153 rfl (lv_at hl 3 rfl) ?_
            refine va_iast hx hb hK.1 hP hD hS 6 0 rfl rfl (vp_in_nI (n := (3 * (M 11 0).toNatClampNeg)) (N := 84) (by omega) (by decide)) dX4_readCommand_154 (fun H locs hP hD hS => ?_)
            rw [kz_nI_clamp (n := (3 * (M 11 0).toNatClampNeg)) (by omega)] at hP hD
            have hP : kz_P G [mdW G a (va_up (va_up (va_up M 12 (fun _ => (X4_figure_c12 (M 8) (M 9 0) q3.1 q3.2 0 5))) 13 (fun _ => (X4_figure_c13 (M 8) (M 9 0) q3.1 q3.2 0 5))) 10 (upd (M 10) (3 * (M 11 0).toNatClampNeg) (X4_letter_r (M 8) (M 9 0) (M 12 0))))] H := hP
            have hD : kz_D A [mdW G a (va_up (va_up (va_up M 12 (fun _ => (X4_figure_c12 (M 8) (M 9 0) q3.1 q3.2 0 5))) 13 (fun _ => (X4_figure_c13 (M 8) (M 9 0) q3.1 q3.2 0 5))) 10 (upd (M 10) (3 * (M 11 0).toNatClampNeg) (X4_letter_r (M 8) (M 9 0) (M 12 0))))] := hD
            refine lv_aload_n hx hb dX4_readCommand_155 rfl (lv_at hl 4 rfl) ?_
            refine va_get (D := G.1) (ci := 4) (v := .ref (a 6)) (C := RX4) (T := TX4) (N := 14) hx hb hts hinX4 hown hK.1 hP 0 rfl rfl 10 (by decide) (hts (.fieldLink RX4 33 "ParcelShelvesModel" "told" "[I") (by decide +kernel)) (fun _ h9 => h9) rfl dX4_readCommand_156 ?_
            refine lv_iconst (v := 3) hx hb dX4_readCommand_159 (by decide +kernel) ?_
            refine lv_aload_n hx hb dX4_readCommand_160 rfl (lv_at hl 4 rfl) ?_
            refine va_get (D := G.1) (ci := 4) (v := .int (M 11 0)) (C := RX4) (T := TX4) (N := 14) hx hb hts hinX4 hown hK.1 hP 0 rfl rfl 11 (by decide) (hts (.fieldLink RX4 202 "ParcelShelvesModel" "toldMany" "I") (by decide +kernel)) (fun _ h9 => h9) rfl dX4_readCommand_161 ?_
            refine lv_imul hx hb dX4_readCommand_164 ?_
            refine lv_topi (fun y_84 ey_85 => ?_)
            obtain rfl : y_84 = (nI (3 * (M 11 0).toNatClampNeg)) := by rw [ey_85]; rw [etm, nI_clamp (by omega)]; exact pk_mul 3 tm
            refine lv_iconst (v := 1) hx hb dX4_readCommand_165 (by decide +kernel) ?_
            refine lv_iadd hx hb dX4_readCommand_166 ?_
            refine lv_topi (fun y_86 ey_87 => ?_)
            obtain rfl : y_86 = (nI (3 * (M 11 0).toNatClampNeg + 1)) := by rw [ey_87]; exact nI_1 _
            refine lv_iload_n hx hb dX4_readCommand_167 rfl (lv_at hl 2 rfl) ?_
            refine va_iast hx hb hK.1 hP hD hS 6 0 rfl rfl (vp_in_nI (n := (3 * (M 11 0).toNatClampNeg + 1)) (N := 84) (by omega) (by decide)) dX4_readCommand_168 (fun H locs hP hD hS => ?_)
            rw [kz_nI_clamp (n := (3 * (M 11 0).toNatClampNeg + 1)) (by omega)] at hP hD
            have hP : kz_P G [mdW G a (va_up (va_up (va_up M 12 (fun _ => (X4_figure_c12 (M 8) (M 9 0) q3.1 q3.2 0 5))) 13 (fun _ => (X4_figure_c13 (M 8) (M 9 0) q3.1 q3.2 0 5))) 10 (upd (upd (M 10) (3 * (M 11 0).toNatClampNeg) (X4_letter_r (M 8) (M 9 0) (M 12 0))) (3 * (M 11 0).toNatClampNeg + 1) s5.1))] H := hP
            have hD : kz_D A [mdW G a (va_up (va_up (va_up M 12 (fun _ => (X4_figure_c12 (M 8) (M 9 0) q3.1 q3.2 0 5))) 13 (fun _ => (X4_figure_c13 (M 8) (M 9 0) q3.1 q3.2 0 5))) 10 (upd (upd (M 10) (3 * (M 11 0).toNatClampNeg) (X4_letter_r (M 8) (M 9 0) (M 12 0))) (3 * (M 11 0).toNatClampNeg + 1) s5.1))] := hD
            refine lv_aload_n hx hb dX4_readCommand_169 rfl (lv_at hl 4 rfl) ?_
            refine va_get (D := G.1) (ci := 4) (v := .ref (a 6)) (C := RX4) (T := TX4) (N := 14) hx hb hts hinX4 hown hK.1 hP 0 rfl rfl 10 (by decide) (hts (.fieldLink RX4 33 "ParcelShelvesModel" "told" "[I") (by decide +kernel)) (fun _ h9 => h9) rfl dX4_readCommand_170 ?_
            refine lv_iconst (v := 3) hx hb dX4_readCommand_173 (by decide +kernel) ?_
            refine lv_aload_n hx hb dX4_readCommand_174 rfl (lv_at hl 4 rfl) ?_
            refine va_get (D := G.1) (ci := 4) (v := .int (M 11 0)) (C := RX4) (T := TX4) (N := 14) hx hb hts hinX4 hown hK.1 hP 0 rfl rfl 11 (by decide) (hts (.fieldLink RX4 202 "ParcelShelvesModel" "toldMany" "I") (by decide +kernel)) (fun _ h9 => h9) rfl dX4_readCommand_175 ?_
            refine lv_imul hx hb dX4_readCommand_178 ?_
            refine lv_topi (fun y_88 ey_89 => ?_)
            obtain rfl : y_88 = (nI (3 * (M 11 0).toNatClampNeg)) := by rw [ey_89]; rw [etm, nI_clamp (by omega)]; exact pk_mul 3 tm
            refine lv_iconst (v := 2) hx hb dX4_readCommand_179 (by decide +kernel) ?_
            refine lv_iadd hx hb dX4_readCommand_180 ?_
            refine lv_topi (fun y_90 ey_91 => ?_)
            obtain rfl : y_90 = (nI (3 * (M 11 0).toNatClampNeg + 2)) := by rw [ey_91]; exact nI_add _ 2
            refine lv_iload_n hx hb dX4_readCommand_181 rfl (lv_at hl 0 rfl) ?_
            refine va_iast hx hb hK.1 hP hD hS 6 0 rfl rfl (vp_in_nI (n := (3 * (M 11 0).toNatClampNeg + 2)) (N := 84) (by omega) (by decide)) dX4_readCommand_182 (fun H locs hP hD hS => ?_)
            rw [kz_nI_clamp (n := (3 * (M 11 0).toNatClampNeg + 2)) (by omega)] at hP hD
            have hP : kz_P G [mdW G a (va_up (va_up (va_up M 12 (fun _ => (X4_figure_c12 (M 8) (M 9 0) q3.1 q3.2 0 5))) 13 (fun _ => (X4_figure_c13 (M 8) (M 9 0) q3.1 q3.2 0 5))) 10 (upd (upd (upd (M 10) (3 * (M 11 0).toNatClampNeg) (X4_letter_r (M 8) (M 9 0) (M 12 0))) (3 * (M 11 0).toNatClampNeg + 1) s5.1) (3 * (M 11 0).toNatClampNeg + 2) (X4_figure_r (M 8) (M 9 0) q3.1 q3.2 0 5)))] H := hP
            have hD : kz_D A [mdW G a (va_up (va_up (va_up M 12 (fun _ => (X4_figure_c12 (M 8) (M 9 0) q3.1 q3.2 0 5))) 13 (fun _ => (X4_figure_c13 (M 8) (M 9 0) q3.1 q3.2 0 5))) 10 (upd (upd (upd (M 10) (3 * (M 11 0).toNatClampNeg) (X4_letter_r (M 8) (M 9 0) (M 12 0))) (3 * (M 11 0).toNatClampNeg + 1) s5.1) (3 * (M 11 0).toNatClampNeg + 2) (X4_figure_r (M 8) (M 9 0) q3.1 q3.2 0 5)))] := hD
            refine lv_aload_n hx hb dX4_readCommand_183 rfl (lv_at hl 4 rfl) ?_
            refine lv_dup hx hb dX4_readCommand_184 rfl ?_
            refine va_get (D := G.1) (ci := 4) (v := .int (M 11 0)) (C := RX4) (T := TX4) (N := 14) hx hb hts hinX4 hown hK.1 hP 0 rfl rfl 11 (by decide) (hts (.fieldLink RX4 202 "ParcelShelvesModel" "toldMany" "I") (by decide +kernel)) (fun _ h9 => h9) rfl dX4_readCommand_185 ?_
            refine lv_iconst (v := 1) hx hb dX4_readCommand_188 (by decide +kernel) ?_
            refine lv_iadd hx hb dX4_readCommand_189 ?_
            refine va_put (D := G.1) (ci := 4) (v := .int ((M 11 0) + 1)) (ty := .int) (C := RX4) (T := TX4) (N := 14) hx hb hts hinX4 tyX4 tyX4_ok nmX4 hown hK.1 hP hD hS 0 rfl rfl 11 (by decide) (hts (.fieldLink RX4 202 "ParcelShelvesModel" "toldMany" "I") (by decide +kernel)) (fun _ h9 => h9) rfl (by decide +kernel) rfl rfl (Nat.le_of_ble_eq_true rfl) dX4_readCommand_190 (fun H locs hP hD hS => ?_)
            have hP : kz_P G [mdW G a (va_up (va_up (va_up (va_up M 12 (fun _ => (X4_figure_c12 (M 8) (M 9 0) q3.1 q3.2 0 5))) 13 (fun _ => (X4_figure_c13 (M 8) (M 9 0) q3.1 q3.2 0 5))) 10 (upd (upd (upd (M 10) (3 * (M 11 0).toNatClampNeg) (X4_letter_r (M 8) (M 9 0) (M 12 0))) (3 * (M 11 0).toNatClampNeg + 1) s5.1) (3 * (M 11 0).toNatClampNeg + 2) (X4_figure_r (M 8) (M 9 0) q3.1 q3.2 0 5))) 11 (fun _ => ((M 11 0) + 1)))] H := hP
            have hD : kz_D A [mdW G a (va_up (va_up (va_up (va_up M 12 (fun _ => (X4_figure_c12 (M 8) (M 9 0) q3.1 q3.2 0 5))) 13 (fun _ => (X4_figure_c13 (M 8) (M 9 0) q3.1 q3.2 0 5))) 10 (upd (upd (upd (M 10) (3 * (M 11 0).toNatClampNeg) (X4_letter_r (M 8) (M 9 0) (M 12 0))) (3 * (M 11 0).toNatClampNeg + 1) s5.1) (3 * (M 11 0).toNatClampNeg + 2) (X4_figure_r (M 8) (M 9 0) q3.1 q3.2 0 5))) 11 (fun _ => ((M 11 0) + 1)))] := hD
            subst hQ
            have hP9 : kz_P G [mdW G a (va_up (va_up (va_up (va_up M 10 (X4_readCommand_c10 (M 8) (M 9 0) (M 10) (M 11 0) (M 12 0) (M 13 0))) 11 (fun _ => (X4_readCommand_c11 (M 8) (M 9 0) (M 10) (M 11 0) (M 12 0) (M 13 0)))) 12 (fun _ => (X4_readCommand_c12 (M 8) (M 9 0) (M 10) (M 11 0) (M 12 0) (M 13 0)))) 13 (fun _ => (X4_readCommand_c13 (M 8) (M 9 0) (M 10) (M 11 0) (M 12 0) (M 13 0))))] H := by rw [X4_readCommand_c10, X4_readCommand_c11, X4_readCommand_c12, X4_readCommand_c13, hall]; exact hP
            have hD9 : kz_D A [mdW G a (va_up (va_up (va_up (va_up M 10 (X4_readCommand_c10 (M 8) (M 9 0) (M 10) (M 11 0) (M 12 0) (M 13 0))) 11 (fun _ => (X4_readCommand_c11 (M 8) (M 9 0) (M 10) (M 11 0) (M 12 0) (M 13 0)))) 12 (fun _ => (X4_readCommand_c12 (M 8) (M 9 0) (M 10) (M 11 0) (M 12 0) (M 13 0)))) 13 (fun _ => (X4_readCommand_c13 (M 8) (M 9 0) (M 10) (M 11 0) (M 12 0) (M 13 0))))] := by rw [X4_readCommand_c10, X4_readCommand_c11, X4_readCommand_c12, X4_readCommand_c13, hall]; exact hD
            exact W.vret hx hb hr (fun t ht hW => ⟨⟨(), rfl, trivial, by rw [ht]; exact hP9, hD9⟩, hS.F ht⟩) hS.2.2 dX4_readCommand_193
        · refine lv_iload_n hx hb dX4_readCommand_30 rfl (lv_at hl 0 rfl) ?_
          refine lv_bipush (v := 100) hx hb dX4_readCommand_31 (by decide +kernel) ?_
          refine lv_icmp_ne (tgt := 40) hx hb dX4_readCommand_33 (by decide) (fun c_92 => ?_) (fun c_92 => ?_)
          · refine lv_iconst (v := 0) hx hb dX4_readCommand_40 (by decide +kernel) ?_
            refine kz_mvV (As := [.int 0]) (rest := []) (b := a 0) (wr := []) (bs' := [mdW G a (va_up (va_up M 12 (fun _ => (X4_wants_c12 (M 12 0) (M 13 0) 0))) 13 (fun _ => (X4_wants_c13 (M 12 0) (M 13 0) 0)))]) ⟨hx, hb, hml, hown, hts⟩ (c_X4_wants l G a M 0) (cwV 1 hts gX4_readCommand_X4_wants rfl rfl rfl (by decide +kernel) ⟨Nat.le_of_ble_eq_true rfl, Nat.le_of_ble_eq_true rfl⟩) hK hP hD hS hA [0] [] [0] rfl (by decide) rfl (by decide) (by decide) rfl (by decide) (kz_recv hK hP (ci := 4) (q0 := 0) rfl rfl) rfl hl.1 rfl (Nat.le_of_ble_eq_true rfl) dX4_readCommand_41 ⟨Nat.le_of_ble_eq_true rfl, Nat.le_of_ble_eq_true rfl⟩ (fun H locs hP hD hS => ?_)
            obtain ⟨q1, eq1⟩ : ∃ q, q = rc_w (M 12 0) (M 13 0) 0 := ⟨_, rfl⟩
            have hP : kz_P G [mdW G a (va_up (va_up M 12 (fun _ => q1.1)) 13 (fun _ => q1.2))] H := by rw [eq1]; exact hP
            have hD : kz_D A [mdW G a (va_up (va_up M 12 (fun _ => q1.1)) 13 (fun _ => q1.2))] := by rw [eq1]; exact hD
            have hb1 : rc_b (X4_letter_r (M 8) (M 9 0) (M 12 0)) = 0 := by rw [rc_b, if_neg c_1, if_neg c_13, if_neg c_35, if_neg c_57, if_neg c_92]
            have hq1 : ∃ s, s ≤ 901 ∧ q1.1 = nI s := by rw [eq1]; exact kz_wtS hsp
            refine lv_iconst (v := 0) hx hb dX4_readCommand_44 (by decide +kernel) ?_
            refine lv_istore_n (lv' := [(2, .int 0), (1, .int (X4_letter_r (M 8) (M 9 0) (M 12 0))), (0, .ref (a 0))]) hx hb dX4_readCommand_45 rfl hl (by decide) rfl (fun ls hl => ?_)
            refine lv_iconst (v := 0) hx hb dX4_readCommand_46 (by decide +kernel) ?_
            refine lv_istore_n (lv' := [(3, .int 0), (2, .int 0), (1, .int (X4_letter_r (M 8) (M 9 0) (M 12 0))), (0, .ref (a 0))]) hx hb dX4_readCommand_47 rfl hl (by decide) rfl (fun ls hl => ?_)
            refine lv_iload_n hx hb dX4_readCommand_48 rfl (lv_at hl 2 rfl) ?_
            refine lv_bipush (v := 97) hx hb dX4_readCommand_49 (by decide +kernel) ?_
            refine lv_icmp_ne (tgt := 70) hx hb dX4_readCommand_51 (by decide) (fun c_93 => ?_) (fun c => absurd c c_1)
            refine lv_iload_n hx hb dX4_readCommand_70 rfl (lv_at hl 2 rfl) ?_
            refine lv_bipush (v := 100) hx hb dX4_readCommand_71 (by decide +kernel) ?_
            refine lv_icmp_ne (tgt := 84) hx hb dX4_readCommand_73 (by decide) (fun c_94 => ?_) (fun c => absurd c c_92)
            refine lv_iconst (v := 0) hx hb dX4_readCommand_84 (by decide +kernel) ?_
            refine lv_istore (lv' := [(4, .int 0), (3, .int 0), (2, .int 0), (1, .int (X4_letter_r (M 8) (M 9 0) (M 12 0))), (0, .ref (a 0))]) hx hb dX4_readCommand_85 hl (by decide) rfl (fun ls hl => ?_)
            refine lv_iload hx hb dX4_readCommand_87 (lv_at hl 0 rfl) ?_
            refine lv_iconst (v := 4) hx hb dX4_readCommand_89 (by decide +kernel) ?_
            refine lv_icmp_ge (tgt := 112) hx hb dX4_readCommand_90 (by decide) (fun c => absurd c (by decide)) (fun _ => ?_)
            refine lv_bipush (v := 10) hx hb dX4_readCommand_93 (by decide +kernel) ?_
            refine lv_iload_n hx hb dX4_readCommand_95 rfl (lv_at hl 2 rfl) ?_
            refine lv_imul hx hb dX4_readCommand_96 ?_
            refine lv_aload_n hx hb dX4_readCommand_97 rfl (lv_at hl 4 rfl) ?_
            refine lv_iconst (v := 0) hx hb dX4_readCommand_98 (by decide +kernel) ?_
            refine lv_bipush (v := 9) hx hb dX4_readCommand_99 (by decide +kernel) ?_
            refine kz_miV (As := [.int 0, .int 9]) (rest := [.int (10 * 0)]) (b := a 0) (wr := []) (bs' := [mdW G a (va_up (va_up M 12 (fun _ => (X4_figure_c12 (M 8) (M 9 0) q1.1 q1.2 0 9))) 13 (fun _ => (X4_figure_c13 (M 8) (M 9 0) q1.1 q1.2 0 9)))]) ⟨hx, hb, hml, hown, hts⟩ (c_X4_figure l G a (va_up (va_up M 12 (fun _ => q1.1)) 13 (fun _ => q1.2)) 0 9 (by rw [va_up_ne _ _ (by decide : 12 ≠ 13), va_up_self]; exact kz_le12 hq1 (by omega)) (by rw [va_up_ne _ _ (by decide : 9 ≠ 13), va_up_ne _ _ (by decide : 9 ≠ 12)]; exact hty)) (cwV 2 hts gX4_readCommand_X4_figure rfl rfl rfl (by decide +kernel) ⟨Nat.le_of_ble_eq_true rfl, Nat.le_of_ble_eq_true rfl⟩) hK hP hD hS hA [0] [] [0] rfl (by decide) rfl (by decide) (by decide) rfl (by decide) (kz_recv hK hP (ci := 4) (q0 := 0) rfl rfl) rfl hl.1 rfl (Nat.le_of_ble_eq_true rfl) dX4_readCommand_101 ⟨Nat.le_of_ble_eq_true rfl, Nat.le_of_ble_eq_true rfl⟩ (fun H locs hP hD hS => ?_)
            refine lv_iadd hx hb dX4_readCommand_104 ?_
            obtain ⟨s2, es2⟩ : ∃ q, q = rc_f (M 8) (M 9 0) (0, q1) := ⟨_, rfl⟩
            have hP : kz_P G [mdW G a (va_up (va_up M 12 (fun _ => s2.2.1)) 13 (fun _ => s2.2.2))] H := by rw [es2]; exact hP
            have hD : kz_D A [mdW G a (va_up (va_up M 12 (fun _ => s2.2.1)) 13 (fun _ => s2.2.2))] := by rw [es2]; exact hD
            have hs2 : ∃ s, s ≤ 902 ∧ s2.2.1 = nI s := by rw [es2]; exact kz_fgS hq1
            refine lv_topi (fun y_95 ey_96 => ?_)
            obtain rfl : y_95 = s2.1 := by rw [ey_96, es2]; rfl
            refine lv_istore_n (lv' := [(2, .int s2.1), (4, .int 0), (3, .int 0), (1, .int (X4_letter_r (M 8) (M 9 0) (M 12 0))), (0, .ref (a 0))]) hx hb dX4_readCommand_105 rfl hl (by decide) rfl (fun ls hl => ?_)
            refine lv_iinc (v := 1) (lv' := [(4, .int 1), (2, .int s2.1), (3, .int 0), (1, .int (X4_letter_r (M 8) (M 9 0) (M 12 0))), (0, .ref (a 0))]) hx hb dX4_readCommand_106 hl (k := 1) rfl (by decide +kernel) (by decide) rfl (fun ls hl => ?_)
            refine lv_goto (tgt := 87) hx hb dX4_readCommand_109 (by decide) ?_
            refine lv_iload hx hb dX4_readCommand_87 (lv_at hl 0 rfl) ?_
            refine lv_iconst (v := 4) hx hb dX4_readCommand_89 (by decide +kernel) ?_
            refine lv_icmp_ge (tgt := 112) hx hb dX4_readCommand_90 (by decide) (fun c => absurd c (by decide)) (fun _ => ?_)
            refine lv_bipush (v := 10) hx hb dX4_readCommand_93 (by decide +kernel) ?_
            refine lv_iload_n hx hb dX4_readCommand_95 rfl (lv_at hl 1 rfl) ?_
            refine lv_imul hx hb dX4_readCommand_96 ?_
            refine lv_aload_n hx hb dX4_readCommand_97 rfl (lv_at hl 4 rfl) ?_
            refine lv_iconst (v := 0) hx hb dX4_readCommand_98 (by decide +kernel) ?_
            refine lv_bipush (v := 9) hx hb dX4_readCommand_99 (by decide +kernel) ?_
            refine kz_miV (As := [.int 0, .int 9]) (rest := [.int (10 * s2.1)]) (b := a 0) (wr := []) (bs' := [mdW G a (va_up (va_up M 12 (fun _ => (X4_figure_c12 (M 8) (M 9 0) s2.2.1 s2.2.2 0 9))) 13 (fun _ => (X4_figure_c13 (M 8) (M 9 0) s2.2.1 s2.2.2 0 9)))]) ⟨hx, hb, hml, hown, hts⟩ (c_X4_figure l G a (va_up (va_up M 12 (fun _ => s2.2.1)) 13 (fun _ => s2.2.2)) 0 9 (by rw [va_up_ne _ _ (by decide : 12 ≠ 13), va_up_self]; exact kz_le12 hs2 (by omega)) (by rw [va_up_ne _ _ (by decide : 9 ≠ 13), va_up_ne _ _ (by decide : 9 ≠ 12)]; exact hty)) (cwV 2 hts gX4_readCommand_X4_figure rfl rfl rfl (by decide +kernel) ⟨Nat.le_of_ble_eq_true rfl, Nat.le_of_ble_eq_true rfl⟩) hK hP hD hS hA [0] [] [0] rfl (by decide) rfl (by decide) (by decide) rfl (by decide) (kz_recv hK hP (ci := 4) (q0 := 0) rfl rfl) rfl hl.1 rfl (Nat.le_of_ble_eq_true rfl) dX4_readCommand_101 ⟨Nat.le_of_ble_eq_true rfl, Nat.le_of_ble_eq_true rfl⟩ (fun H locs hP hD hS => ?_)
            refine lv_iadd hx hb dX4_readCommand_104 ?_
            obtain ⟨s3, es3⟩ : ∃ q, q = rc_f (M 8) (M 9 0) s2 := ⟨_, rfl⟩
            have hP : kz_P G [mdW G a (va_up (va_up M 12 (fun _ => s3.2.1)) 13 (fun _ => s3.2.2))] H := by rw [es3]; exact hP
            have hD : kz_D A [mdW G a (va_up (va_up M 12 (fun _ => s3.2.1)) 13 (fun _ => s3.2.2))] := by rw [es3]; exact hD
            have hs3 : ∃ s, s ≤ 903 ∧ s3.2.1 = nI s := by rw [es3]; exact kz_fgS hs2
            refine lv_topi (fun y_97 ey_98 => ?_)
            obtain rfl : y_97 = s3.1 := by rw [ey_98, es3]; rfl
            refine lv_istore_n (lv' := [(2, .int s3.1), (4, .int 1), (3, .int 0), (1, .int (X4_letter_r (M 8) (M 9 0) (M 12 0))), (0, .ref (a 0))]) hx hb dX4_readCommand_105 rfl hl (by decide) rfl (fun ls hl => ?_)
            refine lv_iinc (v := 2) (lv' := [(4, .int 2), (2, .int s3.1), (3, .int 0), (1, .int (X4_letter_r (M 8) (M 9 0) (M 12 0))), (0, .ref (a 0))]) hx hb dX4_readCommand_106 hl (k := 1) rfl (by decide +kernel) (by decide) rfl (fun ls hl => ?_)
            refine lv_goto (tgt := 87) hx hb dX4_readCommand_109 (by decide) ?_
            refine lv_iload hx hb dX4_readCommand_87 (lv_at hl 0 rfl) ?_
            refine lv_iconst (v := 4) hx hb dX4_readCommand_89 (by decide +kernel) ?_
            refine lv_icmp_ge (tgt := 112) hx hb dX4_readCommand_90 (by decide) (fun c => absurd c (by decide)) (fun _ => ?_)
            refine lv_bipush (v := 10) hx hb dX4_readCommand_93 (by decide +kernel) ?_
            refine lv_iload_n hx hb dX4_readCommand_95 rfl (lv_at hl 1 rfl) ?_
            refine lv_imul hx hb dX4_readCommand_96 ?_
            refine lv_aload_n hx hb dX4_readCommand_97 rfl (lv_at hl 4 rfl) ?_
            refine lv_iconst (v := 0) hx hb dX4_readCommand_98 (by decide +kernel) ?_
            refine lv_bipush (v := 9) hx hb dX4_readCommand_99 (by decide +kernel) ?_
            refine kz_miV (As := [.int 0, .int 9]) (rest := [.int (10 * s3.1)]) (b := a 0) (wr := []) (bs' := [mdW G a (va_up (va_up M 12 (fun _ => (X4_figure_c12 (M 8) (M 9 0) s3.2.1 s3.2.2 0 9))) 13 (fun _ => (X4_figure_c13 (M 8) (M 9 0) s3.2.1 s3.2.2 0 9)))]) ⟨hx, hb, hml, hown, hts⟩ (c_X4_figure l G a (va_up (va_up M 12 (fun _ => s3.2.1)) 13 (fun _ => s3.2.2)) 0 9 (by rw [va_up_ne _ _ (by decide : 12 ≠ 13), va_up_self]; exact kz_le12 hs3 (by omega)) (by rw [va_up_ne _ _ (by decide : 9 ≠ 13), va_up_ne _ _ (by decide : 9 ≠ 12)]; exact hty)) (cwV 2 hts gX4_readCommand_X4_figure rfl rfl rfl (by decide +kernel) ⟨Nat.le_of_ble_eq_true rfl, Nat.le_of_ble_eq_true rfl⟩) hK hP hD hS hA [0] [] [0] rfl (by decide) rfl (by decide) (by decide) rfl (by decide) (kz_recv hK hP (ci := 4) (q0 := 0) rfl rfl) rfl hl.1 rfl (Nat.le_of_ble_eq_true rfl) dX4_readCommand_101 ⟨Nat.le_of_ble_eq_true rfl, Nat.le_of_ble_eq_true rfl⟩ (fun H locs hP hD hS => ?_)
            refine lv_iadd hx hb dX4_readCommand_104 ?_
            obtain ⟨s4, es4⟩ : ∃ q, q = rc_f (M 8) (M 9 0) s3 := ⟨_, rfl⟩
            have hP : kz_P G [mdW G a (va_up (va_up M 12 (fun _ => s4.2.1)) 13 (fun _ => s4.2.2))] H := by rw [es4]; exact hP
            have hD : kz_D A [mdW G a (va_up (va_up M 12 (fun _ => s4.2.1)) 13 (fun _ => s4.2.2))] := by rw [es4]; exact hD
            have hs4 : ∃ s, s ≤ 904 ∧ s4.2.1 = nI s := by rw [es4]; exact kz_fgS hs3
            refine lv_topi (fun y_99 ey_100 => ?_)
            obtain rfl : y_99 = s4.1 := by rw [ey_100, es4]; rfl
            refine lv_istore_n (lv' := [(2, .int s4.1), (4, .int 2), (3, .int 0), (1, .int (X4_letter_r (M 8) (M 9 0) (M 12 0))), (0, .ref (a 0))]) hx hb dX4_readCommand_105 rfl hl (by decide) rfl (fun ls hl => ?_)
            refine lv_iinc (v := 3) (lv' := [(4, .int 3), (2, .int s4.1), (3, .int 0), (1, .int (X4_letter_r (M 8) (M 9 0) (M 12 0))), (0, .ref (a 0))]) hx hb dX4_readCommand_106 hl (k := 1) rfl (by decide +kernel) (by decide) rfl (fun ls hl => ?_)
            refine lv_goto (tgt := 87) hx hb dX4_readCommand_109 (by decide) ?_
            refine lv_iload hx hb dX4_readCommand_87 (lv_at hl 0 rfl) ?_
            refine lv_iconst (v := 4) hx hb dX4_readCommand_89 (by decide +kernel) ?_
            refine lv_icmp_ge (tgt := 112) hx hb dX4_readCommand_90 (by decide) (fun c => absurd c (by decide)) (fun _ => ?_)
            refine lv_bipush (v := 10) hx hb dX4_readCommand_93 (by decide +kernel) ?_
            refine lv_iload_n hx hb dX4_readCommand_95 rfl (lv_at hl 1 rfl) ?_
            refine lv_imul hx hb dX4_readCommand_96 ?_
            refine lv_aload_n hx hb dX4_readCommand_97 rfl (lv_at hl 4 rfl) ?_
            refine lv_iconst (v := 0) hx hb dX4_readCommand_98 (by decide +kernel) ?_
            refine lv_bipush (v := 9) hx hb dX4_readCommand_99 (by decide +kernel) ?_
            refine kz_miV (As := [.int 0, .int 9]) (rest := [.int (10 * s4.1)]) (b := a 0) (wr := []) (bs' := [mdW G a (va_up (va_up M 12 (fun _ => (X4_figure_c12 (M 8) (M 9 0) s4.2.1 s4.2.2 0 9))) 13 (fun _ => (X4_figure_c13 (M 8) (M 9 0) s4.2.1 s4.2.2 0 9)))]) ⟨hx, hb, hml, hown, hts⟩ (c_X4_figure l G a (va_up (va_up M 12 (fun _ => s4.2.1)) 13 (fun _ => s4.2.2)) 0 9 (by rw [va_up_ne _ _ (by decide : 12 ≠ 13), va_up_self]; exact kz_le12 hs4 (by omega)) (by rw [va_up_ne _ _ (by decide : 9 ≠ 13), va_up_ne _ _ (by decide : 9 ≠ 12)]; exact hty)) (cwV 2 hts gX4_readCommand_X4_figure rfl rfl rfl (by decide +kernel) ⟨Nat.le_of_ble_eq_true rfl, Nat.le_of_ble_eq_true rfl⟩) hK hP hD hS hA [0] [] [0] rfl (by decide) rfl (by decide) (by decide) rfl (by decide) (kz_recv hK hP (ci := 4) (q0 := 0) rfl rfl) rfl hl.1 rfl (Nat.le_of_ble_eq_true rfl) dX4_readCommand_101 ⟨Nat.le_of_ble_eq_true rfl, Nat.le_of_ble_eq_true rfl⟩ (fun H locs hP hD hS => ?_)
            refine lv_iadd hx hb dX4_readCommand_104 ?_
            obtain ⟨s5, es5⟩ : ∃ q, q = rc_f (M 8) (M 9 0) s4 := ⟨_, rfl⟩
            have hP : kz_P G [mdW G a (va_up (va_up M 12 (fun _ => s5.2.1)) 13 (fun _ => s5.2.2))] H := by rw [es5]; exact hP
            have hD : kz_D A [mdW G a (va_up (va_up M 12 (fun _ => s5.2.1)) 13 (fun _ => s5.2.2))] := by rw [es5]; exact hD
            have hs5 : ∃ s, s ≤ 905 ∧ s5.2.1 = nI s := by rw [es5]; exact kz_fgS hs4
            refine lv_topi (fun y_101 ey_102 => ?_)
            obtain rfl : y_101 = s5.1 := by rw [ey_102, es5]; rfl
            refine lv_istore_n (lv' := [(2, .int s5.1), (4, .int 3), (3, .int 0), (1, .int (X4_letter_r (M 8) (M 9 0) (M 12 0))), (0, .ref (a 0))]) hx hb dX4_readCommand_105 rfl hl (by decide) rfl (fun ls hl => ?_)
            refine lv_iinc (v := 4) (lv' := [(4, .int 4), (2, .int s5.1), (3, .int 0), (1, .int (X4_letter_r (M 8) (M 9 0) (M 12 0))), (0, .ref (a 0))]) hx hb dX4_readCommand_106 hl (k := 1) rfl (by decide +kernel) (by decide) rfl (fun ls hl => ?_)
            refine lv_goto (tgt := 87) hx hb dX4_readCommand_109 (by decide) ?_
            refine lv_iload hx hb dX4_readCommand_87 (lv_at hl 0 rfl) ?_
            refine lv_iconst (v := 4) hx hb dX4_readCommand_89 (by decide +kernel) ?_
            refine lv_icmp_ge (tgt := 112) hx hb dX4_readCommand_90 (by decide) (fun _ => ?_) (fun c => absurd c (by decide))
            refine lv_iload_n hx hb dX4_readCommand_112 rfl (lv_at hl 3 rfl) ?_
            refine lv_bipush (v := 109) hx hb dX4_readCommand_113 (by decide +kernel) ?_
            refine lv_icmp_ne (tgt := 143) hx hb dX4_readCommand_115 (by decide) (fun c_103 => ?_) (fun c => absurd c c_57)
            have hall : X4_rc (M 8) (M 9 0) (M 12 0) (M 13 0) = ((X4_letter_r (M 8) (M 9 0) (M 12 0)), s5.1, 0, s5.2.1, s5.2.2) := by rw [X4_rc, hb1, ← eq1, rc_k, if_neg c_1, if_neg c_92, show rc_4 (M 8) (M 9 0) q1 = s5 from by rw [es5, es4, es3, es2]; rfl, rc_t, if_neg c_57]
            refine lv_aload_n hx hb dX4_readCommand_143 rfl (lv_at hl 4 rfl) ?_
            refine va_get (D := G.1) (ci := 4) (v := .ref (a 6)) (C := RX4) (T := TX4) (N := 14) hx hb hts hinX4 hown hK.1 hP 0 rfl rfl 10 (by decide) (hts (.fieldLink RX4 33 "ParcelShelvesModel" "told" "[I") (by decide +kernel)) (fun _ h9 => h9) rfl dX4_readCommand_144 ?_
            refine lv_iconst (v := 3) hx hb dX4_readCommand_147 (by decide +kernel) ?_
            refine lv_aload_n hx hb dX4_readCommand_148 rfl (lv_at hl 4 rfl) ?_
            refine va_get (D := G.1) (ci := 4) (v := .int (M 11 0)) (C := RX4) (T := TX4) (N := 14) hx hb hts hinX4 hown hK.1 hP 0 rfl rfl 11 (by decide) (hts (.fieldLink RX4 202 "ParcelShelvesModel" "toldMany" "I") (by decide +kernel)) (fun _ h9 => h9) rfl dX4_readCommand_149 ?_
            refine lv_imul hx hb dX4_readCommand_152 ?_
            refine lv_topi (fun y_104 ey_105 => ?_)
            obtain rfl : y_104 = (nI (3 * (M 11 0).toNatClampNeg)) := by rw [ey_105]; rw [etm, nI_clamp (by omega)]; exact pk_mul 3 tm
            refine lv_iload_n hx hb dX4_readCommand_153 rfl (lv_at hl 3 rfl) ?_
            refine va_iast hx hb hK.1 hP hD hS 6 0 rfl rfl (vp_in_nI (n := (3 * (M 11 0).toNatClampNeg)) (N := 84) (by omega) (by decide)) dX4_readCommand_154 (fun H locs hP hD hS => ?_)
            rw [kz_nI_clamp (n := (3 * (M 11 0).toNatClampNeg)) (by omega)] at hP hD
            have hP : kz_P G [mdW G a (va_up (va_up (va_up M 12 (fun _ => s5.2.1)) 13 (fun _ => s5.2.2)) 10 (upd (M 10) (3 * (M 11 0).toNatClampNeg) (X4_letter_r (M 8) (M 9 0) (M 12 0))))] H := hP
            have hD : kz_D A [mdW G a (va_up (va_up (va_up M 12 (fun _ => s5.2.1)) 13 (fun _ => s5.2.2)) 10 (upd (M 10) (3 * (M 11 0).toNatClampNeg) (X4_letter_r (M 8) (M 9 0) (M 12 0))))] := hD
            refine lv_aload_n hx hb dX4_readCommand_155 rfl (lv_at hl 4 rfl) ?_
            refine va_get (D := G.1) (ci := 4) (v := .ref (a 6)) (C := RX4) (T := TX4) (N := 14) hx hb hts hinX4 hown hK.1 hP 0 rfl rfl 10 (by decide) (hts (.fieldLink RX4 33 "ParcelShelvesModel" "told" "[I") (by decide +kernel)) (fun _ h9 => h9) rfl dX4_readCommand_156 ?_
            refine lv_iconst (v := 3) hx hb dX4_readCommand_159 (by decide +kernel) ?_
            refine lv_aload_n hx hb dX4_readCommand_160 rfl (lv_at hl 4 rfl) ?_
            refine va_get (D := G.1) (ci := 4) (v := .int (M 11 0)) (C := RX4) (T := TX4) (N := 14) hx hb hts hinX4 hown hK.1 hP 0 rfl rfl 11 (by decide) (hts (.fieldLink RX4 202 "ParcelShelvesModel" "toldMany" "I") (by decide +kernel)) (fun _ h9 => h9) rfl dX4_readCommand_161 ?_
            refine lv_imul hx hb dX4_readCommand_164 ?_
            refine lv_topi (fun y_106 ey_107 => ?_)
            obtain rfl : y_106 = (nI (3 * (M 11 0).toNatClampNeg)) := by rw [ey_107]; rw [etm, nI_clamp (by omega)]; exact pk_mul 3 tm
            refine lv_iconst (v := 1) hx hb dX4_readCommand_165 (by decide +kernel) ?_
            refine lv_iadd hx hb dX4_readCommand_166 ?_
            refine lv_topi (fun y_108 ey_109 => ?_)
            obtain rfl : y_108 = (nI (3 * (M 11 0).toNatClampNeg + 1)) := by rw [ey_109]; exact nI_1 _
            refine lv_iload_n hx hb dX4_readCommand_167 rfl (lv_at hl 1 rfl) ?_
            refine va_iast hx hb hK.1 hP hD hS 6 0 rfl rfl (vp_in_nI (n := (3 * (M 11 0).toNatClampNeg + 1)) (N := 84) (by omega) (by decide)) dX4_readCommand_168 (fun H locs hP hD hS => ?_)
            rw [kz_nI_clamp (n := (3 * (M 11 0).toNatClampNeg + 1)) (by omega)] at hP hD
            have hP : kz_P G [mdW G a (va_up (va_up (va_up M 12 (fun _ => s5.2.1)) 13 (fun _ => s5.2.2)) 10 (upd (upd (M 10) (3 * (M 11 0).toNatClampNeg) (X4_letter_r (M 8) (M 9 0) (M 12 0))) (3 * (M 11 0).toNatClampNeg + 1) s5.1))] H := hP
            have hD : kz_D A [mdW G a (va_up (va_up (va_up M 12 (fun _ => s5.2.1)) 13 (fun _ => s5.2.2)) 10 (upd (upd (M 10) (3 * (M 11 0).toNatClampNeg) (X4_letter_r (M 8) (M 9 0) (M 12 0))) (3 * (M 11 0).toNatClampNeg + 1) s5.1))] := hD
            refine lv_aload_n hx hb dX4_readCommand_169 rfl (lv_at hl 4 rfl) ?_
            refine va_get (D := G.1) (ci := 4) (v := .ref (a 6)) (C := RX4) (T := TX4) (N := 14) hx hb hts hinX4 hown hK.1 hP 0 rfl rfl 10 (by decide) (hts (.fieldLink RX4 33 "ParcelShelvesModel" "told" "[I") (by decide +kernel)) (fun _ h9 => h9) rfl dX4_readCommand_170 ?_
            refine lv_iconst (v := 3) hx hb dX4_readCommand_173 (by decide +kernel) ?_
            refine lv_aload_n hx hb dX4_readCommand_174 rfl (lv_at hl 4 rfl) ?_
            refine va_get (D := G.1) (ci := 4) (v := .int (M 11 0)) (C := RX4) (T := TX4) (N := 14) hx hb hts hinX4 hown hK.1 hP 0 rfl rfl 11 (by decide) (hts (.fieldLink RX4 202 "ParcelShelvesModel" "toldMany" "I") (by decide +kernel)) (fun _ h9 => h9) rfl dX4_readCommand_175 ?_
            refine lv_imul hx hb dX4_readCommand_178 ?_
            refine lv_topi (fun y_110 ey_111 => ?_)
            obtain rfl : y_110 = (nI (3 * (M 11 0).toNatClampNeg)) := by rw [ey_111]; rw [etm, nI_clamp (by omega)]; exact pk_mul 3 tm
            refine lv_iconst (v := 2) hx hb dX4_readCommand_179 (by decide +kernel) ?_
            refine lv_iadd hx hb dX4_readCommand_180 ?_
            refine lv_topi (fun y_112 ey_113 => ?_)
            obtain rfl : y_112 = (nI (3 * (M 11 0).toNatClampNeg + 2)) := by rw [ey_113]; exact nI_add _ 2
            refine lv_iload_n hx hb dX4_readCommand_181 rfl (lv_at hl 2 rfl) ?_
            refine va_iast hx hb hK.1 hP hD hS 6 0 rfl rfl (vp_in_nI (n := (3 * (M 11 0).toNatClampNeg + 2)) (N := 84) (by omega) (by decide)) dX4_readCommand_182 (fun H locs hP hD hS => ?_)
            rw [kz_nI_clamp (n := (3 * (M 11 0).toNatClampNeg + 2)) (by omega)] at hP hD
            have hP : kz_P G [mdW G a (va_up (va_up (va_up M 12 (fun _ => s5.2.1)) 13 (fun _ => s5.2.2)) 10 (upd (upd (upd (M 10) (3 * (M 11 0).toNatClampNeg) (X4_letter_r (M 8) (M 9 0) (M 12 0))) (3 * (M 11 0).toNatClampNeg + 1) s5.1) (3 * (M 11 0).toNatClampNeg + 2) 0))] H := hP
            have hD : kz_D A [mdW G a (va_up (va_up (va_up M 12 (fun _ => s5.2.1)) 13 (fun _ => s5.2.2)) 10 (upd (upd (upd (M 10) (3 * (M 11 0).toNatClampNeg) (X4_letter_r (M 8) (M 9 0) (M 12 0))) (3 * (M 11 0).toNatClampNeg + 1) s5.1) (3 * (M 11 0).toNatClampNeg + 2) 0))] := hD
            refine lv_aload_n hx hb dX4_readCommand_183 rfl (lv_at hl 4 rfl) ?_
            refine lv_dup hx hb dX4_readCommand_184 rfl ?_
            refine va_get (D := G.1) (ci := 4) (v := .int (M 11 0)) (C := RX4) (T := TX4) (N := 14) hx hb hts hinX4 hown hK.1 hP 0 rfl rfl 11 (by decide) (hts (.fieldLink RX4 202 "ParcelShelvesModel" "toldMany" "I") (by decide +kernel)) (fun _ h9 => h9) rfl dX4_readCommand_185 ?_
            refine lv_iconst (v := 1) hx hb dX4_readCommand_188 (by decide +kernel) ?_
            refine lv_iadd hx hb dX4_readCommand_189 ?_
            refine va_put (D := G.1) (ci := 4) (v := .int ((M 11 0) + 1)) (ty := .int) (C := RX4) (T := TX4) (N := 14) hx hb hts hinX4 tyX4 tyX4_ok nmX4 hown hK.1 hP hD hS 0 rfl rfl 11 (by decide) (hts (.fieldLink RX4 202 "ParcelShelvesModel" "toldMany" "I") (by decide +kernel)) (fun _ h9 => h9) rfl (by decide +kernel) rfl rfl (Nat.le_of_ble_eq_true rfl) dX4_readCommand_190 (fun H locs hP hD hS => ?_)
            have hP : kz_P G [mdW G a (va_up (va_up (va_up (va_up M 12 (fun _ => s5.2.1)) 13 (fun _ => s5.2.2)) 10 (upd (upd (upd (M 10) (3 * (M 11 0).toNatClampNeg) (X4_letter_r (M 8) (M 9 0) (M 12 0))) (3 * (M 11 0).toNatClampNeg + 1) s5.1) (3 * (M 11 0).toNatClampNeg + 2) 0)) 11 (fun _ => ((M 11 0) + 1)))] H := hP
            have hD : kz_D A [mdW G a (va_up (va_up (va_up (va_up M 12 (fun _ => s5.2.1)) 13 (fun _ => s5.2.2)) 10 (upd (upd (upd (M 10) (3 * (M 11 0).toNatClampNeg) (X4_letter_r (M 8) (M 9 0) (M 12 0))) (3 * (M 11 0).toNatClampNeg + 1) s5.1) (3 * (M 11 0).toNatClampNeg + 2) 0)) 11 (fun _ => ((M 11 0) + 1)))] := hD
            subst hQ
            have hP9 : kz_P G [mdW G a (va_up (va_up (va_up (va_up M 10 (X4_readCommand_c10 (M 8) (M 9 0) (M 10) (M 11 0) (M 12 0) (M 13 0))) 11 (fun _ => (X4_readCommand_c11 (M 8) (M 9 0) (M 10) (M 11 0) (M 12 0) (M 13 0)))) 12 (fun _ => (X4_readCommand_c12 (M 8) (M 9 0) (M 10) (M 11 0) (M 12 0) (M 13 0)))) 13 (fun _ => (X4_readCommand_c13 (M 8) (M 9 0) (M 10) (M 11 0) (M 12 0) (M 13 0))))] H := by rw [X4_readCommand_c10, X4_readCommand_c11, X4_readCommand_c12, X4_readCommand_c13, hall]; exact hP
            have hD9 : kz_D A [mdW G a (va_up (va_up (va_up (va_up M 10 (X4_readCommand_c10 (M 8) (M 9 0) (M 10) (M 11 0) (M 12 0) (M 13 0))) 11 (fun _ => (X4_readCommand_c11 (M 8) (M 9 0) (M 10) (M 11 0) (M 12 0) (M 13 0)))) 12 (fun _ => (X4_readCommand_c12 (M 8) (M 9 0) (M 10) (M 11 0) (M 12 0) (M 13 0)))) 13 (fun _ => (X4_readCommand_c13 (M 8) (M 9 0) (M 10) (M 11 0) (M 12 0) (M 13 0))))] := by rw [X4_readCommand_c10, X4_readCommand_c11, X4_readCommand_c12, X4_readCommand_c13, hall]; exact hD
            exact W.vret hx hb hr (fun t ht hW => ⟨⟨(), rfl, trivial, by rw [ht]; exact hP9, hD9⟩, hS.F ht⟩) hS.2.2 dX4_readCommand_193
          · refine lv_iconst (v := 1) hx hb dX4_readCommand_36 (by decide +kernel) ?_
            refine lv_goto (tgt := 41) hx hb dX4_readCommand_37 (by decide) ?_
            refine kz_mvV (As := [.int 1]) (rest := []) (b := a 0) (wr := []) (bs' := [mdW G a (va_up (va_up M 12 (fun _ => (X4_wants_c12 (M 12 0) (M 13 0) 1))) 13 (fun _ => (X4_wants_c13 (M 12 0) (M 13 0) 1)))]) ⟨hx, hb, hml, hown, hts⟩ (c_X4_wants l G a M 1) (cwV 1 hts gX4_readCommand_X4_wants rfl rfl rfl (by decide +kernel) ⟨Nat.le_of_ble_eq_true rfl, Nat.le_of_ble_eq_true rfl⟩) hK hP hD hS hA [0] [] [0] rfl (by decide) rfl (by decide) (by decide) rfl (by decide) (kz_recv hK hP (ci := 4) (q0 := 0) rfl rfl) rfl hl.1 rfl (Nat.le_of_ble_eq_true rfl) dX4_readCommand_41 ⟨Nat.le_of_ble_eq_true rfl, Nat.le_of_ble_eq_true rfl⟩ (fun H locs hP hD hS => ?_)
            obtain ⟨q1, eq1⟩ : ∃ q, q = rc_w (M 12 0) (M 13 0) 1 := ⟨_, rfl⟩
            have hP : kz_P G [mdW G a (va_up (va_up M 12 (fun _ => q1.1)) 13 (fun _ => q1.2))] H := by rw [eq1]; exact hP
            have hD : kz_D A [mdW G a (va_up (va_up M 12 (fun _ => q1.1)) 13 (fun _ => q1.2))] := by rw [eq1]; exact hD
            have hb1 : rc_b (X4_letter_r (M 8) (M 9 0) (M 12 0)) = 1 := by rw [rc_b, if_neg c_1, if_neg c_13, if_neg c_35, if_neg c_57, if_pos c_92]
            have hq1 : ∃ s, s ≤ 901 ∧ q1.1 = nI s := by rw [eq1]; exact kz_wtS hsp
            refine lv_iconst (v := 0) hx hb dX4_readCommand_44 (by decide +kernel) ?_
            refine lv_istore_n (lv' := [(2, .int 0), (1, .int (X4_letter_r (M 8) (M 9 0) (M 12 0))), (0, .ref (a 0))]) hx hb dX4_readCommand_45 rfl hl (by decide) rfl (fun ls hl => ?_)
            refine lv_iconst (v := 0) hx hb dX4_readCommand_46 (by decide +kernel) ?_
            refine lv_istore_n (lv' := [(3, .int 0), (2, .int 0), (1, .int (X4_letter_r (M 8) (M 9 0) (M 12 0))), (0, .ref (a 0))]) hx hb dX4_readCommand_47 rfl hl (by decide) rfl (fun ls hl => ?_)
            refine lv_iload_n hx hb dX4_readCommand_48 rfl (lv_at hl 2 rfl) ?_
            refine lv_bipush (v := 97) hx hb dX4_readCommand_49 (by decide +kernel) ?_
            refine lv_icmp_ne (tgt := 70) hx hb dX4_readCommand_51 (by decide) (fun c_114 => ?_) (fun c => absurd c c_1)
            refine lv_iload_n hx hb dX4_readCommand_70 rfl (lv_at hl 2 rfl) ?_
            refine lv_bipush (v := 100) hx hb dX4_readCommand_71 (by decide +kernel) ?_
            refine lv_icmp_ne (tgt := 84) hx hb dX4_readCommand_73 (by decide) (fun c => absurd c_92 c) (fun c_115 => ?_)
            refine lv_aload_n hx hb dX4_readCommand_76 rfl (lv_at hl 3 rfl) ?_
            refine kz_miV (As := []) (rest := []) (b := a 0) (wr := []) (bs' := [mdW G a (va_up (va_up M 12 (fun _ => (X4_days_c12 (M 8) (M 9 0) q1.1 q1.2))) 13 (fun _ => (X4_days_c13 (M 8) (M 9 0) q1.1 q1.2)))]) ⟨hx, hb, hml, hown, hts⟩ (c_X4_days l G a (va_up (va_up M 12 (fun _ => q1.1)) 13 (fun _ => q1.2)) (by rw [va_up_ne _ _ (by decide : 12 ≠ 13), va_up_self]; exact kz_le12 hq1 (by omega)) (by rw [va_up_ne _ _ (by decide : 9 ≠ 13), va_up_ne _ _ (by decide : 9 ≠ 12)]; exact hty)) (cwV 0 hts gX4_readCommand_X4_days rfl rfl rfl (by decide +kernel) ⟨Nat.le_of_ble_eq_true rfl, Nat.le_of_ble_eq_true rfl⟩) hK hP hD hS hA [0] [] [0] rfl (by decide) rfl (by decide) (by decide) rfl (by decide) (kz_recv hK hP (ci := 4) (q0 := 0) rfl rfl) rfl hl.1 rfl (Nat.le_of_ble_eq_true rfl) dX4_readCommand_77 ⟨Nat.le_of_ble_eq_true rfl, Nat.le_of_ble_eq_true rfl⟩ (fun H locs hP hD hS => ?_)
            refine lv_istore_n (lv' := [(2, .int (X4_days_r (M 8) (M 9 0) q1.1 q1.2)), (3, .int 0), (1, .int (X4_letter_r (M 8) (M 9 0) (M 12 0))), (0, .ref (a 0))]) hx hb dX4_readCommand_80 rfl hl (by decide) rfl (fun ls hl => ?_)
            refine lv_goto (tgt := 143) hx hb dX4_readCommand_81 (by decide) ?_
            have hall : X4_rc (M 8) (M 9 0) (M 12 0) (M 13 0) = ((X4_letter_r (M 8) (M 9 0) (M 12 0)), (X4_days_r (M 8) (M 9 0) q1.1 q1.2), 0, (X4_days_c12 (M 8) (M 9 0) q1.1 q1.2), (X4_days_c13 (M 8) (M 9 0) q1.1 q1.2)) := by rw [X4_rc, hb1, ← eq1, rc_k, if_neg c_1, if_pos c_92]
            refine lv_aload_n hx hb dX4_readCommand_143 rfl (lv_at hl 3 rfl) ?_
            refine va_get (D := G.1) (ci := 4) (v := .ref (a 6)) (C := RX4) (T := TX4) (N := 14) hx hb hts hinX4 hown hK.1 hP 0 rfl rfl 10 (by decide) (hts (.fieldLink RX4 33 "ParcelShelvesModel" "told" "[I") (by decide +kernel)) (fun _ h9 => h9) rfl dX4_readCommand_144 ?_
            refine lv_iconst (v := 3) hx hb dX4_readCommand_147 (by decide +kernel) ?_
            refine lv_aload_n hx hb dX4_readCommand_148 rfl (lv_at hl 3 rfl) ?_
            refine va_get (D := G.1) (ci := 4) (v := .int (M 11 0)) (C := RX4) (T := TX4) (N := 14) hx hb hts hinX4 hown hK.1 hP 0 rfl rfl 11 (by decide) (hts (.fieldLink RX4 202 "ParcelShelvesModel" "toldMany" "I") (by decide +kernel)) (fun _ h9 => h9) rfl dX4_readCommand_149 ?_
            refine lv_imul hx hb dX4_readCommand_152 ?_
            refine lv_topi (fun y_116 ey_117 => ?_)
            obtain rfl : y_116 = (nI (3 * (M 11 0).toNatClampNeg)) := by rw [ey_117]; rw [etm, nI_clamp (by omega)]; exact pk_mul 3 tm
            refine lv_iload_n hx hb dX4_readCommand_153 rfl (lv_at hl 2 rfl) ?_
            refine va_iast hx hb hK.1 hP hD hS 6 0 rfl rfl (vp_in_nI (n := (3 * (M 11 0).toNatClampNeg)) (N := 84) (by omega) (by decide)) dX4_readCommand_154 (fun H locs hP hD hS => ?_)
            rw [kz_nI_clamp (n := (3 * (M 11 0).toNatClampNeg)) (by omega)] at hP hD
            have hP : kz_P G [mdW G a (va_up (va_up (va_up M 12 (fun _ => (X4_days_c12 (M 8) (M 9 0) q1.1 q1.2))) 13 (fun _ => (X4_days_c13 (M 8) (M 9 0) q1.1 q1.2))) 10 (upd (M 10) (3 * (M 11 0).toNatClampNeg) (X4_letter_r (M 8) (M 9 0) (M 12 0))))] H := hP
            have hD : kz_D A [mdW G a (va_up (va_up (va_up M 12 (fun _ => (X4_days_c12 (M 8) (M 9 0) q1.1 q1.2))) 13 (fun _ => (X4_days_c13 (M 8) (M 9 0) q1.1 q1.2))) 10 (upd (M 10) (3 * (M 11 0).toNatClampNeg) (X4_letter_r (M 8) (M 9 0) (M 12 0))))] := hD
            refine lv_aload_n hx hb dX4_readCommand_155 rfl (lv_at hl 3 rfl) ?_
            refine va_get (D := G.1) (ci := 4) (v := .ref (a 6)) (C := RX4) (T := TX4) (N := 14) hx hb hts hinX4 hown hK.1 hP 0 rfl rfl 10 (by decide) (hts (.fieldLink RX4 33 "ParcelShelvesModel" "told" "[I") (by decide +kernel)) (fun _ h9 => h9) rfl dX4_readCommand_156 ?_
            refine lv_iconst (v := 3) hx hb dX4_readCommand_159 (by decide +kernel) ?_
            refine lv_aload_n hx hb dX4_readCommand_160 rfl (lv_at hl 3 rfl) ?_
            refine va_get (D := G.1) (ci := 4) (v := .int (M 11 0)) (C := RX4) (T := TX4) (N := 14) hx hb hts hinX4 hown hK.1 hP 0 rfl rfl 11 (by decide) (hts (.fieldLink RX4 202 "ParcelShelvesModel" "toldMany" "I") (by decide +kernel)) (fun _ h9 => h9) rfl dX4_readCommand_161 ?_
            refine lv_imul hx hb dX4_readCommand_164 ?_
            refine lv_topi (fun y_118 ey_119 => ?_)
            obtain rfl : y_118 = (nI (3 * (M 11 0).toNatClampNeg)) := by rw [ey_119]; rw [etm, nI_clamp (by omega)]; exact pk_mul 3 tm
            refine lv_iconst (v := 1) hx hb dX4_readCommand_165 (by decide +kernel) ?_
            refine lv_iadd hx hb dX4_readCommand_166 ?_
            refine lv_topi (fun y_120 ey_121 => ?_)
            obtain rfl : y_120 = (nI (3 * (M 11 0).toNatClampNeg + 1)) := by rw [ey_121]; exact nI_1 _
            refine lv_iload_n hx hb dX4_readCommand_167 rfl (lv_at hl 0 rfl) ?_
            refine va_iast hx hb hK.1 hP hD hS 6 0 rfl rfl (vp_in_nI (n := (3 * (M 11 0).toNatClampNeg + 1)) (N := 84) (by omega) (by decide)) dX4_readCommand_168 (fun H locs hP hD hS => ?_)
            rw [kz_nI_clamp (n := (3 * (M 11 0).toNatClampNeg + 1)) (by omega)] at hP hD
            have hP : kz_P G [mdW G a (va_up (va_up (va_up M 12 (fun _ => (X4_days_c12 (M 8) (M 9 0) q1.1 q1.2))) 13 (fun _ => (X4_days_c13 (M 8) (M 9 0) q1.1 q1.2))) 10 (upd (upd (M 10) (3 * (M 11 0).toNatClampNeg) (X4_letter_r (M 8) (M 9 0) (M 12 0))) (3 * (M 11 0).toNatClampNeg + 1) (X4_days_r (M 8) (M 9 0) q1.1 q1.2)))] H := hP
            have hD : kz_D A [mdW G a (va_up (va_up (va_up M 12 (fun _ => (X4_days_c12 (M 8) (M 9 0) q1.1 q1.2))) 13 (fun _ => (X4_days_c13 (M 8) (M 9 0) q1.1 q1.2))) 10 (upd (upd (M 10) (3 * (M 11 0).toNatClampNeg) (X4_letter_r (M 8) (M 9 0) (M 12 0))) (3 * (M 11 0).toNatClampNeg + 1) (X4_days_r (M 8) (M 9 0) q1.1 q1.2)))] := hD
            refine lv_aload_n hx hb dX4_readCommand_169 rfl (lv_at hl 3 rfl) ?_
            refine va_get (D := G.1) (ci := 4) (v := .ref (a 6)) (C := RX4) (T := TX4) (N := 14) hx hb hts hinX4 hown hK.1 hP 0 rfl rfl 10 (by decide) (hts (.fieldLink RX4 33 "ParcelShelvesModel" "told" "[I") (by decide +kernel)) (fun _ h9 => h9) rfl dX4_readCommand_170 ?_
            refine lv_iconst (v := 3) hx hb dX4_readCommand_173 (by decide +kernel) ?_
            refine lv_aload_n hx hb dX4_readCommand_174 rfl (lv_at hl 3 rfl) ?_
            refine va_get (D := G.1) (ci := 4) (v := .int (M 11 0)) (C := RX4) (T := TX4) (N := 14) hx hb hts hinX4 hown hK.1 hP 0 rfl rfl 11 (by decide) (hts (.fieldLink RX4 202 "ParcelShelvesModel" "toldMany" "I") (by decide +kernel)) (fun _ h9 => h9) rfl dX4_readCommand_175 ?_
            refine lv_imul hx hb dX4_readCommand_178 ?_
            refine lv_topi (fun y_122 ey_123 => ?_)
            obtain rfl : y_122 = (nI (3 * (M 11 0).toNatClampNeg)) := by rw [ey_123]; rw [etm, nI_clamp (by omega)]; exact pk_mul 3 tm
            refine lv_iconst (v := 2) hx hb dX4_readCommand_179 (by decide +kernel) ?_
            refine lv_iadd hx hb dX4_readCommand_180 ?_
            refine lv_topi (fun y_124 ey_125 => ?_)
            obtain rfl : y_124 = (nI (3 * (M 11 0).toNatClampNeg + 2)) := by rw [ey_125]; exact nI_add _ 2
            refine lv_iload_n hx hb dX4_readCommand_181 rfl (lv_at hl 1 rfl) ?_
            refine va_iast hx hb hK.1 hP hD hS 6 0 rfl rfl (vp_in_nI (n := (3 * (M 11 0).toNatClampNeg + 2)) (N := 84) (by omega) (by decide)) dX4_readCommand_182 (fun H locs hP hD hS => ?_)
            rw [kz_nI_clamp (n := (3 * (M 11 0).toNatClampNeg + 2)) (by omega)] at hP hD
            have hP : kz_P G [mdW G a (va_up (va_up (va_up M 12 (fun _ => (X4_days_c12 (M 8) (M 9 0) q1.1 q1.2))) 13 (fun _ => (X4_days_c13 (M 8) (M 9 0) q1.1 q1.2))) 10 (upd (upd (upd (M 10) (3 * (M 11 0).toNatClampNeg) (X4_letter_r (M 8) (M 9 0) (M 12 0))) (3 * (M 11 0).toNatClampNeg + 1) (X4_days_r (M 8) (M 9 0) q1.1 q1.2)) (3 * (M 11 0).toNatClampNeg + 2) 0))] H := hP
            have hD : kz_D A [mdW G a (va_up (va_up (va_up M 12 (fun _ => (X4_days_c12 (M 8) (M 9 0) q1.1 q1.2))) 13 (fun _ => (X4_days_c13 (M 8) (M 9 0) q1.1 q1.2))) 10 (upd (upd (upd (M 10) (3 * (M 11 0).toNatClampNeg) (X4_letter_r (M 8) (M 9 0) (M 12 0))) (3 * (M 11 0).toNatClampNeg + 1) (X4_days_r (M 8) (M 9 0) q1.1 q1.2)) (3 * (M 11 0).toNatClampNeg + 2) 0))] := hD
            refine lv_aload_n hx hb dX4_readCommand_183 rfl (lv_at hl 3 rfl) ?_
            refine lv_dup hx hb dX4_readCommand_184 rfl ?_
            refine va_get (D := G.1) (ci := 4) (v := .int (M 11 0)) (C := RX4) (T := TX4) (N := 14) hx hb hts hinX4 hown hK.1 hP 0 rfl rfl 11 (by decide) (hts (.fieldLink RX4 202 "ParcelShelvesModel" "toldMany" "I") (by decide +kernel)) (fun _ h9 => h9) rfl dX4_readCommand_185 ?_
            refine lv_iconst (v := 1) hx hb dX4_readCommand_188 (by decide +kernel) ?_
            refine lv_iadd hx hb dX4_readCommand_189 ?_
            refine va_put (D := G.1) (ci := 4) (v := .int ((M 11 0) + 1)) (ty := .int) (C := RX4) (T := TX4) (N := 14) hx hb hts hinX4 tyX4 tyX4_ok nmX4 hown hK.1 hP hD hS 0 rfl rfl 11 (by decide) (hts (.fieldLink RX4 202 "ParcelShelvesModel" "toldMany" "I") (by decide +kernel)) (fun _ h9 => h9) rfl (by decide +kernel) rfl rfl (Nat.le_of_ble_eq_true rfl) dX4_readCommand_190 (fun H locs hP hD hS => ?_)
            have hP : kz_P G [mdW G a (va_up (va_up (va_up (va_up M 12 (fun _ => (X4_days_c12 (M 8) (M 9 0) q1.1 q1.2))) 13 (fun _ => (X4_days_c13 (M 8) (M 9 0) q1.1 q1.2))) 10 (upd (upd (upd (M 10) (3 * (M 11 0).toNatClampNeg) (X4_letter_r (M 8) (M 9 0) (M 12 0))) (3 * (M 11 0).toNatClampNeg + 1) (X4_days_r (M 8) (M 9 0) q1.1 q1.2)) (3 * (M 11 0).toNatClampNeg + 2) 0)) 11 (fun _ => ((M 11 0) + 1)))] H := hP
            have hD : kz_D A [mdW G a (va_up (va_up (va_up (va_up M 12 (fun _ => (X4_days_c12 (M 8) (M 9 0) q1.1 q1.2))) 13 (fun _ => (X4_days_c13 (M 8) (M 9 0) q1.1 q1.2))) 10 (upd (upd (upd (M 10) (3 * (M 11 0).toNatClampNeg) (X4_letter_r (M 8) (M 9 0) (M 12 0))) (3 * (M 11 0).toNatClampNeg + 1) (X4_days_r (M 8) (M 9 0) q1.1 q1.2)) (3 * (M 11 0).toNatClampNeg + 2) 0)) 11 (fun _ => ((M 11 0) + 1)))] := hD
            subst hQ
            have hP9 : kz_P G [mdW G a (va_up (va_up (va_up (va_up M 10 (X4_readCommand_c10 (M 8) (M 9 0) (M 10) (M 11 0) (M 12 0) (M 13 0))) 11 (fun _ => (X4_readCommand_c11 (M 8) (M 9 0) (M 10) (M 11 0) (M 12 0) (M 13 0)))) 12 (fun _ => (X4_readCommand_c12 (M 8) (M 9 0) (M 10) (M 11 0) (M 12 0) (M 13 0)))) 13 (fun _ => (X4_readCommand_c13 (M 8) (M 9 0) (M 10) (M 11 0) (M 12 0) (M 13 0))))] H := by rw [X4_readCommand_c10, X4_readCommand_c11, X4_readCommand_c12, X4_readCommand_c13, hall]; exact hP
            have hD9 : kz_D A [mdW G a (va_up (va_up (va_up (va_up M 10 (X4_readCommand_c10 (M 8) (M 9 0) (M 10) (M 11 0) (M 12 0) (M 13 0))) 11 (fun _ => (X4_readCommand_c11 (M 8) (M 9 0) (M 10) (M 11 0) (M 12 0) (M 13 0)))) 12 (fun _ => (X4_readCommand_c12 (M 8) (M 9 0) (M 10) (M 11 0) (M 12 0) (M 13 0)))) 13 (fun _ => (X4_readCommand_c13 (M 8) (M 9 0) (M 10) (M 11 0) (M 12 0) (M 13 0))))] := by rw [X4_readCommand_c10, X4_readCommand_c11, X4_readCommand_c12, X4_readCommand_c13, hall]; exact hD
            exact W.vret hx hb hr (fun t ht hW => ⟨⟨(), rfl, trivial, by rw [ht]; exact hP9, hD9⟩, hS.F ht⟩) hS.2.2 dX4_readCommand_193
