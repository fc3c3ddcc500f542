def X4_begin1 (z : Nat → Int32) : Nat → Int32 := upd (upd z 5 (z 5 + 1)) 6 0
def X4_cstep (z : Nat → Int32) (i : Nat) : Nat → Int32 := if kz_rem (z 5) 3 = 0 then (if z (540 + 4 * i + 0) < z 4 then z else X4_takes_c0 z i 4) else z
def X4_cour (z : Nat → Int32) : Nat → Nat → Int32
  | 0 => z
  | n + 1 => X4_cstep (X4_cour z n) n
abbrev X4_goes_p (z : Nat → Int32) (i : Nat) : Prop := X4_isTaken_p z i ∧ ¬ (z 5 - z (12 + 4 * i + 2)) ≤ z 3 ∧ ¬ 9 ≤ z (540 + 4 * (z (12 + 4 * i + 0) - 1).toNatClampNeg + 0)
def X4_rstep (z : Nat → Int32) (x : Int32) (i : Nat) : (Nat → Int32) × Int32 := if X4_goes_p z i then (X4_goesBack_c0 z i, x + 1) else (z, x)
def X4_ret (z : Nat → Int32) : Nat → (Nat → Int32) × Int32
  | 0 => (z, 0)
  | n + 1 => X4_rstep (X4_ret z n).1 (X4_ret z n).2 n
def X4_begins_c0 (z0 : Nat → Int32) : Nat → Int32 := (X4_ret (X4_cour (X4_begin1 z0) 10) 48).1
def X4_begins_r (z0 : Nat → Int32) : Int32 := (X4_ret (X4_cour (X4_begin1 z0) 10) 48).2
theorem X4_cour_t {z y : Nat → Int32} {i : Nat} (hT : y = X4_cour z i) (h0 : kz_rem (y 5) 3 = 0) (h : y (540 + 4 * i + 0) < y 4) : y = X4_cour z (i + 1) := by
  rw [X4_cour, ← hT, X4_cstep, if_pos h0, if_pos h]
theorem X4_cour_f {z y : Nat → Int32} {i : Nat} (hT : y = X4_cour z i) (h0 : kz_rem (y 5) 3 = 0) (h : ¬ y (540 + 4 * i + 0) < y 4) : X4_takes_c0 y i 4 = X4_cour z (i + 1) := by
  rw [X4_cour, ← hT, X4_cstep, if_pos h0, if_neg h]
theorem X4_cour_z {z y : Nat → Int32} {i : Nat} (hT : y = X4_cour z i) (h0 : ¬ kz_rem (y 5) 3 = 0) : ∀ k, y = X4_cour z (i + k)
  | 0 => hT
  | k + 1 => by
    have h := X4_cour_z hT h0 k
    rw [show i + (k + 1) = (i + k) + 1 from rfl, X4_cour, ← h, X4_cstep, if_neg h0]
theorem X4_ret_t {z y : Nat → Int32} {x : Int32} {i : Nat} (hT : (y, x) = X4_ret z i) (h : X4_goes_p y i) : (X4_goesBack_c0 y i, x + 1) = X4_ret z (i + 1) := by
  rw [X4_ret, ← hT]
  show _ = X4_rstep y x i
  rw [X4_rstep, if_pos h]
theorem X4_ret_f {z y : Nat → Int32} {x : Int32} {i : Nat} (hT : (y, x) = X4_ret z i) (h : ¬ X4_goes_p y i) : (y, x) = X4_ret z (i + 1) := by
  rw [X4_ret, ← hT]
  show _ = X4_rstep y x i
  rw [X4_rstep, if_neg h]
theorem kz_MP_out {z : Nat → Int32} {k : Nat} {v : Int32} (h : kz_MP z) (hk : k < 12 ∨ 204 ≤ k) : kz_MP (upd z k v) := by
  intro p hp
  rw [pk_un (by omega), pk_un (by omega)]
  exact h p hp
theorem kz_MP_takes {z : Nat → Int32} {k : Nat} {v : Int32} (h : kz_MP z) : kz_MP (X4_takes_c0 z k v) := by
  rw [X4_takes_c0, X4_count_c0, X4_count_c0, X4_count_c0]
  exact kz_MP_out (kz_MP_out (kz_MP_out (kz_MP_out (kz_MP_out h (by omega)) (by omega)) (by omega)) (by omega)) (by omega)
theorem kz_MP_leave {z : Nat → Int32} {p : Nat} (hp : p < 48) (h : kz_MP z) (hw : ∃ w, w < 7 ∧ z (12 + 4 * p + 3) = nI (w + 1)) : kz_MP (X4_leave_c0 z p) := by
  obtain ⟨w, hw7, e⟩ := hw
  have e2 : (204 + 48 * (z (12 + 4 * p + 3) - 1) + nI p).toNatClampNeg = 204 + (48 * w + p) := by
    rw [e, Int32.add_assoc, kz_ix4N, show 204 + nI (48 * w + p) = nI (204 + (48 * w + p)) from nI_add 204 _]
    exact nI_clamp (by omega)
  rw [X4_leave_c0, e2]
  intro k hk
  by_cases c : k = p
  · subst c
    rw [show 12 + 4 * k + 0 = 12 + 4 * k from rfl, pk_us]
    exact ⟨⟨0, by omega, rfl⟩, fun q => absurd (by decide) q⟩
  · rw [pk_un (by omega), pk_un (by omega), pk_un (by omega), pk_un (by omega)]
    exact h k hk
theorem kz_MP_back {z : Nat → Int32} {p : Nat} (hp : p < 48) (h : kz_MP z) (ht : X4_isTaken_p z p) : kz_MP (X4_goesBack_c0 z p) := by
  rw [X4_goesBack_c0]
  refine kz_MP_leave hp ?_ (kz_ctw ((h p hp).2 ht) hp)
  rw [X4_count_c0]
  exact kz_MP_out h (by omega)
theorem kz_MP_cour {z : Nat → Int32} (h : kz_MP z) : ∀ n, kz_MP (X4_cour z n)
  | 0 => h
  | n + 1 => by
    rw [X4_cour, X4_cstep]
    split
    · split
      · exact kz_MP_cour h n
      · exact kz_MP_takes (kz_MP_cour h n)
    · exact kz_MP_cour h n
theorem kz_MP_ret {z : Nat → Int32} (h : kz_MP z) : ∀ n, n ≤ 48 → kz_MP (X4_ret z n).1
  | 0, _ => h
  | n + 1, hn => by
    rw [X4_ret, X4_rstep]
    split
    · rename_i c
      exact kz_MP_back (by omega) (kz_MP_ret h n (by omega)) c.1
    · exact kz_MP_ret h n (by omega)
theorem kz_MP_begins {z : Nat → Int32} (h : kz_MP z) : kz_MP (X4_begins_c0 z) := by
  rw [X4_begins_c0]
  refine kz_MP_ret (kz_MP_cour ?_ 10) 48 (Nat.le_refl _)
  rw [X4_begin1]
  exact kz_MP_out (kz_MP_out h (by omega)) (by omega)
set_option maxHeartbeats 1000000 in
set_option maxRecDepth 100000 in
theorem c_X4_begins (l : Launch) (G : kz_G) (a : Nat → Nat) (M : kz_S) (hMP : kz_MP (M 0)) : kz_mi l G yX4_begins wsX4_begins 3 65 [.ref (a 0)] [mdW G a M] [mdW G a (va_up M 0 (X4_begins_c0 (M 0)))] (X4_begins_r (M 0)) := by
  intro sz
  refine Met.ofW (cc := cX4_begins) (maxL := 3) (ret := (some .int)) (by decide) rfl ?_
  intro p e s m args below meth c s₁ B hml hv
  obtain ⟨rfl, hsz, hP, hK, hD0⟩ := hv
  have hx := B.exec
  have hb := B.bytes
  have hr := B.returns
  have hts := atoms_spec (ws := wsX4_begins) B.pre
  have hown : s.vm.findClass RX4 = some m.cls := findClass_of_methodNamed B.named
  have hlocks := B.notSynchronized
  have hinX4 : ∀ w ∈ u_ws RX4 TX4 14, w ∈ wsX4_begins := by decide +kernel
  subst hsz
  have hD := hD0.self (sz := s.heap.size)
  generalize hAe : kz_A [mdW G a M] s.heap.size = A at hD ⊢
  have hA : ∀ q : Nat, s.heap.size ≤ q → A q := fun q h => by rw [← hAe]; exact Or.inr h
  have hS : va_S A s.heap s.heap [] := va_S.rf
  have hl := lv_entry ([.ref (a 0)]) (n := 3) (Nat.le_of_ble_eq_true rfl)
  rw [lg_entry_eq]
  generalize (lg_sl ([.ref (a 0)]) ++ List.replicate (3 - (lg_sl ([.ref (a 0)])).length) Slot.unset).toArray = ls at hl ⊢
  have hl : lv_has ls 3 [(0, .ref (a 0))] := hl
  refine kz_start (fun QQ hQ => ?_)
  have hP : kz_P G [mdW G a M] s.heap := hP
  refine lv_aload_n hx hb dX4_begins_0 rfl (lv_at hl 0 rfl) ?_
  refine va_get (D := G.1) (ci := 4) (v := .ref (a 1)) (C := RX4) (T := TX4) (N := 14) hx hb hts hinX4 hown hK.1 hP 0 rfl rfl 0 (by decide) (hts (.fieldLink RX4 7 "ParcelShelvesModel" "z" "[I") (by decide +kernel)) (fun _ h9 => h9) rfl dX4_begins_1 ?_
  refine lv_iconst (v := 5) hx hb dX4_begins_4 (by decide +kernel) ?_
  refine lv_dup2_11 hx hb dX4_begins_5 rfl rfl ?_
  refine va_iald (f := (M 0)) hx hb hK.1 hP 1 0 rfl rfl (vp_in_nI (n := 5) (N := 580) (by decide) (by decide)) dX4_begins_6 ?_
  refine lv_topi (fun y_1 ey_2 => ?_)
  obtain rfl : y_1 = ((M 0) 5) := by rw [ey_2]; rfl
  refine lv_iconst (v := 1) hx hb dX4_begins_7 (by decide +kernel) ?_
  refine lv_iadd hx hb dX4_begins_8 ?_
  refine va_iast hx hb hK.1 hP hD hS 1 0 rfl rfl (vp_in_nI (n := 5) (N := 580) (by decide) (by decide)) dX4_begins_9 (fun H locs hP hD hS => ?_)
  have hP : kz_P G [mdW G a (va_up M 0 (upd (M 0) 5 (((M 0) 5) + 1)))] H := hP
  have hD : kz_D A [mdW G a (va_up M 0 (upd (M 0) 5 (((M 0) 5) + 1)))] := hD
  refine lv_aload_n hx hb dX4_begins_10 rfl (lv_at hl 0 rfl) ?_
  refine va_get (D := G.1) (ci := 4) (v := .ref (a 1)) (C := RX4) (T := TX4) (N := 14) hx hb hts hinX4 hown hK.1 hP 0 rfl rfl 0 (by decide) (hts (.fieldLink RX4 7 "ParcelShelvesModel" "z" "[I") (by decide +kernel)) (fun _ h9 => h9) rfl dX4_begins_11 ?_
  refine lv_bipush (v := 6) hx hb dX4_begins_14 (by decide +kernel) ?_
  refine lv_iconst (v := 0) hx hb dX4_begins_16 (by decide +kernel) ?_
  refine va_iast hx hb hK.1 hP hD hS 1 0 rfl rfl (vp_in_nI (n := 6) (N := 580) (by decide) (by decide)) dX4_begins_17 (fun H locs hP hD hS => ?_)
  have hP : kz_P G [mdW G a (va_up M 0 (upd (upd (M 0) 5 (((M 0) 5) + 1)) 6 0))] H := hP
  have hD : kz_D A [mdW G a (va_up M 0 (upd (upd (M 0) 5 (((M 0) 5) + 1)) 6 0))] := hD
  refine lv_iconst (v := 0) hx hb dX4_begins_18 (by decide +kernel) ?_
  refine lv_istore_n (lv' := [(1, .int 0), (0, .ref (a 0))]) hx hb dX4_begins_19 rfl hl (by decide) rfl (fun ls hl => ?_)
  have L20_3 : ∀ (n20 : Nat) (i : Nat) (y0 : Nat → Int32), (10 - i < n20) → (i ≤ 10) → (y0 = X4_cour (X4_begin1 (M 0)) i) → (kz_MP y0) → ∀ (H : Heap) (locs : List Loc), kz_P G [mdW G a (va_up M 0 y0)] H → kz_D A [mdW G a (va_up M 0 y0)] → va_S A s.heap H locs → ∀ ls : Array Slot, lv_has ls 3 [(1, .int (nI i)), (0, .ref (a 0))] → W p l e (headSpec wsX4_begins (kz_rm 3 65)).room s m ([.ref (a 0)] : List Value).toArray below meth c H locs 0 0 QQ (F0 m 20 ls []) := by
    intro n20
    induction n20 with
    | zero => intro i y0 h0; exact absurd h0 (Nat.not_lt_zero _)
    | succ n20 ih20_4 =>
      intro i y0 hmeas20 hi1 hT hMy H locs hP hD hS ls hl
      refine lv_iload_n hx hb dX4_begins_20 rfl (lv_at hl 0 rfl) ?_
      refine lv_bipush (v := 10) hx hb dX4_begins_21 (by decide +kernel) ?_
      refine lv_icmp_ge (tgt := 65) hx hb dX4_begins_23 (by decide) (fun c_5 => ?_) (fun c_5 => ?_)
      · have hge := kz_le (a := 10) (b := i) c_5 (by omega) (by omega)
        have hc10 : y0 = X4_cour (X4_begin1 (M 0)) 10 := by rw [hT, show i = 10 by omega]
        refine lv_iconst (v := 0) hx hb dX4_begins_65 (by decide +kernel) ?_
        refine lv_istore_n (lv' := [(1, .int 0), (0, .ref (a 0))]) hx hb dX4_begins_66 rfl hl (by decide) rfl (fun ls hl => ?_)
        refine lv_iconst (v := 0) hx hb dX4_begins_67 (by decide +kernel) ?_
        refine lv_istore_n (lv' := [(2, .int 0), (1, .int 0), (0, .ref (a 0))]) hx hb dX4_begins_68 rfl hl (by decide) rfl (fun ls hl => ?_)
        have L69_6 : ∀ (n69 : Nat) (i : Nat) (y1 : Nat → Int32) (x1 : Int32), (48 - i < n69) → (i ≤ 48) → ((y1, x1) = X4_ret (X4_cour (X4_begin1 (M 0)) 10) i) → (kz_MP y1) → ∀ (H : Heap) (locs : List Loc), kz_P G [mdW G a (va_up M 0 y1)] H → kz_D A [mdW G a (va_up M 0 y1)] → va_S A s.heap H locs → ∀ ls : Array Slot, lv_has ls 3 [(2, .int (nI i)), (1, .int x1), (0, .ref (a 0))] → W p l e (headSpec wsX4_begins (kz_rm 3 65)).room s m ([.ref (a 0)] : List Value).toArray below meth c H locs 0 0 QQ (F0 m 69 ls []) := by
          intro n69
          induction n69 with
          | zero => intro i y1 x1 h0; exact absurd h0 (Nat.not_lt_zero _)
          | succ n69 ih69_7 =>
            intro i y1 x1 hmeas69 hi2 hT2 hMy2 H locs hP hD hS ls hl
            refine lv_iload_n hx hb dX4_begins_69 rfl (lv_at hl 0 rfl) ?_
            refine lv_bipush (v := 48) hx hb dX4_begins_70 (by decide +kernel) ?_
            refine lv_icmp_ge (tgt := 138) hx hb dX4_begins_72 (by decide) (fun c_8 => ?_) (fun c_8 => ?_)
            · have hge2 := kz_le (a := 48) (b := i) c_8 (by omega) (by omega)
              obtain rfl : i = 48 := by omega
              refine lv_iload_n hx hb dX4_begins_138 rfl (lv_at hl 1 rfl) ?_
              subst hQ
              have hP9 : kz_P G [mdW G a (va_up M 0 (X4_begins_c0 (M 0)))] H := by rw [X4_begins_c0, ← hT2]; exact hP
              have hD9 : kz_D A [mdW G a (va_up M 0 (X4_begins_c0 (M 0)))] := by rw [X4_begins_c0, ← hT2]; exact hD
              exact W.iret (v := x1) hx hb hr (fun t ht hW => ⟨⟨x1, (), rfl, (by rw [X4_begins_r, ← hT2]), by rw [ht]; exact hP9, hD9⟩, hS.F ht⟩) hS.2.2 dX4_begins_139
            · have hlt2 := kz_gt (a := 48) (b := i) c_8 (by omega) (by omega)
              refine lv_aload_n hx hb dX4_begins_75 rfl (lv_at hl 2 rfl) ?_
              refine lv_iload_n hx hb dX4_begins_76 rfl (lv_at hl 0 rfl) ?_
              refine kz_rdV (As := [.int (nI i)]) (rest := []) (b := a 0) ⟨hx, hb, hml, hown, hts⟩ (c_X4_isTaken l G a (va_up M 0 y1) i (by omega)) (cwV 1 hts gX4_begins_X4_isTaken rfl rfl rfl (by decide +kernel) ⟨Nat.le_of_ble_eq_true rfl, Nat.le_of_ble_eq_true rfl⟩) hK hP (kz_recv hK hP (ci := 4) (q0 := 0) rfl rfl) rfl hl.1 rfl (Nat.le_of_ble_eq_true rfl) dX4_begins_77 ⟨Nat.le_of_ble_eq_true rfl, Nat.le_of_ble_eq_true rfl⟩ ?_
              refine lv_topi (fun y_9 ey_10 => ?_)
              rw [va_up_self] at ey_10
              by_cases c_11 : X4_isTaken_p y1 i
              · rw [if_pos c_11] at ey_10
                subst ey_10
                refine lv_if_eq (tgt := 132) hx hb dX4_begins_80 (by decide) (fun c => absurd c (by decide)) (fun _ => ?_)
                refine lv_aload_n hx hb dX4_begins_83 rfl (lv_at hl 2 rfl) ?_
                refine va_get (D := G.1) (ci := 4) (v := .ref (a 1)) (C := RX4) (T := TX4) (N := 14) hx hb hts hinX4 hown hK.1 hP 0 rfl rfl 0 (by decide) (hts (.fieldLink RX4 7 "ParcelShelvesModel" "z" "[I") (by decide +kernel)) (fun _ h9 => h9) rfl dX4_begins_84 ?_
                refine lv_iconst (v := 5) hx hb dX4_begins_87 (by decide +kernel) ?_
                refine va_iald (f := y1) hx hb hK.1 hP 1 0 rfl rfl (vp_in_nI (n := 5) (N := 580) (by decide) (by decide)) dX4_begins_88 ?_
                refine lv_topi (fun y_12 ey_13 => ?_)
                obtain rfl : y_12 = (y1 5) := by rw [ey_13]; rfl
                refine lv_aload_n hx hb dX4_begins_89 rfl (lv_at hl 2 rfl) ?_
                refine lv_iload_n hx hb dX4_begins_90 rfl (lv_at hl 0 rfl) ?_
                refine lv_iconst (v := 2) hx hb dX4_begins_91 (by decide +kernel) ?_
                refine kz_rdV (As := [.int (nI i), .int 2]) (rest := [.int (y1 5)]) (b := a 0) ⟨hx, hb, hml, hown, hts⟩ (c_X4_at l G a (va_up M 0 y1) i 2 (by omega)) (cwV 2 hts gX4_begins_X4_at rfl rfl rfl (by decide +kernel) ⟨Nat.le_of_ble_eq_true rfl, Nat.le_of_ble_eq_true rfl⟩) hK hP (kz_recv hK hP (ci := 4) (q0 := 0) rfl rfl) rfl hl.1 rfl (Nat.le_of_ble_eq_true rfl) dX4_begins_92 ⟨Nat.le_of_ble_eq_true rfl, Nat.le_of_ble_eq_true rfl⟩ ?_
                refine lv_topi (fun y_14 ey_15 => ?_)
                obtain rfl : y_14 = (y1 (12 + 4 * i + 2)) := by rw [ey_15, va_up_self]
                refine lv_isub hx hb dX4_begins_95 ?_
                refine lv_aload_n hx hb dX4_begins_96 rfl (lv_at hl 2 rfl) ?_
                refine va_get (D := G.1) (ci := 4) (v := .ref (a 1)) (C := RX4) (T := TX4) (N := 14) hx hb hts hinX4 hown hK.1 hP 0 rfl rfl 0 (by decide) (hts (.fieldLink RX4 7 "ParcelShelvesModel" "z" "[I") (by decide +kernel)) (fun _ h9 => h9) rfl dX4_begins_97 ?_
                refine lv_iconst (v := 3) hx hb dX4_begins_100 (by decide +kernel) ?_
                refine va_iald (f := y1) hx hb hK.1 hP 1 0 rfl rfl (vp_in_nI (n := 3) (N := 580) (by decide) (by decide)) dX4_begins_101 ?_
                refine lv_topi (fun y_16 ey_17 => ?_)
                obtain rfl : y_16 = (y1 3) := by rw [ey_17]; rfl
                refine lv_icmp_le (tgt := 132) hx hb dX4_begins_102 (by decide) (fun c_18 => ?_) (fun c_18 => ?_)
                · refine lv_iinc (v := (nI (i + 1))) (lv' := [(2, .int (nI (i + 1))), (1, .int x1), (0, .ref (a 0))]) hx hb dX4_begins_132 hl (k := 0) rfl (nI_1 _) (by decide) rfl (fun ls hl => ?_)
                  refine lv_goto (tgt := 69) hx hb dX4_begins_135 (by decide) ?_
                  exact ih69_7 (i + 1) y1 x1 (by omega) (by omega) (X4_ret_f hT2 (fun h => h.2.1 c_18)) hMy2 H locs hP hD hS ls (lv_sub hl [0, 1, 2] rfl)
                · refine lv_aload_n hx hb dX4_begins_105 rfl (lv_at hl 2 rfl) ?_
                  refine lv_aload_n hx hb dX4_begins_106 rfl (lv_at hl 2 rfl) ?_
                  refine lv_iload_n hx hb dX4_begins_107 rfl (lv_at hl 0 rfl) ?_
                  refine lv_iconst (v := 0) hx hb dX4_begins_108 (by decide +kernel) ?_
                  refine kz_rdV (As := [.int (nI i), .int 0]) (rest := [.ref (a 0)]) (b := a 0) ⟨hx, hb, hml, hown, hts⟩ (c_X4_at l G a (va_up M 0 y1) i 0 (by omega)) (cwV 2 hts gX4_begins_X4_at rfl rfl rfl (by decide +kernel) ⟨Nat.le_of_ble_eq_true rfl, Nat.le_of_ble_eq_true rfl⟩) hK hP (kz_recv hK hP (ci := 4) (q0 := 0) rfl rfl) rfl hl.1 rfl (Nat.le_of_ble_eq_true rfl) dX4_begins_109 ⟨Nat.le_of_ble_eq_true rfl, Nat.le_of_ble_eq_true rfl⟩ ?_
                  refine lv_topi (fun y_19 ey_20 => ?_)
                  obtain rfl : y_19 = (y1 (12 + 4 * i + 0)) := by rw [ey_20, va_up_self]
                  refine lv_iconst (v := 1) hx hb dX4_begins_112 (by decide +kernel) ?_
                  refine lv_isub hx hb dX4_begins_113 ?_
                  refine lv_topi (fun y_21 ey_22 => ?_)
                  obtain rfl : y_21 = (nI ((y1 (12 + 4 * i + 0)) - 1).toNatClampNeg) := by rw [ey_22]; exact (kz_back (kz_sdE rfl (hMy2 i hlt2).1 c_11) (by decide)).1
                  refine lv_iconst (v := 0) hx hb dX4_begins_114 (by decide +kernel) ?_
                  refine kz_rdV (As := [.int (nI ((y1 (12 + 4 * i + 0)) - 1).toNatClampNeg), .int 0]) (rest := []) (b := a 0) ⟨hx, hb, hml, hown, hts⟩ (c_X4_ofSender l G a (va_up M 0 y1) (((y1 (12 + 4 * i + 0)) - 1).toNatClampNeg) 0 (by have := (kz_back (kz_sdE rfl (hMy2 i hlt2).1 c_11) (by decide)).2; omega)) (cwV 2 hts gX4_begins_X4_ofSender rfl rfl rfl (by decide +kernel) ⟨Nat.le_of_ble_eq_true rfl, Nat.le_of_ble_eq_true rfl⟩) hK hP (kz_recv hK hP (ci := 4) (q0 := 0) rfl rfl) rfl hl.1 rfl (Nat.le_of_ble_eq_true rfl) dX4_begins_115 ⟨Nat.le_of_ble_eq_true rfl, Nat.le_of_ble_eq_true rfl⟩ ?_
                  refine lv_topi (fun y_23 ey_24 => ?_)
                  obtain rfl : y_23 = (y1 (540 + 4 * (((y1 (12 + 4 * i + 0)) - 1).toNatClampNeg) + 0)) := by rw [ey_24, va_up_self]
                  refine lv_bipush (v := 9) hx hb dX4_begins_118 (by decide +kernel) ?_
                  refine lv_icmp_ge (tgt := 132) hx hb dX4_begins_120 (by decide) (fun c_25 => ?_) (fun c_25 => ?_)
                  · refine lv_iinc (v := (nI (i + 1))) (lv' := [(2, .int (nI (i + 1))), (1, .int x1), (0, .ref (a 0))]) hx hb dX4_begins_132 hl (k := 0) rfl (nI_1 _) (by decide) rfl (fun ls hl => ?_)
                    refine lv_goto (tgt := 69) hx hb dX4_begins_135 (by decide) ?_
                    exact ih69_7 (i + 1) y1 x1 (by omega) (by omega) (X4_ret_f hT2 (fun h => h.2.2 c_25)) hMy2 H locs hP hD hS ls (lv_sub hl [0, 1, 2] rfl)
                  · refine lv_aload_n hx hb dX4_begins_123 rfl (lv_at hl 2 rfl) ?_
                    refine lv_iload_n hx hb dX4_begins_124 rfl (lv_at hl 0 rfl) ?_
                    refine kz_miV (As := [.int (nI i)]) (rest := []) (b := a 0) (wr := []) (bs' := [mdW G a (va_up M 0 (X4_goesBack_c0 y1 i))]) ⟨hx, hb, hml, hown, hts⟩ (c_X4_goesBack l G a (va_up M 0 y1) i (by omega) (by rw [va_up_self]; exact kz_sdS (hMy2 i hlt2).1 c_11) (by rw [va_up_self]; exact (hMy2 i hlt2).2 c_11)) (cwV 1 hts gX4_begins_X4_goesBack rfl rfl rfl (by decide +kernel) ⟨Nat.le_of_ble_eq_true rfl, Nat.le_of_ble_eq_true rfl⟩) hK hP hD hS hA [0] [] [0] rfl (by decide) rfl (by decide) (by decide) rfl (by decide) (kz_recv hK hP (ci := 4) (q0 := 0) rfl rfl) rfl hl.1 rfl (Nat.le_of_ble_eq_true rfl) dX4_begins_125 ⟨Nat.le_of_ble_eq_true rfl, Nat.le_of_ble_eq_true rfl⟩ (fun H locs hP hD hS => ?_)
                    refine lv_pop hx hb dX4_begins_128 rfl ?_
                    refine lv_iinc (v := (x1 + 1)) (lv' := [(1, .int (x1 + 1)), (2, .int (nI i)), (0, .ref (a 0))]) hx hb dX4_begins_129 hl (k := 1) rfl rfl (by decide) rfl (fun ls hl => ?_)
                    refine lv_iinc (v := (nI (i + 1))) (lv' := [(2, .int (nI (i + 1))), (1, .int (x1 + 1)), (0, .ref (a 0))]) hx hb dX4_begins_132 hl (k := 1) rfl (nI_1 _) (by decide) rfl (fun ls hl => ?_)
                    refine lv_goto (tgt := 69) hx hb dX4_begins_135 (by decide) ?_
                    exact ih69_7 (i + 1) (X4_goesBack_c0 y1 i) (x1 + 1) (by omega) (by omega) (X4_ret_t hT2 ⟨c_11, c_18, c_25⟩) (kz_MP_back hlt2 hMy2 c_11) H locs hP hD hS ls (lv_sub hl [0, 1, 2] rfl)
              · rw [if_neg c_11] at ey_10
                subst ey_10
                refine lv_if_eq (tgt := 132) hx hb dX4_begins_80 (by decide) (fun _ => ?_) (fun c => absurd c (by decide))
                refine lv_iinc (v := (nI (i + 1))) (lv' := [(2, .int (nI (i + 1))), (1, .int x1), (0, .ref (a 0))]) hx hb dX4_begins_132 hl (k := 0) rfl (nI_1 _) (by decide) rfl (fun ls hl => ?_)
                refine lv_goto (tgt := 69) hx hb dX4_begins_135 (by decide) ?_
                exact ih69_7 (i + 1) y1 x1 (by omega) (by omega) (X4_ret_f hT2 (fun h => c_11 h.1)) hMy2 H locs hP hD hS ls (lv_sub hl [0, 1, 2] rfl)
        exact L69_6 _ 0 y0 0 (Nat.lt_succ_self _) (by omega) (by rw [← hc10]; rfl) hMy H locs hP hD hS ls (lv_sub hl [0, 1, 2] rfl)
      · have hlt := kz_gt (a := 10) (b := i) c_5 (by omega) (by omega)
        refine lv_aload_n hx hb dX4_begins_26 rfl (lv_at hl 1 rfl) ?_
        refine va_get (D := G.1) (ci := 4) (v := .ref (a 1)) (C := RX4) (T := TX4) (N := 14) hx hb hts hinX4 hown hK.1 hP 0 rfl rfl 0 (by decide) (hts (.fieldLink RX4 7 "ParcelShelvesModel" "z" "[I") (by decide +kernel)) (fun _ h9 => h9) rfl dX4_begins_27 ?_
        refine lv_iconst (v := 5) hx hb dX4_begins_30 (by decide +kernel) ?_
        refine va_iald (f := y0) hx hb hK.1 hP 1 0 rfl rfl (vp_in_nI (n := 5) (N := 580) (by decide) (by decide)) dX4_begins_31 ?_
        refine lv_topi (fun y_26 ey_27 => ?_)
        obtain rfl : y_26 = (y0 5) := by rw [ey_27]; rfl
        refine lv_iconst (v := 3) hx hb dX4_begins_32 (by decide +kernel) ?_
        refine lv_irem hx hb dX4_begins_33 (by decide +kernel) ?_
        refine kz_topR ?_
        refine lv_if_ne (tgt := 65) hx hb dX4_begins_34 (by decide) (fun c_28 => ?_) (fun c_28 => ?_)
        · have hc10 : y0 = X4_cour (X4_begin1 (M 0)) 10 := by have h9 := X4_cour_z hT c_28 (10 - i); rw [show i + (10 - i) = 10 by omega] at h9; exact h9
          refine lv_iconst (v := 0) hx hb dX4_begins_65 (by decide +kernel) ?_
          refine lv_istore_n (lv' := [(1, .int 0), (0, .ref (a 0))]) hx hb dX4_begins_66 rfl hl (by decide) rfl (fun ls hl => ?_)
          refine lv_iconst (v := 0) hx hb dX4_begins_67 (by decide +kernel) ?_
          refine lv_istore_n (lv' := [(2, .int 0), (1, .int 0), (0, .ref (a 0))]) hx hb dX4_begins_68 rfl hl (by decide) rfl (fun ls hl => ?_)
          have L69_29 : ∀ (n69 : Nat) (i : Nat) (y1 : Nat → Int32) (x1 : Int32), (48 - i < n69) → (i ≤ 48) → ((y1, x1) = X4_ret (X4_cour (X4_begin1 (M 0)) 10) i) → (kz_MP y1) → ∀ (H : Heap) (locs : List Loc), kz_P G [mdW G a (va_up M 0 y1)] H → kz_D A [mdW G a (va_up M 0 y1)] → va_S A s.heap H locs → ∀ ls : Array Slot, lv_has ls 3 [(2, .int (nI i)), (1, .int x1), (0, .ref (a 0))] → W p l e (headSpec wsX4_begins (kz_rm 3 65)).room s m ([.ref (a 0)] : List Value).toArray below meth c H locs 0 0 QQ (F0 m 69 ls []) := by
            intro n69
            induction n69 with
            | zero => intro i y1 x1 h0; exact absurd h0 (Nat.not_lt_zero _)
            | succ n69 ih69_30 =>
              intro i y1 x1 hmeas69 hi2 hT2 hMy2 H locs hP hD hS ls hl
              refine lv_iload_n hx hb dX4_begins_69 rfl (lv_at hl 0 rfl) ?_
              refine lv_bipush (v := 48) hx hb dX4_begins_70 (by decide +kernel) ?_
              refine lv_icmp_ge (tgt := 138) hx hb dX4_begins_72 (by decide) (fun c_31 => ?_) (fun c_31 => ?_)
              · have hge2 := kz_le (a := 48) (b := i) c_31 (by omega) (by omega)
                obtain rfl : i = 48 := by omega
                refine lv_iload_n hx hb dX4_begins_138 rfl (lv_at hl 1 rfl) ?_
                subst hQ
                have hP9 : kz_P G [mdW G a (va_up M 0 (X4_begins_c0 (M 0)))] H := by rw [X4_begins_c0, ← hT2]; exact hP
                have hD9 : kz_D A [mdW G a (va_up M 0 (X4_begins_c0 (M 0)))] := by rw [X4_begins_c0, ← hT2]; exact hD
                exact W.iret (v := x1) hx hb hr (fun t ht hW => ⟨⟨x1, (), rfl, (by rw [X4_begins_r, ← hT2]), by rw [ht]; exact hP9, hD9⟩, hS.F ht⟩) hS.2.2 dX4_begins_139
              · have hlt2 := kz_gt (a := 48) (b := i) c_31 (by omega) (by omega)
                refine lv_aload_n hx hb dX4_begins_75 rfl (lv_at hl 2 rfl) ?_
                refine lv_iload_n hx hb dX4_begins_76 rfl (lv_at hl 0 rfl) ?_
                refine kz_rdV (As := [.int (nI i)]) (rest := []) (b := a 0) ⟨hx, hb, hml, hown, hts⟩ (c_X4_isTaken l G a (va_up M 0 y1) i (by omega)) (cwV 1 hts gX4_begins_X4_isTaken rfl rfl rfl (by decide +kernel) ⟨Nat.le_of_ble_eq_true rfl, Nat.le_of_ble_eq_true rfl⟩) hK hP (kz_recv hK hP (ci := 4) (q0 := 0) rfl rfl) rfl hl.1 rfl (Nat.le_of_ble_eq_true rfl) dX4_begins_77 ⟨Nat.le_of_ble_eq_true rfl, Nat.le_of_ble_eq_true rfl⟩ ?_
                refine lv_topi (fun y_32 ey_33 => ?_)
                rw [va_up_self] at ey_33
                by_cases c_34 : X4_isTaken_p y1 i
                · rw [if_pos c_34] at ey_33
                  subst ey_33
                  refine lv_if_eq (tgt := 132) hx hb dX4_begins_80 (by decide) (fun c => absurd c (by decide)) (fun _ => ?_)
                  refine lv_aload_n hx hb dX4_begins_83 rfl (lv_at hl 2 rfl) ?_
                  refine va_get (D := G.1) (ci := 4) (v := .ref (a 1)) (C := RX4) (T := TX4) (N := 14) hx hb hts hinX4 hown hK.1 hP 0 rfl rfl 0 (by decide) (hts (.fieldLink RX4 7 "ParcelShelvesModel" "z" "[I") (by decide +kernel)) (fun _ h9 => h9) rfl dX4_begins_84 ?_
                  refine lv_iconst (v := 5) hx hb dX4_begins_87 (by decide +kernel) ?_
                  refine va_iald (f := y1) hx hb hK.1 hP 1 0 rfl rfl (vp_in_nI (n := 5) (N := 580) (by decide) (by decide)) dX4_begins_88 ?_
                  refine lv_topi (fun y_35 ey_36 => ?_)
                  obtain rfl : y_35 = (y1 5) := by rw [ey_36]; rfl
                  refine lv_aload_n hx hb dX4_begins_89 rfl (lv_at hl 2 rfl) ?_
                  refine lv_iload_n hx hb dX4_begins_90 rfl (lv_at hl 0 rfl) ?_
                  refine lv_iconst (v := 2) hx hb dX4_begins_91 (by decide +kernel) ?_
                  refine kz_rdV (As := [.int (nI i), .int 2]) (rest := [.int (y1 5)]) (b := a 0) ⟨hx, hb, hml, hown, hts⟩ (c_X4_at l G a (va_up M 0 y1) i 2 (by omega)) (cwV 2 hts gX4_begins_X4_at rfl rfl rfl (by decide +kernel) ⟨Nat.le_of_ble_eq_true rfl, Nat.le_of_ble_eq_true rfl⟩) hK hP (kz_recv hK hP (ci := 4) (q0 := 0) rfl rfl) rfl hl.1 rfl (Nat.le_of_ble_eq_true rfl) dX4_begins_92 ⟨Nat.le_of_ble_eq_true rfl, Nat.le_of_ble_eq_true rfl⟩ ?_
                  refine lv_topi (fun y_37 ey_38 => ?_)
                  obtain rfl : y_37 = (y1 (12 + 4 * i + 2)) := by rw [ey_38, va_up_self]
                  refine lv_isub hx hb dX4_begins_95 ?_
                  refine lv_aload_n hx hb dX4_begins_96 rfl (lv_at hl 2 rfl) ?_
                  refine va_get (D := G.1) (ci := 4) (v := .ref (a 1)) (C := RX4) (T := TX4) (N := 14) hx hb hts hinX4 hown hK.1 hP 0 rfl rfl 0 (by decide) (hts (.fieldLink RX4 7 "ParcelShelvesModel" "z" "[I") (by decide +kernel)) (fun _ h9 => h9) rfl dX4_begins_97 ?_
                  refine lv_iconst (v := 3) hx hb dX4_begins_100 (by decide +kernel) ?_
                  refine va_iald (f := y1) hx hb hK.1 hP 1 0 rfl rfl (vp_in_nI (n := 3) (N := 580) (by decide) (by decide)) dX4_begins_101 ?_
                  refine lv_topi (fun y_39 ey_40 => ?_)
                  obtain rfl : y_39 = (y1 3) := by rw [ey_40]; rfl
                  refine lv_icmp_le (tgt := 132) hx hb dX4_begins_102 (by decide) (fun c_41 => ?_) (fun c_41 => ?_)
                  · refine lv_iinc (v := (nI (i + 1))) (lv' := [(2, .int (nI (i + 1))), (1, .int x1), (0, .ref (a 0))]) hx hb dX4_begins_132 hl (k := 0) rfl (nI_1 _) (by decide) rfl (fun ls hl => ?_)
                    refine lv_goto (tgt := 69) hx hb dX4_begins_135 (by decide) ?_
                    exact ih69_30 (i + 1) y1 x1 (by omega) (by omega) (X4_ret_f hT2 (fun h => h.2.1 c_41)) hMy2 H locs hP hD hS ls (lv_sub hl [0, 1, 2] rfl)
                  · refine lv_aload_n hx hb dX4_begins_105 rfl (lv_at hl 2 rfl) ?_
                    refine lv_aload_n hx hb dX4_begins_106 rfl (lv_at hl 2 rfl) ?_
                    refine lv_iload_n hx hb dX4_begins_107 rfl (lv_at hl 0 rfl) ?_
                    refine lv_iconst (v := 0) hx hb dX4_begins_108 (by decide +kernel) ?_
                    refine kz_rdV (As := [.int (nI i), .int 0]) (rest := [.ref (a 0)]) (b := a 0) ⟨hx, hb, hml, hown, hts⟩ (c_X4_at l G a (va_up M 0 y1) i 0 (by omega)) (cwV 2 hts gX4_begins_X4_at rfl rfl rfl (by decide +kernel) ⟨Nat.le_of_ble_eq_true rfl, Nat.le_of_ble_eq_true rfl⟩) hK hP (kz_recv hK hP (ci := 4) (q0 := 0) rfl rfl) rfl hl.1 rfl (Nat.le_of_ble_eq_true rfl) dX4_begins_109 ⟨Nat.le_of_ble_eq_true rfl, Nat.le_of_ble_eq_true rfl⟩ ?_
                    refine lv_topi (fun y_42 ey_43 => ?_)
                    obtain rfl : y_42 = (y1 (12 + 4 * i + 0)) := by rw [ey_43, va_up_self]
                    refine lv_iconst (v := 1) hx hb dX4_begins_112 (by decide +kernel) ?_
                    refine lv_isub hx hb dX4_begins_113 ?_
                    refine lv_topi (fun y_44 ey_45 => ?_)
                    obtain rfl : y_44 = (nI ((y1 (12 + 4 * i + 0)) - 1).toNatClampNeg) := by rw [ey_45]; exact (kz_back (kz_sdE rfl (hMy2 i hlt2).1 c_34) (by decide)).1
                    refine lv_iconst (v := 0) hx hb dX4_begins_114 (by decide +kernel) ?_
                    refine kz_rdV (As := [.int (nI ((y1 (12 + 4 * i + 0)) - 1).toNatClampNeg), .int 0]) (rest := []) (b := a 0) ⟨hx, hb, hml, hown, hts⟩ (c_X4_ofSender l G a (va_up M 0 y1) (((y1 (12 + 4 * i + 0)) - 1).toNatClampNeg) 0 (by have := (kz_back (kz_sdE rfl (hMy2 i hlt2).1 c_34) (by decide)).2; omega)) (cwV 2 hts gX4_begins_X4_ofSender rfl rfl rfl (by decide +kernel) ⟨Nat.le_of_ble_eq_true rfl, Nat.le_of_ble_eq_true rfl⟩) hK hP (kz_recv hK hP (ci := 4) (q0 := 0) rfl rfl) rfl hl.1 rfl (Nat.le_of_ble_eq_true rfl) dX4_begins_115 ⟨Nat.le_of_ble_eq_true rfl, Nat.le_of_ble_eq_true rfl⟩ ?_
                    refine lv_topi (fun y_46 ey_47 => ?_)
                    obtain rfl : y_46 = (y1 (540 + 4 * (((y1 (12 + 4 * i + 0)) - 1).toNatClampNeg) + 0)) := by rw [ey_47, va_up_self]
                    refine lv_bipush (v := 9) hx hb dX4_begins_118 (by decide +kernel) ?_
                    refine lv_icmp_ge (tgt := 132) hx hb dX4_begins_120 (by decide) (fun c_48 => ?_) (fun c_48 => ?_)
                    · refine lv_iinc (v := (nI (i + 1))) (lv' := [(2, .int (nI (i + 1))), (1, .int x1), (0, .ref (a 0))]) hx hb dX4_begins_132 hl (k := 0) rfl (nI_1 _) (by decide) rfl (fun ls hl => ?_)
                      refine lv_goto (tgt := 69) hx hb dX4_begins_135 (by decide) ?_
                      exact ih69_30 (i + 1) y1 x1 (by omega) (by omega) (X4_ret_f hT2 (fun h => h.2.2 c_48)) hMy2 H locs hP hD hS ls (lv_sub hl [0, 1, 2] rfl)
                    · refine lv_aload_n hx hb dX4_begins_123 rfl (lv_at hl 2 rfl) ?_
                      refine lv_iload_n hx hb dX4_begins_124 rfl (lv_at hl 0 rfl) ?_
                      refine kz_miV (As := [.int (nI i)]) (rest := []) (b := a 0) (wr := []) (bs' := [mdW G a (va_up M 0 (X4_goesBack_c0 y1 i))]) ⟨hx, hb, hml, hown, hts⟩ (c_X4_goesBack l G a (va_up M 0 y1) i (by omega) (by rw [va_up_self]; exact kz_sdS (hMy2 i hlt2).1 c_34) (by rw [va_up_self]; exact (hMy2 i hlt2).2 c_34)) (cwV 1 hts gX4_begins_X4_goesBack rfl rfl rfl (by decide +kernel) ⟨Nat.le_of_ble_eq_true rfl, Nat.le_of_ble_eq_true rfl⟩) hK hP hD hS hA [0] [] [0] rfl (by decide) rfl (by decide) (by decide) rfl (by decide) (kz_recv hK hP (ci := 4) (q0 := 0) rfl rfl) rfl hl.1 rfl (Nat.le_of_ble_eq_true rfl) dX4_begins_125 ⟨Nat.le_of_ble_eq_true rfl, Nat.le_of_ble_eq_true rfl⟩ (fun H locs hP hD hS => ?_)
                      refine lv_pop hx hb dX4_begins_128 rfl ?_
                      refine lv_iinc (v := (x1 + 1)) (lv' := [(1, .int (x1 + 1)), (2, .int (nI i)), (0, .ref (a 0))]) hx hb dX4_begins_129 hl (k := 1) rfl rfl (by decide) rfl (fun ls hl => ?_)
                      refine lv_iinc (v := (nI (i + 1))) (lv' := [(2, .int (nI (i + 1))), (1, .int (x1 + 1)), (0, .ref (a 0))]) hx hb dX4_begins_132 hl (k := 1) rfl (nI_1 _) (by decide) rfl (fun ls hl => ?_)
                      refine lv_goto (tgt := 69) hx hb dX4_begins_135 (by decide) ?_
                      exact ih69_30 (i + 1) (X4_goesBack_c0 y1 i) (x1 + 1) (by omega) (by omega) (X4_ret_t hT2 ⟨c_34, c_41, c_48⟩) (kz_MP_back hlt2 hMy2 c_34) H locs hP hD hS ls (lv_sub hl [0, 1, 2] rfl)
                · rw [if_neg c_34] at ey_33
                  subst ey_33
                  refine lv_if_eq (tgt := 132) hx hb dX4_begins_80 (by decide) (fun _ => ?_) (fun c => absurd c (by decide))
                  refine lv_iinc (v := (nI (i + 1))) (lv' := [(2, .int (nI (i + 1))), (1, .int x1), (0, .ref (a 0))]) hx hb dX4_begins_132 hl (k := 0) rfl (nI_1 _) (by decide) rfl (fun ls hl => ?_)
                  refine lv_goto (tgt := 69) hx hb dX4_begins_135 (by decide) ?_
                  exact ih69_30 (i + 1) y1 x1 (by omega) (by omega) (X4_ret_f hT2 (fun h => c_34 h.1)) hMy2 H locs hP hD hS ls (lv_sub hl [0, 1, 2] rfl)
          exact L69_29 _ 0 y0 0 (Nat.lt_succ_self _) (by omega) (by rw [← hc10]; rfl) hMy H locs hP hD hS ls (lv_sub hl [0, 1, 2] rfl)
        · refine lv_aload_n hx hb dX4_begins_37 rfl (lv_at hl 1 rfl) ?_
          refine lv_iload_n hx hb dX4_begins_38 rfl (lv_at hl 0 rfl) ?_
          refine lv_iconst (v := 0) hx hb dX4_begins_39 (by decide +kernel) ?_
          refine kz_rdV (As := [.int (nI i), .int 0]) (rest := []) (b := a 0) ⟨hx, hb, hml, hown, hts⟩ (c_X4_ofSender l G a (va_up M 0 y0) i 0 (by omega)) (cwV 2 hts gX4_begins_X4_ofSender rfl rfl rfl (by decide +kernel) ⟨Nat.le_of_ble_eq_true rfl, Nat.le_of_ble_eq_true rfl⟩) hK hP (kz_recv hK hP (ci := 4) (q0 := 0) rfl rfl) rfl hl.1 rfl (Nat.le_of_ble_eq_true rfl) dX4_begins_40 ⟨Nat.le_of_ble_eq_true rfl, Nat.le_of_ble_eq_true rfl⟩ ?_
          refine lv_topi (fun y_49 ey_50 => ?_)
          obtain rfl : y_49 = (y0 (540 + 4 * i + 0)) := by rw [ey_50, va_up_self]
          refine lv_aload_n hx hb dX4_begins_43 rfl (lv_at hl 1 rfl) ?_
          refine va_get (D := G.1) (ci := 4) (v := .ref (a 1)) (C := RX4) (T := TX4) (N := 14) hx hb hts hinX4 hown hK.1 hP 0 rfl rfl 0 (by decide) (hts (.fieldLink RX4 7 "ParcelShelvesModel" "z" "[I") (by decide +kernel)) (fun _ h9 => h9) rfl dX4_begins_44 ?_
          refine lv_iconst (v := 4) hx hb dX4_begins_47 (by decide +kernel) ?_
          refine va_iald (f := y0) hx hb hK.1 hP 1 0 rfl rfl (vp_in_nI (n := 4) (N := 580) (by decide) (by decide)) dX4_begins_48 ?_
          refine lv_topi (fun y_51 ey_52 => ?_)
          obtain rfl : y_51 = (y0 4) := by rw [ey_52]; rfl
          refine lv_icmp_lt (tgt := 59) hx hb dX4_begins_49 (by decide) (fun c_53 => ?_) (fun c_53 => ?_)
          · refine lv_iinc (v := (nI (i + 1))) (lv' := [(1, .int (nI (i + 1))), (0, .ref (a 0))]) hx hb dX4_begins_59 hl (k := 0) rfl (nI_1 _) (by decide) rfl (fun ls hl => ?_)
            refine lv_goto (tgt := 20) hx hb dX4_begins_62 (by decide) ?_
            exact ih20_4 (i + 1) y0 (by omega) (by omega) (X4_cour_t hT c_28 c_53) hMy H locs hP hD hS ls (lv_sub hl [0, 1] rfl)
          · refine lv_aload_n hx hb dX4_begins_52 rfl (lv_at hl 1 rfl) ?_
            refine lv_iload_n hx hb dX4_begins_53 rfl (lv_at hl 0 rfl) ?_
            refine lv_iconst (v := 4) hx hb dX4_begins_54 (by decide +kernel) ?_
            refine kz_miV (As := [.int (nI i), .int 4]) (rest := []) (b := a 0) (wr := []) (bs' := [mdW G a (va_up M 0 (X4_takes_c0 y0 i 4))]) ⟨hx, hb, hml, hown, hts⟩ (c_X4_takes l G a (va_up M 0 y0) i 4 (by omega)) (cwV 2 hts gX4_begins_X4_takes rfl rfl rfl (by decide +kernel) ⟨Nat.le_of_ble_eq_true rfl, Nat.le_of_ble_eq_true rfl⟩) hK hP hD hS hA [0] [] [0] rfl (by decide) rfl (by decide) (by decide) rfl (by decide) (kz_recv hK hP (ci := 4) (q0 := 0) rfl rfl) rfl hl.1 rfl (Nat.le_of_ble_eq_true rfl) dX4_begins_55 ⟨Nat.le_of_ble_eq_true rfl, Nat.le_of_ble_eq_true rfl⟩ (fun H locs hP hD hS => ?_)
            refine lv_pop hx hb dX4_begins_58 rfl ?_
            refine lv_iinc (v := (nI (i + 1))) (lv' := [(1, .int (nI (i + 1))), (0, .ref (a 0))]) hx hb dX4_begins_59 hl (k := 0) rfl (nI_1 _) (by decide) rfl (fun ls hl => ?_)
            refine lv_goto (tgt := 20) hx hb dX4_begins_62 (by decide) ?_
            exact ih20_4 (i + 1) (X4_takes_c0 y0 i 4) (by omega) (by omega) (X4_cour_f hT c_28 c_53) (kz_MP_takes hMy) H locs hP hD hS ls (lv_sub hl [0, 1] rfl)
  exact L20_3 _ 0 (X4_begin1 (M 0)) (Nat.lt_succ_self _) (by omega) rfl (by rw [X4_begin1]; exact kz_MP_out (kz_MP_out hMP (by omega)) (by omega)) H locs hP hD hS ls (lv_sub hl [0, 1] rfl)
