theorem kz_cp0 {f g : Nat → Int32} {sp dp : Nat} : g = va_cpy f g sp dp 0 := by
  funext k
  rw [pk_cpy_out (by omega)]
theorem kz_cp1 {f g P : Nat → Int32} {sp dp i a b : Nat} (ha : a = dp + i) (hb : b = sp + i) (hP : P = va_cpy f g sp dp i) : upd P a (f b) = va_cpy f g sp dp (i + 1) := by
  subst ha; subst hb; subst hP
  funext k
  by_cases e : k = dp + i
  · subst e
    rw [pk_us, pk_cpy_in (by omega) (by omega), show dp + i - dp = i by omega]
  · rw [pk_un e]
    by_cases h : dp ≤ k ∧ k < dp + i
    · rw [pk_cpy_in h.1 h.2, pk_cpy_in h.1 (by omega)]
    · rw [pk_cpy_out (by omega), pk_cpy_out (by omega)]
theorem kz_cpS {g P : Nat → Int32} {d i : Nat} (hP : P = va_cpy g g d 0 i) : upd P i (P (i + d)) = va_cpy g g d 0 (i + 1) := by
  have h : P (i + d) = g (d + i) := by rw [hP, pk_cpy_out (by omega), Nat.add_comm]
  rw [h]
  exact kz_cp1 (by omega) rfl hP
def X4_record_c1 (z0 z1 : Nat → Int32) (z2 : Int32) : Nat → Int32 := if z2 = 5 then va_cpy z0 (va_cpy z1 z1 580 0 2320) 0 (580 * 4) 580 else va_cpy z0 z1 0 (580 * z2.toNatClampNeg) 580
def X4_record_c2 (z0 z1 : Nat → Int32) (z2 : Int32) : Int32 := if z2 = 5 then z2 - 1 + 1 else z2 + 1
set_option maxHeartbeats 4000000 in
set_option maxRecDepth 100000 in
theorem c_X4_record (l : Launch) (G : kz_G) (a : Nat → Nat) (M : kz_S) (hpm : ∃ n, n ≤ 5 ∧ M 2 0 = nI n) : kz_mv l G yX4_record wsX4_record 0 0 [.ref (a 0)] [mdW G a M] [mdW G a (va_up (va_up M 1 (X4_record_c1 (M 0) (M 1) (M 2 0))) 2 (fun _ => (X4_record_c2 (M 0) (M 1) (M 2 0))))] := by
  intro sz
  refine Met.ofW (cc := cX4_record) (maxL := 2) (ret := none) (by decide) rfl ?_
  intro p e s m args below meth c s₁ B hml hv
  obtain ⟨rfl, hsz, hP, hK, hD0⟩ := hv
  have hx := B.exec
  have hb := B.bytes
  have hr := B.returns
  have hts := atoms_spec (ws := wsX4_record) B.pre
  have hown : s.vm.findClass RX4 = some m.cls := findClass_of_methodNamed B.named
  have hlocks := B.notSynchronized
  have hinX4 : ∀ w ∈ u_ws RX4 TX4 14, w ∈ wsX4_record := by decide +kernel
  subst hsz
  have hD := hD0.self (sz := s.heap.size)
  generalize hAe : kz_A [mdW G a M] s.heap.size = A at hD ⊢
  have hA : ∀ q : Nat, s.heap.size ≤ q → A q := fun q h => by rw [← hAe]; exact Or.inr h
  have hS : va_S A s.heap s.heap [] := va_S.rf
  have hl := lv_entry ([.ref (a 0)]) (n := 2) (Nat.le_of_ble_eq_true rfl)
  rw [lg_entry_eq]
  generalize (lg_sl ([.ref (a 0)]) ++ List.replicate (2 - (lg_sl ([.ref (a 0)])).length) Slot.unset).toArray = ls at hl ⊢
  have hl : lv_has ls 2 [(0, .ref (a 0))] := hl
  refine kz_start (fun QQ hQ => ?_)
  have hP : kz_P G [mdW G a M] s.heap := hP
  obtain ⟨pm, hp5, hpe⟩ := id hpm
  have hpn : (M 2 0).toNatClampNeg = pm := by rw [hpe]; exact nI_clamp (by omega)
  refine lv_aload_n hx hb dX4_record_0 rfl (lv_at hl 0 rfl) ?_
  refine va_get (D := G.1) (ci := 4) (v := .int (M 2 0)) (C := RX4) (T := TX4) (N := 14) hx hb hts hinX4 hown hK.1 hP 0 rfl rfl 2 (by decide) (hts (.fieldLink RX4 36 "ParcelShelvesModel" "pastMany" "I") (by decide +kernel)) (fun _ h9 => h9) rfl dX4_record_1 ?_
  refine lv_iconst (v := 5) hx hb dX4_record_4 (by decide +kernel) ?_
  refine lv_icmp_ne (tgt := 49) hx hb dX4_record_5 (by decide) (fun c_1 => ?_) (fun c_1 => ?_)
  · have hp4 : pm ≤ 4 := Nat.le_of_not_lt (fun h => c_1 (by rw [hpe, show pm = 5 by omega]; rfl))
    refine lv_iconst (v := 0) hx hb dX4_record_49 (by decide +kernel) ?_
    refine lv_istore_n (lv' := [(1, .int 0), (0, .ref (a 0))]) hx hb dX4_record_50 rfl hl (by decide) rfl (fun ls hl => ?_)
    have L51_2 : ∀ (n51 : Nat) (i : Nat) (P1 : Nat → Int32), (580 - i < n51) → (i ≤ 580) → (P1 = va_cpy (M 0) (M 1) 0 (580 * (M 2 0).toNatClampNeg) i) → ∀ (H : Heap) (locs : List Loc), kz_P G [mdW G a (va_up M 1 P1)] H → kz_D A [mdW G a (va_up M 1 P1)] → va_S A s.heap H locs → ∀ ls : Array Slot, lv_has ls 2 [(1, .int (nI i)), (0, .ref (a 0))] → W p l e (headSpec wsX4_record (kz_rm 0 0)).room s m ([.ref (a 0)] : List Value).toArray below meth c H locs 0 0 QQ (F0 m 51 ls []) := by
      intro n51
      induction n51 with
      | zero => intro i P1 h0; exact absurd h0 (Nat.not_lt_zero _)
      | succ n51 ih51_3 =>
        intro i P1 hmeas51 hi1 hP1 H locs hP hD hS ls hl
        refine lv_iload_n hx hb dX4_record_51 rfl (lv_at hl 0 rfl) ?_
        refine lv_sipush (v := 580) hx hb dX4_record_52 (by decide +kernel) ?_
        refine lv_icmp_ge (tgt := 85) hx hb dX4_record_55 (by decide) (fun c_4 => ?_) (fun c_4 => ?_)
        · have hge := kz_le (a := 580) (b := i) c_4 (by omega) (by omega)
          obtain rfl : i = 580 := by omega
          refine lv_aload_n hx hb dX4_record_85 rfl (lv_at hl 1 rfl) ?_
          refine lv_dup hx hb dX4_record_86 rfl ?_
          refine va_get (D := G.1) (ci := 4) (v := .int (M 2 0)) (C := RX4) (T := TX4) (N := 14) hx hb hts hinX4 hown hK.1 hP 0 rfl rfl 2 (by decide) (hts (.fieldLink RX4 36 "ParcelShelvesModel" "pastMany" "I") (by decide +kernel)) (fun _ h9 => h9) rfl dX4_record_87 ?_
          refine lv_iconst (v := 1) hx hb dX4_record_90 (by decide +kernel) ?_
          refine lv_iadd hx hb dX4_record_91 ?_
          refine va_put (D := G.1) (ci := 4) (v := .int ((M 2 0) + 1)) (ty := .int) (C := RX4) (T := TX4) (N := 14) hx hb hts hinX4 tyX4 tyX4_ok nmX4 hown hK.1 hP hD hS 0 rfl rfl 2 (by decide) (hts (.fieldLink RX4 36 "ParcelShelvesModel" "pastMany" "I") (by decide +kernel)) (fun _ h9 => h9) rfl (by decide +kernel) rfl rfl (Nat.le_of_ble_eq_true rfl) dX4_record_92 (fun H locs hP hD hS => ?_)
          have hP : kz_P G [mdW G a (va_up (va_up M 1 P1) 2 (fun _ => ((M 2 0) + 1)))] H := hP
          have hD : kz_D A [mdW G a (va_up (va_up M 1 P1) 2 (fun _ => ((M 2 0) + 1)))] := hD
          subst hQ
          have hP9 : kz_P G [mdW G a (va_up (va_up M 1 (X4_record_c1 (M 0) (M 1) (M 2 0))) 2 (fun _ => (X4_record_c2 (M 0) (M 1) (M 2 0))))] H := by rw [X4_record_c1, X4_record_c2, if_neg c_1, if_neg c_1, ← hP1]; exact hP
          have hD9 : kz_D A [mdW G a (va_up (va_up M 1 (X4_record_c1 (M 0) (M 1) (M 2 0))) 2 (fun _ => (X4_record_c2 (M 0) (M 1) (M 2 0))))] := by rw [X4_record_c1, X4_record_c2, if_neg c_1, if_neg c_1, ← hP1]; exact hD
          exact W.vret hx hb hr (fun t ht hW => ⟨⟨(), rfl, trivial, by rw [ht]; exact hP9, hD9⟩, hS.F ht⟩) hS.2.2 dX4_record_95
        · have hlt := kz_gt (a := 580) (b := i) c_4 (by omega) (by omega)
          refine lv_aload_n hx hb dX4_record_58 rfl (lv_at hl 1 rfl) ?_
          refine va_get (D := G.1) (ci := 4) (v := .ref (a 2)) (C := RX4) (T := TX4) (N := 14) hx hb hts hinX4 hown hK.1 hP 0 rfl rfl 1 (by decide) (hts (.fieldLink RX4 13 "ParcelShelvesModel" "past" "[I") (by decide +kernel)) (fun _ h9 => h9) rfl dX4_record_59 ?_
          refine lv_aload_n hx hb dX4_record_62 rfl (lv_at hl 1 rfl) ?_
          refine va_get (D := G.1) (ci := 4) (v := .int (M 2 0)) (C := RX4) (T := TX4) (N := 14) hx hb hts hinX4 hown hK.1 hP 0 rfl rfl 2 (by decide) (hts (.fieldLink RX4 36 "ParcelShelvesModel" "pastMany" "I") (by decide +kernel)) (fun _ h9 => h9) rfl dX4_record_63 ?_
          refine lv_sipush (v := 580) hx hb dX4_record_66 (by decide +kernel) ?_
          refine lv_imul hx hb dX4_record_69 ?_
          refine lv_topi (fun y_5 ey_6 => ?_)
          obtain rfl : y_5 = (nI (580 * (M 2 0).toNatClampNeg)) := by rw [ey_6]; rw [hpe, nI_clamp (by omega), Nat.mul_comm]; exact pk_mul pm 580
          refine lv_iload_n hx hb dX4_record_70 rfl (lv_at hl 0 rfl) ?_
          refine lv_iadd hx hb dX4_record_71 ?_
          refine lv_topi (fun y_7 ey_8 => ?_)
          obtain rfl : y_7 = (nI (580 * (M 2 0).toNatClampNeg + i)) := by rw [ey_8]; exact nI_add _ _
          refine lv_aload_n hx hb dX4_record_72 rfl (lv_at hl 1 rfl) ?_
          refine va_get (D := G.1) (ci := 4) (v := .ref (a 1)) (C := RX4) (T := TX4) (N := 14) hx hb hts hinX4 hown hK.1 hP 0 rfl rfl 0 (by decide) (hts (.fieldLink RX4 7 "ParcelShelvesModel" "z" "[I") (by decide +kernel)) (fun _ h9 => h9) rfl dX4_record_73 ?_
          refine lv_iload_n hx hb dX4_record_76 rfl (lv_at hl 0 rfl) ?_
          refine va_iald (f := (M 0)) hx hb hK.1 hP 1 0 rfl rfl (vp_in_nI (n := i) (N := 580) (by omega) (by decide)) dX4_record_77 ?_
          refine lv_topi (fun y_9 ey_10 => ?_)
          obtain rfl : y_9 = ((M 0) i) := by rw [ey_10, kz_nI_clamp (n := i) (by omega)]
          refine va_iast hx hb hK.1 hP hD hS 2 0 rfl rfl (vp_in_nI (n := (580 * (M 2 0).toNatClampNeg + i)) (N := 2900) (by omega) (by decide)) dX4_record_78 (fun H locs hP hD hS => ?_)
          rw [kz_nI_clamp (n := (580 * (M 2 0).toNatClampNeg + i)) (by omega)] at hP hD
          have hP : kz_P G [mdW G a (va_up M 1 (upd P1 (580 * (M 2 0).toNatClampNeg + i) ((M 0) i)))] H := hP
          have hD : kz_D A [mdW G a (va_up M 1 (upd P1 (580 * (M 2 0).toNatClampNeg + i) ((M 0) i)))] := hD
          refine lv_iinc (v := (nI (i + 1))) (lv' := [(1, .int (nI (i + 1))), (0, .ref (a 0))]) hx hb dX4_record_79 hl (k := 0) rfl (nI_1 _) (by decide) rfl (fun ls hl => ?_)
          refine lv_goto (tgt := 51) hx hb dX4_record_82 (by decide) ?_
          exact ih51_3 (i + 1) (upd P1 (580 * (M 2 0).toNatClampNeg + i) ((M 0) i)) (by omega) (by omega) (kz_cp1 (by omega) (by omega) hP1) H locs hP hD hS ls (lv_sub hl [0, 1] rfl)
    exact L51_2 _ 0 (M 1) (Nat.lt_succ_self _) (by omega) kz_cp0 s.heap [] hP hD hS ls (lv_sub hl [0, 1] rfl)
  · refine lv_iconst (v := 0) hx hb dX4_record_8 (by decide +kernel) ?_
    refine lv_istore_n (lv' := [(1, .int 0), (0, .ref (a 0))]) hx hb dX4_record_9 rfl hl (by decide) rfl (fun ls hl => ?_)
    have L10_11 : ∀ (n10 : Nat) (i : Nat) (P1 : Nat → Int32), (2320 - i < n10) → (i ≤ 2320) → (P1 = va_cpy (M 1) (M 1) 580 0 i) → ∀ (H : Heap) (locs : List Loc), kz_P G [mdW G a (va_up M 1 P1)] H → kz_D A [mdW G a (va_up M 1 P1)] → va_S A s.heap H locs → ∀ ls : Array Slot, lv_has ls 2 [(1, .int (nI i)), (0, .ref (a 0))] → W p l e (headSpec wsX4_record (kz_rm 0 0)).room s m ([.ref (a 0)] : List Value).toArray below meth c H locs 0 0 QQ (F0 m 10 ls []) := by
      intro n10
      induction n10 with
      | zero => intro i P1 h0; exact absurd h0 (Nat.not_lt_zero _)
      | succ n10 ih10_12 =>
        intro i P1 hmeas10 hi1 hP1 H locs hP hD hS ls hl
        refine lv_iload_n hx hb dX4_record_10 rfl (lv_at hl 0 rfl) ?_
        refine lv_sipush (v := 2320) hx hb dX4_record_11 (by decide +kernel) ?_
        refine lv_icmp_ge (tgt := 39) hx hb dX4_record_14 (by decide) (fun c_13 => ?_) (fun c_13 => ?_)
        · have hge := kz_le (a := 2320) (b := i) c_13 (by omega) (by omega)
          obtain rfl : i = 2320 := by omega
          subst hP1
          have hP : kz_P G [mdW G a (va_up M 1 (va_cpy (M 1) (M 1) 580 0 2320))] H := hP
          have hD : kz_D A [mdW G a (va_up M 1 (va_cpy (M 1) (M 1) 580 0 2320))] := hD
          refine lv_aload_n hx hb dX4_record_39 rfl (lv_at hl 1 rfl) ?_
          refine lv_dup hx hb dX4_record_40 rfl ?_
          refine va_get (D := G.1) (ci := 4) (v := .int (M 2 0)) (C := RX4) (T := TX4) (N := 14) hx hb hts hinX4 hown hK.1 hP 0 rfl rfl 2 (by decide) (hts (.fieldLink RX4 36 "ParcelShelvesModel" "pastMany" "I") (by decide +kernel)) (fun _ h9 => h9) rfl dX4_record_41 ?_
          refine lv_iconst (v := 1) hx hb dX4_record_44 (by decide +kernel) ?_
          refine lv_isub hx hb dX4_record_45 ?_
          refine va_put (D := G.1) (ci := 4) (v := .int ((M 2 0) - 1)) (ty := .int) (C := RX4) (T := TX4) (N := 14) hx hb hts hinX4 tyX4 tyX4_ok nmX4 hown hK.1 hP hD hS 0 rfl rfl 2 (by decide) (hts (.fieldLink RX4 36 "ParcelShelvesModel" "pastMany" "I") (by decide +kernel)) (fun _ h9 => h9) rfl (by decide +kernel) rfl rfl (Nat.le_of_ble_eq_true rfl) dX4_record_46 (fun H locs hP hD hS => ?_)
          have hP : kz_P G [mdW G a (va_up (va_up M 1 (va_cpy (M 1) (M 1) 580 0 2320)) 2 (fun _ => ((M 2 0) - 1)))] H := hP
          have hD : kz_D A [mdW G a (va_up (va_up M 1 (va_cpy (M 1) (M 1) 580 0 2320)) 2 (fun _ => ((M 2 0) - 1)))] := hD
          refine lv_iconst (v := 0) hx hb dX4_record_49 (by decide +kernel) ?_
          refine lv_istore_n (lv' := [(1, .int 0), (0, .ref (a 0))]) hx hb dX4_record_50 rfl hl (by decide) rfl (fun ls hl => ?_)
          have L51_14 : ∀ (n51 : Nat) (i : Nat) (P1 : Nat → Int32), (580 - i < n51) → (i ≤ 580) → (P1 = va_cpy (M 0) (va_cpy (M 1) (M 1) 580 0 2320) 0 (580 * 4) i) → ∀ (H : Heap) (locs : List Loc), kz_P G [mdW G a (va_up (va_up M 2 (fun _ => ((M 2 0) - 1))) 1 P1)] H → kz_D A [mdW G a (va_up (va_up M 2 (fun _ => ((M 2 0) - 1))) 1 P1)] → va_S A s.heap H locs → ∀ ls : Array Slot, lv_has ls 2 [(1, .int (nI i)), (0, .ref (a 0))] → W p l e (headSpec wsX4_record (kz_rm 0 0)).room s m ([.ref (a 0)] : List Value).toArray below meth c H locs 0 0 QQ (F0 m 51 ls []) := by
            intro n51
            induction n51 with
            | zero => intro i P1 h0; exact absurd h0 (Nat.not_lt_zero _)
            | succ n51 ih51_15 =>
              intro i P1 hmeas51 hi1 hP1 H locs hP hD hS ls hl
              refine lv_iload_n hx hb dX4_record_51 rfl (lv_at hl 0 rfl) ?_
              refine lv_sipush (v := 580) hx hb dX4_record_52 (by decide +kernel) ?_
              refine lv_icmp_ge (tgt := 85) hx hb dX4_record_55 (by decide) (fun c_16 => ?_) (fun c_16 => ?_)
              · have hge := kz_le (a := 580) (b := i) c_16 (by omega) (by omega)
                obtain rfl : i = 580 := by omega
                refine lv_aload_n hx hb dX4_record_85 rfl (lv_at hl 1 rfl) ?_
                refine lv_dup hx hb dX4_record_86 rfl ?_
                refine va_get (D := G.1) (ci := 4) (v := .int ((M 2 0) - 1)) (C := RX4) (T := TX4) (N := 14) hx hb hts hinX4 hown hK.1 hP 0 rfl rfl 2 (by decide) (hts (.fieldLink RX4 36 "ParcelShelvesModel" "pastMany" "I") (by decide +kernel)) (fun _ h9 => h9) rfl dX4_record_87 ?_
                refine lv_iconst (v := 1) hx hb dX4_record_90 (by decide +kernel) ?_
                refine lv_iadd hx hb dX4_record_91 ?_
                refine va_put (D := G.1) (ci := 4) (v := .int (((M 2 0) - 1) + 1)) (ty := .int) (C := RX4) (T := TX4) (N := 14) hx hb hts hinX4 tyX4 tyX4_ok nmX4 hown hK.1 hP hD hS 0 rfl rfl 2 (by decide) (hts (.fieldLink RX4 36 "ParcelShelvesModel" "pastMany" "I") (by decide +kernel)) (fun _ h9 => h9) rfl (by decide +kernel) rfl rfl (Nat.le_of_ble_eq_true rfl) dX4_record_92 (fun H locs hP hD hS => ?_)
                have hP : kz_P G [mdW G a (va_up (va_up M 1 P1) 2 (fun _ => (((M 2 0) - 1) + 1)))] H := hP
                have hD : kz_D A [mdW G a (va_up (va_up M 1 P1) 2 (fun _ => (((M 2 0) - 1) + 1)))] := hD
                subst hQ
                have hP9 : kz_P G [mdW G a (va_up (va_up M 1 (X4_record_c1 (M 0) (M 1) (M 2 0))) 2 (fun _ => (X4_record_c2 (M 0) (M 1) (M 2 0))))] H := by rw [X4_record_c1, X4_record_c2, if_pos c_1, if_pos c_1, ← hP1]; exact hP
                have hD9 : kz_D A [mdW G a (va_up (va_up M 1 (X4_record_c1 (M 0) (M 1) (M 2 0))) 2 (fun _ => (X4_record_c2 (M 0) (M 1) (M 2 0))))] := by rw [X4_record_c1, X4_record_c2, if_pos c_1, if_pos c_1, ← hP1]; exact hD
                exact W.vret hx hb hr (fun t ht hW => ⟨⟨(), rfl, trivial, by rw [ht]; exact hP9, hD9⟩, hS.F ht⟩) hS.2.2 dX4_record_95
              · have hlt := kz_gt (a := 580) (b := i) c_16 (by omega) (by omega)
                refine lv_aload_n hx hb dX4_record_58 rfl (lv_at hl 1 rfl) ?_
                refine va_get (D := G.1) (ci := 4) (v := .ref (a 2)) (C := RX4) (T := TX4) (N := 14) hx hb hts hinX4 hown hK.1 hP 0 rfl rfl 1 (by decide) (hts (.fieldLink RX4 13 "ParcelShelvesModel" "past" "[I") (by decide +kernel)) (fun _ h9 => h9) rfl dX4_record_59 ?_
                refine lv_aload_n hx hb dX4_record_62 rfl (lv_at hl 1 rfl) ?_
                refine va_get (D := G.1) (ci := 4) (v := .int ((M 2 0) - 1)) (C := RX4) (T := TX4) (N := 14) hx hb hts hinX4 hown hK.1 hP 0 rfl rfl 2 (by decide) (hts (.fieldLink RX4 36 "ParcelShelvesModel" "pastMany" "I") (by decide +kernel)) (fun _ h9 => h9) rfl dX4_record_63 ?_
                refine lv_sipush (v := 580) hx hb dX4_record_66 (by decide +kernel) ?_
                refine lv_imul hx hb dX4_record_69 ?_
                refine lv_topi (fun y_17 ey_18 => ?_)
                obtain rfl : y_17 = (nI (580 * 4)) := by rw [ey_18]; rw [c_1]; decide
                refine lv_iload_n hx hb dX4_record_70 rfl (lv_at hl 0 rfl) ?_
                refine lv_iadd hx hb dX4_record_71 ?_
                refine lv_topi (fun y_19 ey_20 => ?_)
                obtain rfl : y_19 = (nI (580 * 4 + i)) := by rw [ey_20]; exact nI_add _ _
                refine lv_aload_n hx hb dX4_record_72 rfl (lv_at hl 1 rfl) ?_
                refine va_get (D := G.1) (ci := 4) (v := .ref (a 1)) (C := RX4) (T := TX4) (N := 14) hx hb hts hinX4 hown hK.1 hP 0 rfl rfl 0 (by decide) (hts (.fieldLink RX4 7 "ParcelShelvesModel" "z" "[I") (by decide +kernel)) (fun _ h9 => h9) rfl dX4_record_73 ?_
                refine lv_iload_n hx hb dX4_record_76 rfl (lv_at hl 0 rfl) ?_
                refine va_iald (f := (M 0)) hx hb hK.1 hP 1 0 rfl rfl (vp_in_nI (n := i) (N := 580) (by omega) (by decide)) dX4_record_77 ?_
                refine lv_topi (fun y_21 ey_22 => ?_)
                obtain rfl : y_21 = ((M 0) i) := by rw [ey_22, kz_nI_clamp (n := i) (by omega)]
                refine va_iast hx hb hK.1 hP hD hS 2 0 rfl rfl (vp_in_nI (n := (580 * 4 + i)) (N := 2900) (by omega) (by decide)) dX4_record_78 (fun H locs hP hD hS => ?_)
                rw [kz_nI_clamp (n := (580 * 4 + i)) (by omega)] at hP hD
                have hP : kz_P G [mdW G a (va_up (va_up M 2 (fun _ => ((M 2 0) - 1))) 1 (upd P1 (580 * 4 + i) ((M 0) i)))] H := hP
                have hD : kz_D A [mdW G a (va_up (va_up M 2 (fun _ => ((M 2 0) - 1))) 1 (upd P1 (580 * 4 + i) ((M 0) i)))] := hD
                refine lv_iinc (v := (nI (i + 1))) (lv' := [(1, .int (nI (i + 1))), (0, .ref (a 0))]) hx hb dX4_record_79 hl (k := 0) rfl (nI_1 _) (by decide) rfl (fun ls hl => ?_)
                refine lv_goto (tgt := 51) hx hb dX4_record_82 (by decide) ?_
                exact ih51_15 (i + 1) (upd P1 (580 * 4 + i) ((M 0) i)) (by omega) (by omega) (kz_cp1 (by omega) (by omega) hP1) H locs hP hD hS ls (lv_sub hl [0, 1] rfl)
          exact L51_14 _ 0 (va_cpy (M 1) (M 1) 580 0 2320) (Nat.lt_succ_self _) (by omega) kz_cp0 H locs hP hD hS ls (lv_sub hl [0, 1] rfl)
        · have hlt := kz_gt (a := 2320) (b := i) c_13 (by omega) (by omega)
          refine lv_aload_n hx hb dX4_record_17 rfl (lv_at hl 1 rfl) ?_
          refine va_get (D := G.1) (ci := 4) (v := .ref (a 2)) (C := RX4) (T := TX4) (N := 14) hx hb hts hinX4 hown hK.1 hP 0 rfl rfl 1 (by decide) (hts (.fieldLink RX4 13 "ParcelShelvesModel" "past" "[I") (by decide +kernel)) (fun _ h9 => h9) rfl dX4_record_18 ?_
          refine lv_iload_n hx hb dX4_record_21 rfl (lv_at hl 0 rfl) ?_
          refine lv_aload_n hx hb dX4_record_22 rfl (lv_at hl 1 rfl) ?_
          refine va_get (D := G.1) (ci := 4) (v := .ref (a 2)) (C := RX4) (T := TX4) (N := 14) hx hb hts hinX4 hown hK.1 hP 0 rfl rfl 1 (by decide) (hts (.fieldLink RX4 13 "ParcelShelvesModel" "past" "[I") (by decide +kernel)) (fun _ h9 => h9) rfl dX4_record_23 ?_
          refine lv_iload_n hx hb dX4_record_26 rfl (lv_at hl 0 rfl) ?_
          refine lv_sipush (v := 580) hx hb dX4_record_27 (by decide +kernel) ?_
          refine lv_iadd hx hb dX4_record_30 ?_
          refine lv_topi (fun y_23 ey_24 => ?_)
          obtain rfl : y_23 = (nI (i + 580)) := by rw [ey_24]; exact nI_add _ 580
          refine va_iald (f := P1) hx hb hK.1 hP 2 0 rfl rfl (vp_in_nI (n := (i + 580)) (N := 2900) (by omega) (by decide)) dX4_record_31 ?_
          refine lv_topi (fun y_25 ey_26 => ?_)
          obtain rfl : y_25 = (P1 (i + 580)) := by rw [ey_26, kz_nI_clamp (n := (i + 580)) (by omega)]
          refine va_iast hx hb hK.1 hP hD hS 2 0 rfl rfl (vp_in_nI (n := i) (N := 2900) (by omega) (by decide)) dX4_record_32 (fun H locs hP hD hS => ?_)
          rw [kz_nI_clamp (n := i) (by omega)] at hP hD
          have hP : kz_P G [mdW G a (va_up M 1 (upd P1 i (P1 (i + 580))))] H := hP
          have hD : kz_D A [mdW G a (va_up M 1 (upd P1 i (P1 (i + 580))))] := hD
          refine lv_iinc (v := (nI (i + 1))) (lv' := [(1, .int (nI (i + 1))), (0, .ref (a 0))]) hx hb dX4_record_33 hl (k := 0) rfl (nI_1 _) (by decide) rfl (fun ls hl => ?_)
          refine lv_goto (tgt := 10) hx hb dX4_record_36 (by decide) ?_
          exact ih10_12 (i + 1) (upd P1 i (P1 (i + 580))) (by omega) (by omega) (kz_cpS hP1) H locs hP hD hS ls (lv_sub hl [0, 1] rfl)
    exact L10_11 _ 0 (M 1) (Nat.lt_succ_self _) (by omega) kz_cp0 s.heap [] hP hD hS ls (lv_sub hl [0, 1] rfl)
def X4_undo_r (z0 z1 : Nat → Int32) (z2 : Int32) : Int32 := if z2 = 0 then (-3) else z2 - 1
def X4_undo_c0 (z0 z1 : Nat → Int32) (z2 : Int32) : Nat → Int32 := if z2 = 0 then z0 else va_cpy z1 z0 (580 * (z2 - 1).toNatClampNeg) 0 580
def X4_undo_c2 (z0 z1 : Nat → Int32) (z2 : Int32) : Int32 := if z2 = 0 then z2 else z2 - 1
set_option maxHeartbeats 4000000 in
set_option maxRecDepth 100000 in
theorem c_X4_undo (l : Launch) (G : kz_G) (a : Nat → Nat) (M : kz_S) (hpm : ∃ n, n ≤ 5 ∧ M 2 0 = nI n) : kz_mi l G yX4_undo wsX4_undo 0 0 [.ref (a 0)] [mdW G a M] [mdW G a (va_up (va_up M 0 (X4_undo_c0 (M 0) (M 1) (M 2 0))) 2 (fun _ => (X4_undo_c2 (M 0) (M 1) (M 2 0))))] (X4_undo_r (M 0) (M 1) (M 2 0)) := by
  intro sz
  refine Met.ofW (cc := cX4_undo) (maxL := 2) (ret := (some .int)) (by decide) rfl ?_
  intro p e s m args below meth c s₁ B hml hv
  obtain ⟨rfl, hsz, hP, hK, hD0⟩ := hv
  have hx := B.exec
  have hb := B.bytes
  have hr := B.returns
  have hts := atoms_spec (ws := wsX4_undo) B.pre
  have hown : s.vm.findClass RX4 = some m.cls := findClass_of_methodNamed B.named
  have hlocks := B.notSynchronized
  have hinX4 : ∀ w ∈ u_ws RX4 TX4 14, w ∈ wsX4_undo := by decide +kernel
  subst hsz
  have hD := hD0.self (sz := s.heap.size)
  generalize hAe : kz_A [mdW G a M] s.heap.size = A at hD ⊢
  have hA : ∀ q : Nat, s.heap.size ≤ q → A q := fun q h => by rw [← hAe]; exact Or.inr h
  have hS : va_S A s.heap s.heap [] := va_S.rf
  have hl := lv_entry ([.ref (a 0)]) (n := 2) (Nat.le_of_ble_eq_true rfl)
  rw [lg_entry_eq]
  generalize (lg_sl ([.ref (a 0)]) ++ List.replicate (2 - (lg_sl ([.ref (a 0)])).length) Slot.unset).toArray = ls at hl ⊢
  have hl : lv_has ls 2 [(0, .ref (a 0))] := hl
  refine kz_start (fun QQ hQ => ?_)
  have hP : kz_P G [mdW G a M] s.heap := hP
  obtain ⟨pm, hp5, hpe⟩ := id hpm
  refine lv_aload_n hx hb dX4_undo_0 rfl (lv_at hl 0 rfl) ?_
  refine va_get (D := G.1) (ci := 4) (v := .int (M 2 0)) (C := RX4) (T := TX4) (N := 14) hx hb hts hinX4 hown hK.1 hP 0 rfl rfl 2 (by decide) (hts (.fieldLink RX4 36 "ParcelShelvesModel" "pastMany" "I") (by decide +kernel)) (fun _ h9 => h9) rfl dX4_undo_1 ?_
  refine lv_if_ne (tgt := 10) hx hb dX4_undo_4 (by decide) (fun c_1 => ?_) (fun c_1 => ?_)
  · obtain ⟨pn, rfl⟩ : ∃ k, pm = k + 1 := ⟨pm - 1, by have h9 : ¬ pm = 0 := (fun h => c_1 (by rw [hpe, h]; rfl)); omega⟩
    have hpp : M 2 0 - 1 = nI pn := by rw [hpe]; exact nI_pred pn
    have hpn : (M 2 0 - 1).toNatClampNeg = pn := by rw [hpp]; exact nI_clamp (by omega)
    refine lv_aload_n hx hb dX4_undo_10 rfl (lv_at hl 0 rfl) ?_
    refine lv_dup hx hb dX4_undo_11 rfl ?_
    refine va_get (D := G.1) (ci := 4) (v := .int (M 2 0)) (C := RX4) (T := TX4) (N := 14) hx hb hts hinX4 hown hK.1 hP 0 rfl rfl 2 (by decide) (hts (.fieldLink RX4 36 "ParcelShelvesModel" "pastMany" "I") (by decide +kernel)) (fun _ h9 => h9) rfl dX4_undo_12 ?_
    refine lv_iconst (v := 1) hx hb dX4_undo_15 (by decide +kernel) ?_
    refine lv_isub hx hb dX4_undo_16 ?_
    refine va_put (D := G.1) (ci := 4) (v := .int ((M 2 0) - 1)) (ty := .int) (C := RX4) (T := TX4) (N := 14) hx hb hts hinX4 tyX4 tyX4_ok nmX4 hown hK.1 hP hD hS 0 rfl rfl 2 (by decide) (hts (.fieldLink RX4 36 "ParcelShelvesModel" "pastMany" "I") (by decide +kernel)) (fun _ h9 => h9) rfl (by decide +kernel) rfl rfl (Nat.le_of_ble_eq_true rfl) dX4_undo_17 (fun H locs hP hD hS => ?_)
    have hP : kz_P G [mdW G a (va_up M 2 (fun _ => ((M 2 0) - 1)))] H := hP
    have hD : kz_D A [mdW G a (va_up M 2 (fun _ => ((M 2 0) - 1)))] := hD
    refine lv_iconst (v := 0) hx hb dX4_undo_20 (by decide +kernel) ?_
    refine lv_istore_n (lv' := [(1, .int 0), (0, .ref (a 0))]) hx hb dX4_undo_21 rfl hl (by decide) rfl (fun ls hl => ?_)
    have L22_2 : ∀ (n22 : Nat) (i : Nat) (P1 : Nat → Int32), (580 - i < n22) → (i ≤ 580) → (P1 = va_cpy (M 1) (M 0) (580 * (M 2 0 - 1).toNatClampNeg) 0 i) → ∀ (H : Heap) (locs : List Loc), kz_P G [mdW G a (va_up (va_up M 2 (fun _ => ((M 2 0) - 1))) 0 P1)] H → kz_D A [mdW G a (va_up (va_up M 2 (fun _ => ((M 2 0) - 1))) 0 P1)] → va_S A s.heap H locs → ∀ ls : Array Slot, lv_has ls 2 [(1, .int (nI i)), (0, .ref (a 0))] → W p l e (headSpec wsX4_undo (kz_rm 0 0)).room s m ([.ref (a 0)] : List Value).toArray below meth c H locs 0 0 QQ (F0 m 22 ls []) := by
      intro n22
      induction n22 with
      | zero => intro i P1 h0; exact absurd h0 (Nat.not_lt_zero _)
      | succ n22 ih22_3 =>
        intro i P1 hmeas22 hi1 hP1 H locs hP hD hS ls hl
        refine lv_iload_n hx hb dX4_undo_22 rfl (lv_at hl 0 rfl) ?_
        refine lv_sipush (v := 580) hx hb dX4_undo_23 (by decide +kernel) ?_
        refine lv_icmp_ge (tgt := 56) hx hb dX4_undo_26 (by decide) (fun c_4 => ?_) (fun c_4 => ?_)
        · have hge := kz_le (a := 580) (b := i) c_4 (by omega) (by omega)
          obtain rfl : i = 580 := by omega
          refine lv_aload_n hx hb dX4_undo_56 rfl (lv_at hl 1 rfl) ?_
          refine va_get (D := G.1) (ci := 4) (v := .int ((M 2 0) - 1)) (C := RX4) (T := TX4) (N := 14) hx hb hts hinX4 hown hK.1 hP 0 rfl rfl 2 (by decide) (hts (.fieldLink RX4 36 "ParcelShelvesModel" "pastMany" "I") (by decide +kernel)) (fun _ h9 => h9) rfl dX4_undo_57 ?_
          subst hQ
          have hP9 : kz_P G [mdW G a (va_up (va_up M 0 (X4_undo_c0 (M 0) (M 1) (M 2 0))) 2 (fun _ => (X4_undo_c2 (M 0) (M 1) (M 2 0))))] H := by rw [X4_undo_c0, X4_undo_c2, if_neg c_1, if_neg c_1, ← hP1]; exact hP
          have hD9 : kz_D A [mdW G a (va_up (va_up M 0 (X4_undo_c0 (M 0) (M 1) (M 2 0))) 2 (fun _ => (X4_undo_c2 (M 0) (M 1) (M 2 0))))] := by rw [X4_undo_c0, X4_undo_c2, if_neg c_1, if_neg c_1, ← hP1]; exact hD
          exact W.iret (v := ((M 2 0) - 1)) hx hb hr (fun t ht hW => ⟨⟨((M 2 0) - 1), (), rfl, (by rw [X4_undo_r, if_neg c_1]), by rw [ht]; exact hP9, hD9⟩, hS.F ht⟩) hS.2.2 dX4_undo_60
        · have hlt := kz_gt (a := 580) (b := i) c_4 (by omega) (by omega)
          refine lv_aload_n hx hb dX4_undo_29 rfl (lv_at hl 1 rfl) ?_
          refine va_get (D := G.1) (ci := 4) (v := .ref (a 1)) (C := RX4) (T := TX4) (N := 14) hx hb hts hinX4 hown hK.1 hP 0 rfl rfl 0 (by decide) (hts (.fieldLink RX4 7 "ParcelShelvesModel" "z" "[I") (by decide +kernel)) (fun _ h9 => h9) rfl dX4_undo_30 ?_
          refine lv_iload_n hx hb dX4_undo_33 rfl (lv_at hl 0 rfl) ?_
          refine lv_aload_n hx hb dX4_undo_34 rfl (lv_at hl 1 rfl) ?_
          refine va_get (D := G.1) (ci := 4) (v := .ref (a 2)) (C := RX4) (T := TX4) (N := 14) hx hb hts hinX4 hown hK.1 hP 0 rfl rfl 1 (by decide) (hts (.fieldLink RX4 13 "ParcelShelvesModel" "past" "[I") (by decide +kernel)) (fun _ h9 => h9) rfl dX4_undo_35 ?_
          refine lv_aload_n hx hb dX4_undo_38 rfl (lv_at hl 1 rfl) ?_
          refine va_get (D := G.1) (ci := 4) (v := .int ((M 2 0) - 1)) (C := RX4) (T := TX4) (N := 14) hx hb hts hinX4 hown hK.1 hP 0 rfl rfl 2 (by decide) (hts (.fieldLink RX4 36 "ParcelShelvesModel" "pastMany" "I") (by decide +kernel)) (fun _ h9 => h9) rfl dX4_undo_39 ?_
          refine lv_sipush (v := 580) hx hb dX4_undo_42 (by decide +kernel) ?_
          refine lv_imul hx hb dX4_undo_45 ?_
          refine lv_topi (fun y_5 ey_6 => ?_)
          obtain rfl : y_5 = (nI (580 * (M 2 0 - 1).toNatClampNeg)) := by rw [ey_6]; rw [hpp, nI_clamp (by omega), Nat.mul_comm]; exact pk_mul pn 580
          refine lv_iload_n hx hb dX4_undo_46 rfl (lv_at hl 0 rfl) ?_
          refine lv_iadd hx hb dX4_undo_47 ?_
          refine lv_topi (fun y_7 ey_8 => ?_)
          obtain rfl : y_7 = (nI (580 * (M 2 0 - 1).toNatClampNeg + i)) := by rw [ey_8]; exact nI_add _ _
          refine va_iald (f := (M 1)) hx hb hK.1 hP 2 0 rfl rfl (vp_in_nI (n := (580 * (M 2 0 - 1).toNatClampNeg + i)) (N := 2900) (by omega) (by decide)) dX4_undo_48 ?_
          refine lv_topi (fun y_9 ey_10 => ?_)
          obtain rfl : y_9 = ((M 1) (580 * (M 2 0 - 1).toNatClampNeg + i)) := by rw [ey_10, kz_nI_clamp (n := (580 * (M 2 0 - 1).toNatClampNeg + i)) (by omega)]
          refine va_iast hx hb hK.1 hP hD hS 1 0 rfl rfl (vp_in_nI (n := i) (N := 580) (by omega) (by decide)) dX4_undo_49 (fun H locs hP hD hS => ?_)
          rw [kz_nI_clamp (n := i) (by omega)] at hP hD
          have hP : kz_P G [mdW G a (va_up (va_up M 2 (fun _ => ((M 2 0) - 1))) 0 (upd P1 i ((M 1) (580 * (M 2 0 - 1).toNatClampNeg + i))))] H := hP
          have hD : kz_D A [mdW G a (va_up (va_up M 2 (fun _ => ((M 2 0) - 1))) 0 (upd P1 i ((M 1) (580 * (M 2 0 - 1).toNatClampNeg + i))))] := hD
          refine lv_iinc (v := (nI (i + 1))) (lv' := [(1, .int (nI (i + 1))), (0, .ref (a 0))]) hx hb dX4_undo_50 hl (k := 0) rfl (nI_1 _) (by decide) rfl (fun ls hl => ?_)
          refine lv_goto (tgt := 22) hx hb dX4_undo_53 (by decide) ?_
          exact ih22_3 (i + 1) (upd P1 i ((M 1) (580 * (M 2 0 - 1).toNatClampNeg + i))) (by omega) (by omega) (kz_cp1 (by omega) (by omega) hP1) H locs hP hD hS ls (lv_sub hl [0, 1] rfl)
    exact L22_2 _ 0 (M 0) (Nat.lt_succ_self _) (by omega) kz_cp0 H locs hP hD hS ls (lv_sub hl [0, 1] rfl)
  · refine lv_bipush (v := (-3)) hx hb dX4_undo_7 (by decide +kernel) ?_
    subst hQ
    have hP9 : kz_P G [mdW G a (va_up (va_up M 0 (X4_undo_c0 (M 0) (M 1) (M 2 0))) 2 (fun _ => (X4_undo_c2 (M 0) (M 1) (M 2 0))))] s.heap := by rw [X4_undo_c0, X4_undo_c2, if_pos c_1, if_pos c_1]; exact hP
    have hD9 : kz_D A [mdW G a (va_up (va_up M 0 (X4_undo_c0 (M 0) (M 1) (M 2 0))) 2 (fun _ => (X4_undo_c2 (M 0) (M 1) (M 2 0))))] := by rw [X4_undo_c0, X4_undo_c2, if_pos c_1, if_pos c_1]; exact hD
    exact W.iret (v := (-3)) hx hb hr (fun t ht hW => ⟨⟨(-3), (), rfl, (by rw [X4_undo_r, if_pos c_1]), by rw [ht]; exact hP9, hD9⟩, hS.F ht⟩) hS.2.2 dX4_undo_9
def X4_parcels_r (z0 : Nat → Int32) : Int32 := kz_cn (X4_isTaken_p z0) 48
set_option maxHeartbeats 4000000 in
set_option maxRecDepth 100000 in
theorem c_X4_parcels (l : Launch) (G : kz_G) (a : Nat → Nat) (M : kz_S) : kz_rd l G yX4_parcels wsX4_parcels 2 43 [.ref (a 0)] [mdW G a M] (X4_parcels_r (M 0)) := by
  refine Met.ofW (cc := cX4_parcels) (maxL := 3) (ret := (some .int)) (by decide) rfl ?_
  intro p e s m args below meth c s₁ B hml hv
  obtain ⟨rfl, hP, hK⟩ := hv
  have hx := B.exec
  have hb := B.bytes
  have hr := B.returns
  have hts := atoms_spec (ws := wsX4_parcels) B.pre
  have hown : s.vm.findClass RX4 = some m.cls := findClass_of_methodNamed B.named
  have hlocks := B.notSynchronized
  have hl := lv_entry ([.ref (a 0)]) (n := 3) (Nat.le_of_ble_eq_true rfl)
  rw [lg_entry_eq]
  generalize (lg_sl ([.ref (a 0)]) ++ List.replicate (3 - (lg_sl ([.ref (a 0)])).length) Slot.unset).toArray = ls at hl ⊢
  have hl : lv_has ls 3 [(0, .ref (a 0))] := hl
  refine kz_start (fun QQ hQ => ?_)
  refine lv_iconst (v := 0) hx hb dX4_parcels_0 (by decide +kernel) ?_
  refine lv_istore_n (lv' := [(1, .int 0), (0, .ref (a 0))]) hx hb dX4_parcels_1 rfl hl (by decide) rfl (fun ls hl => ?_)
  refine lv_iconst (v := 0) hx hb dX4_parcels_2 (by decide +kernel) ?_
  refine lv_istore_n (lv' := [(2, .int 0), (1, .int 0), (0, .ref (a 0))]) hx hb dX4_parcels_3 rfl hl (by decide) rfl (fun ls hl => ?_)
  have L4_1 : ∀ (n4 : Nat) (i : Nat) (x : Int32), (48 - i < n4) → (i ≤ 48) → (x = kz_cn (X4_isTaken_p (M 0)) i) → ∀ ls : Array Slot, lv_has ls 3 [(2, .int (nI i)), (1, .int x), (0, .ref (a 0))] → W p l e (headSpec wsX4_parcels (kz_rm 2 43)).room s m ([.ref (a 0)] : List Value).toArray below meth c s.heap [] 0 0 QQ (F0 m 4 ls []) := by
    intro n4
    induction n4 with
    | zero => intro i x h0; exact absurd h0 (Nat.not_lt_zero _)
    | succ n4 ih4_2 =>
      intro i x hmeas4 hi1 hx0 ls hl
      refine lv_iload_n hx hb dX4_parcels_4 rfl (lv_at hl 0 rfl) ?_
      refine lv_bipush (v := 48) hx hb dX4_parcels_5 (by decide +kernel) ?_
      refine lv_icmp_ge (tgt := 32) hx hb dX4_parcels_7 (by decide) (fun c_3 => ?_) (fun c_3 => ?_)
      · have hge := kz_le (a := 48) (b := i) c_3 (by omega) (by omega)
        refine lv_iload_n hx hb dX4_parcels_32 rfl (lv_at hl 1 rfl) ?_
        subst hQ
        exact W.iret (v := x) hx hb hr (fun t ht _ => ⟨x, rfl, (by obtain rfl : i = 48 := (by omega); exact hx0), ht⟩) (fun _ h9 => absurd h9 List.not_mem_nil) dX4_parcels_33
      · have hlt := kz_gt (a := 48) (b := i) c_3 (by omega) (by omega)
        refine lv_iload_n hx hb dX4_parcels_10 rfl (lv_at hl 1 rfl) ?_
        refine lv_aload_n hx hb dX4_parcels_11 rfl (lv_at hl 2 rfl) ?_
        refine lv_iload_n hx hb dX4_parcels_12 rfl (lv_at hl 0 rfl) ?_
        refine kz_rdV (As := [.int (nI i)]) (rest := [.int x]) (b := a 0) ⟨hx, hb, hml, hown, hts⟩ (c_X4_isTaken l G a M i (by omega)) (cwV 1 hts gX4_parcels_X4_isTaken rfl rfl rfl (by decide +kernel) ⟨Nat.le_of_ble_eq_true rfl, Nat.le_of_ble_eq_true rfl⟩) hK hP (kz_recv hK hP (ci := 4) (q0 := 0) rfl rfl) rfl hl.1 rfl (Nat.le_of_ble_eq_true rfl) dX4_parcels_13 ⟨Nat.le_of_ble_eq_true rfl, Nat.le_of_ble_eq_true rfl⟩ ?_
        refine lv_topi (fun y_4 ey_5 => ?_)
        by_cases c_6 : X4_isTaken_p (M 0) i
        · rw [if_pos c_6] at ey_5
          subst ey_5
          refine lv_if_eq (tgt := 23) hx hb dX4_parcels_16 (by decide) (fun c => absurd c (by decide)) (fun _ => ?_)
          refine lv_iconst (v := 1) hx hb dX4_parcels_19 (by decide +kernel) ?_
          refine lv_goto (tgt := 24) hx hb dX4_parcels_20 (by decide) ?_
          refine lv_iadd hx hb dX4_parcels_24 ?_
          refine lv_istore_n (lv' := [(1, .int (x + 1)), (2, .int (nI i)), (0, .ref (a 0))]) hx hb dX4_parcels_25 rfl hl (by decide) rfl (fun ls hl => ?_)
          refine lv_iinc (v := (nI (i + 1))) (lv' := [(2, .int (nI (i + 1))), (1, .int (x + 1)), (0, .ref (a 0))]) hx hb dX4_parcels_26 hl (k := 1) rfl (nI_1 _) (by decide) rfl (fun ls hl => ?_)
          refine lv_goto (tgt := 4) hx hb dX4_parcels_29 (by decide) ?_
          exact ih4_2 (i + 1) (x + 1) (by omega) (by omega) (by rw [hx0]; exact kz_cn_t (P := X4_isTaken_p (M 0)) c_6) ls (lv_sub hl [0, 1, 2] rfl)
        · rw [if_neg c_6] at ey_5
          subst ey_5
          refine lv_if_eq (tgt := 23) hx hb dX4_parcels_16 (by decide) (fun _ => ?_) (fun c => absurd c (by decide))
          refine lv_iconst (v := 0) hx hb dX4_parcels_23 (by decide +kernel) ?_
          refine lv_iadd hx hb dX4_parcels_24 ?_
          refine lv_istore_n (lv' := [(1, .int (x + 0)), (2, .int (nI i)), (0, .ref (a 0))]) hx hb dX4_parcels_25 rfl hl (by decide) rfl (fun ls hl => ?_)
          refine lv_iinc (v := (nI (i + 1))) (lv' := [(2, .int (nI (i + 1))), (1, .int (x + 0)), (0, .ref (a 0))]) hx hb dX4_parcels_26 hl (k := 1) rfl (nI_1 _) (by decide) rfl (fun ls hl => ?_)
          refine lv_goto (tgt := 4) hx hb dX4_parcels_29 (by decide) ?_
          exact ih4_2 (i + 1) (x + 0) (by omega) (by omega) (by rw [hx0]; exact (Int32.add_zero _).trans (kz_cn_f (P := X4_isTaken_p (M 0)) c_6)) ls (lv_sub hl [0, 1, 2] rfl)
  exact L4_1 _ 0 0 (Nat.lt_succ_self _) (by omega) rfl ls (lv_sub hl [0, 1, 2] rfl)
def X4_inBins_r (z0 : Nat → Int32) : Int32 := kz_sm (fun k => z0 (540 + 4 * k + 0)) 10
set_option maxHeartbeats 4000000 in
set_option maxRecDepth 100000 in
theorem c_X4_inBins (l : Launch) (G : kz_G) (a : Nat → Nat) (M : kz_S) : kz_rd l G yX4_inBins wsX4_inBins 1 22 [.ref (a 0)] [mdW G a M] (X4_inBins_r (M 0)) := by
  refine Met.ofW (cc := cX4_inBins) (maxL := 3) (ret := (some .int)) (by decide) rfl ?_
  intro p e s m args below meth c s₁ B hml hv
  obtain ⟨rfl, hP, hK⟩ := hv
  have hx := B.exec
  have hb := B.bytes
  have hr := B.returns
  have hts := atoms_spec (ws := wsX4_inBins) B.pre
  have hown : s.vm.findClass RX4 = some m.cls := findClass_of_methodNamed B.named
  have hlocks := B.notSynchronized
  have hl := lv_entry ([.ref (a 0)]) (n := 3) (Nat.le_of_ble_eq_true rfl)
  rw [lg_entry_eq]
  generalize (lg_sl ([.ref (a 0)]) ++ List.replicate (3 - (lg_sl ([.ref (a 0)])).length) Slot.unset).toArray = ls at hl ⊢
  have hl : lv_has ls 3 [(0, .ref (a 0))] := hl
  refine kz_start (fun QQ hQ => ?_)
  refine lv_iconst (v := 0) hx hb dX4_inBins_0 (by decide +kernel) ?_
  refine lv_istore_n (lv' := [(1, .int 0), (0, .ref (a 0))]) hx hb dX4_inBins_1 rfl hl (by decide) rfl (fun ls hl => ?_)
  refine lv_iconst (v := 0) hx hb dX4_inBins_2 (by decide +kernel) ?_
  refine lv_istore_n (lv' := [(2, .int 0), (1, .int 0), (0, .ref (a 0))]) hx hb dX4_inBins_3 rfl hl (by decide) rfl (fun ls hl => ?_)
  have L4_1 : ∀ (n4 : Nat) (i : Nat) (x : Int32), (10 - i < n4) → (i ≤ 10) → (x = kz_sm (fun k => M 0 (540 + 4 * k + 0)) i) → ∀ ls : Array Slot, lv_has ls 3 [(2, .int (nI i)), (1, .int x), (0, .ref (a 0))] → W p l e (headSpec wsX4_inBins (kz_rm 1 22)).room s m ([.ref (a 0)] : List Value).toArray below meth c s.heap [] 0 0 QQ (F0 m 4 ls []) := by
    intro n4
    induction n4 with
    | zero => intro i x h0; exact absurd h0 (Nat.not_lt_zero _)
    | succ n4 ih4_2 =>
      intro i x hmeas4 hi1 hx0 ls hl
      refine lv_iload_n hx hb dX4_inBins_4 rfl (lv_at hl 0 rfl) ?_
      refine lv_bipush (v := 10) hx hb dX4_inBins_5 (by decide +kernel) ?_
      refine lv_icmp_ge (tgt := 25) hx hb dX4_inBins_7 (by decide) (fun c_3 => ?_) (fun c_3 => ?_)
      · have hge := kz_le (a := 10) (b := i) c_3 (by omega) (by omega)
        refine lv_iload_n hx hb dX4_inBins_25 rfl (lv_at hl 1 rfl) ?_
        subst hQ
        exact W.iret (v := x) hx hb hr (fun t ht _ => ⟨x, rfl, (by obtain rfl : i = 10 := (by omega); exact hx0), ht⟩) (fun _ h9 => absurd h9 List.not_mem_nil) dX4_inBins_26
      · have hlt := kz_gt (a := 10) (b := i) c_3 (by omega) (by omega)
        refine lv_iload_n hx hb dX4_inBins_10 rfl (lv_at hl 1 rfl) ?_
        refine lv_aload_n hx hb dX4_inBins_11 rfl (lv_at hl 2 rfl) ?_
        refine lv_iload_n hx hb dX4_inBins_12 rfl (lv_at hl 0 rfl) ?_
        refine lv_iconst (v := 0) hx hb dX4_inBins_13 (by decide +kernel) ?_
        refine kz_rdV (As := [.int (nI i), .int 0]) (rest := [.int x]) (b := a 0) ⟨hx, hb, hml, hown, hts⟩ (c_X4_ofSender l G a M i 0 (by omega)) (cwV 2 hts gX4_inBins_X4_ofSender rfl rfl rfl (by decide +kernel) ⟨Nat.le_of_ble_eq_true rfl, Nat.le_of_ble_eq_true rfl⟩) hK hP (kz_recv hK hP (ci := 4) (q0 := 0) rfl rfl) rfl hl.1 rfl (Nat.le_of_ble_eq_true rfl) dX4_inBins_14 ⟨Nat.le_of_ble_eq_true rfl, Nat.le_of_ble_eq_true rfl⟩ ?_
        refine lv_iadd hx hb dX4_inBins_17 ?_
        refine lv_istore_n (lv' := [(1, .int (x + ((M 0) (540 + 4 * i + 0)))), (2, .int (nI i)), (0, .ref (a 0))]) hx hb dX4_inBins_18 rfl hl (by decide) rfl (fun ls hl => ?_)
        refine lv_iinc (v := (nI (i + 1))) (lv' := [(2, .int (nI (i + 1))), (1, .int (x + ((M 0) (540 + 4 * i + 0)))), (0, .ref (a 0))]) hx hb dX4_inBins_19 hl (k := 1) rfl (nI_1 _) (by decide) rfl (fun ls hl => ?_)
        refine lv_goto (tgt := 4) hx hb dX4_inBins_22 (by decide) ?_
        exact ih4_2 (i + 1) (x + ((M 0) (540 + 4 * i + 0))) (by omega) (by omega) (by rw [hx0]; exact rfl) ls (lv_sub hl [0, 1, 2] rfl)
  exact L4_1 _ 0 0 (Nat.lt_succ_self _) (by omega) rfl ls (lv_sub hl [0, 1, 2] rfl)
def X4_fees_r (z0 : Nat → Int32) : Int32 := kz_sp (X4_isTaken_p z0) (fun j => X4_feeOn_r z0 j (z0 5)) 48
set_option maxHeartbeats 4000000 in
set_option maxRecDepth 100000 in
theorem c_X4_fees (l : Launch) (G : kz_G) (a : Nat → Nat) (M : kz_S) : kz_rd l G yX4_fees wsX4_fees 2 45 [.ref (a 0)] [mdW G a M] (X4_fees_r (M 0)) := by
  refine Met.ofW (cc := cX4_fees) (maxL := 3) (ret := (some .int)) (by decide) rfl ?_
  intro p e s m args below meth c s₁ B hml hv
  obtain ⟨rfl, hP, hK⟩ := hv
  have hx := B.exec
  have hb := B.bytes
  have hr := B.returns
  have hts := atoms_spec (ws := wsX4_fees) B.pre
  have hown : s.vm.findClass RX4 = some m.cls := findClass_of_methodNamed B.named
  have hlocks := B.notSynchronized
  have hinX4 : ∀ w ∈ u_ws RX4 TX4 14, w ∈ wsX4_fees := by decide +kernel
  have hl := lv_entry ([.ref (a 0)]) (n := 3) (Nat.le_of_ble_eq_true rfl)
  rw [lg_entry_eq]
  generalize (lg_sl ([.ref (a 0)]) ++ List.replicate (3 - (lg_sl ([.ref (a 0)])).length) Slot.unset).toArray = ls at hl ⊢
  have hl : lv_has ls 3 [(0, .ref (a 0))] := hl
  refine kz_start (fun QQ hQ => ?_)
  refine lv_iconst (v := 0) hx hb dX4_fees_0 (by decide +kernel) ?_
  refine lv_istore_n (lv' := [(1, .int 0), (0, .ref (a 0))]) hx hb dX4_fees_1 rfl hl (by decide) rfl (fun ls hl => ?_)
  refine lv_iconst (v := 0) hx hb dX4_fees_2 (by decide +kernel) ?_
  refine lv_istore_n (lv' := [(2, .int 0), (1, .int 0), (0, .ref (a 0))]) hx hb dX4_fees_3 rfl hl (by decide) rfl (fun ls hl => ?_)
  have L4_1 : ∀ (n4 : Nat) (i : Nat) (x : Int32), (48 - i < n4) → (i ≤ 48) → (x = kz_sp (X4_isTaken_p (M 0)) (fun j => X4_feeOn_r (M 0) j (M 0 5)) i) → ∀ ls : Array Slot, lv_has ls 3 [(2, .int (nI i)), (1, .int x), (0, .ref (a 0))] → W p l e (headSpec wsX4_fees (kz_rm 2 45)).room s m ([.ref (a 0)] : List Value).toArray below meth c s.heap [] 0 0 QQ (F0 m 4 ls []) := by
    intro n4
    induction n4 with
    | zero => intro i x h0; exact absurd h0 (Nat.not_lt_zero _)
    | succ n4 ih4_2 =>
      intro i x hmeas4 hi1 hx0 ls hl
      refine lv_iload_n hx hb dX4_fees_4 rfl (lv_at hl 0 rfl) ?_
      refine lv_bipush (v := 48) hx hb dX4_fees_5 (by decide +kernel) ?_
      refine lv_icmp_ge (tgt := 42) hx hb dX4_fees_7 (by decide) (fun c_3 => ?_) (fun c_3 => ?_)
      · have hge := kz_le (a := 48) (b := i) c_3 (by omega) (by omega)
        refine lv_iload_n hx hb dX4_fees_42 rfl (lv_at hl 1 rfl) ?_
        subst hQ
        exact W.iret (v := x) hx hb hr (fun t ht _ => ⟨x, rfl, (by obtain rfl : i = 48 := (by omega); exact hx0), ht⟩) (fun _ h9 => absurd h9 List.not_mem_nil) dX4_fees_43
      · have hlt := kz_gt (a := 48) (b := i) c_3 (by omega) (by omega)
        refine lv_iload_n hx hb dX4_fees_10 rfl (lv_at hl 1 rfl) ?_
        refine lv_aload_n hx hb dX4_fees_11 rfl (lv_at hl 2 rfl) ?_
        refine lv_iload_n hx hb dX4_fees_12 rfl (lv_at hl 0 rfl) ?_
        refine kz_rdV (As := [.int (nI i)]) (rest := [.int x]) (b := a 0) ⟨hx, hb, hml, hown, hts⟩ (c_X4_isTaken l G a M i (by omega)) (cwV 1 hts gX4_fees_X4_isTaken rfl rfl rfl (by decide +kernel) ⟨Nat.le_of_ble_eq_true rfl, Nat.le_of_ble_eq_true rfl⟩) hK hP (kz_recv hK hP (ci := 4) (q0 := 0) rfl rfl) rfl hl.1 rfl (Nat.le_of_ble_eq_true rfl) dX4_fees_13 ⟨Nat.le_of_ble_eq_true rfl, Nat.le_of_ble_eq_true rfl⟩ ?_
        refine lv_topi (fun y_4 ey_5 => ?_)
        by_cases c_6 : X4_isTaken_p (M 0) i
        · rw [if_pos c_6] at ey_5
          subst ey_5
          refine lv_if_eq (tgt := 33) hx hb dX4_fees_16 (by decide) (fun c => absurd c (by decide)) (fun _ => ?_)
          refine lv_aload_n hx hb dX4_fees_19 rfl (lv_at hl 2 rfl) ?_
          refine lv_iload_n hx hb dX4_fees_20 rfl (lv_at hl 0 rfl) ?_
          refine lv_aload_n hx hb dX4_fees_21 rfl (lv_at hl 2 rfl) ?_
          refine va_get (D := G.1) (ci := 4) (v := .ref (a 1)) (C := RX4) (T := TX4) (N := 14) hx hb hts hinX4 hown hK.1 hP 0 rfl rfl 0 (by decide) (hts (.fieldLink RX4 7 "ParcelShelvesModel" "z" "[I") (by decide +kernel)) (fun _ h9 => h9) rfl dX4_fees_22 ?_
          refine lv_iconst (v := 5) hx hb dX4_fees_25 (by decide +kernel) ?_
          refine va_iald (f := (M 0)) hx hb hK.1 hP 1 0 rfl rfl (vp_in_nI (n := 5) (N := 580) (by decide) (by decide)) dX4_fees_26 ?_
          refine lv_topi (fun y_7 ey_8 => ?_)
          obtain rfl : y_7 = ((M 0) 5) := by rw [ey_8]; rfl
          refine kz_rdV (As := [.int (nI i), .int ((M 0) 5)]) (rest := [.int x]) (b := a 0) ⟨hx, hb, hml, hown, hts⟩ (c_X4_feeOn l G a M i ((M 0) 5) (by omega)) (cwV 2 hts gX4_fees_X4_feeOn rfl rfl rfl (by decide +kernel) ⟨Nat.le_of_ble_eq_true rfl, Nat.le_of_ble_eq_true rfl⟩) hK hP (kz_recv hK hP (ci := 4) (q0 := 0) rfl rfl) rfl hl.1 rfl (Nat.le_of_ble_eq_true rfl) dX4_fees_27 ⟨Nat.le_of_ble_eq_true rfl, Nat.le_of_ble_eq_true rfl⟩ ?_
          refine lv_goto (tgt := 34) hx hb dX4_fees_30 (by decide) ?_
          refine lv_iadd hx hb dX4_fees_34 ?_
          refine lv_istore_n (lv' := [(1, .int (x + (X4_feeOn_r (M 0) i ((M 0) 5)))), (2, .int (nI i)), (0, .ref (a 0))]) hx hb dX4_fees_35 rfl hl (by decide) rfl (fun ls hl => ?_)
          refine lv_iinc (v := (nI (i + 1))) (lv' := [(2, .int (nI (i + 1))), (1, .int (x + (X4_feeOn_r (M 0) i ((M 0) 5)))), (0, .ref (a 0))]) hx hb dX4_fees_36 hl (k := 1) rfl (nI_1 _) (by decide) rfl (fun ls hl => ?_)
          refine lv_goto (tgt := 4) hx hb dX4_fees_39 (by decide) ?_
          exact ih4_2 (i + 1) (x + (X4_feeOn_r (M 0) i ((M 0) 5))) (by omega) (by omega) (by rw [hx0]; exact kz_sp_t (P := X4_isTaken_p (M 0)) (f := fun j => X4_feeOn_r (M 0) j (M 0 5)) c_6) ls (lv_sub hl [0, 1, 2] rfl)
        · rw [if_neg c_6] at ey_5
          subst ey_5
          refine lv_if_eq (tgt := 33) hx hb dX4_fees_16 (by decide) (fun _ => ?_) (fun c => absurd c (by decide))
          refine lv_iconst (v := 0) hx hb dX4_fees_33 (by decide +kernel) ?_
          refine lv_iadd hx hb dX4_fees_34 ?_
          refine lv_istore_n (lv' := [(1, .int (x + 0)), (2, .int (nI i)), (0, .ref (a 0))]) hx hb dX4_fees_35 rfl hl (by decide) rfl (fun ls hl => ?_)
          refine lv_iinc (v := (nI (i + 1))) (lv' := [(2, .int (nI (i + 1))), (1, .int (x + 0)), (0, .ref (a 0))]) hx hb dX4_fees_36 hl (k := 1) rfl (nI_1 _) (by decide) rfl (fun ls hl => ?_)
          refine lv_goto (tgt := 4) hx hb dX4_fees_39 (by decide) ?_
          exact ih4_2 (i + 1) (x + 0) (by omega) (by omega) (by rw [hx0]; exact (Int32.add_zero _).trans (kz_sp_f (P := X4_isTaken_p (M 0)) c_6)) ls (lv_sub hl [0, 1, 2] rfl)
  exact L4_1 _ 0 0 (Nat.lt_succ_self _) (by omega) rfl ls (lv_sub hl [0, 1, 2] rfl)
def X4_save_c3 (z0 z3 : Nat → Int32) : Nat → Int32 := va_cpy z0 z3 0 0 580
def X4_save_c4 (z0 z3 : Nat → Int32) : Int32 := 1
set_option maxHeartbeats 4000000 in
set_option maxRecDepth 100000 in
theorem c_X4_save (l : Launch) (G : kz_G) (a : Nat → Nat) (M : kz_S) : kz_mi l G yX4_save wsX4_save 3 65 [.ref (a 0)] [mdW G a M] [mdW G a (va_up (va_up M 3 (X4_save_c3 (M 0) (M 3))) 4 (fun _ => (X4_save_c4 (M 0) (M 3))))] (X4_parcels_r (M 0)) := by
  intro sz
  refine Met.ofW (cc := cX4_save) (maxL := 2) (ret := (some .int)) (by decide) rfl ?_
  intro p e s m args below meth c s₁ B hml hv
  obtain ⟨rfl, hsz, hP, hK, hD0⟩ := hv
  have hx := B.exec
  have hb := B.bytes
  have hr := B.returns
  have hts := atoms_spec (ws := wsX4_save) B.pre
  have hown : s.vm.findClass RX4 = some m.cls := findClass_of_methodNamed B.named
  have hlocks := B.notSynchronized
  have hinX4 : ∀ w ∈ u_ws RX4 TX4 14, w ∈ wsX4_save := by decide +kernel
  subst hsz
  have hD := hD0.self (sz := s.heap.size)
  generalize hAe : kz_A [mdW G a M] s.heap.size = A at hD ⊢
  have hA : ∀ q : Nat, s.heap.size ≤ q → A q := fun q h => by rw [← hAe]; exact Or.inr h
  have hS : va_S A s.heap s.heap [] := va_S.rf
  have hl := lv_entry ([.ref (a 0)]) (n := 2) (Nat.le_of_ble_eq_true rfl)
  rw [lg_entry_eq]
  generalize (lg_sl ([.ref (a 0)]) ++ List.replicate (2 - (lg_sl ([.ref (a 0)])).length) Slot.unset).toArray = ls at hl ⊢
  have hl : lv_has ls 2 [(0, .ref (a 0))] := hl
  refine kz_start (fun QQ hQ => ?_)
  have hP : kz_P G [mdW G a M] s.heap := hP
  refine lv_aload_n hx hb dX4_save_0 rfl (lv_at hl 0 rfl) ?_
  refine lv_iconst (v := 1) hx hb dX4_save_1 (by decide +kernel) ?_
  refine va_put (D := G.1) (ci := 4) (v := .int 1) (ty := .boolean) (C := RX4) (T := TX4) (N := 14) hx hb hts hinX4 tyX4 tyX4_ok nmX4 hown hK.1 hP hD hS 0 rfl rfl 4 (by decide) (hts (.fieldLink RX4 39 "ParcelShelvesModel" "isKept" "Z") (by decide +kernel)) (fun _ h9 => h9) rfl (by decide +kernel) (by decide +kernel) (by decide +kernel) (Nat.le_of_ble_eq_true rfl) dX4_save_2 (fun H locs hP hD hS => ?_)
  have hP : kz_P G [mdW G a (va_up M 4 (fun _ => 1))] H := hP
  have hD : kz_D A [mdW G a (va_up M 4 (fun _ => 1))] := hD
  refine lv_iconst (v := 0) hx hb dX4_save_5 (by decide +kernel) ?_
  refine lv_istore_n (lv' := [(1, .int 0), (0, .ref (a 0))]) hx hb dX4_save_6 rfl hl (by decide) rfl (fun ls hl => ?_)
  have L7_1 : ∀ (n7 : Nat) (i : Nat) (P1 : Nat → Int32), (580 - i < n7) → (i ≤ 580) → (P1 = va_cpy (M 0) (M 3) 0 0 i) → ∀ (H : Heap) (locs : List Loc), kz_P G [mdW G a (va_up (va_up M 4 (fun _ => 1)) 3 P1)] H → kz_D A [mdW G a (va_up (va_up M 4 (fun _ => 1)) 3 P1)] → va_S A s.heap H locs → ∀ ls : Array Slot, lv_has ls 2 [(1, .int (nI i)), (0, .ref (a 0))] → W p l e (headSpec wsX4_save (kz_rm 3 65)).room s m ([.ref (a 0)] : List Value).toArray below meth c H locs 0 0 QQ (F0 m 7 ls []) := by
    intro n7
    induction n7 with
    | zero => intro i P1 h0; exact absurd h0 (Nat.not_lt_zero _)
    | succ n7 ih7_2 =>
      intro i P1 hmeas7 hi1 hP1 H locs hP hD hS ls hl
      refine lv_iload_n hx hb dX4_save_7 rfl (lv_at hl 0 rfl) ?_
      refine lv_sipush (v := 580) hx hb dX4_save_8 (by decide +kernel) ?_
      refine lv_icmp_ge (tgt := 32) hx hb dX4_save_11 (by decide) (fun c_3 => ?_) (fun c_3 => ?_)
      · have hge := kz_le (a := 580) (b := i) c_3 (by omega) (by omega)
        obtain rfl : i = 580 := by omega
        refine lv_aload_n hx hb dX4_save_32 rfl (lv_at hl 1 rfl) ?_
        refine kz_rdV (As := []) (rest := []) (b := a 0) ⟨hx, hb, hml, hown, hts⟩ (c_X4_parcels l G a (va_up (va_up M 4 (fun _ => 1)) 3 P1)) (cwV 0 hts gX4_save_X4_parcels rfl rfl rfl (by decide +kernel) ⟨Nat.le_of_ble_eq_true rfl, Nat.le_of_ble_eq_true rfl⟩) hK hP (kz_recv hK hP (ci := 4) (q0 := 0) rfl rfl) rfl hl.1 rfl (Nat.le_of_ble_eq_true rfl) dX4_save_33 ⟨Nat.le_of_ble_eq_true rfl, Nat.le_of_ble_eq_true rfl⟩ ?_
        subst hQ
        have hP9 : kz_P G [mdW G a (va_up (va_up M 3 (X4_save_c3 (M 0) (M 3))) 4 (fun _ => (X4_save_c4 (M 0) (M 3))))] H := by rw [X4_save_c3, X4_save_c4, ← hP1]; exact hP
        have hD9 : kz_D A [mdW G a (va_up (va_up M 3 (X4_save_c3 (M 0) (M 3))) 4 (fun _ => (X4_save_c4 (M 0) (M 3))))] := by rw [X4_save_c3, X4_save_c4, ← hP1]; exact hD
        exact W.iret (v := (X4_parcels_r (M 0))) hx hb hr (fun t ht hW => ⟨⟨(X4_parcels_r (M 0)), (), rfl, rfl, by rw [ht]; exact hP9, hD9⟩, hS.F ht⟩) hS.2.2 dX4_save_36
      · have hlt := kz_gt (a := 580) (b := i) c_3 (by omega) (by omega)
        refine lv_aload_n hx hb dX4_save_14 rfl (lv_at hl 1 rfl) ?_
        refine va_get (D := G.1) (ci := 4) (v := .ref (a 3)) (C := RX4) (T := TX4) (N := 14) hx hb hts hinX4 hown hK.1 hP 0 rfl rfl 3 (by decide) (hts (.fieldLink RX4 16 "ParcelShelvesModel" "kept" "[I") (by decide +kernel)) (fun _ h9 => h9) rfl dX4_save_15 ?_
        refine lv_iload_n hx hb dX4_save_18 rfl (lv_at hl 0 rfl) ?_
        refine lv_aload_n hx hb dX4_save_19 rfl (lv_at hl 1 rfl) ?_
        refine va_get (D := G.1) (ci := 4) (v := .ref (a 1)) (C := RX4) (T := TX4) (N := 14) hx hb hts hinX4 hown hK.1 hP 0 rfl rfl 0 (by decide) (hts (.fieldLink RX4 7 "ParcelShelvesModel" "z" "[I") (by decide +kernel)) (fun _ h9 => h9) rfl dX4_save_20 ?_
        refine lv_iload_n hx hb dX4_save_23 rfl (lv_at hl 0 rfl) ?_
        refine va_iald (f := (M 0)) hx hb hK.1 hP 1 0 rfl rfl (vp_in_nI (n := i) (N := 580) (by omega) (by decide)) dX4_save_24 ?_
        refine lv_topi (fun y_4 ey_5 => ?_)
        obtain rfl : y_4 = ((M 0) i) := by rw [ey_5, kz_nI_clamp (n := i) (by omega)]
        refine va_iast hx hb hK.1 hP hD hS 3 0 rfl rfl (vp_in_nI (n := i) (N := 580) (by omega) (by decide)) dX4_save_25 (fun H locs hP hD hS => ?_)
        rw [kz_nI_clamp (n := i) (by omega)] at hP hD
        have hP : kz_P G [mdW G a (va_up (va_up M 4 (fun _ => 1)) 3 (upd P1 i ((M 0) i)))] H := hP
        have hD : kz_D A [mdW G a (va_up (va_up M 4 (fun _ => 1)) 3 (upd P1 i ((M 0) i)))] := hD
        refine lv_iinc (v := (nI (i + 1))) (lv' := [(1, .int (nI (i + 1))), (0, .ref (a 0))]) hx hb dX4_save_26 hl (k := 0) rfl (nI_1 _) (by decide) rfl (fun ls hl => ?_)
        refine lv_goto (tgt := 7) hx hb dX4_save_29 (by decide) ?_
        exact ih7_2 (i + 1) (upd P1 i ((M 0) i)) (by omega) (by omega) (kz_cp1 (by omega) (by omega) hP1) H locs hP hD hS ls (lv_sub hl [0, 1] rfl)
  exact L7_1 _ 0 (M 3) (Nat.lt_succ_self _) (by omega) kz_cp0 H locs hP hD hS ls (lv_sub hl [0, 1] rfl)
def X4_restore_r (z0 z1 : Nat → Int32) (z2 : Int32) (z3 : Nat → Int32) (z4 : Int32) : Int32 := if z4 = 0 then (-3) else X4_parcels_r (va_cpy z3 z0 0 0 580)
def X4_restore_c0 (z0 z1 : Nat → Int32) (z2 : Int32) (z3 : Nat → Int32) (z4 : Int32) : Nat → Int32 := if z4 = 0 then z0 else va_cpy z3 z0 0 0 580
def X4_restore_c1 (z0 z1 : Nat → Int32) (z2 : Int32) (z3 : Nat → Int32) (z4 : Int32) : Nat → Int32 := if z4 = 0 then z1 else X4_record_c1 z0 z1 z2
def X4_restore_c2 (z0 z1 : Nat → Int32) (z2 : Int32) (z3 : Nat → Int32) (z4 : Int32) : Int32 := if z4 = 0 then z2 else X4_record_c2 z0 z1 z2
set_option maxHeartbeats 4000000 in
set_option maxRecDepth 100000 in
theorem c_X4_restore (l : Launch) (G : kz_G) (a : Nat → Nat) (M : kz_S) (hpm : ∃ n, n ≤ 5 ∧ M 2 0 = nI n) : kz_mi l G yX4_restore wsX4_restore 3 65 [.ref (a 0)] [mdW G a M] [mdW G a (va_up (va_up (va_up M 0 (X4_restore_c0 (M 0) (M 1) (M 2 0) (M 3) (M 4 0))) 1 (X4_restore_c1 (M 0) (M 1) (M 2 0) (M 3) (M 4 0))) 2 (fun _ => (X4_restore_c2 (M 0) (M 1) (M 2 0) (M 3) (M 4 0))))] (X4_restore_r (M 0) (M 1) (M 2 0) (M 3) (M 4 0)) := by
  intro sz
  refine Met.ofW (cc := cX4_restore) (maxL := 2) (ret := (some .int)) (by decide) rfl ?_
  intro p e s m args below meth c s₁ B hml hv
  obtain ⟨rfl, hsz, hP, hK, hD0⟩ := hv
  have hx := B.exec
  have hb := B.bytes
  have hr := B.returns
  have hts := atoms_spec (ws := wsX4_restore) B.pre
  have hown : s.vm.findClass RX4 = some m.cls := findClass_of_methodNamed B.named
  have hlocks := B.notSynchronized
  have hinX4 : ∀ w ∈ u_ws RX4 TX4 14, w ∈ wsX4_restore := by decide +kernel
  subst hsz
  have hD := hD0.self (sz := s.heap.size)
  generalize hAe : kz_A [mdW G a M] s.heap.size = A at hD ⊢
  have hA : ∀ q : Nat, s.heap.size ≤ q → A q := fun q h => by rw [← hAe]; exact Or.inr h
  have hS : va_S A s.heap s.heap [] := va_S.rf
  have hl := lv_entry ([.ref (a 0)]) (n := 2) (Nat.le_of_ble_eq_true rfl)
  rw [lg_entry_eq]
  generalize (lg_sl ([.ref (a 0)]) ++ List.replicate (2 - (lg_sl ([.ref (a 0)])).length) Slot.unset).toArray = ls at hl ⊢
  have hl : lv_has ls 2 [(0, .ref (a 0))] := hl
  refine kz_start (fun QQ hQ => ?_)
  have hP : kz_P G [mdW G a M] s.heap := hP
  refine lv_aload_n hx hb dX4_restore_0 rfl (lv_at hl 0 rfl) ?_
  refine va_get (D := G.1) (ci := 4) (v := .int (M 4 0)) (C := RX4) (T := TX4) (N := 14) hx hb hts hinX4 hown hK.1 hP 0 rfl rfl 4 (by decide) (hts (.fieldLink RX4 39 "ParcelShelvesModel" "isKept" "Z") (by decide +kernel)) (fun _ h9 => h9) rfl dX4_restore_1 ?_
  refine lv_if_ne (tgt := 10) hx hb dX4_restore_4 (by decide) (fun c_1 => ?_) (fun c_1 => ?_)
  · refine lv_aload_n hx hb dX4_restore_10 rfl (lv_at hl 0 rfl) ?_
    refine kz_mvV (As := []) (rest := []) (b := a 0) (wr := []) (bs' := [mdW G a (va_up (va_up M 1 (X4_record_c1 (M 0) (M 1) (M 2 0))) 2 (fun _ => (X4_record_c2 (M 0) (M 1) (M 2 0))))]) ⟨hx, hb, hml, hown, hts⟩ (c_X4_record l G a M hpm) (cwV 0 hts gX4_restore_X4_record rfl rfl rfl (by decide +kernel) ⟨Nat.le_of_ble_eq_true rfl, Nat.le_of_ble_eq_true rfl⟩) hK hP hD hS hA [0] [] [0] rfl (by decide) rfl (by decide) (by decide) rfl (by decide) (kz_recv hK hP (ci := 4) (q0 := 0) rfl rfl) rfl hl.1 rfl (Nat.le_of_ble_eq_true rfl) dX4_restore_11 ⟨Nat.le_of_ble_eq_true rfl, Nat.le_of_ble_eq_true rfl⟩ (fun H locs hP hD hS => ?_)
    refine lv_iconst (v := 0) hx hb dX4_restore_14 (by decide +kernel) ?_
    refine lv_istore_n (lv' := [(1, .int 0), (0, .ref (a 0))]) hx hb dX4_restore_15 rfl hl (by decide) rfl (fun ls hl => ?_)
    have L16_2 : ∀ (n16 : Nat) (i : Nat) (P1 : Nat → Int32), (580 - i < n16) → (i ≤ 580) → (P1 = va_cpy (M 3) (M 0) 0 0 i) → ∀ (H : Heap) (locs : List Loc), kz_P G [mdW G a (va_up (va_up (va_up M 1 (X4_record_c1 (M 0) (M 1) (M 2 0))) 2 (fun _ => (X4_record_c2 (M 0) (M 1) (M 2 0)))) 0 P1)] H → kz_D A [mdW G a (va_up (va_up (va_up M 1 (X4_record_c1 (M 0) (M 1) (M 2 0))) 2 (fun _ => (X4_record_c2 (M 0) (M 1) (M 2 0)))) 0 P1)] → va_S A s.heap H locs → ∀ ls : Array Slot, lv_has ls 2 [(1, .int (nI i)), (0, .ref (a 0))] → W p l e (headSpec wsX4_restore (kz_rm 3 65)).room s m ([.ref (a 0)] : List Value).toArray below meth c H locs 0 0 QQ (F0 m 16 ls []) := by
      intro n16
      induction n16 with
      | zero => intro i P1 h0; exact absurd h0 (Nat.not_lt_zero _)
      | succ n16 ih16_3 =>
        intro i P1 hmeas16 hi1 hP1 H locs hP hD hS ls hl
        refine lv_iload_n hx hb dX4_restore_16 rfl (lv_at hl 0 rfl) ?_
        refine lv_sipush (v := 580) hx hb dX4_restore_17 (by decide +kernel) ?_
        refine lv_icmp_ge (tgt := 41) hx hb dX4_restore_20 (by decide) (fun c_4 => ?_) (fun c_4 => ?_)
        · have hge := kz_le (a := 580) (b := i) c_4 (by omega) (by omega)
          obtain rfl : i = 580 := by omega
          refine lv_aload_n hx hb dX4_restore_41 rfl (lv_at hl 1 rfl) ?_
          refine kz_rdV (As := []) (rest := []) (b := a 0) ⟨hx, hb, hml, hown, hts⟩ (c_X4_parcels l G a (va_up (va_up (va_up M 1 (X4_record_c1 (M 0) (M 1) (M 2 0))) 2 (fun _ => (X4_record_c2 (M 0) (M 1) (M 2 0)))) 0 P1)) (cwV 0 hts gX4_restore_X4_parcels rfl rfl rfl (by decide +kernel) ⟨Nat.le_of_ble_eq_true rfl, Nat.le_of_ble_eq_true rfl⟩) hK hP (kz_recv hK hP (ci := 4) (q0 := 0) rfl rfl) rfl hl.1 rfl (Nat.le_of_ble_eq_true rfl) dX4_restore_42 ⟨Nat.le_of_ble_eq_true rfl, Nat.le_of_ble_eq_true rfl⟩ ?_
          subst hQ
          have hP9 : kz_P G [mdW G a (va_up (va_up (va_up M 0 (X4_restore_c0 (M 0) (M 1) (M 2 0) (M 3) (M 4 0))) 1 (X4_restore_c1 (M 0) (M 1) (M 2 0) (M 3) (M 4 0))) 2 (fun _ => (X4_restore_c2 (M 0) (M 1) (M 2 0) (M 3) (M 4 0))))] H := by rw [X4_restore_c0, X4_restore_c1, X4_restore_c2, if_neg c_1, if_neg c_1, if_neg c_1, ← hP1]; exact hP
          have hD9 : kz_D A [mdW G a (va_up (va_up (va_up M 0 (X4_restore_c0 (M 0) (M 1) (M 2 0) (M 3) (M 4 0))) 1 (X4_restore_c1 (M 0) (M 1) (M 2 0) (M 3) (M 4 0))) 2 (fun _ => (X4_restore_c2 (M 0) (M 1) (M 2 0) (M 3) (M 4 0))))] := by rw [X4_restore_c0, X4_restore_c1, X4_restore_c2, if_neg c_1, if_neg c_1, if_neg c_1, ← hP1]; exact hD
          exact W.iret (v := (X4_parcels_r P1)) hx hb hr (fun t ht hW => ⟨⟨(X4_parcels_r P1), (), rfl, (by rw [X4_restore_r, if_neg c_1, ← hP1]), by rw [ht]; exact hP9, hD9⟩, hS.F ht⟩) hS.2.2 dX4_restore_45
        · have hlt := kz_gt (a := 580) (b := i) c_4 (by omega) (by omega)
          refine lv_aload_n hx hb dX4_restore_23 rfl (lv_at hl 1 rfl) ?_
          refine va_get (D := G.1) (ci := 4) (v := .ref (a 1)) (C := RX4) (T := TX4) (N := 14) hx hb hts hinX4 hown hK.1 hP 0 rfl rfl 0 (by decide) (hts (.fieldLink RX4 7 "ParcelShelvesModel" "z" "[I") (by decide +kernel)) (fun _ h9 => h9) rfl dX4_restore_24 ?_
          refine lv_iload_n hx hb dX4_restore_27 rfl (lv_at hl 0 rfl) ?_
          refine lv_aload_n hx hb dX4_restore_28 rfl (lv_at hl 1 rfl) ?_
          refine va_get (D := G.1) (ci := 4) (v := .ref (a 3)) (C := RX4) (T := TX4) (N := 14) hx hb hts hinX4 hown hK.1 hP 0 rfl rfl 3 (by decide) (hts (.fieldLink RX4 16 "ParcelShelvesModel" "kept" "[I") (by decide +kernel)) (fun _ h9 => h9) rfl dX4_restore_29 ?_
          refine lv_iload_n hx hb dX4_restore_32 rfl (lv_at hl 0 rfl) ?_
          refine va_iald (f := (M 3)) hx hb hK.1 hP 3 0 rfl rfl (vp_in_nI (n := i) (N := 580) (by omega) (by decide)) dX4_restore_33 ?_
          refine lv_topi (fun y_5 ey_6 => ?_)
          obtain rfl : y_5 = ((M 3) i) := by rw [ey_6, kz_nI_clamp (n := i) (by omega)]
          refine va_iast hx hb hK.1 hP hD hS 1 0 rfl rfl (vp_in_nI (n := i) (N := 580) (by omega) (by decide)) dX4_restore_34 (fun H locs hP hD hS => ?_)
          rw [kz_nI_clamp (n := i) (by omega)] at hP hD
          have hP : kz_P G [mdW G a (va_up (va_up (va_up M 1 (X4_record_c1 (M 0) (M 1) (M 2 0))) 2 (fun _ => (X4_record_c2 (M 0) (M 1) (M 2 0)))) 0 (upd P1 i ((M 3) i)))] H := hP
          have hD : kz_D A [mdW G a (va_up (va_up (va_up M 1 (X4_record_c1 (M 0) (M 1) (M 2 0))) 2 (fun _ => (X4_record_c2 (M 0) (M 1) (M 2 0)))) 0 (upd P1 i ((M 3) i)))] := hD
          refine lv_iinc (v := (nI (i + 1))) (lv' := [(1, .int (nI (i + 1))), (0, .ref (a 0))]) hx hb dX4_restore_35 hl (k := 0) rfl (nI_1 _) (by decide) rfl (fun ls hl => ?_)
          refine lv_goto (tgt := 16) hx hb dX4_restore_38 (by decide) ?_
          exact ih16_3 (i + 1) (upd P1 i ((M 3) i)) (by omega) (by omega) (kz_cp1 (by omega) (by omega) hP1) H locs hP hD hS ls (lv_sub hl [0, 1] rfl)
    exact L16_2 _ 0 (M 0) (Nat.lt_succ_self _) (by omega) kz_cp0 H locs hP hD hS ls (lv_sub hl [0, 1] rfl)
  · refine lv_bipush (v := (-3)) hx hb dX4_restore_7 (by decide +kernel) ?_
    subst hQ
    have hP9 : kz_P G [mdW G a (va_up (va_up (va_up M 0 (X4_restore_c0 (M 0) (M 1) (M 2 0) (M 3) (M 4 0))) 1 (X4_restore_c1 (M 0) (M 1) (M 2 0) (M 3) (M 4 0))) 2 (fun _ => (X4_restore_c2 (M 0) (M 1) (M 2 0) (M 3) (M 4 0))))] s.heap := by rw [X4_restore_c0, X4_restore_c1, X4_restore_c2, if_pos c_1, if_pos c_1, if_pos c_1]; exact hP
    have hD9 : kz_D A [mdW G a (va_up (va_up (va_up M 0 (X4_restore_c0 (M 0) (M 1) (M 2 0) (M 3) (M 4 0))) 1 (X4_restore_c1 (M 0) (M 1) (M 2 0) (M 3) (M 4 0))) 2 (fun _ => (X4_restore_c2 (M 0) (M 1) (M 2 0) (M 3) (M 4 0))))] := by rw [X4_restore_c0, X4_restore_c1, X4_restore_c2, if_pos c_1, if_pos c_1, if_pos c_1]; exact hD
    exact W.iret (v := (-3)) hx hb hr (fun t ht hW => ⟨⟨(-3), (), rfl, (by rw [X4_restore_r, if_pos c_1]), by rw [ht]; exact hP9, hD9⟩, hS.F ht⟩) hS.2.2 dX4_restore_9
def X4_putAside_c5 (z0 z5 : Nat → Int32) : Nat → Int32 := va_cpy z0 z5 0 0 580
set_option maxHeartbeats 4000000 in
set_option maxRecDepth 100000 in
theorem c_X4_putAside (l : Launch) (G : kz_G) (a : Nat → Nat) (M : kz_S) : kz_mv l G yX4_putAside wsX4_putAside 0 0 [.ref (a 0)] [mdW G a M] [mdW G a (va_up M 5 (X4_putAside_c5 (M 0) (M 5)))] := by
  intro sz
  refine Met.ofW (cc := cX4_putAside) (maxL := 2) (ret := none) (by decide) rfl ?_
  intro p e s m args below meth c s₁ B hml hv
  obtain ⟨rfl, hsz, hP, hK, hD0⟩ := hv
  have hx := B.exec
  have hb := B.bytes
  have hr := B.returns
  have hts := atoms_spec (ws := wsX4_putAside) B.pre
  have hown : s.vm.findClass RX4 = some m.cls := findClass_of_methodNamed B.named
  have hlocks := B.notSynchronized
  have hinX4 : ∀ w ∈ u_ws RX4 TX4 14, w ∈ wsX4_putAside := by decide +kernel
  subst hsz
  have hD := hD0.self (sz := s.heap.size)
  generalize hAe : kz_A [mdW G a M] s.heap.size = A at hD ⊢
  have hA : ∀ q : Nat, s.heap.size ≤ q → A q := fun q h => by rw [← hAe]; exact Or.inr h
  have hS : va_S A s.heap s.heap [] := va_S.rf
  have hl := lv_entry ([.ref (a 0)]) (n := 2) (Nat.le_of_ble_eq_true rfl)
  rw [lg_entry_eq]
  generalize (lg_sl ([.ref (a 0)]) ++ List.replicate (2 - (lg_sl ([.ref (a 0)])).length) Slot.unset).toArray = ls at hl ⊢
  have hl : lv_has ls 2 [(0, .ref (a 0))] := hl
  refine kz_start (fun QQ hQ => ?_)
  have hP : kz_P G [mdW G a M] s.heap := hP
  refine lv_iconst (v := 0) hx hb dX4_putAside_0 (by decide +kernel) ?_
  refine lv_istore_n (lv' := [(1, .int 0), (0, .ref (a 0))]) hx hb dX4_putAside_1 rfl hl (by decide) rfl (fun ls hl => ?_)
  have L2_1 : ∀ (n2 : Nat) (i : Nat) (P1 : Nat → Int32), (580 - i < n2) → (i ≤ 580) → (P1 = va_cpy (M 0) (M 5) 0 0 i) → ∀ (H : Heap) (locs : List Loc), kz_P G [mdW G a (va_up M 5 P1)] H → kz_D A [mdW G a (va_up M 5 P1)] → va_S A s.heap H locs → ∀ ls : Array Slot, lv_has ls 2 [(1, .int (nI i)), (0, .ref (a 0))] → W p l e (headSpec wsX4_putAside (kz_rm 0 0)).room s m ([.ref (a 0)] : List Value).toArray below meth c H locs 0 0 QQ (F0 m 2 ls []) := by
    intro n2
    induction n2 with
    | zero => intro i P1 h0; exact absurd h0 (Nat.not_lt_zero _)
    | succ n2 ih2_2 =>
      intro i P1 hmeas2 hi1 hP1 H locs hP hD hS ls hl
      refine lv_iload_n hx hb dX4_putAside_2 rfl (lv_at hl 0 rfl) ?_
      refine lv_sipush (v := 580) hx hb dX4_putAside_3 (by decide +kernel) ?_
      refine lv_icmp_ge (tgt := 27) hx hb dX4_putAside_6 (by decide) (fun c_3 => ?_) (fun c_3 => ?_)
      · have hge := kz_le (a := 580) (b := i) c_3 (by omega) (by omega)
        obtain rfl : i = 580 := by omega
        subst hQ
        have hP9 : kz_P G [mdW G a (va_up M 5 (X4_putAside_c5 (M 0) (M 5)))] H := by rw [X4_putAside_c5, ← hP1]; exact hP
        have hD9 : kz_D A [mdW G a (va_up M 5 (X4_putAside_c5 (M 0) (M 5)))] := by rw [X4_putAside_c5, ← hP1]; exact hD
        exact W.vret hx hb hr (fun t ht hW => ⟨⟨(), rfl, trivial, by rw [ht]; exact hP9, hD9⟩, hS.F ht⟩) hS.2.2 dX4_putAside_27
      · have hlt := kz_gt (a := 580) (b := i) c_3 (by omega) (by omega)
        refine lv_aload_n hx hb dX4_putAside_9 rfl (lv_at hl 1 rfl) ?_
        refine va_get (D := G.1) (ci := 4) (v := .ref (a 4)) (C := RX4) (T := TX4) (N := 14) hx hb hts hinX4 hown hK.1 hP 0 rfl rfl 5 (by decide) (hts (.fieldLink RX4 19 "ParcelShelvesModel" "aside" "[I") (by decide +kernel)) (fun _ h9 => h9) rfl dX4_putAside_10 ?_
        refine lv_iload_n hx hb dX4_putAside_13 rfl (lv_at hl 0 rfl) ?_
        refine lv_aload_n hx hb dX4_putAside_14 rfl (lv_at hl 1 rfl) ?_
        refine va_get (D := G.1) (ci := 4) (v := .ref (a 1)) (C := RX4) (T := TX4) (N := 14) hx hb hts hinX4 hown hK.1 hP 0 rfl rfl 0 (by decide) (hts (.fieldLink RX4 7 "ParcelShelvesModel" "z" "[I") (by decide +kernel)) (fun _ h9 => h9) rfl dX4_putAside_15 ?_
        refine lv_iload_n hx hb dX4_putAside_18 rfl (lv_at hl 0 rfl) ?_
        refine va_iald (f := (M 0)) hx hb hK.1 hP 1 0 rfl rfl (vp_in_nI (n := i) (N := 580) (by omega) (by decide)) dX4_putAside_19 ?_
        refine lv_topi (fun y_4 ey_5 => ?_)
        obtain rfl : y_4 = ((M 0) i) := by rw [ey_5, kz_nI_clamp (n := i) (by omega)]
        refine va_iast hx hb hK.1 hP hD hS 4 0 rfl rfl (vp_in_nI (n := i) (N := 580) (by omega) (by decide)) dX4_putAside_20 (fun H locs hP hD hS => ?_)
        rw [kz_nI_clamp (n := i) (by omega)] at hP hD
        have hP : kz_P G [mdW G a (va_up M 5 (upd P1 i ((M 0) i)))] H := hP
        have hD : kz_D A [mdW G a (va_up M 5 (upd P1 i ((M 0) i)))] := hD
        refine lv_iinc (v := (nI (i + 1))) (lv' := [(1, .int (nI (i + 1))), (0, .ref (a 0))]) hx hb dX4_putAside_21 hl (k := 0) rfl (nI_1 _) (by decide) rfl (fun ls hl => ?_)
        refine lv_goto (tgt := 2) hx hb dX4_putAside_24 (by decide) ?_
        exact ih2_2 (i + 1) (upd P1 i ((M 0) i)) (by omega) (by omega) (kz_cp1 (by omega) (by omega) hP1) H locs hP hD hS ls (lv_sub hl [0, 1] rfl)
  exact L2_1 _ 0 (M 5) (Nat.lt_succ_self _) (by omega) kz_cp0 s.heap [] hP hD hS ls (lv_sub hl [0, 1] rfl)
def X4_takeBack_c0 (z0 z5 : Nat → Int32) : Nat → Int32 := va_cpy z5 z0 0 0 580
set_option maxHeartbeats 4000000 in
set_option maxRecDepth 100000 in
theorem c_X4_takeBack (l : Launch) (G : kz_G) (a : Nat → Nat) (M : kz_S) : kz_mv l G yX4_takeBack wsX4_takeBack 0 0 [.ref (a 0)] [mdW G a M] [mdW G a (va_up M 0 (X4_takeBack_c0 (M 0) (M 5)))] := by
  intro sz
  refine Met.ofW (cc := cX4_takeBack) (maxL := 2) (ret := none) (by decide) rfl ?_
  intro p e s m args below meth c s₁ B hml hv
  obtain ⟨rfl, hsz, hP, hK, hD0⟩ := hv
  have hx := B.exec
  have hb := B.bytes
  have hr := B.returns
  have hts := atoms_spec (ws := wsX4_takeBack) B.pre
  have hown : s.vm.findClass RX4 = some m.cls := findClass_of_methodNamed B.named
  have hlocks := B.notSynchronized
  have hinX4 : ∀ w ∈ u_ws RX4 TX4 14, w ∈ wsX4_takeBack := by decide +kernel
  subst hsz
  have hD := hD0.self (sz := s.heap.size)
  generalize hAe : kz_A [mdW G a M] s.heap.size = A at hD ⊢
  have hA : ∀ q : Nat, s.heap.size ≤ q → A q := fun q h => by rw [← hAe]; exact Or.inr h
  have hS : va_S A s.heap s.heap [] := va_S.rf
  have hl := lv_entry ([.ref (a 0)]) (n := 2) (Nat.le_of_ble_eq_true rfl)
  rw [lg_entry_eq]
  generalize (lg_sl ([.ref (a 0)]) ++ List.replicate (2 - (lg_sl ([.ref (a 0)])).length) Slot.unset).toArray = ls at hl ⊢
  have hl : lv_has ls 2 [(0, .ref (a 0))] := hl
  refine kz_start (fun QQ hQ => ?_)
  have hP : kz_P G [mdW G a M] s.heap := hP
  refine lv_iconst (v := 0) hx hb dX4_takeBack_0 (by decide +kernel) ?_
  refine lv_istore_n (lv' := [(1, .int 0), (0, .ref (a 0))]) hx hb dX4_takeBack_1 rfl hl (by decide) rfl (fun ls hl => ?_)
  have L2_1 : ∀ (n2 : Nat) (i : Nat) (P1 : Nat → Int32), (580 - i < n2) → (i ≤ 580) → (P1 = va_cpy (M 5) (M 0) 0 0 i) → ∀ (H : Heap) (locs : List Loc), kz_P G [mdW G a (va_up M 0 P1)] H → kz_D A [mdW G a (va_up M 0 P1)] → va_S A s.heap H locs → ∀ ls : Array Slot, lv_has ls 2 [(1, .int (nI i)), (0, .ref (a 0))] → W p l e (headSpec wsX4_takeBack (kz_rm 0 0)).room s m ([.ref (a 0)] : List Value).toArray below meth c H locs 0 0 QQ (F0 m 2 ls []) := by
    intro n2
    induction n2 with
    | zero => intro i P1 h0; exact absurd h0 (Nat.not_lt_zero _)
    | succ n2 ih2_2 =>
      intro i P1 hmeas2 hi1 hP1 H locs hP hD hS ls hl
      refine lv_iload_n hx hb dX4_takeBack_2 rfl (lv_at hl 0 rfl) ?_
      refine lv_sipush (v := 580) hx hb dX4_takeBack_3 (by decide +kernel) ?_
      refine lv_icmp_ge (tgt := 27) hx hb dX4_takeBack_6 (by decide) (fun c_3 => ?_) (fun c_3 => ?_)
      · have hge := kz_le (a := 580) (b := i) c_3 (by omega) (by omega)
        obtain rfl : i = 580 := by omega
        subst hQ
        have hP9 : kz_P G [mdW G a (va_up M 0 (X4_takeBack_c0 (M 0) (M 5)))] H := by rw [X4_takeBack_c0, ← hP1]; exact hP
        have hD9 : kz_D A [mdW G a (va_up M 0 (X4_takeBack_c0 (M 0) (M 5)))] := by rw [X4_takeBack_c0, ← hP1]; exact hD
        exact W.vret hx hb hr (fun t ht hW => ⟨⟨(), rfl, trivial, by rw [ht]; exact hP9, hD9⟩, hS.F ht⟩) hS.2.2 dX4_takeBack_27
      · have hlt := kz_gt (a := 580) (b := i) c_3 (by omega) (by omega)
        refine lv_aload_n hx hb dX4_takeBack_9 rfl (lv_at hl 1 rfl) ?_
        refine va_get (D := G.1) (ci := 4) (v := .ref (a 1)) (C := RX4) (T := TX4) (N := 14) hx hb hts hinX4 hown hK.1 hP 0 rfl rfl 0 (by decide) (hts (.fieldLink RX4 7 "ParcelShelvesModel" "z" "[I") (by decide +kernel)) (fun _ h9 => h9) rfl dX4_takeBack_10 ?_
        refine lv_iload_n hx hb dX4_takeBack_13 rfl (lv_at hl 0 rfl) ?_
        refine lv_aload_n hx hb dX4_takeBack_14 rfl (lv_at hl 1 rfl) ?_
        refine va_get (D := G.1) (ci := 4) (v := .ref (a 4)) (C := RX4) (T := TX4) (N := 14) hx hb hts hinX4 hown hK.1 hP 0 rfl rfl 5 (by decide) (hts (.fieldLink RX4 19 "ParcelShelvesModel" "aside" "[I") (by decide +kernel)) (fun _ h9 => h9) rfl dX4_takeBack_15 ?_
        refine lv_iload_n hx hb dX4_takeBack_18 rfl (lv_at hl 0 rfl) ?_
        refine va_iald (f := (M 5)) hx hb hK.1 hP 4 0 rfl rfl (vp_in_nI (n := i) (N := 580) (by omega) (by decide)) dX4_takeBack_19 ?_
        refine lv_topi (fun y_4 ey_5 => ?_)
        obtain rfl : y_4 = ((M 5) i) := by rw [ey_5, kz_nI_clamp (n := i) (by omega)]
        refine va_iast hx hb hK.1 hP hD hS 1 0 rfl rfl (vp_in_nI (n := i) (N := 580) (by omega) (by decide)) dX4_takeBack_20 (fun H locs hP hD hS => ?_)
        rw [kz_nI_clamp (n := i) (by omega)] at hP hD
        have hP : kz_P G [mdW G a (va_up M 0 (upd P1 i ((M 5) i)))] H := hP
        have hD : kz_D A [mdW G a (va_up M 0 (upd P1 i ((M 5) i)))] := hD
        refine lv_iinc (v := (nI (i + 1))) (lv' := [(1, .int (nI (i + 1))), (0, .ref (a 0))]) hx hb dX4_takeBack_21 hl (k := 0) rfl (nI_1 _) (by decide) rfl (fun ls hl => ?_)
        refine lv_goto (tgt := 2) hx hb dX4_takeBack_24 (by decide) ?_
        exact ih2_2 (i + 1) (upd P1 i ((M 5) i)) (by omega) (by omega) (kz_cp1 (by omega) (by omega) hP1) H locs hP hD hS ls (lv_sub hl [0, 1] rfl)
  exact L2_1 _ 0 (M 0) (Nat.lt_succ_self _) (by omega) kz_cp0 s.heap [] hP hD hS ls (lv_sub hl [0, 1] rfl)
