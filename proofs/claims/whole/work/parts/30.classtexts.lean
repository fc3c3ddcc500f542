def X2_dg (T : kz_S) (j : Nat) : Nat := (X2_endOfCommand_r T j - nI j - 1).toNatClampNeg
theorem kz_dg {T : kz_S} {j : Nat} (hl : ∃ n, n ≤ 80 ∧ T 1 0 = nI n) (hj : j < (T 1 0).toNatClampNeg) (hs : X2_signAt_r T (nI j) = 100) : ∃ e, j < e ∧ e ≤ 80 ∧ X2_endOfCommand_r T j = nI e := by
  obtain ⟨L, hL, e⟩ := hl
  have eL : (T 1 0).toNatClampNeg = L := by rw [e]; exact nI_clamp (by omega)
  rcases kz_ff_in (fun i => X2_signAt_r T (nI i) = 59) (T 1 0) ((T 1 0).toNatClampNeg - j) j with h | ⟨i, h1, h2, h3, h4⟩
  · exact ⟨L, by omega, hL, by rw [X2_endOfCommand_r, h, e]⟩
  · refine ⟨i, ?_, by omega, by rw [X2_endOfCommand_r, h4]⟩
    rcases Nat.lt_or_ge j i with c | c
    · exact c
    · have e2 : i = j := by omega
      rw [e2] at h3
      exact absurd (hs.symm.trans h3) (by decide)
theorem kz_dgN {T : kz_S} {j : Nat} (hl : ∃ n, n ≤ 80 ∧ T 1 0 = nI n) (hj : j < (T 1 0).toNatClampNeg) (hs : X2_signAt_r T (nI j) = 100) : X2_endOfCommand_r T j - nI j - 1 = nI (X2_dg T j) ∧ X2_dg T j ≤ 80 := by
  obtain ⟨e, h1, h2, h3⟩ := kz_dg hl hj hs
  have h4 : X2_endOfCommand_r T j - nI j - 1 = nI (e - j - 1) := by
    rw [h3, pk_sub (by omega)]
    exact pk_sub (a := e - j) (b := 1) (by omega)
  rw [X2_dg, h4, nI_clamp (by omega)]
  exact ⟨rfl, by omega⟩
def X3_executeCommand_r (V : kz_S) (S : kz_S) (T : kz_S) (j : Nat) : Int32 := if (X2_signAt_r T (nI j)) = 97 then (X3_letCome_r V S (X2_numberAt_r T (j + 1) 1) (X2_sizeAt_r T ((nI j) + 2))) else if (X2_signAt_r T (nI j)) = 100 then (X3_letPass_r S (X2_numberAt_r T (j + 1) (X2_dg T j))) else if (X2_signAt_r T (nI j)) = 109 then (X3_moveParcel_r V S (X2_numberAt_r T (j + 1) 4) (X2_numberAt_r T (j + 2 + 4) 1)) else if (X2_signAt_r T (nI j)) = 112 then (X3_letFetch_r V S (X2_numberAt_r T (j + 1) 4)) else if (X2_signAt_r T (nI j)) = 120 then (X3_letRefuse_r V S (X2_numberAt_r T (j + 1) 4)) else (-5)
def X3_executeCommand_s0 (V : kz_S) (S : kz_S) (T : kz_S) (j : Nat) : kz_S := if (X2_signAt_r T (nI j)) = 97 then (X3_letCome_s0 V S (X2_numberAt_r T (j + 1) 1) (X2_sizeAt_r T ((nI j) + 2))) else if (X2_signAt_r T (nI j)) = 100 then V else if (X2_signAt_r T (nI j)) = 109 then (X3_moveParcel_s0 V S (X2_numberAt_r T (j + 1) 4) (X2_numberAt_r T (j + 2 + 4) 1)) else if (X2_signAt_r T (nI j)) = 112 then (X3_letFetch_s0 V S (X2_numberAt_r T (j + 1) 4)) else if (X2_signAt_r T (nI j)) = 120 then (X3_letRefuse_s0 V S (X2_numberAt_r T (j + 1) 4)) else V
def X3_executeCommand_s1 (V : kz_S) (S : kz_S) (T : kz_S) (j : Nat) : kz_S := if (X2_signAt_r T (nI j)) = 97 then (X3_letCome_s1 V S (X2_numberAt_r T (j + 1) 1) (X2_sizeAt_r T ((nI j) + 2))) else if (X2_signAt_r T (nI j)) = 100 then (X3_letPass_s S (X2_numberAt_r T (j + 1) (X2_dg T j))) else if (X2_signAt_r T (nI j)) = 109 then (X3_moveParcel_s1 V S (X2_numberAt_r T (j + 1) 4) (X2_numberAt_r T (j + 2 + 4) 1)) else if (X2_signAt_r T (nI j)) = 112 then (X3_letFetch_s1 V S (X2_numberAt_r T (j + 1) 4)) else if (X2_signAt_r T (nI j)) = 120 then (X3_letRefuse_s1 V S (X2_numberAt_r T (j + 1) 4)) else S
set_option maxHeartbeats 1000000 in
set_option maxRecDepth 100000 in
theorem c_X3_executeCommand (l : Launch) (G : kz_G) (x : Nat) (u1 : Nat) (u2 : Nat) (u3 : Nat) (V : kz_S) (a : Nat → Nat) (S : kz_S) (t : Nat → Nat) (T : kz_S) (j : Nat) (hL0 : ∃ n, n ≤ 80 ∧ T 1 0 = nI n) (hch : ∀ k, k < 80 → ∃ c, c < 128 ∧ T 0 k = nI c) (hJ : kz_J S) (ht : ∃ d, d < 2 ^ 30 ∧ S 1 0 = nI d) (hj80 : j < (T 1 0).toNatClampNeg) : kz_mi l G yX3_executeCommand wsX3_executeCommand 5 113 [.ref x, .int (nI j)] [xoW x (a 0) u1 u2 u3 (t 0) V, shW G a S, txW G t T] [xoW x (a 0) u1 u2 u3 (t 0) (X3_executeCommand_s0 V S T j), shW G a (X3_executeCommand_s1 V S T j), txW G t T] (X3_executeCommand_r V S T j) := by
  intro sz
  refine Met.ofW (cc := cX3_executeCommand) (maxL := 2) (ret := (some .int)) (by decide) rfl ?_
  intro p e s m args below meth c s₁ B hml hv
  obtain ⟨rfl, hsz, hP, hK, hD0⟩ := hv
  have hx := B.exec
  have hb := B.bytes
  have hr := B.returns
  have hts := atoms_spec (ws := wsX3_executeCommand) B.pre
  have hown : s.vm.findClass RX3 = some m.cls := findClass_of_methodNamed B.named
  have hlocks := B.notSynchronized
  have hinX3 : ∀ w ∈ u_ws RX3 TX3 8, w ∈ wsX3_executeCommand := by decide +kernel
  subst hsz
  have hD := hD0.self (sz := s.heap.size)
  generalize hAe : kz_A [xoW x (a 0) u1 u2 u3 (t 0) V, shW G a S, txW G t T] s.heap.size = A at hD ⊢
  have hA : ∀ q : Nat, s.heap.size ≤ q → A q := fun q h => by rw [← hAe]; exact Or.inr h
  have hS : va_S A s.heap s.heap [] := va_S.rf
  have hl := lv_entry ([.ref x, .int (nI j)]) (n := 2) (Nat.le_of_ble_eq_true rfl)
  rw [lg_entry_eq]
  generalize (lg_sl ([.ref x, .int (nI j)]) ++ List.replicate (2 - (lg_sl ([.ref x, .int (nI j)])).length) Slot.unset).toArray = ls at hl ⊢
  have hl : lv_has ls 2 [(0, .ref x), (1, .int (nI j))] := hl
  refine kz_start (fun QQ hQ => ?_)
  have hP : kz_P G [xoW x (a 0) u1 u2 u3 (t 0) V, shW G a S, txW G t T] s.heap := hP
  obtain ⟨L, hL80, hL⟩ := id hL0
  have hLL : (T 1 0).toNatClampNeg = L := by rw [hL]; exact nI_clamp (by omega)
  refine lv_aload_n hx hb dX3_executeCommand_0 rfl (lv_at hl 0 rfl) ?_
  refine va_get (D := G.1) (ci := 3) (v := .ref (t 0)) (C := RX3) (T := TX3) (N := 8) hx hb hts hinX3 hown hK.1 hP 0 rfl rfl 4 (by decide) (hts (.fieldLink RX3 32 "ParcelShelves" "text" "LParcelShelves$Text;") (by decide +kernel)) (fun _ h9 => h9) rfl dX3_executeCommand_1 ?_
  refine lv_iload_n hx hb dX3_executeCommand_4 rfl (lv_at hl 1 rfl) ?_
  refine kz_rdV (As := [.int (nI j)]) (rest := []) (b := t 0) ⟨hx, hb, hml, hown, hts⟩ (c_X2_signAt l G t T (nI j) (by assumption) (by assumption)) (cwV 1 hts gX3_executeCommand_X2_signAt rfl rfl rfl (by decide +kernel) ⟨Nat.le_of_ble_eq_true rfl, Nat.le_of_ble_eq_true rfl⟩) hK (hP.sub (cs := [txW G t T]) [2] rfl) (kz_recv hK hP (ci := 2) (q0 := 12) rfl rfl) rfl hl.1 rfl (Nat.le_of_ble_eq_true rfl) dX3_executeCommand_5 ⟨Nat.le_of_ble_eq_true rfl, Nat.le_of_ble_eq_true rfl⟩ ?_
  refine lv_topi (fun y_1 ey_2 => ?_)
  by_cases c_3 : y_1 = 97
  · have c_4 : (X2_signAt_r T (nI j)) = 97 := by rw [← ey_2]; exact c_3
    subst c_3
    refine lv_lookup (off := 52) (tgt := 60) hx hb dX3_executeCommand_8 (by decide +kernel) (by decide +kernel) (by decide) ?_
    refine lv_aload_n hx hb dX3_executeCommand_60 rfl (lv_at hl 0 rfl) ?_
    refine lv_aload_n hx hb dX3_executeCommand_61 rfl (lv_at hl 0 rfl) ?_
    refine va_get (D := G.1) (ci := 3) (v := .ref (t 0)) (C := RX3) (T := TX3) (N := 8) hx hb hts hinX3 hown hK.1 hP 0 rfl rfl 4 (by decide) (hts (.fieldLink RX3 32 "ParcelShelves" "text" "LParcelShelves$Text;") (by decide +kernel)) (fun _ h9 => h9) rfl dX3_executeCommand_62 ?_
    refine lv_iload_n hx hb dX3_executeCommand_65 rfl (lv_at hl 1 rfl) ?_
    refine lv_iconst (v := 1) hx hb dX3_executeCommand_66 (by decide +kernel) ?_
    refine lv_iadd hx hb dX3_executeCommand_67 ?_
    refine lv_topi (fun y_5 ey_6 => ?_)
    obtain rfl : y_5 = (nI (j + 1)) := by rw [ey_6]; exact nI_1 _
    refine lv_iconst (v := 1) hx hb dX3_executeCommand_68 (by decide +kernel) ?_
    refine kz_rdV (As := [.int (nI (j + 1)), .int 1]) (rest := [.ref x]) (b := t 0) ⟨hx, hb, hml, hown, hts⟩ (c_X2_numberAt l G t T (j + 1) 1 (by omega) (by assumption) (by assumption)) (cwV 2 hts gX3_executeCommand_X2_numberAt rfl rfl rfl (by decide +kernel) ⟨Nat.le_of_ble_eq_true rfl, Nat.le_of_ble_eq_true rfl⟩) hK (hP.sub (cs := [txW G t T]) [2] rfl) (kz_recv hK hP (ci := 2) (q0 := 12) rfl rfl) rfl hl.1 rfl (Nat.le_of_ble_eq_true rfl) dX3_executeCommand_69 ⟨Nat.le_of_ble_eq_true rfl, Nat.le_of_ble_eq_true rfl⟩ ?_
    refine lv_aload_n hx hb dX3_executeCommand_72 rfl (lv_at hl 0 rfl) ?_
    refine va_get (D := G.1) (ci := 3) (v := .ref (t 0)) (C := RX3) (T := TX3) (N := 8) hx hb hts hinX3 hown hK.1 hP 0 rfl rfl 4 (by decide) (hts (.fieldLink RX3 32 "ParcelShelves" "text" "LParcelShelves$Text;") (by decide +kernel)) (fun _ h9 => h9) rfl dX3_executeCommand_73 ?_
    refine lv_iload_n hx hb dX3_executeCommand_76 rfl (lv_at hl 1 rfl) ?_
    refine lv_iconst (v := 2) hx hb dX3_executeCommand_77 (by decide +kernel) ?_
    refine lv_iadd hx hb dX3_executeCommand_78 ?_
    refine kz_rdV (As := [.int ((nI j) + 2)]) (rest := [.int (X2_numberAt_r T (j + 1) 1), .ref x]) (b := t 0) ⟨hx, hb, hml, hown, hts⟩ (c_X2_sizeAt l G t T ((nI j) + 2) (by assumption) (by assumption)) (cwV 1 hts gX3_executeCommand_X2_sizeAt rfl rfl rfl (by decide +kernel) ⟨Nat.le_of_ble_eq_true rfl, Nat.le_of_ble_eq_true rfl⟩) hK (hP.sub (cs := [txW G t T]) [2] rfl) (kz_recv hK hP (ci := 2) (q0 := 12) rfl rfl) rfl hl.1 rfl (Nat.le_of_ble_eq_true rfl) dX3_executeCommand_79 ⟨Nat.le_of_ble_eq_true rfl, Nat.le_of_ble_eq_true rfl⟩ ?_
    refine kz_miV (As := [.int (X2_numberAt_r T (j + 1) 1), .int (X2_sizeAt_r T ((nI j) + 2))]) (rest := []) (b := x) (wr := [txW G t T]) (bs' := [xoW x (a 0) u1 u2 u3 (t 0) (X3_letCome_s0 V S (X2_numberAt_r T (j + 1) 1) (X2_sizeAt_r T ((nI j) + 2))), shW G a (X3_letCome_s1 V S (X2_numberAt_r T (j + 1) 1) (X2_sizeAt_r T ((nI j) + 2))), txW G t T]) ⟨hx, hb, hml, hown, hts⟩ (c_X3_letCome l G x u1 u2 u3 (t 0) V a S (X2_numberAt_r T (j + 1) 1) (X2_sizeAt_r T ((nI j) + 2)) (by assumption)) (cwV 2 hts gX3_executeCommand_X3_letCome rfl rfl rfl (by decide +kernel) ⟨Nat.le_of_ble_eq_true rfl, Nat.le_of_ble_eq_true rfl⟩) hK hP hD hS hA [0, 1] [2] [1, 2, 0] rfl (by decide) rfl (by decide) (by decide) rfl (by decide) (kz_recv hK hP (ci := 3) (q0 := 0) rfl rfl) rfl hl.1 rfl (Nat.le_of_ble_eq_true rfl) dX3_executeCommand_82 ⟨Nat.le_of_ble_eq_true rfl, Nat.le_of_ble_eq_true rfl⟩ (fun H locs hP hD hS => ?_)
    subst hQ
    have hP9 : kz_P G [xoW x (a 0) u1 u2 u3 (t 0) (X3_executeCommand_s0 V S T j), shW G a (X3_executeCommand_s1 V S T j), txW G t T] H := by rw [X3_executeCommand_s0, if_pos c_4]; rw [X3_executeCommand_s1, if_pos c_4]; exact hP
    have hD9 : kz_D A [xoW x (a 0) u1 u2 u3 (t 0) (X3_executeCommand_s0 V S T j), shW G a (X3_executeCommand_s1 V S T j), txW G t T] := by rw [X3_executeCommand_s0, if_pos c_4]; rw [X3_executeCommand_s1, if_pos c_4]; exact hD
    exact W.iret (v := (X3_letCome_r V S (X2_numberAt_r T (j + 1) 1) (X2_sizeAt_r T ((nI j) + 2)))) hx hb hr (fun t ht hW => ⟨⟨(X3_letCome_r V S (X2_numberAt_r T (j + 1) 1) (X2_sizeAt_r T ((nI j) + 2))), (), rfl, (by rw [X3_executeCommand_r, if_pos c_4]), by rw [ht]; exact hP9, hD9⟩, hS.F ht⟩) hS.2.2 dX3_executeCommand_85
  · have c_7 : ¬ (X2_signAt_r T (nI j)) = 97 := by rw [← ey_2]; exact c_3
    by_cases c_8 : y_1 = 100
    · have c_9 : (X2_signAt_r T (nI j)) = 100 := by rw [← ey_2]; exact c_8
      subst c_8
      refine lv_lookup (off := 139) (tgt := 147) hx hb dX3_executeCommand_8 (by decide +kernel) (by decide +kernel) (by decide) ?_
      refine lv_aload_n hx hb dX3_executeCommand_147 rfl (lv_at hl 0 rfl) ?_
      refine lv_aload_n hx hb dX3_executeCommand_148 rfl (lv_at hl 0 rfl) ?_
      refine va_get (D := G.1) (ci := 3) (v := .ref (t 0)) (C := RX3) (T := TX3) (N := 8) hx hb hts hinX3 hown hK.1 hP 0 rfl rfl 4 (by decide) (hts (.fieldLink RX3 32 "ParcelShelves" "text" "LParcelShelves$Text;") (by decide +kernel)) (fun _ h9 => h9) rfl dX3_executeCommand_149 ?_
      refine lv_iload_n hx hb dX3_executeCommand_152 rfl (lv_at hl 1 rfl) ?_
      refine lv_iconst (v := 1) hx hb dX3_executeCommand_153 (by decide +kernel) ?_
      refine lv_iadd hx hb dX3_executeCommand_154 ?_
      refine lv_topi (fun y_10 ey_11 => ?_)
      obtain rfl : y_10 = (nI (j + 1)) := by rw [ey_11]; exact nI_1 _
      refine lv_aload_n hx hb dX3_executeCommand_155 rfl (lv_at hl 0 rfl) ?_
      refine va_get (D := G.1) (ci := 3) (v := .ref (t 0)) (C := RX3) (T := TX3) (N := 8) hx hb hts hinX3 hown hK.1 hP 0 rfl rfl 4 (by decide) (hts (.fieldLink RX3 32 "ParcelShelves" "text" "LParcelShelves$Text;") (by decide +kernel)) (fun _ h9 => h9) rfl dX3_executeCommand_156 ?_
      refine lv_iload_n hx hb dX3_executeCommand_159 rfl (lv_at hl 1 rfl) ?_
      refine kz_rdV (As := [.int (nI j)]) (rest := [.int (nI (j + 1)), .ref (t 0), .ref x]) (b := t 0) ⟨hx, hb, hml, hown, hts⟩ (c_X2_endOfCommand l G t T j (by omega) (by assumption) (by assumption)) (cwV 1 hts gX3_executeCommand_X2_endOfCommand rfl rfl rfl (by decide +kernel) ⟨Nat.le_of_ble_eq_true rfl, Nat.le_of_ble_eq_true rfl⟩) hK (hP.sub (cs := [txW G t T]) [2] rfl) (kz_recv hK hP (ci := 2) (q0 := 12) rfl rfl) rfl hl.1 rfl (Nat.le_of_ble_eq_true rfl) dX3_executeCommand_160 ⟨Nat.le_of_ble_eq_true rfl, Nat.le_of_ble_eq_true rfl⟩ ?_
      refine lv_iload_n hx hb dX3_executeCommand_163 rfl (lv_at hl 1 rfl) ?_
      refine lv_isub hx hb dX3_executeCommand_164 ?_
      refine lv_iconst (v := 1) hx hb dX3_executeCommand_165 (by decide +kernel) ?_
      refine lv_isub hx hb dX3_executeCommand_166 ?_
      refine lv_topi (fun y_12 ey_13 => ?_)
      obtain rfl : y_12 = (nI (X2_dg T j)) := by rw [ey_13]; exact (kz_dgN hL0 hj80 c_9).1
      have hdg := (kz_dgN hL0 hj80 c_9).2
      refine kz_rdV (As := [.int (nI (j + 1)), .int (nI (X2_dg T j))]) (rest := [.ref x]) (b := t 0) ⟨hx, hb, hml, hown, hts⟩ (c_X2_numberAt l G t T (j + 1) (X2_dg T j) (by omega) (by assumption) (by assumption)) (cwV 2 hts gX3_executeCommand_X2_numberAt rfl rfl rfl (by decide +kernel) ⟨Nat.le_of_ble_eq_true rfl, Nat.le_of_ble_eq_true rfl⟩) hK (hP.sub (cs := [txW G t T]) [2] rfl) (kz_recv hK hP (ci := 2) (q0 := 12) rfl rfl) rfl hl.1 rfl (Nat.le_of_ble_eq_true rfl) dX3_executeCommand_167 ⟨Nat.le_of_ble_eq_true rfl, Nat.le_of_ble_eq_true rfl⟩ ?_
      refine kz_miV (As := [.int (X2_numberAt_r T (j + 1) (X2_dg T j))]) (rest := []) (b := x) (wr := [txW G t T]) (bs' := [xoW x (a 0) u1 u2 u3 (t 0) V, shW G a (X3_letPass_s S (X2_numberAt_r T (j + 1) (X2_dg T j))), txW G t T]) ⟨hx, hb, hml, hown, hts⟩ (c_X3_letPass l G x u1 u2 u3 (t 0) V a S (X2_numberAt_r T (j + 1) (X2_dg T j)) (by assumption)) (cwV 1 hts gX3_executeCommand_X3_letPass rfl rfl rfl (by decide +kernel) ⟨Nat.le_of_ble_eq_true rfl, Nat.le_of_ble_eq_true rfl⟩) hK hP hD hS hA [0, 1] [2] [1, 2, 0] rfl (by decide) rfl (by decide) (by decide) rfl (by decide) (kz_recv hK hP (ci := 3) (q0 := 0) rfl rfl) rfl hl.1 rfl (Nat.le_of_ble_eq_true rfl) dX3_executeCommand_170 ⟨Nat.le_of_ble_eq_true rfl, Nat.le_of_ble_eq_true rfl⟩ (fun H locs hP hD hS => ?_)
      subst hQ
      have hP9 : kz_P G [xoW x (a 0) u1 u2 u3 (t 0) (X3_executeCommand_s0 V S T j), shW G a (X3_executeCommand_s1 V S T j), txW G t T] H := by rw [X3_executeCommand_s0, if_neg c_7, if_pos c_9]; rw [X3_executeCommand_s1, if_neg c_7, if_pos c_9]; exact hP
      have hD9 : kz_D A [xoW x (a 0) u1 u2 u3 (t 0) (X3_executeCommand_s0 V S T j), shW G a (X3_executeCommand_s1 V S T j), txW G t T] := by rw [X3_executeCommand_s0, if_neg c_7, if_pos c_9]; rw [X3_executeCommand_s1, if_neg c_7, if_pos c_9]; exact hD
      exact W.iret (v := (X3_letPass_r S (X2_numberAt_r T (j + 1) (X2_dg T j)))) hx hb hr (fun t ht hW => ⟨⟨(X3_letPass_r S (X2_numberAt_r T (j + 1) (X2_dg T j))), (), rfl, (by rw [X3_executeCommand_r, if_neg c_7, if_pos c_9]), by rw [ht]; exact hP9, hD9⟩, hS.F ht⟩) hS.2.2 dX3_executeCommand_173
    · have c_14 : ¬ (X2_signAt_r T (nI j)) = 100 := by rw [← ey_2]; exact c_8
      by_cases c_15 : y_1 = 109
      · have c_16 : (X2_signAt_r T (nI j)) = 109 := by rw [← ey_2]; exact c_15
        subst c_15
        refine lv_lookup (off := 110) (tgt := 118) hx hb dX3_executeCommand_8 (by decide +kernel) (by decide +kernel) (by decide) ?_
        refine lv_aload_n hx hb dX3_executeCommand_118 rfl (lv_at hl 0 rfl) ?_
        refine lv_aload_n hx hb dX3_executeCommand_119 rfl (lv_at hl 0 rfl) ?_
        refine va_get (D := G.1) (ci := 3) (v := .ref (t 0)) (C := RX3) (T := TX3) (N := 8) hx hb hts hinX3 hown hK.1 hP 0 rfl rfl 4 (by decide) (hts (.fieldLink RX3 32 "ParcelShelves" "text" "LParcelShelves$Text;") (by decide +kernel)) (fun _ h9 => h9) rfl dX3_executeCommand_120 ?_
        refine lv_iload_n hx hb dX3_executeCommand_123 rfl (lv_at hl 1 rfl) ?_
        refine lv_iconst (v := 1) hx hb dX3_executeCommand_124 (by decide +kernel) ?_
        refine lv_iadd hx hb dX3_executeCommand_125 ?_
        refine lv_topi (fun y_17 ey_18 => ?_)
        obtain rfl : y_17 = (nI (j + 1)) := by rw [ey_18]; exact nI_1 _
        refine lv_iconst (v := 4) hx hb dX3_executeCommand_126 (by decide +kernel) ?_
        refine kz_rdV (As := [.int (nI (j + 1)), .int 4]) (rest := [.ref x]) (b := t 0) ⟨hx, hb, hml, hown, hts⟩ (c_X2_numberAt l G t T (j + 1) 4 (by omega) (by assumption) (by assumption)) (cwV 2 hts gX3_executeCommand_X2_numberAt rfl rfl rfl (by decide +kernel) ⟨Nat.le_of_ble_eq_true rfl, Nat.le_of_ble_eq_true rfl⟩) hK (hP.sub (cs := [txW G t T]) [2] rfl) (kz_recv hK hP (ci := 2) (q0 := 12) rfl rfl) rfl hl.1 rfl (Nat.le_of_ble_eq_true rfl) dX3_executeCommand_127 ⟨Nat.le_of_ble_eq_true rfl, Nat.le_of_ble_eq_true rfl⟩ ?_
        refine lv_aload_n hx hb dX3_executeCommand_130 rfl (lv_at hl 0 rfl) ?_
        refine va_get (D := G.1) (ci := 3) (v := .ref (t 0)) (C := RX3) (T := TX3) (N := 8) hx hb hts hinX3 hown hK.1 hP 0 rfl rfl 4 (by decide) (hts (.fieldLink RX3 32 "ParcelShelves" "text" "LParcelShelves$Text;") (by decide +kernel)) (fun _ h9 => h9) rfl dX3_executeCommand_131 ?_
        refine lv_iload_n hx hb dX3_executeCommand_134 rfl (lv_at hl 1 rfl) ?_
        refine lv_iconst (v := 2) hx hb dX3_executeCommand_135 (by decide +kernel) ?_
        refine lv_iadd hx hb dX3_executeCommand_136 ?_
        refine lv_topi (fun y_19 ey_20 => ?_)
        obtain rfl : y_19 = (nI (j + 2)) := by rw [ey_20]; exact nI_add _ 2
        refine lv_iconst (v := 4) hx hb dX3_executeCommand_137 (by decide +kernel) ?_
        refine lv_iadd hx hb dX3_executeCommand_138 ?_
        refine lv_topi (fun y_21 ey_22 => ?_)
        obtain rfl : y_21 = (nI (j + 2 + 4)) := by rw [ey_22]; exact nI_add _ 4
        refine lv_iconst (v := 1) hx hb dX3_executeCommand_139 (by decide +kernel) ?_
        refine kz_rdV (As := [.int (nI (j + 2 + 4)), .int 1]) (rest := [.int (X2_numberAt_r T (j + 1) 4), .ref x]) (b := t 0) ⟨hx, hb, hml, hown, hts⟩ (c_X2_numberAt l G t T (j + 2 + 4) 1 (by omega) (by assumption) (by assumption)) (cwV 2 hts gX3_executeCommand_X2_numberAt rfl rfl rfl (by decide +kernel) ⟨Nat.le_of_ble_eq_true rfl, Nat.le_of_ble_eq_true rfl⟩) hK (hP.sub (cs := [txW G t T]) [2] rfl) (kz_recv hK hP (ci := 2) (q0 := 12) rfl rfl) rfl hl.1 rfl (Nat.le_of_ble_eq_true rfl) dX3_executeCommand_140 ⟨Nat.le_of_ble_eq_true rfl, Nat.le_of_ble_eq_true rfl⟩ ?_
        refine kz_miV (As := [.int (X2_numberAt_r T (j + 1) 4), .int (X2_numberAt_r T (j + 2 + 4) 1)]) (rest := []) (b := x) (wr := [txW G t T]) (bs' := [xoW x (a 0) u1 u2 u3 (t 0) (X3_moveParcel_s0 V S (X2_numberAt_r T (j + 1) 4) (X2_numberAt_r T (j + 2 + 4) 1)), shW G a (X3_moveParcel_s1 V S (X2_numberAt_r T (j + 1) 4) (X2_numberAt_r T (j + 2 + 4) 1)), txW G t T]) ⟨hx, hb, hml, hown, hts⟩ (c_X3_moveParcel l G x u1 u2 u3 (t 0) V a S (X2_numberAt_r T (j + 1) 4) (X2_numberAt_r T (j + 2 + 4) 1) (by assumption) (by assumption)) (cwV 2 hts gX3_executeCommand_X3_moveParcel rfl rfl rfl (by decide +kernel) ⟨Nat.le_of_ble_eq_true rfl, Nat.le_of_ble_eq_true rfl⟩) hK hP hD hS hA [0, 1] [2] [1, 2, 0] rfl (by decide) rfl (by decide) (by decide) rfl (by decide) (kz_recv hK hP (ci := 3) (q0 := 0) rfl rfl) rfl hl.1 rfl (Nat.le_of_ble_eq_true rfl) dX3_executeCommand_143 ⟨Nat.le_of_ble_eq_true rfl, Nat.le_of_ble_eq_true rfl⟩ (fun H locs hP hD hS => ?_)
        subst hQ
        have hP9 : kz_P G [xoW x (a 0) u1 u2 u3 (t 0) (X3_executeCommand_s0 V S T j), shW G a (X3_executeCommand_s1 V S T j), txW G t T] H := by rw [X3_executeCommand_s0, if_neg c_7, if_neg c_14, if_pos c_16]; rw [X3_executeCommand_s1, if_neg c_7, if_neg c_14, if_pos c_16]; exact hP
        have hD9 : kz_D A [xoW x (a 0) u1 u2 u3 (t 0) (X3_executeCommand_s0 V S T j), shW G a (X3_executeCommand_s1 V S T j), txW G t T] := by rw [X3_executeCommand_s0, if_neg c_7, if_neg c_14, if_pos c_16]; rw [X3_executeCommand_s1, if_neg c_7, if_neg c_14, if_pos c_16]; exact hD
        exact W.iret (v := (X3_moveParcel_r V S (X2_numberAt_r T (j + 1) 4) (X2_numberAt_r T (j + 2 + 4) 1))) hx hb hr (fun t ht hW => ⟨⟨(X3_moveParcel_r V S (X2_numberAt_r T (j + 1) 4) (X2_numberAt_r T (j + 2 + 4) 1)), (), rfl, (by rw [X3_executeCommand_r, if_neg c_7, if_neg c_14, if_pos c_16]), by rw [ht]; exact hP9, hD9⟩, hS.F ht⟩) hS.2.2 dX3_executeCommand_146
      · have c_23 : ¬ (X2_signAt_r T (nI j)) = 109 := by rw [← ey_2]; exact c_15
        by_cases c_24 : y_1 = 112
        · have c_25 : (X2_signAt_r T (nI j)) = 112 := by rw [← ey_2]; exact c_24
          subst c_24
          refine lv_lookup (off := 78) (tgt := 86) hx hb dX3_executeCommand_8 (by decide +kernel) (by decide +kernel) (by decide) ?_
          refine lv_aload_n hx hb dX3_executeCommand_86 rfl (lv_at hl 0 rfl) ?_
          refine lv_aload_n hx hb dX3_executeCommand_87 rfl (lv_at hl 0 rfl) ?_
          refine va_get (D := G.1) (ci := 3) (v := .ref (t 0)) (C := RX3) (T := TX3) (N := 8) hx hb hts hinX3 hown hK.1 hP 0 rfl rfl 4 (by decide) (hts (.fieldLink RX3 32 "ParcelShelves" "text" "LParcelShelves$Text;") (by decide +kernel)) (fun _ h9 => h9) rfl dX3_executeCommand_88 ?_
          refine lv_iload_n hx hb dX3_executeCommand_91 rfl (lv_at hl 1 rfl) ?_
          refine lv_iconst (v := 1) hx hb dX3_executeCommand_92 (by decide +kernel) ?_
          refine lv_iadd hx hb dX3_executeCommand_93 ?_
          refine lv_topi (fun y_26 ey_27 => ?_)
          obtain rfl : y_26 = (nI (j + 1)) := by rw [ey_27]; exact nI_1 _
          refine lv_iconst (v := 4) hx hb dX3_executeCommand_94 (by decide +kernel) ?_
          refine kz_rdV (As := [.int (nI (j + 1)), .int 4]) (rest := [.ref x]) (b := t 0) ⟨hx, hb, hml, hown, hts⟩ (c_X2_numberAt l G t T (j + 1) 4 (by omega) (by assumption) (by assumption)) (cwV 2 hts gX3_executeCommand_X2_numberAt rfl rfl rfl (by decide +kernel) ⟨Nat.le_of_ble_eq_true rfl, Nat.le_of_ble_eq_true rfl⟩) hK (hP.sub (cs := [txW G t T]) [2] rfl) (kz_recv hK hP (ci := 2) (q0 := 12) rfl rfl) rfl hl.1 rfl (Nat.le_of_ble_eq_true rfl) dX3_executeCommand_95 ⟨Nat.le_of_ble_eq_true rfl, Nat.le_of_ble_eq_true rfl⟩ ?_
          refine kz_miV (As := [.int (X2_numberAt_r T (j + 1) 4)]) (rest := []) (b := x) (wr := [txW G t T]) (bs' := [xoW x (a 0) u1 u2 u3 (t 0) (X3_letFetch_s0 V S (X2_numberAt_r T (j + 1) 4)), shW G a (X3_letFetch_s1 V S (X2_numberAt_r T (j + 1) 4)), txW G t T]) ⟨hx, hb, hml, hown, hts⟩ (c_X3_letFetch l G x u1 u2 u3 (t 0) V a S (X2_numberAt_r T (j + 1) 4) (by assumption)) (cwV 1 hts gX3_executeCommand_X3_letFetch rfl rfl rfl (by decide +kernel) ⟨Nat.le_of_ble_eq_true rfl, Nat.le_of_ble_eq_true rfl⟩) hK hP hD hS hA [0, 1] [2] [1, 2, 0] rfl (by decide) rfl (by decide) (by decide) rfl (by decide) (kz_recv hK hP (ci := 3) (q0 := 0) rfl rfl) rfl hl.1 rfl (Nat.le_of_ble_eq_true rfl) dX3_executeCommand_98 ⟨Nat.le_of_ble_eq_true rfl, Nat.le_of_ble_eq_true rfl⟩ (fun H locs hP hD hS => ?_)
          subst hQ
          have hP9 : kz_P G [xoW x (a 0) u1 u2 u3 (t 0) (X3_executeCommand_s0 V S T j), shW G a (X3_executeCommand_s1 V S T j), txW G t T] H := by rw [X3_executeCommand_s0, if_neg c_7, if_neg c_14, if_neg c_23, if_pos c_25]; rw [X3_executeCommand_s1, if_neg c_7, if_neg c_14, if_neg c_23, if_pos c_25]; exact hP
          have hD9 : kz_D A [xoW x (a 0) u1 u2 u3 (t 0) (X3_executeCommand_s0 V S T j), shW G a (X3_executeCommand_s1 V S T j), txW G t T] := by rw [X3_executeCommand_s0, if_neg c_7, if_neg c_14, if_neg c_23, if_pos c_25]; rw [X3_executeCommand_s1, if_neg c_7, if_neg c_14, if_neg c_23, if_pos c_25]; exact hD
          exact W.iret (v := (X3_letFetch_r V S (X2_numberAt_r T (j + 1) 4))) hx hb hr (fun t ht hW => ⟨⟨(X3_letFetch_r V S (X2_numberAt_r T (j + 1) 4)), (), rfl, (by rw [X3_executeCommand_r, if_neg c_7, if_neg c_14, if_neg c_23, if_pos c_25]), by rw [ht]; exact hP9, hD9⟩, hS.F ht⟩) hS.2.2 dX3_executeCommand_101
        · have c_28 : ¬ (X2_signAt_r T (nI j)) = 112 := by rw [← ey_2]; exact c_24
          by_cases c_29 : y_1 = 120
          · have c_30 : (X2_signAt_r T (nI j)) = 120 := by rw [← ey_2]; exact c_29
            subst c_29
            refine lv_lookup (off := 94) (tgt := 102) hx hb dX3_executeCommand_8 (by decide +kernel) (by decide +kernel) (by decide) ?_
            refine lv_aload_n hx hb dX3_executeCommand_102 rfl (lv_at hl 0 rfl) ?_
            refine lv_aload_n hx hb dX3_executeCommand_103 rfl (lv_at hl 0 rfl) ?_
            refine va_get (D := G.1) (ci := 3) (v := .ref (t 0)) (C := RX3) (T := TX3) (N := 8) hx hb hts hinX3 hown hK.1 hP 0 rfl rfl 4 (by decide) (hts (.fieldLink RX3 32 "ParcelShelves" "text" "LParcelShelves$Text;") (by decide +kernel)) (fun _ h9 => h9) rfl dX3_executeCommand_104 ?_
            refine lv_iload_n hx hb dX3_executeCommand_107 rfl (lv_at hl 1 rfl) ?_
            refine lv_iconst (v := 1) hx hb dX3_executeCommand_108 (by decide +kernel) ?_
            refine lv_iadd hx hb dX3_executeCommand_109 ?_
            refine lv_topi (fun y_31 ey_32 => ?_)
            obtain rfl : y_31 = (nI (j + 1)) := by rw [ey_32]; exact nI_1 _
            refine lv_iconst (v := 4) hx hb dX3_executeCommand_110 (by decide +kernel) ?_
            refine kz_rdV (As := [.int (nI (j + 1)), .int 4]) (rest := [.ref x]) (b := t 0) ⟨hx, hb, hml, hown, hts⟩ (c_X2_numberAt l G t T (j + 1) 4 (by omega) (by assumption) (by assumption)) (cwV 2 hts gX3_executeCommand_X2_numberAt rfl rfl rfl (by decide +kernel) ⟨Nat.le_of_ble_eq_true rfl, Nat.le_of_ble_eq_true rfl⟩) hK (hP.sub (cs := [txW G t T]) [2] rfl) (kz_recv hK hP (ci := 2) (q0 := 12) rfl rfl) rfl hl.1 rfl (Nat.le_of_ble_eq_true rfl) dX3_executeCommand_111 ⟨Nat.le_of_ble_eq_true rfl, Nat.le_of_ble_eq_true rfl⟩ ?_
            refine kz_miV (As := [.int (X2_numberAt_r T (j + 1) 4)]) (rest := []) (b := x) (wr := [txW G t T]) (bs' := [xoW x (a 0) u1 u2 u3 (t 0) (X3_letRefuse_s0 V S (X2_numberAt_r T (j + 1) 4)), shW G a (X3_letRefuse_s1 V S (X2_numberAt_r T (j + 1) 4)), txW G t T]) ⟨hx, hb, hml, hown, hts⟩ (c_X3_letRefuse l G x u1 u2 u3 (t 0) V a S (X2_numberAt_r T (j + 1) 4) (by assumption)) (cwV 1 hts gX3_executeCommand_X3_letRefuse rfl rfl rfl (by decide +kernel) ⟨Nat.le_of_ble_eq_true rfl, Nat.le_of_ble_eq_true rfl⟩) hK hP hD hS hA [0, 1] [2] [1, 2, 0] rfl (by decide) rfl (by decide) (by decide) rfl (by decide) (kz_recv hK hP (ci := 3) (q0 := 0) rfl rfl) rfl hl.1 rfl (Nat.le_of_ble_eq_true rfl) dX3_executeCommand_114 ⟨Nat.le_of_ble_eq_true rfl, Nat.le_of_ble_eq_true rfl⟩ (fun H locs hP hD hS => ?_)
            subst hQ
            have hP9 : kz_P G [xoW x (a 0) u1 u2 u3 (t 0) (X3_executeCommand_s0 V S T j), shW G a (X3_executeCommand_s1 V S T j), txW G t T] H := by rw [X3_executeCommand_s0, if_neg c_7, if_neg c_14, if_neg c_23, if_neg c_28, if_pos c_30]; rw [X3_executeCommand_s1, if_neg c_7, if_neg c_14, if_neg c_23, if_neg c_28, if_pos c_30]; exact hP
            have hD9 : kz_D A [xoW x (a 0) u1 u2 u3 (t 0) (X3_executeCommand_s0 V S T j), shW G a (X3_executeCommand_s1 V S T j), txW G t T] := by rw [X3_executeCommand_s0, if_neg c_7, if_neg c_14, if_neg c_23, if_neg c_28, if_pos c_30]; rw [X3_executeCommand_s1, if_neg c_7, if_neg c_14, if_neg c_23, if_neg c_28, if_pos c_30]; exact hD
            exact W.iret (v := (X3_letRefuse_r V S (X2_numberAt_r T (j + 1) 4))) hx hb hr (fun t ht hW => ⟨⟨(X3_letRefuse_r V S (X2_numberAt_r T (j + 1) 4)), (), rfl, (by rw [X3_executeCommand_r, if_neg c_7, if_neg c_14, if_neg c_23, if_neg c_28, if_pos c_30]), by rw [ht]; exact hP9, hD9⟩, hS.F ht⟩) hS.2.2 dX3_executeCommand_117
          · have c_33 : ¬ (X2_signAt_r T (nI j)) = 120 := by rw [← ey_2]; exact c_29
            refine lv_lookup (off := 166) (tgt := 174) hx hb dX3_executeCommand_8 (by decide +kernel) (by rw [lv_osw c_3 (by decide +kernel)]; rw [lv_osw c_8 (by decide +kernel)]; rw [lv_osw c_15 (by decide +kernel)]; rw [lv_osw c_24 (by decide +kernel)]; rw [lv_osw c_29 (by decide +kernel)]; rfl) (by decide) ?_
            refine lv_bipush (v := (-5)) hx hb dX3_executeCommand_174 (by decide +kernel) ?_
            subst hQ
            have hP9 : kz_P G [xoW x (a 0) u1 u2 u3 (t 0) (X3_executeCommand_s0 V S T j), shW G a (X3_executeCommand_s1 V S T j), txW G t T] s.heap := by rw [X3_executeCommand_s0, if_neg c_7, if_neg c_14, if_neg c_23, if_neg c_28, if_neg c_33]; rw [X3_executeCommand_s1, if_neg c_7, if_neg c_14, if_neg c_23, if_neg c_28, if_neg c_33]; exact hP
            have hD9 : kz_D A [xoW x (a 0) u1 u2 u3 (t 0) (X3_executeCommand_s0 V S T j), shW G a (X3_executeCommand_s1 V S T j), txW G t T] := by rw [X3_executeCommand_s0, if_neg c_7, if_neg c_14, if_neg c_23, if_neg c_28, if_neg c_33]; rw [X3_executeCommand_s1, if_neg c_7, if_neg c_14, if_neg c_23, if_neg c_28, if_neg c_33]; exact hD
            exact W.iret (v := (-5)) hx hb hr (fun t ht hW => ⟨⟨(-5), (), rfl, (by rw [X3_executeCommand_r, if_neg c_7, if_neg c_14, if_neg c_23, if_neg c_28, if_neg c_33]), by rw [ht]; exact hP9, hD9⟩, hS.F ht⟩) hS.2.2 dX3_executeCommand_176
/-! WHAT STAYS TRUE OF A SHOP: the rows' numbers are within bounds, the day is at most 9999 -/
def kz_dy (S : kz_S) : Prop := ∃ d, d ≤ 9999 ∧ S 1 0 = nI d
theorem kz_dyT {S : kz_S} (h : kz_dy S) : ∃ d, d < 2 ^ 30 ∧ S 1 0 = nI d := by
  obtain ⟨d, hd, e⟩ := h
  exact ⟨d, by omega, e⟩
theorem kz_J_up {S : kz_S} {k : Nat} {f : Nat → Int32} (h : kz_J S) (h5 : 5 ≠ k) (h6 : 6 ≠ k) : kz_J (va_up S k f) := by
  unfold kz_J
  rw [va_up_ne S f h5, va_up_ne S f h6]
  exact h
theorem kz_dy_up {S : kz_S} {k : Nat} {f : Nat → Int32} (h : kz_dy S) (h1 : 1 ≠ k) : kz_dy (va_up S k f) := by
  unfold kz_dy
  rw [va_up_ne S f h1]
  exact h
theorem kz_J_put {S : kz_S} {j : Nat} {q z d : Int32} (h : kz_J S) (ht : ∃ d, d < 2 ^ 30 ∧ S 1 0 = nI d) (hq : ∃ k, k < 10 ∧ q = nI k) : kz_J (X1_put_s S j q z d) := by
  refine ⟨fun k hk => kz_put5 ht h hk, fun k hk => ?_⟩
  show ∃ w, w < 10 ∧ upd (S 6) j q k = nI w
  by_cases e : k = j
  · subst e; rw [pk_us]; exact hq
  · rw [pk_un e]; exact h.2 k hk
theorem kz_put1 {S : kz_S} {j : Nat} {q z d : Int32} : X1_put_s S j q z d 1 = S 1 := rfl
theorem kz_leave1 {S : kz_S} {j : Nat} : X1_leave_s S j 1 = S 1 := by
  rw [X1_leave_s]
  split <;> rfl
theorem kz_cour1 {S : kz_S} : ∀ n, X1_cour S n 1 = S 1
  | 0 => rfl
  | n + 1 => by
    rw [X1_cour, X1_cstep]
    split
    · exact kz_cour1 n
    · exact kz_cour1 n
theorem kz_ret1 {S : kz_S} : ∀ n, (X1_ret S n).1 1 = S 1
  | 0 => rfl
  | n + 1 => by
    rw [X1_ret, X1_rstep]
    split
    · show X1_leave_s _ n 1 = S 1
      rw [kz_leave1, va_up_ne _ _ (by decide)]
      exact kz_ret1 n
    · exact kz_ret1 n
theorem kz_begin1 {S : kz_S} : X1_beginDay_s S 1 0 = S 1 0 + 1 := by
  rw [X1_beginDay_s]
  split
  · rw [X1_returnParcelsKeptTooLong_s, kz_ret1, X1_letCourierCome_s, kz_cour1]; rfl
  · rw [X1_returnParcelsKeptTooLong_s, kz_ret1]; rfl
theorem kz_psn1 {S : kz_S} : ∀ n, (X3_psn S n).1 1 0 = S 1 0 + nI n
  | 0 => (Int32.add_zero _).symm
  | n + 1 => by
    rw [X3_psn]
    show X1_beginDay_s (X3_psn S n).1 1 0 = _
    rw [kz_begin1, kz_psn1 n, nI_succ, Int32.add_assoc]
theorem kz_J_psn {S : kz_S} (h : kz_J S) : ∀ n, kz_J (X3_psn S n).1
  | 0 => h
  | n + 1 => by
    rw [X3_psn]
    exact kz_J_begin (kz_J_psn h n)
theorem kz_J_days {S : kz_S} (h : kz_J S) : ∀ n, kz_J (X1_days S n)
  | 0 => h
  | n + 1 => kz_J_begin (kz_J_days h n)
theorem kz_pwLt {S : kz_S} {code : Int32} (h : ¬ X1_placeWith_r S code = (-1)) : (X1_placeWith_r S code).toNatClampNeg < 48 := (kz_back (kz_pwIn h) (by decide)).2
theorem kz_J_letCome {V S : kz_S} {q z : Int32} (h : kz_J S) (hd : kz_dy S) : kz_J (X3_letCome_s1 V S q z) ∧ kz_dy (X3_letCome_s1 V S q z) := by
  rw [X3_letCome_s1]
  by_cases c1 : X3_isWithin_p q 0 9
  · rw [if_pos c1]
    split
    · split
      · exact ⟨h, hd⟩
      · obtain ⟨k, hk, e⟩ := kz_wiE (n := 9) c1 rfl (by decide)
        exact ⟨kz_J_up (kz_J_put h (kz_dyT hd) ⟨k, by omega, e⟩) (by decide) (by decide), kz_dy_up (S := X1_put_s S _ q z _) hd (by decide)⟩
    · exact ⟨h, hd⟩
  · rw [if_neg c1]
    exact ⟨h, hd⟩
theorem kz_dy_leave {S : kz_S} {j : Nat} (h : kz_dy S) : kz_dy (X1_leave_s S j) := by
  unfold kz_dy
  rw [kz_leave1]
  exact h
theorem kz_J_letFetch {V S : kz_S} {code : Int32} (h : kz_J S) (hd : kz_dy S) : kz_J (X3_letFetch_s1 V S code) ∧ kz_dy (X3_letFetch_s1 V S code) := by
  rw [X3_letFetch_s1]
  split
  · split
    · exact ⟨h, hd⟩
    · split
      · exact ⟨kz_J_up h (by decide) (by decide), kz_dy_up hd (by decide)⟩
      · rename_i c
        exact ⟨kz_J_leave (kz_J_up (kz_J_up h (by decide) (by decide)) (by decide) (by decide)) (kz_pwLt c), kz_dy_leave (kz_dy_up (kz_dy_up hd (by decide)) (by decide))⟩
  · exact ⟨h, hd⟩
theorem kz_J_letRefuse {V S : kz_S} {code : Int32} (h : kz_J S) (hd : kz_dy S) : kz_J (X3_letRefuse_s1 V S code) ∧ kz_dy (X3_letRefuse_s1 V S code) := by
  rw [X3_letRefuse_s1]
  split
  · exact ⟨h, hd⟩
  · rename_i c
    split
    · exact ⟨kz_J_up (kz_J_leave h (kz_pwLt c)) (by decide) (by decide), kz_dy_up (kz_dy_leave hd) (by decide)⟩
    · exact ⟨h, hd⟩
theorem kz_J_moveParcel {V S : kz_S} {code k : Int32} (h : kz_J S) (hd : kz_dy S) : kz_J (X3_moveParcel_s1 V S code k) ∧ kz_dy (X3_moveParcel_s1 V S code k) := by
  rw [X3_moveParcel_s1]
  split
  · exact ⟨h, hd⟩
  · rename_i c
    split
    · split
      · exact ⟨h, hd⟩
      · split
        · split
          · exact ⟨h, hd⟩
          · exact ⟨kz_J_leave (kz_J_put h (kz_dyT hd) (h.2 _ (kz_pwLt c))) (kz_pwLt c), kz_dy_leave (S := X1_put_s S _ _ _ _) hd⟩
        · exact ⟨h, hd⟩
    · exact ⟨h, hd⟩
theorem kz_J_letPass {S : kz_S} {d : Int32} (h : kz_J S) (hd : kz_dy S) : kz_J (X3_letPass_s S d) ∧ kz_dy (X3_letPass_s S d) := by
  rw [X3_letPass_s]
  by_cases c1 : X3_isWithin_p d 1 30
  · rw [if_pos c1]
    by_cases c2 : S 1 0 ≤ 9999 - d
    · rw [if_pos c2]
      refine ⟨kz_J_psn h _, ?_⟩
      obtain ⟨n, hn, e⟩ := hd
      obtain ⟨k, hk, e2⟩ := kz_wi1 (n := 30) c1 rfl (by decide)
      rw [e, e2, show (9999 : Int32) - nI (k + 1) = nI (9999 - (k + 1)) from pk_sub (a := 9999) (by omega)] at c2
      have h3 := kz_le c2 (by omega) (by omega)
      refine ⟨n + (k + 1), by omega, ?_⟩
      rw [kz_psn1, e, e2, nI_clamp (by omega), nI_add]
    · rw [if_neg c2]
      exact ⟨h, hd⟩
  · rw [if_neg c1]
    exact ⟨h, hd⟩
theorem kz_J_emptyBin {S : kz_S} {k : Nat} {r : Int32} (h : kz_J S) : kz_J (X1_emptyBin_s S k r) := by
  rw [X1_emptyBin_s]
  exact kz_J_up (kz_J_up (kz_J_up h (by decide) (by decide)) (by decide) (by decide)) (by decide) (by decide)
theorem kz_dy_emptyBin {S : kz_S} {k : Nat} {r : Int32} (h : kz_dy S) : kz_dy (X1_emptyBin_s S k r) := by
  rw [X1_emptyBin_s]
  exact kz_dy_up (kz_dy_up (kz_dy_up h (by decide)) (by decide)) (by decide)
theorem kz_J_exec {V S T : kz_S} {j : Nat} (h : kz_J S) (hd : kz_dy S) : kz_J (X3_executeCommand_s1 V S T j) ∧ kz_dy (X3_executeCommand_s1 V S T j) := by
  rw [X3_executeCommand_s1]
  split
  · exact kz_J_letCome h hd
  · split
    · exact kz_J_letPass h hd
    · split
      · exact kz_J_moveParcel h hd
      · split
        · exact kz_J_letFetch h hd
        · split
          · exact kz_J_letRefuse h hd
          · exact ⟨h, hd⟩
