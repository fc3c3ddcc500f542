def X3_exl (T : kz_S) : kz_S → kz_S → Int32 → Nat → Nat → kz_S × kz_S × Int32
  | V, S, x, _, 0 => (V, S, x)
  | V, S, x, i, n + 1 => if X2_isStartOfCommand_p T i then (if X3_isError_p (X3_executeCommand_r V S T i) then (X3_executeCommand_s0 V S T i, X3_executeCommand_s1 V S T i, x) else X3_exl T (X3_executeCommand_s0 V S T i) (X3_executeCommand_s1 V S T i) (x + 1) (i + 1) n) else X3_exl T V S x (i + 1) n
def X3_exs (V S T : kz_S) : kz_S × kz_S × Int32 := X3_exl T V S 0 0 (T 1 0).toNatClampNeg
def X3_execute_r (V S T : kz_S) : Int32 := if X2_firstError_r T = (-6) then (X3_exs V S T).2.2 else (-5)
def X3_execute_V (V S T : kz_S) : kz_S := if X2_firstError_r T = (-6) then (X3_exs V S T).1 else V
def X3_execute_S (V S T : kz_S) : kz_S := if X2_firstError_r T = (-6) then (X3_exs V S T).2.1 else S
def X3_execute_Y (V S Y T : kz_S) : kz_S := if X2_firstError_r T = (-6) then X3_recorded_s (X3_exs V S T).1 Y (X3_exs V S T).2.2 else Y
def X3_execute_R (S Y : kz_S) (R : Nat → kz_S) (T : kz_S) : Nat → kz_S := if X2_firstError_r T = (-6) then X0_prepare_R Y R S else R
def X3_execute_T (T : kz_S) : kz_S := if X2_firstError_r T = (-6) then X2_empty_s T else T
theorem X3_exl_e {T V S : kz_S} {x : Int32} {i L : Nat} (h : L ≤ i) : X3_exl T V S x i (L - i) = (V, S, x) := by
  rw [show L - i = 0 by omega, X3_exl]
theorem X3_exl_n {T V S : kz_S} {x : Int32} {i L : Nat} (h : i < L) (c : ¬ X2_isStartOfCommand_p T i) : X3_exl T V S x i (L - i) = X3_exl T V S x (i + 1) (L - (i + 1)) := by
  rw [show L - i = (L - (i + 1)) + 1 by omega, X3_exl, if_neg c]
theorem X3_exl_b {T V S : kz_S} {x : Int32} {i L : Nat} (h : i < L) (c : X2_isStartOfCommand_p T i) (d : X3_isError_p (X3_executeCommand_r V S T i)) : X3_exl T V S x i (L - i) = (X3_executeCommand_s0 V S T i, X3_executeCommand_s1 V S T i, x) := by
  rw [show L - i = (L - (i + 1)) + 1 by omega, X3_exl, if_pos c, if_pos d]
theorem X3_exl_s {T V S : kz_S} {x : Int32} {i L : Nat} (h : i < L) (c : X2_isStartOfCommand_p T i) (d : ¬ X3_isError_p (X3_executeCommand_r V S T i)) : X3_exl T V S x i (L - i) = X3_exl T (X3_executeCommand_s0 V S T i) (X3_executeCommand_s1 V S T i) (x + 1) (i + 1) (L - (i + 1)) := by
  rw [show L - i = (L - (i + 1)) + 1 by omega, X3_exl, if_pos c, if_neg d]
set_option maxHeartbeats 1000000 in
set_option maxRecDepth 100000 in
theorem c_X3_execute (l : Launch) (G : kz_G) (x : Nat) (u1 : Nat) (u2 : Nat) (V : kz_S) (a : Nat → Nat) (S : kz_S) (h : Nat → Nat) (Y : kz_S) (b : Nat → Nat → Nat) (R : Nat → kz_S) (t : Nat → Nat) (T : kz_S) (hL0 : ∃ n, n ≤ 80 ∧ T 1 0 = nI n) (hch : ∀ k, k < 80 → ∃ c, c < 128 ∧ T 0 k = nI c) (hJ : kz_J S) (hdy : kz_dy S) (hO : ∃ o, o < 6 ∧ Y 1 0 = nI o) (hC : ∃ c, c ≤ 5 ∧ Y 2 0 = nI c) : kz_mi l G yX3_execute wsX3_execute 6 134 [.ref x] [xoW x (a 0) u1 u2 (h 0) (t 0) V, shW G a S, hsW G h (fun j => b j 0) Y, shW G (b 0) (R 0), shW G (b 1) (R 1), shW G (b 2) (R 2), shW G (b 3) (R 3), shW G (b 4) (R 4), shW G (b 5) (R 5), txW G t T] [xoW x (a 0) u1 u2 (h 0) (t 0) (X3_execute_V V S T), shW G a (X3_execute_S V S T), hsW G h (fun j => b j 0) (X3_execute_Y V S Y T), shW G (b 0) ((X3_execute_R S Y R T) 0), shW G (b 1) ((X3_execute_R S Y R T) 1), shW G (b 2) ((X3_execute_R S Y R T) 2), shW G (b 3) ((X3_execute_R S Y R T) 3), shW G (b 4) ((X3_execute_R S Y R T) 4), shW G (b 5) ((X3_execute_R S Y R T) 5), txW G t (X3_execute_T T)] (X3_execute_r V S T) := by
  intro sz
  refine Met.ofW (cc := cX3_execute) (maxL := 3) (ret := (some .int)) (by decide) rfl ?_
  intro p e s m args below meth c s₁ B hml hv
  obtain ⟨rfl, hsz, hP, hK, hD0⟩ := hv
  have hx := B.exec
  have hb := B.bytes
  have hr := B.returns
  have hts := atoms_spec (ws := wsX3_execute) B.pre
  have hown : s.vm.findClass RX3 = some m.cls := findClass_of_methodNamed B.named
  have hlocks := B.notSynchronized
  have hinX3 : ∀ w ∈ u_ws RX3 TX3 8, w ∈ wsX3_execute := by decide +kernel
  have hinX2 : ∀ w ∈ u_ws RX2 TX2 2, w ∈ wsX3_execute := by decide +kernel
  subst hsz
  have hD := hD0.self (sz := s.heap.size)
  generalize hAe : kz_A [xoW x (a 0) u1 u2 (h 0) (t 0) V, shW G a S, hsW G h (fun j => b j 0) Y, shW G (b 0) (R 0), shW G (b 1) (R 1), shW G (b 2) (R 2), shW G (b 3) (R 3), shW G (b 4) (R 4), shW G (b 5) (R 5), txW G t T] s.heap.size = A at hD ⊢
  have hA : ∀ q : Nat, s.heap.size ≤ q → A q := fun q h => by rw [← hAe]; exact Or.inr h
  have hS : va_S A s.heap s.heap [] := va_S.rf
  have hl := lv_entry ([.ref x]) (n := 3) (Nat.le_of_ble_eq_true rfl)
  rw [lg_entry_eq]
  generalize (lg_sl ([.ref x]) ++ List.replicate (3 - (lg_sl ([.ref x])).length) Slot.unset).toArray = ls at hl ⊢
  have hl : lv_has ls 3 [(0, .ref x)] := hl
  refine kz_start (fun QQ hQ => ?_)
  have hP : kz_P G [xoW x (a 0) u1 u2 (h 0) (t 0) V, shW G a S, hsW G h (fun j => b j 0) Y, shW G (b 0) (R 0), shW G (b 1) (R 1), shW G (b 2) (R 2), shW G (b 3) (R 3), shW G (b 4) (R 4), shW G (b 5) (R 5), txW G t T] s.heap := hP
  obtain ⟨L, hL80, hL⟩ := id hL0
  have hLL : (T 1 0).toNatClampNeg = L := by rw [hL]; exact nI_clamp (by omega)
  refine lv_aload_n hx hb dX3_execute_0 rfl (lv_at hl 0 rfl) ?_
  refine va_get (D := G.1) (ci := 3) (v := .ref (t 0)) (C := RX3) (T := TX3) (N := 8) hx hb hts hinX3 hown hK.1 hP 0 rfl rfl 4 (by decide) (hts (.fieldLink RX3 32 "ParcelShelves" "text" "LParcelShelves$Text;") (by decide +kernel)) (fun _ h9 => h9) rfl dX3_execute_1 ?_
  refine kz_rdV (As := []) (rest := []) (b := t 0) ⟨hx, hb, hml, hown, hts⟩ (c_X2_firstError l G t T (by assumption) (by assumption)) (cwV 0 hts gX3_execute_X2_firstError rfl rfl rfl (by decide +kernel) ⟨Nat.le_of_ble_eq_true rfl, Nat.le_of_ble_eq_true rfl⟩) hK (hP.sub (cs := [txW G t T]) [9] rfl) (kz_recv hK hP (ci := 2) (q0 := 80) rfl rfl) rfl hl.1 rfl (Nat.le_of_ble_eq_true rfl) dX3_execute_4 ⟨Nat.le_of_ble_eq_true rfl, Nat.le_of_ble_eq_true rfl⟩ ?_
  refine lv_bipush (v := (-6)) hx hb dX3_execute_7 (by decide +kernel) ?_
  refine lv_icmp_eq (tgt := 15) hx hb dX3_execute_9 (by decide) (fun c_1 => ?_) (fun c_1 => ?_)
  · refine lv_aload_n hx hb dX3_execute_15 rfl (lv_at hl 0 rfl) ?_
    refine va_get (D := G.1) (ci := 3) (v := .ref (h 0)) (C := RX3) (T := TX3) (N := 8) hx hb hts hinX3 hown hK.1 hP 0 rfl rfl 3 (by decide) (hts (.fieldLink RX3 25 "ParcelShelves" "history" "LParcelShelves$History;") (by decide +kernel)) (fun _ h9 => h9) rfl dX3_execute_16 ?_
    refine lv_aload_n hx hb dX3_execute_19 rfl (lv_at hl 0 rfl) ?_
    refine va_get (D := G.1) (ci := 3) (v := .ref (a 0)) (C := RX3) (T := TX3) (N := 8) hx hb hts hinX3 hown hK.1 hP 0 rfl rfl 0 (by decide) (hts (.fieldLink RX3 12 "ParcelShelves" "now" "LParcelShelves$Shop;") (by decide +kernel)) (fun _ h9 => h9) rfl dX3_execute_20 ?_
    refine kz_mvV (As := [.ref (a 0)]) (rest := []) (b := h 0) (wr := [xoW x (a 0) u1 u2 (h 0) (t 0) V, txW G t T]) (bs' := [xoW x (a 0) u1 u2 (h 0) (t 0) V, shW G a S, hsW G h (fun j => b j 0) Y, shW G (b 0) ((X0_prepare_R Y R S) 0), shW G (b 1) ((X0_prepare_R Y R S) 1), shW G (b 2) ((X0_prepare_R Y R S) 2), shW G (b 3) ((X0_prepare_R Y R S) 3), shW G (b 4) ((X0_prepare_R Y R S) 4), shW G (b 5) ((X0_prepare_R Y R S) 5), txW G t T]) ⟨hx, hb, hml, hown, hts⟩ (c_X0_prepare l G h Y b R a S (by assumption) (by assumption)) (cwV 1 hts gX3_execute_X0_prepare rfl rfl rfl (by decide +kernel) ⟨Nat.le_of_ble_eq_true rfl, Nat.le_of_ble_eq_true rfl⟩) hK hP hD hS hA [2, 3, 4, 5, 6, 7, 8, 1] [0, 9] [0, 9, 2, 3, 4, 5, 6, 7, 8, 1] rfl (by decide) rfl (by decide) (by decide) rfl (by decide) (kz_recv hK hP (ci := 0) (q0 := 12) rfl rfl) rfl hl.1 rfl (Nat.le_of_ble_eq_true rfl) dX3_execute_23 ⟨Nat.le_of_ble_eq_true rfl, Nat.le_of_ble_eq_true rfl⟩ (fun H locs hP hD hS => ?_)
    refine lv_iconst (v := 0) hx hb dX3_execute_26 (by decide +kernel) ?_
    refine lv_istore_n (lv' := [(1, .int 0), (0, .ref x)]) hx hb dX3_execute_27 rfl hl (by decide) rfl (fun ls hl => ?_)
    refine lv_iconst (v := 0) hx hb dX3_execute_28 (by decide +kernel) ?_
    refine lv_istore_n (lv' := [(2, .int 0), (1, .int 0), (0, .ref x)]) hx hb dX3_execute_29 rfl hl (by decide) rfl (fun ls hl => ?_)
    have L30_2 : ∀ (n30 : Nat) (i : Nat) (V1 S1 : kz_S) (x1 : Int32), (L - i < n30) → (i ≤ L) → (kz_J S1) → (kz_dy S1) → (X3_exs V S T = X3_exl T V1 S1 x1 i (L - i)) → ∀ (H : Heap) (locs : List Loc), kz_P G [xoW x (a 0) u1 u2 (h 0) (t 0) V1, shW G a S1, hsW G h (fun j => b j 0) Y, shW G (b 0) ((X0_prepare_R Y R S) 0), shW G (b 1) ((X0_prepare_R Y R S) 1), shW G (b 2) ((X0_prepare_R Y R S) 2), shW G (b 3) ((X0_prepare_R Y R S) 3), shW G (b 4) ((X0_prepare_R Y R S) 4), shW G (b 5) ((X0_prepare_R Y R S) 5), txW G t T] H → kz_D A [xoW x (a 0) u1 u2 (h 0) (t 0) V1, shW G a S1, hsW G h (fun j => b j 0) Y, shW G (b 0) ((X0_prepare_R Y R S) 0), shW G (b 1) ((X0_prepare_R Y R S) 1), shW G (b 2) ((X0_prepare_R Y R S) 2), shW G (b 3) ((X0_prepare_R Y R S) 3), shW G (b 4) ((X0_prepare_R Y R S) 4), shW G (b 5) ((X0_prepare_R Y R S) 5), txW G t T] → va_S A s.heap H locs → ∀ ls : Array Slot, lv_has ls 3 [(2, .int (nI i)), (1, .int x1), (0, .ref x)] → W p l e (headSpec wsX3_execute (kz_rm 6 134)).room s m ([.ref x] : List Value).toArray below meth c H locs 0 0 QQ (F0 m 30 ls []) := by
      intro n30
      induction n30 with
      | zero => intro i V1 S1 x1 h0; exact absurd h0 (Nat.not_lt_zero _)
      | succ n30 ih30_3 =>
        intro i V1 S1 x1 hmeas30 hi1 hJ1 hd1 hres H locs hP hD hS ls hl
        refine lv_iload_n hx hb dX3_execute_30 rfl (lv_at hl 0 rfl) ?_
        refine lv_aload_n hx hb dX3_execute_31 rfl (lv_at hl 2 rfl) ?_
        refine va_get (D := G.1) (ci := 3) (v := .ref (t 0)) (C := RX3) (T := TX3) (N := 8) hx hb hts hinX3 hown hK.1 hP 0 rfl rfl 4 (by decide) (hts (.fieldLink RX3 32 "ParcelShelves" "text" "LParcelShelves$Text;") (by decide +kernel)) (fun _ h9 => h9) rfl dX3_execute_32 ?_
        refine va_get (D := G.1) (ci := 2) (v := .int (T 1 0)) (C := RX2) (T := TX2) (N := 2) hx hb hts hinX2 hown hK.1 hP 80 rfl rfl 1 (by decide) (hts (.fieldLink RX3 202 "ParcelShelves$Text" "length" "I") (by decide +kernel)) (fun _ h9 => h9) rfl dX3_execute_35 ?_
        refine lv_icmp_ge (tgt := 75) hx hb dX3_execute_38 (by decide) (fun c_4 => ?_) (fun c_4 => ?_)
        · have hge := kz_le (a := L) (b := i) (by rw [← hL]; exact c_4) (by omega) (by omega)
          have hend := hres.trans (X3_exl_e hge)
          refine lv_aload_n hx hb dX3_execute_75 rfl (lv_at hl 2 rfl) ?_
          refine va_get (D := G.1) (ci := 3) (v := .ref (t 0)) (C := RX3) (T := TX3) (N := 8) hx hb hts hinX3 hown hK.1 hP 0 rfl rfl 4 (by decide) (hts (.fieldLink RX3 32 "ParcelShelves" "text" "LParcelShelves$Text;") (by decide +kernel)) (fun _ h9 => h9) rfl dX3_execute_76 ?_
          refine kz_miV (As := []) (rest := []) (b := t 0) (wr := [xoW x (a 0) u1 u2 (h 0) (t 0) V1, shW G a S1, hsW G h (fun j => b j 0) Y, shW G (b 0) ((X0_prepare_R Y R S) 0), shW G (b 1) ((X0_prepare_R Y R S) 1), shW G (b 2) ((X0_prepare_R Y R S) 2), shW G (b 3) ((X0_prepare_R Y R S) 3), shW G (b 4) ((X0_prepare_R Y R S) 4), shW G (b 5) ((X0_prepare_R Y R S) 5)]) (bs' := [xoW x (a 0) u1 u2 (h 0) (t 0) V1, shW G a S1, hsW G h (fun j => b j 0) Y, shW G (b 0) ((X0_prepare_R Y R S) 0), shW G (b 1) ((X0_prepare_R Y R S) 1), shW G (b 2) ((X0_prepare_R Y R S) 2), shW G (b 3) ((X0_prepare_R Y R S) 3), shW G (b 4) ((X0_prepare_R Y R S) 4), shW G (b 5) ((X0_prepare_R Y R S) 5), txW G t (X2_empty_s T)]) ⟨hx, hb, hml, hown, hts⟩ (c_X2_empty l G t T) (cwV 0 hts gX3_execute_X2_empty rfl rfl rfl (by decide +kernel) ⟨Nat.le_of_ble_eq_true rfl, Nat.le_of_ble_eq_true rfl⟩) hK hP hD hS hA [9] [0, 1, 2, 3, 4, 5, 6, 7, 8] [0, 1, 2, 3, 4, 5, 6, 7, 8, 9] rfl (by decide) rfl (by decide) (by decide) rfl (by decide) (kz_recv hK hP (ci := 2) (q0 := 80) rfl rfl) rfl hl.1 rfl (Nat.le_of_ble_eq_true rfl) dX3_execute_79 ⟨Nat.le_of_ble_eq_true rfl, Nat.le_of_ble_eq_true rfl⟩ (fun H locs hP hD hS => ?_)
          refine lv_pop hx hb dX3_execute_82 rfl ?_
          refine lv_aload_n hx hb dX3_execute_83 rfl (lv_at hl 2 rfl) ?_
          refine lv_iload_n hx hb dX3_execute_84 rfl (lv_at hl 1 rfl) ?_
          refine kz_miV (As := [.int x1]) (rest := []) (b := x) (wr := [shW G a S1, shW G (b 0) ((X0_prepare_R Y R S) 0), shW G (b 1) ((X0_prepare_R Y R S) 1), shW G (b 2) ((X0_prepare_R Y R S) 2), shW G (b 3) ((X0_prepare_R Y R S) 3), shW G (b 4) ((X0_prepare_R Y R S) 4), shW G (b 5) ((X0_prepare_R Y R S) 5), txW G t (X2_empty_s T)]) (bs' := [xoW x (a 0) u1 u2 (h 0) (t 0) V1, shW G a S1, hsW G h (fun j => b j 0) (X3_recorded_s V1 Y x1), shW G (b 0) ((X0_prepare_R Y R S) 0), shW G (b 1) ((X0_prepare_R Y R S) 1), shW G (b 2) ((X0_prepare_R Y R S) 2), shW G (b 3) ((X0_prepare_R Y R S) 3), shW G (b 4) ((X0_prepare_R Y R S) 4), shW G (b 5) ((X0_prepare_R Y R S) 5), txW G t (X2_empty_s T)]) ⟨hx, hb, hml, hown, hts⟩ (c_X3_recorded l G x (a 0) u1 u2 (t 0) V1 h (fun j => b j 0) Y x1) (cwV 1 hts gX3_execute_X3_recorded rfl rfl rfl (by decide +kernel) ⟨Nat.le_of_ble_eq_true rfl, Nat.le_of_ble_eq_true rfl⟩) hK hP hD hS hA [0, 2] [1, 3, 4, 5, 6, 7, 8, 9] [8, 0, 9, 1, 2, 3, 4, 5, 6, 7] rfl (by decide) rfl (by decide) (by decide) rfl (by decide) (kz_recv hK hP (ci := 3) (q0 := 0) rfl rfl) rfl hl.1 rfl (Nat.le_of_ble_eq_true rfl) dX3_execute_85 ⟨Nat.le_of_ble_eq_true rfl, Nat.le_of_ble_eq_true rfl⟩ (fun H locs hP hD hS => ?_)
          subst hQ
          have hP9 : kz_P G [xoW x (a 0) u1 u2 (h 0) (t 0) (X3_execute_V V S T), shW G a (X3_execute_S V S T), hsW G h (fun j => b j 0) (X3_execute_Y V S Y T), shW G (b 0) ((X3_execute_R S Y R T) 0), shW G (b 1) ((X3_execute_R S Y R T) 1), shW G (b 2) ((X3_execute_R S Y R T) 2), shW G (b 3) ((X3_execute_R S Y R T) 3), shW G (b 4) ((X3_execute_R S Y R T) 4), shW G (b 5) ((X3_execute_R S Y R T) 5), txW G t (X3_execute_T T)] H := by rw [X3_execute_V, X3_execute_S, X3_execute_Y, X3_execute_R, X3_execute_T, if_pos c_1, if_pos c_1, if_pos c_1, if_pos c_1, if_pos c_1, hend]; exact hP
          have hD9 : kz_D A [xoW x (a 0) u1 u2 (h 0) (t 0) (X3_execute_V V S T), shW G a (X3_execute_S V S T), hsW G h (fun j => b j 0) (X3_execute_Y V S Y T), shW G (b 0) ((X3_execute_R S Y R T) 0), shW G (b 1) ((X3_execute_R S Y R T) 1), shW G (b 2) ((X3_execute_R S Y R T) 2), shW G (b 3) ((X3_execute_R S Y R T) 3), shW G (b 4) ((X3_execute_R S Y R T) 4), shW G (b 5) ((X3_execute_R S Y R T) 5), txW G t (X3_execute_T T)] := by rw [X3_execute_V, X3_execute_S, X3_execute_Y, X3_execute_R, X3_execute_T, if_pos c_1, if_pos c_1, if_pos c_1, if_pos c_1, if_pos c_1, hend]; exact hD
          exact W.iret (v := x1) hx hb hr (fun t ht hW => ⟨⟨x1, (), rfl, (by rw [X3_execute_r, if_pos c_1, hend]), by rw [ht]; exact hP9, hD9⟩, hS.F ht⟩) hS.2.2 dX3_execute_88
        · have hlt := kz_gt (a := L) (b := i) (by rw [← hL]; exact c_4) (by omega) (by omega)
          refine lv_aload_n hx hb dX3_execute_41 rfl (lv_at hl 2 rfl) ?_
          refine va_get (D := G.1) (ci := 3) (v := .ref (t 0)) (C := RX3) (T := TX3) (N := 8) hx hb hts hinX3 hown hK.1 hP 0 rfl rfl 4 (by decide) (hts (.fieldLink RX3 32 "ParcelShelves" "text" "LParcelShelves$Text;") (by decide +kernel)) (fun _ h9 => h9) rfl dX3_execute_42 ?_
          refine lv_iload_n hx hb dX3_execute_45 rfl (lv_at hl 0 rfl) ?_
          refine kz_rdV (As := [.int (nI i)]) (rest := []) (b := t 0) ⟨hx, hb, hml, hown, hts⟩ (c_X2_isStartOfCommand l G t T i (by assumption) (by assumption)) (cwV 1 hts gX3_execute_X2_isStartOfCommand rfl rfl rfl (by decide +kernel) ⟨Nat.le_of_ble_eq_true rfl, Nat.le_of_ble_eq_true rfl⟩) hK (hP.sub (cs := [txW G t T]) [9] rfl) (kz_recv hK hP (ci := 2) (q0 := 80) rfl rfl) rfl hl.1 rfl (Nat.le_of_ble_eq_true rfl) dX3_execute_46 ⟨Nat.le_of_ble_eq_true rfl, Nat.le_of_ble_eq_true rfl⟩ ?_
          refine lv_topi (fun y_5 ey_6 => ?_)
          by_cases c_7 : X2_isStartOfCommand_p T i
          · rw [if_pos c_7] at ey_6
            subst ey_6
            refine lv_if_eq (tgt := 69) hx hb dX3_execute_49 (by decide) (fun c => absurd c (by decide)) (fun _ => ?_)
            refine lv_aload_n hx hb dX3_execute_52 rfl (lv_at hl 2 rfl) ?_
            refine lv_iload_n hx hb dX3_execute_53 rfl (lv_at hl 0 rfl) ?_
            refine kz_miV (As := [.int (nI i)]) (rest := []) (b := x) (wr := [hsW G h (fun j => b j 0) Y, shW G (b 0) ((X0_prepare_R Y R S) 0), shW G (b 1) ((X0_prepare_R Y R S) 1), shW G (b 2) ((X0_prepare_R Y R S) 2), shW G (b 3) ((X0_prepare_R Y R S) 3), shW G (b 4) ((X0_prepare_R Y R S) 4), shW G (b 5) ((X0_prepare_R Y R S) 5)]) (bs' := [xoW x (a 0) u1 u2 (h 0) (t 0) (X3_executeCommand_s0 V1 S1 T i), shW G a (X3_executeCommand_s1 V1 S1 T i), hsW G h (fun j => b j 0) Y, shW G (b 0) ((X0_prepare_R Y R S) 0), shW G (b 1) ((X0_prepare_R Y R S) 1), shW G (b 2) ((X0_prepare_R Y R S) 2), shW G (b 3) ((X0_prepare_R Y R S) 3), shW G (b 4) ((X0_prepare_R Y R S) 4), shW G (b 5) ((X0_prepare_R Y R S) 5), txW G t T]) ⟨hx, hb, hml, hown, hts⟩ (c_X3_executeCommand l G x u1 u2 (h 0) V1 a S1 t T i (by assumption) (by assumption) (by assumption) (kz_dyT hd1) (by omega)) (cwV 1 hts gX3_execute_X3_executeCommand rfl rfl rfl (by decide +kernel) ⟨Nat.le_of_ble_eq_true rfl, Nat.le_of_ble_eq_true rfl⟩) hK hP hD hS hA [0, 1, 9] [2, 3, 4, 5, 6, 7, 8] [7, 8, 0, 1, 2, 3, 4, 5, 6, 9] rfl (by decide) rfl (by decide) (by decide) rfl (by decide) (kz_recv hK hP (ci := 3) (q0 := 0) rfl rfl) rfl hl.1 rfl (Nat.le_of_ble_eq_true rfl) dX3_execute_54 ⟨Nat.le_of_ble_eq_true rfl, Nat.le_of_ble_eq_true rfl⟩ (fun H locs hP hD hS => ?_)
            refine kz_rdS (As := [.int (X3_executeCommand_r V1 S1 T i)]) (rest := []) ⟨hx, hb, hml, hown, hts⟩ (c_X3_isError l G (X3_executeCommand_r V1 S1 T i)) (va_cwS 1 hts gX3_execute_X3_isError rfl rfl rfl (by decide +kernel) ⟨Nat.le_of_ble_eq_true rfl, Nat.le_of_ble_eq_true rfl⟩) hK (hP.sub (cs := []) [] rfl) rfl hl.1 rfl (Nat.le_of_ble_eq_true rfl) dX3_execute_57 ⟨Nat.le_of_ble_eq_true rfl, Nat.le_of_ble_eq_true rfl⟩ ?_
            refine lv_topi (fun y_8 ey_9 => ?_)
            by_cases c_10 : X3_isError_p (X3_executeCommand_r V1 S1 T i)
            · rw [if_pos c_10] at ey_9
              subst ey_9
              refine lv_if_eq (tgt := 66) hx hb dX3_execute_60 (by decide) (fun c => absurd c (by decide)) (fun _ => ?_)
              refine lv_goto (tgt := 75) hx hb dX3_execute_63 (by decide) ?_
              have hend := hres.trans (X3_exl_b hlt c_7 c_10)
              refine lv_aload_n hx hb dX3_execute_75 rfl (lv_at hl 2 rfl) ?_
              refine va_get (D := G.1) (ci := 3) (v := .ref (t 0)) (C := RX3) (T := TX3) (N := 8) hx hb hts hinX3 hown hK.1 hP 0 rfl rfl 4 (by decide) (hts (.fieldLink RX3 32 "ParcelShelves" "text" "LParcelShelves$Text;") (by decide +kernel)) (fun _ h9 => h9) rfl dX3_execute_76 ?_
              refine kz_miV (As := []) (rest := []) (b := t 0) (wr := [xoW x (a 0) u1 u2 (h 0) (t 0) (X3_executeCommand_s0 V1 S1 T i), shW G a (X3_executeCommand_s1 V1 S1 T i), hsW G h (fun j => b j 0) Y, shW G (b 0) ((X0_prepare_R Y R S) 0), shW G (b 1) ((X0_prepare_R Y R S) 1), shW G (b 2) ((X0_prepare_R Y R S) 2), shW G (b 3) ((X0_prepare_R Y R S) 3), shW G (b 4) ((X0_prepare_R Y R S) 4), shW G (b 5) ((X0_prepare_R Y R S) 5)]) (bs' := [xoW x (a 0) u1 u2 (h 0) (t 0) (X3_executeCommand_s0 V1 S1 T i), shW G a (X3_executeCommand_s1 V1 S1 T i), hsW G h (fun j => b j 0) Y, shW G (b 0) ((X0_prepare_R Y R S) 0), shW G (b 1) ((X0_prepare_R Y R S) 1), shW G (b 2) ((X0_prepare_R Y R S) 2), shW G (b 3) ((X0_prepare_R Y R S) 3), shW G (b 4) ((X0_prepare_R Y R S) 4), shW G (b 5) ((X0_prepare_R Y R S) 5), txW G t (X2_empty_s T)]) ⟨hx, hb, hml, hown, hts⟩ (c_X2_empty l G t T) (cwV 0 hts gX3_execute_X2_empty rfl rfl rfl (by decide +kernel) ⟨Nat.le_of_ble_eq_true rfl, Nat.le_of_ble_eq_true rfl⟩) hK hP hD hS hA [9] [0, 1, 2, 3, 4, 5, 6, 7, 8] [0, 1, 2, 3, 4, 5, 6, 7, 8, 9] rfl (by decide) rfl (by decide) (by decide) rfl (by decide) (kz_recv hK hP (ci := 2) (q0 := 80) rfl rfl) rfl hl.1 rfl (Nat.le_of_ble_eq_true rfl) dX3_execute_79 ⟨Nat.le_of_ble_eq_true rfl, Nat.le_of_ble_eq_true rfl⟩ (fun H locs hP hD hS => ?_)
              refine lv_pop hx hb dX3_execute_82 rfl ?_
              refine lv_aload_n hx hb dX3_execute_83 rfl (lv_at hl 2 rfl) ?_
              refine lv_iload_n hx hb dX3_execute_84 rfl (lv_at hl 1 rfl) ?_
              refine kz_miV (As := [.int x1]) (rest := []) (b := x) (wr := [shW G a (X3_executeCommand_s1 V1 S1 T i), shW G (b 0) ((X0_prepare_R Y R S) 0), shW G (b 1) ((X0_prepare_R Y R S) 1), shW G (b 2) ((X0_prepare_R Y R S) 2), shW G (b 3) ((X0_prepare_R Y R S) 3), shW G (b 4) ((X0_prepare_R Y R S) 4), shW G (b 5) ((X0_prepare_R Y R S) 5), txW G t (X2_empty_s T)]) (bs' := [xoW x (a 0) u1 u2 (h 0) (t 0) (X3_executeCommand_s0 V1 S1 T i), shW G a (X3_executeCommand_s1 V1 S1 T i), hsW G h (fun j => b j 0) (X3_recorded_s (X3_executeCommand_s0 V1 S1 T i) Y x1), shW G (b 0) ((X0_prepare_R Y R S) 0), shW G (b 1) ((X0_prepare_R Y R S) 1), shW G (b 2) ((X0_prepare_R Y R S) 2), shW G (b 3) ((X0_prepare_R Y R S) 3), shW G (b 4) ((X0_prepare_R Y R S) 4), shW G (b 5) ((X0_prepare_R Y R S) 5), txW G t (X2_empty_s T)]) ⟨hx, hb, hml, hown, hts⟩ (c_X3_recorded l G x (a 0) u1 u2 (t 0) (X3_executeCommand_s0 V1 S1 T i) h (fun j => b j 0) Y x1) (cwV 1 hts gX3_execute_X3_recorded rfl rfl rfl (by decide +kernel) ⟨Nat.le_of_ble_eq_true rfl, Nat.le_of_ble_eq_true rfl⟩) hK hP hD hS hA [0, 2] [1, 3, 4, 5, 6, 7, 8, 9] [8, 0, 9, 1, 2, 3, 4, 5, 6, 7] rfl (by decide) rfl (by decide) (by decide) rfl (by decide) (kz_recv hK hP (ci := 3) (q0 := 0) rfl rfl) rfl hl.1 rfl (Nat.le_of_ble_eq_true rfl) dX3_execute_85 ⟨Nat.le_of_ble_eq_true rfl, Nat.le_of_ble_eq_true rfl⟩ (fun H locs hP hD hS => ?_)
              subst hQ
              have hP9 : kz_P G [xoW x (a 0) u1 u2 (h 0) (t 0) (X3_execute_V V S T), shW G a (X3_execute_S V S T), hsW G h (fun j => b j 0) (X3_execute_Y V S Y T), shW G (b 0) ((X3_execute_R S Y R T) 0), shW G (b 1) ((X3_execute_R S Y R T) 1), shW G (b 2) ((X3_execute_R S Y R T) 2), shW G (b 3) ((X3_execute_R S Y R T) 3), shW G (b 4) ((X3_execute_R S Y R T) 4), shW G (b 5) ((X3_execute_R S Y R T) 5), txW G t (X3_execute_T T)] H := by rw [X3_execute_V, X3_execute_S, X3_execute_Y, X3_execute_R, X3_execute_T, if_pos c_1, if_pos c_1, if_pos c_1, if_pos c_1, if_pos c_1, hend]; exact hP
              have hD9 : kz_D A [xoW x (a 0) u1 u2 (h 0) (t 0) (X3_execute_V V S T), shW G a (X3_execute_S V S T), hsW G h (fun j => b j 0) (X3_execute_Y V S Y T), shW G (b 0) ((X3_execute_R S Y R T) 0), shW G (b 1) ((X3_execute_R S Y R T) 1), shW G (b 2) ((X3_execute_R S Y R T) 2), shW G (b 3) ((X3_execute_R S Y R T) 3), shW G (b 4) ((X3_execute_R S Y R T) 4), shW G (b 5) ((X3_execute_R S Y R T) 5), txW G t (X3_execute_T T)] := by rw [X3_execute_V, X3_execute_S, X3_execute_Y, X3_execute_R, X3_execute_T, if_pos c_1, if_pos c_1, if_pos c_1, if_pos c_1, if_pos c_1, hend]; exact hD
              exact W.iret (v := x1) hx hb hr (fun t ht hW => ⟨⟨x1, (), rfl, (by rw [X3_execute_r, if_pos c_1, hend]), by rw [ht]; exact hP9, hD9⟩, hS.F ht⟩) hS.2.2 dX3_execute_88
            · rw [if_neg c_10] at ey_9
              subst ey_9
              refine lv_if_eq (tgt := 66) hx hb dX3_execute_60 (by decide) (fun _ => ?_) (fun c => absurd c (by decide))
              refine lv_iinc (v := (x1 + 1)) (lv' := [(1, .int (x1 + 1)), (2, .int (nI i)), (0, .ref x)]) hx hb dX3_execute_66 hl (k := 1) rfl rfl (by decide) rfl (fun ls hl => ?_)
              refine lv_iinc (v := (nI (i + 1))) (lv' := [(2, .int (nI (i + 1))), (1, .int (x1 + 1)), (0, .ref x)]) hx hb dX3_execute_69 hl (k := 1) rfl (nI_1 _) (by decide) rfl (fun ls hl => ?_)
              refine lv_goto (tgt := 30) hx hb dX3_execute_72 (by decide) ?_
              exact ih30_3 (i + 1) (X3_executeCommand_s0 V1 S1 T i) (X3_executeCommand_s1 V1 S1 T i) (x1 + 1) (by omega) (by omega) (kz_J_exec hJ1 hd1).1 (kz_J_exec hJ1 hd1).2 (hres.trans (X3_exl_s hlt c_7 c_10)) H locs hP hD hS ls (lv_sub hl [0, 1, 2] rfl)
          · rw [if_neg c_7] at ey_6
            subst ey_6
            refine lv_if_eq (tgt := 69) hx hb dX3_execute_49 (by decide) (fun _ => ?_) (fun c => absurd c (by decide))
            refine lv_iinc (v := (nI (i + 1))) (lv' := [(2, .int (nI (i + 1))), (1, .int x1), (0, .ref x)]) hx hb dX3_execute_69 hl (k := 0) rfl (nI_1 _) (by decide) rfl (fun ls hl => ?_)
            refine lv_goto (tgt := 30) hx hb dX3_execute_72 (by decide) ?_
            exact ih30_3 (i + 1) V1 S1 x1 (by omega) (by omega) hJ1 hd1 (hres.trans (X3_exl_n hlt c_7)) H locs hP hD hS ls (lv_sub hl [0, 1, 2] rfl)
    exact L30_2 _ 0 V S 0 (Nat.lt_succ_self _) (by omega) hJ hdy (by rw [X3_exs, hLL, Nat.sub_zero]) H locs hP hD hS ls (lv_sub hl [0, 1, 2] rfl)
  · refine lv_bipush (v := (-5)) hx hb dX3_execute_12 (by decide +kernel) ?_
    subst hQ
    have hP9 : kz_P G [xoW x (a 0) u1 u2 (h 0) (t 0) (X3_execute_V V S T), shW G a (X3_execute_S V S T), hsW G h (fun j => b j 0) (X3_execute_Y V S Y T), shW G (b 0) ((X3_execute_R S Y R T) 0), shW G (b 1) ((X3_execute_R S Y R T) 1), shW G (b 2) ((X3_execute_R S Y R T) 2), shW G (b 3) ((X3_execute_R S Y R T) 3), shW G (b 4) ((X3_execute_R S Y R T) 4), shW G (b 5) ((X3_execute_R S Y R T) 5), txW G t (X3_execute_T T)] s.heap := by rw [X3_execute_V, X3_execute_S, X3_execute_Y, X3_execute_R, X3_execute_T, if_neg c_1, if_neg c_1, if_neg c_1, if_neg c_1, if_neg c_1]; exact hP
    have hD9 : kz_D A [xoW x (a 0) u1 u2 (h 0) (t 0) (X3_execute_V V S T), shW G a (X3_execute_S V S T), hsW G h (fun j => b j 0) (X3_execute_Y V S Y T), shW G (b 0) ((X3_execute_R S Y R T) 0), shW G (b 1) ((X3_execute_R S Y R T) 1), shW G (b 2) ((X3_execute_R S Y R T) 2), shW G (b 3) ((X3_execute_R S Y R T) 3), shW G (b 4) ((X3_execute_R S Y R T) 4), shW G (b 5) ((X3_execute_R S Y R T) 5), txW G t (X3_execute_T T)] := by rw [X3_execute_V, X3_execute_S, X3_execute_Y, X3_execute_R, X3_execute_T, if_neg c_1, if_neg c_1, if_neg c_1, if_neg c_1, if_neg c_1]; exact hD
    exact W.iret (v := (-5)) hx hb hr (fun t ht hW => ⟨⟨(-5), (), rfl, (by rw [X3_execute_r, if_neg c_1]), by rw [ht]; exact hP9, hD9⟩, hS.F ht⟩) hS.2.2 dX3_execute_14
