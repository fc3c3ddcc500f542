abbrev X4_in_p (v : Int32) (lo : Int32) (hi : Int32) : Prop := (¬ (v < lo) ∧ (¬ (hi < v)))
set_option maxHeartbeats 4000000 in
set_option maxRecDepth 100000 in
theorem c_X4_in (l : Launch) (G : kz_G) (v : Int32) (lo : Int32) (hi : Int32) : kz_rd l G yX4_in wsX4_in 0 0 [.int v, .int lo, .int hi] [] (if X4_in_p v lo hi then 1 else 0) := by
  refine Met.ofW (cc := cX4_in) (maxL := 3) (ret := (some .boolean)) (by decide) rfl ?_
  intro p e s m args below meth c s₁ B hml hv
  obtain ⟨rfl, hP, hK⟩ := hv
  have hx := B.exec
  have hb := B.bytes
  have hr := B.returns
  have hts := atoms_spec (ws := wsX4_in) B.pre
  have hown : s.vm.findClass RX4 = some m.cls := findClass_of_methodNamed B.named
  have hlocks := B.notSynchronized
  have hl := lv_entry ([.int v, .int lo, .int hi]) (n := 3) (Nat.le_of_ble_eq_true rfl)
  rw [lg_entry_eq]
  generalize (lg_sl ([.int v, .int lo, .int hi]) ++ List.replicate (3 - (lg_sl ([.int v, .int lo, .int hi])).length) Slot.unset).toArray = ls at hl ⊢
  have hl : lv_has ls 3 [(0, .int v), (1, .int lo), (2, .int hi)] := hl
  refine kz_start (fun QQ hQ => ?_)
  refine lv_iload_n hx hb dX4_in_0 rfl (lv_at hl 0 rfl) ?_
  refine lv_iload_n hx hb dX4_in_1 rfl (lv_at hl 1 rfl) ?_
  refine lv_icmp_lt (tgt := 14) hx hb dX4_in_2 (by decide) (fun c_1 => ?_) (fun c_1 => ?_)
  · refine lv_iconst (v := 0) hx hb dX4_in_14 (by decide +kernel) ?_
    subst hQ
    exact W.zret (v := 0) hx hb hr (by decide +kernel) (fun t ht _ => ⟨0, rfl, ((if_neg (fun h => h.1 c_1)).symm), ht⟩) (fun _ h9 => absurd h9 List.not_mem_nil) dX4_in_15
  · refine lv_iload_n hx hb dX4_in_5 rfl (lv_at hl 0 rfl) ?_
    refine lv_iload_n hx hb dX4_in_6 rfl (lv_at hl 2 rfl) ?_
    refine lv_icmp_gt (tgt := 14) hx hb dX4_in_7 (by decide) (fun c_2 => ?_) (fun c_2 => ?_)
    · refine lv_iconst (v := 0) hx hb dX4_in_14 (by decide +kernel) ?_
      subst hQ
      exact W.zret (v := 0) hx hb hr (by decide +kernel) (fun t ht _ => ⟨0, rfl, ((if_neg (fun h => (fun h => h c_2) h.2)).symm), ht⟩) (fun _ h9 => absurd h9 List.not_mem_nil) dX4_in_15
    · refine lv_iconst (v := 1) hx hb dX4_in_10 (by decide +kernel) ?_
      refine lv_goto (tgt := 15) hx hb dX4_in_11 (by decide) ?_
      subst hQ
      exact W.zret (v := 1) hx hb hr (by decide +kernel) (fun t ht _ => ⟨1, rfl, ((if_pos ⟨c_1, c_2⟩).symm), ht⟩) (fun _ h9 => absurd h9 List.not_mem_nil) dX4_in_15
def X4_weekday_r (d : Int32) : Int32 := ((kz_rem d 7) + 1)
set_option maxHeartbeats 4000000 in
set_option maxRecDepth 100000 in
theorem c_X4_weekday (l : Launch) (G : kz_G) (d : Int32) : kz_rd l G yX4_weekday wsX4_weekday 0 0 [.int d] [] (X4_weekday_r d) := by
  refine Met.ofW (cc := cX4_weekday) (maxL := 1) (ret := (some .int)) (by decide) rfl ?_
  intro p e s m args below meth c s₁ B hml hv
  obtain ⟨rfl, hP, hK⟩ := hv
  have hx := B.exec
  have hb := B.bytes
  have hr := B.returns
  have hts := atoms_spec (ws := wsX4_weekday) B.pre
  have hown : s.vm.findClass RX4 = some m.cls := findClass_of_methodNamed B.named
  have hlocks := B.notSynchronized
  have hl := lv_entry ([.int d]) (n := 1) (Nat.le_of_ble_eq_true rfl)
  rw [lg_entry_eq]
  generalize (lg_sl ([.int d]) ++ List.replicate (1 - (lg_sl ([.int d])).length) Slot.unset).toArray = ls at hl ⊢
  have hl : lv_has ls 1 [(0, .int d)] := hl
  refine kz_start (fun QQ hQ => ?_)
  refine lv_iload_n hx hb dX4_weekday_0 rfl (lv_at hl 0 rfl) ?_
  refine lv_bipush (v := 7) hx hb dX4_weekday_1 (by decide +kernel) ?_
  refine lv_irem hx hb dX4_weekday_3 (by decide +kernel) ?_
  refine kz_topR ?_
  refine lv_iconst (v := 1) hx hb dX4_weekday_4 (by decide +kernel) ?_
  refine lv_iadd hx hb dX4_weekday_5 ?_
  subst hQ
  exact W.iret (v := ((kz_rem d 7) + 1)) hx hb hr (fun t ht _ => ⟨((kz_rem d 7) + 1), rfl, rfl, ht⟩) (fun _ h9 => absurd h9 List.not_mem_nil) dX4_weekday_6
def X4_codeBy_r (w : Int32) (pl : Int32) : Int32 := ((((1000 * w) + (100 * (pl / 8))) + (10 * (kz_rem pl 8))) + (kz_rem (10 - (kz_rem (((3 * w) + (pl / 8)) + (7 * (kz_rem pl 8))) 10)) 10))
set_option maxHeartbeats 4000000 in
set_option maxRecDepth 100000 in
theorem c_X4_codeBy (l : Launch) (G : kz_G) (w : Int32) (pl : Int32) : kz_rd l G yX4_codeBy wsX4_codeBy 0 0 [.int w, .int pl] [] (X4_codeBy_r w pl) := by
  refine Met.ofW (cc := cX4_codeBy) (maxL := 3) (ret := (some .int)) (by decide) rfl ?_
  intro p e s m args below meth c s₁ B hml hv
  obtain ⟨rfl, hP, hK⟩ := hv
  have hx := B.exec
  have hb := B.bytes
  have hr := B.returns
  have hts := atoms_spec (ws := wsX4_codeBy) B.pre
  have hown : s.vm.findClass RX4 = some m.cls := findClass_of_methodNamed B.named
  have hlocks := B.notSynchronized
  have hl := lv_entry ([.int w, .int pl]) (n := 3) (Nat.le_of_ble_eq_true rfl)
  rw [lg_entry_eq]
  generalize (lg_sl ([.int w, .int pl]) ++ List.replicate (3 - (lg_sl ([.int w, .int pl])).length) Slot.unset).toArray = ls at hl ⊢
  have hl : lv_has ls 3 [(0, .int w), (1, .int pl)] := hl
  refine kz_start (fun QQ hQ => ?_)
  refine lv_iconst (v := 3) hx hb dX4_codeBy_0 (by decide +kernel) ?_
  refine lv_iload_n hx hb dX4_codeBy_1 rfl (lv_at hl 0 rfl) ?_
  refine lv_imul hx hb dX4_codeBy_2 ?_
  refine lv_iload_n hx hb dX4_codeBy_3 rfl (lv_at hl 1 rfl) ?_
  refine lv_bipush (v := 8) hx hb dX4_codeBy_4 (by decide +kernel) ?_
  refine lv_idiv hx hb dX4_codeBy_6 (by decide +kernel) ?_
  refine lv_iadd hx hb dX4_codeBy_7 ?_
  refine lv_bipush (v := 7) hx hb dX4_codeBy_8 (by decide +kernel) ?_
  refine lv_iload_n hx hb dX4_codeBy_10 rfl (lv_at hl 1 rfl) ?_
  refine lv_bipush (v := 8) hx hb dX4_codeBy_11 (by decide +kernel) ?_
  refine lv_irem hx hb dX4_codeBy_13 (by decide +kernel) ?_
  refine kz_topR ?_
  refine lv_imul hx hb dX4_codeBy_14 ?_
  refine lv_iadd hx hb dX4_codeBy_15 ?_
  refine lv_istore_n (lv' := [(2, .int (((3 * w) + (pl / 8)) + (7 * (kz_rem pl 8)))), (0, .int w), (1, .int pl)]) hx hb dX4_codeBy_16 rfl hl (by decide) rfl (fun ls hl => ?_)
  refine lv_sipush (v := 1000) hx hb dX4_codeBy_17 (by decide +kernel) ?_
  refine lv_iload_n hx hb dX4_codeBy_20 rfl (lv_at hl 1 rfl) ?_
  refine lv_imul hx hb dX4_codeBy_21 ?_
  refine lv_bipush (v := 100) hx hb dX4_codeBy_22 (by decide +kernel) ?_
  refine lv_iload_n hx hb dX4_codeBy_24 rfl (lv_at hl 2 rfl) ?_
  refine lv_bipush (v := 8) hx hb dX4_codeBy_25 (by decide +kernel) ?_
  refine lv_idiv hx hb dX4_codeBy_27 (by decide +kernel) ?_
  refine lv_imul hx hb dX4_codeBy_28 ?_
  refine lv_iadd hx hb dX4_codeBy_29 ?_
  refine lv_bipush (v := 10) hx hb dX4_codeBy_30 (by decide +kernel) ?_
  refine lv_iload_n hx hb dX4_codeBy_32 rfl (lv_at hl 2 rfl) ?_
  refine lv_bipush (v := 8) hx hb dX4_codeBy_33 (by decide +kernel) ?_
  refine lv_irem hx hb dX4_codeBy_35 (by decide +kernel) ?_
  refine kz_topR ?_
  refine lv_imul hx hb dX4_codeBy_36 ?_
  refine lv_iadd hx hb dX4_codeBy_37 ?_
  refine lv_bipush (v := 10) hx hb dX4_codeBy_38 (by decide +kernel) ?_
  refine lv_iload_n hx hb dX4_codeBy_40 rfl (lv_at hl 0 rfl) ?_
  refine lv_bipush (v := 10) hx hb dX4_codeBy_41 (by decide +kernel) ?_
  refine lv_irem hx hb dX4_codeBy_43 (by decide +kernel) ?_
  refine kz_topR ?_
  refine lv_isub hx hb dX4_codeBy_44 ?_
  refine lv_bipush (v := 10) hx hb dX4_codeBy_45 (by decide +kernel) ?_
  refine lv_irem hx hb dX4_codeBy_47 (by decide +kernel) ?_
  refine kz_topR ?_
  refine lv_iadd hx hb dX4_codeBy_48 ?_
  subst hQ
  exact W.iret (v := ((((1000 * w) + (100 * (pl / 8))) + (10 * (kz_rem pl 8))) + (kz_rem (10 - (kz_rem (((3 * w) + (pl / 8)) + (7 * (kz_rem pl 8))) 10)) 10))) hx hb hr (fun t ht _ => ⟨((((1000 * w) + (100 * (pl / 8))) + (10 * (kz_rem pl 8))) + (kz_rem (10 - (kz_rem (((3 * w) + (pl / 8)) + (7 * (kz_rem pl 8))) 10)) 10)), rfl, rfl, ht⟩) (fun _ h9 => absurd h9 List.not_mem_nil) dX4_codeBy_49
abbrev X4_isSender_p (q : Int32) : Prop := X4_in_p q 0 9
set_option maxHeartbeats 4000000 in
set_option maxRecDepth 100000 in
theorem c_X4_isSender (l : Launch) (G : kz_G) (q : Int32) : kz_rd l G yX4_isSender wsX4_isSender 1 22 [.int q] [] (if X4_isSender_p q then 1 else 0) := by
  refine Met.ofW (cc := cX4_isSender) (maxL := 1) (ret := (some .boolean)) (by decide) rfl ?_
  intro p e s m args below meth c s₁ B hml hv
  obtain ⟨rfl, hP, hK⟩ := hv
  have hx := B.exec
  have hb := B.bytes
  have hr := B.returns
  have hts := atoms_spec (ws := wsX4_isSender) B.pre
  have hown : s.vm.findClass RX4 = some m.cls := findClass_of_methodNamed B.named
  have hlocks := B.notSynchronized
  have hl := lv_entry ([.int q]) (n := 1) (Nat.le_of_ble_eq_true rfl)
  rw [lg_entry_eq]
  generalize (lg_sl ([.int q]) ++ List.replicate (1 - (lg_sl ([.int q])).length) Slot.unset).toArray = ls at hl ⊢
  have hl : lv_has ls 1 [(0, .int q)] := hl
  refine kz_start (fun QQ hQ => ?_)
  refine lv_iload_n hx hb dX4_isSender_0 rfl (lv_at hl 0 rfl) ?_
  refine lv_iconst (v := 0) hx hb dX4_isSender_1 (by decide +kernel) ?_
  refine lv_bipush (v := 9) hx hb dX4_isSender_2 (by decide +kernel) ?_
  refine kz_rdS (As := [.int q, .int 0, .int 9]) (rest := []) ⟨hx, hb, hml, hown, hts⟩ (c_X4_in l G q 0 9) (va_cwS 3 hts gX4_isSender_X4_in rfl rfl rfl (by decide +kernel) ⟨Nat.le_of_ble_eq_true rfl, Nat.le_of_ble_eq_true rfl⟩) hK hP rfl hl.1 rfl (Nat.le_of_ble_eq_true rfl) dX4_isSender_4 ⟨Nat.le_of_ble_eq_true rfl, Nat.le_of_ble_eq_true rfl⟩ ?_
  subst hQ
  exact W.zret (v := (if X4_in_p q 0 9 then 1 else 0)) hx hb hr (by split <;> decide +kernel) (fun t ht _ => ⟨(if X4_in_p q 0 9 then 1 else 0), rfl, rfl, ht⟩) (fun _ h9 => absurd h9 List.not_mem_nil) dX4_isSender_7
abbrev X4_isPlace_p (k : Int32) (pl : Int32) : Prop := ((X4_in_p k 0 5) ∧ (X4_in_p pl 0 7))
set_option maxHeartbeats 4000000 in
set_option maxRecDepth 100000 in
theorem c_X4_isPlace (l : Launch) (G : kz_G) (k : Int32) (pl : Int32) : kz_rd l G yX4_isPlace wsX4_isPlace 1 22 [.int k, .int pl] [] (if X4_isPlace_p k pl then 1 else 0) := by
  refine Met.ofW (cc := cX4_isPlace) (maxL := 2) (ret := (some .boolean)) (by decide) rfl ?_
  intro p e s m args below meth c s₁ B hml hv
  obtain ⟨rfl, hP, hK⟩ := hv
  have hx := B.exec
  have hb := B.bytes
  have hr := B.returns
  have hts := atoms_spec (ws := wsX4_isPlace) B.pre
  have hown : s.vm.findClass RX4 = some m.cls := findClass_of_methodNamed B.named
  have hlocks := B.notSynchronized
  have hl := lv_entry ([.int k, .int pl]) (n := 2) (Nat.le_of_ble_eq_true rfl)
  rw [lg_entry_eq]
  generalize (lg_sl ([.int k, .int pl]) ++ List.replicate (2 - (lg_sl ([.int k, .int pl])).length) Slot.unset).toArray = ls at hl ⊢
  have hl : lv_has ls 2 [(0, .int k), (1, .int pl)] := hl
  refine kz_start (fun QQ hQ => ?_)
  refine lv_iload_n hx hb dX4_isPlace_0 rfl (lv_at hl 0 rfl) ?_
  refine lv_iconst (v := 0) hx hb dX4_isPlace_1 (by decide +kernel) ?_
  refine lv_iconst (v := 5) hx hb dX4_isPlace_2 (by decide +kernel) ?_
  refine kz_rdS (As := [.int k, .int 0, .int 5]) (rest := []) ⟨hx, hb, hml, hown, hts⟩ (c_X4_in l G k 0 5) (va_cwS 3 hts gX4_isPlace_X4_in rfl rfl rfl (by decide +kernel) ⟨Nat.le_of_ble_eq_true rfl, Nat.le_of_ble_eq_true rfl⟩) hK hP rfl hl.1 rfl (Nat.le_of_ble_eq_true rfl) dX4_isPlace_3 ⟨Nat.le_of_ble_eq_true rfl, Nat.le_of_ble_eq_true rfl⟩ ?_
  refine lv_topi (fun y_1 ey_2 => ?_)
  by_cases c_3 : X4_in_p k 0 5
  · rw [if_pos c_3] at ey_2
    subst ey_2
    refine lv_if_eq (tgt := 23) hx hb dX4_isPlace_6 (by decide) (fun c => absurd c (by decide)) (fun _ => ?_)
    refine lv_iload_n hx hb dX4_isPlace_9 rfl (lv_at hl 1 rfl) ?_
    refine lv_iconst (v := 0) hx hb dX4_isPlace_10 (by decide +kernel) ?_
    refine lv_bipush (v := 7) hx hb dX4_isPlace_11 (by decide +kernel) ?_
    refine kz_rdS (As := [.int pl, .int 0, .int 7]) (rest := []) ⟨hx, hb, hml, hown, hts⟩ (c_X4_in l G pl 0 7) (va_cwS 3 hts gX4_isPlace_X4_in rfl rfl rfl (by decide +kernel) ⟨Nat.le_of_ble_eq_true rfl, Nat.le_of_ble_eq_true rfl⟩) hK hP rfl hl.1 rfl (Nat.le_of_ble_eq_true rfl) dX4_isPlace_13 ⟨Nat.le_of_ble_eq_true rfl, Nat.le_of_ble_eq_true rfl⟩ ?_
    refine lv_topi (fun y_4 ey_5 => ?_)
    by_cases c_6 : X4_in_p pl 0 7
    · rw [if_pos c_6] at ey_5
      subst ey_5
      refine lv_if_eq (tgt := 23) hx hb dX4_isPlace_16 (by decide) (fun c => absurd c (by decide)) (fun _ => ?_)
      refine lv_iconst (v := 1) hx hb dX4_isPlace_19 (by decide +kernel) ?_
      refine lv_goto (tgt := 24) hx hb dX4_isPlace_20 (by decide) ?_
      subst hQ
      exact W.zret (v := 1) hx hb hr (by decide +kernel) (fun t ht _ => ⟨1, rfl, ((if_pos ⟨c_3, c_6⟩).symm), ht⟩) (fun _ h9 => absurd h9 List.not_mem_nil) dX4_isPlace_24
    · rw [if_neg c_6] at ey_5
      subst ey_5
      refine lv_if_eq (tgt := 23) hx hb dX4_isPlace_16 (by decide) (fun _ => ?_) (fun c => absurd c (by decide))
      refine lv_iconst (v := 0) hx hb dX4_isPlace_23 (by decide +kernel) ?_
      subst hQ
      exact W.zret (v := 0) hx hb hr (by decide +kernel) (fun t ht _ => ⟨0, rfl, ((if_neg (fun h => c_6 h.2)).symm), ht⟩) (fun _ h9 => absurd h9 List.not_mem_nil) dX4_isPlace_24
  · rw [if_neg c_3] at ey_2
    subst ey_2
    refine lv_if_eq (tgt := 23) hx hb dX4_isPlace_6 (by decide) (fun _ => ?_) (fun c => absurd c (by decide))
    refine lv_iconst (v := 0) hx hb dX4_isPlace_23 (by decide +kernel) ?_
    subst hQ
    exact W.zret (v := 0) hx hb hr (by decide +kernel) (fun t ht _ => ⟨0, rfl, ((if_neg (fun h => c_3 h.1)).symm), ht⟩) (fun _ h9 => absurd h9 List.not_mem_nil) dX4_isPlace_24
def X4_indexOf_r (code : Int32) : Int32 := if X4_in_p code 0 9999 then (if X4_in_p (code / 1000) 1 7 then (if 6 ≤ (kz_rem (code / 100) 10) then (-6) else if 8 ≤ (kz_rem (code / 10) 10) then (-6) else if (X4_codeBy_r (code / 1000) ((8 * (kz_rem (code / 100) 10)) + (kz_rem (code / 10) 10))) = code then (((48 * ((code / 1000) - 1)) + (8 * (kz_rem (code / 100) 10))) + (kz_rem (code / 10) 10)) else (-6)) else (-6)) else (-6)
set_option maxHeartbeats 4000000 in
set_option maxRecDepth 100000 in
theorem c_X4_indexOf (l : Launch) (G : kz_G) (code : Int32) : kz_rd l G yX4_indexOf wsX4_indexOf 1 22 [.int code] [] (X4_indexOf_r code) := by
  refine Met.ofW (cc := cX4_indexOf) (maxL := 5) (ret := (some .int)) (by decide) rfl ?_
  intro p e s m args below meth c s₁ B hml hv
  obtain ⟨rfl, hP, hK⟩ := hv
  have hx := B.exec
  have hb := B.bytes
  have hr := B.returns
  have hts := atoms_spec (ws := wsX4_indexOf) B.pre
  have hown : s.vm.findClass RX4 = some m.cls := findClass_of_methodNamed B.named
  have hlocks := B.notSynchronized
  have hl := lv_entry ([.int code]) (n := 5) (Nat.le_of_ble_eq_true rfl)
  rw [lg_entry_eq]
  generalize (lg_sl ([.int code]) ++ List.replicate (5 - (lg_sl ([.int code])).length) Slot.unset).toArray = ls at hl ⊢
  have hl : lv_has ls 5 [(0, .int code)] := hl
  refine kz_start (fun QQ hQ => ?_)
  refine lv_iload_n hx hb dX4_indexOf_0 rfl (lv_at hl 0 rfl) ?_
  refine lv_sipush (v := 1000) hx hb dX4_indexOf_1 (by decide +kernel) ?_
  refine lv_idiv hx hb dX4_indexOf_4 (by decide +kernel) ?_
  refine lv_istore_n (lv' := [(1, .int (code / 1000)), (0, .int code)]) hx hb dX4_indexOf_5 rfl hl (by decide) rfl (fun ls hl => ?_)
  refine lv_iload_n hx hb dX4_indexOf_6 rfl (lv_at hl 1 rfl) ?_
  refine lv_bipush (v := 100) hx hb dX4_indexOf_7 (by decide +kernel) ?_
  refine lv_idiv hx hb dX4_indexOf_9 (by decide +kernel) ?_
  refine lv_bipush (v := 10) hx hb dX4_indexOf_10 (by decide +kernel) ?_
  refine lv_irem hx hb dX4_indexOf_12 (by decide +kernel) ?_
  refine kz_topR ?_
  refine lv_istore_n (lv' := [(2, .int (kz_rem (code / 100) 10)), (1, .int (code / 1000)), (0, .int code)]) hx hb dX4_indexOf_13 rfl hl (by decide) rfl (fun ls hl => ?_)
  refine lv_iload_n hx hb dX4_indexOf_14 rfl (lv_at hl 2 rfl) ?_
  refine lv_bipush (v := 10) hx hb dX4_indexOf_15 (by decide +kernel) ?_
  refine lv_idiv hx hb dX4_indexOf_17 (by decide +kernel) ?_
  refine lv_bipush (v := 10) hx hb dX4_indexOf_18 (by decide +kernel) ?_
  refine lv_irem hx hb dX4_indexOf_20 (by decide +kernel) ?_
  refine kz_topR ?_
  refine lv_istore_n (lv' := [(3, .int (kz_rem (code / 10) 10)), (2, .int (kz_rem (code / 100) 10)), (1, .int (code / 1000)), (0, .int code)]) hx hb dX4_indexOf_21 rfl hl (by decide) rfl (fun ls hl => ?_)
  refine lv_iload_n hx hb dX4_indexOf_22 rfl (lv_at hl 3 rfl) ?_
  refine lv_iconst (v := 0) hx hb dX4_indexOf_23 (by decide +kernel) ?_
  refine lv_sipush (v := 9999) hx hb dX4_indexOf_24 (by decide +kernel) ?_
  refine kz_rdS (As := [.int code, .int 0, .int 9999]) (rest := []) ⟨hx, hb, hml, hown, hts⟩ (c_X4_in l G code 0 9999) (va_cwS 3 hts gX4_indexOf_X4_in rfl rfl rfl (by decide +kernel) ⟨Nat.le_of_ble_eq_true rfl, Nat.le_of_ble_eq_true rfl⟩) hK hP rfl hl.1 rfl (Nat.le_of_ble_eq_true rfl) dX4_indexOf_27 ⟨Nat.le_of_ble_eq_true rfl, Nat.le_of_ble_eq_true rfl⟩ ?_
  refine lv_topi (fun y_1 ey_2 => ?_)
  by_cases c_3 : X4_in_p code 0 9999
  · rw [if_pos c_3] at ey_2
    subst ey_2
    refine lv_if_eq (tgt := 59) hx hb dX4_indexOf_30 (by decide) (fun c => absurd c (by decide)) (fun _ => ?_)
    refine lv_iload_n hx hb dX4_indexOf_33 rfl (lv_at hl 2 rfl) ?_
    refine lv_iconst (v := 1) hx hb dX4_indexOf_34 (by decide +kernel) ?_
    refine lv_bipush (v := 7) hx hb dX4_indexOf_35 (by decide +kernel) ?_
    refine kz_rdS (As := [.int (code / 1000), .int 1, .int 7]) (rest := []) ⟨hx, hb, hml, hown, hts⟩ (c_X4_in l G (code / 1000) 1 7) (va_cwS 3 hts gX4_indexOf_X4_in rfl rfl rfl (by decide +kernel) ⟨Nat.le_of_ble_eq_true rfl, Nat.le_of_ble_eq_true rfl⟩) hK hP rfl hl.1 rfl (Nat.le_of_ble_eq_true rfl) dX4_indexOf_37 ⟨Nat.le_of_ble_eq_true rfl, Nat.le_of_ble_eq_true rfl⟩ ?_
    refine lv_topi (fun y_4 ey_5 => ?_)
    by_cases c_6 : X4_in_p (code / 1000) 1 7
    · rw [if_pos c_6] at ey_5
      subst ey_5
      refine lv_if_eq (tgt := 59) hx hb dX4_indexOf_40 (by decide) (fun c => absurd c (by decide)) (fun _ => ?_)
      refine lv_iload_n hx hb dX4_indexOf_43 rfl (lv_at hl 1 rfl) ?_
      refine lv_bipush (v := 6) hx hb dX4_indexOf_44 (by decide +kernel) ?_
      refine lv_icmp_ge (tgt := 59) hx hb dX4_indexOf_46 (by decide) (fun c_7 => ?_) (fun c_7 => ?_)
      · refine lv_iconst (v := 0) hx hb dX4_indexOf_59 (by decide +kernel) ?_
        refine lv_istore (lv' := [(4, .int 0), (3, .int (kz_rem (code / 10) 10)), (2, .int (kz_rem (code / 100) 10)), (1, .int (code / 1000)), (0, .int code)]) hx hb dX4_indexOf_60 hl (by decide) rfl (fun ls hl => ?_)
        refine lv_iload hx hb dX4_indexOf_62 (lv_at hl 0 rfl) ?_
        refine lv_if_eq (tgt := 97) hx hb dX4_indexOf_64 (by decide) (fun _ => ?_) (fun c => absurd c (by decide))
        refine lv_bipush (v := (-6)) hx hb dX4_indexOf_97 (by decide +kernel) ?_
        subst hQ
        exact W.iret (v := (-6)) hx hb hr (fun t ht _ => ⟨(-6), rfl, (by rw [X4_indexOf_r, if_pos c_3, if_pos c_6, if_pos c_7]), ht⟩) (fun _ h9 => absurd h9 List.not_mem_nil) dX4_indexOf_99
      · refine lv_iload_n hx hb dX4_indexOf_49 rfl (lv_at hl 0 rfl) ?_
        refine lv_bipush (v := 8) hx hb dX4_indexOf_50 (by decide +kernel) ?_
        refine lv_icmp_ge (tgt := 59) hx hb dX4_indexOf_52 (by decide) (fun c_8 => ?_) (fun c_8 => ?_)
        · refine lv_iconst (v := 0) hx hb dX4_indexOf_59 (by decide +kernel) ?_
          refine lv_istore (lv' := [(4, .int 0), (3, .int (kz_rem (code / 10) 10)), (2, .int (kz_rem (code / 100) 10)), (1, .int (code / 1000)), (0, .int code)]) hx hb dX4_indexOf_60 hl (by decide) rfl (fun ls hl => ?_)
          refine lv_iload hx hb dX4_indexOf_62 (lv_at hl 0 rfl) ?_
          refine lv_if_eq (tgt := 97) hx hb dX4_indexOf_64 (by decide) (fun _ => ?_) (fun c => absurd c (by decide))
          refine lv_bipush (v := (-6)) hx hb dX4_indexOf_97 (by decide +kernel) ?_
          subst hQ
          exact W.iret (v := (-6)) hx hb hr (fun t ht _ => ⟨(-6), rfl, (by rw [X4_indexOf_r, if_pos c_3, if_pos c_6, if_neg c_7, if_pos c_8]), ht⟩) (fun _ h9 => absurd h9 List.not_mem_nil) dX4_indexOf_99
        · refine lv_iconst (v := 1) hx hb dX4_indexOf_55 (by decide +kernel) ?_
          refine lv_goto (tgt := 60) hx hb dX4_indexOf_56 (by decide) ?_
          refine lv_istore (lv' := [(4, .int 1), (3, .int (kz_rem (code / 10) 10)), (2, .int (kz_rem (code / 100) 10)), (1, .int (code / 1000)), (0, .int code)]) hx hb dX4_indexOf_60 hl (by decide) rfl (fun ls hl => ?_)
          refine lv_iload hx hb dX4_indexOf_62 (lv_at hl 0 rfl) ?_
          refine lv_if_eq (tgt := 97) hx hb dX4_indexOf_64 (by decide) (fun c => absurd c (by decide)) (fun _ => ?_)
          refine lv_iload_n hx hb dX4_indexOf_67 rfl (lv_at hl 3 rfl) ?_
          refine lv_bipush (v := 8) hx hb dX4_indexOf_68 (by decide +kernel) ?_
          refine lv_iload_n hx hb dX4_indexOf_70 rfl (lv_at hl 2 rfl) ?_
          refine lv_imul hx hb dX4_indexOf_71 ?_
          refine lv_iload_n hx hb dX4_indexOf_72 rfl (lv_at hl 1 rfl) ?_
          refine lv_iadd hx hb dX4_indexOf_73 ?_
          refine kz_rdS (As := [.int (code / 1000), .int ((8 * (kz_rem (code / 100) 10)) + (kz_rem (code / 10) 10))]) (rest := []) ⟨hx, hb, hml, hown, hts⟩ (c_X4_codeBy l G (code / 1000) ((8 * (kz_rem (code / 100) 10)) + (kz_rem (code / 10) 10))) (va_cwS 2 hts gX4_indexOf_X4_codeBy rfl rfl rfl (by decide +kernel) ⟨Nat.le_of_ble_eq_true rfl, Nat.le_of_ble_eq_true rfl⟩) hK hP rfl hl.1 rfl (Nat.le_of_ble_eq_true rfl) dX4_indexOf_74 ⟨Nat.le_of_ble_eq_true rfl, Nat.le_of_ble_eq_true rfl⟩ ?_
          refine lv_iload_n hx hb dX4_indexOf_77 rfl (lv_at hl 4 rfl) ?_
          refine lv_icmp_ne (tgt := 97) hx hb dX4_indexOf_78 (by decide) (fun c_9 => ?_) (fun c_9 => ?_)
          · refine lv_bipush (v := (-6)) hx hb dX4_indexOf_97 (by decide +kernel) ?_
            subst hQ
            exact W.iret (v := (-6)) hx hb hr (fun t ht _ => ⟨(-6), rfl, (by rw [X4_indexOf_r, if_pos c_3, if_pos c_6, if_neg c_7, if_neg c_8, if_neg c_9]), ht⟩) (fun _ h9 => absurd h9 List.not_mem_nil) dX4_indexOf_99
          · refine lv_bipush (v := 48) hx hb dX4_indexOf_81 (by decide +kernel) ?_
            refine lv_iload_n hx hb dX4_indexOf_83 rfl (lv_at hl 3 rfl) ?_
            refine lv_iconst (v := 1) hx hb dX4_indexOf_84 (by decide +kernel) ?_
            refine lv_isub hx hb dX4_indexOf_85 ?_
            refine lv_imul hx hb dX4_indexOf_86 ?_
            refine lv_bipush (v := 8) hx hb dX4_indexOf_87 (by decide +kernel) ?_
            refine lv_iload_n hx hb dX4_indexOf_89 rfl (lv_at hl 2 rfl) ?_
            refine lv_imul hx hb dX4_indexOf_90 ?_
            refine lv_iadd hx hb dX4_indexOf_91 ?_
            refine lv_iload_n hx hb dX4_indexOf_92 rfl (lv_at hl 1 rfl) ?_
            refine lv_iadd hx hb dX4_indexOf_93 ?_
            refine lv_goto (tgt := 99) hx hb dX4_indexOf_94 (by decide) ?_
            subst hQ
            exact W.iret (v := (((48 * ((code / 1000) - 1)) + (8 * (kz_rem (code / 100) 10))) + (kz_rem (code / 10) 10))) hx hb hr (fun t ht _ => ⟨(((48 * ((code / 1000) - 1)) + (8 * (kz_rem (code / 100) 10))) + (kz_rem (code / 10) 10)), rfl, (by rw [X4_indexOf_r, if_pos c_3, if_pos c_6, if_neg c_7, if_neg c_8, if_pos c_9]), ht⟩) (fun _ h9 => absurd h9 List.not_mem_nil) dX4_indexOf_99
    · rw [if_neg c_6] at ey_5
      subst ey_5
      refine lv_if_eq (tgt := 59) hx hb dX4_indexOf_40 (by decide) (fun _ => ?_) (fun c => absurd c (by decide))
      refine lv_iconst (v := 0) hx hb dX4_indexOf_59 (by decide +kernel) ?_
      refine lv_istore (lv' := [(4, .int 0), (3, .int (kz_rem (code / 10) 10)), (2, .int (kz_rem (code / 100) 10)), (1, .int (code / 1000)), (0, .int code)]) hx hb dX4_indexOf_60 hl (by decide) rfl (fun ls hl => ?_)
      refine lv_iload hx hb dX4_indexOf_62 (lv_at hl 0 rfl) ?_
      refine lv_if_eq (tgt := 97) hx hb dX4_indexOf_64 (by decide) (fun _ => ?_) (fun c => absurd c (by decide))
      refine lv_bipush (v := (-6)) hx hb dX4_indexOf_97 (by decide +kernel) ?_
      subst hQ
      exact W.iret (v := (-6)) hx hb hr (fun t ht _ => ⟨(-6), rfl, (by rw [X4_indexOf_r, if_pos c_3, if_neg c_6]), ht⟩) (fun _ h9 => absurd h9 List.not_mem_nil) dX4_indexOf_99
  · rw [if_neg c_3] at ey_2
    subst ey_2
    refine lv_if_eq (tgt := 59) hx hb dX4_indexOf_30 (by decide) (fun _ => ?_) (fun c => absurd c (by decide))
    refine lv_iconst (v := 0) hx hb dX4_indexOf_59 (by decide +kernel) ?_
    refine lv_istore (lv' := [(4, .int 0), (3, .int (kz_rem (code / 10) 10)), (2, .int (kz_rem (code / 100) 10)), (1, .int (code / 1000)), (0, .int code)]) hx hb dX4_indexOf_60 hl (by decide) rfl (fun ls hl => ?_)
    refine lv_iload hx hb dX4_indexOf_62 (lv_at hl 0 rfl) ?_
    refine lv_if_eq (tgt := 97) hx hb dX4_indexOf_64 (by decide) (fun _ => ?_) (fun c => absurd c (by decide))
    refine lv_bipush (v := (-6)) hx hb dX4_indexOf_97 (by decide +kernel) ?_
    subst hQ
    exact W.iret (v := (-6)) hx hb hr (fun t ht _ => ⟨(-6), rfl, (by rw [X4_indexOf_r, if_neg c_3]), ht⟩) (fun _ h9 => absurd h9 List.not_mem_nil) dX4_indexOf_99
abbrev X4_isInRange_p (k : Int32) (v : Int32) : Prop := (((k = 0) ∧ (X4_in_p v 0 20)) ∨ (¬ (k = 0) ∧ (((k = 1) ∧ (X4_in_p v 0 9)) ∨ (¬ (k = 1) ∧ (((k = 2) ∧ (X4_in_p v 0 50)) ∨ (¬ (k = 2) ∧ (((k = 3) ∧ (X4_in_p v 1 20)) ∨ (¬ (k = 3) ∧ ((k = 4) ∧ (X4_in_p v 1 9))))))))))
set_option maxHeartbeats 4000000 in
set_option maxRecDepth 100000 in
theorem c_X4_isInRange (l : Launch) (G : kz_G) (k : Int32) (v : Int32) : kz_rd l G yX4_isInRange wsX4_isInRange 1 22 [.int k, .int v] [] (if X4_isInRange_p k v then 1 else 0) := by
  refine Met.ofW (cc := cX4_isInRange) (maxL := 2) (ret := (some .boolean)) (by decide) rfl ?_
  intro p e s m args below meth c s₁ B hml hv
  obtain ⟨rfl, hP, hK⟩ := hv
  have hx := B.exec
  have hb := B.bytes
  have hr := B.returns
  have hts := atoms_spec (ws := wsX4_isInRange) B.pre
  have hown : s.vm.findClass RX4 = some m.cls := findClass_of_methodNamed B.named
  have hlocks := B.notSynchronized
  have hl := lv_entry ([.int k, .int v]) (n := 2) (Nat.le_of_ble_eq_true rfl)
  rw [lg_entry_eq]
  generalize (lg_sl ([.int k, .int v]) ++ List.replicate (2 - (lg_sl ([.int k, .int v])).length) Slot.unset).toArray = ls at hl ⊢
  have hl : lv_has ls 2 [(0, .int k), (1, .int v)] := hl
  refine kz_start (fun QQ hQ => ?_)
  refine lv_iload_n hx hb dX4_isInRange_0 rfl (lv_at hl 0 rfl) ?_
  refine lv_topi (fun y_1 ey_2 => ?_)
  by_cases c_3 : y_1 = 0
  · have c_4 : k = 0 := by rw [← ey_2]; exact c_3
    subst c_3
    refine lv_tableIn (off := 35) (tgt := 36) hx hb dX4_isInRange_1 (by decide +kernel) (by decide +kernel) (by decide +kernel) (by decide) ?_
    refine lv_iload_n hx hb dX4_isInRange_36 rfl (lv_at hl 1 rfl) ?_
    refine lv_iconst (v := 0) hx hb dX4_isInRange_37 (by decide +kernel) ?_
    refine lv_bipush (v := 20) hx hb dX4_isInRange_38 (by decide +kernel) ?_
    refine kz_rdS (As := [.int v, .int 0, .int 20]) (rest := []) ⟨hx, hb, hml, hown, hts⟩ (c_X4_in l G v 0 20) (va_cwS 3 hts gX4_isInRange_X4_in rfl rfl rfl (by decide +kernel) ⟨Nat.le_of_ble_eq_true rfl, Nat.le_of_ble_eq_true rfl⟩) hK hP rfl hl.1 rfl (Nat.le_of_ble_eq_true rfl) dX4_isInRange_40 ⟨Nat.le_of_ble_eq_true rfl, Nat.le_of_ble_eq_true rfl⟩ ?_
    subst hQ
    exact W.zret (v := (if X4_in_p v 0 20 then 1 else 0)) hx hb hr (by split <;> decide +kernel) (fun t ht _ => ⟨(if X4_in_p v 0 20 then 1 else 0), rfl, (kz_ifc ⟨(fun h => Or.inl ⟨c_4, (fun h => h) h⟩), (fun h => h.elim (fun k => (fun h => h) k.2) (fun k => absurd c_4 k.1))⟩), ht⟩) (fun _ h9 => absurd h9 List.not_mem_nil) dX4_isInRange_43
  · have c_5 : ¬ k = 0 := by rw [← ey_2]; exact c_3
    by_cases c_6 : y_1 = 1
    · have c_7 : k = 1 := by rw [← ey_2]; exact c_6
      subst c_6
      refine lv_tableIn (off := 43) (tgt := 44) hx hb dX4_isInRange_1 (by decide +kernel) (by decide +kernel) (by decide +kernel) (by decide) ?_
      refine lv_iload_n hx hb dX4_isInRange_44 rfl (lv_at hl 1 rfl) ?_
      refine lv_iconst (v := 0) hx hb dX4_isInRange_45 (by decide +kernel) ?_
      refine lv_bipush (v := 9) hx hb dX4_isInRange_46 (by decide +kernel) ?_
      refine kz_rdS (As := [.int v, .int 0, .int 9]) (rest := []) ⟨hx, hb, hml, hown, hts⟩ (c_X4_in l G v 0 9) (va_cwS 3 hts gX4_isInRange_X4_in rfl rfl rfl (by decide +kernel) ⟨Nat.le_of_ble_eq_true rfl, Nat.le_of_ble_eq_true rfl⟩) hK hP rfl hl.1 rfl (Nat.le_of_ble_eq_true rfl) dX4_isInRange_48 ⟨Nat.le_of_ble_eq_true rfl, Nat.le_of_ble_eq_true rfl⟩ ?_
      subst hQ
      exact W.zret (v := (if X4_in_p v 0 9 then 1 else 0)) hx hb hr (by split <;> decide +kernel) (fun t ht _ => ⟨(if X4_in_p v 0 9 then 1 else 0), rfl, (kz_ifc ⟨(fun h => Or.inr ⟨c_5, (fun h => Or.inl ⟨c_7, (fun h => h) h⟩) h⟩), (fun h => h.elim (fun k => absurd k.1 c_5) (fun k => (fun h => h.elim (fun k => (fun h => h) k.2) (fun k => absurd c_7 k.1)) k.2))⟩), ht⟩) (fun _ h9 => absurd h9 List.not_mem_nil) dX4_isInRange_51
    · have c_8 : ¬ k = 1 := by rw [← ey_2]; exact c_6
      by_cases c_9 : y_1 = 2
      · have c_10 : k = 2 := by rw [← ey_2]; exact c_9
        subst c_9
        refine lv_tableIn (off := 51) (tgt := 52) hx hb dX4_isInRange_1 (by decide +kernel) (by decide +kernel) (by decide +kernel) (by decide) ?_
        refine lv_iload_n hx hb dX4_isInRange_52 rfl (lv_at hl 1 rfl) ?_
        refine lv_iconst (v := 0) hx hb dX4_isInRange_53 (by decide +kernel) ?_
        refine lv_bipush (v := 50) hx hb dX4_isInRange_54 (by decide +kernel) ?_
        refine kz_rdS (As := [.int v, .int 0, .int 50]) (rest := []) ⟨hx, hb, hml, hown, hts⟩ (c_X4_in l G v 0 50) (va_cwS 3 hts gX4_isInRange_X4_in rfl rfl rfl (by decide +kernel) ⟨Nat.le_of_ble_eq_true rfl, Nat.le_of_ble_eq_true rfl⟩) hK hP rfl hl.1 rfl (Nat.le_of_ble_eq_true rfl) dX4_isInRange_56 ⟨Nat.le_of_ble_eq_true rfl, Nat.le_of_ble_eq_true rfl⟩ ?_
        subst hQ
        exact W.zret (v := (if X4_in_p v 0 50 then 1 else 0)) hx hb hr (by split <;> decide +kernel) (fun t ht _ => ⟨(if X4_in_p v 0 50 then 1 else 0), rfl, (kz_ifc ⟨(fun h => Or.inr ⟨c_5, (fun h => Or.inr ⟨c_8, (fun h => Or.inl ⟨c_10, (fun h => h) h⟩) h⟩) h⟩), (fun h => h.elim (fun k => absurd k.1 c_5) (fun k => (fun h => h.elim (fun k => absurd k.1 c_8) (fun k => (fun h => h.elim (fun k => (fun h => h) k.2) (fun k => absurd c_10 k.1)) k.2)) k.2))⟩), ht⟩) (fun _ h9 => absurd h9 List.not_mem_nil) dX4_isInRange_59
      · have c_11 : ¬ k = 2 := by rw [← ey_2]; exact c_9
        by_cases c_12 : y_1 = 3
        · have c_13 : k = 3 := by rw [← ey_2]; exact c_12
          subst c_12
          refine lv_tableIn (off := 59) (tgt := 60) hx hb dX4_isInRange_1 (by decide +kernel) (by decide +kernel) (by decide +kernel) (by decide) ?_
          refine lv_iload_n hx hb dX4_isInRange_60 rfl (lv_at hl 1 rfl) ?_
          refine lv_iconst (v := 1) hx hb dX4_isInRange_61 (by decide +kernel) ?_
          refine lv_bipush (v := 20) hx hb dX4_isInRange_62 (by decide +kernel) ?_
          refine kz_rdS (As := [.int v, .int 1, .int 20]) (rest := []) ⟨hx, hb, hml, hown, hts⟩ (c_X4_in l G v 1 20) (va_cwS 3 hts gX4_isInRange_X4_in rfl rfl rfl (by decide +kernel) ⟨Nat.le_of_ble_eq_true rfl, Nat.le_of_ble_eq_true rfl⟩) hK hP rfl hl.1 rfl (Nat.le_of_ble_eq_true rfl) dX4_isInRange_64 ⟨Nat.le_of_ble_eq_true rfl, Nat.le_of_ble_eq_true rfl⟩ ?_
          subst hQ
          exact W.zret (v := (if X4_in_p v 1 20 then 1 else 0)) hx hb hr (by split <;> decide +kernel) (fun t ht _ => ⟨(if X4_in_p v 1 20 then 1 else 0), rfl, (kz_ifc ⟨(fun h => Or.inr ⟨c_5, (fun h => Or.inr ⟨c_8, (fun h => Or.inr ⟨c_11, (fun h => Or.inl ⟨c_13, (fun h => h) h⟩) h⟩) h⟩) h⟩), (fun h => h.elim (fun k => absurd k.1 c_5) (fun k => (fun h => h.elim (fun k => absurd k.1 c_8) (fun k => (fun h => h.elim (fun k => absurd k.1 c_11) (fun k => (fun h => h.elim (fun k => (fun h => h) k.2) (fun k => absurd c_13 k.1)) k.2)) k.2)) k.2))⟩), ht⟩) (fun _ h9 => absurd h9 List.not_mem_nil) dX4_isInRange_67
        · have c_14 : ¬ k = 3 := by rw [← ey_2]; exact c_12
          by_cases c_15 : y_1 = 4
          · have c_16 : k = 4 := by rw [← ey_2]; exact c_15
            subst c_15
            refine lv_tableIn (off := 67) (tgt := 68) hx hb dX4_isInRange_1 (by decide +kernel) (by decide +kernel) (by decide +kernel) (by decide) ?_
            refine lv_iload_n hx hb dX4_isInRange_68 rfl (lv_at hl 1 rfl) ?_
            refine lv_iconst (v := 1) hx hb dX4_isInRange_69 (by decide +kernel) ?_
            refine lv_bipush (v := 9) hx hb dX4_isInRange_70 (by decide +kernel) ?_
            refine kz_rdS (As := [.int v, .int 1, .int 9]) (rest := []) ⟨hx, hb, hml, hown, hts⟩ (c_X4_in l G v 1 9) (va_cwS 3 hts gX4_isInRange_X4_in rfl rfl rfl (by decide +kernel) ⟨Nat.le_of_ble_eq_true rfl, Nat.le_of_ble_eq_true rfl⟩) hK hP rfl hl.1 rfl (Nat.le_of_ble_eq_true rfl) dX4_isInRange_72 ⟨Nat.le_of_ble_eq_true rfl, Nat.le_of_ble_eq_true rfl⟩ ?_
            subst hQ
            exact W.zret (v := (if X4_in_p v 1 9 then 1 else 0)) hx hb hr (by split <;> decide +kernel) (fun t ht _ => ⟨(if X4_in_p v 1 9 then 1 else 0), rfl, (kz_ifc ⟨(fun h => Or.inr ⟨c_5, (fun h => Or.inr ⟨c_8, (fun h => Or.inr ⟨c_11, (fun h => Or.inr ⟨c_14, (fun h => ⟨c_16, (fun h => h) h⟩) h⟩) h⟩) h⟩) h⟩), (fun h => h.elim (fun k => absurd k.1 c_5) (fun k => (fun h => h.elim (fun k => absurd k.1 c_8) (fun k => (fun h => h.elim (fun k => absurd k.1 c_11) (fun k => (fun h => h.elim (fun k => absurd k.1 c_14) (fun k => (fun h => (fun h => h) h.2) k.2)) k.2)) k.2)) k.2))⟩), ht⟩) (fun _ h9 => absurd h9 List.not_mem_nil) dX4_isInRange_75
          · have c_17 : ¬ k = 4 := by rw [← ey_2]; exact c_15
            refine lv_tableOut (tgt := 76) hx hb dX4_isInRange_1 (by have h0 := lv_neT c_3 (by decide +kernel : (0 : Int32).toInt = 0); have h1 := lv_neT c_6 (by decide +kernel : (1 : Int32).toInt = 1); have h2 := lv_neT c_9 (by decide +kernel : (2 : Int32).toInt = 2); have h3 := lv_neT c_12 (by decide +kernel : (3 : Int32).toInt = 3); have h4 := lv_neT c_15 (by decide +kernel : (4 : Int32).toInt = 4); omega) (by decide) ?_
            refine lv_iconst (v := 0) hx hb dX4_isInRange_76 (by decide +kernel) ?_
            subst hQ
            exact W.zret (v := 0) hx hb hr (by decide +kernel) (fun t ht _ => ⟨0, rfl, ((if_neg (fun h => h.elim (fun k => c_5 k.1) (fun k => (fun h => h.elim (fun k => c_8 k.1) (fun k => (fun h => h.elim (fun k => c_11 k.1) (fun k => (fun h => h.elim (fun k => c_14 k.1) (fun k => (fun h => c_17 h.1) k.2)) k.2)) k.2)) k.2))).symm), ht⟩) (fun _ h9 => absurd h9 List.not_mem_nil) dX4_isInRange_77
