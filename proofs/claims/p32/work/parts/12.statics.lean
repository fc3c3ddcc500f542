abbrev X3_isWithin_p (v : Int32) (lo : Int32) (hi : Int32) : Prop := (¬ (v < lo) ∧ (¬ (hi < v)))
set_option maxHeartbeats 4000000 in
set_option maxRecDepth 100000 in
theorem c_X3_isWithin (l : Launch) (G : kz_G) (v : Int32) (lo : Int32) (hi : Int32) : kz_rd l G yX3_isWithin wsX3_isWithin 0 0 [.int v, .int lo, .int hi] [] (if X3_isWithin_p v lo hi then 1 else 0) := by
  refine Met.ofW (cc := cX3_isWithin) (maxL := 3) (ret := (some .boolean)) (by decide) rfl ?_
  intro p e s m args below meth c s₁ B hml hv
  obtain ⟨rfl, hP, hK⟩ := hv
  have hx := B.exec
  have hb := B.bytes
  have hr := B.returns
  have hts := atoms_spec (ws := wsX3_isWithin) B.pre
  have hown : s.vm.findClass RX3 = some m.cls := findClass_of_methodNamed B.named
  have hlocks := B.notSynchronized
  have hl := lv_entry ([.int v, .int lo, .int hi]) (n := 3) (Nat.le_of_ble_eq_true rfl)
  rw [lg_entry_eq]
  generalize (lg_sl ([.int v, .int lo, .int hi]) ++ List.replicate (3 - (lg_sl ([.int v, .int lo, .int hi])).length) Slot.unset).toArray = ls at hl ⊢
  have hl : lv_has ls 3 [(0, .int v), (1, .int lo), (2, .int hi)] := hl
  refine kz_start (fun QQ hQ => ?_)
  refine lv_iload_n hx hb dX3_isWithin_0 rfl (lv_at hl 0 rfl) ?_
  refine lv_iload_n hx hb dX3_isWithin_1 rfl (lv_at hl 1 rfl) ?_
  refine lv_icmp_lt (tgt := 14) hx hb dX3_isWithin_2 (by decide) (fun c_1 => ?_) (fun c_1 => ?_)
  · refine lv_iconst (v := 0) hx hb dX3_isWithin_14 (by decide +kernel) ?_
    subst hQ
    exact W.zret (v := 0) hx hb hr (by decide +kernel) (fun t ht _ => ⟨0, rfl, ((if_neg (fun h => h.1 c_1)).symm), ht⟩) (fun _ h9 => absurd h9 List.not_mem_nil) dX3_isWithin_15
  · refine lv_iload_n hx hb dX3_isWithin_5 rfl (lv_at hl 0 rfl) ?_
    refine lv_iload_n hx hb dX3_isWithin_6 rfl (lv_at hl 2 rfl) ?_
    refine lv_icmp_gt (tgt := 14) hx hb dX3_isWithin_7 (by decide) (fun c_2 => ?_) (fun c_2 => ?_)
    · refine lv_iconst (v := 0) hx hb dX3_isWithin_14 (by decide +kernel) ?_
      subst hQ
      exact W.zret (v := 0) hx hb hr (by decide +kernel) (fun t ht _ => ⟨0, rfl, ((if_neg (fun h => (fun h => h c_2) h.2)).symm), ht⟩) (fun _ h9 => absurd h9 List.not_mem_nil) dX3_isWithin_15
    · refine lv_iconst (v := 1) hx hb dX3_isWithin_10 (by decide +kernel) ?_
      refine lv_goto (tgt := 15) hx hb dX3_isWithin_11 (by decide) ?_
      subst hQ
      exact W.zret (v := 1) hx hb hr (by decide +kernel) (fun t ht _ => ⟨1, rfl, ((if_pos ⟨c_1, c_2⟩).symm), ht⟩) (fun _ h9 => absurd h9 List.not_mem_nil) dX3_isWithin_15
def X3_weekdayOf_r (d : Int32) : Int32 := ((kz_rem d 7) + 1)
set_option maxHeartbeats 4000000 in
set_option maxRecDepth 100000 in
theorem c_X3_weekdayOf (l : Launch) (G : kz_G) (d : Int32) : kz_rd l G yX3_weekdayOf wsX3_weekdayOf 0 0 [.int d] [] (X3_weekdayOf_r d) := by
  refine Met.ofW (cc := cX3_weekdayOf) (maxL := 1) (ret := (some .int)) (by decide) rfl ?_
  intro p e s m args below meth c s₁ B hml hv
  obtain ⟨rfl, hP, hK⟩ := hv
  have hx := B.exec
  have hb := B.bytes
  have hr := B.returns
  have hts := atoms_spec (ws := wsX3_weekdayOf) B.pre
  have hown : s.vm.findClass RX3 = some m.cls := findClass_of_methodNamed B.named
  have hlocks := B.notSynchronized
  have hl := lv_entry ([.int d]) (n := 1) (Nat.le_of_ble_eq_true rfl)
  rw [lg_entry_eq]
  generalize (lg_sl ([.int d]) ++ List.replicate (1 - (lg_sl ([.int d])).length) Slot.unset).toArray = ls at hl ⊢
  have hl : lv_has ls 1 [(0, .int d)] := hl
  refine kz_start (fun QQ hQ => ?_)
  refine lv_iload_n hx hb dX3_weekdayOf_0 rfl (lv_at hl 0 rfl) ?_
  refine lv_bipush (v := 7) hx hb dX3_weekdayOf_1 (by decide +kernel) ?_
  refine lv_irem hx hb dX3_weekdayOf_3 (by decide +kernel) ?_
  refine kz_topR ?_
  refine lv_iconst (v := 1) hx hb dX3_weekdayOf_4 (by decide +kernel) ?_
  refine lv_iadd hx hb dX3_weekdayOf_5 ?_
  subst hQ
  exact W.iret (v := ((kz_rem d 7) + 1)) hx hb hr (fun t ht _ => ⟨((kz_rem d 7) + 1), rfl, rfl, ht⟩) (fun _ h9 => absurd h9 List.not_mem_nil) dX3_weekdayOf_6
def X3_checkDigit_r (w : Int32) (sh : Int32) (pl : Int32) : Int32 := (kz_rem (10 - (kz_rem (((3 * w) + sh) + (7 * pl)) 10)) 10)
set_option maxHeartbeats 4000000 in
set_option maxRecDepth 100000 in
theorem c_X3_checkDigit (l : Launch) (G : kz_G) (w : Int32) (sh : Int32) (pl : Int32) : kz_rd l G yX3_checkDigit wsX3_checkDigit 0 0 [.int w, .int sh, .int pl] [] (X3_checkDigit_r w sh pl) := by
  refine Met.ofW (cc := cX3_checkDigit) (maxL := 3) (ret := (some .int)) (by decide) rfl ?_
  intro p e s m args below meth c s₁ B hml hv
  obtain ⟨rfl, hP, hK⟩ := hv
  have hx := B.exec
  have hb := B.bytes
  have hr := B.returns
  have hts := atoms_spec (ws := wsX3_checkDigit) B.pre
  have hown : s.vm.findClass RX3 = some m.cls := findClass_of_methodNamed B.named
  have hlocks := B.notSynchronized
  have hl := lv_entry ([.int w, .int sh, .int pl]) (n := 3) (Nat.le_of_ble_eq_true rfl)
  rw [lg_entry_eq]
  generalize (lg_sl ([.int w, .int sh, .int pl]) ++ List.replicate (3 - (lg_sl ([.int w, .int sh, .int pl])).length) Slot.unset).toArray = ls at hl ⊢
  have hl : lv_has ls 3 [(0, .int w), (1, .int sh), (2, .int pl)] := hl
  refine kz_start (fun QQ hQ => ?_)
  refine lv_bipush (v := 10) hx hb dX3_checkDigit_0 (by decide +kernel) ?_
  refine lv_iconst (v := 3) hx hb dX3_checkDigit_2 (by decide +kernel) ?_
  refine lv_iload_n hx hb dX3_checkDigit_3 rfl (lv_at hl 0 rfl) ?_
  refine lv_imul hx hb dX3_checkDigit_4 ?_
  refine lv_iload_n hx hb dX3_checkDigit_5 rfl (lv_at hl 1 rfl) ?_
  refine lv_iadd hx hb dX3_checkDigit_6 ?_
  refine lv_bipush (v := 7) hx hb dX3_checkDigit_7 (by decide +kernel) ?_
  refine lv_iload_n hx hb dX3_checkDigit_9 rfl (lv_at hl 2 rfl) ?_
  refine lv_imul hx hb dX3_checkDigit_10 ?_
  refine lv_iadd hx hb dX3_checkDigit_11 ?_
  refine lv_bipush (v := 10) hx hb dX3_checkDigit_12 (by decide +kernel) ?_
  refine lv_irem hx hb dX3_checkDigit_14 (by decide +kernel) ?_
  refine kz_topR ?_
  refine lv_isub hx hb dX3_checkDigit_15 ?_
  refine lv_bipush (v := 10) hx hb dX3_checkDigit_16 (by decide +kernel) ?_
  refine lv_irem hx hb dX3_checkDigit_18 (by decide +kernel) ?_
  refine kz_topR ?_
  subst hQ
  exact W.iret (v := (kz_rem (10 - (kz_rem (((3 * w) + sh) + (7 * pl)) 10)) 10)) hx hb hr (fun t ht _ => ⟨(kz_rem (10 - (kz_rem (((3 * w) + sh) + (7 * pl)) 10)) 10), rfl, rfl, ht⟩) (fun _ h9 => absurd h9 List.not_mem_nil) dX3_checkDigit_19
def X3_codeFor_r (w : Int32) (pl : Int32) : Int32 := ((((1000 * w) + (100 * (pl / 8))) + (10 * (kz_rem pl 8))) + (X3_checkDigit_r w (pl / 8) (kz_rem pl 8)))
set_option maxHeartbeats 4000000 in
set_option maxRecDepth 100000 in
theorem c_X3_codeFor (l : Launch) (G : kz_G) (w : Int32) (pl : Int32) : kz_rd l G yX3_codeFor wsX3_codeFor 1 22 [.int w, .int pl] [] (X3_codeFor_r w pl) := by
  refine Met.ofW (cc := cX3_codeFor) (maxL := 4) (ret := (some .int)) (by decide) rfl ?_
  intro p e s m args below meth c s₁ B hml hv
  obtain ⟨rfl, hP, hK⟩ := hv
  have hx := B.exec
  have hb := B.bytes
  have hr := B.returns
  have hts := atoms_spec (ws := wsX3_codeFor) B.pre
  have hown : s.vm.findClass RX3 = some m.cls := findClass_of_methodNamed B.named
  have hlocks := B.notSynchronized
  have hl := lv_entry ([.int w, .int pl]) (n := 4) (Nat.le_of_ble_eq_true rfl)
  rw [lg_entry_eq]
  generalize (lg_sl ([.int w, .int pl]) ++ List.replicate (4 - (lg_sl ([.int w, .int pl])).length) Slot.unset).toArray = ls at hl ⊢
  have hl : lv_has ls 4 [(0, .int w), (1, .int pl)] := hl
  refine kz_start (fun QQ hQ => ?_)
  refine lv_iload_n hx hb dX3_codeFor_0 rfl (lv_at hl 1 rfl) ?_
  refine lv_bipush (v := 8) hx hb dX3_codeFor_1 (by decide +kernel) ?_
  refine lv_idiv hx hb dX3_codeFor_3 (by decide +kernel) ?_
  refine lv_istore_n (lv' := [(2, .int (pl / 8)), (0, .int w), (1, .int pl)]) hx hb dX3_codeFor_4 rfl hl (by decide) rfl (fun ls hl => ?_)
  refine lv_iload_n hx hb dX3_codeFor_5 rfl (lv_at hl 2 rfl) ?_
  refine lv_bipush (v := 8) hx hb dX3_codeFor_6 (by decide +kernel) ?_
  refine lv_irem hx hb dX3_codeFor_8 (by decide +kernel) ?_
  refine kz_topR ?_
  refine lv_istore_n (lv' := [(3, .int (kz_rem pl 8)), (2, .int (pl / 8)), (0, .int w), (1, .int pl)]) hx hb dX3_codeFor_9 rfl hl (by decide) rfl (fun ls hl => ?_)
  refine lv_sipush (v := 1000) hx hb dX3_codeFor_10 (by decide +kernel) ?_
  refine lv_iload_n hx hb dX3_codeFor_13 rfl (lv_at hl 2 rfl) ?_
  refine lv_imul hx hb dX3_codeFor_14 ?_
  refine lv_bipush (v := 100) hx hb dX3_codeFor_15 (by decide +kernel) ?_
  refine lv_iload_n hx hb dX3_codeFor_17 rfl (lv_at hl 1 rfl) ?_
  refine lv_imul hx hb dX3_codeFor_18 ?_
  refine lv_iadd hx hb dX3_codeFor_19 ?_
  refine lv_bipush (v := 10) hx hb dX3_codeFor_20 (by decide +kernel) ?_
  refine lv_iload_n hx hb dX3_codeFor_22 rfl (lv_at hl 0 rfl) ?_
  refine lv_imul hx hb dX3_codeFor_23 ?_
  refine lv_iadd hx hb dX3_codeFor_24 ?_
  refine lv_iload_n hx hb dX3_codeFor_25 rfl (lv_at hl 2 rfl) ?_
  refine lv_iload_n hx hb dX3_codeFor_26 rfl (lv_at hl 1 rfl) ?_
  refine lv_iload_n hx hb dX3_codeFor_27 rfl (lv_at hl 0 rfl) ?_
  refine kz_rdS (As := [.int w, .int (pl / 8), .int (kz_rem pl 8)]) (rest := [.int (((1000 * w) + (100 * (pl / 8))) + (10 * (kz_rem pl 8)))]) ⟨hx, hb, hml, hown, hts⟩ (c_X3_checkDigit l G w (pl / 8) (kz_rem pl 8)) (va_cwS 3 hts gX3_codeFor_X3_checkDigit rfl rfl rfl (by decide +kernel) ⟨Nat.le_of_ble_eq_true rfl, Nat.le_of_ble_eq_true rfl⟩) hK hP rfl hl.1 rfl (Nat.le_of_ble_eq_true rfl) dX3_codeFor_28 ⟨Nat.le_of_ble_eq_true rfl, Nat.le_of_ble_eq_true rfl⟩ ?_
  refine lv_iadd hx hb dX3_codeFor_31 ?_
  subst hQ
  exact W.iret (v := ((((1000 * w) + (100 * (pl / 8))) + (10 * (kz_rem pl 8))) + (X3_checkDigit_r w (pl / 8) (kz_rem pl 8)))) hx hb hr (fun t ht _ => ⟨((((1000 * w) + (100 * (pl / 8))) + (10 * (kz_rem pl 8))) + (X3_checkDigit_r w (pl / 8) (kz_rem pl 8))), rfl, rfl, ht⟩) (fun _ h9 => absurd h9 List.not_mem_nil) dX3_codeFor_32
def X3_indexFor_r (w : Int32) (pl : Int32) : Int32 := (((w - 1) * 48) + pl)
set_option maxHeartbeats 4000000 in
set_option maxRecDepth 100000 in
theorem c_X3_indexFor (l : Launch) (G : kz_G) (w : Int32) (pl : Int32) : kz_rd l G yX3_indexFor wsX3_indexFor 0 0 [.int w, .int pl] [] (X3_indexFor_r w pl) := by
  refine Met.ofW (cc := cX3_indexFor) (maxL := 2) (ret := (some .int)) (by decide) rfl ?_
  intro p e s m args below meth c s₁ B hml hv
  obtain ⟨rfl, hP, hK⟩ := hv
  have hx := B.exec
  have hb := B.bytes
  have hr := B.returns
  have hts := atoms_spec (ws := wsX3_indexFor) B.pre
  have hown : s.vm.findClass RX3 = some m.cls := findClass_of_methodNamed B.named
  have hlocks := B.notSynchronized
  have hl := lv_entry ([.int w, .int pl]) (n := 2) (Nat.le_of_ble_eq_true rfl)
  rw [lg_entry_eq]
  generalize (lg_sl ([.int w, .int pl]) ++ List.replicate (2 - (lg_sl ([.int w, .int pl])).length) Slot.unset).toArray = ls at hl ⊢
  have hl : lv_has ls 2 [(0, .int w), (1, .int pl)] := hl
  refine kz_start (fun QQ hQ => ?_)
  refine lv_iload_n hx hb dX3_indexFor_0 rfl (lv_at hl 0 rfl) ?_
  refine lv_iconst (v := 1) hx hb dX3_indexFor_1 (by decide +kernel) ?_
  refine lv_isub hx hb dX3_indexFor_2 ?_
  refine lv_bipush (v := 48) hx hb dX3_indexFor_3 (by decide +kernel) ?_
  refine lv_imul hx hb dX3_indexFor_5 ?_
  refine lv_iload_n hx hb dX3_indexFor_6 rfl (lv_at hl 1 rfl) ?_
  refine lv_iadd hx hb dX3_indexFor_7 ?_
  subst hQ
  exact W.iret (v := (((w - 1) * 48) + pl)) hx hb hr (fun t ht _ => ⟨(((w - 1) * 48) + pl), rfl, rfl, ht⟩) (fun _ h9 => absurd h9 List.not_mem_nil) dX3_indexFor_8
abbrev X3_isPlace_p (sh : Int32) (pl : Int32) : Prop := ((X3_isWithin_p sh 0 5) ∧ (X3_isWithin_p pl 0 7))
set_option maxHeartbeats 4000000 in
set_option maxRecDepth 100000 in
theorem c_X3_isPlace (l : Launch) (G : kz_G) (sh : Int32) (pl : Int32) : kz_rd l G yX3_isPlace wsX3_isPlace 1 22 [.int sh, .int pl] [] (if X3_isPlace_p sh pl then 1 else 0) := by
  refine Met.ofW (cc := cX3_isPlace) (maxL := 2) (ret := (some .boolean)) (by decide) rfl ?_
  intro p e s m args below meth c s₁ B hml hv
  obtain ⟨rfl, hP, hK⟩ := hv
  have hx := B.exec
  have hb := B.bytes
  have hr := B.returns
  have hts := atoms_spec (ws := wsX3_isPlace) B.pre
  have hown : s.vm.findClass RX3 = some m.cls := findClass_of_methodNamed B.named
  have hlocks := B.notSynchronized
  have hl := lv_entry ([.int sh, .int pl]) (n := 2) (Nat.le_of_ble_eq_true rfl)
  rw [lg_entry_eq]
  generalize (lg_sl ([.int sh, .int pl]) ++ List.replicate (2 - (lg_sl ([.int sh, .int pl])).length) Slot.unset).toArray = ls at hl ⊢
  have hl : lv_has ls 2 [(0, .int sh), (1, .int pl)] := hl
  refine kz_start (fun QQ hQ => ?_)
  refine lv_iload_n hx hb dX3_isPlace_0 rfl (lv_at hl 0 rfl) ?_
  refine lv_iconst (v := 0) hx hb dX3_isPlace_1 (by decide +kernel) ?_
  refine lv_iconst (v := 5) hx hb dX3_isPlace_2 (by decide +kernel) ?_
  refine kz_rdS (As := [.int sh, .int 0, .int 5]) (rest := []) ⟨hx, hb, hml, hown, hts⟩ (c_X3_isWithin l G sh 0 5) (va_cwS 3 hts gX3_isPlace_X3_isWithin rfl rfl rfl (by decide +kernel) ⟨Nat.le_of_ble_eq_true rfl, Nat.le_of_ble_eq_true rfl⟩) hK hP rfl hl.1 rfl (Nat.le_of_ble_eq_true rfl) dX3_isPlace_3 ⟨Nat.le_of_ble_eq_true rfl, Nat.le_of_ble_eq_true rfl⟩ ?_
  refine lv_topi (fun y_1 ey_2 => ?_)
  by_cases c_3 : X3_isWithin_p sh 0 5
  · rw [if_pos c_3] at ey_2
    subst ey_2
    refine lv_if_eq (tgt := 23) hx hb dX3_isPlace_6 (by decide) (fun c => absurd c (by decide)) (fun _ => ?_)
    refine lv_iload_n hx hb dX3_isPlace_9 rfl (lv_at hl 1 rfl) ?_
    refine lv_iconst (v := 0) hx hb dX3_isPlace_10 (by decide +kernel) ?_
    refine lv_bipush (v := 7) hx hb dX3_isPlace_11 (by decide +kernel) ?_
    refine kz_rdS (As := [.int pl, .int 0, .int 7]) (rest := []) ⟨hx, hb, hml, hown, hts⟩ (c_X3_isWithin l G pl 0 7) (va_cwS 3 hts gX3_isPlace_X3_isWithin rfl rfl rfl (by decide +kernel) ⟨Nat.le_of_ble_eq_true rfl, Nat.le_of_ble_eq_true rfl⟩) hK hP rfl hl.1 rfl (Nat.le_of_ble_eq_true rfl) dX3_isPlace_13 ⟨Nat.le_of_ble_eq_true rfl, Nat.le_of_ble_eq_true rfl⟩ ?_
    refine lv_topi (fun y_4 ey_5 => ?_)
    by_cases c_6 : X3_isWithin_p pl 0 7
    · rw [if_pos c_6] at ey_5
      subst ey_5
      refine lv_if_eq (tgt := 23) hx hb dX3_isPlace_16 (by decide) (fun c => absurd c (by decide)) (fun _ => ?_)
      refine lv_iconst (v := 1) hx hb dX3_isPlace_19 (by decide +kernel) ?_
      refine lv_goto (tgt := 24) hx hb dX3_isPlace_20 (by decide) ?_
      subst hQ
      exact W.zret (v := 1) hx hb hr (by decide +kernel) (fun t ht _ => ⟨1, rfl, ((if_pos ⟨c_3, c_6⟩).symm), ht⟩) (fun _ h9 => absurd h9 List.not_mem_nil) dX3_isPlace_24
    · rw [if_neg c_6] at ey_5
      subst ey_5
      refine lv_if_eq (tgt := 23) hx hb dX3_isPlace_16 (by decide) (fun _ => ?_) (fun c => absurd c (by decide))
      refine lv_iconst (v := 0) hx hb dX3_isPlace_23 (by decide +kernel) ?_
      subst hQ
      exact W.zret (v := 0) hx hb hr (by decide +kernel) (fun t ht _ => ⟨0, rfl, ((if_neg (fun h => c_6 h.2)).symm), ht⟩) (fun _ h9 => absurd h9 List.not_mem_nil) dX3_isPlace_24
  · rw [if_neg c_3] at ey_2
    subst ey_2
    refine lv_if_eq (tgt := 23) hx hb dX3_isPlace_6 (by decide) (fun _ => ?_) (fun c => absurd c (by decide))
    refine lv_iconst (v := 0) hx hb dX3_isPlace_23 (by decide +kernel) ?_
    subst hQ
    exact W.zret (v := 0) hx hb hr (by decide +kernel) (fun t ht _ => ⟨0, rfl, ((if_neg (fun h => c_3 h.1)).symm), ht⟩) (fun _ h9 => absurd h9 List.not_mem_nil) dX3_isPlace_24
def X3_sizeOfShelf_r (sh : Int32) : Int32 := (sh / 2)
set_option maxHeartbeats 4000000 in
set_option maxRecDepth 100000 in
theorem c_X3_sizeOfShelf (l : Launch) (G : kz_G) (sh : Int32) : kz_rd l G yX3_sizeOfShelf wsX3_sizeOfShelf 0 0 [.int sh] [] (X3_sizeOfShelf_r sh) := by
  refine Met.ofW (cc := cX3_sizeOfShelf) (maxL := 1) (ret := (some .int)) (by decide) rfl ?_
  intro p e s m args below meth c s₁ B hml hv
  obtain ⟨rfl, hP, hK⟩ := hv
  have hx := B.exec
  have hb := B.bytes
  have hr := B.returns
  have hts := atoms_spec (ws := wsX3_sizeOfShelf) B.pre
  have hown : s.vm.findClass RX3 = some m.cls := findClass_of_methodNamed B.named
  have hlocks := B.notSynchronized
  have hl := lv_entry ([.int sh]) (n := 1) (Nat.le_of_ble_eq_true rfl)
  rw [lg_entry_eq]
  generalize (lg_sl ([.int sh]) ++ List.replicate (1 - (lg_sl ([.int sh])).length) Slot.unset).toArray = ls at hl ⊢
  have hl : lv_has ls 1 [(0, .int sh)] := hl
  refine kz_start (fun QQ hQ => ?_)
  refine lv_iload_n hx hb dX3_sizeOfShelf_0 rfl (lv_at hl 0 rfl) ?_
  refine lv_iconst (v := 2) hx hb dX3_sizeOfShelf_1 (by decide +kernel) ?_
  refine lv_idiv hx hb dX3_sizeOfShelf_2 (by decide +kernel) ?_
  subst hQ
  exact W.iret (v := (sh / 2)) hx hb hr (fun t ht _ => ⟨(sh / 2), rfl, rfl, ht⟩) (fun _ h9 => absurd h9 List.not_mem_nil) dX3_sizeOfShelf_3
def X3_firstShelfFor_r (sz : Int32) : Int32 := (sz * 2)
set_option maxHeartbeats 4000000 in
set_option maxRecDepth 100000 in
theorem c_X3_firstShelfFor (l : Launch) (G : kz_G) (sz : Int32) : kz_rd l G yX3_firstShelfFor wsX3_firstShelfFor 0 0 [.int sz] [] (X3_firstShelfFor_r sz) := by
  refine Met.ofW (cc := cX3_firstShelfFor) (maxL := 1) (ret := (some .int)) (by decide) rfl ?_
  intro p e s m args below meth c s₁ B hml hv
  obtain ⟨rfl, hP, hK⟩ := hv
  have hx := B.exec
  have hb := B.bytes
  have hr := B.returns
  have hts := atoms_spec (ws := wsX3_firstShelfFor) B.pre
  have hown : s.vm.findClass RX3 = some m.cls := findClass_of_methodNamed B.named
  have hlocks := B.notSynchronized
  have hl := lv_entry ([.int sz]) (n := 1) (Nat.le_of_ble_eq_true rfl)
  rw [lg_entry_eq]
  generalize (lg_sl ([.int sz]) ++ List.replicate (1 - (lg_sl ([.int sz])).length) Slot.unset).toArray = ls at hl ⊢
  have hl : lv_has ls 1 [(0, .int sz)] := hl
  refine kz_start (fun QQ hQ => ?_)
  refine lv_iload_n hx hb dX3_firstShelfFor_0 rfl (lv_at hl 0 rfl) ?_
  refine lv_iconst (v := 2) hx hb dX3_firstShelfFor_1 (by decide +kernel) ?_
  refine lv_imul hx hb dX3_firstShelfFor_2 ?_
  subst hQ
  exact W.iret (v := (sz * 2)) hx hb hr (fun t ht _ => ⟨(sz * 2), rfl, rfl, ht⟩) (fun _ h9 => absurd h9 List.not_mem_nil) dX3_firstShelfFor_3
abbrev X3_isError_p (x : Int32) : Prop := X3_isWithin_p x (-5) (-1)
set_option maxHeartbeats 4000000 in
set_option maxRecDepth 100000 in
theorem c_X3_isError (l : Launch) (G : kz_G) (x : Int32) : kz_rd l G yX3_isError wsX3_isError 1 22 [.int x] [] (if X3_isError_p x then 1 else 0) := by
  refine Met.ofW (cc := cX3_isError) (maxL := 1) (ret := (some .boolean)) (by decide) rfl ?_
  intro p e s m args below meth c s₁ B hml hv
  obtain ⟨rfl, hP, hK⟩ := hv
  have hx := B.exec
  have hb := B.bytes
  have hr := B.returns
  have hts := atoms_spec (ws := wsX3_isError) B.pre
  have hown : s.vm.findClass RX3 = some m.cls := findClass_of_methodNamed B.named
  have hlocks := B.notSynchronized
  have hl := lv_entry ([.int x]) (n := 1) (Nat.le_of_ble_eq_true rfl)
  rw [lg_entry_eq]
  generalize (lg_sl ([.int x]) ++ List.replicate (1 - (lg_sl ([.int x])).length) Slot.unset).toArray = ls at hl ⊢
  have hl : lv_has ls 1 [(0, .int x)] := hl
  refine kz_start (fun QQ hQ => ?_)
  refine lv_iload_n hx hb dX3_isError_0 rfl (lv_at hl 0 rfl) ?_
  refine lv_bipush (v := (-5)) hx hb dX3_isError_1 (by decide +kernel) ?_
  refine lv_iconst (v := (-1)) hx hb dX3_isError_3 (by decide +kernel) ?_
  refine kz_rdS (As := [.int x, .int (-5), .int (-1)]) (rest := []) ⟨hx, hb, hml, hown, hts⟩ (c_X3_isWithin l G x (-5) (-1)) (va_cwS 3 hts gX3_isError_X3_isWithin rfl rfl rfl (by decide +kernel) ⟨Nat.le_of_ble_eq_true rfl, Nat.le_of_ble_eq_true rfl⟩) hK hP rfl hl.1 rfl (Nat.le_of_ble_eq_true rfl) dX3_isError_4 ⟨Nat.le_of_ble_eq_true rfl, Nat.le_of_ble_eq_true rfl⟩ ?_
  subst hQ
  exact W.zret (v := (if X3_isWithin_p x (-5) (-1) then 1 else 0)) hx hb hr (by split <;> decide +kernel) (fun t ht _ => ⟨(if X3_isWithin_p x (-5) (-1) then 1 else 0), rfl, rfl, ht⟩) (fun _ h9 => absurd h9 List.not_mem_nil) dX3_isError_7
def X3_indexOfCode_r (code : Int32) : Int32 := if X3_isWithin_p code 0 9999 then (if X3_isWithin_p (code / 1000) 1 7 then (if X3_isPlace_p (kz_rem (code / 100) 10) (kz_rem (code / 10) 10) then (if (kz_rem code 10) = (X3_checkDigit_r (code / 1000) (kz_rem (code / 100) 10) (kz_rem (code / 10) 10)) then (X3_indexFor_r (code / 1000) (((kz_rem (code / 100) 10) * 8) + (kz_rem (code / 10) 10))) else (-1)) else (-1)) else (-1)) else (-1)
set_option maxHeartbeats 4000000 in
set_option maxRecDepth 100000 in
theorem c_X3_indexOfCode (l : Launch) (G : kz_G) (code : Int32) : kz_rd l G yX3_indexOfCode wsX3_indexOfCode 2 43 [.int code] [] (X3_indexOfCode_r code) := by
  refine Met.ofW (cc := cX3_indexOfCode) (maxL := 4) (ret := (some .int)) (by decide) rfl ?_
  intro p e s m args below meth c s₁ B hml hv
  obtain ⟨rfl, hP, hK⟩ := hv
  have hx := B.exec
  have hb := B.bytes
  have hr := B.returns
  have hts := atoms_spec (ws := wsX3_indexOfCode) B.pre
  have hown : s.vm.findClass RX3 = some m.cls := findClass_of_methodNamed B.named
  have hlocks := B.notSynchronized
  have hl := lv_entry ([.int code]) (n := 4) (Nat.le_of_ble_eq_true rfl)
  rw [lg_entry_eq]
  generalize (lg_sl ([.int code]) ++ List.replicate (4 - (lg_sl ([.int code])).length) Slot.unset).toArray = ls at hl ⊢
  have hl : lv_has ls 4 [(0, .int code)] := hl
  refine kz_start (fun QQ hQ => ?_)
  refine lv_iload_n hx hb dX3_indexOfCode_0 rfl (lv_at hl 0 rfl) ?_
  refine lv_iconst (v := 0) hx hb dX3_indexOfCode_1 (by decide +kernel) ?_
  refine lv_sipush (v := 9999) hx hb dX3_indexOfCode_2 (by decide +kernel) ?_
  refine kz_rdS (As := [.int code, .int 0, .int 9999]) (rest := []) ⟨hx, hb, hml, hown, hts⟩ (c_X3_isWithin l G code 0 9999) (va_cwS 3 hts gX3_indexOfCode_X3_isWithin rfl rfl rfl (by decide +kernel) ⟨Nat.le_of_ble_eq_true rfl, Nat.le_of_ble_eq_true rfl⟩) hK hP rfl hl.1 rfl (Nat.le_of_ble_eq_true rfl) dX3_indexOfCode_5 ⟨Nat.le_of_ble_eq_true rfl, Nat.le_of_ble_eq_true rfl⟩ ?_
  refine lv_topi (fun y_1 ey_2 => ?_)
  by_cases c_3 : X3_isWithin_p code 0 9999
  · rw [if_pos c_3] at ey_2
    subst ey_2
    refine lv_if_ne (tgt := 13) hx hb dX3_indexOfCode_8 (by decide) (fun _ => ?_) (fun c => absurd c (by decide))
    refine lv_iload_n hx hb dX3_indexOfCode_13 rfl (lv_at hl 0 rfl) ?_
    refine lv_sipush (v := 1000) hx hb dX3_indexOfCode_14 (by decide +kernel) ?_
    refine lv_idiv hx hb dX3_indexOfCode_17 (by decide +kernel) ?_
    refine lv_istore_n (lv' := [(1, .int (code / 1000)), (0, .int code)]) hx hb dX3_indexOfCode_18 rfl hl (by decide) rfl (fun ls hl => ?_)
    refine lv_iload_n hx hb dX3_indexOfCode_19 rfl (lv_at hl 1 rfl) ?_
    refine lv_bipush (v := 100) hx hb dX3_indexOfCode_20 (by decide +kernel) ?_
    refine lv_idiv hx hb dX3_indexOfCode_22 (by decide +kernel) ?_
    refine lv_bipush (v := 10) hx hb dX3_indexOfCode_23 (by decide +kernel) ?_
    refine lv_irem hx hb dX3_indexOfCode_25 (by decide +kernel) ?_
    refine kz_topR ?_
    refine lv_istore_n (lv' := [(2, .int (kz_rem (code / 100) 10)), (1, .int (code / 1000)), (0, .int code)]) hx hb dX3_indexOfCode_26 rfl hl (by decide) rfl (fun ls hl => ?_)
    refine lv_iload_n hx hb dX3_indexOfCode_27 rfl (lv_at hl 2 rfl) ?_
    refine lv_bipush (v := 10) hx hb dX3_indexOfCode_28 (by decide +kernel) ?_
    refine lv_idiv hx hb dX3_indexOfCode_30 (by decide +kernel) ?_
    refine lv_bipush (v := 10) hx hb dX3_indexOfCode_31 (by decide +kernel) ?_
    refine lv_irem hx hb dX3_indexOfCode_33 (by decide +kernel) ?_
    refine kz_topR ?_
    refine lv_istore_n (lv' := [(3, .int (kz_rem (code / 10) 10)), (2, .int (kz_rem (code / 100) 10)), (1, .int (code / 1000)), (0, .int code)]) hx hb dX3_indexOfCode_34 rfl hl (by decide) rfl (fun ls hl => ?_)
    refine lv_iload_n hx hb dX3_indexOfCode_35 rfl (lv_at hl 2 rfl) ?_
    refine lv_iconst (v := 1) hx hb dX3_indexOfCode_36 (by decide +kernel) ?_
    refine lv_bipush (v := 7) hx hb dX3_indexOfCode_37 (by decide +kernel) ?_
    refine kz_rdS (As := [.int (code / 1000), .int 1, .int 7]) (rest := []) ⟨hx, hb, hml, hown, hts⟩ (c_X3_isWithin l G (code / 1000) 1 7) (va_cwS 3 hts gX3_indexOfCode_X3_isWithin rfl rfl rfl (by decide +kernel) ⟨Nat.le_of_ble_eq_true rfl, Nat.le_of_ble_eq_true rfl⟩) hK hP rfl hl.1 rfl (Nat.le_of_ble_eq_true rfl) dX3_indexOfCode_39 ⟨Nat.le_of_ble_eq_true rfl, Nat.le_of_ble_eq_true rfl⟩ ?_
    refine lv_topi (fun y_4 ey_5 => ?_)
    by_cases c_6 : X3_isWithin_p (code / 1000) 1 7
    · rw [if_pos c_6] at ey_5
      subst ey_5
      refine lv_if_eq (tgt := 53) hx hb dX3_indexOfCode_42 (by decide) (fun c => absurd c (by decide)) (fun _ => ?_)
      refine lv_iload_n hx hb dX3_indexOfCode_45 rfl (lv_at hl 1 rfl) ?_
      refine lv_iload_n hx hb dX3_indexOfCode_46 rfl (lv_at hl 0 rfl) ?_
      refine kz_rdS (As := [.int (kz_rem (code / 100) 10), .int (kz_rem (code / 10) 10)]) (rest := []) ⟨hx, hb, hml, hown, hts⟩ (c_X3_isPlace l G (kz_rem (code / 100) 10) (kz_rem (code / 10) 10)) (va_cwS 2 hts gX3_indexOfCode_X3_isPlace rfl rfl rfl (by decide +kernel) ⟨Nat.le_of_ble_eq_true rfl, Nat.le_of_ble_eq_true rfl⟩) hK hP rfl hl.1 rfl (Nat.le_of_ble_eq_true rfl) dX3_indexOfCode_47 ⟨Nat.le_of_ble_eq_true rfl, Nat.le_of_ble_eq_true rfl⟩ ?_
      refine lv_topi (fun y_7 ey_8 => ?_)
      by_cases c_9 : X3_isPlace_p (kz_rem (code / 100) 10) (kz_rem (code / 10) 10)
      · rw [if_pos c_9] at ey_8
        subst ey_8
        refine lv_if_ne (tgt := 55) hx hb dX3_indexOfCode_50 (by decide) (fun _ => ?_) (fun c => absurd c (by decide))
        refine lv_iload_n hx hb dX3_indexOfCode_55 rfl (lv_at hl 3 rfl) ?_
        refine lv_bipush (v := 10) hx hb dX3_indexOfCode_56 (by decide +kernel) ?_
        refine lv_irem hx hb dX3_indexOfCode_58 (by decide +kernel) ?_
        refine kz_topR ?_
        refine lv_iload_n hx hb dX3_indexOfCode_59 rfl (lv_at hl 2 rfl) ?_
        refine lv_iload_n hx hb dX3_indexOfCode_60 rfl (lv_at hl 1 rfl) ?_
        refine lv_iload_n hx hb dX3_indexOfCode_61 rfl (lv_at hl 0 rfl) ?_
        refine kz_rdS (As := [.int (code / 1000), .int (kz_rem (code / 100) 10), .int (kz_rem (code / 10) 10)]) (rest := [.int (kz_rem code 10)]) ⟨hx, hb, hml, hown, hts⟩ (c_X3_checkDigit l G (code / 1000) (kz_rem (code / 100) 10) (kz_rem (code / 10) 10)) (va_cwS 3 hts gX3_indexOfCode_X3_checkDigit rfl rfl rfl (by decide +kernel) ⟨Nat.le_of_ble_eq_true rfl, Nat.le_of_ble_eq_true rfl⟩) hK hP rfl hl.1 rfl (Nat.le_of_ble_eq_true rfl) dX3_indexOfCode_62 ⟨Nat.le_of_ble_eq_true rfl, Nat.le_of_ble_eq_true rfl⟩ ?_
        refine lv_icmp_eq (tgt := 70) hx hb dX3_indexOfCode_65 (by decide) (fun c_10 => ?_) (fun c_10 => ?_)
        · refine lv_iload_n hx hb dX3_indexOfCode_70 rfl (lv_at hl 2 rfl) ?_
          refine lv_iload_n hx hb dX3_indexOfCode_71 rfl (lv_at hl 1 rfl) ?_
          refine lv_bipush (v := 8) hx hb dX3_indexOfCode_72 (by decide +kernel) ?_
          refine lv_imul hx hb dX3_indexOfCode_74 ?_
          refine lv_iload_n hx hb dX3_indexOfCode_75 rfl (lv_at hl 0 rfl) ?_
          refine lv_iadd hx hb dX3_indexOfCode_76 ?_
          refine kz_rdS (As := [.int (code / 1000), .int (((kz_rem (code / 100) 10) * 8) + (kz_rem (code / 10) 10))]) (rest := []) ⟨hx, hb, hml, hown, hts⟩ (c_X3_indexFor l G (code / 1000) (((kz_rem (code / 100) 10) * 8) + (kz_rem (code / 10) 10))) (va_cwS 2 hts gX3_indexOfCode_X3_indexFor rfl rfl rfl (by decide +kernel) ⟨Nat.le_of_ble_eq_true rfl, Nat.le_of_ble_eq_true rfl⟩) hK hP rfl hl.1 rfl (Nat.le_of_ble_eq_true rfl) dX3_indexOfCode_77 ⟨Nat.le_of_ble_eq_true rfl, Nat.le_of_ble_eq_true rfl⟩ ?_
          subst hQ
          exact W.iret (v := (X3_indexFor_r (code / 1000) (((kz_rem (code / 100) 10) * 8) + (kz_rem (code / 10) 10)))) hx hb hr (fun t ht _ => ⟨(X3_indexFor_r (code / 1000) (((kz_rem (code / 100) 10) * 8) + (kz_rem (code / 10) 10))), rfl, (by rw [X3_indexOfCode_r, if_pos c_3, if_pos c_6, if_pos c_9, if_pos c_10]), ht⟩) (fun _ h9 => absurd h9 List.not_mem_nil) dX3_indexOfCode_80
        · refine lv_iconst (v := (-1)) hx hb dX3_indexOfCode_68 (by decide +kernel) ?_
          subst hQ
          exact W.iret (v := (-1)) hx hb hr (fun t ht _ => ⟨(-1), rfl, (by rw [X3_indexOfCode_r, if_pos c_3, if_pos c_6, if_pos c_9, if_neg c_10]), ht⟩) (fun _ h9 => absurd h9 List.not_mem_nil) dX3_indexOfCode_69
      · rw [if_neg c_9] at ey_8
        subst ey_8
        refine lv_if_ne (tgt := 55) hx hb dX3_indexOfCode_50 (by decide) (fun c => absurd c (by decide)) (fun _ => ?_)
        refine lv_iconst (v := (-1)) hx hb dX3_indexOfCode_53 (by decide +kernel) ?_
        subst hQ
        exact W.iret (v := (-1)) hx hb hr (fun t ht _ => ⟨(-1), rfl, (by rw [X3_indexOfCode_r, if_pos c_3, if_pos c_6, if_neg c_9]), ht⟩) (fun _ h9 => absurd h9 List.not_mem_nil) dX3_indexOfCode_54
    · rw [if_neg c_6] at ey_5
      subst ey_5
      refine lv_if_eq (tgt := 53) hx hb dX3_indexOfCode_42 (by decide) (fun _ => ?_) (fun c => absurd c (by decide))
      refine lv_iconst (v := (-1)) hx hb dX3_indexOfCode_53 (by decide +kernel) ?_
      subst hQ
      exact W.iret (v := (-1)) hx hb hr (fun t ht _ => ⟨(-1), rfl, (by rw [X3_indexOfCode_r, if_pos c_3, if_neg c_6]), ht⟩) (fun _ h9 => absurd h9 List.not_mem_nil) dX3_indexOfCode_54
  · rw [if_neg c_3] at ey_2
    subst ey_2
    refine lv_if_ne (tgt := 13) hx hb dX3_indexOfCode_8 (by decide) (fun c => absurd c (by decide)) (fun _ => ?_)
    refine lv_iconst (v := (-1)) hx hb dX3_indexOfCode_11 (by decide +kernel) ?_
    subst hQ
    exact W.iret (v := (-1)) hx hb hr (fun t ht _ => ⟨(-1), rfl, (by rw [X3_indexOfCode_r, if_neg c_3]), ht⟩) (fun _ h9 => absurd h9 List.not_mem_nil) dX3_indexOfCode_12
def X3_sum_r (f : Nat → Int32) : Int32 := kz_sm f 10
set_option maxHeartbeats 4000000 in
set_option maxRecDepth 100000 in
theorem c_X3_sum (l : Launch) (G : kz_G) (a : Nat) (f : Nat → Int32) : kz_rd l G yX3_sum wsX3_sum 0 0 [.ref a] [[(a, .inl (G.2.1, 10, .inl f))]] (X3_sum_r f) := by
  refine Met.ofW (cc := cX3_sum) (maxL := 6) (ret := (some .int)) (by decide) rfl ?_
  intro p e s m args below meth c s₁ B hml hv
  obtain ⟨rfl, hP, hK⟩ := hv
  have hx := B.exec
  have hb := B.bytes
  have hr := B.returns
  have hts := atoms_spec (ws := wsX3_sum) B.pre
  have hown : s.vm.findClass RX3 = some m.cls := findClass_of_methodNamed B.named
  have hlocks := B.notSynchronized
  have hl := lv_entry ([.ref a]) (n := 6) (Nat.le_of_ble_eq_true rfl)
  rw [lg_entry_eq]
  generalize (lg_sl ([.ref a]) ++ List.replicate (6 - (lg_sl ([.ref a])).length) Slot.unset).toArray = ls at hl ⊢
  have hl : lv_has ls 6 [(0, .ref a)] := hl
  refine kz_start (fun QQ hQ => ?_)
  refine lv_iconst (v := 0) hx hb dX3_sum_0 (by decide +kernel) ?_
  refine lv_istore_n (lv' := [(1, .int 0), (0, .ref a)]) hx hb dX3_sum_1 rfl hl (by decide) rfl (fun ls hl => ?_)
  refine lv_aload_n hx hb dX3_sum_2 rfl (lv_at hl 1 rfl) ?_
  refine lv_astore_n (lv' := [(2, .ref a), (1, .int 0), (0, .ref a)]) hx hb dX3_sum_3 rfl hl (by decide) rfl (fun ls hl => ?_)
  refine lv_aload_n hx hb dX3_sum_4 rfl (lv_at hl 0 rfl) ?_
  refine va_alen (v := 10) hx hb hK.1 hP 0 0 rfl rfl rfl dX3_sum_5 ?_
  refine lv_istore_n (lv' := [(3, .int 10), (2, .ref a), (1, .int 0), (0, .ref a)]) hx hb dX3_sum_6 rfl hl (by decide) rfl (fun ls hl => ?_)
  refine lv_iconst (v := 0) hx hb dX3_sum_7 (by decide +kernel) ?_
  refine lv_istore (lv' := [(4, .int 0), (3, .int 10), (2, .ref a), (1, .int 0), (0, .ref a)]) hx hb dX3_sum_8 hl (by decide) rfl (fun ls hl => ?_)
  have L10_1 : ∀ (n10 : Nat) (i : Nat) (x : Int32), (10 - i < n10) → (i ≤ 10) → (x = kz_sm f i) → ∀ ls : Array Slot, lv_has ls 6 [(4, .int (nI i)), (3, .int 10), (2, .ref a), (1, .int x), (0, .ref a)] → W p l e (headSpec wsX3_sum (kz_rm 0 0)).room s m ([.ref a] : List Value).toArray below meth c s.heap [] 0 0 QQ (F0 m 10 ls []) := by
    intro n10
    induction n10 with
    | zero => intro i x h0; exact absurd h0 (Nat.not_lt_zero _)
    | succ n10 ih10_2 =>
      intro i x hmeas10 hi1 hx0 ls hl
      refine lv_iload hx hb dX3_sum_10 (lv_at hl 0 rfl) ?_
      refine lv_iload_n hx hb dX3_sum_12 rfl (lv_at hl 1 rfl) ?_
      refine lv_icmp_ge (tgt := 33) hx hb dX3_sum_13 (by decide) (fun c_3 => ?_) (fun c_3 => ?_)
      · have hge := kz_le (a := 10) (b := i) c_3 (by omega) (by omega)
        refine lv_iload_n hx hb dX3_sum_33 rfl (lv_at hl 3 rfl) ?_
        subst hQ
        exact W.iret (v := x) hx hb hr (fun t ht _ => ⟨x, rfl, (by obtain rfl : i = 10 := (by omega); exact hx0), ht⟩) (fun _ h9 => absurd h9 List.not_mem_nil) dX3_sum_34
      · have hlt := kz_gt (a := 10) (b := i) c_3 (by omega) (by omega)
        refine lv_aload_n hx hb dX3_sum_16 rfl (lv_at hl 2 rfl) ?_
        refine lv_iload hx hb dX3_sum_17 (lv_at hl 0 rfl) ?_
        refine va_iald (f := f) hx hb hK.1 hP 0 0 rfl rfl (vp_in_nI (n := i) (N := 10) (by omega) (by decide)) dX3_sum_19 ?_
        refine lv_topi (fun y_4 ey_5 => ?_)
        obtain rfl : y_4 = (f i) := by rw [ey_5, kz_nI_clamp (n := i) (by omega)]
        refine lv_istore (lv' := [(5, .int (f i)), (4, .int (nI i)), (3, .int 10), (2, .ref a), (1, .int x), (0, .ref a)]) hx hb dX3_sum_20 hl (by decide) rfl (fun ls hl => ?_)
        refine lv_iload_n hx hb dX3_sum_22 rfl (lv_at hl 4 rfl) ?_
        refine lv_iload hx hb dX3_sum_23 (lv_at hl 0 rfl) ?_
        refine lv_iadd hx hb dX3_sum_25 ?_
        refine lv_istore_n (lv' := [(1, .int (x + (f i))), (5, .int (f i)), (4, .int (nI i)), (3, .int 10), (2, .ref a), (0, .ref a)]) hx hb dX3_sum_26 rfl hl (by decide) rfl (fun ls hl => ?_)
        refine lv_iinc (v := (nI (i + 1))) (lv' := [(4, .int (nI (i + 1))), (1, .int (x + (f i))), (5, .int (f i)), (3, .int 10), (2, .ref a), (0, .ref a)]) hx hb dX3_sum_27 hl (k := 2) rfl (nI_1 _) (by decide) rfl (fun ls hl => ?_)
        refine lv_goto (tgt := 10) hx hb dX3_sum_30 (by decide) ?_
        exact ih10_2 (i + 1) (x + (f i)) (by omega) (by omega) (by rw [hx0]; rfl) ls (lv_sub hl [0, 3, 4, 1, 5] rfl)
  exact L10_1 _ 0 0 (Nat.lt_succ_self _) (by omega) rfl ls (lv_sub hl [0, 1, 2, 3, 4] rfl)
