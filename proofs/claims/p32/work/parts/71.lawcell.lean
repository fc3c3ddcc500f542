set_option maxHeartbeats 1000000 in
/-- the law's cell: the script's, or another number behind its end -/
theorem c_L_cell (l : Launch) (bb L k : Nat) (xs : Nat → Int32) (hL : L < 2 ^ 30) (hk : k < 2 ^ 30) : kz_rx l yL_cell wsL_cell 0 0 [.ref bb, .int (nI k)] bb L xs (if k < L then xs k else 32452867 * nI k + 15485863) := by
  refine Met.ofW (cc := cL_cell) (maxL := 2) (ret := (some .int)) (by decide) rfl ?_
  intro p e s m args below meth c s₁ B hml hv
  obtain ⟨rfl, hX, hbl⟩ := hv
  have hx := B.exec
  have hb := B.bytes
  have hr := B.returns
  have hts := atoms_spec (ws := wsL_cell) B.pre
  have hown : s.vm.findClass RL = some m.cls := findClass_of_methodNamed B.named
  have hlocks := B.notSynchronized
  have hbA : ¬ (fun q : Nat => s.heap.size ≤ q) bb := Nat.not_le.mpr hbl
  have hS : va_S (fun q : Nat => s.heap.size ≤ q) s.heap s.heap [] := va_S.rf
  have hl := lv_entry ([.ref bb, .int (nI k)]) (n := 2) (Nat.le_of_ble_eq_true rfl)
  rw [lg_entry_eq]
  generalize (lg_sl ([.ref bb, .int (nI k)]) ++ List.replicate (2 - (lg_sl ([.ref bb, .int (nI k)])).length) Slot.unset).toArray = ls at hl ⊢
  have hl : lv_has ls 2 [(0, .ref bb), (1, .int (nI k))] := hl
  refine kz_start (fun QQ hQ => ?_)
  refine lv_iload_n hx hb dL_cell_0 rfl (lv_at hl 1 rfl) ?_
  refine lv_aload_n hx hb dL_cell_1 rfl (lv_at hl 0 rfl) ?_
  refine va_slen hx hb hX hbl hbA hS dL_cell_2 ?_
  refine lv_icmp_ge (tgt := 12) hx hb dL_cell_3 (by decide) (fun c1 => ?_) (fun c1 => ?_)
  · have h1 : L ≤ k := kz_le c1 (by omega) (by omega)
    refine lv_ldc (v := 32452867) hx hb hown (hts (.constant RL 7 32452867) (by decide +kernel)) dL_cell_12 ?_
    refine lv_iload_n hx hb dL_cell_14 rfl (lv_at hl 1 rfl) ?_
    refine lv_imul hx hb dL_cell_15 ?_
    refine lv_ldc (v := 15485863) hx hb hown (hts (.constant RL 8 15485863) (by decide +kernel)) dL_cell_16 ?_
    refine lv_iadd hx hb dL_cell_18 ?_
    subst hQ
    exact W.iret (v := 32452867 * nI k + 15485863) hx hb hr (fun t ht _ => ⟨_, rfl, (if_neg (by omega)).symm, ht⟩) (fun _ h9 => absurd h9 List.not_mem_nil) dL_cell_19
  · have h1 : k < L := kz_gt c1 (by omega) (by omega)
    refine lv_aload_n hx hb dL_cell_6 rfl (lv_at hl 0 rfl) ?_
    refine lv_iload_n hx hb dL_cell_7 rfl (lv_at hl 1 rfl) ?_
    refine va_sld hx hb hX hbl hbA hS (vp_in_nI h1 (by omega)) dL_cell_8 ?_
    refine lv_topi (fun y ey => ?_)
    obtain rfl : y = xs k := by rw [ey, kz_nI_clamp (n := k) (by omega)]
    refine lv_goto (tgt := 19) hx hb dL_cell_9 (by decide) ?_
    subst hQ
    exact W.iret (v := xs k) hx hb hr (fun t ht _ => ⟨_, rfl, (if_pos h1).symm, ht⟩) (fun _ h9 => absurd h9 List.not_mem_nil) dL_cell_19
