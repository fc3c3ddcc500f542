set_option maxHeartbeats 4000000 in
set_option maxRecDepth 100000 in
theorem c_L_low (l : Launch) (G : kz_G) (v : Int32) (n0 : Nat) (hn0 : 0 < n0) (hn1 : n0 < 2 ^ 31) : kz_rd l G yL_low wsL_low 0 0 [.int v, .int (nI n0)] [] (nI (ps_lo v n0)) := by
  refine Met.ofW (cc := cL_low) (maxL := 2) (ret := (some .int)) (by decide) rfl ?_
  intro p e s m args below meth c s₁ B hml hv
  obtain ⟨rfl, hP, hK⟩ := hv
  have hx := B.exec
  have hb := B.bytes
  have hr := B.returns
  have hts := atoms_spec (ws := wsL_low) B.pre
  have hown : s.vm.findClass RL = some m.cls := findClass_of_methodNamed B.named
  have hlocks := B.notSynchronized
  have hl := lv_entry ([.int v, .int (nI n0)]) (n := 2) (Nat.le_of_ble_eq_true rfl)
  rw [lg_entry_eq]
  generalize (lg_sl ([.int v, .int (nI n0)]) ++ List.replicate (2 - (lg_sl ([.int v, .int (nI n0)])).length) Slot.unset).toArray = ls at hl ⊢
  have hl : lv_has ls 2 [(0, .int v), (1, .int (nI n0))] := hl
  refine kz_start (fun QQ hQ => ?_)
  refine lv_iload_n hx hb dL_low_0 rfl (lv_at hl 0 rfl) ?_
  refine lv_ldc (v := 2147483647) hx hb hown (hts (.constant RL 9 2147483647) (by decide +kernel)) dL_low_1 ?_
  refine lv_iand hx hb dL_low_3 ?_
  refine lv_iload_n hx hb dL_low_4 rfl (lv_at hl 1 rfl) ?_
  refine lv_irem hx hb dL_low_5 (nI_ne0 hn0 hn1) ?_
  refine kz_topR ?_
  subst hQ
  exact W.iret (v := (kz_rem (v &&& 2147483647) (nI n0))) hx hb hr (fun t ht _ => ⟨(kz_rem (v &&& 2147483647) (nI n0)), rfl, (ps_lo_e hn0 hn1), ht⟩) (fun _ h9 => absurd h9 List.not_mem_nil) dL_low_6
set_option maxHeartbeats 4000000 in
set_option maxRecDepth 100000 in
theorem c_L_check (l : Launch) (G : kz_G) (w : Nat) (sh : Nat) (pl : Nat) (hw : w ≤ 7) (hsh : sh ≤ 5) (hpl : pl ≤ 7) : kz_rd l G yL_check wsL_check 0 0 [.int (nI w), .int (nI sh), .int (nI pl)] [] (nI ((10 - (3 * w + sh + 7 * pl) % 10) % 10)) := by
  refine Met.ofW (cc := cL_check) (maxL := 5) (ret := (some .int)) (by decide) rfl ?_
  intro p e s m args below meth c s₁ B hml hv
  obtain ⟨rfl, hP, hK⟩ := hv
  have hx := B.exec
  have hb := B.bytes
  have hr := B.returns
  have hts := atoms_spec (ws := wsL_check) B.pre
  have hown : s.vm.findClass RL = some m.cls := findClass_of_methodNamed B.named
  have hlocks := B.notSynchronized
  have hl := lv_entry ([.int (nI w), .int (nI sh), .int (nI pl)]) (n := 5) (Nat.le_of_ble_eq_true rfl)
  rw [lg_entry_eq]
  generalize (lg_sl ([.int (nI w), .int (nI sh), .int (nI pl)]) ++ List.replicate (5 - (lg_sl ([.int (nI w), .int (nI sh), .int (nI pl)])).length) Slot.unset).toArray = ls at hl ⊢
  have hl : lv_has ls 5 [(0, .int (nI w)), (1, .int (nI sh)), (2, .int (nI pl))] := hl
  refine kz_start (fun QQ hQ => ?_)
  refine lv_iconst (v := 3) hx hb dL_check_0 (by decide +kernel) ?_
  refine lv_iload_n hx hb dL_check_1 rfl (lv_at hl 0 rfl) ?_
  refine lv_imul hx hb dL_check_2 ?_
  refine lv_topi (fun y_1 ey_2 => ?_)
  obtain rfl : y_1 = (nI (3 * w)) := by rw [ey_2]; exact pk_mul 3 w
  refine lv_iload_n hx hb dL_check_3 rfl (lv_at hl 1 rfl) ?_
  refine lv_iadd hx hb dL_check_4 ?_
  refine lv_topi (fun y_3 ey_4 => ?_)
  obtain rfl : y_3 = (nI (3 * w + sh)) := by rw [ey_4]; exact nI_add _ _
  refine lv_bipush (v := 7) hx hb dL_check_5 (by decide +kernel) ?_
  refine lv_iload_n hx hb dL_check_7 rfl (lv_at hl 2 rfl) ?_
  refine lv_imul hx hb dL_check_8 ?_
  refine lv_topi (fun y_5 ey_6 => ?_)
  obtain rfl : y_5 = (nI (7 * pl)) := by rw [ey_6]; exact pk_mul 7 pl
  refine lv_iadd hx hb dL_check_9 ?_
  refine lv_topi (fun y_7 ey_8 => ?_)
  obtain rfl : y_7 = (nI (3 * w + sh + 7 * pl)) := by rw [ey_8]; exact nI_add _ _
  refine lv_istore_n (lv' := [(3, .int (nI (3 * w + sh + 7 * pl))), (0, .int (nI w)), (1, .int (nI sh)), (2, .int (nI pl))]) hx hb dL_check_10 rfl hl (by decide) rfl (fun ls hl => ?_)
  refine lv_iconst (v := 0) hx hb dL_check_11 (by decide +kernel) ?_
  refine lv_istore (lv' := [(4, .int 0), (3, .int (nI (3 * w + sh + 7 * pl))), (0, .int (nI w)), (1, .int (nI sh)), (2, .int (nI pl))]) hx hb dL_check_12 hl (by decide) rfl (fun ls hl => ?_)
  have L14_9 : ∀ (n14 : Nat) (d : Nat), (10 - d < n14) → (d ≤ (10 - (3 * w + sh + 7 * pl) % 10) % 10) → ∀ ls : Array Slot, lv_has ls 5 [(4, .int (nI d)), (3, .int (nI (3 * w + sh + 7 * pl))), (0, .int (nI w)), (1, .int (nI sh)), (2, .int (nI pl))] → W p l e (headSpec wsL_check (kz_rm 0 0)).room s m ([.int (nI w), .int (nI sh), .int (nI pl)] : List Value).toArray below meth c s.heap [] 0 0 QQ (F0 m 14 ls []) := by
    intro n14
    induction n14 with
    | zero => intro d h0; exact absurd h0 (Nat.not_lt_zero _)
    | succ n14 ih14_10 =>
      intro d hmeas14 hd ls hl
      refine lv_iload_n hx hb dL_check_14 rfl (lv_at hl 1 rfl) ?_
      refine lv_iload hx hb dL_check_15 (lv_at hl 0 rfl) ?_
      refine lv_iadd hx hb dL_check_17 ?_
      refine lv_topi (fun y_11 ey_12 => ?_)
      obtain rfl : y_11 = (nI (3 * w + sh + 7 * pl + d)) := by rw [ey_12]; exact nI_add _ _
      refine lv_bipush (v := 10) hx hb dL_check_18 (by decide +kernel) ?_
      refine lv_irem hx hb dL_check_20 (by decide +kernel) ?_
      refine kz_topR ?_
      refine lv_topi (fun y_13 ey_14 => ?_)
      obtain rfl : y_13 = (nI ((3 * w + sh + 7 * pl + d) % 10)) := by rw [ey_14]; exact kz_remN (d := 10) (by omega) (by omega) (by omega)
      refine lv_if_eq (tgt := 30) hx hb dL_check_21 (by decide) (fun c_15 => ?_) (fun c_15 => ?_)
      · have hz := ps_z (by omega) c_15
        refine lv_iload hx hb dL_check_30 (lv_at hl 0 rfl) ?_
        subst hQ
        exact W.iret (v := (nI d)) hx hb hr (fun t ht _ => ⟨(nI d), rfl, (congrArg nI (by omega)), ht⟩) (fun _ h9 => absurd h9 List.not_mem_nil) dL_check_32
      · have hz := ps_nz c_15
        refine lv_iinc (v := (nI (d + 1))) (lv' := [(4, .int (nI (d + 1))), (3, .int (nI (3 * w + sh + 7 * pl))), (0, .int (nI w)), (1, .int (nI sh)), (2, .int (nI pl))]) hx hb dL_check_24 hl (k := 0) rfl (nI_1 _) (by decide) rfl (fun ls hl => ?_)
        refine lv_goto (tgt := 14) hx hb dL_check_27 (by decide) ?_
        exact ih14_10 (d + 1) (by omega) (by omega) ls (lv_sub hl [0, 1, 2, 3, 4] rfl)
  exact L14_9 _ 0 (Nat.lt_succ_self _) (Nat.zero_le _) ls (lv_sub hl [0, 1, 2, 3, 4] rfl)
set_option maxHeartbeats 4000000 in
set_option maxRecDepth 100000 in
theorem c_L_code (l : Launch) (G : kz_G) (d : Nat) (j : Nat) (hd : d < 2 ^ 30) (hj : j < 48) : kz_rd l G yL_code wsL_code 1 24 [.int (nI d), .int (nI j)] [] (nI (ps_cd (d % 7 + 1) j)) := by
  refine Met.ofW (cc := cL_code) (maxL := 3) (ret := (some .int)) (by decide) rfl ?_
  intro p e s m args below meth c s₁ B hml hv
  obtain ⟨rfl, hP, hK⟩ := hv
  have hx := B.exec
  have hb := B.bytes
  have hr := B.returns
  have hts := atoms_spec (ws := wsL_code) B.pre
  have hown : s.vm.findClass RL = some m.cls := findClass_of_methodNamed B.named
  have hlocks := B.notSynchronized
  have hl := lv_entry ([.int (nI d), .int (nI j)]) (n := 3) (Nat.le_of_ble_eq_true rfl)
  rw [lg_entry_eq]
  generalize (lg_sl ([.int (nI d), .int (nI j)]) ++ List.replicate (3 - (lg_sl ([.int (nI d), .int (nI j)])).length) Slot.unset).toArray = ls at hl ⊢
  have hl : lv_has ls 3 [(0, .int (nI d)), (1, .int (nI j))] := hl
  refine kz_start (fun QQ hQ => ?_)
  refine lv_iload_n hx hb dL_code_0 rfl (lv_at hl 0 rfl) ?_
  refine lv_bipush (v := 7) hx hb dL_code_1 (by decide +kernel) ?_
  refine lv_irem hx hb dL_code_3 (by decide +kernel) ?_
  refine kz_topR ?_
  refine lv_iconst (v := 1) hx hb dL_code_4 (by decide +kernel) ?_
  refine lv_iadd hx hb dL_code_5 ?_
  refine lv_topi (fun y_1 ey_2 => ?_)
  obtain rfl : y_1 = (nI (d % 7 + 1)) := by rw [ey_2]; exact kz_wdN hd
  refine lv_istore_n (lv' := [(2, .int (nI (d % 7 + 1))), (0, .int (nI d)), (1, .int (nI j))]) hx hb dL_code_6 rfl hl (by decide) rfl (fun ls hl => ?_)
  refine lv_sipush (v := 1000) hx hb dL_code_7 (by decide +kernel) ?_
  refine lv_iload_n hx hb dL_code_10 rfl (lv_at hl 0 rfl) ?_
  refine lv_imul hx hb dL_code_11 ?_
  refine lv_topi (fun y_3 ey_4 => ?_)
  obtain rfl : y_3 = (nI (1000 * (d % 7 + 1))) := by rw [ey_4]; exact pk_mul 1000 _
  refine lv_bipush (v := 100) hx hb dL_code_12 (by decide +kernel) ?_
  refine lv_iload_n hx hb dL_code_14 rfl (lv_at hl 2 rfl) ?_
  refine lv_bipush (v := 8) hx hb dL_code_15 (by decide +kernel) ?_
  refine lv_idiv hx hb dL_code_17 (by decide +kernel) ?_
  refine lv_topi (fun y_5 ey_6 => ?_)
  obtain rfl : y_5 = (nI (j / 8)) := by rw [ey_6]; exact kz_divN (d := 8) (by omega) (by omega) (by omega)
  refine lv_imul hx hb dL_code_18 ?_
  refine lv_topi (fun y_7 ey_8 => ?_)
  obtain rfl : y_7 = (nI (100 * (j / 8))) := by rw [ey_8]; exact pk_mul 100 _
  refine lv_iadd hx hb dL_code_19 ?_
  refine lv_topi (fun y_9 ey_10 => ?_)
  obtain rfl : y_9 = (nI (1000 * (d % 7 + 1) + 100 * (j / 8))) := by rw [ey_10]; exact nI_add _ _
  refine lv_bipush (v := 10) hx hb dL_code_20 (by decide +kernel) ?_
  refine lv_iload_n hx hb dL_code_22 rfl (lv_at hl 2 rfl) ?_
  refine lv_bipush (v := 8) hx hb dL_code_23 (by decide +kernel) ?_
  refine lv_irem hx hb dL_code_25 (by decide +kernel) ?_
  refine kz_topR ?_
  refine lv_topi (fun y_11 ey_12 => ?_)
  obtain rfl : y_11 = (nI (j % 8)) := by rw [ey_12]; exact kz_remN (d := 8) (by omega) (by omega) (by omega)
  refine lv_imul hx hb dL_code_26 ?_
  refine lv_topi (fun y_13 ey_14 => ?_)
  obtain rfl : y_13 = (nI (10 * (j % 8))) := by rw [ey_14]; exact pk_mul 10 _
  refine lv_iadd hx hb dL_code_27 ?_
  refine lv_topi (fun y_15 ey_16 => ?_)
  obtain rfl : y_15 = (nI (1000 * (d % 7 + 1) + 100 * (j / 8) + 10 * (j % 8))) := by rw [ey_16]; exact nI_add _ _
  refine lv_iload_n hx hb dL_code_28 rfl (lv_at hl 0 rfl) ?_
  refine lv_iload_n hx hb dL_code_29 rfl (lv_at hl 2 rfl) ?_
  refine lv_bipush (v := 8) hx hb dL_code_30 (by decide +kernel) ?_
  refine lv_idiv hx hb dL_code_32 (by decide +kernel) ?_
  refine lv_topi (fun y_17 ey_18 => ?_)
  obtain rfl : y_17 = (nI (j / 8)) := by rw [ey_18]; exact kz_divN (d := 8) (by omega) (by omega) (by omega)
  refine lv_iload_n hx hb dL_code_33 rfl (lv_at hl 2 rfl) ?_
  refine lv_bipush (v := 8) hx hb dL_code_34 (by decide +kernel) ?_
  refine lv_irem hx hb dL_code_36 (by decide +kernel) ?_
  refine kz_topR ?_
  refine lv_topi (fun y_19 ey_20 => ?_)
  obtain rfl : y_19 = (nI (j % 8)) := by rw [ey_20]; exact kz_remN (d := 8) (by omega) (by omega) (by omega)
  refine kz_rdS (As := [.int (nI (d % 7 + 1)), .int (nI (j / 8)), .int (nI (j % 8))]) (rest := [.int (nI (1000 * (d % 7 + 1) + 100 * (j / 8) + 10 * (j % 8)))]) ⟨hx, hb, hml, hown, hts⟩ (c_L_check l G (d % 7 + 1) (j / 8) (j % 8) (by omega) (by omega) (by omega)) (va_cwS 3 hts gL_code_L_check rfl rfl rfl (by decide +kernel) ⟨Nat.le_of_ble_eq_true rfl, Nat.le_of_ble_eq_true rfl⟩) hK hP rfl hl.1 rfl (Nat.le_of_ble_eq_true rfl) dL_code_37 ⟨Nat.le_of_ble_eq_true rfl, Nat.le_of_ble_eq_true rfl⟩ ?_
  refine lv_iadd hx hb dL_code_40 ?_
  refine lv_topi (fun y_21 ey_22 => ?_)
  obtain rfl : y_21 = (nI (1000 * (d % 7 + 1) + 100 * (j / 8) + 10 * (j % 8) + (10 - (3 * (d % 7 + 1) + j / 8 + 7 * (j % 8)) % 10) % 10)) := by rw [ey_22]; exact nI_add _ _
  subst hQ
  exact W.iret (v := (nI (1000 * (d % 7 + 1) + 100 * (j / 8) + 10 * (j % 8) + (10 - (3 * (d % 7 + 1) + j / 8 + 7 * (j % 8)) % 10) % 10))) hx hb hr (fun t ht _ => ⟨(nI (1000 * (d % 7 + 1) + 100 * (j / 8) + 10 * (j % 8) + (10 - (3 * (d % 7 + 1) + j / 8 + 7 * (j % 8)) % 10) % 10)), rfl, rfl, ht⟩) (fun _ h9 => absurd h9 List.not_mem_nil) dL_code_41
def L_until_r (zl zv zt : Nat → Int32) (w : Int32) : Int32 := ps_un zl zv (zt 0) w (zt 8).toNatClampNeg
set_option maxHeartbeats 4000000 in
set_option maxRecDepth 100000 in
theorem c_L_until (l : Launch) (G : kz_G) (nl : Nat) (zl : Nat → Int32) (nv : Nat) (zv : Nat → Int32) (nt : Nat) (zt : Nat → Int32) (w : Int32) (h8 : ∃ n, n ≤ 60 ∧ zt 8 = nI n) : kz_rd l G yL_until wsL_until 0 0 [.ref nl, .ref nv, .ref nt, .int w] [[(nl, .inl (G.2.1, 64, .inl zl))], [(nv, .inl (G.2.1, 64, .inl zv))], [(nt, .inl (G.2.1, 10, .inl zt))]] (L_until_r zl zv zt w) := by
  refine Met.ofW (cc := cL_until) (maxL := 6) (ret := (some .int)) (by decide) rfl ?_
  intro p e s m args below meth c s₁ B hml hv
  obtain ⟨rfl, hP, hK⟩ := hv
  have hx := B.exec
  have hb := B.bytes
  have hr := B.returns
  have hts := atoms_spec (ws := wsL_until) B.pre
  have hown : s.vm.findClass RL = some m.cls := findClass_of_methodNamed B.named
  have hlocks := B.notSynchronized
  have hl := lv_entry ([.ref nl, .ref nv, .ref nt, .int w]) (n := 6) (Nat.le_of_ble_eq_true rfl)
  rw [lg_entry_eq]
  generalize (lg_sl ([.ref nl, .ref nv, .ref nt, .int w]) ++ List.replicate (6 - (lg_sl ([.ref nl, .ref nv, .ref nt, .int w])).length) Slot.unset).toArray = ls at hl ⊢
  have hl : lv_has ls 6 [(0, .ref nl), (1, .ref nv), (2, .ref nt), (3, .int w)] := hl
  refine kz_start (fun QQ hQ => ?_)
  obtain ⟨n, hn, e8⟩ := id h8
  refine lv_iconst (v := 0) hx hb dL_until_0 (by decide +kernel) ?_
  refine lv_istore (lv' := [(4, .int 0), (0, .ref nl), (1, .ref nv), (2, .ref nt), (3, .int w)]) hx hb dL_until_1 hl (by decide) rfl (fun ls hl => ?_)
  refine lv_iconst (v := 0) hx hb dL_until_3 (by decide +kernel) ?_
  refine lv_istore (lv' := [(5, .int 0), (4, .int 0), (0, .ref nl), (1, .ref nv), (2, .ref nt), (3, .int w)]) hx hb dL_until_4 hl (by decide) rfl (fun ls hl => ?_)
  have L6_1 : ∀ (n6 : Nat) (i : Nat) (x : Int32), (n - i < n6) → (i ≤ n) → (x = ps_un zl zv (zt 0) w i) → ∀ ls : Array Slot, lv_has ls 6 [(5, .int (nI i)), (4, .int x), (0, .ref nl), (1, .ref nv), (2, .ref nt), (3, .int w)] → W p l e (headSpec wsL_until (kz_rm 0 0)).room s m ([.ref nl, .ref nv, .ref nt, .int w] : List Value).toArray below meth c s.heap [] 0 0 QQ (F0 m 6 ls []) := by
    intro n6
    induction n6 with
    | zero => intro i x h0; exact absurd h0 (Nat.not_lt_zero _)
    | succ n6 ih6_2 =>
      intro i x hmeas6 hi1 hx0 ls hl
      refine lv_iload hx hb dL_until_6 (lv_at hl 0 rfl) ?_
      refine lv_aload_n hx hb dL_until_8 rfl (lv_at hl 4 rfl) ?_
      refine lv_bipush (v := 8) hx hb dL_until_9 (by decide +kernel) ?_
      refine va_iald (f := zt) hx hb hK.1 hP 2 0 rfl rfl (vp_in_nI (n := 8) (N := 10) (by decide) (by decide)) dL_until_11 ?_
      refine lv_topi (fun y_3 ey_4 => ?_)
      obtain rfl : y_3 = (nI n) := by rw [ey_4]; exact (show (zt 8) = (nI n) from e8)
      refine lv_icmp_ge (tgt := 44) hx hb dL_until_12 (by decide) (fun c_5 => ?_) (fun c_5 => ?_)
      · have hge := kz_le (a := n) (b := i) c_5 (by omega) (by omega)
        refine lv_iload hx hb dL_until_44 (lv_at hl 1 rfl) ?_
        subst hQ
        exact W.iret (v := x) hx hb hr (fun t ht _ => ⟨x, rfl, (by obtain rfl : i = n := (by omega); rw [L_until_r, e8, nI_clamp (by omega)]; exact hx0), ht⟩) (fun _ h9 => absurd h9 List.not_mem_nil) dL_until_46
      · have hlt := kz_gt (a := n) (b := i) c_5 (by omega) (by omega)
        refine lv_aload_n hx hb dL_until_15 rfl (lv_at hl 2 rfl) ?_
        refine lv_iload hx hb dL_until_16 (lv_at hl 0 rfl) ?_
        refine va_iald (f := zl) hx hb hK.1 hP 0 0 rfl rfl (vp_in_nI (n := i) (N := 64) (by omega) (by decide)) dL_until_18 ?_
        refine lv_topi (fun y_6 ey_7 => ?_)
        obtain rfl : y_6 = (zl i) := by rw [ey_7, kz_nI_clamp (n := i) (by omega)]
        refine lv_iload_n hx hb dL_until_19 rfl (lv_at hl 5 rfl) ?_
        refine lv_icmp_ne (tgt := 34) hx hb dL_until_20 (by decide) (fun c_8 => ?_) (fun c_8 => ?_)
        · refine lv_iload hx hb dL_until_34 (lv_at hl 1 rfl) ?_
          refine lv_istore (lv' := [(4, .int x), (5, .int (nI i)), (0, .ref nl), (1, .ref nv), (2, .ref nt), (3, .int w)]) hx hb dL_until_36 hl (by decide) rfl (fun ls hl => ?_)
          refine lv_iinc (v := (nI (i + 1))) (lv' := [(5, .int (nI (i + 1))), (4, .int x), (0, .ref nl), (1, .ref nv), (2, .ref nt), (3, .int w)]) hx hb dL_until_38 hl (k := 1) rfl (nI_1 _) (by decide) rfl (fun ls hl => ?_)
          refine lv_goto (tgt := 6) hx hb dL_until_41 (by decide) ?_
          exact ih6_2 (i + 1) x (by omega) (by omega) (hx0.trans (ps_un_f c_8)) ls (lv_sub hl [0, 1, 2, 3, 4, 5] rfl)
        · refine lv_aload_n hx hb dL_until_23 rfl (lv_at hl 3 rfl) ?_
          refine lv_iload hx hb dL_until_24 (lv_at hl 0 rfl) ?_
          refine va_iald (f := zv) hx hb hK.1 hP 1 0 rfl rfl (vp_in_nI (n := i) (N := 64) (by omega) (by decide)) dL_until_26 ?_
          refine lv_topi (fun y_9 ey_10 => ?_)
          obtain rfl : y_9 = (zv i) := by rw [ey_10, kz_nI_clamp (n := i) (by omega)]
          refine lv_aload_n hx hb dL_until_27 rfl (lv_at hl 4 rfl) ?_
          refine lv_iconst (v := 0) hx hb dL_until_28 (by decide +kernel) ?_
          refine va_iald (f := zt) hx hb hK.1 hP 2 0 rfl rfl (vp_in_nI (n := 0) (N := 10) (by decide) (by decide)) dL_until_29 ?_
          refine lv_topi (fun y_11 ey_12 => ?_)
          obtain rfl : y_11 = (zt 0) := by rw [ey_12]; rfl
          refine lv_iadd hx hb dL_until_30 ?_
          refine lv_goto (tgt := 36) hx hb dL_until_31 (by decide) ?_
          refine lv_istore (lv' := [(4, .int ((zv i) + (zt 0))), (5, .int (nI i)), (0, .ref nl), (1, .ref nv), (2, .ref nt), (3, .int w)]) hx hb dL_until_36 hl (by decide) rfl (fun ls hl => ?_)
          refine lv_iinc (v := (nI (i + 1))) (lv' := [(5, .int (nI (i + 1))), (4, .int ((zv i) + (zt 0))), (0, .ref nl), (1, .ref nv), (2, .ref nt), (3, .int w)]) hx hb dL_until_38 hl (k := 1) rfl (nI_1 _) (by decide) rfl (fun ls hl => ?_)
          refine lv_goto (tgt := 6) hx hb dL_until_41 (by decide) ?_
          exact ih6_2 (i + 1) ((zv i) + (zt 0)) (by omega) (by omega) (ps_un_t c_8) ls (lv_sub hl [0, 1, 2, 3, 4, 5] rfl)
  exact L6_1 _ 0 0 (Nat.lt_succ_self _) (Nat.zero_le _) rfl ls (lv_sub hl [0, 1, 2, 3, 4, 5] rfl)
def L_on_r (zp zt : Nat → Int32) (w : Int32) : Int32 := ps_on zp w (zt 7).toNatClampNeg
set_option maxHeartbeats 4000000 in
set_option maxRecDepth 100000 in
theorem c_L_on (l : Launch) (G : kz_G) (np : Nat) (zp : Nat → Int32) (nt : Nat) (zt : Nat → Int32) (w : Int32) (h7 : ∃ n, n ≤ 60 ∧ zt 7 = nI n) : kz_rd l G yL_on wsL_on 0 0 [.ref np, .ref nt, .int w] [[(np, .inl (G.2.1, 64, .inl zp))], [(nt, .inl (G.2.1, 10, .inl zt))]] (L_on_r zp zt w) := by
  refine Met.ofW (cc := cL_on) (maxL := 5) (ret := (some .int)) (by decide) rfl ?_
  intro p e s m args below meth c s₁ B hml hv
  obtain ⟨rfl, hP, hK⟩ := hv
  have hx := B.exec
  have hb := B.bytes
  have hr := B.returns
  have hts := atoms_spec (ws := wsL_on) B.pre
  have hown : s.vm.findClass RL = some m.cls := findClass_of_methodNamed B.named
  have hlocks := B.notSynchronized
  have hl := lv_entry ([.ref np, .ref nt, .int w]) (n := 5) (Nat.le_of_ble_eq_true rfl)
  rw [lg_entry_eq]
  generalize (lg_sl ([.ref np, .ref nt, .int w]) ++ List.replicate (5 - (lg_sl ([.ref np, .ref nt, .int w])).length) Slot.unset).toArray = ls at hl ⊢
  have hl : lv_has ls 5 [(0, .ref np), (1, .ref nt), (2, .int w)] := hl
  refine kz_start (fun QQ hQ => ?_)
  obtain ⟨n, hn, e7⟩ := id h7
  refine lv_iconst (v := (-1)) hx hb dL_on_0 (by decide +kernel) ?_
  refine lv_istore_n (lv' := [(3, .int (-1)), (0, .ref np), (1, .ref nt), (2, .int w)]) hx hb dL_on_1 rfl hl (by decide) rfl (fun ls hl => ?_)
  refine lv_iconst (v := 0) hx hb dL_on_2 (by decide +kernel) ?_
  refine lv_istore (lv' := [(4, .int 0), (3, .int (-1)), (0, .ref np), (1, .ref nt), (2, .int w)]) hx hb dL_on_3 hl (by decide) rfl (fun ls hl => ?_)
  have L5_1 : ∀ (n5 : Nat) (i : Nat) (x : Int32), (n - i < n5) → (i ≤ n) → (x = ps_on zp w i) → ∀ ls : Array Slot, lv_has ls 5 [(4, .int (nI i)), (3, .int x), (0, .ref np), (1, .ref nt), (2, .int w)] → W p l e (headSpec wsL_on (kz_rm 0 0)).room s m ([.ref np, .ref nt, .int w] : List Value).toArray below meth c s.heap [] 0 0 QQ (F0 m 5 ls []) := by
    intro n5
    induction n5 with
    | zero => intro i x h0; exact absurd h0 (Nat.not_lt_zero _)
    | succ n5 ih5_2 =>
      intro i x hmeas5 hi1 hx0 ls hl
      refine lv_iload hx hb dL_on_5 (lv_at hl 0 rfl) ?_
      refine lv_aload_n hx hb dL_on_7 rfl (lv_at hl 3 rfl) ?_
      refine lv_bipush (v := 7) hx hb dL_on_8 (by decide +kernel) ?_
      refine va_iald (f := zt) hx hb hK.1 hP 1 0 rfl rfl (vp_in_nI (n := 7) (N := 10) (by decide) (by decide)) dL_on_10 ?_
      refine lv_topi (fun y_3 ey_4 => ?_)
      obtain rfl : y_3 = (nI n) := by rw [ey_4]; exact (show (zt 7) = (nI n) from e7)
      refine lv_icmp_ge (tgt := 35) hx hb dL_on_11 (by decide) (fun c_5 => ?_) (fun c_5 => ?_)
      · have hge := kz_le (a := n) (b := i) c_5 (by omega) (by omega)
        refine lv_iload_n hx hb dL_on_35 rfl (lv_at hl 1 rfl) ?_
        subst hQ
        exact W.iret (v := x) hx hb hr (fun t ht _ => ⟨x, rfl, (by obtain rfl : i = n := (by omega); rw [L_on_r, e7, nI_clamp (by omega)]; exact hx0), ht⟩) (fun _ h9 => absurd h9 List.not_mem_nil) dL_on_36
      · have hlt := kz_gt (a := n) (b := i) c_5 (by omega) (by omega)
        refine lv_aload_n hx hb dL_on_14 rfl (lv_at hl 2 rfl) ?_
        refine lv_iload hx hb dL_on_15 (lv_at hl 0 rfl) ?_
        refine va_iald (f := zp) hx hb hK.1 hP 0 0 rfl rfl (vp_in_nI (n := i) (N := 64) (by omega) (by decide)) dL_on_17 ?_
        refine lv_topi (fun y_6 ey_7 => ?_)
        obtain rfl : y_6 = (zp i) := by rw [ey_7, kz_nI_clamp (n := i) (by omega)]
        refine lv_iload_n hx hb dL_on_18 rfl (lv_at hl 4 rfl) ?_
        refine lv_icmp_ne (tgt := 27) hx hb dL_on_19 (by decide) (fun c_8 => ?_) (fun c_8 => ?_)
        · refine lv_iload_n hx hb dL_on_27 rfl (lv_at hl 1 rfl) ?_
          refine lv_istore_n (lv' := [(3, .int x), (4, .int (nI i)), (0, .ref np), (1, .ref nt), (2, .int w)]) hx hb dL_on_28 rfl hl (by decide) rfl (fun ls hl => ?_)
          refine lv_iinc (v := (nI (i + 1))) (lv' := [(4, .int (nI (i + 1))), (3, .int x), (0, .ref np), (1, .ref nt), (2, .int w)]) hx hb dL_on_29 hl (k := 1) rfl (nI_1 _) (by decide) rfl (fun ls hl => ?_)
          refine lv_goto (tgt := 5) hx hb dL_on_32 (by decide) ?_
          exact ih5_2 (i + 1) x (by omega) (by omega) (hx0.trans (ps_on_f c_8)) ls (lv_sub hl [0, 1, 2, 3, 4] rfl)
        · refine lv_iload hx hb dL_on_22 (lv_at hl 0 rfl) ?_
          refine lv_goto (tgt := 28) hx hb dL_on_24 (by decide) ?_
          refine lv_istore_n (lv' := [(3, .int (nI i)), (4, .int (nI i)), (0, .ref np), (1, .ref nt), (2, .int w)]) hx hb dL_on_28 rfl hl (by decide) rfl (fun ls hl => ?_)
          refine lv_iinc (v := (nI (i + 1))) (lv' := [(4, .int (nI (i + 1))), (3, .int (nI i)), (0, .ref np), (1, .ref nt), (2, .int w)]) hx hb dL_on_29 hl (k := 1) rfl (nI_1 _) (by decide) rfl (fun ls hl => ?_)
          refine lv_goto (tgt := 5) hx hb dL_on_32 (by decide) ?_
          exact ih5_2 (i + 1) (nI i) (by omega) (by omega) (ps_on_t c_8) ls (lv_sub hl [0, 1, 2, 3, 4] rfl)
  exact L5_1 _ 0 (-1) (Nat.lt_succ_self _) (Nat.zero_le _) rfl ls (lv_sub hl [0, 1, 2, 3, 4] rfl)
def L_by_r (zp zc zt : Nat → Int32) (w : Int32) : Int32 := ps_by zp zc w (zt 7).toNatClampNeg
set_option maxHeartbeats 4000000 in
set_option maxRecDepth 100000 in
theorem c_L_by (l : Launch) (G : kz_G) (np : Nat) (zp : Nat → Int32) (nc : Nat) (zc : Nat → Int32) (nt : Nat) (zt : Nat → Int32) (w : Int32) (h7 : ∃ n, n ≤ 60 ∧ zt 7 = nI n) : kz_rd l G yL_by wsL_by 0 0 [.ref np, .ref nc, .ref nt, .int w] [[(np, .inl (G.2.1, 64, .inl zp))], [(nc, .inl (G.2.1, 64, .inl zc))], [(nt, .inl (G.2.1, 10, .inl zt))]] (L_by_r zp zc zt w) := by
  refine Met.ofW (cc := cL_by) (maxL := 6) (ret := (some .int)) (by decide) rfl ?_
  intro p e s m args below meth c s₁ B hml hv
  obtain ⟨rfl, hP, hK⟩ := hv
  have hx := B.exec
  have hb := B.bytes
  have hr := B.returns
  have hts := atoms_spec (ws := wsL_by) B.pre
  have hown : s.vm.findClass RL = some m.cls := findClass_of_methodNamed B.named
  have hlocks := B.notSynchronized
  have hl := lv_entry ([.ref np, .ref nc, .ref nt, .int w]) (n := 6) (Nat.le_of_ble_eq_true rfl)
  rw [lg_entry_eq]
  generalize (lg_sl ([.ref np, .ref nc, .ref nt, .int w]) ++ List.replicate (6 - (lg_sl ([.ref np, .ref nc, .ref nt, .int w])).length) Slot.unset).toArray = ls at hl ⊢
  have hl : lv_has ls 6 [(0, .ref np), (1, .ref nc), (2, .ref nt), (3, .int w)] := hl
  refine kz_start (fun QQ hQ => ?_)
  obtain ⟨n, hn, e7⟩ := id h7
  refine lv_iconst (v := (-1)) hx hb dL_by_0 (by decide +kernel) ?_
  refine lv_istore (lv' := [(4, .int (-1)), (0, .ref np), (1, .ref nc), (2, .ref nt), (3, .int w)]) hx hb dL_by_1 hl (by decide) rfl (fun ls hl => ?_)
  refine lv_iconst (v := 0) hx hb dL_by_3 (by decide +kernel) ?_
  refine lv_istore (lv' := [(5, .int 0), (4, .int (-1)), (0, .ref np), (1, .ref nc), (2, .ref nt), (3, .int w)]) hx hb dL_by_4 hl (by decide) rfl (fun ls hl => ?_)
  have L6_1 : ∀ (n6 : Nat) (i : Nat) (x : Int32), (n - i < n6) → (i ≤ n) → (x = ps_by zp zc w i) → ∀ ls : Array Slot, lv_has ls 6 [(5, .int (nI i)), (4, .int x), (0, .ref np), (1, .ref nc), (2, .ref nt), (3, .int w)] → W p l e (headSpec wsL_by (kz_rm 0 0)).room s m ([.ref np, .ref nc, .ref nt, .int w] : List Value).toArray below meth c s.heap [] 0 0 QQ (F0 m 6 ls []) := by
    intro n6
    induction n6 with
    | zero => intro i x h0; exact absurd h0 (Nat.not_lt_zero _)
    | succ n6 ih6_2 =>
      intro i x hmeas6 hi1 hx0 ls hl
      refine lv_iload hx hb dL_by_6 (lv_at hl 0 rfl) ?_
      refine lv_aload_n hx hb dL_by_8 rfl (lv_at hl 4 rfl) ?_
      refine lv_bipush (v := 7) hx hb dL_by_9 (by decide +kernel) ?_
      refine va_iald (f := zt) hx hb hK.1 hP 2 0 rfl rfl (vp_in_nI (n := 7) (N := 10) (by decide) (by decide)) dL_by_11 ?_
      refine lv_topi (fun y_3 ey_4 => ?_)
      obtain rfl : y_3 = (nI n) := by rw [ey_4]; exact (show (zt 7) = (nI n) from e7)
      refine lv_icmp_ge (tgt := 45) hx hb dL_by_12 (by decide) (fun c_5 => ?_) (fun c_5 => ?_)
      · have hge := kz_le (a := n) (b := i) c_5 (by omega) (by omega)
        refine lv_iload hx hb dL_by_45 (lv_at hl 1 rfl) ?_
        subst hQ
        exact W.iret (v := x) hx hb hr (fun t ht _ => ⟨x, rfl, (by obtain rfl : i = n := (by omega); rw [L_by_r, e7, nI_clamp (by omega)]; exact hx0), ht⟩) (fun _ h9 => absurd h9 List.not_mem_nil) dL_by_47
      · have hlt := kz_gt (a := n) (b := i) c_5 (by omega) (by omega)
        refine lv_aload_n hx hb dL_by_15 rfl (lv_at hl 2 rfl) ?_
        refine lv_iload hx hb dL_by_16 (lv_at hl 0 rfl) ?_
        refine va_iald (f := zp) hx hb hK.1 hP 0 0 rfl rfl (vp_in_nI (n := i) (N := 64) (by omega) (by decide)) dL_by_18 ?_
        refine lv_topi (fun y_6 ey_7 => ?_)
        obtain rfl : y_6 = (zp i) := by rw [ey_7, kz_nI_clamp (n := i) (by omega)]
        refine lv_if_lt (tgt := 35) hx hb dL_by_19 (by decide) (fun c_8 => ?_) (fun c_8 => ?_)
        · refine lv_iload hx hb dL_by_35 (lv_at hl 1 rfl) ?_
          refine lv_istore (lv' := [(4, .int x), (5, .int (nI i)), (0, .ref np), (1, .ref nc), (2, .ref nt), (3, .int w)]) hx hb dL_by_37 hl (by decide) rfl (fun ls hl => ?_)
          refine lv_iinc (v := (nI (i + 1))) (lv' := [(5, .int (nI (i + 1))), (4, .int x), (0, .ref np), (1, .ref nc), (2, .ref nt), (3, .int w)]) hx hb dL_by_39 hl (k := 1) rfl (nI_1 _) (by decide) rfl (fun ls hl => ?_)
          refine lv_goto (tgt := 6) hx hb dL_by_42 (by decide) ?_
          exact ih6_2 (i + 1) x (by omega) (by omega) (hx0.trans (ps_by_f (fun q => q.1 c_8))) ls (lv_sub hl [0, 1, 2, 3, 4, 5] rfl)
        · refine lv_aload_n hx hb dL_by_22 rfl (lv_at hl 3 rfl) ?_
          refine lv_iload hx hb dL_by_23 (lv_at hl 0 rfl) ?_
          refine va_iald (f := zc) hx hb hK.1 hP 1 0 rfl rfl (vp_in_nI (n := i) (N := 64) (by omega) (by decide)) dL_by_25 ?_
          refine lv_topi (fun y_9 ey_10 => ?_)
          obtain rfl : y_9 = (zc i) := by rw [ey_10, kz_nI_clamp (n := i) (by omega)]
          refine lv_iload_n hx hb dL_by_26 rfl (lv_at hl 5 rfl) ?_
          refine lv_icmp_ne (tgt := 35) hx hb dL_by_27 (by decide) (fun c_11 => ?_) (fun c_11 => ?_)
          · refine lv_iload hx hb dL_by_35 (lv_at hl 1 rfl) ?_
            refine lv_istore (lv' := [(4, .int x), (5, .int (nI i)), (0, .ref np), (1, .ref nc), (2, .ref nt), (3, .int w)]) hx hb dL_by_37 hl (by decide) rfl (fun ls hl => ?_)
            refine lv_iinc (v := (nI (i + 1))) (lv' := [(5, .int (nI (i + 1))), (4, .int x), (0, .ref np), (1, .ref nc), (2, .ref nt), (3, .int w)]) hx hb dL_by_39 hl (k := 1) rfl (nI_1 _) (by decide) rfl (fun ls hl => ?_)
            refine lv_goto (tgt := 6) hx hb dL_by_42 (by decide) ?_
            exact ih6_2 (i + 1) x (by omega) (by omega) (hx0.trans (ps_by_f (fun q => c_11 q.2))) ls (lv_sub hl [0, 1, 2, 3, 4, 5] rfl)
          · refine lv_iload hx hb dL_by_30 (lv_at hl 0 rfl) ?_
            refine lv_goto (tgt := 37) hx hb dL_by_32 (by decide) ?_
            refine lv_istore (lv' := [(4, .int (nI i)), (5, .int (nI i)), (0, .ref np), (1, .ref nc), (2, .ref nt), (3, .int w)]) hx hb dL_by_37 hl (by decide) rfl (fun ls hl => ?_)
            refine lv_iinc (v := (nI (i + 1))) (lv' := [(5, .int (nI (i + 1))), (4, .int (nI i)), (0, .ref np), (1, .ref nc), (2, .ref nt), (3, .int w)]) hx hb dL_by_39 hl (k := 1) rfl (nI_1 _) (by decide) rfl (fun ls hl => ?_)
            refine lv_goto (tgt := 6) hx hb dL_by_42 (by decide) ?_
            exact ih6_2 (i + 1) (nI i) (by omega) (by omega) (ps_by_t c_8 c_11) ls (lv_sub hl [0, 1, 2, 3, 4, 5] rfl)
  exact L6_1 _ 0 (-1) (Nat.lt_succ_self _) (Nat.zero_le _) rfl ls (lv_sub hl [0, 1, 2, 3, 4, 5] rfl)
def L_sum_r (zg : Nat → Int32) : Int32 := kz_sm zg 10
set_option maxHeartbeats 4000000 in
set_option maxRecDepth 100000 in
theorem c_L_sum (l : Launch) (G : kz_G) (ng : Nat) (zg : Nat → Int32) : kz_rd l G yL_sum wsL_sum 0 0 [.ref ng] [[(ng, .inl (G.2.1, 10, .inl zg))]] (L_sum_r zg) := by
  refine Met.ofW (cc := cL_sum) (maxL := 3) (ret := (some .int)) (by decide) rfl ?_
  intro p e s m args below meth c s₁ B hml hv
  obtain ⟨rfl, hP, hK⟩ := hv
  have hx := B.exec
  have hb := B.bytes
  have hr := B.returns
  have hts := atoms_spec (ws := wsL_sum) B.pre
  have hown : s.vm.findClass RL = some m.cls := findClass_of_methodNamed B.named
  have hlocks := B.notSynchronized
  have hl := lv_entry ([.ref ng]) (n := 3) (Nat.le_of_ble_eq_true rfl)
  rw [lg_entry_eq]
  generalize (lg_sl ([.ref ng]) ++ List.replicate (3 - (lg_sl ([.ref ng])).length) Slot.unset).toArray = ls at hl ⊢
  have hl : lv_has ls 3 [(0, .ref ng)] := hl
  refine kz_start (fun QQ hQ => ?_)
  refine lv_iconst (v := 0) hx hb dL_sum_0 (by decide +kernel) ?_
  refine lv_istore_n (lv' := [(1, .int 0), (0, .ref ng)]) hx hb dL_sum_1 rfl hl (by decide) rfl (fun ls hl => ?_)
  refine lv_iconst (v := 0) hx hb dL_sum_2 (by decide +kernel) ?_
  refine lv_istore_n (lv' := [(2, .int 0), (1, .int 0), (0, .ref ng)]) hx hb dL_sum_3 rfl hl (by decide) rfl (fun ls hl => ?_)
  have L4_1 : ∀ (n4 : Nat) (i : Nat) (x : Int32), (10 - i < n4) → (i ≤ 10) → (x = kz_sm zg i) → ∀ ls : Array Slot, lv_has ls 3 [(2, .int (nI i)), (1, .int x), (0, .ref ng)] → W p l e (headSpec wsL_sum (kz_rm 0 0)).room s m ([.ref ng] : List Value).toArray below meth c s.heap [] 0 0 QQ (F0 m 4 ls []) := by
    intro n4
    induction n4 with
    | zero => intro i x h0; exact absurd h0 (Nat.not_lt_zero _)
    | succ n4 ih4_2 =>
      intro i x hmeas4 hi1 hx0 ls hl
      refine lv_iload_n hx hb dL_sum_4 rfl (lv_at hl 0 rfl) ?_
      refine lv_bipush (v := 10) hx hb dL_sum_5 (by decide +kernel) ?_
      refine lv_icmp_ge (tgt := 22) hx hb dL_sum_7 (by decide) (fun c_3 => ?_) (fun c_3 => ?_)
      · have hge := kz_le (a := 10) (b := i) c_3 (by omega) (by omega)
        refine lv_iload_n hx hb dL_sum_22 rfl (lv_at hl 1 rfl) ?_
        subst hQ
        exact W.iret (v := x) hx hb hr (fun t ht _ => ⟨x, rfl, (by obtain rfl : i = 10 := (by omega); exact hx0), ht⟩) (fun _ h9 => absurd h9 List.not_mem_nil) dL_sum_23
      · have hlt := kz_gt (a := 10) (b := i) c_3 (by omega) (by omega)
        refine lv_iload_n hx hb dL_sum_10 rfl (lv_at hl 1 rfl) ?_
        refine lv_aload_n hx hb dL_sum_11 rfl (lv_at hl 2 rfl) ?_
        refine lv_iload_n hx hb dL_sum_12 rfl (lv_at hl 0 rfl) ?_
        refine va_iald (f := zg) hx hb hK.1 hP 0 0 rfl rfl (vp_in_nI (n := i) (N := 10) (by omega) (by decide)) dL_sum_13 ?_
        refine lv_topi (fun y_4 ey_5 => ?_)
        obtain rfl : y_4 = (zg i) := by rw [ey_5, kz_nI_clamp (n := i) (by omega)]
        refine lv_iadd hx hb dL_sum_14 ?_
        refine lv_istore_n (lv' := [(1, .int (x + (zg i))), (2, .int (nI i)), (0, .ref ng)]) hx hb dL_sum_15 rfl hl (by decide) rfl (fun ls hl => ?_)
        refine lv_iinc (v := (nI (i + 1))) (lv' := [(2, .int (nI (i + 1))), (1, .int (x + (zg i))), (0, .ref ng)]) hx hb dL_sum_16 hl (k := 1) rfl (nI_1 _) (by decide) rfl (fun ls hl => ?_)
        refine lv_goto (tgt := 4) hx hb dL_sum_19 (by decide) ?_
        exact ih4_2 (i + 1) (x + (zg i)) (by omega) (by omega) (by rw [hx0]; rfl) ls (lv_sub hl [0, 1, 2] rfl)
  exact L4_1 _ 0 0 (Nat.lt_succ_self _) (Nat.zero_le _) rfl ls (lv_sub hl [0, 1, 2] rfl)
def L_sender_r (zq : Nat → Int32) (j : Nat) : Int32 := ((kz_rem (zq j) 1000) / 100)
set_option maxHeartbeats 4000000 in
set_option maxRecDepth 100000 in
theorem c_L_sender (l : Launch) (G : kz_G) (nq : Nat) (zq : Nat → Int32) (j : Nat) (hj : j < 64) : kz_rd l G yL_sender wsL_sender 0 0 [.ref nq, .int (nI j)] [[(nq, .inl (G.2.1, 64, .inl zq))]] (L_sender_r zq j) := by
  refine Met.ofW (cc := cL_sender) (maxL := 2) (ret := (some .int)) (by decide) rfl ?_
  intro p e s m args below meth c s₁ B hml hv
  obtain ⟨rfl, hP, hK⟩ := hv
  have hx := B.exec
  have hb := B.bytes
  have hr := B.returns
  have hts := atoms_spec (ws := wsL_sender) B.pre
  have hown : s.vm.findClass RL = some m.cls := findClass_of_methodNamed B.named
  have hlocks := B.notSynchronized
  have hl := lv_entry ([.ref nq, .int (nI j)]) (n := 2) (Nat.le_of_ble_eq_true rfl)
  rw [lg_entry_eq]
  generalize (lg_sl ([.ref nq, .int (nI j)]) ++ List.replicate (2 - (lg_sl ([.ref nq, .int (nI j)])).length) Slot.unset).toArray = ls at hl ⊢
  have hl : lv_has ls 2 [(0, .ref nq), (1, .int (nI j))] := hl
  refine kz_start (fun QQ hQ => ?_)
  refine lv_aload_n hx hb dL_sender_0 rfl (lv_at hl 0 rfl) ?_
  refine lv_iload_n hx hb dL_sender_1 rfl (lv_at hl 1 rfl) ?_
  refine va_iald (f := zq) hx hb hK.1 hP 0 0 rfl rfl (vp_in_nI (n := j) (N := 64) (by omega) (by decide)) dL_sender_2 ?_
  refine lv_topi (fun y_1 ey_2 => ?_)
  obtain rfl : y_1 = (zq j) := by rw [ey_2, kz_nI_clamp (n := j) (by omega)]
  refine lv_sipush (v := 1000) hx hb dL_sender_3 (by decide +kernel) ?_
  refine lv_irem hx hb dL_sender_6 (by decide +kernel) ?_
  refine kz_topR ?_
  refine lv_bipush (v := 100) hx hb dL_sender_7 (by decide +kernel) ?_
  refine lv_idiv hx hb dL_sender_9 (by decide +kernel) ?_
  subst hQ
  exact W.iret (v := ((kz_rem (zq j) 1000) / 100)) hx hb hr (fun t ht _ => ⟨((kz_rem (zq j) 1000) / 100), rfl, rfl, ht⟩) (fun _ h9 => absurd h9 List.not_mem_nil) dL_sender_10
def L_size_r (zq : Nat → Int32) (j : Nat) : Int32 := ((kz_rem (zq j) 100) / 10)
set_option maxHeartbeats 4000000 in
set_option maxRecDepth 100000 in
theorem c_L_size (l : Launch) (G : kz_G) (nq : Nat) (zq : Nat → Int32) (j : Nat) (hj : j < 64) : kz_rd l G yL_size wsL_size 0 0 [.ref nq, .int (nI j)] [[(nq, .inl (G.2.1, 64, .inl zq))]] (L_size_r zq j) := by
  refine Met.ofW (cc := cL_size) (maxL := 2) (ret := (some .int)) (by decide) rfl ?_
  intro p e s m args below meth c s₁ B hml hv
  obtain ⟨rfl, hP, hK⟩ := hv
  have hx := B.exec
  have hb := B.bytes
  have hr := B.returns
  have hts := atoms_spec (ws := wsL_size) B.pre
  have hown : s.vm.findClass RL = some m.cls := findClass_of_methodNamed B.named
  have hlocks := B.notSynchronized
  have hl := lv_entry ([.ref nq, .int (nI j)]) (n := 2) (Nat.le_of_ble_eq_true rfl)
  rw [lg_entry_eq]
  generalize (lg_sl ([.ref nq, .int (nI j)]) ++ List.replicate (2 - (lg_sl ([.ref nq, .int (nI j)])).length) Slot.unset).toArray = ls at hl ⊢
  have hl : lv_has ls 2 [(0, .ref nq), (1, .int (nI j))] := hl
  refine kz_start (fun QQ hQ => ?_)
  refine lv_aload_n hx hb dL_size_0 rfl (lv_at hl 0 rfl) ?_
  refine lv_iload_n hx hb dL_size_1 rfl (lv_at hl 1 rfl) ?_
  refine va_iald (f := zq) hx hb hK.1 hP 0 0 rfl rfl (vp_in_nI (n := j) (N := 64) (by omega) (by decide)) dL_size_2 ?_
  refine lv_topi (fun y_1 ey_2 => ?_)
  obtain rfl : y_1 = (zq j) := by rw [ey_2, kz_nI_clamp (n := j) (by omega)]
  refine lv_bipush (v := 100) hx hb dL_size_3 (by decide +kernel) ?_
  refine lv_irem hx hb dL_size_5 (by decide +kernel) ?_
  refine kz_topR ?_
  refine lv_bipush (v := 10) hx hb dL_size_6 (by decide +kernel) ?_
  refine lv_idiv hx hb dL_size_8 (by decide +kernel) ?_
  subst hQ
  exact W.iret (v := ((kz_rem (zq j) 100) / 10)) hx hb hr (fun t ht _ => ⟨((kz_rem (zq j) 100) / 10), rfl, rfl, ht⟩) (fun _ h9 => absurd h9 List.not_mem_nil) dL_size_9
def L_fee_r (zq : Nat → Int32) (zt : Nat → Int32) (j : Nat) (dy : Int32) : Int32 := if 1 ≤ ((dy - ((zq j) / 1000)) - (zt 1)) then ((((L_size_r zq j) + 1) * (zt 2)) * ((dy - ((zq j) / 1000)) - (zt 1))) else 0
set_option maxHeartbeats 4000000 in
set_option maxRecDepth 100000 in
theorem c_L_fee (l : Launch) (G : kz_G) (nq : Nat) (zq : Nat → Int32) (nt : Nat) (zt : Nat → Int32) (j : Nat) (dy : Int32) (hj : j < 64) : kz_rd l G yL_fee wsL_fee 1 21 [.ref nq, .ref nt, .int (nI j), .int dy] [[(nq, .inl (G.2.1, 64, .inl zq))], [(nt, .inl (G.2.1, 10, .inl zt))]] (L_fee_r zq zt j dy) := by
  refine Met.ofW (cc := cL_fee) (maxL := 5) (ret := (some .int)) (by decide) rfl ?_
  intro p e s m args below meth c s₁ B hml hv
  obtain ⟨rfl, hP, hK⟩ := hv
  have hx := B.exec
  have hb := B.bytes
  have hr := B.returns
  have hts := atoms_spec (ws := wsL_fee) B.pre
  have hown : s.vm.findClass RL = some m.cls := findClass_of_methodNamed B.named
  have hlocks := B.notSynchronized
  have hl := lv_entry ([.ref nq, .ref nt, .int (nI j), .int dy]) (n := 5) (Nat.le_of_ble_eq_true rfl)
  rw [lg_entry_eq]
  generalize (lg_sl ([.ref nq, .ref nt, .int (nI j), .int dy]) ++ List.replicate (5 - (lg_sl ([.ref nq, .ref nt, .int (nI j), .int dy])).length) Slot.unset).toArray = ls at hl ⊢
  have hl : lv_has ls 5 [(0, .ref nq), (1, .ref nt), (2, .int (nI j)), (3, .int dy)] := hl
  refine kz_start (fun QQ hQ => ?_)
  refine lv_iload_n hx hb dL_fee_0 rfl (lv_at hl 3 rfl) ?_
  refine lv_aload_n hx hb dL_fee_1 rfl (lv_at hl 0 rfl) ?_
  refine lv_iload_n hx hb dL_fee_2 rfl (lv_at hl 2 rfl) ?_
  refine va_iald (f := zq) hx hb hK.1 hP 0 0 rfl rfl (vp_in_nI (n := j) (N := 64) (by omega) (by decide)) dL_fee_3 ?_
  refine lv_topi (fun y_1 ey_2 => ?_)
  obtain rfl : y_1 = (zq j) := by rw [ey_2, kz_nI_clamp (n := j) (by omega)]
  refine lv_sipush (v := 1000) hx hb dL_fee_4 (by decide +kernel) ?_
  refine lv_idiv hx hb dL_fee_7 (by decide +kernel) ?_
  refine lv_isub hx hb dL_fee_8 ?_
  refine lv_aload_n hx hb dL_fee_9 rfl (lv_at hl 1 rfl) ?_
  refine lv_iconst (v := 1) hx hb dL_fee_10 (by decide +kernel) ?_
  refine va_iald (f := zt) hx hb hK.1 hP 1 0 rfl rfl (vp_in_nI (n := 1) (N := 10) (by decide) (by decide)) dL_fee_11 ?_
  refine lv_topi (fun y_3 ey_4 => ?_)
  obtain rfl : y_3 = (zt 1) := by rw [ey_4]; rfl
  refine lv_isub hx hb dL_fee_12 ?_
  refine lv_istore (lv' := [(4, .int ((dy - ((zq j) / 1000)) - (zt 1))), (0, .ref nq), (1, .ref nt), (2, .int (nI j)), (3, .int dy)]) hx hb dL_fee_13 hl (by decide) rfl (fun ls hl => ?_)
  refine lv_iload hx hb dL_fee_15 (lv_at hl 0 rfl) ?_
  refine lv_iconst (v := 1) hx hb dL_fee_17 (by decide +kernel) ?_
  refine lv_icmp_ge (tgt := 25) hx hb dL_fee_18 (by decide) (fun c_5 => ?_) (fun c_5 => ?_)
  · refine lv_aload_n hx hb dL_fee_25 rfl (lv_at hl 1 rfl) ?_
    refine lv_iload_n hx hb dL_fee_26 rfl (lv_at hl 3 rfl) ?_
    refine kz_rdS (As := [.ref nq, .int (nI j)]) (rest := []) ⟨hx, hb, hml, hown, hts⟩ (c_L_size l G nq zq j (by omega)) (va_cwS 2 hts gL_fee_L_size rfl rfl rfl (by decide +kernel) ⟨Nat.le_of_ble_eq_true rfl, Nat.le_of_ble_eq_true rfl⟩) hK (hP.sub (cs := [[(nq, .inl (G.2.1, 64, .inl zq))]]) [0] rfl) rfl hl.1 rfl (Nat.le_of_ble_eq_true rfl) dL_fee_27 ⟨Nat.le_of_ble_eq_true rfl, Nat.le_of_ble_eq_true rfl⟩ ?_
    refine lv_iconst (v := 1) hx hb dL_fee_30 (by decide +kernel) ?_
    refine lv_iadd hx hb dL_fee_31 ?_
    refine lv_aload_n hx hb dL_fee_32 rfl (lv_at hl 2 rfl) ?_
    refine lv_iconst (v := 2) hx hb dL_fee_33 (by decide +kernel) ?_
    refine va_iald (f := zt) hx hb hK.1 hP 1 0 rfl rfl (vp_in_nI (n := 2) (N := 10) (by decide) (by decide)) dL_fee_34 ?_
    refine lv_topi (fun y_6 ey_7 => ?_)
    obtain rfl : y_6 = (zt 2) := by rw [ey_7]; rfl
    refine lv_imul hx hb dL_fee_35 ?_
    refine lv_iload hx hb dL_fee_36 (lv_at hl 0 rfl) ?_
    refine lv_imul hx hb dL_fee_38 ?_
    subst hQ
    exact W.iret (v := ((((L_size_r zq j) + 1) * (zt 2)) * ((dy - ((zq j) / 1000)) - (zt 1)))) hx hb hr (fun t ht _ => ⟨((((L_size_r zq j) + 1) * (zt 2)) * ((dy - ((zq j) / 1000)) - (zt 1))), rfl, (by rw [L_fee_r, if_pos c_5]), ht⟩) (fun _ h9 => absurd h9 List.not_mem_nil) dL_fee_39
  · refine lv_iconst (v := 0) hx hb dL_fee_21 (by decide +kernel) ?_
    refine lv_goto (tgt := 39) hx hb dL_fee_22 (by decide) ?_
    subst hQ
    exact W.iret (v := 0) hx hb hr (fun t ht _ => ⟨0, rfl, (by rw [L_fee_r, if_neg c_5]), ht⟩) (fun _ h9 => absurd h9 List.not_mem_nil) dL_fee_39
def L_other_r (zc : Nat → Int32) (zt : Nat → Int32) (v : Int32) : Int32 := if (nI (zt 7).toNatClampNeg) = 0 then (nI (ps_lo v 10000)) else if (nI (ps_lo (v >>> 8) 6)) = 0 then (nI (ps_lo v 10000)) else (zc (ps_lo v ((zt 7).toNatClampNeg)))
set_option maxHeartbeats 4000000 in
set_option maxRecDepth 100000 in
theorem c_L_other (l : Launch) (G : kz_G) (nc : Nat) (zc : Nat → Int32) (nt : Nat) (zt : Nat → Int32) (v : Int32) (h7 : ∃ n, n ≤ 60 ∧ zt 7 = nI n) : kz_rd l G yL_other wsL_other 1 21 [.ref nc, .ref nt, .int v] [[(nc, .inl (G.2.1, 64, .inl zc))], [(nt, .inl (G.2.1, 10, .inl zt))]] (L_other_r zc zt v) := by
  refine Met.ofW (cc := cL_other) (maxL := 3) (ret := (some .int)) (by decide) rfl ?_
  intro p e s m args below meth c s₁ B hml hv
  obtain ⟨rfl, hP, hK⟩ := hv
  have hx := B.exec
  have hb := B.bytes
  have hr := B.returns
  have hts := atoms_spec (ws := wsL_other) B.pre
  have hown : s.vm.findClass RL = some m.cls := findClass_of_methodNamed B.named
  have hlocks := B.notSynchronized
  have hl := lv_entry ([.ref nc, .ref nt, .int v]) (n := 3) (Nat.le_of_ble_eq_true rfl)
  rw [lg_entry_eq]
  generalize (lg_sl ([.ref nc, .ref nt, .int v]) ++ List.replicate (3 - (lg_sl ([.ref nc, .ref nt, .int v])).length) Slot.unset).toArray = ls at hl ⊢
  have hl : lv_has ls 3 [(0, .ref nc), (1, .ref nt), (2, .int v)] := hl
  refine kz_start (fun QQ hQ => ?_)
  obtain ⟨e7, hn7⟩ := ps_self (by decide) h7
  refine lv_aload_n hx hb dL_other_0 rfl (lv_at hl 1 rfl) ?_
  refine lv_bipush (v := 7) hx hb dL_other_1 (by decide +kernel) ?_
  refine va_iald (f := zt) hx hb hK.1 hP 1 0 rfl rfl (vp_in_nI (n := 7) (N := 10) (by decide) (by decide)) dL_other_3 ?_
  refine lv_topi (fun y_1 ey_2 => ?_)
  obtain rfl : y_1 = (nI (zt 7).toNatClampNeg) := by rw [ey_2]; exact (show (zt 7) = (nI (zt 7).toNatClampNeg) from e7)
  refine lv_if_eq (tgt := 19) hx hb dL_other_4 (by decide) (fun c_3 => ?_) (fun c_3 => ?_)
  · refine lv_iload_n hx hb dL_other_19 rfl (lv_at hl 2 rfl) ?_
    refine lv_sipush (v := 10000) hx hb dL_other_20 (by decide +kernel) ?_
    refine kz_rdS (As := [.int v, .int 10000]) (rest := []) ⟨hx, hb, hml, hown, hts⟩ (c_L_low l G v 10000 (by omega) (by omega)) (va_cwS 2 hts gL_other_L_low rfl rfl rfl (by decide +kernel) ⟨Nat.le_of_ble_eq_true rfl, Nat.le_of_ble_eq_true rfl⟩) hK (hP.sub (cs := []) [] rfl) rfl hl.1 rfl (Nat.le_of_ble_eq_true rfl) dL_other_23 ⟨Nat.le_of_ble_eq_true rfl, Nat.le_of_ble_eq_true rfl⟩ ?_
    refine lv_goto (tgt := 39) hx hb dL_other_26 (by decide) ?_
    subst hQ
    exact W.iret (v := (nI (ps_lo v 10000))) hx hb hr (fun t ht _ => ⟨(nI (ps_lo v 10000)), rfl, (by rw [L_other_r, if_pos c_3]), ht⟩) (fun _ h9 => absurd h9 List.not_mem_nil) dL_other_39
  · have h0 := ps_nz c_3
    refine lv_iload_n hx hb dL_other_7 rfl (lv_at hl 2 rfl) ?_
    refine lv_bipush (v := 8) hx hb dL_other_8 (by decide +kernel) ?_
    refine lv_ishr hx hb dL_other_10 ?_
    refine lv_bipush (v := 6) hx hb dL_other_11 (by decide +kernel) ?_
    refine kz_rdS (As := [.int (v >>> 8), .int 6]) (rest := []) ⟨hx, hb, hml, hown, hts⟩ (c_L_low l G (v >>> 8) 6 (by omega) (by omega)) (va_cwS 2 hts gL_other_L_low rfl rfl rfl (by decide +kernel) ⟨Nat.le_of_ble_eq_true rfl, Nat.le_of_ble_eq_true rfl⟩) hK (hP.sub (cs := []) [] rfl) rfl hl.1 rfl (Nat.le_of_ble_eq_true rfl) dL_other_13 ⟨Nat.le_of_ble_eq_true rfl, Nat.le_of_ble_eq_true rfl⟩ ?_
    refine lv_if_ne (tgt := 29) hx hb dL_other_16 (by decide) (fun c_4 => ?_) (fun c_4 => ?_)
    · refine lv_aload_n hx hb dL_other_29 rfl (lv_at hl 0 rfl) ?_
      refine lv_iload_n hx hb dL_other_30 rfl (lv_at hl 2 rfl) ?_
      refine lv_aload_n hx hb dL_other_31 rfl (lv_at hl 1 rfl) ?_
      refine lv_bipush (v := 7) hx hb dL_other_32 (by decide +kernel) ?_
      refine va_iald (f := zt) hx hb hK.1 hP 1 0 rfl rfl (vp_in_nI (n := 7) (N := 10) (by decide) (by decide)) dL_other_34 ?_
      refine lv_topi (fun y_5 ey_6 => ?_)
      obtain rfl : y_5 = (nI (zt 7).toNatClampNeg) := by rw [ey_6]; exact (show (zt 7) = (nI (zt 7).toNatClampNeg) from e7)
      refine kz_rdS (As := [.int v, .int (nI (zt 7).toNatClampNeg)]) (rest := [.ref nc]) ⟨hx, hb, hml, hown, hts⟩ (c_L_low l G v ((zt 7).toNatClampNeg) (by omega) (by omega)) (va_cwS 2 hts gL_other_L_low rfl rfl rfl (by decide +kernel) ⟨Nat.le_of_ble_eq_true rfl, Nat.le_of_ble_eq_true rfl⟩) hK (hP.sub (cs := []) [] rfl) rfl hl.1 rfl (Nat.le_of_ble_eq_true rfl) dL_other_35 ⟨Nat.le_of_ble_eq_true rfl, Nat.le_of_ble_eq_true rfl⟩ ?_
      have hlo := ps_lo_lt (v := v) (n := (zt 7).toNatClampNeg) (by omega)
      refine va_iald (f := zc) hx hb hK.1 hP 0 0 rfl rfl (vp_in_nI (n := (ps_lo v ((zt 7).toNatClampNeg))) (N := 64) (by omega) (by decide)) dL_other_38 ?_
      refine lv_topi (fun y_7 ey_8 => ?_)
      obtain rfl : y_7 = (zc (ps_lo v ((zt 7).toNatClampNeg))) := by rw [ey_8, kz_nI_clamp (n := (ps_lo v ((zt 7).toNatClampNeg))) (by omega)]
      subst hQ
      exact W.iret (v := (zc (ps_lo v ((zt 7).toNatClampNeg)))) hx hb hr (fun t ht _ => ⟨(zc (ps_lo v ((zt 7).toNatClampNeg))), rfl, (by rw [L_other_r, if_neg c_3, if_neg c_4]), ht⟩) (fun _ h9 => absurd h9 List.not_mem_nil) dL_other_39
    · refine lv_iload_n hx hb dL_other_19 rfl (lv_at hl 2 rfl) ?_
      refine lv_sipush (v := 10000) hx hb dL_other_20 (by decide +kernel) ?_
      refine kz_rdS (As := [.int v, .int 10000]) (rest := []) ⟨hx, hb, hml, hown, hts⟩ (c_L_low l G v 10000 (by omega) (by omega)) (va_cwS 2 hts gL_other_L_low rfl rfl rfl (by decide +kernel) ⟨Nat.le_of_ble_eq_true rfl, Nat.le_of_ble_eq_true rfl⟩) hK (hP.sub (cs := []) [] rfl) rfl hl.1 rfl (Nat.le_of_ble_eq_true rfl) dL_other_23 ⟨Nat.le_of_ble_eq_true rfl, Nat.le_of_ble_eq_true rfl⟩ ?_
      refine lv_goto (tgt := 39) hx hb dL_other_26 (by decide) ?_
      subst hQ
      exact W.iret (v := (nI (ps_lo v 10000))) hx hb hr (fun t ht _ => ⟨(nI (ps_lo v 10000)), rfl, (by rw [L_other_r, if_neg c_3, if_pos c_4]), ht⟩) (fun _ h9 => absurd h9 List.not_mem_nil) dL_other_39
