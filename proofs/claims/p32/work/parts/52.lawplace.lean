abbrev L_plT (zp zt : Nat → Int32) (k : Nat) : Prop := ¬ L_on_r zp zt (nI k) < 0
abbrev L_plZ (zl zv zt : Nat → Int32) (k : Nat) : Prop := ¬ L_until_r zl zv zt (nI (ps_cd ((zt 5).toNatClampNeg % 7 + 1) k)) ≤ nI (zt 5).toNatClampNeg
def L_place_r (zp zl zv zt : Nat → Int32) (a0 b0 : Nat) : Int32 := ps_sc (L_plT zp zt) (L_plZ zl zv zt) (8 * a0) (8 * (b0 + 1) - 8 * a0)
set_option maxHeartbeats 4000000 in
set_option maxRecDepth 100000 in
theorem c_L_place (l : Launch) (G : kz_G) (np : Nat) (zp : Nat → Int32) (nl : Nat) (zl : Nat → Int32) (nv : Nat) (zv : Nat → Int32) (nt : Nat) (zt : Nat → Int32) (a0 : Nat) (b0 : Nat) (h7 : ∃ n, n ≤ 60 ∧ zt 7 = nI n) (h8 : ∃ n, n ≤ 60 ∧ zt 8 = nI n) (h5 : ∃ d, d < 2 ^ 30 ∧ zt 5 = nI d) (hab : a0 ≤ b0) (hb0 : b0 < 6) : kz_rd l G yL_place wsL_place 2 46 [.ref np, .ref nl, .ref nv, .ref nt, .int (nI a0), .int (nI b0)] [[(np, .inl (G.2.1, 64, .inl zp))], [(nl, .inl (G.2.1, 64, .inl zl))], [(nv, .inl (G.2.1, 64, .inl zv))], [(nt, .inl (G.2.1, 10, .inl zt))]] (L_place_r zp zl zv zt a0 b0) := by
  refine Met.ofW (cc := cL_place) (maxL := 9) (ret := (some .int)) (by decide) rfl ?_
  intro p e s m args below meth c s₁ B hml hv
  obtain ⟨rfl, hP, hK⟩ := hv
  have hx := B.exec
  have hb := B.bytes
  have hr := B.returns
  have hts := atoms_spec (ws := wsL_place) B.pre
  have hown : s.vm.findClass RL = some m.cls := findClass_of_methodNamed B.named
  have hlocks := B.notSynchronized
  have hl := lv_entry ([.ref np, .ref nl, .ref nv, .ref nt, .int (nI a0), .int (nI b0)]) (n := 9) (Nat.le_of_ble_eq_true rfl)
  rw [lg_entry_eq]
  generalize (lg_sl ([.ref np, .ref nl, .ref nv, .ref nt, .int (nI a0), .int (nI b0)]) ++ List.replicate (9 - (lg_sl ([.ref np, .ref nl, .ref nv, .ref nt, .int (nI a0), .int (nI b0)])).length) Slot.unset).toArray = ls at hl ⊢
  have hl : lv_has ls 9 [(0, .ref np), (1, .ref nl), (2, .ref nv), (3, .ref nt), (4, .int (nI a0)), (5, .int (nI b0))] := hl
  refine kz_start (fun QQ hQ => ?_)
  obtain ⟨e5, hn5⟩ := ps_self (N := 2 ^ 30 - 1) (by decide) (by obtain ⟨d, hd, e⟩ := h5; exact ⟨d, by omega, e⟩)
  refine lv_bipush (v := (-6)) hx hb dL_place_0 (by decide +kernel) ?_
  refine lv_istore (lv' := [(6, .int (-6)), (0, .ref np), (1, .ref nl), (2, .ref nv), (3, .ref nt), (4, .int (nI a0)), (5, .int (nI b0))]) hx hb dL_place_2 hl (by decide) rfl (fun ls hl => ?_)
  refine lv_bipush (v := 8) hx hb dL_place_4 (by decide +kernel) ?_
  refine lv_iload hx hb dL_place_6 (lv_at hl 6 rfl) ?_
  refine lv_imul hx hb dL_place_8 ?_
  refine lv_topi (fun y_1 ey_2 => ?_)
  obtain rfl : y_1 = (nI (8 * b0)) := by rw [ey_2]; exact pk_mul 8 b0
  refine lv_bipush (v := 7) hx hb dL_place_9 (by decide +kernel) ?_
  refine lv_iadd hx hb dL_place_11 ?_
  refine lv_topi (fun y_3 ey_4 => ?_)
  obtain rfl : y_3 = (nI (8 * (b0 + 1)) - 1) := by rw [ey_4]; rw [show 8 * (b0 + 1) = 8 * b0 + 7 + 1 by omega, nI_pred]; exact nI_add _ 7
  refine lv_istore (lv' := [(7, .int (nI (8 * (b0 + 1)) - 1)), (6, .int (-6)), (0, .ref np), (1, .ref nl), (2, .ref nv), (3, .ref nt), (4, .int (nI a0)), (5, .int (nI b0))]) hx hb dL_place_12 hl (by decide) rfl (fun ls hl => ?_)
  have L14_5 : ∀ (n14 : Nat) (j : Nat) (x : Int32), (j < n14) → (8 * a0 ≤ j) → (j ≤ 8 * (b0 + 1)) → (x = ps_sc (L_plT zp zt) (L_plZ zl zv zt) j (8 * (b0 + 1) - j)) → ∀ ls : Array Slot, lv_has ls 9 [(7, .int (nI j - 1)), (6, .int x), (0, .ref np), (1, .ref nl), (2, .ref nv), (3, .ref nt), (4, .int (nI a0)), (5, .int (nI b0))] → W p l e (headSpec wsL_place (kz_rm 2 46)).room s m ([.ref np, .ref nl, .ref nv, .ref nt, .int (nI a0), .int (nI b0)] : List Value).toArray below meth c s.heap [] 0 0 QQ (F0 m 14 ls []) := by
    intro n14
    induction n14 with
    | zero => intro j x h0; exact absurd h0 (Nat.not_lt_zero _)
    | succ n14 ih14_6 =>
      intro j x hmeas14 hj1 hj2 hx0 ls hl
      refine lv_iload hx hb dL_place_14 (lv_at hl 0 rfl) ?_
      refine lv_bipush (v := 8) hx hb dL_place_16 (by decide +kernel) ?_
      refine lv_iload hx hb dL_place_18 (lv_at hl 6 rfl) ?_
      refine lv_imul hx hb dL_place_20 ?_
      refine lv_topi (fun y_7 ey_8 => ?_)
      obtain rfl : y_7 = (nI (8 * a0)) := by rw [ey_8]; exact pk_mul 8 a0
      refine lv_icmp_lt (tgt := 96) hx hb dL_place_21 (by decide) (fun c_9 => ?_) (fun c_9 => ?_)
      · have hle := ps_jlt (by omega) (by omega) c_9
        refine lv_iload hx hb dL_place_96 (lv_at hl 1 rfl) ?_
        subst hQ
        exact W.iret (v := x) hx hb hr (fun t ht _ => ⟨x, rfl, (by obtain rfl : j = 8 * a0 := (by omega); exact hx0), ht⟩) (fun _ h9 => absurd h9 List.not_mem_nil) dL_place_98
      · have hge := ps_jge (by omega) (by omega) c_9
        obtain ⟨k, rfl⟩ : ∃ k, j = k + 1 := ⟨j - 1, by omega⟩
        have hl : lv_has ls 9 [(7, .int (nI k)), (6, .int x), (0, .ref np), (1, .ref nl), (2, .ref nv), (3, .ref nt), (4, .int (nI a0)), (5, .int (nI b0))] := by rw [nI_pred] at hl; exact hl
        refine lv_aload_n hx hb dL_place_24 rfl (lv_at hl 3 rfl) ?_
        refine lv_aload_n hx hb dL_place_25 rfl (lv_at hl 4 rfl) ?_
        refine lv_aload_n hx hb dL_place_26 rfl (lv_at hl 5 rfl) ?_
        refine lv_aload_n hx hb dL_place_27 rfl (lv_at hl 5 rfl) ?_
        refine lv_iconst (v := 5) hx hb dL_place_28 (by decide +kernel) ?_
        refine va_iald (f := zt) hx hb hK.1 hP 3 0 rfl rfl (vp_in_nI (n := 5) (N := 10) (by decide) (by decide)) dL_place_29 ?_
        refine lv_topi (fun y_10 ey_11 => ?_)
        obtain rfl : y_10 = (nI (zt 5).toNatClampNeg) := by rw [ey_11]; exact (show (zt 5) = (nI (zt 5).toNatClampNeg) from e5)
        refine lv_iload hx hb dL_place_30 (lv_at hl 0 rfl) ?_
        refine kz_rdS (As := [.int (nI (zt 5).toNatClampNeg), .int (nI k)]) (rest := [.ref nt, .ref nv, .ref nl]) ⟨hx, hb, hml, hown, hts⟩ (c_L_code l G ((zt 5).toNatClampNeg) k (by omega) (by omega)) (va_cwS 2 hts gL_place_L_code rfl rfl rfl (by decide +kernel) ⟨Nat.le_of_ble_eq_true rfl, Nat.le_of_ble_eq_true rfl⟩) hK (hP.sub (cs := []) [] rfl) rfl hl.1 rfl (Nat.le_of_ble_eq_true rfl) dL_place_32 ⟨Nat.le_of_ble_eq_true rfl, Nat.le_of_ble_eq_true rfl⟩ ?_
        refine kz_rdS (As := [.ref nl, .ref nv, .ref nt, .int (nI (ps_cd (((zt 5).toNatClampNeg) % 7 + 1) k))]) (rest := []) ⟨hx, hb, hml, hown, hts⟩ (c_L_until l G nl zl nv zv nt zt (nI (ps_cd (((zt 5).toNatClampNeg) % 7 + 1) k)) (by assumption)) (va_cwS 4 hts gL_place_L_until rfl rfl rfl (by decide +kernel) ⟨Nat.le_of_ble_eq_true rfl, Nat.le_of_ble_eq_true rfl⟩) hK (hP.sub (cs := [[(nl, .inl (G.2.1, 64, .inl zl))], [(nv, .inl (G.2.1, 64, .inl zv))], [(nt, .inl (G.2.1, 10, .inl zt))]]) [1, 2, 3] rfl) rfl hl.1 rfl (Nat.le_of_ble_eq_true rfl) dL_place_35 ⟨Nat.le_of_ble_eq_true rfl, Nat.le_of_ble_eq_true rfl⟩ ?_
        refine lv_aload_n hx hb dL_place_38 rfl (lv_at hl 5 rfl) ?_
        refine lv_iconst (v := 5) hx hb dL_place_39 (by decide +kernel) ?_
        refine va_iald (f := zt) hx hb hK.1 hP 3 0 rfl rfl (vp_in_nI (n := 5) (N := 10) (by decide) (by decide)) dL_place_40 ?_
        refine lv_topi (fun y_12 ey_13 => ?_)
        obtain rfl : y_12 = (nI (zt 5).toNatClampNeg) := by rw [ey_13]; exact (show (zt 5) = (nI (zt 5).toNatClampNeg) from e5)
        refine lv_icmp_le (tgt := 48) hx hb dL_place_41 (by decide) (fun c_14 => ?_) (fun c_14 => ?_)
        · refine lv_iconst (v := 0) hx hb dL_place_48 (by decide +kernel) ?_
          refine lv_istore (lv' := [(8, .int 0), (7, .int (nI k)), (6, .int x), (0, .ref np), (1, .ref nl), (2, .ref nv), (3, .ref nt), (4, .int (nI a0)), (5, .int (nI b0))]) hx hb dL_place_49 hl (by decide) rfl (fun ls hl => ?_)
          refine lv_aload_n hx hb dL_place_51 rfl (lv_at hl 3 rfl) ?_
          refine lv_aload_n hx hb dL_place_52 rfl (lv_at hl 6 rfl) ?_
          refine lv_iload hx hb dL_place_53 (lv_at hl 1 rfl) ?_
          refine kz_rdS (As := [.ref np, .ref nt, .int (nI k)]) (rest := []) ⟨hx, hb, hml, hown, hts⟩ (c_L_on l G np zp nt zt (nI k) (by assumption)) (va_cwS 3 hts gL_place_L_on rfl rfl rfl (by decide +kernel) ⟨Nat.le_of_ble_eq_true rfl, Nat.le_of_ble_eq_true rfl⟩) hK (hP.sub (cs := [[(np, .inl (G.2.1, 64, .inl zp))], [(nt, .inl (G.2.1, 10, .inl zt))]]) [0, 3] rfl) rfl hl.1 rfl (Nat.le_of_ble_eq_true rfl) dL_place_55 ⟨Nat.le_of_ble_eq_true rfl, Nat.le_of_ble_eq_true rfl⟩ ?_
          refine lv_if_lt (tgt := 66) hx hb dL_place_58 (by decide) (fun c_15 => ?_) (fun c_15 => ?_)
          · refine lv_iload hx hb dL_place_66 (lv_at hl 0 rfl) ?_
            refine lv_if_ne (tgt := 76) hx hb dL_place_68 (by decide) (fun c => absurd c (by decide)) (fun _ => ?_)
            refine lv_iload hx hb dL_place_71 (lv_at hl 1 rfl) ?_
            refine lv_goto (tgt := 88) hx hb dL_place_73 (by decide) ?_
            refine lv_istore (lv' := [(6, .int (nI k)), (8, .int 0), (7, .int (nI k)), (0, .ref np), (1, .ref nl), (2, .ref nv), (3, .ref nt), (4, .int (nI a0)), (5, .int (nI b0))]) hx hb dL_place_88 hl (by decide) rfl (fun ls hl => ?_)
            refine lv_iinc (v := ((nI k) - 1)) (lv' := [(7, .int ((nI k) - 1)), (6, .int (nI k)), (8, .int 0), (0, .ref np), (1, .ref nl), (2, .ref nv), (3, .ref nt), (4, .int (nI a0)), (5, .int (nI b0))]) hx hb dL_place_90 hl (k := 2) rfl (ps_dec _) (by decide) rfl (fun ls hl => ?_)
            refine lv_goto (tgt := 14) hx hb dL_place_93 (by decide) ?_
            exact ih14_6 k (nI k) (by omega) (by omega) (by omega) (ps_sc_N (E := 8 * (b0 + 1)) (by omega) hx0 (fun q => q c_15) (fun q => q c_14)) ls (lv_sub hl [0, 1, 3, 4, 5, 6, 7, 8] rfl)
          · refine lv_iload hx hb dL_place_61 (lv_at hl 2 rfl) ?_
            refine lv_goto (tgt := 88) hx hb dL_place_63 (by decide) ?_
            refine lv_istore (lv' := [(6, .int x), (8, .int 0), (7, .int (nI k)), (0, .ref np), (1, .ref nl), (2, .ref nv), (3, .ref nt), (4, .int (nI a0)), (5, .int (nI b0))]) hx hb dL_place_88 hl (by decide) rfl (fun ls hl => ?_)
            refine lv_iinc (v := ((nI k) - 1)) (lv' := [(7, .int ((nI k) - 1)), (6, .int x), (8, .int 0), (0, .ref np), (1, .ref nl), (2, .ref nv), (3, .ref nt), (4, .int (nI a0)), (5, .int (nI b0))]) hx hb dL_place_90 hl (k := 2) rfl (ps_dec _) (by decide) rfl (fun ls hl => ?_)
            refine lv_goto (tgt := 14) hx hb dL_place_93 (by decide) ?_
            exact ih14_6 k x (by omega) (by omega) (by omega) (ps_sc_T (E := 8 * (b0 + 1)) (by omega) hx0 c_15) ls (lv_sub hl [0, 1, 3, 4, 5, 6, 7, 8] rfl)
        · refine lv_iconst (v := 1) hx hb dL_place_44 (by decide +kernel) ?_
          refine lv_goto (tgt := 49) hx hb dL_place_45 (by decide) ?_
          refine lv_istore (lv' := [(8, .int 1), (7, .int (nI k)), (6, .int x), (0, .ref np), (1, .ref nl), (2, .ref nv), (3, .ref nt), (4, .int (nI a0)), (5, .int (nI b0))]) hx hb dL_place_49 hl (by decide) rfl (fun ls hl => ?_)
          refine lv_aload_n hx hb dL_place_51 rfl (lv_at hl 3 rfl) ?_
          refine lv_aload_n hx hb dL_place_52 rfl (lv_at hl 6 rfl) ?_
          refine lv_iload hx hb dL_place_53 (lv_at hl 1 rfl) ?_
          refine kz_rdS (As := [.ref np, .ref nt, .int (nI k)]) (rest := []) ⟨hx, hb, hml, hown, hts⟩ (c_L_on l G np zp nt zt (nI k) (by assumption)) (va_cwS 3 hts gL_place_L_on rfl rfl rfl (by decide +kernel) ⟨Nat.le_of_ble_eq_true rfl, Nat.le_of_ble_eq_true rfl⟩) hK (hP.sub (cs := [[(np, .inl (G.2.1, 64, .inl zp))], [(nt, .inl (G.2.1, 10, .inl zt))]]) [0, 3] rfl) rfl hl.1 rfl (Nat.le_of_ble_eq_true rfl) dL_place_55 ⟨Nat.le_of_ble_eq_true rfl, Nat.le_of_ble_eq_true rfl⟩ ?_
          refine lv_if_lt (tgt := 66) hx hb dL_place_58 (by decide) (fun c_16 => ?_) (fun c_16 => ?_)
          · refine lv_iload hx hb dL_place_66 (lv_at hl 0 rfl) ?_
            refine lv_if_ne (tgt := 76) hx hb dL_place_68 (by decide) (fun _ => ?_) (fun c => absurd c (by decide))
            refine lv_iload hx hb dL_place_76 (lv_at hl 2 rfl) ?_
            refine lv_if_ge (tgt := 86) hx hb dL_place_78 (by decide) (fun c_17 => ?_) (fun c_17 => ?_)
            · refine lv_iload hx hb dL_place_86 (lv_at hl 2 rfl) ?_
              refine lv_istore (lv' := [(6, .int x), (8, .int 1), (7, .int (nI k)), (0, .ref np), (1, .ref nl), (2, .ref nv), (3, .ref nt), (4, .int (nI a0)), (5, .int (nI b0))]) hx hb dL_place_88 hl (by decide) rfl (fun ls hl => ?_)
              refine lv_iinc (v := ((nI k) - 1)) (lv' := [(7, .int ((nI k) - 1)), (6, .int x), (8, .int 1), (0, .ref np), (1, .ref nl), (2, .ref nv), (3, .ref nt), (4, .int (nI a0)), (5, .int (nI b0))]) hx hb dL_place_90 hl (k := 2) rfl (ps_dec _) (by decide) rfl (fun ls hl => ?_)
              refine lv_goto (tgt := 14) hx hb dL_place_93 (by decide) ?_
              exact ih14_6 k x (by omega) (by omega) (by omega) (ps_sc_K (E := 8 * (b0 + 1)) (by omega) hx0 (fun q => q c_16) c_14 c_17) ls (lv_sub hl [0, 1, 3, 4, 5, 6, 7, 8] rfl)
            · refine lv_bipush (v := (-5)) hx hb dL_place_81 (by decide +kernel) ?_
              refine lv_goto (tgt := 88) hx hb dL_place_83 (by decide) ?_
              refine lv_istore (lv' := [(6, .int (-5)), (8, .int 1), (7, .int (nI k)), (0, .ref np), (1, .ref nl), (2, .ref nv), (3, .ref nt), (4, .int (nI a0)), (5, .int (nI b0))]) hx hb dL_place_88 hl (by decide) rfl (fun ls hl => ?_)
              refine lv_iinc (v := ((nI k) - 1)) (lv' := [(7, .int ((nI k) - 1)), (6, .int (-5)), (8, .int 1), (0, .ref np), (1, .ref nl), (2, .ref nv), (3, .ref nt), (4, .int (nI a0)), (5, .int (nI b0))]) hx hb dL_place_90 hl (k := 2) rfl (ps_dec _) (by decide) rfl (fun ls hl => ?_)
              refine lv_goto (tgt := 14) hx hb dL_place_93 (by decide) ?_
              exact ih14_6 k (-5) (by omega) (by omega) (by omega) (ps_sc_Z (E := 8 * (b0 + 1)) (by omega) hx0 (fun q => q c_16) c_14 c_17) ls (lv_sub hl [0, 1, 3, 4, 5, 6, 7, 8] rfl)
          · refine lv_iload hx hb dL_place_61 (lv_at hl 2 rfl) ?_
            refine lv_goto (tgt := 88) hx hb dL_place_63 (by decide) ?_
            refine lv_istore (lv' := [(6, .int x), (8, .int 1), (7, .int (nI k)), (0, .ref np), (1, .ref nl), (2, .ref nv), (3, .ref nt), (4, .int (nI a0)), (5, .int (nI b0))]) hx hb dL_place_88 hl (by decide) rfl (fun ls hl => ?_)
            refine lv_iinc (v := ((nI k) - 1)) (lv' := [(7, .int ((nI k) - 1)), (6, .int x), (8, .int 1), (0, .ref np), (1, .ref nl), (2, .ref nv), (3, .ref nt), (4, .int (nI a0)), (5, .int (nI b0))]) hx hb dL_place_90 hl (k := 2) rfl (ps_dec _) (by decide) rfl (fun ls hl => ?_)
            refine lv_goto (tgt := 14) hx hb dL_place_93 (by decide) ?_
            exact ih14_6 k x (by omega) (by omega) (by omega) (ps_sc_T (E := 8 * (b0 + 1)) (by omega) hx0 c_16) ls (lv_sub hl [0, 1, 3, 4, 5, 6, 7, 8] rfl)
  exact L14_5 _ (8 * (b0 + 1)) (-6) (Nat.lt_succ_self _) (by omega) (Nat.le_refl _) (by rw [Nat.sub_self]; rfl) ls (lv_sub hl [0, 1, 2, 3, 4, 5, 6, 7] rfl)
def L_leaves_s0 (zp : Nat → Int32) (zc : Nat → Int32) (zl : Nat → Int32) (zv : Nat → Int32) (zt : Nat → Int32) (j : Nat) : Nat → Int32 := (upd zp j (-1))
def L_leaves_s2 (zp : Nat → Int32) (zc : Nat → Int32) (zl : Nat → Int32) (zv : Nat → Int32) (zt : Nat → Int32) (j : Nat) : Nat → Int32 := (upd zl ((zt 8).toNatClampNeg) (zc j))
def L_leaves_s3 (zp : Nat → Int32) (zc : Nat → Int32) (zl : Nat → Int32) (zv : Nat → Int32) (zt : Nat → Int32) (j : Nat) : Nat → Int32 := (upd zv ((zt 8).toNatClampNeg) (zt 5))
def L_leaves_s4 (zp : Nat → Int32) (zc : Nat → Int32) (zl : Nat → Int32) (zv : Nat → Int32) (zt : Nat → Int32) (j : Nat) : Nat → Int32 := (upd zt 8 ((zt 8) + 1))
set_option maxHeartbeats 4000000 in
set_option maxRecDepth 100000 in
theorem c_L_leaves (l : Launch) (G : kz_G) (np : Nat) (zp : Nat → Int32) (nc : Nat) (zc : Nat → Int32) (nl : Nat) (zl : Nat → Int32) (nv : Nat) (zv : Nat → Int32) (nt : Nat) (zt : Nat → Int32) (j : Nat) (hj : j < 64) (h8 : ∃ n, n < 64 ∧ zt 8 = nI n) : kz_mv l G yL_leaves wsL_leaves 0 0 [.ref np, .ref nc, .ref nl, .ref nv, .ref nt, .int (nI j)] [[(np, .inl (G.2.1, 64, .inl zp))], [(nc, .inl (G.2.1, 64, .inl zc))], [(nl, .inl (G.2.1, 64, .inl zl))], [(nv, .inl (G.2.1, 64, .inl zv))], [(nt, .inl (G.2.1, 10, .inl zt))]] [[(np, .inl (G.2.1, 64, .inl (L_leaves_s0 zp zc zl zv zt j)))], [(nc, .inl (G.2.1, 64, .inl zc))], [(nl, .inl (G.2.1, 64, .inl (L_leaves_s2 zp zc zl zv zt j)))], [(nv, .inl (G.2.1, 64, .inl (L_leaves_s3 zp zc zl zv zt j)))], [(nt, .inl (G.2.1, 10, .inl (L_leaves_s4 zp zc zl zv zt j)))]] := by
  intro sz
  refine Met.ofW (cc := cL_leaves) (maxL := 6) (ret := none) (by decide) rfl ?_
  intro p e s m args below meth c s₁ B hml hv
  obtain ⟨rfl, hsz, hP, hK, hD0⟩ := hv
  have hx := B.exec
  have hb := B.bytes
  have hr := B.returns
  have hts := atoms_spec (ws := wsL_leaves) B.pre
  have hown : s.vm.findClass RL = some m.cls := findClass_of_methodNamed B.named
  have hlocks := B.notSynchronized
  subst hsz
  have hD := hD0.self (sz := s.heap.size)
  generalize hAe : kz_A [[(np, .inl (G.2.1, 64, .inl zp))], [(nc, .inl (G.2.1, 64, .inl zc))], [(nl, .inl (G.2.1, 64, .inl zl))], [(nv, .inl (G.2.1, 64, .inl zv))], [(nt, .inl (G.2.1, 10, .inl zt))]] s.heap.size = A at hD ⊢
  have hA : ∀ q : Nat, s.heap.size ≤ q → A q := fun q h => by rw [← hAe]; exact Or.inr h
  have hS : va_S A s.heap s.heap [] := va_S.rf
  have hl := lv_entry ([.ref np, .ref nc, .ref nl, .ref nv, .ref nt, .int (nI j)]) (n := 6) (Nat.le_of_ble_eq_true rfl)
  rw [lg_entry_eq]
  generalize (lg_sl ([.ref np, .ref nc, .ref nl, .ref nv, .ref nt, .int (nI j)]) ++ List.replicate (6 - (lg_sl ([.ref np, .ref nc, .ref nl, .ref nv, .ref nt, .int (nI j)])).length) Slot.unset).toArray = ls at hl ⊢
  have hl : lv_has ls 6 [(0, .ref np), (1, .ref nc), (2, .ref nl), (3, .ref nv), (4, .ref nt), (5, .int (nI j))] := hl
  refine kz_start (fun QQ hQ => ?_)
  have hP : kz_P G [[(np, .inl (G.2.1, 64, .inl zp))], [(nc, .inl (G.2.1, 64, .inl zc))], [(nl, .inl (G.2.1, 64, .inl zl))], [(nv, .inl (G.2.1, 64, .inl zv))], [(nt, .inl (G.2.1, 10, .inl zt))]] s.heap := hP
  refine lv_aload_n hx hb dL_leaves_0 rfl (lv_at hl 2 rfl) ?_
  refine lv_aload hx hb dL_leaves_1 (lv_at hl 4 rfl) ?_
  refine lv_bipush (v := 8) hx hb dL_leaves_3 (by decide +kernel) ?_
  refine va_iald (f := zt) hx hb hK.1 hP 4 0 rfl rfl (vp_in_nI (n := 8) (N := 10) (by decide) (by decide)) dL_leaves_5 ?_
  refine lv_topi (fun y_1 ey_2 => ?_)
  obtain rfl : y_1 = (zt 8) := by rw [ey_2]; rfl
  refine lv_aload_n hx hb dL_leaves_6 rfl (lv_at hl 1 rfl) ?_
  refine lv_iload hx hb dL_leaves_7 (lv_at hl 5 rfl) ?_
  refine va_iald (f := zc) hx hb hK.1 hP 1 0 rfl rfl (vp_in_nI (n := j) (N := 64) (by omega) (by decide)) dL_leaves_9 ?_
  refine lv_topi (fun y_3 ey_4 => ?_)
  obtain rfl : y_3 = (zc j) := by rw [ey_4, kz_nI_clamp (n := j) (by omega)]
  refine va_iast hx hb hK.1 hP hD hS 2 0 rfl rfl (ps_in (by decide) (by decide) h8) dL_leaves_10 (fun H locs hP hD hS => ?_)
  have hP : kz_P G [[(np, .inl (G.2.1, 64, .inl zp))], [(nc, .inl (G.2.1, 64, .inl zc))], [(nl, .inl (G.2.1, 64, .inl (upd zl ((zt 8).toNatClampNeg) (zc j))))], [(nv, .inl (G.2.1, 64, .inl zv))], [(nt, .inl (G.2.1, 10, .inl zt))]] H := hP
  have hD : kz_D A [[(np, .inl (G.2.1, 64, .inl zp))], [(nc, .inl (G.2.1, 64, .inl zc))], [(nl, .inl (G.2.1, 64, .inl (upd zl ((zt 8).toNatClampNeg) (zc j))))], [(nv, .inl (G.2.1, 64, .inl zv))], [(nt, .inl (G.2.1, 10, .inl zt))]] := hD
  refine lv_aload_n hx hb dL_leaves_11 rfl (lv_at hl 3 rfl) ?_
  refine lv_aload hx hb dL_leaves_12 (lv_at hl 4 rfl) ?_
  refine lv_bipush (v := 8) hx hb dL_leaves_14 (by decide +kernel) ?_
  refine va_iald (f := zt) hx hb hK.1 hP 4 0 rfl rfl (vp_in_nI (n := 8) (N := 10) (by decide) (by decide)) dL_leaves_16 ?_
  refine lv_topi (fun y_5 ey_6 => ?_)
  obtain rfl : y_5 = (zt 8) := by rw [ey_6]; rfl
  refine lv_aload hx hb dL_leaves_17 (lv_at hl 4 rfl) ?_
  refine lv_iconst (v := 5) hx hb dL_leaves_19 (by decide +kernel) ?_
  refine va_iald (f := zt) hx hb hK.1 hP 4 0 rfl rfl (vp_in_nI (n := 5) (N := 10) (by decide) (by decide)) dL_leaves_20 ?_
  refine lv_topi (fun y_7 ey_8 => ?_)
  obtain rfl : y_7 = (zt 5) := by rw [ey_8]; rfl
  refine va_iast hx hb hK.1 hP hD hS 3 0 rfl rfl (ps_in (by decide) (by decide) h8) dL_leaves_21 (fun H locs hP hD hS => ?_)
  have hP : kz_P G [[(np, .inl (G.2.1, 64, .inl zp))], [(nc, .inl (G.2.1, 64, .inl zc))], [(nl, .inl (G.2.1, 64, .inl (upd zl ((zt 8).toNatClampNeg) (zc j))))], [(nv, .inl (G.2.1, 64, .inl (upd zv ((zt 8).toNatClampNeg) (zt 5))))], [(nt, .inl (G.2.1, 10, .inl zt))]] H := hP
  have hD : kz_D A [[(np, .inl (G.2.1, 64, .inl zp))], [(nc, .inl (G.2.1, 64, .inl zc))], [(nl, .inl (G.2.1, 64, .inl (upd zl ((zt 8).toNatClampNeg) (zc j))))], [(nv, .inl (G.2.1, 64, .inl (upd zv ((zt 8).toNatClampNeg) (zt 5))))], [(nt, .inl (G.2.1, 10, .inl zt))]] := hD
  refine lv_aload hx hb dL_leaves_22 (lv_at hl 4 rfl) ?_
  refine lv_bipush (v := 8) hx hb dL_leaves_24 (by decide +kernel) ?_
  refine lv_dup2_11 hx hb dL_leaves_26 rfl rfl ?_
  refine va_iald (f := zt) hx hb hK.1 hP 4 0 rfl rfl (vp_in_nI (n := 8) (N := 10) (by decide) (by decide)) dL_leaves_27 ?_
  refine lv_topi (fun y_9 ey_10 => ?_)
  obtain rfl : y_9 = (zt 8) := by rw [ey_10]; rfl
  refine lv_iconst (v := 1) hx hb dL_leaves_28 (by decide +kernel) ?_
  refine lv_iadd hx hb dL_leaves_29 ?_
  refine va_iast hx hb hK.1 hP hD hS 4 0 rfl rfl (vp_in_nI (n := 8) (N := 10) (by decide) (by decide)) dL_leaves_30 (fun H locs hP hD hS => ?_)
  have hP : kz_P G [[(np, .inl (G.2.1, 64, .inl zp))], [(nc, .inl (G.2.1, 64, .inl zc))], [(nl, .inl (G.2.1, 64, .inl (upd zl ((zt 8).toNatClampNeg) (zc j))))], [(nv, .inl (G.2.1, 64, .inl (upd zv ((zt 8).toNatClampNeg) (zt 5))))], [(nt, .inl (G.2.1, 10, .inl (upd zt 8 ((zt 8) + 1))))]] H := hP
  have hD : kz_D A [[(np, .inl (G.2.1, 64, .inl zp))], [(nc, .inl (G.2.1, 64, .inl zc))], [(nl, .inl (G.2.1, 64, .inl (upd zl ((zt 8).toNatClampNeg) (zc j))))], [(nv, .inl (G.2.1, 64, .inl (upd zv ((zt 8).toNatClampNeg) (zt 5))))], [(nt, .inl (G.2.1, 10, .inl (upd zt 8 ((zt 8) + 1))))]] := hD
  refine lv_aload_n hx hb dL_leaves_31 rfl (lv_at hl 0 rfl) ?_
  refine lv_iload hx hb dL_leaves_32 (lv_at hl 5 rfl) ?_
  refine lv_iconst (v := (-1)) hx hb dL_leaves_34 (by decide +kernel) ?_
  refine va_iast hx hb hK.1 hP hD hS 0 0 rfl rfl (vp_in_nI (n := j) (N := 64) (by omega) (by decide)) dL_leaves_35 (fun H locs hP hD hS => ?_)
  rw [kz_nI_clamp (n := j) (by omega)] at hP hD
  have hP : kz_P G [[(np, .inl (G.2.1, 64, .inl (upd zp j (-1))))], [(nc, .inl (G.2.1, 64, .inl zc))], [(nl, .inl (G.2.1, 64, .inl (upd zl ((zt 8).toNatClampNeg) (zc j))))], [(nv, .inl (G.2.1, 64, .inl (upd zv ((zt 8).toNatClampNeg) (zt 5))))], [(nt, .inl (G.2.1, 10, .inl (upd zt 8 ((zt 8) + 1))))]] H := hP
  have hD : kz_D A [[(np, .inl (G.2.1, 64, .inl (upd zp j (-1))))], [(nc, .inl (G.2.1, 64, .inl zc))], [(nl, .inl (G.2.1, 64, .inl (upd zl ((zt 8).toNatClampNeg) (zc j))))], [(nv, .inl (G.2.1, 64, .inl (upd zv ((zt 8).toNatClampNeg) (zt 5))))], [(nt, .inl (G.2.1, 10, .inl (upd zt 8 ((zt 8) + 1))))]] := hD
  subst hQ
  have hP9 : kz_P G [[(np, .inl (G.2.1, 64, .inl (L_leaves_s0 zp zc zl zv zt j)))], [(nc, .inl (G.2.1, 64, .inl zc))], [(nl, .inl (G.2.1, 64, .inl (L_leaves_s2 zp zc zl zv zt j)))], [(nv, .inl (G.2.1, 64, .inl (L_leaves_s3 zp zc zl zv zt j)))], [(nt, .inl (G.2.1, 10, .inl (L_leaves_s4 zp zc zl zv zt j)))]] H := hP
  have hD9 : kz_D A [[(np, .inl (G.2.1, 64, .inl (L_leaves_s0 zp zc zl zv zt j)))], [(nc, .inl (G.2.1, 64, .inl zc))], [(nl, .inl (G.2.1, 64, .inl (L_leaves_s2 zp zc zl zv zt j)))], [(nv, .inl (G.2.1, 64, .inl (L_leaves_s3 zp zc zl zv zt j)))], [(nt, .inl (G.2.1, 10, .inl (L_leaves_s4 zp zc zl zv zt j)))]] := hD
  exact W.vret hx hb hr (fun t ht hW => ⟨⟨(), rfl, trivial, by rw [ht]; exact hP9, hD9⟩, hS.F ht⟩) hS.2.2 dL_leaves_36
def L_takes_r (zg : Nat → Int32) (zu : Nat → Int32) (zk : Nat → Int32) (zt : Nat → Int32) (j : Nat) (w : Int32) : Int32 := (((zg j) * w) * (zt 2))
def L_takes_s0 (zg : Nat → Int32) (zu : Nat → Int32) (zk : Nat → Int32) (zt : Nat → Int32) (j : Nat) (w : Int32) : Nat → Int32 := (upd zg j 0)
def L_takes_s1 (zg : Nat → Int32) (zu : Nat → Int32) (zk : Nat → Int32) (zt : Nat → Int32) (j : Nat) (w : Int32) : Nat → Int32 := (upd zu j ((zu j) + (((zg j) * w) * (zt 2))))
def L_takes_s2 (zg : Nat → Int32) (zu : Nat → Int32) (zk : Nat → Int32) (zt : Nat → Int32) (j : Nat) (w : Int32) : Nat → Int32 := (upd zk j ((zk j) + (zg j)))
set_option maxHeartbeats 4000000 in
set_option maxRecDepth 100000 in
theorem c_L_takes (l : Launch) (G : kz_G) (ng : Nat) (zg : Nat → Int32) (nu : Nat) (zu : Nat → Int32) (nk : Nat) (zk : Nat → Int32) (nt : Nat) (zt : Nat → Int32) (j : Nat) (w : Int32) (hj : j < 10) : kz_mi l G yL_takes wsL_takes 0 0 [.ref ng, .ref nu, .ref nk, .ref nt, .int (nI j), .int w] [[(ng, .inl (G.2.1, 10, .inl zg))], [(nu, .inl (G.2.1, 10, .inl zu))], [(nk, .inl (G.2.1, 10, .inl zk))], [(nt, .inl (G.2.1, 10, .inl zt))]] [[(ng, .inl (G.2.1, 10, .inl (L_takes_s0 zg zu zk zt j w)))], [(nu, .inl (G.2.1, 10, .inl (L_takes_s1 zg zu zk zt j w)))], [(nk, .inl (G.2.1, 10, .inl (L_takes_s2 zg zu zk zt j w)))], [(nt, .inl (G.2.1, 10, .inl zt))]] (L_takes_r zg zu zk zt j w) := by
  intro sz
  refine Met.ofW (cc := cL_takes) (maxL := 7) (ret := (some .int)) (by decide) rfl ?_
  intro p e s m args below meth c s₁ B hml hv
  obtain ⟨rfl, hsz, hP, hK, hD0⟩ := hv
  have hx := B.exec
  have hb := B.bytes
  have hr := B.returns
  have hts := atoms_spec (ws := wsL_takes) B.pre
  have hown : s.vm.findClass RL = some m.cls := findClass_of_methodNamed B.named
  have hlocks := B.notSynchronized
  subst hsz
  have hD := hD0.self (sz := s.heap.size)
  generalize hAe : kz_A [[(ng, .inl (G.2.1, 10, .inl zg))], [(nu, .inl (G.2.1, 10, .inl zu))], [(nk, .inl (G.2.1, 10, .inl zk))], [(nt, .inl (G.2.1, 10, .inl zt))]] s.heap.size = A at hD ⊢
  have hA : ∀ q : Nat, s.heap.size ≤ q → A q := fun q h => by rw [← hAe]; exact Or.inr h
  have hS : va_S A s.heap s.heap [] := va_S.rf
  have hl := lv_entry ([.ref ng, .ref nu, .ref nk, .ref nt, .int (nI j), .int w]) (n := 7) (Nat.le_of_ble_eq_true rfl)
  rw [lg_entry_eq]
  generalize (lg_sl ([.ref ng, .ref nu, .ref nk, .ref nt, .int (nI j), .int w]) ++ List.replicate (7 - (lg_sl ([.ref ng, .ref nu, .ref nk, .ref nt, .int (nI j), .int w])).length) Slot.unset).toArray = ls at hl ⊢
  have hl : lv_has ls 7 [(0, .ref ng), (1, .ref nu), (2, .ref nk), (3, .ref nt), (4, .int (nI j)), (5, .int w)] := hl
  refine kz_start (fun QQ hQ => ?_)
  have hP : kz_P G [[(ng, .inl (G.2.1, 10, .inl zg))], [(nu, .inl (G.2.1, 10, .inl zu))], [(nk, .inl (G.2.1, 10, .inl zk))], [(nt, .inl (G.2.1, 10, .inl zt))]] s.heap := hP
  refine lv_aload_n hx hb dL_takes_0 rfl (lv_at hl 0 rfl) ?_
  refine lv_iload hx hb dL_takes_1 (lv_at hl 4 rfl) ?_
  refine va_iald (f := zg) hx hb hK.1 hP 0 0 rfl rfl (vp_in_nI (n := j) (N := 10) (by omega) (by decide)) dL_takes_3 ?_
  refine lv_topi (fun y_1 ey_2 => ?_)
  obtain rfl : y_1 = (zg j) := by rw [ey_2, kz_nI_clamp (n := j) (by omega)]
  refine lv_iload hx hb dL_takes_4 (lv_at hl 5 rfl) ?_
  refine lv_imul hx hb dL_takes_6 ?_
  refine lv_aload_n hx hb dL_takes_7 rfl (lv_at hl 3 rfl) ?_
  refine lv_iconst (v := 2) hx hb dL_takes_8 (by decide +kernel) ?_
  refine va_iald (f := zt) hx hb hK.1 hP 3 0 rfl rfl (vp_in_nI (n := 2) (N := 10) (by decide) (by decide)) dL_takes_9 ?_
  refine lv_topi (fun y_3 ey_4 => ?_)
  obtain rfl : y_3 = (zt 2) := by rw [ey_4]; rfl
  refine lv_imul hx hb dL_takes_10 ?_
  refine lv_istore (lv' := [(6, .int (((zg j) * w) * (zt 2))), (0, .ref ng), (1, .ref nu), (2, .ref nk), (3, .ref nt), (4, .int (nI j)), (5, .int w)]) hx hb dL_takes_11 hl (by decide) rfl (fun ls hl => ?_)
  refine lv_aload_n hx hb dL_takes_13 rfl (lv_at hl 2 rfl) ?_
  refine lv_iload hx hb dL_takes_14 (lv_at hl 5 rfl) ?_
  refine lv_dup2_11 hx hb dL_takes_16 rfl rfl ?_
  refine va_iald (f := zu) hx hb hK.1 hP 1 0 rfl rfl (vp_in_nI (n := j) (N := 10) (by omega) (by decide)) dL_takes_17 ?_
  refine lv_topi (fun y_5 ey_6 => ?_)
  obtain rfl : y_5 = (zu j) := by rw [ey_6, kz_nI_clamp (n := j) (by omega)]
  refine lv_iload hx hb dL_takes_18 (lv_at hl 0 rfl) ?_
  refine lv_iadd hx hb dL_takes_20 ?_
  refine va_iast hx hb hK.1 hP hD hS 1 0 rfl rfl (vp_in_nI (n := j) (N := 10) (by omega) (by decide)) dL_takes_21 (fun H locs hP hD hS => ?_)
  rw [kz_nI_clamp (n := j) (by omega)] at hP hD
  have hP : kz_P G [[(ng, .inl (G.2.1, 10, .inl zg))], [(nu, .inl (G.2.1, 10, .inl (upd zu j ((zu j) + (((zg j) * w) * (zt 2))))))], [(nk, .inl (G.2.1, 10, .inl zk))], [(nt, .inl (G.2.1, 10, .inl zt))]] H := hP
  have hD : kz_D A [[(ng, .inl (G.2.1, 10, .inl zg))], [(nu, .inl (G.2.1, 10, .inl (upd zu j ((zu j) + (((zg j) * w) * (zt 2))))))], [(nk, .inl (G.2.1, 10, .inl zk))], [(nt, .inl (G.2.1, 10, .inl zt))]] := hD
  refine lv_aload_n hx hb dL_takes_22 rfl (lv_at hl 3 rfl) ?_
  refine lv_iload hx hb dL_takes_23 (lv_at hl 5 rfl) ?_
  refine lv_dup2_11 hx hb dL_takes_25 rfl rfl ?_
  refine va_iald (f := zk) hx hb hK.1 hP 2 0 rfl rfl (vp_in_nI (n := j) (N := 10) (by omega) (by decide)) dL_takes_26 ?_
  refine lv_topi (fun y_7 ey_8 => ?_)
  obtain rfl : y_7 = (zk j) := by rw [ey_8, kz_nI_clamp (n := j) (by omega)]
  refine lv_aload_n hx hb dL_takes_27 rfl (lv_at hl 1 rfl) ?_
  refine lv_iload hx hb dL_takes_28 (lv_at hl 5 rfl) ?_
  refine va_iald (f := zg) hx hb hK.1 hP 0 0 rfl rfl (vp_in_nI (n := j) (N := 10) (by omega) (by decide)) dL_takes_30 ?_
  refine lv_topi (fun y_9 ey_10 => ?_)
  obtain rfl : y_9 = (zg j) := by rw [ey_10, kz_nI_clamp (n := j) (by omega)]
  refine lv_iadd hx hb dL_takes_31 ?_
  refine va_iast hx hb hK.1 hP hD hS 2 0 rfl rfl (vp_in_nI (n := j) (N := 10) (by omega) (by decide)) dL_takes_32 (fun H locs hP hD hS => ?_)
  rw [kz_nI_clamp (n := j) (by omega)] at hP hD
  have hP : kz_P G [[(ng, .inl (G.2.1, 10, .inl zg))], [(nu, .inl (G.2.1, 10, .inl (upd zu j ((zu j) + (((zg j) * w) * (zt 2))))))], [(nk, .inl (G.2.1, 10, .inl (upd zk j ((zk j) + (zg j)))))], [(nt, .inl (G.2.1, 10, .inl zt))]] H := hP
  have hD : kz_D A [[(ng, .inl (G.2.1, 10, .inl zg))], [(nu, .inl (G.2.1, 10, .inl (upd zu j ((zu j) + (((zg j) * w) * (zt 2))))))], [(nk, .inl (G.2.1, 10, .inl (upd zk j ((zk j) + (zg j)))))], [(nt, .inl (G.2.1, 10, .inl zt))]] := hD
  refine lv_aload_n hx hb dL_takes_33 rfl (lv_at hl 1 rfl) ?_
  refine lv_iload hx hb dL_takes_34 (lv_at hl 5 rfl) ?_
  refine lv_iconst (v := 0) hx hb dL_takes_36 (by decide +kernel) ?_
  refine va_iast hx hb hK.1 hP hD hS 0 0 rfl rfl (vp_in_nI (n := j) (N := 10) (by omega) (by decide)) dL_takes_37 (fun H locs hP hD hS => ?_)
  rw [kz_nI_clamp (n := j) (by omega)] at hP hD
  have hP : kz_P G [[(ng, .inl (G.2.1, 10, .inl (upd zg j 0)))], [(nu, .inl (G.2.1, 10, .inl (upd zu j ((zu j) + (((zg j) * w) * (zt 2))))))], [(nk, .inl (G.2.1, 10, .inl (upd zk j ((zk j) + (zg j)))))], [(nt, .inl (G.2.1, 10, .inl zt))]] H := hP
  have hD : kz_D A [[(ng, .inl (G.2.1, 10, .inl (upd zg j 0)))], [(nu, .inl (G.2.1, 10, .inl (upd zu j ((zu j) + (((zg j) * w) * (zt 2))))))], [(nk, .inl (G.2.1, 10, .inl (upd zk j ((zk j) + (zg j)))))], [(nt, .inl (G.2.1, 10, .inl zt))]] := hD
  refine lv_iload hx hb dL_takes_38 (lv_at hl 0 rfl) ?_
  subst hQ
  have hP9 : kz_P G [[(ng, .inl (G.2.1, 10, .inl (L_takes_s0 zg zu zk zt j w)))], [(nu, .inl (G.2.1, 10, .inl (L_takes_s1 zg zu zk zt j w)))], [(nk, .inl (G.2.1, 10, .inl (L_takes_s2 zg zu zk zt j w)))], [(nt, .inl (G.2.1, 10, .inl zt))]] H := hP
  have hD9 : kz_D A [[(ng, .inl (G.2.1, 10, .inl (L_takes_s0 zg zu zk zt j w)))], [(nu, .inl (G.2.1, 10, .inl (L_takes_s1 zg zu zk zt j w)))], [(nk, .inl (G.2.1, 10, .inl (L_takes_s2 zg zu zk zt j w)))], [(nt, .inl (G.2.1, 10, .inl zt))]] := hD
  exact W.iret (v := (((zg j) * w) * (zt 2))) hx hb hr (fun t ht hW => ⟨⟨(((zg j) * w) * (zt 2)), (), rfl, rfl, by rw [ht]; exact hP9, hD9⟩, hS.F ht⟩) hS.2.2 dL_takes_40
