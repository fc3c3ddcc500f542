theorem ps_rTD {N D n m : Nat} {S : kz_S} {zp zq zc zl zv zg zu zf zk zt : Nat → Int32} (h : ps_R N D n m S zp zq zc zl zv zg zu zf zk zt) (hN : N ≤ 60) (hD : D ≤ 600) {j : Nat} (hj : j < 48) : X1_restsToday_p S j ↔ ¬ L_until_r zl zv zt (nI (ps_cd (D % 7 + 1) j)) ≤ nI D := by
  have q := ps_rT h hN hD hj
  unfold L_plZ at q
  rw [h.2.2.2.2.1.1, nI_clamp (by omega)] at q
  exact q
set_option maxHeartbeats 4000000 in
set_option maxRecDepth 100000 in
theorem c_L_shop (l : Launch) (G : kz_G) {N D n m : Nat} (x : Nat) (u1 : Nat) (u2 : Nat) (u3 : Nat) (u4 : Nat) (V : kz_S) (a : Nat → Nat) (S : kz_S) (np : Nat) (zp : Nat → Int32) (nq : Nat) (zq : Nat → Int32) (nc : Nat) (zc : Nat → Int32) (nl : Nat) (zl : Nat → Int32) (nv : Nat) (zv : Nat → Int32) (ng : Nat) (zg : Nat → Int32) (nu : Nat) (zu : Nat → Int32) (nf : Nat) (zf : Nat → Int32) (nk : Nat) (zk : Nat → Int32) (nt : Nat) (zt : Nat → Int32) (h : ps_R N D n m S zp zq zc zl zv zg zu zf zk zt) (hN : N ≤ 60) (hD : D ≤ 600) : kz_rd l G yL_shop wsL_shop 5 112 [.ref x, .ref np, .ref nq, .ref nc, .ref nl, .ref nv, .ref ng, .ref nu, .ref nf, .ref nk, .ref nt] [xoW x (a 0) u1 u2 u3 u4 V, shW G a S, [(np, .inl (G.2.1, 64, .inl zp))], [(nq, .inl (G.2.1, 64, .inl zq))], [(nc, .inl (G.2.1, 64, .inl zc))], [(nl, .inl (G.2.1, 64, .inl zl))], [(nv, .inl (G.2.1, 64, .inl zv))], [(ng, .inl (G.2.1, 10, .inl zg))], [(nu, .inl (G.2.1, 10, .inl zu))], [(nf, .inl (G.2.1, 10, .inl zf))], [(nk, .inl (G.2.1, 10, .inl zk))], [(nt, .inl (G.2.1, 10, .inl zt))]] 1 := by
  refine Met.ofW (cc := cL_shop) (maxL := 18) (ret := (some .boolean)) (by decide) rfl ?_
  intro p e s m args below meth c s₁ B hml hv
  obtain ⟨rfl, hP, hK⟩ := hv
  have hx := B.exec
  have hb := B.bytes
  have hr := B.returns
  have hts := atoms_spec (ws := wsL_shop) B.pre
  have hown : s.vm.findClass RL = some m.cls := findClass_of_methodNamed B.named
  have hlocks := B.notSynchronized
  have hl := lv_entry ([.ref x, .ref np, .ref nq, .ref nc, .ref nl, .ref nv, .ref ng, .ref nu, .ref nf, .ref nk, .ref nt]) (n := 18) (Nat.le_of_ble_eq_true rfl)
  rw [lg_entry_eq]
  generalize (lg_sl ([.ref x, .ref np, .ref nq, .ref nc, .ref nl, .ref nv, .ref ng, .ref nu, .ref nf, .ref nk, .ref nt]) ++ List.replicate (18 - (lg_sl ([.ref x, .ref np, .ref nq, .ref nc, .ref nl, .ref nv, .ref ng, .ref nu, .ref nf, .ref nk, .ref nt])).length) Slot.unset).toArray = ls at hl ⊢
  have hl : lv_has ls 18 [(0, .ref x), (1, .ref np), (2, .ref nq), (3, .ref nc), (4, .ref nl), (5, .ref nv), (6, .ref ng), (7, .ref nu), (8, .ref nf), (9, .ref nk), (10, .ref nt)] := hl
  refine kz_start (fun QQ hQ => ?_)
  have hn := ps_n h
  have e5 := h.2.2.2.2.1.1
  have e7 := h.2.2.2.2.2.2.1.1
  have h7 := ps_h7 h hN
  have h8 := ps_h8 h hN
  have h5 := ps_h5 h hD
  have ht := ps_t h hD
  refine lv_iconst (v := 0) hx hb dL_shop_0 (by decide +kernel) ?_
  refine lv_istore (lv' := [(11, .int 0), (0, .ref x), (1, .ref np), (2, .ref nq), (3, .ref nc), (4, .ref nl), (5, .ref nv), (6, .ref ng), (7, .ref nu), (8, .ref nf), (9, .ref nk), (10, .ref nt)]) hx hb dL_shop_1 hl (by decide) rfl (fun ls hl => ?_)
  refine lv_iconst (v := 0) hx hb dL_shop_3 (by decide +kernel) ?_
  refine lv_istore (lv' := [(12, .int 0), (11, .int 0), (0, .ref x), (1, .ref np), (2, .ref nq), (3, .ref nc), (4, .ref nl), (5, .ref nv), (6, .ref ng), (7, .ref nu), (8, .ref nf), (9, .ref nk), (10, .ref nt)]) hx hb dL_shop_4 hl (by decide) rfl (fun ls hl => ?_)
  refine lv_iconst (v := 0) hx hb dL_shop_6 (by decide +kernel) ?_
  refine lv_istore (lv' := [(13, .int 0), (12, .int 0), (11, .int 0), (0, .ref x), (1, .ref np), (2, .ref nq), (3, .ref nc), (4, .ref nl), (5, .ref nv), (6, .ref ng), (7, .ref nu), (8, .ref nf), (9, .ref nk), (10, .ref nt)]) hx hb dL_shop_7 hl (by decide) rfl (fun ls hl => ?_)
  have L9_1 : ∀ (n9 : Nat) (i : Nat) (x0 y0 : Int32), (n - i < n9) → (i ≤ n) → (x0 = kz_cn (fun i => ¬ zp i < 0) i) → (y0 = kz_sp (fun i => ¬ zp i < 0) (fun i => L_fee_r zq zt i (nI D)) i) → ∀ ls : Array Slot, lv_has ls 18 [(13, .int (nI i)), (12, .int y0), (11, .int x0), (0, .ref x), (1, .ref np), (2, .ref nq), (3, .ref nc), (4, .ref nl), (5, .ref nv), (6, .ref ng), (7, .ref nu), (8, .ref nf), (9, .ref nk), (10, .ref nt)] → W p l e (headSpec wsL_shop (kz_rm 5 112)).room s m ([.ref x, .ref np, .ref nq, .ref nc, .ref nl, .ref nv, .ref ng, .ref nu, .ref nf, .ref nk, .ref nt] : List Value).toArray below meth c s.heap [] 0 0 QQ (F0 m 9 ls []) := by
    intro n9
    induction n9 with
    | zero => intro i x0 y0 h0; exact absurd h0 (Nat.not_lt_zero _)
    | succ n9 ih9_2 =>
      intro i x0 y0 hmeas9 hi1 hxx hyy ls hl
      refine lv_iload hx hb dL_shop_9 (lv_at hl 0 rfl) ?_
      refine lv_aload hx hb dL_shop_11 (lv_at hl 13 rfl) ?_
      refine lv_bipush (v := 7) hx hb dL_shop_13 (by decide +kernel) ?_
      refine va_iald (f := zt) hx hb hK.1 hP 21 0 rfl rfl (vp_in_nI (n := 7) (N := 10) (by decide) (by decide)) dL_shop_15 ?_
      refine lv_topi (fun y_3 ey_4 => ?_)
      obtain rfl : y_3 = (nI n) := by rw [ey_4]; exact (show (zt 7) = (nI n) from e7)
      refine lv_icmp_ge (tgt := 209) hx hb dL_shop_16 (by decide) (fun c_5 => ?_) (fun c_5 => ?_)
      · have hge := kz_le (a := n) (b := i) c_5 (by omega) (by omega)
        have hin : i = n := by omega
        refine lv_iconst (v := 0) hx hb dL_shop_209 (by decide +kernel) ?_
        refine lv_istore (lv' := [(13, .int 0), (12, .int y0), (11, .int x0), (0, .ref x), (1, .ref np), (2, .ref nq), (3, .ref nc), (4, .ref nl), (5, .ref nv), (6, .ref ng), (7, .ref nu), (8, .ref nf), (9, .ref nk), (10, .ref nt)]) hx hb dL_shop_210 hl (by decide) rfl (fun ls hl => ?_)
        have L212_6 : ∀ (n212 : Nat) (s0 : Nat), (10 - s0 < n212) → (s0 ≤ 10) → ∀ ls : Array Slot, lv_has ls 18 [(13, .int (nI s0)), (12, .int y0), (11, .int x0), (0, .ref x), (1, .ref np), (2, .ref nq), (3, .ref nc), (4, .ref nl), (5, .ref nv), (6, .ref ng), (7, .ref nu), (8, .ref nf), (9, .ref nk), (10, .ref nt)] → W p l e (headSpec wsL_shop (kz_rm 5 112)).room s m ([.ref x, .ref np, .ref nq, .ref nc, .ref nl, .ref nv, .ref ng, .ref nu, .ref nf, .ref nk, .ref nt] : List Value).toArray below meth c s.heap [] 0 0 QQ (F0 m 212 ls []) := by
          intro n212
          induction n212 with
          | zero => intro s0 h0; exact absurd h0 (Nat.not_lt_zero _)
          | succ n212 ih212_7 =>
            intro s0 hmeas212 hs1 ls hl
            refine lv_iload hx hb dL_shop_212 (lv_at hl 0 rfl) ?_
            refine lv_bipush (v := 10) hx hb dL_shop_214 (by decide +kernel) ?_
            refine lv_icmp_ge (tgt := 349) hx hb dL_shop_216 (by decide) (fun c_8 => ?_) (fun c_8 => ?_)
            · have hge := kz_le (a := 10) (b := s0) c_8 (by omega) (by omega)
              refine lv_iconst (v := 0) hx hb dL_shop_349 (by decide +kernel) ?_
              refine lv_istore (lv' := [(13, .int 0), (12, .int y0), (11, .int x0), (0, .ref x), (1, .ref np), (2, .ref nq), (3, .ref nc), (4, .ref nl), (5, .ref nv), (6, .ref ng), (7, .ref nu), (8, .ref nf), (9, .ref nk), (10, .ref nt)]) hx hb dL_shop_350 hl (by decide) rfl (fun ls hl => ?_)
              have L352_9 : ∀ (n352 : Nat) (k0 : Nat), (6 - k0 < n352) → (k0 ≤ 6) → ∀ ls : Array Slot, lv_has ls 18 [(13, .int (nI k0)), (12, .int y0), (11, .int x0), (0, .ref x), (1, .ref np), (2, .ref nq), (3, .ref nc), (4, .ref nl), (5, .ref nv), (6, .ref ng), (7, .ref nu), (8, .ref nf), (9, .ref nk), (10, .ref nt)] → W p l e (headSpec wsL_shop (kz_rm 5 112)).room s m ([.ref x, .ref np, .ref nq, .ref nc, .ref nl, .ref nv, .ref ng, .ref nu, .ref nf, .ref nk, .ref nt] : List Value).toArray below meth c s.heap [] 0 0 QQ (F0 m 352 ls []) := by
                intro n352
                induction n352 with
                | zero => intro k0 h0; exact absurd h0 (Nat.not_lt_zero _)
                | succ n352 ih352_10 =>
                  intro k0 hmeas352 hk1 ls hl
                  refine lv_iload hx hb dL_shop_352 (lv_at hl 0 rfl) ?_
                  refine lv_bipush (v := 6) hx hb dL_shop_354 (by decide +kernel) ?_
                  refine lv_icmp_ge (tgt := 533) hx hb dL_shop_356 (by decide) (fun c_11 => ?_) (fun c_11 => ?_)
                  · have hge := kz_le (a := 6) (b := k0) c_11 (by omega) (by omega)
                    refine lv_iconst (v := 0) hx hb dL_shop_533 (by decide +kernel) ?_
                    refine lv_istore (lv' := [(13, .int 0), (12, .int y0), (11, .int x0), (0, .ref x), (1, .ref np), (2, .ref nq), (3, .ref nc), (4, .ref nl), (5, .ref nv), (6, .ref ng), (7, .ref nu), (8, .ref nf), (9, .ref nk), (10, .ref nt)]) hx hb dL_shop_534 hl (by decide) rfl (fun ls hl => ?_)
                    have L536_12 : ∀ (n536 : Nat) (v0 : Nat), (3 - v0 < n536) → (v0 ≤ 3) → ∀ ls : Array Slot, lv_has ls 18 [(13, .int (nI v0)), (12, .int y0), (11, .int x0), (0, .ref x), (1, .ref np), (2, .ref nq), (3, .ref nc), (4, .ref nl), (5, .ref nv), (6, .ref ng), (7, .ref nu), (8, .ref nf), (9, .ref nk), (10, .ref nt)] → W p l e (headSpec wsL_shop (kz_rm 5 112)).room s m ([.ref x, .ref np, .ref nq, .ref nc, .ref nl, .ref nv, .ref ng, .ref nu, .ref nf, .ref nk, .ref nt] : List Value).toArray below meth c s.heap [] 0 0 QQ (F0 m 536 ls []) := by
                      intro n536
                      induction n536 with
                      | zero => intro v0 h0; exact absurd h0 (Nat.not_lt_zero _)
                      | succ n536 ih536_13 =>
                        intro v0 hmeas536 hv1 ls hl
                        refine lv_iload hx hb dL_shop_536 (lv_at hl 0 rfl) ?_
                        refine lv_iconst (v := 3) hx hb dL_shop_538 (by decide +kernel) ?_
                        refine lv_icmp_ge (tgt := 595) hx hb dL_shop_539 (by decide) (fun c_14 => ?_) (fun c_14 => ?_)
                        · have hge := kz_le (a := 3) (b := v0) c_14 (by omega) (by omega)
                          obtain ⟨a0, a1, a2, a3, a4, a5, a6, a7, a8, a9, a10⟩ := ps_aTot (V := V) h
                          have hth : X3_total_r V S 0 = x0 := by rw [a1, ← ps_tThere h, hxx, hin]
                          have hfe : X3_total_r V S 9 = y0 := by rw [a10, ← ps_tFees h hD, hyy, hin]
                          refine lv_aload_n hx hb dL_shop_595 rfl (lv_at hl 3 rfl) ?_
                          refine kz_rdV (As := []) (rest := []) (b := x) ⟨hx, hb, hml, hown, hts⟩ (c_X3_day l G x u1 u2 u3 u4 V a S) (cwV 0 hts gL_shop_X3_day rfl rfl rfl (by decide +kernel) ⟨Nat.le_of_ble_eq_true rfl, Nat.le_of_ble_eq_true rfl⟩) hK (hP.sub (cs := [xoW x (a 0) u1 u2 u3 u4 V, shW G a S]) [0, 1] rfl) (kz_recv hK hP (ci := 3) (q0 := 0) rfl rfl) rfl hl.1 rfl (Nat.le_of_ble_eq_true rfl) dL_shop_596 ⟨Nat.le_of_ble_eq_true rfl, Nat.le_of_ble_eq_true rfl⟩ ?_
                          refine lv_aload hx hb dL_shop_599 (lv_at hl 13 rfl) ?_
                          refine lv_iconst (v := 5) hx hb dL_shop_601 (by decide +kernel) ?_
                          refine va_iald (f := zt) hx hb hK.1 hP 21 0 rfl rfl (vp_in_nI (n := 5) (N := 10) (by decide) (by decide)) dL_shop_602 ?_
                          refine lv_topi (fun y_15 ey_16 => ?_)
                          obtain rfl : y_15 = (nI D) := by rw [ey_16]; exact (show (zt 5) = (nI D) from e5)
                          refine lv_icmp_ne (tgt := 747) hx hb dL_shop_603 (by decide) (fun c => absurd c (by exact fun z => z (a0))) (fun c_17 => ?_)
                          refine lv_aload_n hx hb dL_shop_606 rfl (lv_at hl 3 rfl) ?_
                          refine lv_iconst (v := 0) hx hb dL_shop_607 (by decide +kernel) ?_
                          refine kz_rdV (As := [.int 0]) (rest := []) (b := x) ⟨hx, hb, hml, hown, hts⟩ (c_X3_total l G x u1 u2 u3 u4 V a S 0) (cwV 1 hts gL_shop_X3_total rfl rfl rfl (by decide +kernel) ⟨Nat.le_of_ble_eq_true rfl, Nat.le_of_ble_eq_true rfl⟩) hK (hP.sub (cs := [xoW x (a 0) u1 u2 u3 u4 V, shW G a S]) [0, 1] rfl) (kz_recv hK hP (ci := 3) (q0 := 0) rfl rfl) rfl hl.1 rfl (Nat.le_of_ble_eq_true rfl) dL_shop_608 ⟨Nat.le_of_ble_eq_true rfl, Nat.le_of_ble_eq_true rfl⟩ ?_
                          refine lv_iload hx hb dL_shop_611 (lv_at hl 2 rfl) ?_
                          refine lv_icmp_ne (tgt := 747) hx hb dL_shop_613 (by decide) (fun c => absurd c (by exact fun z => z (hth))) (fun c_18 => ?_)
                          refine lv_aload_n hx hb dL_shop_616 rfl (lv_at hl 3 rfl) ?_
                          refine lv_iconst (v := 1) hx hb dL_shop_617 (by decide +kernel) ?_
                          refine kz_rdV (As := [.int 1]) (rest := []) (b := x) ⟨hx, hb, hml, hown, hts⟩ (c_X3_total l G x u1 u2 u3 u4 V a S 1) (cwV 1 hts gL_shop_X3_total rfl rfl rfl (by decide +kernel) ⟨Nat.le_of_ble_eq_true rfl, Nat.le_of_ble_eq_true rfl⟩) hK (hP.sub (cs := [xoW x (a 0) u1 u2 u3 u4 V, shW G a S]) [0, 1] rfl) (kz_recv hK hP (ci := 3) (q0 := 0) rfl rfl) rfl hl.1 rfl (Nat.le_of_ble_eq_true rfl) dL_shop_618 ⟨Nat.le_of_ble_eq_true rfl, Nat.le_of_ble_eq_true rfl⟩ ?_
                          refine lv_aload hx hb dL_shop_621 (lv_at hl 9 rfl) ?_
                          refine kz_rdS (As := [.ref ng]) (rest := [.int (X3_total_r V S 1)]) ⟨hx, hb, hml, hown, hts⟩ (c_L_sum l G ng zg) (va_cwS 1 hts gL_shop_L_sum rfl rfl rfl (by decide +kernel) ⟨Nat.le_of_ble_eq_true rfl, Nat.le_of_ble_eq_true rfl⟩) hK (hP.sub (cs := [[(ng, .inl (G.2.1, 10, .inl zg))]]) [7] rfl) rfl hl.1 rfl (Nat.le_of_ble_eq_true rfl) dL_shop_623 ⟨Nat.le_of_ble_eq_true rfl, Nat.le_of_ble_eq_true rfl⟩ ?_
                          refine lv_icmp_ne (tgt := 747) hx hb dL_shop_626 (by decide) (fun c => absurd c (by exact fun z => z (a2))) (fun c_19 => ?_)
                          refine lv_aload_n hx hb dL_shop_629 rfl (lv_at hl 3 rfl) ?_
                          refine lv_iconst (v := 2) hx hb dL_shop_630 (by decide +kernel) ?_
                          refine kz_rdV (As := [.int 2]) (rest := []) (b := x) ⟨hx, hb, hml, hown, hts⟩ (c_X3_total l G x u1 u2 u3 u4 V a S 2) (cwV 1 hts gL_shop_X3_total rfl rfl rfl (by decide +kernel) ⟨Nat.le_of_ble_eq_true rfl, Nat.le_of_ble_eq_true rfl⟩) hK (hP.sub (cs := [xoW x (a 0) u1 u2 u3 u4 V, shW G a S]) [0, 1] rfl) (kz_recv hK hP (ci := 3) (q0 := 0) rfl rfl) rfl hl.1 rfl (Nat.le_of_ble_eq_true rfl) dL_shop_631 ⟨Nat.le_of_ble_eq_true rfl, Nat.le_of_ble_eq_true rfl⟩ ?_
                          refine lv_aload hx hb dL_shop_634 (lv_at hl 13 rfl) ?_
                          refine lv_bipush (v := 7) hx hb dL_shop_636 (by decide +kernel) ?_
                          refine va_iald (f := zt) hx hb hK.1 hP 21 0 rfl rfl (vp_in_nI (n := 7) (N := 10) (by decide) (by decide)) dL_shop_638 ?_
                          refine lv_topi (fun y_20 ey_21 => ?_)
                          obtain rfl : y_20 = (nI n) := by rw [ey_21]; exact (show (zt 7) = (nI n) from e7)
                          refine lv_icmp_ne (tgt := 747) hx hb dL_shop_639 (by decide) (fun c => absurd c (by exact fun z => z (a3))) (fun c_22 => ?_)
                          refine lv_aload_n hx hb dL_shop_642 rfl (lv_at hl 3 rfl) ?_
                          refine lv_iconst (v := 3) hx hb dL_shop_643 (by decide +kernel) ?_
                          refine kz_rdV (As := [.int 3]) (rest := []) (b := x) ⟨hx, hb, hml, hown, hts⟩ (c_X3_total l G x u1 u2 u3 u4 V a S 3) (cwV 1 hts gL_shop_X3_total rfl rfl rfl (by decide +kernel) ⟨Nat.le_of_ble_eq_true rfl, Nat.le_of_ble_eq_true rfl⟩) hK (hP.sub (cs := [xoW x (a 0) u1 u2 u3 u4 V, shW G a S]) [0, 1] rfl) (kz_recv hK hP (ci := 3) (q0 := 0) rfl rfl) rfl hl.1 rfl (Nat.le_of_ble_eq_true rfl) dL_shop_644 ⟨Nat.le_of_ble_eq_true rfl, Nat.le_of_ble_eq_true rfl⟩ ?_
                          refine lv_aload hx hb dL_shop_647 (lv_at hl 11 rfl) ?_
                          refine kz_rdS (As := [.ref nf]) (rest := [.int (X3_total_r V S 3)]) ⟨hx, hb, hml, hown, hts⟩ (c_L_sum l G nf zf) (va_cwS 1 hts gL_shop_L_sum rfl rfl rfl (by decide +kernel) ⟨Nat.le_of_ble_eq_true rfl, Nat.le_of_ble_eq_true rfl⟩) hK (hP.sub (cs := [[(nf, .inl (G.2.1, 10, .inl zf))]]) [9] rfl) rfl hl.1 rfl (Nat.le_of_ble_eq_true rfl) dL_shop_649 ⟨Nat.le_of_ble_eq_true rfl, Nat.le_of_ble_eq_true rfl⟩ ?_
                          refine lv_icmp_ne (tgt := 747) hx hb dL_shop_652 (by decide) (fun c => absurd c (by exact fun z => z (a4))) (fun c_23 => ?_)
                          refine lv_aload_n hx hb dL_shop_655 rfl (lv_at hl 3 rfl) ?_
                          refine lv_iconst (v := 4) hx hb dL_shop_656 (by decide +kernel) ?_
                          refine kz_rdV (As := [.int 4]) (rest := []) (b := x) ⟨hx, hb, hml, hown, hts⟩ (c_X3_total l G x u1 u2 u3 u4 V a S 4) (cwV 1 hts gL_shop_X3_total rfl rfl rfl (by decide +kernel) ⟨Nat.le_of_ble_eq_true rfl, Nat.le_of_ble_eq_true rfl⟩) hK (hP.sub (cs := [xoW x (a 0) u1 u2 u3 u4 V, shW G a S]) [0, 1] rfl) (kz_recv hK hP (ci := 3) (q0 := 0) rfl rfl) rfl hl.1 rfl (Nat.le_of_ble_eq_true rfl) dL_shop_657 ⟨Nat.le_of_ble_eq_true rfl, Nat.le_of_ble_eq_true rfl⟩ ?_
                          refine lv_aload hx hb dL_shop_660 (lv_at hl 12 rfl) ?_
                          refine kz_rdS (As := [.ref nk]) (rest := [.int (X3_total_r V S 4)]) ⟨hx, hb, hml, hown, hts⟩ (c_L_sum l G nk zk) (va_cwS 1 hts gL_shop_L_sum rfl rfl rfl (by decide +kernel) ⟨Nat.le_of_ble_eq_true rfl, Nat.le_of_ble_eq_true rfl⟩) hK (hP.sub (cs := [[(nk, .inl (G.2.1, 10, .inl zk))]]) [10] rfl) rfl hl.1 rfl (Nat.le_of_ble_eq_true rfl) dL_shop_662 ⟨Nat.le_of_ble_eq_true rfl, Nat.le_of_ble_eq_true rfl⟩ ?_
                          refine lv_icmp_ne (tgt := 747) hx hb dL_shop_665 (by decide) (fun c => absurd c (by exact fun z => z (a5))) (fun c_24 => ?_)
                          refine lv_aload_n hx hb dL_shop_668 rfl (lv_at hl 3 rfl) ?_
                          refine lv_iconst (v := 5) hx hb dL_shop_669 (by decide +kernel) ?_
                          refine kz_rdV (As := [.int 5]) (rest := []) (b := x) ⟨hx, hb, hml, hown, hts⟩ (c_X3_total l G x u1 u2 u3 u4 V a S 5) (cwV 1 hts gL_shop_X3_total rfl rfl rfl (by decide +kernel) ⟨Nat.le_of_ble_eq_true rfl, Nat.le_of_ble_eq_true rfl⟩) hK (hP.sub (cs := [xoW x (a 0) u1 u2 u3 u4 V, shW G a S]) [0, 1] rfl) (kz_recv hK hP (ci := 3) (q0 := 0) rfl rfl) rfl hl.1 rfl (Nat.le_of_ble_eq_true rfl) dL_shop_670 ⟨Nat.le_of_ble_eq_true rfl, Nat.le_of_ble_eq_true rfl⟩ ?_
                          refine lv_aload hx hb dL_shop_673 (lv_at hl 13 rfl) ?_
                          refine lv_bipush (v := 9) hx hb dL_shop_675 (by decide +kernel) ?_
                          refine va_iald (f := zt) hx hb hK.1 hP 21 0 rfl rfl (vp_in_nI (n := 9) (N := 10) (by decide) (by decide)) dL_shop_677 ?_
                          refine lv_topi (fun y_25 ey_26 => ?_)
                          obtain rfl : y_25 = (zt 9) := by rw [ey_26]; rfl
                          refine lv_icmp_ne (tgt := 747) hx hb dL_shop_678 (by decide) (fun c => absurd c (by exact fun z => z (a6))) (fun c_27 => ?_)
                          refine lv_aload_n hx hb dL_shop_681 rfl (lv_at hl 3 rfl) ?_
                          refine lv_bipush (v := 6) hx hb dL_shop_682 (by decide +kernel) ?_
                          refine kz_rdV (As := [.int 6]) (rest := []) (b := x) ⟨hx, hb, hml, hown, hts⟩ (c_X3_total l G x u1 u2 u3 u4 V a S 6) (cwV 1 hts gL_shop_X3_total rfl rfl rfl (by decide +kernel) ⟨Nat.le_of_ble_eq_true rfl, Nat.le_of_ble_eq_true rfl⟩) hK (hP.sub (cs := [xoW x (a 0) u1 u2 u3 u4 V, shW G a S]) [0, 1] rfl) (kz_recv hK hP (ci := 3) (q0 := 0) rfl rfl) rfl hl.1 rfl (Nat.le_of_ble_eq_true rfl) dL_shop_684 ⟨Nat.le_of_ble_eq_true rfl, Nat.le_of_ble_eq_true rfl⟩ ?_
                          refine lv_aload hx hb dL_shop_687 (lv_at hl 10 rfl) ?_
                          refine kz_rdS (As := [.ref nu]) (rest := [.int (X3_total_r V S 6)]) ⟨hx, hb, hml, hown, hts⟩ (c_L_sum l G nu zu) (va_cwS 1 hts gL_shop_L_sum rfl rfl rfl (by decide +kernel) ⟨Nat.le_of_ble_eq_true rfl, Nat.le_of_ble_eq_true rfl⟩) hK (hP.sub (cs := [[(nu, .inl (G.2.1, 10, .inl zu))]]) [8] rfl) rfl hl.1 rfl (Nat.le_of_ble_eq_true rfl) dL_shop_689 ⟨Nat.le_of_ble_eq_true rfl, Nat.le_of_ble_eq_true rfl⟩ ?_
                          refine lv_icmp_ne (tgt := 747) hx hb dL_shop_692 (by decide) (fun c => absurd c (by exact fun z => z (a7))) (fun c_28 => ?_)
                          refine lv_aload_n hx hb dL_shop_695 rfl (lv_at hl 3 rfl) ?_
                          refine lv_bipush (v := 7) hx hb dL_shop_696 (by decide +kernel) ?_
                          refine kz_rdV (As := [.int 7]) (rest := []) (b := x) ⟨hx, hb, hml, hown, hts⟩ (c_X3_total l G x u1 u2 u3 u4 V a S 7) (cwV 1 hts gL_shop_X3_total rfl rfl rfl (by decide +kernel) ⟨Nat.le_of_ble_eq_true rfl, Nat.le_of_ble_eq_true rfl⟩) hK (hP.sub (cs := [xoW x (a 0) u1 u2 u3 u4 V, shW G a S]) [0, 1] rfl) (kz_recv hK hP (ci := 3) (q0 := 0) rfl rfl) rfl hl.1 rfl (Nat.le_of_ble_eq_true rfl) dL_shop_698 ⟨Nat.le_of_ble_eq_true rfl, Nat.le_of_ble_eq_true rfl⟩ ?_
                          refine lv_aload hx hb dL_shop_701 (lv_at hl 13 rfl) ?_
                          refine lv_bipush (v := 6) hx hb dL_shop_703 (by decide +kernel) ?_
                          refine va_iald (f := zt) hx hb hK.1 hP 21 0 rfl rfl (vp_in_nI (n := 6) (N := 10) (by decide) (by decide)) dL_shop_705 ?_
                          refine lv_topi (fun y_29 ey_30 => ?_)
                          obtain rfl : y_29 = (zt 6) := by rw [ey_30]; rfl
                          refine lv_icmp_ne (tgt := 747) hx hb dL_shop_706 (by decide) (fun c => absurd c (by exact fun z => z (a8))) (fun c_31 => ?_)
                          refine lv_aload_n hx hb dL_shop_709 rfl (lv_at hl 3 rfl) ?_
                          refine lv_bipush (v := 8) hx hb dL_shop_710 (by decide +kernel) ?_
                          refine kz_rdV (As := [.int 8]) (rest := []) (b := x) ⟨hx, hb, hml, hown, hts⟩ (c_X3_total l G x u1 u2 u3 u4 V a S 8) (cwV 1 hts gL_shop_X3_total rfl rfl rfl (by decide +kernel) ⟨Nat.le_of_ble_eq_true rfl, Nat.le_of_ble_eq_true rfl⟩) hK (hP.sub (cs := [xoW x (a 0) u1 u2 u3 u4 V, shW G a S]) [0, 1] rfl) (kz_recv hK hP (ci := 3) (q0 := 0) rfl rfl) rfl hl.1 rfl (Nat.le_of_ble_eq_true rfl) dL_shop_712 ⟨Nat.le_of_ble_eq_true rfl, Nat.le_of_ble_eq_true rfl⟩ ?_
                          refine lv_aload hx hb dL_shop_715 (lv_at hl 13 rfl) ?_
                          refine lv_bipush (v := 6) hx hb dL_shop_717 (by decide +kernel) ?_
                          refine va_iald (f := zt) hx hb hK.1 hP 21 0 rfl rfl (vp_in_nI (n := 6) (N := 10) (by decide) (by decide)) dL_shop_719 ?_
                          refine lv_topi (fun y_32 ey_33 => ?_)
                          obtain rfl : y_32 = (zt 6) := by rw [ey_33]; rfl
                          refine lv_iconst (v := 3) hx hb dL_shop_720 (by decide +kernel) ?_
                          refine lv_icmp_ne (tgt := 728) hx hb dL_shop_721 (by decide) (fun c_34 => ?_) (fun c_34 => ?_)
                          · refine lv_iconst (v := 0) hx hb dL_shop_728 (by decide +kernel) ?_
                            refine lv_icmp_ne (tgt := 747) hx hb dL_shop_729 (by decide) (fun c => absurd c (by exact fun z => z (a9.trans (if_neg c_34)))) (fun c_35 => ?_)
                            refine lv_aload_n hx hb dL_shop_732 rfl (lv_at hl 3 rfl) ?_
                            refine lv_bipush (v := 9) hx hb dL_shop_733 (by decide +kernel) ?_
                            refine kz_rdV (As := [.int 9]) (rest := []) (b := x) ⟨hx, hb, hml, hown, hts⟩ (c_X3_total l G x u1 u2 u3 u4 V a S 9) (cwV 1 hts gL_shop_X3_total rfl rfl rfl (by decide +kernel) ⟨Nat.le_of_ble_eq_true rfl, Nat.le_of_ble_eq_true rfl⟩) hK (hP.sub (cs := [xoW x (a 0) u1 u2 u3 u4 V, shW G a S]) [0, 1] rfl) (kz_recv hK hP (ci := 3) (q0 := 0) rfl rfl) rfl hl.1 rfl (Nat.le_of_ble_eq_true rfl) dL_shop_735 ⟨Nat.le_of_ble_eq_true rfl, Nat.le_of_ble_eq_true rfl⟩ ?_
                            refine lv_iload hx hb dL_shop_738 (lv_at hl 1 rfl) ?_
                            refine lv_icmp_ne (tgt := 747) hx hb dL_shop_740 (by decide) (fun c => absurd c (by exact fun z => z (hfe))) (fun c_36 => ?_)
                            refine lv_iconst (v := 1) hx hb dL_shop_743 (by decide +kernel) ?_
                            refine lv_goto (tgt := 748) hx hb dL_shop_744 (by decide) ?_
                            subst hQ
                            exact W.zret (v := 1) hx hb hr (by decide +kernel) (fun t ht _ => ⟨1, rfl, rfl, ht⟩) (fun _ h9 => absurd h9 List.not_mem_nil) dL_shop_748
                          · refine lv_iconst (v := 1) hx hb dL_shop_724 (by decide +kernel) ?_
                            refine lv_goto (tgt := 729) hx hb dL_shop_725 (by decide) ?_
                            refine lv_icmp_ne (tgt := 747) hx hb dL_shop_729 (by decide) (fun c => absurd c (by exact fun z => z (a9.trans (if_pos c_34)))) (fun c_37 => ?_)
                            refine lv_aload_n hx hb dL_shop_732 rfl (lv_at hl 3 rfl) ?_
                            refine lv_bipush (v := 9) hx hb dL_shop_733 (by decide +kernel) ?_
                            refine kz_rdV (As := [.int 9]) (rest := []) (b := x) ⟨hx, hb, hml, hown, hts⟩ (c_X3_total l G x u1 u2 u3 u4 V a S 9) (cwV 1 hts gL_shop_X3_total rfl rfl rfl (by decide +kernel) ⟨Nat.le_of_ble_eq_true rfl, Nat.le_of_ble_eq_true rfl⟩) hK (hP.sub (cs := [xoW x (a 0) u1 u2 u3 u4 V, shW G a S]) [0, 1] rfl) (kz_recv hK hP (ci := 3) (q0 := 0) rfl rfl) rfl hl.1 rfl (Nat.le_of_ble_eq_true rfl) dL_shop_735 ⟨Nat.le_of_ble_eq_true rfl, Nat.le_of_ble_eq_true rfl⟩ ?_
                            refine lv_iload hx hb dL_shop_738 (lv_at hl 1 rfl) ?_
                            refine lv_icmp_ne (tgt := 747) hx hb dL_shop_740 (by decide) (fun c => absurd c (by exact fun z => z (hfe))) (fun c_38 => ?_)
                            refine lv_iconst (v := 1) hx hb dL_shop_743 (by decide +kernel) ?_
                            refine lv_goto (tgt := 748) hx hb dL_shop_744 (by decide) ?_
                            subst hQ
                            exact W.zret (v := 1) hx hb hr (by decide +kernel) (fun t ht _ => ⟨1, rfl, rfl, ht⟩) (fun _ h9 => absurd h9 List.not_mem_nil) dL_shop_748
                        · have hlt := kz_gt (a := 3) (b := v0) c_14 (by omega) (by omega)
                          refine lv_aload_n hx hb dL_shop_542 rfl (lv_at hl 4 rfl) ?_
                          refine lv_aload hx hb dL_shop_543 (lv_at hl 7 rfl) ?_
                          refine lv_aload hx hb dL_shop_545 (lv_at hl 8 rfl) ?_
                          refine lv_aload hx hb dL_shop_547 (lv_at hl 13 rfl) ?_
                          refine lv_iconst (v := 2) hx hb dL_shop_549 (by decide +kernel) ?_
                          refine lv_iload hx hb dL_shop_550 (lv_at hl 0 rfl) ?_
                          refine lv_imul hx hb dL_shop_552 ?_
                          refine lv_topi (fun y_39 ey_40 => ?_)
                          obtain rfl : y_39 = (nI (2 * v0)) := by rw [ey_40]; exact pk_mul 2 v0
                          refine lv_iconst (v := 5) hx hb dL_shop_553 (by decide +kernel) ?_
                          refine kz_rdS (As := [.ref np, .ref nl, .ref nv, .ref nt, .int (nI (2 * v0)), .int 5]) (rest := []) ⟨hx, hb, hml, hown, hts⟩ (c_L_place l G np zp nl zl nv zv nt zt (2 * v0) 5 (by assumption) (by assumption) (by assumption) (by omega) (by omega)) (va_cwS 6 hts gL_shop_L_place rfl rfl rfl (by decide +kernel) ⟨Nat.le_of_ble_eq_true rfl, Nat.le_of_ble_eq_true rfl⟩) hK (hP.sub (cs := [[(np, .inl (G.2.1, 64, .inl zp))], [(nl, .inl (G.2.1, 64, .inl zl))], [(nv, .inl (G.2.1, 64, .inl zv))], [(nt, .inl (G.2.1, 10, .inl zt))]]) [2, 5, 6, 11] rfl) rfl hl.1 rfl (Nat.le_of_ble_eq_true rfl) dL_shop_554 ⟨Nat.le_of_ble_eq_true rfl, Nat.le_of_ble_eq_true rfl⟩ ?_
                          refine lv_istore (lv' := [(14, .int (L_place_r zp zl zv zt (2 * v0) 5)), (13, .int (nI v0)), (12, .int y0), (11, .int x0), (0, .ref x), (1, .ref np), (2, .ref nq), (3, .ref nc), (4, .ref nl), (5, .ref nv), (6, .ref ng), (7, .ref nu), (8, .ref nf), (9, .ref nk), (10, .ref nt)]) hx hb dL_shop_557 hl (by decide) rfl (fun ls hl => ?_)
                          refine lv_aload_n hx hb dL_shop_559 rfl (lv_at hl 4 rfl) ?_
                          refine lv_iload hx hb dL_shop_560 (lv_at hl 1 rfl) ?_
                          refine kz_rdV (As := [.int (nI v0)]) (rest := []) (b := x) ⟨hx, hb, hml, hown, hts⟩ (c_X3_nextCode l G x u1 u2 u3 u4 V a S (nI v0) (by assumption)) (cwV 1 hts gL_shop_X3_nextCode rfl rfl rfl (by decide +kernel) ⟨Nat.le_of_ble_eq_true rfl, Nat.le_of_ble_eq_true rfl⟩) hK (hP.sub (cs := [xoW x (a 0) u1 u2 u3 u4 V, shW G a S]) [0, 1] rfl) (kz_recv hK hP (ci := 3) (q0 := 0) rfl rfl) rfl hl.1 rfl (Nat.le_of_ble_eq_true rfl) dL_shop_562 ⟨Nat.le_of_ble_eq_true rfl, Nat.le_of_ble_eq_true rfl⟩ ?_
                          refine lv_iload hx hb dL_shop_565 (lv_at hl 0 rfl) ?_
                          refine lv_if_ge (tgt := 575) hx hb dL_shop_567 (by decide) (fun c_41 => ?_) (fun c_41 => ?_)
                          · obtain ⟨j, hj, ej, en⟩ := (ps_aNxt (V := V) h hN hD (v := v0) hlt).resolve_left (fun q => absurd q.1 (Int32.not_lt.mpr c_41))
                            have hl : lv_has ls 18 [(14, .int (nI j)), (13, .int (nI v0)), (12, .int y0), (11, .int x0), (0, .ref x), (1, .ref np), (2, .ref nq), (3, .ref nc), (4, .ref nl), (5, .ref nv), (6, .ref ng), (7, .ref nu), (8, .ref nf), (9, .ref nk), (10, .ref nt)] := by rw [← ej]; exact hl
                            refine lv_aload hx hb dL_shop_575 (lv_at hl 14 rfl) ?_
                            refine lv_iconst (v := 5) hx hb dL_shop_577 (by decide +kernel) ?_
                            refine va_iald (f := zt) hx hb hK.1 hP 21 0 rfl rfl (vp_in_nI (n := 5) (N := 10) (by decide) (by decide)) dL_shop_578 ?_
                            refine lv_topi (fun y_42 ey_43 => ?_)
                            obtain rfl : y_42 = (nI D) := by rw [ey_43]; exact (show (zt 5) = (nI D) from e5)
                            refine lv_iload hx hb dL_shop_579 (lv_at hl 0 rfl) ?_
                            refine kz_rdS (As := [.int (nI D), .int (nI j)]) (rest := [.int (X3_nextCode_r V S (nI v0))]) ⟨hx, hb, hml, hown, hts⟩ (c_L_code l G D j (by omega) (by omega)) (va_cwS 2 hts gL_shop_L_code rfl rfl rfl (by decide +kernel) ⟨Nat.le_of_ble_eq_true rfl, Nat.le_of_ble_eq_true rfl⟩) hK (hP.sub (cs := []) [] rfl) rfl hl.1 rfl (Nat.le_of_ble_eq_true rfl) dL_shop_581 ⟨Nat.le_of_ble_eq_true rfl, Nat.le_of_ble_eq_true rfl⟩ ?_
                            refine lv_icmp_eq (tgt := 589) hx hb dL_shop_584 (by decide) (fun c_44 => ?_) (fun c => absurd c (by exact fun z => z (en)))
                            refine lv_iinc (v := (nI (v0 + 1))) (lv' := [(13, .int (nI (v0 + 1))), (14, .int (nI j)), (12, .int y0), (11, .int x0), (0, .ref x), (1, .ref np), (2, .ref nq), (3, .ref nc), (4, .ref nl), (5, .ref nv), (6, .ref ng), (7, .ref nu), (8, .ref nf), (9, .ref nk), (10, .ref nt)]) hx hb dL_shop_589 hl (k := 1) rfl (nI_1 _) (by decide) rfl (fun ls hl => ?_)
                            refine lv_goto (tgt := 536) hx hb dL_shop_592 (by decide) ?_
                            exact ih536_13 (v0 + 1) (by omega) (by omega) ls (lv_sub hl [0, 2, 3, 4, 5, 6, 7, 8, 9, 10, 11, 12, 13, 14] rfl)
                          · have en : X3_nextCode_r V S (nI v0) = (-6) := (ps_aNxt (V := V) h hN hD (v := v0) hlt).elim (fun q => q.2) (fun ⟨j, hj, ej, _⟩ => absurd (by rw [ej]; exact nI_pos' (by omega)) c_41)
                            refine lv_bipush (v := (-6)) hx hb dL_shop_570 (by decide +kernel) ?_
                            refine lv_goto (tgt := 584) hx hb dL_shop_572 (by decide) ?_
                            refine lv_icmp_eq (tgt := 589) hx hb dL_shop_584 (by decide) (fun c_45 => ?_) (fun c => absurd c (by exact fun z => z (en)))
                            refine lv_iinc (v := (nI (v0 + 1))) (lv' := [(13, .int (nI (v0 + 1))), (14, .int (L_place_r zp zl zv zt (2 * v0) 5)), (12, .int y0), (11, .int x0), (0, .ref x), (1, .ref np), (2, .ref nq), (3, .ref nc), (4, .ref nl), (5, .ref nv), (6, .ref ng), (7, .ref nu), (8, .ref nf), (9, .ref nk), (10, .ref nt)]) hx hb dL_shop_589 hl (k := 1) rfl (nI_1 _) (by decide) rfl (fun ls hl => ?_)
                            refine lv_goto (tgt := 536) hx hb dL_shop_592 (by decide) ?_
                            exact ih536_13 (v0 + 1) (by omega) (by omega) ls (lv_sub hl [0, 2, 3, 4, 5, 6, 7, 8, 9, 10, 11, 12, 13, 14] rfl)
                    exact L536_12 _ 0 (Nat.lt_succ_self _) (Nat.zero_le _) ls (lv_sub hl [0, 1, 2, 3, 4, 5, 6, 7, 8, 9, 10, 11, 12, 13] rfl)
                  · have hlt := kz_gt (a := 6) (b := k0) c_11 (by omega) (by omega)
                    have hk6 : k0 < 6 := hlt
                    refine lv_iconst (v := 0) hx hb dL_shop_359 (by decide +kernel) ?_
                    refine lv_istore (lv' := [(14, .int 0), (13, .int (nI k0)), (12, .int y0), (11, .int x0), (0, .ref x), (1, .ref np), (2, .ref nq), (3, .ref nc), (4, .ref nl), (5, .ref nv), (6, .ref ng), (7, .ref nu), (8, .ref nf), (9, .ref nk), (10, .ref nt)]) hx hb dL_shop_360 hl (by decide) rfl (fun ls hl => ?_)
                    refine lv_iconst (v := 0) hx hb dL_shop_362 (by decide +kernel) ?_
                    refine lv_istore (lv' := [(15, .int 0), (14, .int 0), (13, .int (nI k0)), (12, .int y0), (11, .int x0), (0, .ref x), (1, .ref np), (2, .ref nq), (3, .ref nc), (4, .ref nl), (5, .ref nv), (6, .ref ng), (7, .ref nu), (8, .ref nf), (9, .ref nk), (10, .ref nt)]) hx hb dL_shop_363 hl (by decide) rfl (fun ls hl => ?_)
                    refine lv_bipush (v := 8) hx hb dL_shop_365 (by decide +kernel) ?_
                    refine lv_iload hx hb dL_shop_367 (lv_at hl 2 rfl) ?_
                    refine lv_imul hx hb dL_shop_369 ?_
                    refine lv_topi (fun y_46 ey_47 => ?_)
                    obtain rfl : y_46 = (nI (8 * k0)) := by rw [ey_47]; exact pk_mul 8 k0
                    refine lv_istore (lv' := [(16, .int (nI (8 * k0))), (15, .int 0), (14, .int 0), (13, .int (nI k0)), (12, .int y0), (11, .int x0), (0, .ref x), (1, .ref np), (2, .ref nq), (3, .ref nc), (4, .ref nl), (5, .ref nv), (6, .ref ng), (7, .ref nu), (8, .ref nf), (9, .ref nk), (10, .ref nt)]) hx hb dL_shop_370 hl (by decide) rfl (fun ls hl => ?_)
                    have L372_48 : ∀ (n372 : Nat) (c0 : Nat) (z0 w0 : Int32), (8 - c0 < n372) → (c0 ≤ 8) → (z0 = kz_cn (fun j => ¬ X1_isFree_p S (8 * k0 + j)) c0) → (w0 = kz_cn (fun j => X1_isFree_p S (8 * k0 + j) ∧ X1_restsToday_p S (8 * k0 + j)) c0) → ∀ ls : Array Slot, lv_has ls 18 [(16, .int (nI (8 * k0 + c0))), (15, .int w0), (14, .int z0), (13, .int (nI k0)), (12, .int y0), (11, .int x0), (0, .ref x), (1, .ref np), (2, .ref nq), (3, .ref nc), (4, .ref nl), (5, .ref nv), (6, .ref ng), (7, .ref nu), (8, .ref nf), (9, .ref nk), (10, .ref nt)] → W p l e (headSpec wsL_shop (kz_rm 5 112)).room s m ([.ref x, .ref np, .ref nq, .ref nc, .ref nl, .ref nv, .ref ng, .ref nu, .ref nf, .ref nk, .ref nt] : List Value).toArray below meth c s.heap [] 0 0 QQ (F0 m 372 ls []) := by
                      intro n372
                      induction n372 with
                      | zero => intro c0 z0 w0 h0; exact absurd h0 (Nat.not_lt_zero _)
                      | succ n372 ih372_49 =>
                        intro c0 z0 w0 hmeas372 hc1 hz hw ls hl
                        refine lv_iload hx hb dL_shop_372 (lv_at hl 0 rfl) ?_
                        refine lv_bipush (v := 8) hx hb dL_shop_374 (by decide +kernel) ?_
                        refine lv_iload hx hb dL_shop_376 (lv_at hl 3 rfl) ?_
                        refine lv_imul hx hb dL_shop_378 ?_
                        refine lv_topi (fun y_50 ey_51 => ?_)
                        obtain rfl : y_50 = (nI (8 * k0)) := by rw [ey_51]; exact pk_mul 8 k0
                        refine lv_bipush (v := 8) hx hb dL_shop_379 (by decide +kernel) ?_
                        refine lv_iadd hx hb dL_shop_381 ?_
                        refine lv_topi (fun y_52 ey_53 => ?_)
                        obtain rfl : y_52 = (nI (8 * k0 + 8)) := by rw [ey_53]; exact nI_add _ 8
                        refine lv_icmp_ge (tgt := 487) hx hb dL_shop_382 (by decide) (fun c_54 => ?_) (fun c_54 => ?_)
                        · have hge := kz_le (a := 8 * k0 + 8) (b := 8 * k0 + c0) c_54 (by omega) (by omega)
                          obtain ⟨g0, g1, g2⟩ := ps_aShf (S := S) (V := V) hk6
                          have g1 : X3_shelf_r V S (nI k0) 1 = z0 := by rw [g1, X1_parcelsOnShelf_r, hz, show c0 = 8 by omega]
                          have g2 : X3_shelf_r V S (nI k0) 2 = w0 := by rw [g2, X1_restingOnShelf_r, hw, show c0 = 8 by omega]
                          refine lv_aload_n hx hb dL_shop_487 rfl (lv_at hl 6 rfl) ?_
                          refine lv_iload hx hb dL_shop_488 (lv_at hl 3 rfl) ?_
                          refine lv_iconst (v := 0) hx hb dL_shop_490 (by decide +kernel) ?_
                          refine kz_rdV (As := [.int (nI k0), .int 0]) (rest := []) (b := x) ⟨hx, hb, hml, hown, hts⟩ (c_X3_shelf l G x u1 u2 u3 u4 V a S (nI k0) 0 (by assumption)) (cwV 2 hts gL_shop_X3_shelf rfl rfl rfl (by decide +kernel) ⟨Nat.le_of_ble_eq_true rfl, Nat.le_of_ble_eq_true rfl⟩) hK (hP.sub (cs := [xoW x (a 0) u1 u2 u3 u4 V, shW G a S]) [0, 1] rfl) (kz_recv hK hP (ci := 3) (q0 := 0) rfl rfl) rfl hl.1 rfl (Nat.le_of_ble_eq_true rfl) dL_shop_491 ⟨Nat.le_of_ble_eq_true rfl, Nat.le_of_ble_eq_true rfl⟩ ?_
                          refine lv_iload hx hb dL_shop_494 (lv_at hl 3 rfl) ?_
                          refine lv_iconst (v := 2) hx hb dL_shop_496 (by decide +kernel) ?_
                          refine lv_idiv hx hb dL_shop_497 (by decide +kernel) ?_
                          refine lv_icmp_ne (tgt := 525) hx hb dL_shop_498 (by decide) (fun c => absurd c (by exact fun z => z (g0))) (fun c_55 => ?_)
                          refine lv_aload_n hx hb dL_shop_501 rfl (lv_at hl 6 rfl) ?_
                          refine lv_iload hx hb dL_shop_502 (lv_at hl 3 rfl) ?_
                          refine lv_iconst (v := 1) hx hb dL_shop_504 (by decide +kernel) ?_
                          refine kz_rdV (As := [.int (nI k0), .int 1]) (rest := []) (b := x) ⟨hx, hb, hml, hown, hts⟩ (c_X3_shelf l G x u1 u2 u3 u4 V a S (nI k0) 1 (by assumption)) (cwV 2 hts gL_shop_X3_shelf rfl rfl rfl (by decide +kernel) ⟨Nat.le_of_ble_eq_true rfl, Nat.le_of_ble_eq_true rfl⟩) hK (hP.sub (cs := [xoW x (a 0) u1 u2 u3 u4 V, shW G a S]) [0, 1] rfl) (kz_recv hK hP (ci := 3) (q0 := 0) rfl rfl) rfl hl.1 rfl (Nat.le_of_ble_eq_true rfl) dL_shop_505 ⟨Nat.le_of_ble_eq_true rfl, Nat.le_of_ble_eq_true rfl⟩ ?_
                          refine lv_iload hx hb dL_shop_508 (lv_at hl 2 rfl) ?_
                          refine lv_icmp_ne (tgt := 525) hx hb dL_shop_510 (by decide) (fun c => absurd c (by exact fun z => z (g1))) (fun c_56 => ?_)
                          refine lv_aload_n hx hb dL_shop_513 rfl (lv_at hl 6 rfl) ?_
                          refine lv_iload hx hb dL_shop_514 (lv_at hl 3 rfl) ?_
                          refine lv_iconst (v := 2) hx hb dL_shop_516 (by decide +kernel) ?_
                          refine kz_rdV (As := [.int (nI k0), .int 2]) (rest := []) (b := x) ⟨hx, hb, hml, hown, hts⟩ (c_X3_shelf l G x u1 u2 u3 u4 V a S (nI k0) 2 (by assumption)) (cwV 2 hts gL_shop_X3_shelf rfl rfl rfl (by decide +kernel) ⟨Nat.le_of_ble_eq_true rfl, Nat.le_of_ble_eq_true rfl⟩) hK (hP.sub (cs := [xoW x (a 0) u1 u2 u3 u4 V, shW G a S]) [0, 1] rfl) (kz_recv hK hP (ci := 3) (q0 := 0) rfl rfl) rfl hl.1 rfl (Nat.le_of_ble_eq_true rfl) dL_shop_517 ⟨Nat.le_of_ble_eq_true rfl, Nat.le_of_ble_eq_true rfl⟩ ?_
                          refine lv_iload hx hb dL_shop_520 (lv_at hl 1 rfl) ?_
                          refine lv_icmp_eq (tgt := 527) hx hb dL_shop_522 (by decide) (fun c_57 => ?_) (fun c => absurd c (by exact fun z => z (g2)))
                          refine lv_iinc (v := (nI (k0 + 1))) (lv' := [(13, .int (nI (k0 + 1))), (16, .int (nI (8 * k0 + c0))), (15, .int w0), (14, .int z0), (12, .int y0), (11, .int x0), (0, .ref x), (1, .ref np), (2, .ref nq), (3, .ref nc), (4, .ref nl), (5, .ref nv), (6, .ref ng), (7, .ref nu), (8, .ref nf), (9, .ref nk), (10, .ref nt)]) hx hb dL_shop_527 hl (k := 3) rfl (nI_1 _) (by decide) rfl (fun ls hl => ?_)
                          refine lv_goto (tgt := 352) hx hb dL_shop_530 (by decide) ?_
                          exact ih352_10 (k0 + 1) (by omega) (by omega) ls (lv_sub hl [0, 4, 5, 6, 7, 8, 9, 10, 11, 12, 13, 14, 15, 16] rfl)
                        · have hlt := kz_gt (a := 8 * k0 + 8) (b := 8 * k0 + c0) c_54 (by omega) (by omega)
                          refine lv_aload_n hx hb dL_shop_385 rfl (lv_at hl 7 rfl) ?_
                          refine lv_aload hx hb dL_shop_386 (lv_at hl 16 rfl) ?_
                          refine lv_iload hx hb dL_shop_388 (lv_at hl 0 rfl) ?_
                          refine kz_rdS (As := [.ref np, .ref nt, .int (nI (8 * k0 + c0))]) (rest := []) ⟨hx, hb, hml, hown, hts⟩ (c_L_on l G np zp nt zt (nI (8 * k0 + c0)) (by assumption)) (va_cwS 3 hts gL_shop_L_on rfl rfl rfl (by decide +kernel) ⟨Nat.le_of_ble_eq_true rfl, Nat.le_of_ble_eq_true rfl⟩) hK (hP.sub (cs := [[(np, .inl (G.2.1, 64, .inl zp))], [(nt, .inl (G.2.1, 10, .inl zt))]]) [2, 11] rfl) rfl hl.1 rfl (Nat.le_of_ble_eq_true rfl) dL_shop_390 ⟨Nat.le_of_ble_eq_true rfl, Nat.le_of_ble_eq_true rfl⟩ ?_
                          refine lv_if_ge (tgt := 400) hx hb dL_shop_393 (by decide) (fun c_58 => ?_) (fun c_58 => ?_)
                          · have hf : ¬ X1_isFree_p S (8 * k0 + c0) := fun q => (ps_rF h hN (by omega)).mp q (fun z => absurd z (Int32.not_lt.mpr c_58))
                            refine lv_iconst (v := 0) hx hb dL_shop_400 (by decide +kernel) ?_
                            refine lv_istore (lv' := [(17, .int 0), (16, .int (nI (8 * k0 + c0))), (15, .int w0), (14, .int z0), (13, .int (nI k0)), (12, .int y0), (11, .int x0), (0, .ref x), (1, .ref np), (2, .ref nq), (3, .ref nc), (4, .ref nl), (5, .ref nv), (6, .ref ng), (7, .ref nu), (8, .ref nf), (9, .ref nk), (10, .ref nt)]) hx hb dL_shop_401 hl (by decide) rfl (fun ls hl => ?_)
                            refine lv_iload hx hb dL_shop_403 (lv_at hl 3 rfl) ?_
                            refine lv_iload hx hb dL_shop_405 (lv_at hl 0 rfl) ?_
                            refine lv_if_eq (tgt := 414) hx hb dL_shop_407 (by decide) (fun _ => ?_) (fun c => absurd c (by decide))
                            refine lv_iconst (v := 1) hx hb dL_shop_414 (by decide +kernel) ?_
                            refine lv_iadd hx hb dL_shop_415 ?_
                            refine lv_istore (lv' := [(14, .int (z0 + 1)), (17, .int 0), (16, .int (nI (8 * k0 + c0))), (15, .int w0), (13, .int (nI k0)), (12, .int y0), (11, .int x0), (0, .ref x), (1, .ref np), (2, .ref nq), (3, .ref nc), (4, .ref nl), (5, .ref nv), (6, .ref ng), (7, .ref nu), (8, .ref nf), (9, .ref nk), (10, .ref nt)]) hx hb dL_shop_416 hl (by decide) rfl (fun ls hl => ?_)
                            refine lv_iload hx hb dL_shop_418 (lv_at hl 3 rfl) ?_
                            refine lv_iload hx hb dL_shop_420 (lv_at hl 1 rfl) ?_
                            refine lv_if_eq (tgt := 454) hx hb dL_shop_422 (by decide) (fun _ => ?_) (fun c => absurd c (by decide))
                            refine lv_iconst (v := 0) hx hb dL_shop_454 (by decide +kernel) ?_
                            refine lv_iadd hx hb dL_shop_455 ?_
                            refine lv_istore (lv' := [(15, .int (w0 + 0)), (14, .int (z0 + 1)), (17, .int 0), (16, .int (nI (8 * k0 + c0))), (13, .int (nI k0)), (12, .int y0), (11, .int x0), (0, .ref x), (1, .ref np), (2, .ref nq), (3, .ref nc), (4, .ref nl), (5, .ref nv), (6, .ref ng), (7, .ref nu), (8, .ref nf), (9, .ref nk), (10, .ref nt)]) hx hb dL_shop_456 hl (by decide) rfl (fun ls hl => ?_)
                            refine lv_iload hx hb dL_shop_458 (lv_at hl 2 rfl) ?_
                            refine lv_if_eq (tgt := 481) hx hb dL_shop_460 (by decide) (fun _ => ?_) (fun c => absurd c (by decide))
                            refine lv_iinc (v := (nI ((8 * k0 + c0) + 1))) (lv' := [(16, .int (nI ((8 * k0 + c0) + 1))), (15, .int (w0 + 0)), (14, .int (z0 + 1)), (17, .int 0), (13, .int (nI k0)), (12, .int y0), (11, .int x0), (0, .ref x), (1, .ref np), (2, .ref nq), (3, .ref nc), (4, .ref nl), (5, .ref nv), (6, .ref ng), (7, .ref nu), (8, .ref nf), (9, .ref nk), (10, .ref nt)]) hx hb dL_shop_481 hl (k := 3) rfl (nI_1 _) (by decide) rfl (fun ls hl => ?_)
                            refine lv_goto (tgt := 372) hx hb dL_shop_484 (by decide) ?_
                            exact ih372_49 (c0 + 1) (z0 + 1) (w0 + 0) (by omega) (by omega) (by rw [hz]; exact kz_cn_t (P := fun j => ¬ X1_isFree_p S (8 * k0 + j)) hf) (by rw [Int32.add_zero, hw]; exact kz_cn_f (P := fun j => X1_isFree_p S (8 * k0 + j) ∧ X1_restsToday_p S (8 * k0 + j)) (fun q => hf q.1)) ls (lv_sub hl [0, 1, 2, 4, 5, 6, 7, 8, 9, 10, 11, 12, 13, 14, 15, 16, 17] rfl)
                          · have hf : X1_isFree_p S (8 * k0 + c0) := (ps_rF h hN (by omega)).mpr (fun q => q (Int32.not_le.mp c_58))
                            refine lv_iconst (v := 1) hx hb dL_shop_396 (by decide +kernel) ?_
                            refine lv_goto (tgt := 401) hx hb dL_shop_397 (by decide) ?_
                            refine lv_istore (lv' := [(17, .int 1), (16, .int (nI (8 * k0 + c0))), (15, .int w0), (14, .int z0), (13, .int (nI k0)), (12, .int y0), (11, .int x0), (0, .ref x), (1, .ref np), (2, .ref nq), (3, .ref nc), (4, .ref nl), (5, .ref nv), (6, .ref ng), (7, .ref nu), (8, .ref nf), (9, .ref nk), (10, .ref nt)]) hx hb dL_shop_401 hl (by decide) rfl (fun ls hl => ?_)
                            refine lv_iload hx hb dL_shop_403 (lv_at hl 3 rfl) ?_
                            refine lv_iload hx hb dL_shop_405 (lv_at hl 0 rfl) ?_
                            refine lv_if_eq (tgt := 414) hx hb dL_shop_407 (by decide) (fun c => absurd c (by decide)) (fun _ => ?_)
                            refine lv_iconst (v := 0) hx hb dL_shop_410 (by decide +kernel) ?_
                            refine lv_goto (tgt := 415) hx hb dL_shop_411 (by decide) ?_
                            refine lv_iadd hx hb dL_shop_415 ?_
                            refine lv_istore (lv' := [(14, .int (z0 + 0)), (17, .int 1), (16, .int (nI (8 * k0 + c0))), (15, .int w0), (13, .int (nI k0)), (12, .int y0), (11, .int x0), (0, .ref x), (1, .ref np), (2, .ref nq), (3, .ref nc), (4, .ref nl), (5, .ref nv), (6, .ref ng), (7, .ref nu), (8, .ref nf), (9, .ref nk), (10, .ref nt)]) hx hb dL_shop_416 hl (by decide) rfl (fun ls hl => ?_)
                            refine lv_iload hx hb dL_shop_418 (lv_at hl 3 rfl) ?_
                            refine lv_iload hx hb dL_shop_420 (lv_at hl 1 rfl) ?_
                            refine lv_if_eq (tgt := 454) hx hb dL_shop_422 (by decide) (fun c => absurd c (by decide)) (fun _ => ?_)
                            refine lv_aload hx hb dL_shop_425 (lv_at hl 11 rfl) ?_
                            refine lv_aload hx hb dL_shop_427 (lv_at hl 12 rfl) ?_
                            refine lv_aload hx hb dL_shop_429 (lv_at hl 17 rfl) ?_
                            refine lv_aload hx hb dL_shop_431 (lv_at hl 17 rfl) ?_
                            refine lv_iconst (v := 5) hx hb dL_shop_433 (by decide +kernel) ?_
                            refine va_iald (f := zt) hx hb hK.1 hP 21 0 rfl rfl (vp_in_nI (n := 5) (N := 10) (by decide) (by decide)) dL_shop_434 ?_
                            refine lv_topi (fun y_59 ey_60 => ?_)
                            obtain rfl : y_59 = (nI D) := by rw [ey_60]; exact (show (zt 5) = (nI D) from e5)
                            refine lv_iload hx hb dL_shop_435 (lv_at hl 2 rfl) ?_
                            refine kz_rdS (As := [.int (nI D), .int (nI (8 * k0 + c0))]) (rest := [.ref nt, .ref nv, .ref nl, .int w0]) ⟨hx, hb, hml, hown, hts⟩ (c_L_code l G D (8 * k0 + c0) (by omega) (by omega)) (va_cwS 2 hts gL_shop_L_code rfl rfl rfl (by decide +kernel) ⟨Nat.le_of_ble_eq_true rfl, Nat.le_of_ble_eq_true rfl⟩) hK (hP.sub (cs := []) [] rfl) rfl hl.1 rfl (Nat.le_of_ble_eq_true rfl) dL_shop_437 ⟨Nat.le_of_ble_eq_true rfl, Nat.le_of_ble_eq_true rfl⟩ ?_
                            refine kz_rdS (As := [.ref nl, .ref nv, .ref nt, .int (nI (ps_cd (D % 7 + 1) (8 * k0 + c0)))]) (rest := [.int w0]) ⟨hx, hb, hml, hown, hts⟩ (c_L_until l G nl zl nv zv nt zt (nI (ps_cd (D % 7 + 1) (8 * k0 + c0))) (by assumption)) (va_cwS 4 hts gL_shop_L_until rfl rfl rfl (by decide +kernel) ⟨Nat.le_of_ble_eq_true rfl, Nat.le_of_ble_eq_true rfl⟩) hK (hP.sub (cs := [[(nl, .inl (G.2.1, 64, .inl zl))], [(nv, .inl (G.2.1, 64, .inl zv))], [(nt, .inl (G.2.1, 10, .inl zt))]]) [5, 6, 11] rfl) rfl hl.1 rfl (Nat.le_of_ble_eq_true rfl) dL_shop_440 ⟨Nat.le_of_ble_eq_true rfl, Nat.le_of_ble_eq_true rfl⟩ ?_
                            refine lv_aload hx hb dL_shop_443 (lv_at hl 17 rfl) ?_
                            refine lv_iconst (v := 5) hx hb dL_shop_445 (by decide +kernel) ?_
                            refine va_iald (f := zt) hx hb hK.1 hP 21 0 rfl rfl (vp_in_nI (n := 5) (N := 10) (by decide) (by decide)) dL_shop_446 ?_
                            refine lv_topi (fun y_61 ey_62 => ?_)
                            obtain rfl : y_61 = (nI D) := by rw [ey_62]; exact (show (zt 5) = (nI D) from e5)
                            refine lv_icmp_le (tgt := 454) hx hb dL_shop_447 (by decide) (fun c_63 => ?_) (fun c_63 => ?_)
                            · have hre : ¬ X1_restsToday_p S (8 * k0 + c0) := fun q => (ps_rTD h hN hD (by omega)).mp q c_63
                              refine lv_iconst (v := 0) hx hb dL_shop_454 (by decide +kernel) ?_
                              refine lv_iadd hx hb dL_shop_455 ?_
                              refine lv_istore (lv' := [(15, .int (w0 + 0)), (14, .int (z0 + 0)), (17, .int 1), (16, .int (nI (8 * k0 + c0))), (13, .int (nI k0)), (12, .int y0), (11, .int x0), (0, .ref x), (1, .ref np), (2, .ref nq), (3, .ref nc), (4, .ref nl), (5, .ref nv), (6, .ref ng), (7, .ref nu), (8, .ref nf), (9, .ref nk), (10, .ref nt)]) hx hb dL_shop_456 hl (by decide) rfl (fun ls hl => ?_)
                              refine lv_iload hx hb dL_shop_458 (lv_at hl 2 rfl) ?_
                              refine lv_if_eq (tgt := 481) hx hb dL_shop_460 (by decide) (fun c => absurd c (by decide)) (fun _ => ?_)
                              refine lv_aload_n hx hb dL_shop_463 rfl (lv_at hl 7 rfl) ?_
                              refine lv_iload hx hb dL_shop_464 (lv_at hl 4 rfl) ?_
                              refine lv_iload hx hb dL_shop_466 (lv_at hl 3 rfl) ?_
                              refine lv_bipush (v := 8) hx hb dL_shop_468 (by decide +kernel) ?_
                              refine lv_irem hx hb dL_shop_470 (by decide +kernel) ?_
                              refine kz_topR ?_
                              refine lv_topi (fun y_64 ey_65 => ?_)
                              obtain rfl : y_64 = (nI c0) := by rw [ey_65]; exact (kz_remN (d := 8) (by omega) (by omega) (by omega)).trans (congrArg nI (by omega))
                              refine kz_rdV (As := [.int (nI k0), .int (nI c0)]) (rest := []) (b := x) ⟨hx, hb, hml, hown, hts⟩ (c_X3_codeAt l G x u1 u2 u3 u4 V a S (nI k0) (nI c0)) (cwV 2 hts gL_shop_X3_codeAt rfl rfl rfl (by decide +kernel) ⟨Nat.le_of_ble_eq_true rfl, Nat.le_of_ble_eq_true rfl⟩) hK (hP.sub (cs := [xoW x (a 0) u1 u2 u3 u4 V, shW G a S]) [0, 1] rfl) (kz_recv hK hP (ci := 3) (q0 := 0) rfl rfl) rfl hl.1 rfl (Nat.le_of_ble_eq_true rfl) dL_shop_471 ⟨Nat.le_of_ble_eq_true rfl, Nat.le_of_ble_eq_true rfl⟩ ?_
                              refine lv_bipush (v := (-6)) hx hb dL_shop_474 (by decide +kernel) ?_
                              refine lv_icmp_eq (tgt := 481) hx hb dL_shop_476 (by decide) (fun c_66 => ?_) (fun c => absurd c (by exact fun z => z (ps_aFree hk6 (by omega) hf)))
                              refine lv_iinc (v := (nI ((8 * k0 + c0) + 1))) (lv' := [(16, .int (nI ((8 * k0 + c0) + 1))), (15, .int (w0 + 0)), (14, .int (z0 + 0)), (17, .int 1), (13, .int (nI k0)), (12, .int y0), (11, .int x0), (0, .ref x), (1, .ref np), (2, .ref nq), (3, .ref nc), (4, .ref nl), (5, .ref nv), (6, .ref ng), (7, .ref nu), (8, .ref nf), (9, .ref nk), (10, .ref nt)]) hx hb dL_shop_481 hl (k := 3) rfl (nI_1 _) (by decide) rfl (fun ls hl => ?_)
                              refine lv_goto (tgt := 372) hx hb dL_shop_484 (by decide) ?_
                              exact ih372_49 (c0 + 1) (z0 + 0) (w0 + 0) (by omega) (by omega) (by rw [Int32.add_zero, hz]; exact kz_cn_f (P := fun j => ¬ X1_isFree_p S (8 * k0 + j)) (fun q => q hf)) (by rw [Int32.add_zero, hw]; exact kz_cn_f (P := fun j => X1_isFree_p S (8 * k0 + j) ∧ X1_restsToday_p S (8 * k0 + j)) (fun q => hre q.2)) ls (lv_sub hl [0, 1, 2, 4, 5, 6, 7, 8, 9, 10, 11, 12, 13, 14, 15, 16, 17] rfl)
                            · have hre : X1_restsToday_p S (8 * k0 + c0) := (ps_rTD h hN hD (by omega)).mpr c_63
                              refine lv_iconst (v := 1) hx hb dL_shop_450 (by decide +kernel) ?_
                              refine lv_goto (tgt := 455) hx hb dL_shop_451 (by decide) ?_
                              refine lv_iadd hx hb dL_shop_455 ?_
                              refine lv_istore (lv' := [(15, .int (w0 + 1)), (14, .int (z0 + 0)), (17, .int 1), (16, .int (nI (8 * k0 + c0))), (13, .int (nI k0)), (12, .int y0), (11, .int x0), (0, .ref x), (1, .ref np), (2, .ref nq), (3, .ref nc), (4, .ref nl), (5, .ref nv), (6, .ref ng), (7, .ref nu), (8, .ref nf), (9, .ref nk), (10, .ref nt)]) hx hb dL_shop_456 hl (by decide) rfl (fun ls hl => ?_)
                              refine lv_iload hx hb dL_shop_458 (lv_at hl 2 rfl) ?_
                              refine lv_if_eq (tgt := 481) hx hb dL_shop_460 (by decide) (fun c => absurd c (by decide)) (fun _ => ?_)
                              refine lv_aload_n hx hb dL_shop_463 rfl (lv_at hl 7 rfl) ?_
                              refine lv_iload hx hb dL_shop_464 (lv_at hl 4 rfl) ?_
                              refine lv_iload hx hb dL_shop_466 (lv_at hl 3 rfl) ?_
                              refine lv_bipush (v := 8) hx hb dL_shop_468 (by decide +kernel) ?_
                              refine lv_irem hx hb dL_shop_470 (by decide +kernel) ?_
                              refine kz_topR ?_
                              refine lv_topi (fun y_67 ey_68 => ?_)
                              obtain rfl : y_67 = (nI c0) := by rw [ey_68]; exact (kz_remN (d := 8) (by omega) (by omega) (by omega)).trans (congrArg nI (by omega))
                              refine kz_rdV (As := [.int (nI k0), .int (nI c0)]) (rest := []) (b := x) ⟨hx, hb, hml, hown, hts⟩ (c_X3_codeAt l G x u1 u2 u3 u4 V a S (nI k0) (nI c0)) (cwV 2 hts gL_shop_X3_codeAt rfl rfl rfl (by decide +kernel) ⟨Nat.le_of_ble_eq_true rfl, Nat.le_of_ble_eq_true rfl⟩) hK (hP.sub (cs := [xoW x (a 0) u1 u2 u3 u4 V, shW G a S]) [0, 1] rfl) (kz_recv hK hP (ci := 3) (q0 := 0) rfl rfl) rfl hl.1 rfl (Nat.le_of_ble_eq_true rfl) dL_shop_471 ⟨Nat.le_of_ble_eq_true rfl, Nat.le_of_ble_eq_true rfl⟩ ?_
                              refine lv_bipush (v := (-6)) hx hb dL_shop_474 (by decide +kernel) ?_
                              refine lv_icmp_eq (tgt := 481) hx hb dL_shop_476 (by decide) (fun c_69 => ?_) (fun c => absurd c (by exact fun z => z (ps_aFree hk6 (by omega) hf)))
                              refine lv_iinc (v := (nI ((8 * k0 + c0) + 1))) (lv' := [(16, .int (nI ((8 * k0 + c0) + 1))), (15, .int (w0 + 1)), (14, .int (z0 + 0)), (17, .int 1), (13, .int (nI k0)), (12, .int y0), (11, .int x0), (0, .ref x), (1, .ref np), (2, .ref nq), (3, .ref nc), (4, .ref nl), (5, .ref nv), (6, .ref ng), (7, .ref nu), (8, .ref nf), (9, .ref nk), (10, .ref nt)]) hx hb dL_shop_481 hl (k := 3) rfl (nI_1 _) (by decide) rfl (fun ls hl => ?_)
                              refine lv_goto (tgt := 372) hx hb dL_shop_484 (by decide) ?_
                              exact ih372_49 (c0 + 1) (z0 + 0) (w0 + 1) (by omega) (by omega) (by rw [Int32.add_zero, hz]; exact kz_cn_f (P := fun j => ¬ X1_isFree_p S (8 * k0 + j)) (fun q => q hf)) (by rw [hw]; exact kz_cn_t (P := fun j => X1_isFree_p S (8 * k0 + j) ∧ X1_restsToday_p S (8 * k0 + j)) ⟨hf, hre⟩) ls (lv_sub hl [0, 1, 2, 4, 5, 6, 7, 8, 9, 10, 11, 12, 13, 14, 15, 16, 17] rfl)
                    exact L372_48 _ 0 0 0 (Nat.lt_succ_self _) (Nat.zero_le _) rfl rfl ls (lv_sub hl [0, 1, 2, 3, 4, 5, 6, 7, 8, 9, 10, 11, 12, 13, 14, 15, 16] rfl)
              exact L352_9 _ 0 (Nat.lt_succ_self _) (Nat.zero_le _) ls (lv_sub hl [0, 1, 2, 3, 4, 5, 6, 7, 8, 9, 10, 11, 12, 13] rfl)
            · have hlt := kz_gt (a := 10) (b := s0) c_8 (by omega) (by omega)
              have hs10 : s0 < 10 := hlt
              refine lv_iconst (v := 0) hx hb dL_shop_219 (by decide +kernel) ?_
              refine lv_istore (lv' := [(14, .int 0), (13, .int (nI s0)), (12, .int y0), (11, .int x0), (0, .ref x), (1, .ref np), (2, .ref nq), (3, .ref nc), (4, .ref nl), (5, .ref nv), (6, .ref ng), (7, .ref nu), (8, .ref nf), (9, .ref nk), (10, .ref nt)]) hx hb dL_shop_220 hl (by decide) rfl (fun ls hl => ?_)
              refine lv_iconst (v := 0) hx hb dL_shop_222 (by decide +kernel) ?_
              refine lv_istore (lv' := [(15, .int 0), (14, .int 0), (13, .int (nI s0)), (12, .int y0), (11, .int x0), (0, .ref x), (1, .ref np), (2, .ref nq), (3, .ref nc), (4, .ref nl), (5, .ref nv), (6, .ref ng), (7, .ref nu), (8, .ref nf), (9, .ref nk), (10, .ref nt)]) hx hb dL_shop_223 hl (by decide) rfl (fun ls hl => ?_)
              have L225_70 : ∀ (n225 : Nat) (b0 : Nat) (z0 : Int32), (n - b0 < n225) → (b0 ≤ n) → (z0 = kz_cn (fun i => ¬ zp i < 0 ∧ L_sender_r zq i = nI s0) b0) → ∀ ls : Array Slot, lv_has ls 18 [(15, .int (nI b0)), (14, .int z0), (13, .int (nI s0)), (12, .int y0), (11, .int x0), (0, .ref x), (1, .ref np), (2, .ref nq), (3, .ref nc), (4, .ref nl), (5, .ref nv), (6, .ref ng), (7, .ref nu), (8, .ref nf), (9, .ref nk), (10, .ref nt)] → W p l e (headSpec wsL_shop (kz_rm 5 112)).room s m ([.ref x, .ref np, .ref nq, .ref nc, .ref nl, .ref nv, .ref ng, .ref nu, .ref nf, .ref nk, .ref nt] : List Value).toArray below meth c s.heap [] 0 0 QQ (F0 m 225 ls []) := by
                intro n225
                induction n225 with
                | zero => intro b0 z0 h0; exact absurd h0 (Nat.not_lt_zero _)
                | succ n225 ih225_71 =>
                  intro b0 z0 hmeas225 hb1 hz ls hl
                  refine lv_iload hx hb dL_shop_225 (lv_at hl 0 rfl) ?_
                  refine lv_aload hx hb dL_shop_227 (lv_at hl 15 rfl) ?_
                  refine lv_bipush (v := 7) hx hb dL_shop_229 (by decide +kernel) ?_
                  refine va_iald (f := zt) hx hb hK.1 hP 21 0 rfl rfl (vp_in_nI (n := 7) (N := 10) (by decide) (by decide)) dL_shop_231 ?_
                  refine lv_topi (fun y_72 ey_73 => ?_)
                  obtain rfl : y_72 = (nI n) := by rw [ey_73]; exact (show (zt 7) = (nI n) from e7)
                  refine lv_icmp_ge (tgt := 269) hx hb dL_shop_232 (by decide) (fun c_74 => ?_) (fun c_74 => ?_)
                  · have hge := kz_le (a := n) (b := b0) c_74 (by omega) (by omega)
                    obtain ⟨r0, r1, r2, r3, r4⟩ := ps_aSnd (V := V) h hs10
                    have hz9 : X3_sender_r V S (nI s0) 0 = z0 := by rw [r0, ← ps_tMine h hD, hz, show b0 = n by omega]
                    refine lv_aload_n hx hb dL_shop_269 rfl (lv_at hl 5 rfl) ?_
                    refine lv_iload hx hb dL_shop_270 (lv_at hl 2 rfl) ?_
                    refine lv_iconst (v := 0) hx hb dL_shop_272 (by decide +kernel) ?_
                    refine kz_rdV (As := [.int (nI s0), .int 0]) (rest := []) (b := x) ⟨hx, hb, hml, hown, hts⟩ (c_X3_sender l G x u1 u2 u3 u4 V a S (nI s0) 0) (cwV 2 hts gL_shop_X3_sender rfl rfl rfl (by decide +kernel) ⟨Nat.le_of_ble_eq_true rfl, Nat.le_of_ble_eq_true rfl⟩) hK (hP.sub (cs := [xoW x (a 0) u1 u2 u3 u4 V, shW G a S]) [0, 1] rfl) (kz_recv hK hP (ci := 3) (q0 := 0) rfl rfl) rfl hl.1 rfl (Nat.le_of_ble_eq_true rfl) dL_shop_273 ⟨Nat.le_of_ble_eq_true rfl, Nat.le_of_ble_eq_true rfl⟩ ?_
                    refine lv_iload hx hb dL_shop_276 (lv_at hl 1 rfl) ?_
                    refine lv_icmp_ne (tgt := 341) hx hb dL_shop_278 (by decide) (fun c => absurd c (by exact fun z => z (hz9))) (fun c_75 => ?_)
                    refine lv_aload_n hx hb dL_shop_281 rfl (lv_at hl 5 rfl) ?_
                    refine lv_iload hx hb dL_shop_282 (lv_at hl 2 rfl) ?_
                    refine lv_iconst (v := 1) hx hb dL_shop_284 (by decide +kernel) ?_
                    refine kz_rdV (As := [.int (nI s0), .int 1]) (rest := []) (b := x) ⟨hx, hb, hml, hown, hts⟩ (c_X3_sender l G x u1 u2 u3 u4 V a S (nI s0) 1) (cwV 2 hts gL_shop_X3_sender rfl rfl rfl (by decide +kernel) ⟨Nat.le_of_ble_eq_true rfl, Nat.le_of_ble_eq_true rfl⟩) hK (hP.sub (cs := [xoW x (a 0) u1 u2 u3 u4 V, shW G a S]) [0, 1] rfl) (kz_recv hK hP (ci := 3) (q0 := 0) rfl rfl) rfl hl.1 rfl (Nat.le_of_ble_eq_true rfl) dL_shop_285 ⟨Nat.le_of_ble_eq_true rfl, Nat.le_of_ble_eq_true rfl⟩ ?_
                    refine lv_aload hx hb dL_shop_288 (lv_at hl 11 rfl) ?_
                    refine lv_iload hx hb dL_shop_290 (lv_at hl 2 rfl) ?_
                    refine va_iald (f := zg) hx hb hK.1 hP 17 0 rfl rfl (vp_in_nI (n := s0) (N := 10) (by omega) (by decide)) dL_shop_292 ?_
                    refine lv_topi (fun y_76 ey_77 => ?_)
                    obtain rfl : y_76 = (zg s0) := by rw [ey_77, kz_nI_clamp (n := s0) (by omega)]
                    refine lv_icmp_ne (tgt := 341) hx hb dL_shop_293 (by decide) (fun c => absurd c (by exact fun z => z (r1))) (fun c_78 => ?_)
                    refine lv_aload_n hx hb dL_shop_296 rfl (lv_at hl 5 rfl) ?_
                    refine lv_iload hx hb dL_shop_297 (lv_at hl 2 rfl) ?_
                    refine lv_iconst (v := 2) hx hb dL_shop_299 (by decide +kernel) ?_
                    refine kz_rdV (As := [.int (nI s0), .int 2]) (rest := []) (b := x) ⟨hx, hb, hml, hown, hts⟩ (c_X3_sender l G x u1 u2 u3 u4 V a S (nI s0) 2) (cwV 2 hts gL_shop_X3_sender rfl rfl rfl (by decide +kernel) ⟨Nat.le_of_ble_eq_true rfl, Nat.le_of_ble_eq_true rfl⟩) hK (hP.sub (cs := [xoW x (a 0) u1 u2 u3 u4 V, shW G a S]) [0, 1] rfl) (kz_recv hK hP (ci := 3) (q0 := 0) rfl rfl) rfl hl.1 rfl (Nat.le_of_ble_eq_true rfl) dL_shop_300 ⟨Nat.le_of_ble_eq_true rfl, Nat.le_of_ble_eq_true rfl⟩ ?_
                    refine lv_aload hx hb dL_shop_303 (lv_at hl 12 rfl) ?_
                    refine lv_iload hx hb dL_shop_305 (lv_at hl 2 rfl) ?_
                    refine va_iald (f := zu) hx hb hK.1 hP 18 0 rfl rfl (vp_in_nI (n := s0) (N := 10) (by omega) (by decide)) dL_shop_307 ?_
                    refine lv_topi (fun y_79 ey_80 => ?_)
                    obtain rfl : y_79 = (zu s0) := by rw [ey_80, kz_nI_clamp (n := s0) (by omega)]
                    refine lv_icmp_ne (tgt := 341) hx hb dL_shop_308 (by decide) (fun c => absurd c (by exact fun z => z (r2))) (fun c_81 => ?_)
                    refine lv_aload_n hx hb dL_shop_311 rfl (lv_at hl 5 rfl) ?_
                    refine lv_iload hx hb dL_shop_312 (lv_at hl 2 rfl) ?_
                    refine lv_iconst (v := 3) hx hb dL_shop_314 (by decide +kernel) ?_
                    refine kz_rdV (As := [.int (nI s0), .int 3]) (rest := []) (b := x) ⟨hx, hb, hml, hown, hts⟩ (c_X3_sender l G x u1 u2 u3 u4 V a S (nI s0) 3) (cwV 2 hts gL_shop_X3_sender rfl rfl rfl (by decide +kernel) ⟨Nat.le_of_ble_eq_true rfl, Nat.le_of_ble_eq_true rfl⟩) hK (hP.sub (cs := [xoW x (a 0) u1 u2 u3 u4 V, shW G a S]) [0, 1] rfl) (kz_recv hK hP (ci := 3) (q0 := 0) rfl rfl) rfl hl.1 rfl (Nat.le_of_ble_eq_true rfl) dL_shop_315 ⟨Nat.le_of_ble_eq_true rfl, Nat.le_of_ble_eq_true rfl⟩ ?_
                    refine lv_aload hx hb dL_shop_318 (lv_at hl 13 rfl) ?_
                    refine lv_iload hx hb dL_shop_320 (lv_at hl 2 rfl) ?_
                    refine va_iald (f := zf) hx hb hK.1 hP 19 0 rfl rfl (vp_in_nI (n := s0) (N := 10) (by omega) (by decide)) dL_shop_322 ?_
                    refine lv_topi (fun y_82 ey_83 => ?_)
                    obtain rfl : y_82 = (zf s0) := by rw [ey_83, kz_nI_clamp (n := s0) (by omega)]
                    refine lv_icmp_ne (tgt := 341) hx hb dL_shop_323 (by decide) (fun c => absurd c (by exact fun z => z (r3))) (fun c_84 => ?_)
                    refine lv_aload_n hx hb dL_shop_326 rfl (lv_at hl 5 rfl) ?_
                    refine lv_iload hx hb dL_shop_327 (lv_at hl 2 rfl) ?_
                    refine lv_iconst (v := 4) hx hb dL_shop_329 (by decide +kernel) ?_
                    refine kz_rdV (As := [.int (nI s0), .int 4]) (rest := []) (b := x) ⟨hx, hb, hml, hown, hts⟩ (c_X3_sender l G x u1 u2 u3 u4 V a S (nI s0) 4) (cwV 2 hts gL_shop_X3_sender rfl rfl rfl (by decide +kernel) ⟨Nat.le_of_ble_eq_true rfl, Nat.le_of_ble_eq_true rfl⟩) hK (hP.sub (cs := [xoW x (a 0) u1 u2 u3 u4 V, shW G a S]) [0, 1] rfl) (kz_recv hK hP (ci := 3) (q0 := 0) rfl rfl) rfl hl.1 rfl (Nat.le_of_ble_eq_true rfl) dL_shop_330 ⟨Nat.le_of_ble_eq_true rfl, Nat.le_of_ble_eq_true rfl⟩ ?_
                    refine lv_aload hx hb dL_shop_333 (lv_at hl 14 rfl) ?_
                    refine lv_iload hx hb dL_shop_335 (lv_at hl 2 rfl) ?_
                    refine va_iald (f := zk) hx hb hK.1 hP 20 0 rfl rfl (vp_in_nI (n := s0) (N := 10) (by omega) (by decide)) dL_shop_337 ?_
                    refine lv_topi (fun y_85 ey_86 => ?_)
                    obtain rfl : y_85 = (zk s0) := by rw [ey_86, kz_nI_clamp (n := s0) (by omega)]
                    refine lv_icmp_eq (tgt := 343) hx hb dL_shop_338 (by decide) (fun c_87 => ?_) (fun c => absurd c (by exact fun z => z (r4)))
                    refine lv_iinc (v := (nI (s0 + 1))) (lv' := [(13, .int (nI (s0 + 1))), (15, .int (nI b0)), (14, .int z0), (12, .int y0), (11, .int x0), (0, .ref x), (1, .ref np), (2, .ref nq), (3, .ref nc), (4, .ref nl), (5, .ref nv), (6, .ref ng), (7, .ref nu), (8, .ref nf), (9, .ref nk), (10, .ref nt)]) hx hb dL_shop_343 hl (k := 2) rfl (nI_1 _) (by decide) rfl (fun ls hl => ?_)
                    refine lv_goto (tgt := 212) hx hb dL_shop_346 (by decide) ?_
                    exact ih212_7 (s0 + 1) (by omega) (by omega) ls (lv_sub hl [0, 3, 4, 5, 6, 7, 8, 9, 10, 11, 12, 13, 14, 15] rfl)
                  · have hlt := kz_gt (a := n) (b := b0) c_74 (by omega) (by omega)
                    refine lv_iload hx hb dL_shop_235 (lv_at hl 1 rfl) ?_
                    refine lv_aload_n hx hb dL_shop_237 rfl (lv_at hl 6 rfl) ?_
                    refine lv_iload hx hb dL_shop_238 (lv_at hl 0 rfl) ?_
                    refine va_iald (f := zp) hx hb hK.1 hP 12 0 rfl rfl (vp_in_nI (n := b0) (N := 64) (by omega) (by decide)) dL_shop_240 ?_
                    refine lv_topi (fun y_88 ey_89 => ?_)
                    obtain rfl : y_88 = (zp b0) := by rw [ey_89, kz_nI_clamp (n := b0) (by omega)]
                    refine lv_if_lt (tgt := 259) hx hb dL_shop_241 (by decide) (fun c_90 => ?_) (fun c_90 => ?_)
                    · refine lv_iconst (v := 0) hx hb dL_shop_259 (by decide +kernel) ?_
                      refine lv_iadd hx hb dL_shop_260 ?_
                      refine lv_istore (lv' := [(14, .int (z0 + 0)), (15, .int (nI b0)), (13, .int (nI s0)), (12, .int y0), (11, .int x0), (0, .ref x), (1, .ref np), (2, .ref nq), (3, .ref nc), (4, .ref nl), (5, .ref nv), (6, .ref ng), (7, .ref nu), (8, .ref nf), (9, .ref nk), (10, .ref nt)]) hx hb dL_shop_261 hl (by decide) rfl (fun ls hl => ?_)
                      refine lv_iinc (v := (nI (b0 + 1))) (lv' := [(15, .int (nI (b0 + 1))), (14, .int (z0 + 0)), (13, .int (nI s0)), (12, .int y0), (11, .int x0), (0, .ref x), (1, .ref np), (2, .ref nq), (3, .ref nc), (4, .ref nl), (5, .ref nv), (6, .ref ng), (7, .ref nu), (8, .ref nf), (9, .ref nk), (10, .ref nt)]) hx hb dL_shop_263 hl (k := 1) rfl (nI_1 _) (by decide) rfl (fun ls hl => ?_)
                      refine lv_goto (tgt := 225) hx hb dL_shop_266 (by decide) ?_
                      exact ih225_71 (b0 + 1) (z0 + 0) (by omega) (by omega) (by rw [Int32.add_zero, hz]; exact kz_cn_f (P := fun i => ¬ zp i < 0 ∧ L_sender_r zq i = nI s0) (fun q => q.1 c_90)) ls (lv_sub hl [0, 1, 2, 3, 4, 5, 6, 7, 8, 9, 10, 11, 12, 13, 14, 15] rfl)
                    · refine lv_aload_n hx hb dL_shop_244 rfl (lv_at hl 7 rfl) ?_
                      refine lv_iload hx hb dL_shop_245 (lv_at hl 0 rfl) ?_
                      refine kz_rdS (As := [.ref nq, .int (nI b0)]) (rest := [.int z0]) ⟨hx, hb, hml, hown, hts⟩ (c_L_sender l G nq zq b0 (by omega)) (va_cwS 2 hts gL_shop_L_sender rfl rfl rfl (by decide +kernel) ⟨Nat.le_of_ble_eq_true rfl, Nat.le_of_ble_eq_true rfl⟩) hK (hP.sub (cs := [[(nq, .inl (G.2.1, 64, .inl zq))]]) [3] rfl) rfl hl.1 rfl (Nat.le_of_ble_eq_true rfl) dL_shop_247 ⟨Nat.le_of_ble_eq_true rfl, Nat.le_of_ble_eq_true rfl⟩ ?_
                      refine lv_iload hx hb dL_shop_250 (lv_at hl 2 rfl) ?_
                      refine lv_icmp_ne (tgt := 259) hx hb dL_shop_252 (by decide) (fun c_91 => ?_) (fun c_91 => ?_)
                      · refine lv_iconst (v := 0) hx hb dL_shop_259 (by decide +kernel) ?_
                        refine lv_iadd hx hb dL_shop_260 ?_
                        refine lv_istore (lv' := [(14, .int (z0 + 0)), (15, .int (nI b0)), (13, .int (nI s0)), (12, .int y0), (11, .int x0), (0, .ref x), (1, .ref np), (2, .ref nq), (3, .ref nc), (4, .ref nl), (5, .ref nv), (6, .ref ng), (7, .ref nu), (8, .ref nf), (9, .ref nk), (10, .ref nt)]) hx hb dL_shop_261 hl (by decide) rfl (fun ls hl => ?_)
                        refine lv_iinc (v := (nI (b0 + 1))) (lv' := [(15, .int (nI (b0 + 1))), (14, .int (z0 + 0)), (13, .int (nI s0)), (12, .int y0), (11, .int x0), (0, .ref x), (1, .ref np), (2, .ref nq), (3, .ref nc), (4, .ref nl), (5, .ref nv), (6, .ref ng), (7, .ref nu), (8, .ref nf), (9, .ref nk), (10, .ref nt)]) hx hb dL_shop_263 hl (k := 1) rfl (nI_1 _) (by decide) rfl (fun ls hl => ?_)
                        refine lv_goto (tgt := 225) hx hb dL_shop_266 (by decide) ?_
                        exact ih225_71 (b0 + 1) (z0 + 0) (by omega) (by omega) (by rw [Int32.add_zero, hz]; exact kz_cn_f (P := fun i => ¬ zp i < 0 ∧ L_sender_r zq i = nI s0) (fun q => c_91 q.2)) ls (lv_sub hl [0, 1, 2, 3, 4, 5, 6, 7, 8, 9, 10, 11, 12, 13, 14, 15] rfl)
                      · refine lv_iconst (v := 1) hx hb dL_shop_255 (by decide +kernel) ?_
                        refine lv_goto (tgt := 260) hx hb dL_shop_256 (by decide) ?_
                        refine lv_iadd hx hb dL_shop_260 ?_
                        refine lv_istore (lv' := [(14, .int (z0 + 1)), (15, .int (nI b0)), (13, .int (nI s0)), (12, .int y0), (11, .int x0), (0, .ref x), (1, .ref np), (2, .ref nq), (3, .ref nc), (4, .ref nl), (5, .ref nv), (6, .ref ng), (7, .ref nu), (8, .ref nf), (9, .ref nk), (10, .ref nt)]) hx hb dL_shop_261 hl (by decide) rfl (fun ls hl => ?_)
                        refine lv_iinc (v := (nI (b0 + 1))) (lv' := [(15, .int (nI (b0 + 1))), (14, .int (z0 + 1)), (13, .int (nI s0)), (12, .int y0), (11, .int x0), (0, .ref x), (1, .ref np), (2, .ref nq), (3, .ref nc), (4, .ref nl), (5, .ref nv), (6, .ref ng), (7, .ref nu), (8, .ref nf), (9, .ref nk), (10, .ref nt)]) hx hb dL_shop_263 hl (k := 1) rfl (nI_1 _) (by decide) rfl (fun ls hl => ?_)
                        refine lv_goto (tgt := 225) hx hb dL_shop_266 (by decide) ?_
                        exact ih225_71 (b0 + 1) (z0 + 1) (by omega) (by omega) (by rw [hz]; exact kz_cn_t (P := fun i => ¬ zp i < 0 ∧ L_sender_r zq i = nI s0) ⟨c_90, c_91⟩) ls (lv_sub hl [0, 1, 2, 3, 4, 5, 6, 7, 8, 9, 10, 11, 12, 13, 14, 15] rfl)
              exact L225_70 _ 0 0 (Nat.lt_succ_self _) (Nat.zero_le _) rfl ls (lv_sub hl [0, 1, 2, 3, 4, 5, 6, 7, 8, 9, 10, 11, 12, 13, 14, 15] rfl)
        exact L212_6 _ 0 (Nat.lt_succ_self _) (Nat.zero_le _) ls (lv_sub hl [0, 1, 2, 3, 4, 5, 6, 7, 8, 9, 10, 11, 12, 13] rfl)
      · have hlt := kz_gt (a := n) (b := i) c_5 (by omega) (by omega)
        refine lv_aload_n hx hb dL_shop_19 rfl (lv_at hl 4 rfl) ?_
        refine lv_iload hx hb dL_shop_20 (lv_at hl 0 rfl) ?_
        refine va_iald (f := zp) hx hb hK.1 hP 12 0 rfl rfl (vp_in_nI (n := i) (N := 64) (by omega) (by decide)) dL_shop_22 ?_
        refine lv_topi (fun y_92 ey_93 => ?_)
        obtain rfl : y_92 = (zp i) := by rw [ey_93, kz_nI_clamp (n := i) (by omega)]
        refine lv_if_lt (tgt := 203) hx hb dL_shop_23 (by decide) (fun c_94 => ?_) (fun c_94 => ?_)
        · refine lv_iinc (v := (nI (i + 1))) (lv' := [(13, .int (nI (i + 1))), (12, .int y0), (11, .int x0), (0, .ref x), (1, .ref np), (2, .ref nq), (3, .ref nc), (4, .ref nl), (5, .ref nv), (6, .ref ng), (7, .ref nu), (8, .ref nf), (9, .ref nk), (10, .ref nt)]) hx hb dL_shop_203 hl (k := 0) rfl (nI_1 _) (by decide) rfl (fun ls hl => ?_)
          refine lv_goto (tgt := 9) hx hb dL_shop_206 (by decide) ?_
          exact ih9_2 (i + 1) x0 y0 (by omega) (by omega) (hxx.trans (kz_cn_f (P := fun i => ¬ zp i < 0) (fun q => q c_94))) (hyy.trans (kz_sp_f (P := fun i => ¬ zp i < 0) (fun q => q c_94))) ls (lv_sub hl [0, 1, 2, 3, 4, 5, 6, 7, 8, 9, 10, 11, 12, 13] rfl)
        · obtain ⟨j, hj, ej⟩ := ps_there h.2.2.1 hlt c_94
          obtain ⟨q0, q1, q2, q3, q4, q5⟩ := ps_aPar (V := V) h hD hlt hj ej
          obtain ⟨q6, q7⟩ := ps_aAt (V := V) h hlt hj ej
          refine lv_iinc (v := (x0 + 1)) (lv' := [(11, .int (x0 + 1)), (13, .int (nI i)), (12, .int y0), (0, .ref x), (1, .ref np), (2, .ref nq), (3, .ref nc), (4, .ref nl), (5, .ref nv), (6, .ref ng), (7, .ref nu), (8, .ref nf), (9, .ref nk), (10, .ref nt)]) hx hb dL_shop_26 hl (k := 2) rfl rfl (by decide) rfl (fun ls hl => ?_)
          refine lv_iload hx hb dL_shop_29 (lv_at hl 2 rfl) ?_
          refine lv_aload_n hx hb dL_shop_31 rfl (lv_at hl 5 rfl) ?_
          refine lv_aload hx hb dL_shop_32 (lv_at hl 13 rfl) ?_
          refine lv_iload hx hb dL_shop_34 (lv_at hl 1 rfl) ?_
          refine lv_aload hx hb dL_shop_36 (lv_at hl 13 rfl) ?_
          refine lv_iconst (v := 5) hx hb dL_shop_38 (by decide +kernel) ?_
          refine va_iald (f := zt) hx hb hK.1 hP 21 0 rfl rfl (vp_in_nI (n := 5) (N := 10) (by decide) (by decide)) dL_shop_39 ?_
          refine lv_topi (fun y_95 ey_96 => ?_)
          obtain rfl : y_95 = (nI D) := by rw [ey_96]; exact (show (zt 5) = (nI D) from e5)
          refine kz_rdS (As := [.ref nq, .ref nt, .int (nI i), .int (nI D)]) (rest := [.int y0]) ⟨hx, hb, hml, hown, hts⟩ (c_L_fee l G nq zq nt zt i (nI D) (by omega)) (va_cwS 4 hts gL_shop_L_fee rfl rfl rfl (by decide +kernel) ⟨Nat.le_of_ble_eq_true rfl, Nat.le_of_ble_eq_true rfl⟩) hK (hP.sub (cs := [[(nq, .inl (G.2.1, 64, .inl zq))], [(nt, .inl (G.2.1, 10, .inl zt))]]) [3, 11] rfl) rfl hl.1 rfl (Nat.le_of_ble_eq_true rfl) dL_shop_40 ⟨Nat.le_of_ble_eq_true rfl, Nat.le_of_ble_eq_true rfl⟩ ?_
          refine lv_iadd hx hb dL_shop_43 ?_
          refine lv_istore (lv' := [(12, .int (y0 + (L_fee_r zq zt i (nI D)))), (11, .int (x0 + 1)), (13, .int (nI i)), (0, .ref x), (1, .ref np), (2, .ref nq), (3, .ref nc), (4, .ref nl), (5, .ref nv), (6, .ref ng), (7, .ref nu), (8, .ref nf), (9, .ref nk), (10, .ref nt)]) hx hb dL_shop_44 hl (by decide) rfl (fun ls hl => ?_)
          refine lv_aload_n hx hb dL_shop_46 rfl (lv_at hl 3 rfl) ?_
          refine lv_aload_n hx hb dL_shop_47 rfl (lv_at hl 6 rfl) ?_
          refine lv_iload hx hb dL_shop_48 (lv_at hl 2 rfl) ?_
          refine va_iald (f := zc) hx hb hK.1 hP 14 0 rfl rfl (vp_in_nI (n := i) (N := 64) (by omega) (by decide)) dL_shop_50 ?_
          refine lv_topi (fun y_97 ey_98 => ?_)
          obtain rfl : y_97 = (zc i) := by rw [ey_98, kz_nI_clamp (n := i) (by omega)]
          refine lv_iconst (v := 0) hx hb dL_shop_51 (by decide +kernel) ?_
          refine kz_rdV (As := [.int (zc i), .int 0]) (rest := []) (b := x) ⟨hx, hb, hml, hown, hts⟩ (c_X3_parcel l G x u1 u2 u3 u4 V a S (zc i) 0) (cwV 2 hts gL_shop_X3_parcel rfl rfl rfl (by decide +kernel) ⟨Nat.le_of_ble_eq_true rfl, Nat.le_of_ble_eq_true rfl⟩) hK (hP.sub (cs := [xoW x (a 0) u1 u2 u3 u4 V, shW G a S]) [0, 1] rfl) (kz_recv hK hP (ci := 3) (q0 := 0) rfl rfl) rfl hl.1 rfl (Nat.le_of_ble_eq_true rfl) dL_shop_52 ⟨Nat.le_of_ble_eq_true rfl, Nat.le_of_ble_eq_true rfl⟩ ?_
          refine lv_aload_n hx hb dL_shop_55 rfl (lv_at hl 5 rfl) ?_
          refine lv_iload hx hb dL_shop_56 (lv_at hl 2 rfl) ?_
          refine kz_rdS (As := [.ref nq, .int (nI i)]) (rest := [.int (X3_parcel_r V S (zc i) 0)]) ⟨hx, hb, hml, hown, hts⟩ (c_L_sender l G nq zq i (by omega)) (va_cwS 2 hts gL_shop_L_sender rfl rfl rfl (by decide +kernel) ⟨Nat.le_of_ble_eq_true rfl, Nat.le_of_ble_eq_true rfl⟩) hK (hP.sub (cs := [[(nq, .inl (G.2.1, 64, .inl zq))]]) [3] rfl) rfl hl.1 rfl (Nat.le_of_ble_eq_true rfl) dL_shop_58 ⟨Nat.le_of_ble_eq_true rfl, Nat.le_of_ble_eq_true rfl⟩ ?_
          refine lv_icmp_ne (tgt := 201) hx hb dL_shop_61 (by decide) (fun c => absurd c (by exact fun z => z (q0))) (fun c_99 => ?_)
          refine lv_aload_n hx hb dL_shop_64 rfl (lv_at hl 3 rfl) ?_
          refine lv_aload_n hx hb dL_shop_65 rfl (lv_at hl 6 rfl) ?_
          refine lv_iload hx hb dL_shop_66 (lv_at hl 2 rfl) ?_
          refine va_iald (f := zc) hx hb hK.1 hP 14 0 rfl rfl (vp_in_nI (n := i) (N := 64) (by omega) (by decide)) dL_shop_68 ?_
          refine lv_topi (fun y_100 ey_101 => ?_)
          obtain rfl : y_100 = (zc i) := by rw [ey_101, kz_nI_clamp (n := i) (by omega)]
          refine lv_iconst (v := 1) hx hb dL_shop_69 (by decide +kernel) ?_
          refine kz_rdV (As := [.int (zc i), .int 1]) (rest := []) (b := x) ⟨hx, hb, hml, hown, hts⟩ (c_X3_parcel l G x u1 u2 u3 u4 V a S (zc i) 1) (cwV 2 hts gL_shop_X3_parcel rfl rfl rfl (by decide +kernel) ⟨Nat.le_of_ble_eq_true rfl, Nat.le_of_ble_eq_true rfl⟩) hK (hP.sub (cs := [xoW x (a 0) u1 u2 u3 u4 V, shW G a S]) [0, 1] rfl) (kz_recv hK hP (ci := 3) (q0 := 0) rfl rfl) rfl hl.1 rfl (Nat.le_of_ble_eq_true rfl) dL_shop_70 ⟨Nat.le_of_ble_eq_true rfl, Nat.le_of_ble_eq_true rfl⟩ ?_
          refine lv_aload_n hx hb dL_shop_73 rfl (lv_at hl 5 rfl) ?_
          refine lv_iload hx hb dL_shop_74 (lv_at hl 2 rfl) ?_
          refine kz_rdS (As := [.ref nq, .int (nI i)]) (rest := [.int (X3_parcel_r V S (zc i) 1)]) ⟨hx, hb, hml, hown, hts⟩ (c_L_size l G nq zq i (by omega)) (va_cwS 2 hts gL_shop_L_size rfl rfl rfl (by decide +kernel) ⟨Nat.le_of_ble_eq_true rfl, Nat.le_of_ble_eq_true rfl⟩) hK (hP.sub (cs := [[(nq, .inl (G.2.1, 64, .inl zq))]]) [3] rfl) rfl hl.1 rfl (Nat.le_of_ble_eq_true rfl) dL_shop_76 ⟨Nat.le_of_ble_eq_true rfl, Nat.le_of_ble_eq_true rfl⟩ ?_
          refine lv_icmp_ne (tgt := 201) hx hb dL_shop_79 (by decide) (fun c => absurd c (by exact fun z => z (q1))) (fun c_102 => ?_)
          refine lv_aload_n hx hb dL_shop_82 rfl (lv_at hl 3 rfl) ?_
          refine lv_aload_n hx hb dL_shop_83 rfl (lv_at hl 6 rfl) ?_
          refine lv_iload hx hb dL_shop_84 (lv_at hl 2 rfl) ?_
          refine va_iald (f := zc) hx hb hK.1 hP 14 0 rfl rfl (vp_in_nI (n := i) (N := 64) (by omega) (by decide)) dL_shop_86 ?_
          refine lv_topi (fun y_103 ey_104 => ?_)
          obtain rfl : y_103 = (zc i) := by rw [ey_104, kz_nI_clamp (n := i) (by omega)]
          refine lv_iconst (v := 2) hx hb dL_shop_87 (by decide +kernel) ?_
          refine kz_rdV (As := [.int (zc i), .int 2]) (rest := []) (b := x) ⟨hx, hb, hml, hown, hts⟩ (c_X3_parcel l G x u1 u2 u3 u4 V a S (zc i) 2) (cwV 2 hts gL_shop_X3_parcel rfl rfl rfl (by decide +kernel) ⟨Nat.le_of_ble_eq_true rfl, Nat.le_of_ble_eq_true rfl⟩) hK (hP.sub (cs := [xoW x (a 0) u1 u2 u3 u4 V, shW G a S]) [0, 1] rfl) (kz_recv hK hP (ci := 3) (q0 := 0) rfl rfl) rfl hl.1 rfl (Nat.le_of_ble_eq_true rfl) dL_shop_88 ⟨Nat.le_of_ble_eq_true rfl, Nat.le_of_ble_eq_true rfl⟩ ?_
          refine lv_aload_n hx hb dL_shop_91 rfl (lv_at hl 5 rfl) ?_
          refine lv_iload hx hb dL_shop_92 (lv_at hl 2 rfl) ?_
          refine va_iald (f := zq) hx hb hK.1 hP 13 0 rfl rfl (vp_in_nI (n := i) (N := 64) (by omega) (by decide)) dL_shop_94 ?_
          refine lv_topi (fun y_105 ey_106 => ?_)
          obtain rfl : y_105 = (zq i) := by rw [ey_106, kz_nI_clamp (n := i) (by omega)]
          refine lv_sipush (v := 1000) hx hb dL_shop_95 (by decide +kernel) ?_
          refine lv_idiv hx hb dL_shop_98 (by decide +kernel) ?_
          refine lv_icmp_ne (tgt := 201) hx hb dL_shop_99 (by decide) (fun c => absurd c (by exact fun z => z (q2))) (fun c_107 => ?_)
          refine lv_aload_n hx hb dL_shop_102 rfl (lv_at hl 3 rfl) ?_
          refine lv_aload_n hx hb dL_shop_103 rfl (lv_at hl 6 rfl) ?_
          refine lv_iload hx hb dL_shop_104 (lv_at hl 2 rfl) ?_
          refine va_iald (f := zc) hx hb hK.1 hP 14 0 rfl rfl (vp_in_nI (n := i) (N := 64) (by omega) (by decide)) dL_shop_106 ?_
          refine lv_topi (fun y_108 ey_109 => ?_)
          obtain rfl : y_108 = (zc i) := by rw [ey_109, kz_nI_clamp (n := i) (by omega)]
          refine lv_iconst (v := 3) hx hb dL_shop_107 (by decide +kernel) ?_
          refine kz_rdV (As := [.int (zc i), .int 3]) (rest := []) (b := x) ⟨hx, hb, hml, hown, hts⟩ (c_X3_parcel l G x u1 u2 u3 u4 V a S (zc i) 3) (cwV 2 hts gL_shop_X3_parcel rfl rfl rfl (by decide +kernel) ⟨Nat.le_of_ble_eq_true rfl, Nat.le_of_ble_eq_true rfl⟩) hK (hP.sub (cs := [xoW x (a 0) u1 u2 u3 u4 V, shW G a S]) [0, 1] rfl) (kz_recv hK hP (ci := 3) (q0 := 0) rfl rfl) rfl hl.1 rfl (Nat.le_of_ble_eq_true rfl) dL_shop_108 ⟨Nat.le_of_ble_eq_true rfl, Nat.le_of_ble_eq_true rfl⟩ ?_
          refine lv_aload_n hx hb dL_shop_111 rfl (lv_at hl 4 rfl) ?_
          refine lv_iload hx hb dL_shop_112 (lv_at hl 2 rfl) ?_
          refine va_iald (f := zp) hx hb hK.1 hP 12 0 rfl rfl (vp_in_nI (n := i) (N := 64) (by omega) (by decide)) dL_shop_114 ?_
          refine lv_topi (fun y_110 ey_111 => ?_)
          obtain rfl : y_110 = (nI j) := by rw [ey_111, kz_nI_clamp (n := i) (by omega)]; exact ej
          refine lv_bipush (v := 8) hx hb dL_shop_115 (by decide +kernel) ?_
          refine lv_idiv hx hb dL_shop_117 (by decide +kernel) ?_
          refine lv_icmp_ne (tgt := 201) hx hb dL_shop_118 (by decide) (fun c => absurd c (by exact fun z => z (q3))) (fun c_112 => ?_)
          refine lv_aload_n hx hb dL_shop_121 rfl (lv_at hl 3 rfl) ?_
          refine lv_aload_n hx hb dL_shop_122 rfl (lv_at hl 6 rfl) ?_
          refine lv_iload hx hb dL_shop_123 (lv_at hl 2 rfl) ?_
          refine va_iald (f := zc) hx hb hK.1 hP 14 0 rfl rfl (vp_in_nI (n := i) (N := 64) (by omega) (by decide)) dL_shop_125 ?_
          refine lv_topi (fun y_113 ey_114 => ?_)
          obtain rfl : y_113 = (zc i) := by rw [ey_114, kz_nI_clamp (n := i) (by omega)]
          refine lv_iconst (v := 4) hx hb dL_shop_126 (by decide +kernel) ?_
          refine kz_rdV (As := [.int (zc i), .int 4]) (rest := []) (b := x) ⟨hx, hb, hml, hown, hts⟩ (c_X3_parcel l G x u1 u2 u3 u4 V a S (zc i) 4) (cwV 2 hts gL_shop_X3_parcel rfl rfl rfl (by decide +kernel) ⟨Nat.le_of_ble_eq_true rfl, Nat.le_of_ble_eq_true rfl⟩) hK (hP.sub (cs := [xoW x (a 0) u1 u2 u3 u4 V, shW G a S]) [0, 1] rfl) (kz_recv hK hP (ci := 3) (q0 := 0) rfl rfl) rfl hl.1 rfl (Nat.le_of_ble_eq_true rfl) dL_shop_127 ⟨Nat.le_of_ble_eq_true rfl, Nat.le_of_ble_eq_true rfl⟩ ?_
          refine lv_aload_n hx hb dL_shop_130 rfl (lv_at hl 4 rfl) ?_
          refine lv_iload hx hb dL_shop_131 (lv_at hl 2 rfl) ?_
          refine va_iald (f := zp) hx hb hK.1 hP 12 0 rfl rfl (vp_in_nI (n := i) (N := 64) (by omega) (by decide)) dL_shop_133 ?_
          refine lv_topi (fun y_115 ey_116 => ?_)
          obtain rfl : y_115 = (nI j) := by rw [ey_116, kz_nI_clamp (n := i) (by omega)]; exact ej
          refine lv_bipush (v := 8) hx hb dL_shop_134 (by decide +kernel) ?_
          refine lv_irem hx hb dL_shop_136 (by decide +kernel) ?_
          refine kz_topR ?_
          refine lv_icmp_ne (tgt := 201) hx hb dL_shop_137 (by decide) (fun c => absurd c (by exact fun z => z (q4))) (fun c_117 => ?_)
          refine lv_aload_n hx hb dL_shop_140 rfl (lv_at hl 3 rfl) ?_
          refine lv_aload_n hx hb dL_shop_141 rfl (lv_at hl 6 rfl) ?_
          refine lv_iload hx hb dL_shop_142 (lv_at hl 2 rfl) ?_
          refine va_iald (f := zc) hx hb hK.1 hP 14 0 rfl rfl (vp_in_nI (n := i) (N := 64) (by omega) (by decide)) dL_shop_144 ?_
          refine lv_topi (fun y_118 ey_119 => ?_)
          obtain rfl : y_118 = (zc i) := by rw [ey_119, kz_nI_clamp (n := i) (by omega)]
          refine lv_iconst (v := 5) hx hb dL_shop_145 (by decide +kernel) ?_
          refine kz_rdV (As := [.int (zc i), .int 5]) (rest := []) (b := x) ⟨hx, hb, hml, hown, hts⟩ (c_X3_parcel l G x u1 u2 u3 u4 V a S (zc i) 5) (cwV 2 hts gL_shop_X3_parcel rfl rfl rfl (by decide +kernel) ⟨Nat.le_of_ble_eq_true rfl, Nat.le_of_ble_eq_true rfl⟩) hK (hP.sub (cs := [xoW x (a 0) u1 u2 u3 u4 V, shW G a S]) [0, 1] rfl) (kz_recv hK hP (ci := 3) (q0 := 0) rfl rfl) rfl hl.1 rfl (Nat.le_of_ble_eq_true rfl) dL_shop_146 ⟨Nat.le_of_ble_eq_true rfl, Nat.le_of_ble_eq_true rfl⟩ ?_
          refine lv_aload_n hx hb dL_shop_149 rfl (lv_at hl 5 rfl) ?_
          refine lv_aload hx hb dL_shop_150 (lv_at hl 13 rfl) ?_
          refine lv_iload hx hb dL_shop_152 (lv_at hl 2 rfl) ?_
          refine lv_aload hx hb dL_shop_154 (lv_at hl 13 rfl) ?_
          refine lv_iconst (v := 5) hx hb dL_shop_156 (by decide +kernel) ?_
          refine va_iald (f := zt) hx hb hK.1 hP 21 0 rfl rfl (vp_in_nI (n := 5) (N := 10) (by decide) (by decide)) dL_shop_157 ?_
          refine lv_topi (fun y_120 ey_121 => ?_)
          obtain rfl : y_120 = (nI D) := by rw [ey_121]; exact (show (zt 5) = (nI D) from e5)
          refine kz_rdS (As := [.ref nq, .ref nt, .int (nI i), .int (nI D)]) (rest := [.int (X3_parcel_r V S (zc i) 5)]) ⟨hx, hb, hml, hown, hts⟩ (c_L_fee l G nq zq nt zt i (nI D) (by omega)) (va_cwS 4 hts gL_shop_L_fee rfl rfl rfl (by decide +kernel) ⟨Nat.le_of_ble_eq_true rfl, Nat.le_of_ble_eq_true rfl⟩) hK (hP.sub (cs := [[(nq, .inl (G.2.1, 64, .inl zq))], [(nt, .inl (G.2.1, 10, .inl zt))]]) [3, 11] rfl) rfl hl.1 rfl (Nat.le_of_ble_eq_true rfl) dL_shop_158 ⟨Nat.le_of_ble_eq_true rfl, Nat.le_of_ble_eq_true rfl⟩ ?_
          refine lv_icmp_ne (tgt := 201) hx hb dL_shop_161 (by decide) (fun c => absurd c (by exact fun z => z (q5))) (fun c_122 => ?_)
          refine lv_aload_n hx hb dL_shop_164 rfl (lv_at hl 3 rfl) ?_
          refine lv_aload_n hx hb dL_shop_165 rfl (lv_at hl 4 rfl) ?_
          refine lv_iload hx hb dL_shop_166 (lv_at hl 2 rfl) ?_
          refine va_iald (f := zp) hx hb hK.1 hP 12 0 rfl rfl (vp_in_nI (n := i) (N := 64) (by omega) (by decide)) dL_shop_168 ?_
          refine lv_topi (fun y_123 ey_124 => ?_)
          obtain rfl : y_123 = (nI j) := by rw [ey_124, kz_nI_clamp (n := i) (by omega)]; exact ej
          refine lv_bipush (v := 8) hx hb dL_shop_169 (by decide +kernel) ?_
          refine lv_idiv hx hb dL_shop_171 (by decide +kernel) ?_
          refine lv_aload_n hx hb dL_shop_172 rfl (lv_at hl 4 rfl) ?_
          refine lv_iload hx hb dL_shop_173 (lv_at hl 2 rfl) ?_
          refine va_iald (f := zp) hx hb hK.1 hP 12 0 rfl rfl (vp_in_nI (n := i) (N := 64) (by omega) (by decide)) dL_shop_175 ?_
          refine lv_topi (fun y_125 ey_126 => ?_)
          obtain rfl : y_125 = (nI j) := by rw [ey_126, kz_nI_clamp (n := i) (by omega)]; exact ej
          refine lv_bipush (v := 8) hx hb dL_shop_176 (by decide +kernel) ?_
          refine lv_irem hx hb dL_shop_178 (by decide +kernel) ?_
          refine kz_topR ?_
          refine kz_rdV (As := [.int ((nI j) / 8), .int (kz_rem (nI j) 8)]) (rest := []) (b := x) ⟨hx, hb, hml, hown, hts⟩ (c_X3_codeAt l G x u1 u2 u3 u4 V a S ((nI j) / 8) (kz_rem (nI j) 8)) (cwV 2 hts gL_shop_X3_codeAt rfl rfl rfl (by decide +kernel) ⟨Nat.le_of_ble_eq_true rfl, Nat.le_of_ble_eq_true rfl⟩) hK (hP.sub (cs := [xoW x (a 0) u1 u2 u3 u4 V, shW G a S]) [0, 1] rfl) (kz_recv hK hP (ci := 3) (q0 := 0) rfl rfl) rfl hl.1 rfl (Nat.le_of_ble_eq_true rfl) dL_shop_179 ⟨Nat.le_of_ble_eq_true rfl, Nat.le_of_ble_eq_true rfl⟩ ?_
          refine lv_aload_n hx hb dL_shop_182 rfl (lv_at hl 6 rfl) ?_
          refine lv_iload hx hb dL_shop_183 (lv_at hl 2 rfl) ?_
          refine va_iald (f := zc) hx hb hK.1 hP 14 0 rfl rfl (vp_in_nI (n := i) (N := 64) (by omega) (by decide)) dL_shop_185 ?_
          refine lv_topi (fun y_127 ey_128 => ?_)
          obtain rfl : y_127 = (zc i) := by rw [ey_128, kz_nI_clamp (n := i) (by omega)]
          refine lv_icmp_ne (tgt := 201) hx hb dL_shop_186 (by decide) (fun c => absurd c (by exact fun z => z (q6))) (fun c_129 => ?_)
          refine lv_aload_n hx hb dL_shop_189 rfl (lv_at hl 3 rfl) ?_
          refine lv_aload_n hx hb dL_shop_190 rfl (lv_at hl 6 rfl) ?_
          refine lv_iload hx hb dL_shop_191 (lv_at hl 2 rfl) ?_
          refine va_iald (f := zc) hx hb hK.1 hP 14 0 rfl rfl (vp_in_nI (n := i) (N := 64) (by omega) (by decide)) dL_shop_193 ?_
          refine lv_topi (fun y_130 ey_131 => ?_)
          obtain rfl : y_130 = (zc i) := by rw [ey_131, kz_nI_clamp (n := i) (by omega)]
          refine kz_rdV (As := [.int (zc i)]) (rest := []) (b := x) ⟨hx, hb, hml, hown, hts⟩ (c_X3_isCode l G x (a 0) u1 u2 u3 u4 V (zc i)) (cwV 1 hts gL_shop_X3_isCode rfl rfl rfl (by decide +kernel) ⟨Nat.le_of_ble_eq_true rfl, Nat.le_of_ble_eq_true rfl⟩) hK (hP.sub (cs := [xoW x (a 0) u1 u2 u3 u4 V]) [0] rfl) (kz_recv hK hP (ci := 3) (q0 := 0) rfl rfl) rfl hl.1 rfl (Nat.le_of_ble_eq_true rfl) dL_shop_194 ⟨Nat.le_of_ble_eq_true rfl, Nat.le_of_ble_eq_true rfl⟩ ?_
          refine lv_iconst (v := 1) hx hb dL_shop_197 (by decide +kernel) ?_
          refine lv_icmp_eq (tgt := 203) hx hb dL_shop_198 (by decide) (fun c_132 => ?_) (fun c => absurd c (by exact fun z => z (q7)))
          refine lv_iinc (v := (nI (i + 1))) (lv' := [(13, .int (nI (i + 1))), (12, .int (y0 + (L_fee_r zq zt i (nI D)))), (11, .int (x0 + 1)), (0, .ref x), (1, .ref np), (2, .ref nq), (3, .ref nc), (4, .ref nl), (5, .ref nv), (6, .ref ng), (7, .ref nu), (8, .ref nf), (9, .ref nk), (10, .ref nt)]) hx hb dL_shop_203 hl (k := 2) rfl (nI_1 _) (by decide) rfl (fun ls hl => ?_)
          refine lv_goto (tgt := 9) hx hb dL_shop_206 (by decide) ?_
          exact ih9_2 (i + 1) (x0 + 1) (y0 + (L_fee_r zq zt i (nI D))) (by omega) (by omega) (by rw [hxx]; exact kz_cn_t (P := fun i => ¬ zp i < 0) c_94) (by rw [hyy]; exact kz_sp_t (P := fun i => ¬ zp i < 0) (f := fun i => L_fee_r zq zt i (nI D)) c_94) ls (lv_sub hl [0, 1, 2, 3, 4, 5, 6, 7, 8, 9, 10, 11, 12, 13] rfl)
  exact L9_1 _ 0 0 0 (Nat.lt_succ_self _) (Nat.zero_le _) rfl rfl ls (lv_sub hl [0, 1, 2, 3, 4, 5, 6, 7, 8, 9, 10, 11, 12, 13] rfl)
